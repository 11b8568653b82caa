section PREL
variable {d bd lg N : Nat} {T : pT} {M M0 M1 M2 : pM} {F F1 : pF} {bs : Int → Int} {p z e0 b c y st s x er n1 : Int} {k i m n j : Nat} {kc : Nat → Int}
noncomputable def tkn (bs : Int → Int) (z : Int) (i : Nat) : TKn := (spn bs z i, t_kd bs z (spn bs z i) (t_end bs z (spn bs z i)), t_cs bs z (spn bs z i) (t_end bs z (spn bs z i)))
noncomputable def tks (bs : Int → Int) (z : Int) : Nat → Nat → List TKn
  | 0, _ => []
  | l + 1, i => tkn bs z i :: tks bs z l (i + 1)
theorem psr_ge : ∀ (n : Nat) (st : Int) (i : Nat), i ≤ (psr kc n st i).2
  | 0, st, i => Nat.le_refl _
  | n + 1, st, i => by
    rw [psr]
    split
    · exact Nat.le_refl _
    · split
      · exact Nat.le_refl _
      · have := psr_ge n (gk st (kc i)) (i + 1); omega
theorem kd16 : t_kd bs z p e0 < 16 := t_kf_rg 16 0 (by omega)
theorem rd_psr (hz : 0 ≤ z ∧ z ≤ 2000) : ∀ (n i : Nat) (st : Int) (Q : List TKn), n + i = 400 → 0 ≤ st ∧ st ≤ 9 →
    (t_read bs z n st (spn bs z i) Q).2 = (if (psr (kcn bs z) (n + 1) st i).1 = true then -1 else spn bs z (psr (kcn bs z) (n + 1) st i).2) ∧ (t_read bs z n st (spn bs z i) Q).1 = Q ++ tks bs z ((psr (kcn bs z) (n + 1) st i).2 - i) i
  | 0, i, st, Q, hi, hs => by
    obtain rfl : i = 400 := by omega
    have hk : kcn bs z 400 = 22 ∨ kcn bs z 400 = 23 := by
      unfold kcn
      by_cases c : z ≤ spn bs z 400
      · rw [if_pos c]; exact Or.inl rfl
      · rw [if_neg c, if_pos rfl]; exact Or.inr rfl
    have h22 : kcn bs z 400 = 22 ↔ z ≤ spn bs z 400 := by
      unfold kcn
      by_cases c : z ≤ spn bs z 400
      · rw [if_pos c]; exact ⟨fun _ => c, fun _ => rfl⟩
      · rw [if_neg c, if_pos rfl]; exact ⟨fun q => absurd q (by decide), fun q => absurd q c⟩
    rw [t_read, psr]
    by_cases c : st = 0 ∧ kcn bs z 400 = 22
    · rw [if_pos c]
      refine ⟨?_, ?_⟩
      · show (if z ≤ spn bs z 400 ∧ st = 0 then -1 else spn bs z 400) = -1
        exact if_pos ⟨h22.mp c.2, c.1⟩
      · show Q = Q ++ tks bs z (400 - 400) 400
        rw [Nat.sub_self, tks, List.append_nil]
    · rw [if_neg c, if_pos (gk_x hs hk)]
      refine ⟨?_, ?_⟩
      · show (if z ≤ spn bs z 400 ∧ st = 0 then -1 else spn bs z 400) = spn bs z 400
        exact if_neg (fun q => c ⟨q.2, h22.mpr q.1⟩)
      · show Q = Q ++ tks bs z (400 - 400) 400
        rw [Nat.sub_self, tks, List.append_nil]
  | n + 1, i, st, Q, hi, hs => by
    have h22 : kcn bs z i = 22 ↔ z ≤ spn bs z i := by
      unfold kcn
      by_cases c : z ≤ spn bs z i
      · rw [if_pos c]; exact ⟨fun _ => c, fun _ => rfl⟩
      · rw [if_neg c, if_neg (by omega)]
        refine ⟨fun q => ?_, fun q => absurd q c⟩
        unfold mcd at q
        exfalso
        split at q
        · omega
        · split at q
          · omega
          · split at q <;> omega
    rw [t_read]
    by_cases c1 : spn bs z i < z
    · have hkc : kcn bs z i = mcd (t_kd bs z (spn bs z i) (t_end bs z (spn bs z i))) := by
        unfold kcn; rw [if_neg (by omega), if_neg (by omega)]
      have hg := gk_b (k := t_kd bs z (spn bs z i) (t_end bs z (spn bs z i))) kd16 hs
      rw [← hkc] at hg
      have hp : psr (kcn bs z) (n + 1 + 1) st i = if g_b st (t_kd bs z (spn bs z i) (t_end bs z (spn bs z i))) = 10 then (false, i) else psr (kcn bs z) (n + 1) (g_b st (t_kd bs z (spn bs z i) (t_end bs z (spn bs z i)))) (i + 1) := by
        rw [psr, if_neg (fun q => by have := h22.mp q.2; omega), hg]
      rw [if_pos c1, hp]
      by_cases c2 : g_b st (t_kd bs z (spn bs z i) (t_end bs z (spn bs z i))) = 10
      · rw [if_pos c2, if_pos c2]
        refine ⟨rfl, ?_⟩
        show Q = Q ++ tks bs z (i - i) i
        rw [Nat.sub_self, tks, List.append_nil]
      · rw [if_neg c2, if_neg c2]
        have hbr := g_b_rg (k := t_kd bs z (spn bs z i) (t_end bs z (spn bs z i))) (st := st)
        obtain ⟨e1, e2⟩ := rd_psr hz n (i + 1) (g_b st (t_kd bs z (spn bs z i) (t_end bs z (spn bs z i)))) (Q ++ [tkn bs z i]) (by omega) (by omega)
        refine ⟨e1, e2.trans ?_⟩
        have hge := psr_ge (kc := kcn bs z) (n + 1) (g_b st (t_kd bs z (spn bs z i) (t_end bs z (spn bs z i)))) (i + 1)
        rw [List.append_assoc, show (psr (kcn bs z) (n + 1) (g_b st (t_kd bs z (spn bs z i) (t_end bs z (spn bs z i)))) (i + 1)).2 - i = ((psr (kcn bs z) (n + 1) (g_b st (t_kd bs z (spn bs z i) (t_end bs z (spn bs z i)))) (i + 1)).2 - (i + 1)) + 1 by omega, tks]
        rfl
    · rw [if_neg c1]
      have hk := h22.mpr (by omega)
      by_cases c : st = 0
      · have hp : psr (kcn bs z) (n + 1 + 1) st i = (true, i) := by rw [psr, if_pos ⟨c, hk⟩]
        rw [hp]
        refine ⟨?_, ?_⟩
        · show (if z ≤ spn bs z i ∧ st = 0 then -1 else spn bs z i) = -1
          exact if_pos ⟨by omega, c⟩
        · show Q = Q ++ tks bs z (i - i) i
          rw [Nat.sub_self, tks, List.append_nil]
      · have hp : psr (kcn bs z) (n + 1 + 1) st i = (false, i) := psr_no (Or.inl c) (gk_x hs (Or.inl hk))
        rw [hp]
        refine ⟨?_, ?_⟩
        · show (if z ≤ spn bs z i ∧ st = 0 then -1 else spn bs z i) = spn bs z i
          exact if_neg (fun q => c q.2)
        · show Q = Q ++ tks bs z (i - i) i
          rw [Nat.sub_self, tks, List.append_nil]
theorem tok_psr (hz : 0 ≤ z ∧ z ≤ 2000) : (z_tok bs z).2 = (if (psr (kcn bs z) 401 0 0).1 = true then -1 else spn bs z (psr (kcn bs z) 401 0 0).2) ∧ (z_tok bs z).1 = tks bs z (psr (kcn bs z) 401 0 0).2 0 := by
  have h := rd_psr (bs := bs) hz 400 0 0 [] rfl (by omega)
  refine ⟨h.1, h.2.trans ?_⟩
  rw [List.nil_append, Nat.sub_zero]
theorem psr_ok : ∀ (n : Nat) (st : Int) (i : Nat), (psr kc n st i).1 = true → kc (psr kc n st i).2 = 22
  | 0, st, i, h => by rw [psr] at h; exact absurd h Bool.false_ne_true
  | n + 1, st, i, h => by
    rw [psr] at h ⊢
    by_cases c : st = 0 ∧ kc i = 22
    · rw [if_pos c]; exact c.2
    · rw [if_neg c] at h ⊢
      by_cases c2 : gk st (kc i) = 10
      · rw [if_pos c2] at h; exact absurd h Bool.false_ne_true
      · rw [if_neg c2] at h ⊢; exact psr_ok n _ _ h
/-- a name's cell -/
theorem nb_end {l4 l5 : Slot} {l1 : Slot} (hY : YT T F bd lg N) (hG : YG M) (hc : 0 ≤ c ∧ c ≤ 200) (hn : 0 ≤ n1 ∧ n1 ≤ 1000) {e : Nat} (he : 2 ≤ e) : R e m_X8_namedBy 94 [.val (.ref 127), l1, .val (.int (iI c)), .val (.int (iI n1)), l4, l5] [] T M F = some (.inl (some (.int (iI (q_nam c n1)))), T, M, F) := by
  unfold q_nam
  by_cases c1 : c < 0 ∨ 11 ≤ c
  · rw [if_pos c1]
    clear hY hG
    simp (disch := omega) only [x_X8_namedBy_94, x_X8_namedBy_95, x_X8_namedBy_97, x_X8_namedBy_100, x_X8_namedBy_101, x_X8_namedBy_102, x_X8_namedBy_103, x_X8_namedBy_106, x_X8_namedBy_109, x_X8_namedBy_112, x_X8_namedBy_113, x_X8_namedBy_116, x_X8_namedBy_117, x_X8_namedBy_120, x_X8_namedBy_121, x_X8_namedBy_122, x_X8_namedBy_123, x_X8_namedBy_124, x_X8_namedBy_125, x_X8_namedBy_126, List.length_cons, List.length_nil, Nat.reduceLeDiff, Nat.zero_add, iI_add, iI_sub, iI_mul, iI_neg, iI_lt, iI_le, iI_eq, jI_iI, B_True, B_False, B_t, B_f, ck_True, gd_True, cb_v, cb_n, p_mv_rw, p_fv_rw, p_rv_some, pA_1, pA_90, pA_92, pA_3, pA_2, pA_93, pA_4, pA_91, pA_95, pS_i, pW_i, pZ_0, pZ_1, pZ_b, bI_e0, u1_s, u1_n, uA_s, uA_n, true_and, and_true, not_true_eq_false, not_false_eq_true, eq_self, iI_z, al1, al2, al3, al4, al90, al91, al92, al93, al95, Int.cast_ofNat_Int, Nat.reduceAdd, Int.reduceNeg, Int.reduceAdd, Int.reduceSub, Int.reduceMul, Int.reduceLT, Int.reduceLE, Int.reduceGT, Int.reduceGE, Int.reduceEq, Int.reduceNe, Nat.reduceEqDiff, Int.zero_add, Int.add_zero, p_ty0, p_ty1, p_ty2, p_ty3, p_ty4, p_ty5, p_ty6, p_ty7, p_ty8, p_ty9, p_ty10, p_ty11, gd_t, B_t, B_f]
  · rw [if_neg c1]
    have hsz := y_sizeOf (d := e) (T := T) (M := M) (F := F) (n := c) he (by omega)
    have hq : 0 ≤ q_csz c ∧ q_csz c ≤ 100 := by unfold q_csz; split <;> omega
    have hin := y_isIn (d := e) (T := T) (M := M) (F := F) (n := n1) (a := 1) (c := q_csz c) (by omega) (by omega) (by omega) (by omega)
    have h131 := hG.2.2.1 c hc.1 (by omega)
    obtain ⟨ty127, ty128, fy1, ty129, fy4, ty130, fy5, ty131, fy6, ty132, fy7, ty133, fy8, ty136, fy15, ty137, fy16, ty138, fy17, ty139, fy18, ty140, fy19, ty141, fy20, ty142, fy21, ty143, fy22, hbd, tybd, fy9, hlg, tylg, fy13, hN⟩ := hY
    by_cases c2 : n1 < 1 ∨ q_csz c < n1
    · rw [if_pos c2]
      rw [bI_f (by omega)] at hin
      clear hG
      simp (disch := omega) only [x_X8_namedBy_94, x_X8_namedBy_95, x_X8_namedBy_97, x_X8_namedBy_100, x_X8_namedBy_101, x_X8_namedBy_102, x_X8_namedBy_103, x_X8_namedBy_106, x_X8_namedBy_109, x_X8_namedBy_112, x_X8_namedBy_113, x_X8_namedBy_116, x_X8_namedBy_117, x_X8_namedBy_120, x_X8_namedBy_121, x_X8_namedBy_122, x_X8_namedBy_123, x_X8_namedBy_124, x_X8_namedBy_125, x_X8_namedBy_126, List.length_cons, List.length_nil, Nat.reduceLeDiff, Nat.zero_add, iI_add, iI_sub, iI_mul, iI_neg, iI_lt, iI_le, iI_eq, jI_iI, B_True, B_False, B_t, B_f, ck_True, gd_True, cb_v, cb_n, p_mv_rw, p_fv_rw, p_rv_some, pA_1, pA_90, pA_92, pA_3, pA_2, pA_93, pA_4, pA_91, pA_95, pS_i, pW_i, pZ_0, pZ_1, pZ_b, bI_e0, u1_s, u1_n, uA_s, uA_n, true_and, and_true, not_true_eq_false, not_false_eq_true, eq_self, iI_z, al1, al2, al3, al4, al90, al91, al92, al93, al95, Int.cast_ofNat_Int, Nat.reduceAdd, Int.reduceNeg, Int.reduceAdd, Int.reduceSub, Int.reduceMul, Int.reduceLT, Int.reduceLE, Int.reduceGT, Int.reduceGE, Int.reduceEq, Int.reduceNe, Nat.reduceEqDiff, Int.zero_add, Int.add_zero, p_ty0, p_ty1, p_ty2, p_ty3, p_ty4, p_ty5, p_ty6, p_ty7, p_ty8, p_ty9, p_ty10, p_ty11, ty127, ty128, fy1, ty129, fy4, ty130, fy5, ty131, fy6, ty132, fy7, ty133, fy8, ty136, fy15, ty137, fy16, ty138, fy17, ty139, fy18, ty140, fy19, ty141, fy20, ty142, fy21, ty143, fy22, tybd, fy9, tylg, fy13, hsz, hin, gd_t, B_t, B_f]
    · rw [if_neg c2]
      rw [bI_t (by omega)] at hin
      clear hG
      simp (disch := omega) only [x_X8_namedBy_94, x_X8_namedBy_95, x_X8_namedBy_97, x_X8_namedBy_100, x_X8_namedBy_101, x_X8_namedBy_102, x_X8_namedBy_103, x_X8_namedBy_106, x_X8_namedBy_109, x_X8_namedBy_112, x_X8_namedBy_113, x_X8_namedBy_116, x_X8_namedBy_117, x_X8_namedBy_120, x_X8_namedBy_121, x_X8_namedBy_122, x_X8_namedBy_123, x_X8_namedBy_124, x_X8_namedBy_125, x_X8_namedBy_126, List.length_cons, List.length_nil, Nat.reduceLeDiff, Nat.zero_add, iI_add, iI_sub, iI_mul, iI_neg, iI_lt, iI_le, iI_eq, jI_iI, B_True, B_False, B_t, B_f, ck_True, gd_True, cb_v, cb_n, p_mv_rw, p_fv_rw, p_rv_some, pA_1, pA_90, pA_92, pA_3, pA_2, pA_93, pA_4, pA_91, pA_95, pS_i, pW_i, pZ_0, pZ_1, pZ_b, bI_e0, u1_s, u1_n, uA_s, uA_n, true_and, and_true, not_true_eq_false, not_false_eq_true, eq_self, iI_z, al1, al2, al3, al4, al90, al91, al92, al93, al95, Int.cast_ofNat_Int, Nat.reduceAdd, Int.reduceNeg, Int.reduceAdd, Int.reduceSub, Int.reduceMul, Int.reduceLT, Int.reduceLE, Int.reduceGT, Int.reduceGE, Int.reduceEq, Int.reduceNe, Nat.reduceEqDiff, Int.zero_add, Int.add_zero, p_ty0, p_ty1, p_ty2, p_ty3, p_ty4, p_ty5, p_ty6, p_ty7, p_ty8, p_ty9, p_ty10, p_ty11, ty127, ty128, fy1, ty129, fy4, ty130, fy5, ty131, fy6, ty132, fy7, ty133, fy8, ty136, fy15, ty137, fy16, ty138, fy17, ty139, fy18, ty140, fy19, ty141, fy20, ty142, fy21, ty143, fy22, tybd, fy9, tylg, fy13, hsz, hin, h131, gd_t, B_t, B_f]
theorem y_named (hY : YT T F bd lg N) (hG : YG M) (hS : YTp M bs z) (hp : 0 ≤ p) (he0 : p < e0 ∧ e0 ≤ z) (hL : t_L (t_b bs z p)) (hj : j ≤ 400) (h142 : M 142 (j : Int) = p) (h143 : M 143 (j : Int) = e0 - p) (hd : 3 ≤ d) :
    callD d m_X8_namedBy [.ref 127, .int (iI (j : Int))] T M F = some (.inl (some (.int (iI (t_cs bs z p e0)))), T, M, F) := by
  refine callD_go 2 hd rfl (fun e he => ?_)
  show R e m_X8_namedBy 0 [.val (.ref 127), .val (.int (iI (j : Int))), .unset, .unset, .unset, .unset] [] T M F = _
  obtain ⟨t1, t2, t3, t4⟩ := hS
  have hb0 : t_b bs z p = bs p := if_pos (by omega)
  rw [hb0] at hL
  have hL' := hL
  unfold t_L at hL'
  have B := fun x : Int => t4 x
  have ty := hY
  obtain ⟨ty127, ty128, fy1, ty129, fy4, ty130, fy5, ty131, fy6, ty132, fy7, ty133, fy8, ty136, fy15, ty137, fy16, ty138, fy17, ty139, fy18, ty140, fy19, ty141, fy20, ty142, fy21, ty143, fy22, hbd, tybd, fy9, hlg, tylg, fy13, hN⟩ := ty
  have fin := fun (n1 : Int) (hn : 0 ≤ n1 ∧ n1 ≤ 1000) (l4 l5 : Slot) => nb_end (l1 := .val (.int (iI (j : Int)))) (l4 := l4) (l5 := l5) (c := bs p - 97) (n1 := n1) hY hG (by omega) hn he
  have q0 : q_nam (bs p - 97) 0 = -1 := by
    unfold q_nam; split
    · rfl
    · rw [if_pos (by omega)]
  have qbig : ∀ n1 : Int, 100 ≤ n1 → q_nam (bs p - 97) n1 = -1 := fun n1 h => by
    unfold q_nam; split
    · rfl
    · rw [if_pos]
      have : q_csz (bs p - 97) ≤ 11 := by unfold q_csz; split <;> omega
      omega
  have isn := fun x : Int => fun (h : -300 ≤ x ∧ x ≤ 300) => y_isIn (d := e) (T := T) (M := M) (F := F) (n := x) (a := 0) (c := 9) (by omega) (by omega) (by omega) (by omega)
  have b1 := B (p + 1)
  have b2 := B (p + 2)
  have b3 := B (p + 3)
  have b4 := B (p + 4)
  unfold t_cs
  by_cases c1 : e0 - p = 1
  · rw [if_neg (fun q => by have := q.1; omega), if_neg (fun q => by have := q.1; omega)]
    have f1 := fin 0 (by omega)
    rw [q0] at f1
    clear hG t4 B fin q0 qbig isn hY
    simp (disch := omega) only [x_X8_namedBy_0, x_X8_namedBy_1, x_X8_namedBy_4, x_X8_namedBy_5, x_X8_namedBy_8, x_X8_namedBy_9, x_X8_namedBy_10, x_X8_namedBy_11, x_X8_namedBy_13, x_X8_namedBy_14, x_X8_namedBy_15, x_X8_namedBy_16, x_X8_namedBy_17, x_X8_namedBy_18, x_X8_namedBy_20, x_X8_namedBy_22, x_X8_namedBy_23, x_X8_namedBy_26, x_X8_namedBy_27, x_X8_namedBy_28, List.length_cons, List.length_nil, Nat.reduceLeDiff, Nat.zero_add, iI_add, iI_sub, iI_mul, iI_neg, iI_lt, iI_le, iI_eq, jI_iI, B_True, B_False, B_t, B_f, ck_True, gd_True, cb_v, cb_n, p_mv_rw, p_fv_rw, p_rv_some, pA_1, pA_90, pA_92, pA_3, pA_2, pA_93, pA_4, pA_91, pA_95, pS_i, pW_i, pZ_0, pZ_1, pZ_b, bI_e0, u1_s, u1_n, uA_s, uA_n, true_and, and_true, not_true_eq_false, not_false_eq_true, eq_self, iI_z, al1, al2, al3, al4, al90, al91, al92, al93, al95, Int.cast_ofNat_Int, Nat.reduceAdd, Int.reduceNeg, Int.reduceAdd, Int.reduceSub, Int.reduceMul, Int.reduceLT, Int.reduceLE, Int.reduceGT, Int.reduceGE, Int.reduceEq, Int.reduceNe, Nat.reduceEqDiff, Int.zero_add, Int.add_zero, p_ty0, p_ty1, p_ty2, p_ty3, p_ty4, p_ty5, p_ty6, p_ty7, p_ty8, p_ty9, p_ty10, p_ty11, ty127, ty128, fy1, ty129, fy4, ty130, fy5, ty131, fy6, ty132, fy7, ty133, fy8, ty136, fy15, ty137, fy16, ty138, fy17, ty139, fy18, ty140, fy19, ty141, fy20, ty142, fy21, ty143, fy22, tybd, fy9, tylg, fy13, t1, h142, h143, c1, f1, B_t, B_f]
  have d1 : t_b bs z (p + 1) = bs (p + 1) := if_pos (by omega)
  rw [d1]
  have i1 := isn (bs (p + 1) - 48) (by omega)
  by_cases g1 : t_D (bs (p + 1))
  · have g1' := g1
    unfold t_D at g1'
    rw [bI_t (by omega)] at i1
    by_cases z1 : bs (p + 1) = 48
    · rw [if_neg (fun q => q.2.1 z1), if_neg (fun q => q.2.1 z1)]
      clear hG t4 B fin q0 qbig isn hY
      simp (disch := omega) only [x_X8_namedBy_0, x_X8_namedBy_1, x_X8_namedBy_4, x_X8_namedBy_5, x_X8_namedBy_8, x_X8_namedBy_9, x_X8_namedBy_10, x_X8_namedBy_11, x_X8_namedBy_13, x_X8_namedBy_14, x_X8_namedBy_15, x_X8_namedBy_16, x_X8_namedBy_17, x_X8_namedBy_18, x_X8_namedBy_20, x_X8_namedBy_22, x_X8_namedBy_23, x_X8_namedBy_26, x_X8_namedBy_27, x_X8_namedBy_28, x_X8_namedBy_31, x_X8_namedBy_32, x_X8_namedBy_35, x_X8_namedBy_36, x_X8_namedBy_39, x_X8_namedBy_40, x_X8_namedBy_41, x_X8_namedBy_43, x_X8_namedBy_44, x_X8_namedBy_45, x_X8_namedBy_47, x_X8_namedBy_48, x_X8_namedBy_50, x_X8_namedBy_52, x_X8_namedBy_53, x_X8_namedBy_55, x_X8_namedBy_58, x_X8_namedBy_61, x_X8_namedBy_63, x_X8_namedBy_64, x_X8_namedBy_67, x_X8_namedBy_69, x_X8_namedBy_72, x_X8_namedBy_73, x_X8_namedBy_75, x_X8_namedBy_78, x_X8_namedBy_79, List.length_cons, List.length_nil, Nat.reduceLeDiff, Nat.zero_add, iI_add, iI_sub, iI_mul, iI_neg, iI_lt, iI_le, iI_eq, jI_iI, B_True, B_False, B_t, B_f, ck_True, gd_True, cb_v, cb_n, p_mv_rw, p_fv_rw, p_rv_some, pA_1, pA_90, pA_92, pA_3, pA_2, pA_93, pA_4, pA_91, pA_95, pS_i, pW_i, pZ_0, pZ_1, pZ_b, bI_e0, u1_s, u1_n, uA_s, uA_n, true_and, and_true, not_true_eq_false, not_false_eq_true, eq_self, iI_z, al1, al2, al3, al4, al90, al91, al92, al93, al95, Int.cast_ofNat_Int, Nat.reduceAdd, Int.reduceNeg, Int.reduceAdd, Int.reduceSub, Int.reduceMul, Int.reduceLT, Int.reduceLE, Int.reduceGT, Int.reduceGE, Int.reduceEq, Int.reduceNe, Nat.reduceEqDiff, Int.zero_add, Int.add_zero, p_ty0, p_ty1, p_ty2, p_ty3, p_ty4, p_ty5, p_ty6, p_ty7, p_ty8, p_ty9, p_ty10, p_ty11, ty127, ty128, fy1, ty129, fy4, ty130, fy5, ty131, fy6, ty132, fy7, ty133, fy8, ty136, fy15, ty137, fy16, ty138, fy17, ty139, fy18, ty140, fy19, ty141, fy20, ty142, fy21, ty143, fy22, tybd, fy9, tylg, fy13, t1, h142, h143, i1, gd_t, B_t, B_f]
    · by_cases c2 : e0 - p = 2
      · rw [if_pos ⟨c2, z1, g1⟩, hb0]
        have f1 := fin (bs (p + 1) - 48) (by omega)
        have e9 : 10 * 0 + (bs (p + 1) - 48) = bs (p + 1) - 48 := by omega
        clear hG t4 B fin q0 qbig isn hY
        simp (disch := omega) only [x_X8_namedBy_0, x_X8_namedBy_1, x_X8_namedBy_4, x_X8_namedBy_5, x_X8_namedBy_8, x_X8_namedBy_9, x_X8_namedBy_10, x_X8_namedBy_11, x_X8_namedBy_13, x_X8_namedBy_14, x_X8_namedBy_15, x_X8_namedBy_16, x_X8_namedBy_17, x_X8_namedBy_18, x_X8_namedBy_20, x_X8_namedBy_22, x_X8_namedBy_23, x_X8_namedBy_26, x_X8_namedBy_27, x_X8_namedBy_28, x_X8_namedBy_31, x_X8_namedBy_32, x_X8_namedBy_35, x_X8_namedBy_36, x_X8_namedBy_39, x_X8_namedBy_40, x_X8_namedBy_41, x_X8_namedBy_43, x_X8_namedBy_44, x_X8_namedBy_45, x_X8_namedBy_47, x_X8_namedBy_48, x_X8_namedBy_50, x_X8_namedBy_52, x_X8_namedBy_53, x_X8_namedBy_55, x_X8_namedBy_58, x_X8_namedBy_61, x_X8_namedBy_63, x_X8_namedBy_64, x_X8_namedBy_67, x_X8_namedBy_69, x_X8_namedBy_72, x_X8_namedBy_73, x_X8_namedBy_75, x_X8_namedBy_78, x_X8_namedBy_79, x_X8_namedBy_80, x_X8_namedBy_82, x_X8_namedBy_83, x_X8_namedBy_84, x_X8_namedBy_86, x_X8_namedBy_87, x_X8_namedBy_88, x_X8_namedBy_91, List.length_cons, List.length_nil, Nat.reduceLeDiff, Nat.zero_add, iI_add, iI_sub, iI_mul, iI_neg, iI_lt, iI_le, iI_eq, jI_iI, B_True, B_False, B_t, B_f, ck_True, gd_True, cb_v, cb_n, p_mv_rw, p_fv_rw, p_rv_some, pA_1, pA_90, pA_92, pA_3, pA_2, pA_93, pA_4, pA_91, pA_95, pS_i, pW_i, pZ_0, pZ_1, pZ_b, bI_e0, u1_s, u1_n, uA_s, uA_n, true_and, and_true, not_true_eq_false, not_false_eq_true, eq_self, iI_z, al1, al2, al3, al4, al90, al91, al92, al93, al95, Int.cast_ofNat_Int, Nat.reduceAdd, Int.reduceNeg, Int.reduceAdd, Int.reduceSub, Int.reduceMul, Int.reduceLT, Int.reduceLE, Int.reduceGT, Int.reduceGE, Int.reduceEq, Int.reduceNe, Nat.reduceEqDiff, Int.zero_add, Int.add_zero, p_ty0, p_ty1, p_ty2, p_ty3, p_ty4, p_ty5, p_ty6, p_ty7, p_ty8, p_ty9, p_ty10, p_ty11, ty127, ty128, fy1, ty129, fy4, ty130, fy5, ty131, fy6, ty132, fy7, ty133, fy8, ty136, fy15, ty137, fy16, ty138, fy17, ty139, fy18, ty140, fy19, ty141, fy20, ty142, fy21, ty143, fy22, tybd, fy9, tylg, fy13, t1, h142, h143, c2, i1, f1, gd_t, B_t, B_f]
      · rw [if_neg (fun q => c2 q.1)]
        have d2 : t_b bs z (p + 2) = bs (p + 2) := if_pos (by omega)
        rw [d2]
        have i2 := isn (bs (p + 2) - 48) (by omega)
        by_cases g2 : t_D (bs (p + 2))
        · have g2' := g2
          unfold t_D at g2'
          rw [bI_t (by omega)] at i2
          by_cases c3 : e0 - p = 3
          · rw [if_pos ⟨c3, z1, g1, g2⟩, hb0]
            have f1 := fin (10 * (bs (p + 1) - 48) + (bs (p + 2) - 48)) (by omega)
            rw [show (bs (p + 1) - 48) * 10 + bs (p + 2) - 48 = 10 * (bs (p + 1) - 48) + (bs (p + 2) - 48) by omega]
            clear hG t4 B fin q0 qbig isn hY
            simp (disch := omega) only [x_X8_namedBy_0, x_X8_namedBy_1, x_X8_namedBy_4, x_X8_namedBy_5, x_X8_namedBy_8, x_X8_namedBy_9, x_X8_namedBy_10, x_X8_namedBy_11, x_X8_namedBy_13, x_X8_namedBy_14, x_X8_namedBy_15, x_X8_namedBy_16, x_X8_namedBy_17, x_X8_namedBy_18, x_X8_namedBy_20, x_X8_namedBy_22, x_X8_namedBy_23, x_X8_namedBy_26, x_X8_namedBy_27, x_X8_namedBy_28, x_X8_namedBy_31, x_X8_namedBy_32, x_X8_namedBy_35, x_X8_namedBy_36, x_X8_namedBy_39, x_X8_namedBy_40, x_X8_namedBy_41, x_X8_namedBy_43, x_X8_namedBy_44, x_X8_namedBy_45, x_X8_namedBy_47, x_X8_namedBy_48, x_X8_namedBy_50, x_X8_namedBy_52, x_X8_namedBy_53, x_X8_namedBy_55, x_X8_namedBy_58, x_X8_namedBy_61, x_X8_namedBy_63, x_X8_namedBy_64, x_X8_namedBy_67, x_X8_namedBy_69, x_X8_namedBy_72, x_X8_namedBy_73, x_X8_namedBy_75, x_X8_namedBy_78, x_X8_namedBy_79, x_X8_namedBy_80, x_X8_namedBy_82, x_X8_namedBy_83, x_X8_namedBy_84, x_X8_namedBy_86, x_X8_namedBy_87, x_X8_namedBy_88, x_X8_namedBy_91, List.length_cons, List.length_nil, Nat.reduceLeDiff, Nat.zero_add, iI_add, iI_sub, iI_mul, iI_neg, iI_lt, iI_le, iI_eq, jI_iI, B_True, B_False, B_t, B_f, ck_True, gd_True, cb_v, cb_n, p_mv_rw, p_fv_rw, p_rv_some, pA_1, pA_90, pA_92, pA_3, pA_2, pA_93, pA_4, pA_91, pA_95, pS_i, pW_i, pZ_0, pZ_1, pZ_b, bI_e0, u1_s, u1_n, uA_s, uA_n, true_and, and_true, not_true_eq_false, not_false_eq_true, eq_self, iI_z, al1, al2, al3, al4, al90, al91, al92, al93, al95, Int.cast_ofNat_Int, Nat.reduceAdd, Int.reduceNeg, Int.reduceAdd, Int.reduceSub, Int.reduceMul, Int.reduceLT, Int.reduceLE, Int.reduceGT, Int.reduceGE, Int.reduceEq, Int.reduceNe, Nat.reduceEqDiff, Int.zero_add, Int.add_zero, p_ty0, p_ty1, p_ty2, p_ty3, p_ty4, p_ty5, p_ty6, p_ty7, p_ty8, p_ty9, p_ty10, p_ty11, ty127, ty128, fy1, ty129, fy4, ty130, fy5, ty131, fy6, ty132, fy7, ty133, fy8, ty136, fy15, ty137, fy16, ty138, fy17, ty139, fy18, ty140, fy19, ty141, fy20, ty142, fy21, ty143, fy22, tybd, fy9, tylg, fy13, t1, h142, h143, c3, i1, i2, f1, gd_t, B_t, B_f]
          · rw [if_neg (fun q => c3 q.1)]
            have i3 := isn (bs (p + 3) - 48) (by omega)
            by_cases g3 : t_D (bs (p + 3))
            · have g3' := g3
              unfold t_D at g3'
              rw [bI_t (by omega)] at i3
              have f1 := fin (10 * (10 * (bs (p + 1) - 48) + (bs (p + 2) - 48)) + (bs (p + 3) - 48)) (by omega)
              rw [qbig _ (by omega)] at f1
              by_cases c4 : e0 - p = 4
              · clear hG t4 B fin q0 qbig isn hY
                simp (disch := omega) only [x_X8_namedBy_0, x_X8_namedBy_1, x_X8_namedBy_4, x_X8_namedBy_5, x_X8_namedBy_8, x_X8_namedBy_9, x_X8_namedBy_10, x_X8_namedBy_11, x_X8_namedBy_13, x_X8_namedBy_14, x_X8_namedBy_15, x_X8_namedBy_16, x_X8_namedBy_17, x_X8_namedBy_18, x_X8_namedBy_20, x_X8_namedBy_22, x_X8_namedBy_23, x_X8_namedBy_26, x_X8_namedBy_27, x_X8_namedBy_28, x_X8_namedBy_31, x_X8_namedBy_32, x_X8_namedBy_35, x_X8_namedBy_36, x_X8_namedBy_39, x_X8_namedBy_40, x_X8_namedBy_41, x_X8_namedBy_43, x_X8_namedBy_44, x_X8_namedBy_45, x_X8_namedBy_47, x_X8_namedBy_48, x_X8_namedBy_50, x_X8_namedBy_52, x_X8_namedBy_53, x_X8_namedBy_55, x_X8_namedBy_58, x_X8_namedBy_61, x_X8_namedBy_63, x_X8_namedBy_64, x_X8_namedBy_67, x_X8_namedBy_69, x_X8_namedBy_72, x_X8_namedBy_73, x_X8_namedBy_75, x_X8_namedBy_78, x_X8_namedBy_79, x_X8_namedBy_80, x_X8_namedBy_82, x_X8_namedBy_83, x_X8_namedBy_84, x_X8_namedBy_86, x_X8_namedBy_87, x_X8_namedBy_88, x_X8_namedBy_91, List.length_cons, List.length_nil, Nat.reduceLeDiff, Nat.zero_add, iI_add, iI_sub, iI_mul, iI_neg, iI_lt, iI_le, iI_eq, jI_iI, B_True, B_False, B_t, B_f, ck_True, gd_True, cb_v, cb_n, p_mv_rw, p_fv_rw, p_rv_some, pA_1, pA_90, pA_92, pA_3, pA_2, pA_93, pA_4, pA_91, pA_95, pS_i, pW_i, pZ_0, pZ_1, pZ_b, bI_e0, u1_s, u1_n, uA_s, uA_n, true_and, and_true, not_true_eq_false, not_false_eq_true, eq_self, iI_z, al1, al2, al3, al4, al90, al91, al92, al93, al95, Int.cast_ofNat_Int, Nat.reduceAdd, Int.reduceNeg, Int.reduceAdd, Int.reduceSub, Int.reduceMul, Int.reduceLT, Int.reduceLE, Int.reduceGT, Int.reduceGE, Int.reduceEq, Int.reduceNe, Nat.reduceEqDiff, Int.zero_add, Int.add_zero, p_ty0, p_ty1, p_ty2, p_ty3, p_ty4, p_ty5, p_ty6, p_ty7, p_ty8, p_ty9, p_ty10, p_ty11, ty127, ty128, fy1, ty129, fy4, ty130, fy5, ty131, fy6, ty132, fy7, ty133, fy8, ty136, fy15, ty137, fy16, ty138, fy17, ty139, fy18, ty140, fy19, ty141, fy20, ty142, fy21, ty143, fy22, tybd, fy9, tylg, fy13, t1, h142, h143, c4, i1, i2, i3, f1, gd_t, B_t, B_f]
              · have i4 := isn (bs (p + 4) - 48) (by omega)
                by_cases g4 : 0 ≤ bs (p + 4) - 48 ∧ bs (p + 4) - 48 ≤ 9
                · rw [bI_t g4] at i4
                  clear hG t4 B fin q0 qbig isn hY f1
                  simp (disch := omega) only [x_X8_namedBy_0, x_X8_namedBy_1, x_X8_namedBy_4, x_X8_namedBy_5, x_X8_namedBy_8, x_X8_namedBy_9, x_X8_namedBy_10, x_X8_namedBy_11, x_X8_namedBy_13, x_X8_namedBy_14, x_X8_namedBy_15, x_X8_namedBy_16, x_X8_namedBy_17, x_X8_namedBy_18, x_X8_namedBy_20, x_X8_namedBy_22, x_X8_namedBy_23, x_X8_namedBy_26, x_X8_namedBy_27, x_X8_namedBy_28, x_X8_namedBy_31, x_X8_namedBy_32, x_X8_namedBy_35, x_X8_namedBy_36, x_X8_namedBy_39, x_X8_namedBy_40, x_X8_namedBy_41, x_X8_namedBy_43, x_X8_namedBy_44, x_X8_namedBy_45, x_X8_namedBy_47, x_X8_namedBy_48, x_X8_namedBy_50, x_X8_namedBy_52, x_X8_namedBy_53, x_X8_namedBy_55, x_X8_namedBy_58, x_X8_namedBy_61, x_X8_namedBy_63, x_X8_namedBy_64, x_X8_namedBy_67, x_X8_namedBy_69, x_X8_namedBy_72, x_X8_namedBy_73, x_X8_namedBy_75, x_X8_namedBy_78, x_X8_namedBy_79, x_X8_namedBy_80, x_X8_namedBy_82, x_X8_namedBy_83, x_X8_namedBy_84, x_X8_namedBy_86, x_X8_namedBy_87, x_X8_namedBy_88, x_X8_namedBy_91, List.length_cons, List.length_nil, Nat.reduceLeDiff, Nat.zero_add, iI_add, iI_sub, iI_mul, iI_neg, iI_lt, iI_le, iI_eq, jI_iI, B_True, B_False, B_t, B_f, ck_True, gd_True, cb_v, cb_n, p_mv_rw, p_fv_rw, p_rv_some, pA_1, pA_90, pA_92, pA_3, pA_2, pA_93, pA_4, pA_91, pA_95, pS_i, pW_i, pZ_0, pZ_1, pZ_b, bI_e0, u1_s, u1_n, uA_s, uA_n, true_and, and_true, not_true_eq_false, not_false_eq_true, eq_self, iI_z, al1, al2, al3, al4, al90, al91, al92, al93, al95, Int.cast_ofNat_Int, Nat.reduceAdd, Int.reduceNeg, Int.reduceAdd, Int.reduceSub, Int.reduceMul, Int.reduceLT, Int.reduceLE, Int.reduceGT, Int.reduceGE, Int.reduceEq, Int.reduceNe, Nat.reduceEqDiff, Int.zero_add, Int.add_zero, p_ty0, p_ty1, p_ty2, p_ty3, p_ty4, p_ty5, p_ty6, p_ty7, p_ty8, p_ty9, p_ty10, p_ty11, ty127, ty128, fy1, ty129, fy4, ty130, fy5, ty131, fy6, ty132, fy7, ty133, fy8, ty136, fy15, ty137, fy16, ty138, fy17, ty139, fy18, ty140, fy19, ty141, fy20, ty142, fy21, ty143, fy22, tybd, fy9, tylg, fy13, t1, h142, h143, i1, i2, i3, i4, gd_t, B_t, B_f]
                · rw [bI_f g4] at i4
                  clear hG t4 B fin q0 qbig isn hY f1
                  simp (disch := omega) only [x_X8_namedBy_0, x_X8_namedBy_1, x_X8_namedBy_4, x_X8_namedBy_5, x_X8_namedBy_8, x_X8_namedBy_9, x_X8_namedBy_10, x_X8_namedBy_11, x_X8_namedBy_13, x_X8_namedBy_14, x_X8_namedBy_15, x_X8_namedBy_16, x_X8_namedBy_17, x_X8_namedBy_18, x_X8_namedBy_20, x_X8_namedBy_22, x_X8_namedBy_23, x_X8_namedBy_26, x_X8_namedBy_27, x_X8_namedBy_28, x_X8_namedBy_31, x_X8_namedBy_32, x_X8_namedBy_35, x_X8_namedBy_36, x_X8_namedBy_39, x_X8_namedBy_40, x_X8_namedBy_41, x_X8_namedBy_43, x_X8_namedBy_44, x_X8_namedBy_45, x_X8_namedBy_47, x_X8_namedBy_48, x_X8_namedBy_50, x_X8_namedBy_52, x_X8_namedBy_53, x_X8_namedBy_55, x_X8_namedBy_58, x_X8_namedBy_61, x_X8_namedBy_63, x_X8_namedBy_64, x_X8_namedBy_67, x_X8_namedBy_69, x_X8_namedBy_72, x_X8_namedBy_73, x_X8_namedBy_75, x_X8_namedBy_78, x_X8_namedBy_79, x_X8_namedBy_80, x_X8_namedBy_82, x_X8_namedBy_83, x_X8_namedBy_84, x_X8_namedBy_86, x_X8_namedBy_87, x_X8_namedBy_88, x_X8_namedBy_91, List.length_cons, List.length_nil, Nat.reduceLeDiff, Nat.zero_add, iI_add, iI_sub, iI_mul, iI_neg, iI_lt, iI_le, iI_eq, jI_iI, B_True, B_False, B_t, B_f, ck_True, gd_True, cb_v, cb_n, p_mv_rw, p_fv_rw, p_rv_some, pA_1, pA_90, pA_92, pA_3, pA_2, pA_93, pA_4, pA_91, pA_95, pS_i, pW_i, pZ_0, pZ_1, pZ_b, bI_e0, u1_s, u1_n, uA_s, uA_n, true_and, and_true, not_true_eq_false, not_false_eq_true, eq_self, iI_z, al1, al2, al3, al4, al90, al91, al92, al93, al95, Int.cast_ofNat_Int, Nat.reduceAdd, Int.reduceNeg, Int.reduceAdd, Int.reduceSub, Int.reduceMul, Int.reduceLT, Int.reduceLE, Int.reduceGT, Int.reduceGE, Int.reduceEq, Int.reduceNe, Nat.reduceEqDiff, Int.zero_add, Int.add_zero, p_ty0, p_ty1, p_ty2, p_ty3, p_ty4, p_ty5, p_ty6, p_ty7, p_ty8, p_ty9, p_ty10, p_ty11, ty127, ty128, fy1, ty129, fy4, ty130, fy5, ty131, fy6, ty132, fy7, ty133, fy8, ty136, fy15, ty137, fy16, ty138, fy17, ty139, fy18, ty140, fy19, ty141, fy20, ty142, fy21, ty143, fy22, tybd, fy9, tylg, fy13, t1, h142, h143, i1, i2, i3, i4, gd_t, B_t, B_f]
            · have g3' : ¬ (0 ≤ bs (p + 3) - 48 ∧ bs (p + 3) - 48 ≤ 9) := fun q => g3 (by unfold t_D; omega)
              rw [bI_f g3'] at i3
              clear hG t4 B fin q0 qbig isn hY
              simp (disch := omega) only [x_X8_namedBy_0, x_X8_namedBy_1, x_X8_namedBy_4, x_X8_namedBy_5, x_X8_namedBy_8, x_X8_namedBy_9, x_X8_namedBy_10, x_X8_namedBy_11, x_X8_namedBy_13, x_X8_namedBy_14, x_X8_namedBy_15, x_X8_namedBy_16, x_X8_namedBy_17, x_X8_namedBy_18, x_X8_namedBy_20, x_X8_namedBy_22, x_X8_namedBy_23, x_X8_namedBy_26, x_X8_namedBy_27, x_X8_namedBy_28, x_X8_namedBy_31, x_X8_namedBy_32, x_X8_namedBy_35, x_X8_namedBy_36, x_X8_namedBy_39, x_X8_namedBy_40, x_X8_namedBy_41, x_X8_namedBy_43, x_X8_namedBy_44, x_X8_namedBy_45, x_X8_namedBy_47, x_X8_namedBy_48, x_X8_namedBy_50, x_X8_namedBy_52, x_X8_namedBy_53, x_X8_namedBy_55, x_X8_namedBy_58, x_X8_namedBy_61, x_X8_namedBy_63, x_X8_namedBy_64, x_X8_namedBy_67, x_X8_namedBy_69, x_X8_namedBy_72, x_X8_namedBy_73, x_X8_namedBy_75, x_X8_namedBy_78, x_X8_namedBy_79, x_X8_namedBy_80, x_X8_namedBy_82, x_X8_namedBy_83, x_X8_namedBy_84, x_X8_namedBy_86, x_X8_namedBy_87, x_X8_namedBy_88, x_X8_namedBy_91, List.length_cons, List.length_nil, Nat.reduceLeDiff, Nat.zero_add, iI_add, iI_sub, iI_mul, iI_neg, iI_lt, iI_le, iI_eq, jI_iI, B_True, B_False, B_t, B_f, ck_True, gd_True, cb_v, cb_n, p_mv_rw, p_fv_rw, p_rv_some, pA_1, pA_90, pA_92, pA_3, pA_2, pA_93, pA_4, pA_91, pA_95, pS_i, pW_i, pZ_0, pZ_1, pZ_b, bI_e0, u1_s, u1_n, uA_s, uA_n, true_and, and_true, not_true_eq_false, not_false_eq_true, eq_self, iI_z, al1, al2, al3, al4, al90, al91, al92, al93, al95, Int.cast_ofNat_Int, Nat.reduceAdd, Int.reduceNeg, Int.reduceAdd, Int.reduceSub, Int.reduceMul, Int.reduceLT, Int.reduceLE, Int.reduceGT, Int.reduceGE, Int.reduceEq, Int.reduceNe, Nat.reduceEqDiff, Int.zero_add, Int.add_zero, p_ty0, p_ty1, p_ty2, p_ty3, p_ty4, p_ty5, p_ty6, p_ty7, p_ty8, p_ty9, p_ty10, p_ty11, ty127, ty128, fy1, ty129, fy4, ty130, fy5, ty131, fy6, ty132, fy7, ty133, fy8, ty136, fy15, ty137, fy16, ty138, fy17, ty139, fy18, ty140, fy19, ty141, fy20, ty142, fy21, ty143, fy22, tybd, fy9, tylg, fy13, t1, h142, h143, i1, i2, i3, gd_t, B_t, B_f]
        · rw [if_neg (fun q => g2 q.2.2.2)]
          have g2' : ¬ (0 ≤ bs (p + 2) - 48 ∧ bs (p + 2) - 48 ≤ 9) := fun q => g2 (by unfold t_D; omega)
          rw [bI_f g2'] at i2
          clear hG t4 B fin q0 qbig isn hY
          simp (disch := omega) only [x_X8_namedBy_0, x_X8_namedBy_1, x_X8_namedBy_4, x_X8_namedBy_5, x_X8_namedBy_8, x_X8_namedBy_9, x_X8_namedBy_10, x_X8_namedBy_11, x_X8_namedBy_13, x_X8_namedBy_14, x_X8_namedBy_15, x_X8_namedBy_16, x_X8_namedBy_17, x_X8_namedBy_18, x_X8_namedBy_20, x_X8_namedBy_22, x_X8_namedBy_23, x_X8_namedBy_26, x_X8_namedBy_27, x_X8_namedBy_28, x_X8_namedBy_31, x_X8_namedBy_32, x_X8_namedBy_35, x_X8_namedBy_36, x_X8_namedBy_39, x_X8_namedBy_40, x_X8_namedBy_41, x_X8_namedBy_43, x_X8_namedBy_44, x_X8_namedBy_45, x_X8_namedBy_47, x_X8_namedBy_48, x_X8_namedBy_50, x_X8_namedBy_52, x_X8_namedBy_53, x_X8_namedBy_55, x_X8_namedBy_58, x_X8_namedBy_61, x_X8_namedBy_63, x_X8_namedBy_64, x_X8_namedBy_67, x_X8_namedBy_69, x_X8_namedBy_72, x_X8_namedBy_73, x_X8_namedBy_75, x_X8_namedBy_78, x_X8_namedBy_79, x_X8_namedBy_80, x_X8_namedBy_82, x_X8_namedBy_83, x_X8_namedBy_84, x_X8_namedBy_86, x_X8_namedBy_87, x_X8_namedBy_88, x_X8_namedBy_91, List.length_cons, List.length_nil, Nat.reduceLeDiff, Nat.zero_add, iI_add, iI_sub, iI_mul, iI_neg, iI_lt, iI_le, iI_eq, jI_iI, B_True, B_False, B_t, B_f, ck_True, gd_True, cb_v, cb_n, p_mv_rw, p_fv_rw, p_rv_some, pA_1, pA_90, pA_92, pA_3, pA_2, pA_93, pA_4, pA_91, pA_95, pS_i, pW_i, pZ_0, pZ_1, pZ_b, bI_e0, u1_s, u1_n, uA_s, uA_n, true_and, and_true, not_true_eq_false, not_false_eq_true, eq_self, iI_z, al1, al2, al3, al4, al90, al91, al92, al93, al95, Int.cast_ofNat_Int, Nat.reduceAdd, Int.reduceNeg, Int.reduceAdd, Int.reduceSub, Int.reduceMul, Int.reduceLT, Int.reduceLE, Int.reduceGT, Int.reduceGE, Int.reduceEq, Int.reduceNe, Nat.reduceEqDiff, Int.zero_add, Int.add_zero, p_ty0, p_ty1, p_ty2, p_ty3, p_ty4, p_ty5, p_ty6, p_ty7, p_ty8, p_ty9, p_ty10, p_ty11, ty127, ty128, fy1, ty129, fy4, ty130, fy5, ty131, fy6, ty132, fy7, ty133, fy8, ty136, fy15, ty137, fy16, ty138, fy17, ty139, fy18, ty140, fy19, ty141, fy20, ty142, fy21, ty143, fy22, tybd, fy9, tylg, fy13, t1, h142, h143, i1, i2, gd_t, B_t, B_f]
  · rw [if_neg (fun q => g1 q.2.2), if_neg (fun q => g1 q.2.2.1)]
    have g1' : ¬ (0 ≤ bs (p + 1) - 48 ∧ bs (p + 1) - 48 ≤ 9) := fun q => g1 (by unfold t_D; omega)
    rw [bI_f g1'] at i1
    clear hG t4 B fin q0 qbig isn hY
    simp (disch := omega) only [x_X8_namedBy_0, x_X8_namedBy_1, x_X8_namedBy_4, x_X8_namedBy_5, x_X8_namedBy_8, x_X8_namedBy_9, x_X8_namedBy_10, x_X8_namedBy_11, x_X8_namedBy_13, x_X8_namedBy_14, x_X8_namedBy_15, x_X8_namedBy_16, x_X8_namedBy_17, x_X8_namedBy_18, x_X8_namedBy_20, x_X8_namedBy_22, x_X8_namedBy_23, x_X8_namedBy_26, x_X8_namedBy_27, x_X8_namedBy_28, x_X8_namedBy_31, x_X8_namedBy_32, x_X8_namedBy_35, x_X8_namedBy_36, x_X8_namedBy_39, x_X8_namedBy_40, x_X8_namedBy_41, x_X8_namedBy_43, x_X8_namedBy_44, x_X8_namedBy_45, x_X8_namedBy_47, x_X8_namedBy_48, x_X8_namedBy_50, x_X8_namedBy_52, x_X8_namedBy_53, x_X8_namedBy_55, x_X8_namedBy_58, x_X8_namedBy_61, x_X8_namedBy_63, x_X8_namedBy_64, x_X8_namedBy_67, x_X8_namedBy_69, x_X8_namedBy_72, x_X8_namedBy_73, x_X8_namedBy_75, x_X8_namedBy_78, x_X8_namedBy_79, x_X8_namedBy_80, x_X8_namedBy_82, x_X8_namedBy_83, x_X8_namedBy_84, x_X8_namedBy_86, x_X8_namedBy_87, x_X8_namedBy_88, x_X8_namedBy_91, List.length_cons, List.length_nil, Nat.reduceLeDiff, Nat.zero_add, iI_add, iI_sub, iI_mul, iI_neg, iI_lt, iI_le, iI_eq, jI_iI, B_True, B_False, B_t, B_f, ck_True, gd_True, cb_v, cb_n, p_mv_rw, p_fv_rw, p_rv_some, pA_1, pA_90, pA_92, pA_3, pA_2, pA_93, pA_4, pA_91, pA_95, pS_i, pW_i, pZ_0, pZ_1, pZ_b, bI_e0, u1_s, u1_n, uA_s, uA_n, true_and, and_true, not_true_eq_false, not_false_eq_true, eq_self, iI_z, al1, al2, al3, al4, al90, al91, al92, al93, al95, Int.cast_ofNat_Int, Nat.reduceAdd, Int.reduceNeg, Int.reduceAdd, Int.reduceSub, Int.reduceMul, Int.reduceLT, Int.reduceLE, Int.reduceGT, Int.reduceGE, Int.reduceEq, Int.reduceNe, Nat.reduceEqDiff, Int.zero_add, Int.add_zero, p_ty0, p_ty1, p_ty2, p_ty3, p_ty4, p_ty5, p_ty6, p_ty7, p_ty8, p_ty9, p_ty10, p_ty11, ty127, ty128, fy1, ty129, fy4, ty130, fy5, ty131, fy6, ty132, fy7, ty133, fy8, ty136, fy15, ty137, fy16, ty138, fy17, ty139, fy18, ty140, fy19, ty141, fy20, ty142, fy21, ty143, fy22, tybd, fy9, tylg, fy13, t1, h142, h143, i1, gd_t, B_t, B_f]
end PREL
