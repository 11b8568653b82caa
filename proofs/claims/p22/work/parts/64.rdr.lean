section PRDR
variable {d a r : Nat} {T : pT} {M M0 M1 M2 : pM} {F F1 : pF} {p z e0 n i c st : Int} {bs : Int → Int} {k j : Nat}
/-- a token: where it begins, its kind, the cell that it names -/
abbrev TKn : Type := Int × Nat × Int
def tk0 : TKn := (0, 15, -1)
variable {Q : List TKn}
def RT (T : pT) (F : pF) (r : Nat) : Prop := 100 ≤ r ∧ p_ty T r = (13, 4) ∧ F r 0 = some (r + 1) ∧ F r 1 = some (r + 2) ∧ F r 2 = some (r + 3) ∧ p_ty T (r + 1) = (1, 400) ∧ p_ty T (r + 2) = (1, 400) ∧ p_ty T (r + 3) = (4, 400)
def TKok (x : TKn) : Prop := (0 ≤ x.1 ∧ x.1 ≤ 2000) ∧ x.2.1 < 16 ∧ (-1 ≤ x.2.2 ∧ x.2.2 < 91)
def RS (M : pM) (F : pF) (r : Nat) (Q : List TKn) : Prop := M r 3 = (Q.length : Int) ∧ Q.length ≤ 400 ∧ (∀ x ∈ Q, TKok x) ∧ ∀ j : Nat, j < Q.length → M (r + 1) (j : Int) = (Q.getD j tk0).1 ∧ F (r + 3) (j : Int) = some (12 + (Q.getD j tk0).2.1) ∧ M (r + 2) (j : Int) = (Q.getD j tk0).2.2
theorem tk_ok (h : ∀ x ∈ Q, TKok x) : TKok (Q.getD j tk0) := by
  by_cases e : j < Q.length
  · rw [List.getD_eq_getElem?_getD, List.getElem?_eq_getElem e]
    exact h _ (List.getElem_mem e)
  · rw [List.getD_eq_getElem?_getD, List.getElem?_eq_none (by omega)]
    unfold TKok tk0
    refine ⟨⟨?_, ?_⟩, ?_, ?_, ?_⟩ <;> decide
theorem tk_out (h : ¬ j < Q.length) : Q.getD j tk0 = tk0 := by
  rw [List.getD_eq_getElem?_getD, List.getElem?_eq_none (by omega)]; rfl
theorem tk_app (x : TKn) (h : j < Q.length) : (Q ++ [x]).getD j tk0 = Q.getD j tk0 := by
  rw [List.getD_eq_getElem?_getD, List.getD_eq_getElem?_getD, List.getElem?_append_left h]
theorem tk_last (x : TKn) : (Q ++ [x]).getD Q.length tk0 = x := by
  rw [List.getD_eq_getElem?_getD, List.getElem?_append_right (Nat.le_refl _), Nat.sub_self]; rfl
theorem RS.fr (h : RS M F r Q) (h0 : M1 r = M r) (h1 : M1 (r + 1) = M (r + 1)) (h2 : M1 (r + 2) = M (r + 2)) (h3 : F1 (r + 3) = F (r + 3)) : RS M1 F1 r Q := by
  unfold RS at *; rw [h0, h1, h2, h3]; exact h
theorem c_kindAt (hR : RT T F r) (hS : RS M F r Q) (hd : 1 ≤ d) (hj : j < 100000) : callD d m_X3_kindAt [.ref r, .int (iI (j : Int))] T M F = some (.inl (some (.ref (12 + (Q.getD j tk0).2.1))), T, M, F) := by
  refine callD_go 0 hd rfl (fun e he => ?_)
  show R e m_X3_kindAt 0 [.val (.ref r), .val (.int (iI (j : Int))), .unset] [] T M F = _
  obtain ⟨hr, t0, f0, f1, f2, t1, t2, t3⟩ := hR
  obtain ⟨s0, s1, s2, s3⟩ := hS
  have u1 := kd_t (T := T) 27 (by omega)
  by_cases c : j < Q.length
  · have u0 := kd_ty (T := T) (tk_ok (j := j) s2).2.1
    have h3 := (s3 j c).2.1
    clear s2 s3
    simp (disch := omega) only [x_X3_kindAt_0, x_X3_kindAt_1, x_X3_kindAt_4, x_X3_kindAt_5, x_X3_kindAt_6, x_X3_kindAt_9, x_X3_kindAt_12, x_X3_kindAt_13, x_X3_kindAt_14, x_X3_kindAt_17, x_X3_kindAt_18, x_X3_kindAt_21, x_X3_kindAt_22, x_X3_kindAt_25, x_X3_kindAt_26, x_X3_kindAt_27, x_X3_kindAt_30, x_X3_kindAt_33, x_X3_kindAt_34, x_X3_kindAt_35, x_X3_kindAt_38, x_X3_kindAt_41, x_X3_kindAt_44, x_X3_kindAt_45, List.length_cons, List.length_nil, Nat.reduceLeDiff, Nat.zero_add, iI_add, iI_sub, iI_mul, iI_neg, iI_lt, iI_le, iI_eq, jI_iI, B_True, B_False, B_t, B_f, ck_True, gd_True, cb_v, cb_n, p_mv_rw, p_fv_rw, p_rv_some, pA_1, pA_90, pA_92, pA_3, pA_5, pA_93, pA_4, pA_91, pA_6, pS_i, pB_i, pW_i, pZ_0, pZ_1, pZ_b, bI_e0, u1_s, u1_n, uA_s, uA_n, true_and, and_true, not_true_eq_false, not_false_eq_true, eq_self, iI_z, al1, al5, al3, al4, al90, al91, al92, al93, al6, Int.cast_ofNat_Int, Nat.reduceAdd, Int.reduceNeg, Int.reduceAdd, Int.reduceSub, Int.reduceMul, Int.reduceLT, Int.reduceLE, Int.reduceGT, Int.reduceGE, Int.reduceEq, Int.reduceNe, Nat.reduceEqDiff, Int.zero_add, Int.add_zero, p_ty0, p_ty1, p_ty2, p_ty3, p_ty4, p_ty5, p_ty8, p_ty9, p_ty10, t0, t3, f2, s0, h3, u0, u1, gd_t, B_t, B_f]
  · rw [tk_out c]
    clear s2 s3
    simp (disch := omega) only [x_X3_kindAt_0, x_X3_kindAt_1, x_X3_kindAt_4, x_X3_kindAt_5, x_X3_kindAt_6, x_X3_kindAt_9, x_X3_kindAt_12, x_X3_kindAt_13, x_X3_kindAt_14, x_X3_kindAt_17, x_X3_kindAt_18, x_X3_kindAt_21, x_X3_kindAt_22, x_X3_kindAt_25, x_X3_kindAt_26, x_X3_kindAt_27, x_X3_kindAt_30, x_X3_kindAt_33, x_X3_kindAt_34, x_X3_kindAt_35, x_X3_kindAt_38, x_X3_kindAt_41, x_X3_kindAt_44, x_X3_kindAt_45, List.length_cons, List.length_nil, Nat.reduceLeDiff, Nat.zero_add, iI_add, iI_sub, iI_mul, iI_neg, iI_lt, iI_le, iI_eq, jI_iI, B_True, B_False, B_t, B_f, ck_True, gd_True, cb_v, cb_n, p_mv_rw, p_fv_rw, p_rv_some, pA_1, pA_90, pA_92, pA_3, pA_5, pA_93, pA_4, pA_91, pA_6, pS_i, pB_i, pW_i, pZ_0, pZ_1, pZ_b, bI_e0, u1_s, u1_n, uA_s, uA_n, true_and, and_true, not_true_eq_false, not_false_eq_true, eq_self, iI_z, al1, al5, al3, al4, al90, al91, al92, al93, al6, Int.cast_ofNat_Int, Nat.reduceAdd, Int.reduceNeg, Int.reduceAdd, Int.reduceSub, Int.reduceMul, Int.reduceLT, Int.reduceLE, Int.reduceGT, Int.reduceGE, Int.reduceEq, Int.reduceNe, Nat.reduceEqDiff, Int.zero_add, Int.add_zero, p_ty0, p_ty1, p_ty2, p_ty3, p_ty4, p_ty5, p_ty8, p_ty9, p_ty10, t0, t3, f2, s0, u1, gd_t, B_t, B_f]
    rfl
theorem c_startOf (hR : RT T F r) (hS : RS M F r Q) (hd : 1 ≤ d) (hj : j < Q.length) : callD d m_X3_startOf [.ref r, .int (iI (j : Int))] T M F = some (.inl (some (.int (iI (Q.getD j tk0).1))), T, M, F) := by
  refine callD_go 0 hd rfl (fun e he => ?_)
  show R e m_X3_startOf 0 [.val (.ref r), .val (.int (iI (j : Int)))] [] T M F = _
  obtain ⟨hr, t0, f0, f1, f2, t1, t2, t3⟩ := hR
  obtain ⟨s0, s1, s2, s3⟩ := hS
  have h3 := (s3 j hj).1
  clear s2 s3
  simp (disch := omega) only [x_X3_startOf_0, x_X3_startOf_1, x_X3_startOf_4, x_X3_startOf_5, x_X3_startOf_6, x_X3_startOf_9, x_X3_startOf_10, x_X3_startOf_13, x_X3_startOf_14, x_X3_startOf_17, x_X3_startOf_18, x_X3_startOf_19, x_X3_startOf_22, x_X3_startOf_23, List.length_cons, List.length_nil, Nat.reduceLeDiff, Nat.zero_add, iI_add, iI_sub, iI_mul, iI_neg, iI_lt, iI_le, iI_eq, jI_iI, B_True, B_False, B_t, B_f, ck_True, gd_True, cb_v, cb_n, p_mv_rw, p_fv_rw, p_rv_some, pA_1, pA_90, pA_92, pA_3, pA_5, pA_93, pA_4, pA_91, pA_6, pS_i, pB_i, pW_i, pZ_0, pZ_1, pZ_b, bI_e0, u1_s, u1_n, uA_s, uA_n, true_and, and_true, not_true_eq_false, not_false_eq_true, eq_self, iI_z, al1, al5, al3, al4, al90, al91, al92, al93, al6, Int.cast_ofNat_Int, Nat.reduceAdd, Int.reduceNeg, Int.reduceAdd, Int.reduceSub, Int.reduceMul, Int.reduceLT, Int.reduceLE, Int.reduceGT, Int.reduceGE, Int.reduceEq, Int.reduceNe, Nat.reduceEqDiff, Int.zero_add, Int.add_zero, p_ty0, p_ty1, p_ty2, p_ty3, p_ty4, p_ty5, p_ty8, p_ty9, p_ty10, t0, t1, f0, s0, h3, gd_t, B_t, B_f]
theorem c_cellTk (hR : RT T F r) (hS : RS M F r Q) (hd : 1 ≤ d) (hj : j < Q.length) : callD d m_X3_cellOfToken [.ref r, .int (iI (j : Int))] T M F = some (.inl (some (.int (iI (Q.getD j tk0).2.2))), T, M, F) := by
  refine callD_go 0 hd rfl (fun e he => ?_)
  show R e m_X3_cellOfToken 0 [.val (.ref r), .val (.int (iI (j : Int)))] [] T M F = _
  obtain ⟨hr, t0, f0, f1, f2, t1, t2, t3⟩ := hR
  obtain ⟨s0, s1, s2, s3⟩ := hS
  have h3 := (s3 j hj).2.2
  clear s2 s3
  simp (disch := omega) only [x_X3_cellOfToken_0, x_X3_cellOfToken_1, x_X3_cellOfToken_4, x_X3_cellOfToken_5, x_X3_cellOfToken_6, x_X3_cellOfToken_9, x_X3_cellOfToken_10, x_X3_cellOfToken_13, x_X3_cellOfToken_14, x_X3_cellOfToken_17, x_X3_cellOfToken_18, x_X3_cellOfToken_19, x_X3_cellOfToken_22, x_X3_cellOfToken_23, List.length_cons, List.length_nil, Nat.reduceLeDiff, Nat.zero_add, iI_add, iI_sub, iI_mul, iI_neg, iI_lt, iI_le, iI_eq, jI_iI, B_True, B_False, B_t, B_f, ck_True, gd_True, cb_v, cb_n, p_mv_rw, p_fv_rw, p_rv_some, pA_1, pA_90, pA_92, pA_3, pA_5, pA_93, pA_4, pA_91, pA_6, pS_i, pB_i, pW_i, pZ_0, pZ_1, pZ_b, bI_e0, u1_s, u1_n, uA_s, uA_n, true_and, and_true, not_true_eq_false, not_false_eq_true, eq_self, iI_z, al1, al5, al3, al4, al90, al91, al92, al93, al6, Int.cast_ofNat_Int, Nat.reduceAdd, Int.reduceNeg, Int.reduceAdd, Int.reduceSub, Int.reduceMul, Int.reduceLT, Int.reduceLE, Int.reduceGT, Int.reduceGE, Int.reduceEq, Int.reduceNe, Nat.reduceEqDiff, Int.zero_add, Int.add_zero, p_ty0, p_ty1, p_ty2, p_ty3, p_ty4, p_ty5, p_ty8, p_ty9, p_ty10, t0, t2, f1, s0, h3, gd_t, B_t, B_f]
theorem c_keepT (hR : RT T F r) (hS : RS M F r Q) (hl : Q.length < 400) (hx : TKok (p, k, c)) : ∃ M' F', (∀ d, 1 ≤ d → callD d m_X3_keep [.ref r, .int (iI p), .ref (12 + k), .int (iI c)] T M F = some (.inl none, T, M', F')) ∧ RT T F' r ∧ RS M' F' r (Q ++ [(p, k, c)]) ∧ (∀ b, b ≠ r → b ≠ r + 1 → b ≠ r + 2 → M' b = M b) ∧ ∀ b, b ≠ r + 3 → F' b = F b := by
  obtain ⟨hr, t0, f0, f1, f2, t1, t2, t3⟩ := hR
  obtain ⟨s0, s1, s2, s3⟩ := hS
  have hF : ∀ b, b ≠ r + 3 → uA F (r + 3) (u1 (F (r + 3)) (Q.length : Int) (some (12 + k))) b = F b := fun b hb => uA_n hb
  refine ⟨uA (uA (uA M (r + 1) (u1 (M (r + 1)) (Q.length : Int) p)) (r + 2) (u1 (M (r + 2)) (Q.length : Int) c)) r (u1 (M r) 3 ((Q.length : Int) + 1)), uA F (r + 3) (u1 (F (r + 3)) (Q.length : Int) (some (12 + k))), fun d hd => ?_, ?_, ?_, fun b b1 b2 b3 => ?_, hF⟩
  · refine callD_go 0 hd rfl (fun e he => ?_)
    show R e m_X3_keep 0 [.val (.ref r), .val (.int (iI p)), .val (.ref (12 + k)), .val (.int (iI c))] [] T M F = _
    have u0 := kd_ty (T := T) hx.2.1
    obtain ⟨hx1, hx2, hx3⟩ : (0 ≤ p ∧ p ≤ 2000) ∧ k < 16 ∧ (-1 ≤ c ∧ c < 91) := hx
    clear s2 s3 hF
    simp (disch := omega) only [x_X3_keep_0, x_X3_keep_1, x_X3_keep_4, x_X3_keep_7, x_X3_keep_8, x_X3_keep_11, x_X3_keep_12, x_X3_keep_15, x_X3_keep_16, x_X3_keep_19, x_X3_keep_20, x_X3_keep_23, x_X3_keep_24, x_X3_keep_27, x_X3_keep_28, x_X3_keep_31, x_X3_keep_32, x_X3_keep_35, x_X3_keep_36, x_X3_keep_39, x_X3_keep_40, x_X3_keep_43, x_X3_keep_44, x_X3_keep_47, x_X3_keep_48, x_X3_keep_51, x_X3_keep_52, x_X3_keep_53, x_X3_keep_54, x_X3_keep_57, x_X3_keep_58, x_X3_keep_61, x_X3_keep_62, x_X3_keep_63, x_X3_keep_64, x_X3_keep_67, x_X3_keep_68, x_X3_keep_71, x_X3_keep_72, x_X3_keep_73, x_X3_keep_74, x_X3_keep_75, x_X3_keep_78, x_X3_keep_79, x_X3_keep_80, x_X3_keep_83, List.length_cons, List.length_nil, Nat.reduceLeDiff, Nat.zero_add, iI_add, iI_sub, iI_mul, iI_neg, iI_lt, iI_le, iI_eq, jI_iI, B_True, B_False, B_t, B_f, ck_True, gd_True, cb_v, cb_n, p_mv_rw, p_fv_rw, p_rv_some, pA_1, pA_90, pA_92, pA_3, pA_5, pA_93, pA_4, pA_91, pA_6, pS_i, pB_i, pW_i, pZ_0, pZ_1, pZ_b, bI_e0, u1_s, u1_n, uA_s, uA_n, true_and, and_true, not_true_eq_false, not_false_eq_true, eq_self, iI_z, al1, al5, al3, al4, al90, al91, al92, al93, al6, Int.cast_ofNat_Int, Nat.reduceAdd, Int.reduceNeg, Int.reduceAdd, Int.reduceSub, Int.reduceMul, Int.reduceLT, Int.reduceLE, Int.reduceGT, Int.reduceGE, Int.reduceEq, Int.reduceNe, Nat.reduceEqDiff, Int.zero_add, Int.add_zero, p_ty0, p_ty1, p_ty2, p_ty3, p_ty4, p_ty5, p_ty8, p_ty9, p_ty10, t0, t1, t2, t3, f0, f1, f2, s0, u0, gd_t, B_t, B_f]
  · refine ⟨hr, t0, ?_, ?_, ?_, t1, t2, t3⟩
    all_goals rw [hF _ (by omega)]; assumption
  · refine ⟨?_, by rw [List.length_append, List.length_singleton]; omega, fun x hx' => ?_, fun j hj => ?_⟩
    · rw [uA_s, u1_s, List.length_append, List.length_singleton]; omega
    · rcases List.mem_append.mp hx' with h | h
      · exact s2 x h
      · rw [List.mem_singleton.mp h]; exact hx
    · rw [List.length_append, List.length_singleton] at hj
      rw [uA_n (by omega), uA_n (by omega), uA_s, uA_s, uA_n (by omega), uA_s]
      by_cases e : j = Q.length
      · rw [e, tk_last, u1_s, u1_s, u1_s]; exact ⟨rfl, rfl, rfl⟩
      · rw [tk_app _ (by omega), u1_n (by omega), u1_n (by omega), u1_n (by omega)]
        exact s3 j (by omega)
  · rw [uA_n b1, uA_n b3, uA_n b2]
/-- reading the tokens -/
noncomputable def t_read (bs : Int → Int) (z : Int) : Nat → Int → Int → List TKn → List TKn × Int
  | 0, st, p, Q => (Q, if z ≤ p ∧ st = 0 then -1 else p)
  | n + 1, st, p, Q => if p < z then
      (if g_b st (t_kd bs z p (t_end bs z p)) = 10 then (Q, p) else t_read bs z n (g_b st (t_kd bs z p (t_end bs z p))) (t_bk bs z 2000 (t_end bs z p)) (Q ++ [(p, t_kd bs z p (t_end bs z p), t_cs bs z p (t_end bs z p))]))
    else (Q, if z ≤ p ∧ st = 0 then -1 else p)
theorem q_nam_rg {a b : Int} (ha : a ≤ 1000) : -1 ≤ q_nam a b ∧ q_nam a b < 91 := by
  unfold q_nam
  by_cases c : a < 0 ∨ 11 ≤ a
  · rw [if_pos c]; omega
  · rw [if_neg c]
    by_cases c2 : b < 1 ∨ q_csz a < b
    · rw [if_pos c2]; omega
    · rw [if_neg c2]
      have h : ∀ m : Nat, m < 11 → 0 ≤ p_roM 1 (m : Int) ∧ p_roM 1 (m : Int) + q_csz (m : Int) ≤ 91 := by decide +kernel
      have h2 := h a.toNat (by omega)
      rw [Int.toNat_of_nonneg (by omega)] at h2
      omega
theorem t_cs_rg (hb : ∀ i, 0 ≤ bs i ∧ bs i < 256) : -1 ≤ t_cs bs z p e0 ∧ t_cs bs z p e0 < 91 := by
  have := t_b_rg (p := p) (z := z) hb
  unfold t_cs
  split
  · exact q_nam_rg (by omega)
  · split
    · exact q_nam_rg (by omega)
    · omega
theorem rd_loop {a : Nat} (hT : TT T F a) (ha : a ≠ r ∧ a ≠ r + 1 ∧ a ≠ r + 2 ∧ a ≠ r + 3 ∧ a + 1 ≠ r) (hz : z ≤ 2000) : ∀ (n k : Nat) (st p : Int) (M : pM) (F : pF) (Q : List TKn), k + n = 400 → Q.length = k → (0 ≤ st ∧ st ≤ 9) → (0 ≤ p ∧ p ≤ z) → TT T F a → TS M a bs z → RT T F r → RS M F r Q →
    ∃ M' F', (∀ e l5 l6, 6 ≤ e → R e m_X3_read 16 [.val (.ref r), .val (.ref a), .val (.int (iI st)), .val (.int (iI p)), .val (.int (iI (k : Int))), l5, l6] [] T M F = some (.inl (some (.int (iI (t_read bs z n st p Q).2))), T, M', F')) ∧ RT T F' r ∧ RS M' F' r (t_read bs z n st p Q).1 ∧ (∀ b, b ≠ r → b ≠ r + 1 → b ≠ r + 2 → M' b = M b) ∧ ∀ b, b ≠ r + 3 → F' b = F b := by
  intro n
  clear hT
  induction n with
  | zero =>
    intro k st p M F Q hk hl hs hp hT hS hR hQ
    refine ⟨M, F, fun e l5 l6 he => ?_, hR, hQ, fun _ _ _ _ => rfl, fun _ _ => rfl⟩
    have t0 := hT.2.1
    have h0 := hT.1
    have s1 := hS.2.1
    show _ = (some (.inl (some (.int (iI (if z ≤ p ∧ st = 0 then -1 else p)))), T, M, F) : Option pR)
    clear hT hS hR hQ
    by_cases c : z ≤ p ∧ st = 0
    · rw [if_pos c]
      obtain ⟨c1, c2⟩ := c
      simp (disch := omega) only [x_X3_read_16, x_X3_read_18, x_X3_read_21, x_X3_read_24, x_X3_read_25, x_X3_read_26, x_X3_read_29, x_X3_read_90, x_X3_read_91, x_X3_read_92, x_X3_read_95, x_X3_read_98, x_X3_read_99, x_X3_read_102, x_X3_read_103, x_X3_read_106, x_X3_read_107, List.length_cons, List.length_nil, Nat.reduceLeDiff, Nat.zero_add, iI_add, iI_sub, iI_mul, iI_neg, iI_lt, iI_le, iI_eq, jI_iI, B_True, B_False, B_t, B_f, ck_True, gd_True, cb_v, cb_n, p_mv_rw, p_fv_rw, p_rv_some, pA_1, pA_90, pA_92, pA_3, pA_5, pA_93, pA_4, pA_91, pA_6, pS_i, pB_i, pW_i, pZ_0, pZ_1, pZ_b, bI_e0, u1_s, u1_n, uA_s, uA_n, true_and, and_true, not_true_eq_false, not_false_eq_true, eq_self, iI_z, al1, al5, al3, al4, al90, al91, al92, al93, al6, Int.cast_ofNat_Int, Nat.reduceAdd, Int.reduceNeg, Int.reduceAdd, Int.reduceSub, Int.reduceMul, Int.reduceLT, Int.reduceLE, Int.reduceGT, Int.reduceGE, Int.reduceEq, Int.reduceNe, Nat.reduceEqDiff, Int.zero_add, Int.add_zero, p_ty0, p_ty1, p_ty2, p_ty3, p_ty4, p_ty5, p_ty8, p_ty9, p_ty10, t0, s1, gd_t, B_t, B_f]
    · rw [if_neg c]
      by_cases c1 : z ≤ p
      · have c2 : st ≠ 0 := fun q => c ⟨c1, q⟩
        simp (disch := omega) only [x_X3_read_16, x_X3_read_18, x_X3_read_21, x_X3_read_24, x_X3_read_25, x_X3_read_26, x_X3_read_29, x_X3_read_90, x_X3_read_91, x_X3_read_92, x_X3_read_95, x_X3_read_98, x_X3_read_99, x_X3_read_102, x_X3_read_103, x_X3_read_106, x_X3_read_107, List.length_cons, List.length_nil, Nat.reduceLeDiff, Nat.zero_add, iI_add, iI_sub, iI_mul, iI_neg, iI_lt, iI_le, iI_eq, jI_iI, B_True, B_False, B_t, B_f, ck_True, gd_True, cb_v, cb_n, p_mv_rw, p_fv_rw, p_rv_some, pA_1, pA_90, pA_92, pA_3, pA_5, pA_93, pA_4, pA_91, pA_6, pS_i, pB_i, pW_i, pZ_0, pZ_1, pZ_b, bI_e0, u1_s, u1_n, uA_s, uA_n, true_and, and_true, not_true_eq_false, not_false_eq_true, eq_self, iI_z, al1, al5, al3, al4, al90, al91, al92, al93, al6, Int.cast_ofNat_Int, Nat.reduceAdd, Int.reduceNeg, Int.reduceAdd, Int.reduceSub, Int.reduceMul, Int.reduceLT, Int.reduceLE, Int.reduceGT, Int.reduceGE, Int.reduceEq, Int.reduceNe, Nat.reduceEqDiff, Int.zero_add, Int.add_zero, p_ty0, p_ty1, p_ty2, p_ty3, p_ty4, p_ty5, p_ty8, p_ty9, p_ty10, t0, s1, gd_t, B_t, B_f]
      · simp (disch := omega) only [x_X3_read_16, x_X3_read_18, x_X3_read_21, x_X3_read_24, x_X3_read_25, x_X3_read_26, x_X3_read_29, x_X3_read_90, x_X3_read_91, x_X3_read_92, x_X3_read_95, x_X3_read_98, x_X3_read_99, x_X3_read_102, x_X3_read_103, x_X3_read_106, x_X3_read_107, List.length_cons, List.length_nil, Nat.reduceLeDiff, Nat.zero_add, iI_add, iI_sub, iI_mul, iI_neg, iI_lt, iI_le, iI_eq, jI_iI, B_True, B_False, B_t, B_f, ck_True, gd_True, cb_v, cb_n, p_mv_rw, p_fv_rw, p_rv_some, pA_1, pA_90, pA_92, pA_3, pA_5, pA_93, pA_4, pA_91, pA_6, pS_i, pB_i, pW_i, pZ_0, pZ_1, pZ_b, bI_e0, u1_s, u1_n, uA_s, uA_n, true_and, and_true, not_true_eq_false, not_false_eq_true, eq_self, iI_z, al1, al5, al3, al4, al90, al91, al92, al93, al6, Int.cast_ofNat_Int, Nat.reduceAdd, Int.reduceNeg, Int.reduceAdd, Int.reduceSub, Int.reduceMul, Int.reduceLT, Int.reduceLE, Int.reduceGT, Int.reduceGE, Int.reduceEq, Int.reduceNe, Nat.reduceEqDiff, Int.zero_add, Int.add_zero, p_ty0, p_ty1, p_ty2, p_ty3, p_ty4, p_ty5, p_ty8, p_ty9, p_ty10, t0, s1, gd_t, B_t, B_f]
  | succ n ih =>
    intro k st p M F Q hk hl hs hp hT hS hR hQ
    have t0 := hT.2.1
    have h0 := hT.1
    have s1 := hS.2.1
    by_cases c1 : p < z
    · have hE := t_end_rg (bs := bs) (p := p) (z := z) (by omega)
      have hkd := t_kf_rg (bs := bs) (z := z) (p := p) (e0 := t_end bs z p) 16 0 (by omega)
      have hgb := g_b_rg (k := t_kd bs z p (t_end bs z p)) (st := st)
      have hB := t_bk_rg 2000 (t_end bs z p) (bs := bs) (z := z)
      have hB2 := t_bk_z 2000 (t_end bs z p) (bs := bs) (z := z) hE.2
      have hcs := t_cs_rg (p := p) (z := z) (e0 := t_end bs z p) hS.2.2.2
      have v1 := fun (e : Nat) (he : 6 ≤ e) => c_token (d := e) (p := p) hT hS (by omega) (by omega)
      have v2 := fun (e : Nat) (he : 6 ≤ e) => c_kindOf (d := e) (p := p) (e0 := t_end bs z p) hT hS he (by omega) (by omega)
      have v3 := fun (e : Nat) (he : 6 ≤ e) => c_behind (d := e) (T := T) (M := M) (F := F) (st := st) (k := t_kd bs z p (t_end bs z p)) hs hkd (by omega)
      have v4 := fun (e : Nat) (he : 6 ≤ e) => c_cellSp (d := e) (p := p) (e0 := t_end bs z p) hT hS (by omega) (by omega) (by omega)
      have u0 := kd_ty (T := T) hkd
      by_cases c2 : g_b st (t_kd bs z p (t_end bs z p)) = 10
      · refine ⟨M, F, fun e l5 l6 he => ?_, hR, by rw [t_read, if_pos c1, if_pos c2]; exact hQ, fun _ _ _ _ => rfl, fun _ _ => rfl⟩
        rw [t_read, if_pos c1, if_pos c2]
        have v1 := v1 e he
        have v2 := v2 e he
        have v3 := v3 e he
        rw [c2] at v3
        clear ih hT hS hR hQ v4 hB hB2 hcs hgb
        rw [x_X3_read_16]
        simp (disch := omega) only [x_X3_read_18, x_X3_read_21, x_X3_read_24, x_X3_read_25, x_X3_read_26, x_X3_read_29, x_X3_read_32, x_X3_read_33, x_X3_read_34, x_X3_read_37, x_X3_read_39, x_X3_read_40, x_X3_read_41, x_X3_read_43, x_X3_read_46, x_X3_read_48, x_X3_read_49, x_X3_read_51, x_X3_read_54, x_X3_read_55, x_X3_read_56, x_X3_read_58, x_X3_read_61, x_X3_read_62, List.length_cons, List.length_nil, Nat.reduceLeDiff, Nat.zero_add, iI_add, iI_sub, iI_mul, iI_neg, iI_lt, iI_le, iI_eq, jI_iI, B_True, B_False, B_t, B_f, ck_True, gd_True, cb_v, cb_n, p_mv_rw, p_fv_rw, p_rv_some, pA_1, pA_90, pA_92, pA_3, pA_5, pA_93, pA_4, pA_91, pA_6, pS_i, pB_i, pW_i, pZ_0, pZ_1, pZ_b, bI_e0, u1_s, u1_n, uA_s, uA_n, true_and, and_true, not_true_eq_false, not_false_eq_true, eq_self, iI_z, al1, al5, al3, al4, al90, al91, al92, al93, al6, Int.cast_ofNat_Int, Nat.reduceAdd, Int.reduceNeg, Int.reduceAdd, Int.reduceSub, Int.reduceMul, Int.reduceLT, Int.reduceLE, Int.reduceGT, Int.reduceGE, Int.reduceEq, Int.reduceNe, Nat.reduceEqDiff, Int.zero_add, Int.add_zero, p_ty0, p_ty1, p_ty2, p_ty3, p_ty4, p_ty5, p_ty8, p_ty9, p_ty10, t0, s1, v1, v2, v3, u0, gd_t, B_t, B_f]
      · obtain ⟨M1, F1, w1, R1, Q1, m1, f1⟩ := c_keepT (p := p) (k := t_kd bs z p (t_end bs z p)) (c := t_cs bs z p (t_end bs z p)) hR hQ (by omega) ⟨by omega, hkd, hcs⟩
        have hT1 : TT T F1 a := by
          refine ⟨hT.1, hT.2.1, ?_, hT.2.2.2⟩
          rw [f1 a (by omega)]; exact hT.2.2.1
        have hS1 : TS M1 a bs z := hS.fr (m1 a (by omega) (by omega) (by omega)) (m1 (a + 1) (by omega) (by omega) (by omega))
        obtain ⟨M2, F2, w2, R2, Q2, m2, f2⟩ := ih (k + 1) (g_b st (t_kd bs z p (t_end bs z p))) (t_bk bs z 2000 (t_end bs z p)) M1 F1 _ (by omega) (by rw [List.length_append, List.length_singleton]; omega) (by omega) (by omega) hT1 hS1 R1 Q1
        refine ⟨M2, F2, fun e l5 l6 he => ?_, R2, by rw [t_read, if_pos c1, if_neg c2]; exact Q2, fun b b1 b2 b3 => (m2 b b1 b2 b3).trans (m1 b b1 b2 b3), fun b b1 => (f2 b b1).trans (f1 b b1)⟩
        rw [t_read, if_pos c1, if_neg c2]
        have v1 := v1 e he
        have v2 := v2 e he
        have v3 := v3 e he
        have v4 := v4 e he
        have w1 := w1 e (by omega)
        have w2 := fun l5 l6 => w2 e l5 l6 he
        have v5 := c_blanks (d := e) (p := t_end bs z p) hT1 hS1 (by omega) (by omega)
        have r0 := hR.2.1
        have r1 := hR.1
        rw [Int.natCast_add_one] at w2
        clear ih hT hS hR hQ hT1 hS1 R1 Q1 m1 f1 R2 Q2 m2 f2 hB
        rw [x_X3_read_16]
        simp (disch := omega) only [x_X3_read_18, x_X3_read_21, x_X3_read_24, x_X3_read_25, x_X3_read_26, x_X3_read_29, x_X3_read_32, x_X3_read_33, x_X3_read_34, x_X3_read_37, x_X3_read_39, x_X3_read_40, x_X3_read_41, x_X3_read_43, x_X3_read_46, x_X3_read_48, x_X3_read_49, x_X3_read_51, x_X3_read_54, x_X3_read_55, x_X3_read_56, x_X3_read_58, x_X3_read_61, x_X3_read_62, x_X3_read_63, x_X3_read_64, x_X3_read_65, x_X3_read_67, x_X3_read_68, x_X3_read_69, x_X3_read_71, x_X3_read_74, x_X3_read_77, x_X3_read_78, x_X3_read_80, x_X3_read_83, x_X3_read_84, x_X3_read_87, List.length_cons, List.length_nil, Nat.reduceLeDiff, Nat.zero_add, iI_add, iI_sub, iI_mul, iI_neg, iI_lt, iI_le, iI_eq, jI_iI, B_True, B_False, B_t, B_f, ck_True, gd_True, cb_v, cb_n, p_mv_rw, p_fv_rw, p_rv_some, pA_1, pA_90, pA_92, pA_3, pA_5, pA_93, pA_4, pA_91, pA_6, pS_i, pB_i, pW_i, pZ_0, pZ_1, pZ_b, bI_e0, u1_s, u1_n, uA_s, uA_n, true_and, and_true, not_true_eq_false, not_false_eq_true, eq_self, iI_z, al1, al5, al3, al4, al90, al91, al92, al93, al6, Int.cast_ofNat_Int, Nat.reduceAdd, Int.reduceNeg, Int.reduceAdd, Int.reduceSub, Int.reduceMul, Int.reduceLT, Int.reduceLE, Int.reduceGT, Int.reduceGE, Int.reduceEq, Int.reduceNe, Nat.reduceEqDiff, Int.zero_add, Int.add_zero, p_ty0, p_ty1, p_ty2, p_ty3, p_ty4, p_ty5, p_ty8, p_ty9, p_ty10, t0, s1, v1, v2, v3, v4, v5, w1, w2, r0, u0, gd_t, B_t, B_f]
    · refine ⟨M, F, fun e l5 l6 he => ?_, hR, by rw [t_read, if_neg c1]; exact hQ, fun _ _ _ _ => rfl, fun _ _ => rfl⟩
      rw [t_read, if_neg c1]
      show _ = (some (.inl (some (.int (iI (if z ≤ p ∧ st = 0 then -1 else p)))), T, M, F) : Option pR)
      clear ih hT hS hR hQ
      by_cases c2 : st = 0
      · rw [if_pos ⟨by omega, c2⟩]
        simp (disch := omega) only [x_X3_read_16, x_X3_read_18, x_X3_read_21, x_X3_read_24, x_X3_read_25, x_X3_read_26, x_X3_read_29, x_X3_read_90, x_X3_read_91, x_X3_read_92, x_X3_read_95, x_X3_read_98, x_X3_read_99, x_X3_read_102, x_X3_read_103, x_X3_read_106, x_X3_read_107, List.length_cons, List.length_nil, Nat.reduceLeDiff, Nat.zero_add, iI_add, iI_sub, iI_mul, iI_neg, iI_lt, iI_le, iI_eq, jI_iI, B_True, B_False, B_t, B_f, ck_True, gd_True, cb_v, cb_n, p_mv_rw, p_fv_rw, p_rv_some, pA_1, pA_90, pA_92, pA_3, pA_5, pA_93, pA_4, pA_91, pA_6, pS_i, pB_i, pW_i, pZ_0, pZ_1, pZ_b, bI_e0, u1_s, u1_n, uA_s, uA_n, true_and, and_true, not_true_eq_false, not_false_eq_true, eq_self, iI_z, al1, al5, al3, al4, al90, al91, al92, al93, al6, Int.cast_ofNat_Int, Nat.reduceAdd, Int.reduceNeg, Int.reduceAdd, Int.reduceSub, Int.reduceMul, Int.reduceLT, Int.reduceLE, Int.reduceGT, Int.reduceGE, Int.reduceEq, Int.reduceNe, Nat.reduceEqDiff, Int.zero_add, Int.add_zero, p_ty0, p_ty1, p_ty2, p_ty3, p_ty4, p_ty5, p_ty8, p_ty9, p_ty10, t0, s1, c2, gd_t, B_t, B_f]
      · rw [if_neg (fun q => c2 q.2)]
        simp (disch := omega) only [x_X3_read_16, x_X3_read_18, x_X3_read_21, x_X3_read_24, x_X3_read_25, x_X3_read_26, x_X3_read_29, x_X3_read_90, x_X3_read_91, x_X3_read_92, x_X3_read_95, x_X3_read_98, x_X3_read_99, x_X3_read_102, x_X3_read_103, x_X3_read_106, x_X3_read_107, List.length_cons, List.length_nil, Nat.reduceLeDiff, Nat.zero_add, iI_add, iI_sub, iI_mul, iI_neg, iI_lt, iI_le, iI_eq, jI_iI, B_True, B_False, B_t, B_f, ck_True, gd_True, cb_v, cb_n, p_mv_rw, p_fv_rw, p_rv_some, pA_1, pA_90, pA_92, pA_3, pA_5, pA_93, pA_4, pA_91, pA_6, pS_i, pB_i, pW_i, pZ_0, pZ_1, pZ_b, bI_e0, u1_s, u1_n, uA_s, uA_n, true_and, and_true, not_true_eq_false, not_false_eq_true, eq_self, iI_z, al1, al5, al3, al4, al90, al91, al92, al93, al6, Int.cast_ofNat_Int, Nat.reduceAdd, Int.reduceNeg, Int.reduceAdd, Int.reduceSub, Int.reduceMul, Int.reduceLT, Int.reduceLE, Int.reduceGT, Int.reduceGE, Int.reduceEq, Int.reduceNe, Nat.reduceEqDiff, Int.zero_add, Int.add_zero, p_ty0, p_ty1, p_ty2, p_ty3, p_ty4, p_ty5, p_ty8, p_ty9, p_ty10, t0, s1, gd_t, B_t, B_f]
theorem c_readT {a : Nat} (hT : TT T F a) (ha : a ≠ r ∧ a ≠ r + 1 ∧ a ≠ r + 2 ∧ a ≠ r + 3 ∧ a + 1 ≠ r) (hS : TS M a bs z) (hR : RT T F r) :
    ∃ M' F', (∀ d, 7 ≤ d → callD d m_X3_read [.ref r, .ref a] T M F = some (.inl (some (.int (iI (t_read bs z 400 0 (t_bk bs z 2000 0) []).2))), T, M', F')) ∧ RT T F' r ∧ RS M' F' r (t_read bs z 400 0 (t_bk bs z 2000 0) []).1 ∧ (∀ b, b ≠ r → b ≠ r + 1 → b ≠ r + 2 → M' b = M b) ∧ ∀ b, b ≠ r + 3 → F' b = F b := by
  obtain ⟨M1, hM1⟩ : ∃ M1 : pM, M1 = uA M r (u1 (M r) 3 0) := ⟨_, rfl⟩
  have m1 : ∀ b, b ≠ r → M1 b = M b := fun b hb => by rw [hM1, uA_n hb]
  have hS1 : TS M1 a bs z := hS.fr (m1 _ (by omega)) (m1 _ (by omega))
  have hz := hS.2.2.1
  have hQ1 : RS M1 F r [] := ⟨by rw [hM1, uA_s, u1_s]; rfl, by rw [List.length_nil]; omega, fun x hx => absurd hx List.not_mem_nil, fun j hj => absurd hj (Nat.not_lt_zero j)⟩
  have hB := t_bk_rg 2000 0 (bs := bs) (z := z)
  have hB2 := t_bk_z 2000 0 (bs := bs) (z := z) hz.1
  obtain ⟨M2, F2, w2, R2, Q2, m2, f2⟩ := rd_loop (r := r) (bs := bs) (z := z) hT ha hz.2 400 0 0 (t_bk bs z 2000 0) M1 F [] (by omega) rfl (by omega) (by omega) hT hS1 hR hQ1
  refine ⟨M2, F2, fun d hd => ?_, R2, Q2, fun b b1 b2 b3 => (m2 b b1 b2 b3).trans (m1 b b1), f2⟩
  refine callD_go 6 hd rfl (fun e he => ?_)
  show R e m_X3_read 0 [.val (.ref r), .val (.ref a), .unset, .unset, .unset, .unset, .unset] [] T M F = _
  have v5 := c_blanks (d := e) (p := 0) hT hS1 (by omega) (by omega)
  have w2 := fun l5 l6 => w2 e l5 l6 he
  rw [Int.natCast_zero] at w2
  rw [hM1] at v5 w2
  have t0 := hT.2.1
  have r0 := hR.2.1
  have h0 := hT.1
  have r1 := hR.1
  clear hS1 hQ1 R2 Q2 m2 f2 hT hS hR m1 hM1 hB
  simp (disch := omega) only [x_X3_read_0, x_X3_read_1, x_X3_read_2, x_X3_read_5, x_X3_read_6, x_X3_read_7, x_X3_read_8, x_X3_read_9, x_X3_read_12, x_X3_read_13, x_X3_read_14, List.length_cons, List.length_nil, Nat.reduceLeDiff, Nat.zero_add, iI_add, iI_sub, iI_mul, iI_neg, iI_lt, iI_le, iI_eq, jI_iI, B_True, B_False, B_t, B_f, ck_True, gd_True, cb_v, cb_n, p_mv_rw, p_fv_rw, p_rv_some, pA_1, pA_90, pA_92, pA_3, pA_5, pA_93, pA_4, pA_91, pA_6, pS_i, pB_i, pW_i, pZ_0, pZ_1, pZ_b, bI_e0, u1_s, u1_n, uA_s, uA_n, true_and, and_true, not_true_eq_false, not_false_eq_true, eq_self, iI_z, al1, al5, al3, al4, al90, al91, al92, al93, al6, Int.cast_ofNat_Int, Nat.reduceAdd, Int.reduceNeg, Int.reduceAdd, Int.reduceSub, Int.reduceMul, Int.reduceLT, Int.reduceLE, Int.reduceGT, Int.reduceGE, Int.reduceEq, Int.reduceNe, Nat.reduceEqDiff, Int.zero_add, Int.add_zero, p_ty0, p_ty1, p_ty2, p_ty3, p_ty4, p_ty5, p_ty8, p_ty9, p_ty10, t0, r0, v5, w2, gd_t, B_t, B_f]
end PRDR
