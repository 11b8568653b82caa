section PYGM
variable {d bd lg N : Nat} {T : pT} {M M0 M1 M2 : pM} {F F1 : pF} {bs : Int → Int} {p z e0 b c y st s lw up : Int} {k i m n j : Nat} {kc : Nat → Int}
/-- the grammar over the model's codes -/
def gk (st c : Int) : Int :=
  if st = 0 then (if c = 0 then 9 else if c = 1 then 1 else if c = 2 then 4 else if c = 3 then 5 else 10)
  else if st = 1 then (if 5 ≤ c ∧ c ≤ 6 then 2 else 10)
  else if st = 2 then (if 7 ≤ c ∧ c ≤ 12 then 3 else 10)
  else if st = 3 then (if c = 20 then 9 else 10)
  else if st = 4 then (if 5 ≤ c ∧ c ≤ 6 then 9 else 10)
  else if st = 5 then (if c = 20 then 6 else 10)
  else if st = 6 then (if c = 20 then 7 else 10)
  else if st = 7 then (if c = 4 then 8 else if c = 21 then 0 else 10)
  else if st = 8 then (if 7 ≤ c ∧ c ≤ 12 then 9 else 10)
  else (if c = 21 then 0 else 10)
theorem gk_N : ∀ k : Nat, k < 16 → ∀ s : Nat, s < 10 → gk (s : Int) (mcd k) = g_b (s : Int) k := by decide +kernel
theorem gk_b (hk : k < 16) (hs : 0 ≤ st ∧ st ≤ 9) : gk st (mcd k) = g_b st k := by
  have h := gk_N k hk st.toNat (by omega)
  rwa [Int.toNat_of_nonneg hs.1] at h
theorem gk_X : ∀ s : Nat, s < 10 → gk (s : Int) 22 = 10 ∧ gk (s : Int) 23 = 10 := by decide +kernel
theorem gk_x (hs : 0 ≤ st ∧ st ≤ 9) (hc : c = 22 ∨ c = 23) : gk st c = 10 := by
  have h := gk_X st.toNat (by omega)
  rw [Int.toNat_of_nonneg hs.1] at h
  rcases hc with rfl | rfl
  · exact h.1
  · exact h.2
/-- the grammar runs: done or not, and where it stops -/
def psr (kc : Nat → Int) : Nat → Int → Nat → Bool × Nat
  | 0, _, i => (false, i)
  | n + 1, st, i => if st = 0 ∧ kc i = 22 then (true, i) else if gk st (kc i) = 10 then (false, i) else psr kc n (gk st (kc i)) (i + 1)
theorem psr_go (h : st ≠ 0 ∨ kc i ≠ 22) (h2 : gk st (kc i) = s) (h3 : s ≠ 10) : psr kc (n + 1) st i = psr kc n s (i + 1) := by
  rw [psr, if_neg (by rintro ⟨z1, z2⟩; rcases h with h | h <;> contradiction), h2, if_neg h3]
theorem psr_no (h : st ≠ 0 ∨ kc i ≠ 22) (h2 : gk st (kc i) = 10) : psr kc (n + 1) st i = (false, i) := by
  rw [psr, if_neg (by rintro ⟨z1, z2⟩; rcases h with h | h <;> contradiction), if_pos h2]
/-- the place in the tokens -/
def w23 (M : pM) (x : Int) : pM := uA M 127 (u1 (M 127) 23 x)
theorem w23_w23 (a b : Int) : w23 (w23 M a) b = w23 M b := by
  unfold w23; rw [uA_uA, uA_s, u1_u1]
theorem w23_id (h : M 127 23 = y) : w23 M y = M := by
  unfold w23; rw [← h, u1_id, uA_id]
/-- one token is eaten, or not -/
theorem y_eat (hY : YT T F bd lg N) (hK : TKM M bs z m) (hj : j ≤ m) (hr : (0 ≤ lw ∧ lw ≤ 30) ∧ (0 ≤ up ∧ up ≤ 30)) (hd : 2 ≤ d) :
    callD d m_X8_eat [.ref 127, .int (iI lw), .int (iI up)] T (w23 M (j : Int)) F = some (.inl (some (.int (iI (bI (lw ≤ kcn bs z j ∧ kcn bs z j ≤ up))))), T, w23 M ((j : Int) + bI (lw ≤ kcn bs z j ∧ kcn bs z j ≤ up)), F) := by
  refine callD_go 1 hd rfl (fun e he => ?_)
  show R e m_X8_eat 0 [.val (.ref 127), .val (.int (iI lw)), .val (.int (iI up))] [] T (w23 M (j : Int)) F = _
  have hm := hK.1
  have h141 := (hK.2.2.2.1 j hj).2
  have hkr := kcn_rg (bs := bs) (z := z) j
  have hin := y_isIn (d := e) (T := T) (M := w23 M (j : Int)) (F := F) (n := kcn bs z j) (a := lw) (c := up) he (by omega) (by omega) (by omega)
  obtain ⟨ty127, ty128, fy1, ty129, fy4, ty130, fy5, ty131, fy6, ty132, fy7, ty133, fy8, ty136, fy15, ty137, fy16, ty138, fy17, ty139, fy18, ty140, fy19, ty141, fy20, ty142, fy21, ty143, fy22, hbd, tybd, fy9, hlg, tylg, fy13, hN⟩ := hY
  clear hK
  by_cases c : lw ≤ kcn bs z j ∧ kcn bs z j ≤ up
  · rw [bI_t c] at hin ⊢
    unfold w23 at hin ⊢
    simp (disch := omega) only [x_X8_eat_0, x_X8_eat_1, x_X8_eat_4, x_X8_eat_5, x_X8_eat_8, x_X8_eat_9, x_X8_eat_10, x_X8_eat_11, x_X8_eat_14, x_X8_eat_17, x_X8_eat_18, x_X8_eat_19, x_X8_eat_20, x_X8_eat_21, x_X8_eat_24, x_X8_eat_25, x_X8_eat_26, x_X8_eat_29, x_X8_eat_30, List.length_cons, List.length_nil, Nat.reduceLeDiff, Nat.zero_add, iI_add, iI_sub, iI_mul, iI_neg, iI_lt, iI_le, iI_eq, jI_iI, B_True, B_False, B_t, B_f, ck_True, gd_True, cb_v, cb_n, p_mv_rw, p_fv_rw, p_rv_some, pA_1, pA_90, pA_92, pA_3, pA_2, pA_93, pA_4, pA_91, pA_95, pS_i, pW_i, pZ_0, pZ_1, pZ_b, bI_e0, u1_s, u1_n, uA_s, uA_n, true_and, and_true, not_true_eq_false, not_false_eq_true, eq_self, iI_z, al1, al2, al3, al4, al90, al91, al92, al93, al95, Int.cast_ofNat_Int, Nat.reduceAdd, Int.reduceNeg, Int.reduceAdd, Int.reduceSub, Int.reduceMul, Int.reduceLT, Int.reduceLE, Int.reduceGT, Int.reduceGE, Int.reduceEq, Int.reduceNe, Nat.reduceEqDiff, Int.zero_add, Int.add_zero, p_ty0, p_ty1, p_ty2, p_ty3, p_ty4, p_ty5, p_ty6, p_ty7, p_ty8, p_ty9, p_ty10, p_ty11, ty127, ty128, fy1, ty129, fy4, ty130, fy5, ty131, fy6, ty132, fy7, ty133, fy8, ty136, fy15, ty137, fy16, ty138, fy17, ty139, fy18, ty140, fy19, ty141, fy20, ty142, fy21, ty143, fy22, tybd, fy9, tylg, fy13, h141, hin, uA_uA, u1_u1, gd_t, B_t, B_f]
  · rw [bI_f c] at hin ⊢
    rw [Int.add_zero]
    unfold w23 at hin ⊢
    simp (disch := omega) only [x_X8_eat_0, x_X8_eat_1, x_X8_eat_4, x_X8_eat_5, x_X8_eat_8, x_X8_eat_9, x_X8_eat_10, x_X8_eat_11, x_X8_eat_14, x_X8_eat_17, x_X8_eat_18, x_X8_eat_19, x_X8_eat_20, x_X8_eat_21, x_X8_eat_24, x_X8_eat_25, x_X8_eat_26, x_X8_eat_29, x_X8_eat_30, List.length_cons, List.length_nil, Nat.reduceLeDiff, Nat.zero_add, iI_add, iI_sub, iI_mul, iI_neg, iI_lt, iI_le, iI_eq, jI_iI, B_True, B_False, B_t, B_f, ck_True, gd_True, cb_v, cb_n, p_mv_rw, p_fv_rw, p_rv_some, pA_1, pA_90, pA_92, pA_3, pA_2, pA_93, pA_4, pA_91, pA_95, pS_i, pW_i, pZ_0, pZ_1, pZ_b, bI_e0, u1_s, u1_n, uA_s, uA_n, true_and, and_true, not_true_eq_false, not_false_eq_true, eq_self, iI_z, al1, al2, al3, al4, al90, al91, al92, al93, al95, Int.cast_ofNat_Int, Nat.reduceAdd, Int.reduceNeg, Int.reduceAdd, Int.reduceSub, Int.reduceMul, Int.reduceLT, Int.reduceLE, Int.reduceGT, Int.reduceGE, Int.reduceEq, Int.reduceNe, Nat.reduceEqDiff, Int.zero_add, Int.add_zero, p_ty0, p_ty1, p_ty2, p_ty3, p_ty4, p_ty5, p_ty6, p_ty7, p_ty8, p_ty9, p_ty10, p_ty11, ty127, ty128, fy1, ty129, fy4, ty130, fy5, ty131, fy6, ty132, fy7, ty133, fy8, ty136, fy15, ty137, fy16, ty138, fy17, ty139, fy18, ty140, fy19, ty141, fy20, ty142, fy21, ty143, fy22, tybd, fy9, tylg, fy13, h141, hin, gd_t, B_t, B_f]
theorem TKM.lt (hK : TKM M bs z m) (hj : j ≤ m) (h : kcn bs z j < 22) : j + 1 ≤ m := by
  by_cases e : j = m
  · have := hK.2.1; rw [e] at h; omega
  · omega
theorem y_isLine (hY : YT T F bd lg N) (hK : TKM M bs z m) (hi : i ≤ m) (h22 : kcn bs z i ≠ 22) :
    ∃ (b : Prop) (j : Nat), (∀ d, 4 ≤ d → callD d m_X8_isLine [.ref 127] T (w23 M (i : Int)) F = some (.inl (some (.int (iI (bI b)))), T, w23 M (j : Int), F)) ∧ i ≤ j ∧ j ≤ m ∧
      (b → i < j ∧ ∃ st : Int, (st = 9 ∨ (st = 7 ∧ kcn bs z j ≠ 4)) ∧ ∀ n, psr (kcn bs z) (n + (j - i)) 0 i = psr (kcn bs z) n st j) ∧ (¬ b → ∀ n, psr (kcn bs z) (n + (j - i) + 1) 0 i = (false, j)) := by
  have t0 := hY.1
  have EY : ∀ (lw up : Int) (j : Nat), j ≤ m → ((0 ≤ lw ∧ lw ≤ 30) ∧ (0 ≤ up ∧ up ≤ 30)) → lw ≤ kcn bs z j ∧ kcn bs z j ≤ up → ∀ e, 2 ≤ e → callD e m_X8_eat [.ref 127, .int (iI lw), .int (iI up)] T (w23 M (j : Int)) F = some (.inl (some (.int (iI 1))), T, w23 M ((j + 1 : Nat) : Int), F) := fun lw up j hj hr hc e he => by
    have := y_eat (d := e) hY hK hj hr he
    rwa [bI_t hc] at this
  have EN : ∀ (lw up : Int) (j : Nat), j ≤ m → ((0 ≤ lw ∧ lw ≤ 30) ∧ (0 ≤ up ∧ up ≤ 30)) → ¬ (lw ≤ kcn bs z j ∧ kcn bs z j ≤ up) → ∀ e, 2 ≤ e → callD e m_X8_eat [.ref 127, .int (iI lw), .int (iI up)] T (w23 M (j : Int)) F = some (.inl (some (.int (iI 0))), T, w23 M (j : Int), F) := fun lw up j hj hr hc e he => by
    have := y_eat (d := e) hY hK hj hr he
    rwa [bI_f hc, Int.add_zero] at this
  have PY : ∀ j : Nat, j ≤ m → 7 ≤ kcn bs z j ∧ kcn bs z j ≤ 12 → ∀ e, 3 ≤ e → callD e m_X8_eatPiece [.ref 127] T (w23 M (j : Int)) F = some (.inl (some (.int (iI 1))), T, w23 M ((j + 1 : Nat) : Int), F) := fun j hj hc e he => by
    refine callD_go 2 he rfl (fun e he => ?_)
    show R e m_X8_eatPiece 0 [.val (.ref 127)] [] T (w23 M (j : Int)) F = _
    have := EY 7 12 j hj (by omega) hc e he
    clear EY EN hK hY
    simp (disch := omega) only [x_X8_eatPiece_0, x_X8_eatPiece_1, x_X8_eatPiece_3, x_X8_eatPiece_5, x_X8_eatPiece_8, List.length_cons, List.length_nil, Nat.reduceLeDiff, Nat.zero_add, iI_add, iI_sub, iI_mul, iI_neg, iI_lt, iI_le, iI_eq, jI_iI, B_True, B_False, B_t, B_f, ck_True, gd_True, cb_v, cb_n, p_mv_rw, p_fv_rw, p_rv_some, pA_1, pA_90, pA_92, pA_3, pA_2, pA_93, pA_4, pA_91, pA_95, pS_i, pW_i, pZ_0, pZ_1, pZ_b, bI_e0, u1_s, u1_n, uA_s, uA_n, true_and, and_true, not_true_eq_false, not_false_eq_true, eq_self, iI_z, al1, al2, al3, al4, al90, al91, al92, al93, al95, Int.cast_ofNat_Int, Nat.reduceAdd, Int.reduceNeg, Int.reduceAdd, Int.reduceSub, Int.reduceMul, Int.reduceLT, Int.reduceLE, Int.reduceGT, Int.reduceGE, Int.reduceEq, Int.reduceNe, Nat.reduceEqDiff, Int.zero_add, Int.add_zero, p_ty0, p_ty1, p_ty2, p_ty3, p_ty4, p_ty5, p_ty6, p_ty7, p_ty8, p_ty9, p_ty10, p_ty11, t0, this, gd_t]
  have PN : ∀ j : Nat, j ≤ m → ¬ (7 ≤ kcn bs z j ∧ kcn bs z j ≤ 12) → ∀ e, 3 ≤ e → callD e m_X8_eatPiece [.ref 127] T (w23 M (j : Int)) F = some (.inl (some (.int (iI 0))), T, w23 M (j : Int), F) := fun j hj hc e he => by
    refine callD_go 2 he rfl (fun e he => ?_)
    show R e m_X8_eatPiece 0 [.val (.ref 127)] [] T (w23 M (j : Int)) F = _
    have := EN 7 12 j hj (by omega) hc e he
    clear EY EN hK hY
    simp (disch := omega) only [x_X8_eatPiece_0, x_X8_eatPiece_1, x_X8_eatPiece_3, x_X8_eatPiece_5, x_X8_eatPiece_8, List.length_cons, List.length_nil, Nat.reduceLeDiff, Nat.zero_add, iI_add, iI_sub, iI_mul, iI_neg, iI_lt, iI_le, iI_eq, jI_iI, B_True, B_False, B_t, B_f, ck_True, gd_True, cb_v, cb_n, p_mv_rw, p_fv_rw, p_rv_some, pA_1, pA_90, pA_92, pA_3, pA_2, pA_93, pA_4, pA_91, pA_95, pS_i, pW_i, pZ_0, pZ_1, pZ_b, bI_e0, u1_s, u1_n, uA_s, uA_n, true_and, and_true, not_true_eq_false, not_false_eq_true, eq_self, iI_z, al1, al2, al3, al4, al90, al91, al92, al93, al95, Int.cast_ofNat_Int, Nat.reduceAdd, Int.reduceNeg, Int.reduceAdd, Int.reduceSub, Int.reduceMul, Int.reduceLT, Int.reduceLE, Int.reduceGT, Int.reduceGE, Int.reduceEq, Int.reduceNe, Nat.reduceEqDiff, Int.zero_add, Int.add_zero, p_ty0, p_ty1, p_ty2, p_ty3, p_ty4, p_ty5, p_ty6, p_ty7, p_ty8, p_ty9, p_ty10, p_ty11, t0, this, gd_t]
  have lt := fun (j : Nat) (hj : j ≤ m) (h : kcn bs z j < 22) => hK.lt hj h
  by_cases c0 : kcn bs z i = 0
  · have l1 := lt i hi (by omega)
    refine ⟨True, i + 1, fun d hd => ?_, by omega, l1, fun _ => ⟨by omega, 9, Or.inl rfl, fun n => ?_⟩, fun q => absurd trivial q⟩
    · refine callD_go 3 hd rfl (fun e he => ?_)
      show R e m_X8_isLine 0 [.val (.ref 127)] [] T (w23 M (i : Int)) F = _
      have v1 := EY 0 0 i hi (by omega) (by omega) e (by omega)
      rw [bI_t trivial]
      clear EY EN PY PN lt hK hY
      simp (disch := omega) only [x_X8_isLine_0, x_X8_isLine_1, x_X8_isLine_2, x_X8_isLine_3, x_X8_isLine_6, x_X8_isLine_9, x_X8_isLine_10, List.length_cons, List.length_nil, Nat.reduceLeDiff, Nat.zero_add, iI_add, iI_sub, iI_mul, iI_neg, iI_lt, iI_le, iI_eq, jI_iI, B_True, B_False, B_t, B_f, ck_True, gd_True, cb_v, cb_n, p_mv_rw, p_fv_rw, p_rv_some, pA_1, pA_90, pA_92, pA_3, pA_2, pA_93, pA_4, pA_91, pA_95, pS_i, pW_i, pZ_0, pZ_1, pZ_b, bI_e0, u1_s, u1_n, uA_s, uA_n, true_and, and_true, not_true_eq_false, not_false_eq_true, eq_self, iI_z, al1, al2, al3, al4, al90, al91, al92, al93, al95, Int.cast_ofNat_Int, Nat.reduceAdd, Int.reduceNeg, Int.reduceAdd, Int.reduceSub, Int.reduceMul, Int.reduceLT, Int.reduceLE, Int.reduceGT, Int.reduceGE, Int.reduceEq, Int.reduceNe, Nat.reduceEqDiff, Int.zero_add, Int.add_zero, p_ty0, p_ty1, p_ty2, p_ty3, p_ty4, p_ty5, p_ty6, p_ty7, p_ty8, p_ty9, p_ty10, p_ty11, t0, v1, gd_t, B_t, B_f]
    · rw [show i + 1 - i = 1 by omega]
      exact psr_go (Or.inr h22) (by rw [c0]; rfl) (by decide)
  have v0 := EN 0 0 i hi (by omega) (by omega)
  by_cases c1 : kcn bs z i = 1
  · have l1 := lt i hi (by omega)
    have v1 := EY 1 1 i hi (by omega) (by omega)
    have p1 : ∀ n, psr (kcn bs z) (n + 1) 0 i = psr (kcn bs z) n 1 (i + 1) := fun n => psr_go (Or.inr h22) (by rw [c1]; rfl) (by decide)
    by_cases c2 : 5 ≤ kcn bs z (i + 1) ∧ kcn bs z (i + 1) ≤ 6
    · have l2 := lt (i + 1) l1 (by omega)
      have v2 := EY 5 6 (i + 1) l1 (by omega) c2
      have p2 : ∀ n, psr (kcn bs z) (n + 1) 1 (i + 1) = psr (kcn bs z) n 2 (i + 1 + 1) := fun n => psr_go (Or.inl (by decide)) (if_pos c2) (by decide)
      by_cases c3 : 7 ≤ kcn bs z (i + 1 + 1) ∧ kcn bs z (i + 1 + 1) ≤ 12
      · have l3 := lt (i + 1 + 1) l2 (by omega)
        have v3 := PY (i + 1 + 1) l2 c3
        have p3 : ∀ n, psr (kcn bs z) (n + 1) 2 (i + 1 + 1) = psr (kcn bs z) n 3 (i + 1 + 1 + 1) := fun n => psr_go (Or.inl (by decide)) (if_pos c3) (by decide)
        by_cases c4 : kcn bs z (i + 1 + 1 + 1) = 20
        · have l4 := lt (i + 1 + 1 + 1) l3 (by omega)
          have v4 := EY 20 20 (i + 1 + 1 + 1) l3 (by omega) (by omega)
          refine ⟨True, i + 1 + 1 + 1 + 1, fun d hd => ?_, by omega, l4, fun _ => ⟨by omega, 9, Or.inl rfl, fun n => ?_⟩, fun q => absurd trivial q⟩
          · refine callD_go 3 hd rfl (fun e he => ?_)
            show R e m_X8_isLine 0 [.val (.ref 127)] [] T (w23 M (i : Int)) F = _
            have v0 := v0 e (by omega)
            have v1 := v1 e (by omega)
            have v2 := v2 e (by omega)
            have v3 := v3 e he
            have v4 := v4 e (by omega)
            rw [bI_t trivial]
            clear EY EN PY PN lt hK hY p1 p2 p3
            simp (disch := omega) only [x_X8_isLine_0, x_X8_isLine_1, x_X8_isLine_2, x_X8_isLine_3, x_X8_isLine_6, x_X8_isLine_9, x_X8_isLine_10, x_X8_isLine_11, x_X8_isLine_12, x_X8_isLine_13, x_X8_isLine_14, x_X8_isLine_17, x_X8_isLine_20, x_X8_isLine_21, x_X8_isLine_22, x_X8_isLine_24, x_X8_isLine_27, x_X8_isLine_30, x_X8_isLine_31, x_X8_isLine_34, x_X8_isLine_37, x_X8_isLine_38, x_X8_isLine_40, x_X8_isLine_42, x_X8_isLine_45, x_X8_isLine_48, x_X8_isLine_49, x_X8_isLine_52, x_X8_isLine_53, List.length_cons, List.length_nil, Nat.reduceLeDiff, Nat.zero_add, iI_add, iI_sub, iI_mul, iI_neg, iI_lt, iI_le, iI_eq, jI_iI, B_True, B_False, B_t, B_f, ck_True, gd_True, cb_v, cb_n, p_mv_rw, p_fv_rw, p_rv_some, pA_1, pA_90, pA_92, pA_3, pA_2, pA_93, pA_4, pA_91, pA_95, pS_i, pW_i, pZ_0, pZ_1, pZ_b, bI_e0, u1_s, u1_n, uA_s, uA_n, true_and, and_true, not_true_eq_false, not_false_eq_true, eq_self, iI_z, al1, al2, al3, al4, al90, al91, al92, al93, al95, Int.cast_ofNat_Int, Nat.reduceAdd, Int.reduceNeg, Int.reduceAdd, Int.reduceSub, Int.reduceMul, Int.reduceLT, Int.reduceLE, Int.reduceGT, Int.reduceGE, Int.reduceEq, Int.reduceNe, Nat.reduceEqDiff, Int.zero_add, Int.add_zero, p_ty0, p_ty1, p_ty2, p_ty3, p_ty4, p_ty5, p_ty6, p_ty7, p_ty8, p_ty9, p_ty10, p_ty11, t0, v0, v1, v2, v3, v4, gd_t, B_t, B_f]
          · rw [show n + (i + 1 + 1 + 1 + 1 - i) = n + 1 + 1 + 1 + 1 by omega, p1, p2, p3]
            exact psr_go (Or.inl (by decide)) (if_pos c4) (by decide)
        · have v4 := EN 20 20 (i + 1 + 1 + 1) l3 (by omega) (by omega)
          refine ⟨False, i + 1 + 1 + 1, fun d hd => ?_, by omega, l3, fun q => q.elim, fun _ n => ?_⟩
          · refine callD_go 3 hd rfl (fun e he => ?_)
            show R e m_X8_isLine 0 [.val (.ref 127)] [] T (w23 M (i : Int)) F = _
            have v0 := v0 e (by omega)
            have v1 := v1 e (by omega)
            have v2 := v2 e (by omega)
            have v3 := v3 e he
            have v4 := v4 e (by omega)
            rw [bI_f id]
            clear EY EN PY PN lt hK hY p1 p2 p3
            simp (disch := omega) only [x_X8_isLine_0, x_X8_isLine_1, x_X8_isLine_2, x_X8_isLine_3, x_X8_isLine_6, x_X8_isLine_9, x_X8_isLine_10, x_X8_isLine_11, x_X8_isLine_12, x_X8_isLine_13, x_X8_isLine_14, x_X8_isLine_17, x_X8_isLine_20, x_X8_isLine_21, x_X8_isLine_22, x_X8_isLine_24, x_X8_isLine_27, x_X8_isLine_30, x_X8_isLine_31, x_X8_isLine_34, x_X8_isLine_37, x_X8_isLine_38, x_X8_isLine_40, x_X8_isLine_42, x_X8_isLine_45, x_X8_isLine_48, x_X8_isLine_49, x_X8_isLine_52, x_X8_isLine_53, List.length_cons, List.length_nil, Nat.reduceLeDiff, Nat.zero_add, iI_add, iI_sub, iI_mul, iI_neg, iI_lt, iI_le, iI_eq, jI_iI, B_True, B_False, B_t, B_f, ck_True, gd_True, cb_v, cb_n, p_mv_rw, p_fv_rw, p_rv_some, pA_1, pA_90, pA_92, pA_3, pA_2, pA_93, pA_4, pA_91, pA_95, pS_i, pW_i, pZ_0, pZ_1, pZ_b, bI_e0, u1_s, u1_n, uA_s, uA_n, true_and, and_true, not_true_eq_false, not_false_eq_true, eq_self, iI_z, al1, al2, al3, al4, al90, al91, al92, al93, al95, Int.cast_ofNat_Int, Nat.reduceAdd, Int.reduceNeg, Int.reduceAdd, Int.reduceSub, Int.reduceMul, Int.reduceLT, Int.reduceLE, Int.reduceGT, Int.reduceGE, Int.reduceEq, Int.reduceNe, Nat.reduceEqDiff, Int.zero_add, Int.add_zero, p_ty0, p_ty1, p_ty2, p_ty3, p_ty4, p_ty5, p_ty6, p_ty7, p_ty8, p_ty9, p_ty10, p_ty11, t0, v0, v1, v2, v3, v4, gd_t, B_t, B_f]
          · rw [show n + (i + 1 + 1 + 1 - i) + 1 = n + 1 + 1 + 1 + 1 by omega, p1, p2, p3]
            exact psr_no (Or.inl (by decide)) (if_neg c4)
      · have v3 := PN (i + 1 + 1) l2 c3
        refine ⟨False, i + 1 + 1, fun d hd => ?_, by omega, l2, fun q => q.elim, fun _ n => ?_⟩
        · refine callD_go 3 hd rfl (fun e he => ?_)
          show R e m_X8_isLine 0 [.val (.ref 127)] [] T (w23 M (i : Int)) F = _
          have v0 := v0 e (by omega)
          have v1 := v1 e (by omega)
          have v2 := v2 e (by omega)
          have v3 := v3 e he
          rw [bI_f id]
          clear EY EN PY PN lt hK hY p1 p2
          simp (disch := omega) only [x_X8_isLine_0, x_X8_isLine_1, x_X8_isLine_2, x_X8_isLine_3, x_X8_isLine_6, x_X8_isLine_9, x_X8_isLine_10, x_X8_isLine_11, x_X8_isLine_12, x_X8_isLine_13, x_X8_isLine_14, x_X8_isLine_17, x_X8_isLine_20, x_X8_isLine_21, x_X8_isLine_22, x_X8_isLine_24, x_X8_isLine_27, x_X8_isLine_30, x_X8_isLine_31, x_X8_isLine_34, x_X8_isLine_37, x_X8_isLine_38, x_X8_isLine_40, x_X8_isLine_42, x_X8_isLine_45, x_X8_isLine_48, x_X8_isLine_49, x_X8_isLine_52, x_X8_isLine_53, List.length_cons, List.length_nil, Nat.reduceLeDiff, Nat.zero_add, iI_add, iI_sub, iI_mul, iI_neg, iI_lt, iI_le, iI_eq, jI_iI, B_True, B_False, B_t, B_f, ck_True, gd_True, cb_v, cb_n, p_mv_rw, p_fv_rw, p_rv_some, pA_1, pA_90, pA_92, pA_3, pA_2, pA_93, pA_4, pA_91, pA_95, pS_i, pW_i, pZ_0, pZ_1, pZ_b, bI_e0, u1_s, u1_n, uA_s, uA_n, true_and, and_true, not_true_eq_false, not_false_eq_true, eq_self, iI_z, al1, al2, al3, al4, al90, al91, al92, al93, al95, Int.cast_ofNat_Int, Nat.reduceAdd, Int.reduceNeg, Int.reduceAdd, Int.reduceSub, Int.reduceMul, Int.reduceLT, Int.reduceLE, Int.reduceGT, Int.reduceGE, Int.reduceEq, Int.reduceNe, Nat.reduceEqDiff, Int.zero_add, Int.add_zero, p_ty0, p_ty1, p_ty2, p_ty3, p_ty4, p_ty5, p_ty6, p_ty7, p_ty8, p_ty9, p_ty10, p_ty11, t0, v0, v1, v2, v3, gd_t, B_t, B_f]
        · rw [show n + (i + 1 + 1 - i) + 1 = n + 1 + 1 + 1 by omega, p1, p2]
          exact psr_no (Or.inl (by decide)) (if_neg c3)
    · have v2 := EN 5 6 (i + 1) l1 (by omega) c2
      refine ⟨False, i + 1, fun d hd => ?_, by omega, l1, fun q => q.elim, fun _ n => ?_⟩
      · refine callD_go 3 hd rfl (fun e he => ?_)
        show R e m_X8_isLine 0 [.val (.ref 127)] [] T (w23 M (i : Int)) F = _
        have v0 := v0 e (by omega)
        have v1 := v1 e (by omega)
        have v2 := v2 e (by omega)
        rw [bI_f id]
        clear EY EN PY PN lt hK hY p1
        simp (disch := omega) only [x_X8_isLine_0, x_X8_isLine_1, x_X8_isLine_2, x_X8_isLine_3, x_X8_isLine_6, x_X8_isLine_9, x_X8_isLine_10, x_X8_isLine_11, x_X8_isLine_12, x_X8_isLine_13, x_X8_isLine_14, x_X8_isLine_17, x_X8_isLine_20, x_X8_isLine_21, x_X8_isLine_22, x_X8_isLine_24, x_X8_isLine_27, x_X8_isLine_30, x_X8_isLine_31, x_X8_isLine_34, x_X8_isLine_37, x_X8_isLine_38, x_X8_isLine_40, x_X8_isLine_42, x_X8_isLine_45, x_X8_isLine_48, x_X8_isLine_49, x_X8_isLine_52, x_X8_isLine_53, List.length_cons, List.length_nil, Nat.reduceLeDiff, Nat.zero_add, iI_add, iI_sub, iI_mul, iI_neg, iI_lt, iI_le, iI_eq, jI_iI, B_True, B_False, B_t, B_f, ck_True, gd_True, cb_v, cb_n, p_mv_rw, p_fv_rw, p_rv_some, pA_1, pA_90, pA_92, pA_3, pA_2, pA_93, pA_4, pA_91, pA_95, pS_i, pW_i, pZ_0, pZ_1, pZ_b, bI_e0, u1_s, u1_n, uA_s, uA_n, true_and, and_true, not_true_eq_false, not_false_eq_true, eq_self, iI_z, al1, al2, al3, al4, al90, al91, al92, al93, al95, Int.cast_ofNat_Int, Nat.reduceAdd, Int.reduceNeg, Int.reduceAdd, Int.reduceSub, Int.reduceMul, Int.reduceLT, Int.reduceLE, Int.reduceGT, Int.reduceGE, Int.reduceEq, Int.reduceNe, Nat.reduceEqDiff, Int.zero_add, Int.add_zero, p_ty0, p_ty1, p_ty2, p_ty3, p_ty4, p_ty5, p_ty6, p_ty7, p_ty8, p_ty9, p_ty10, p_ty11, t0, v0, v1, v2, gd_t, B_t, B_f]
      · rw [show n + (i + 1 - i) + 1 = n + 1 + 1 by omega, p1]
        exact psr_no (Or.inl (by decide)) (if_neg c2)
  have v1 := EN 1 1 i hi (by omega) (by omega)
  by_cases c2 : kcn bs z i = 2
  · have l1 := lt i hi (by omega)
    have v2 := EY 2 2 i hi (by omega) (by omega)
    have p1 : ∀ n, psr (kcn bs z) (n + 1) 0 i = psr (kcn bs z) n 4 (i + 1) := fun n => psr_go (Or.inr h22) (by rw [c2]; rfl) (by decide)
    by_cases c3 : 5 ≤ kcn bs z (i + 1) ∧ kcn bs z (i + 1) ≤ 6
    · have l2 := lt (i + 1) l1 (by omega)
      have v3 := EY 5 6 (i + 1) l1 (by omega) c3
      refine ⟨True, i + 1 + 1, fun d hd => ?_, by omega, l2, fun _ => ⟨by omega, 9, Or.inl rfl, fun n => ?_⟩, fun q => absurd trivial q⟩
      · refine callD_go 3 hd rfl (fun e he => ?_)
        show R e m_X8_isLine 0 [.val (.ref 127)] [] T (w23 M (i : Int)) F = _
        have v0 := v0 e (by omega)
        have v1 := v1 e (by omega)
        have v2 := v2 e (by omega)
        have v3 := v3 e (by omega)
        rw [bI_t trivial]
        clear EY EN PY PN lt hK hY p1
        simp (disch := omega) only [x_X8_isLine_0, x_X8_isLine_1, x_X8_isLine_2, x_X8_isLine_3, x_X8_isLine_6, x_X8_isLine_9, x_X8_isLine_10, x_X8_isLine_11, x_X8_isLine_12, x_X8_isLine_13, x_X8_isLine_14, x_X8_isLine_17, x_X8_isLine_20, x_X8_isLine_21, x_X8_isLine_22, x_X8_isLine_24, x_X8_isLine_27, x_X8_isLine_30, x_X8_isLine_31, x_X8_isLine_34, x_X8_isLine_37, x_X8_isLine_38, x_X8_isLine_40, x_X8_isLine_42, x_X8_isLine_45, x_X8_isLine_48, x_X8_isLine_49, x_X8_isLine_52, x_X8_isLine_53, x_X8_isLine_54, x_X8_isLine_55, x_X8_isLine_56, x_X8_isLine_57, x_X8_isLine_60, x_X8_isLine_63, x_X8_isLine_64, x_X8_isLine_65, x_X8_isLine_67, x_X8_isLine_70, List.length_cons, List.length_nil, Nat.reduceLeDiff, Nat.zero_add, iI_add, iI_sub, iI_mul, iI_neg, iI_lt, iI_le, iI_eq, jI_iI, B_True, B_False, B_t, B_f, ck_True, gd_True, cb_v, cb_n, p_mv_rw, p_fv_rw, p_rv_some, pA_1, pA_90, pA_92, pA_3, pA_2, pA_93, pA_4, pA_91, pA_95, pS_i, pW_i, pZ_0, pZ_1, pZ_b, bI_e0, u1_s, u1_n, uA_s, uA_n, true_and, and_true, not_true_eq_false, not_false_eq_true, eq_self, iI_z, al1, al2, al3, al4, al90, al91, al92, al93, al95, Int.cast_ofNat_Int, Nat.reduceAdd, Int.reduceNeg, Int.reduceAdd, Int.reduceSub, Int.reduceMul, Int.reduceLT, Int.reduceLE, Int.reduceGT, Int.reduceGE, Int.reduceEq, Int.reduceNe, Nat.reduceEqDiff, Int.zero_add, Int.add_zero, p_ty0, p_ty1, p_ty2, p_ty3, p_ty4, p_ty5, p_ty6, p_ty7, p_ty8, p_ty9, p_ty10, p_ty11, t0, v0, v1, v2, v3, gd_t, B_t, B_f]
      · rw [show n + (i + 1 + 1 - i) = n + 1 + 1 by omega, p1]
        exact psr_go (Or.inl (by decide)) (if_pos c3) (by decide)
    · have v3 := EN 5 6 (i + 1) l1 (by omega) c3
      refine ⟨False, i + 1, fun d hd => ?_, by omega, l1, fun q => q.elim, fun _ n => ?_⟩
      · refine callD_go 3 hd rfl (fun e he => ?_)
        show R e m_X8_isLine 0 [.val (.ref 127)] [] T (w23 M (i : Int)) F = _
        have v0 := v0 e (by omega)
        have v1 := v1 e (by omega)
        have v2 := v2 e (by omega)
        have v3 := v3 e (by omega)
        rw [bI_f id]
        clear EY EN PY PN lt hK hY p1
        simp (disch := omega) only [x_X8_isLine_0, x_X8_isLine_1, x_X8_isLine_2, x_X8_isLine_3, x_X8_isLine_6, x_X8_isLine_9, x_X8_isLine_10, x_X8_isLine_11, x_X8_isLine_12, x_X8_isLine_13, x_X8_isLine_14, x_X8_isLine_17, x_X8_isLine_20, x_X8_isLine_21, x_X8_isLine_22, x_X8_isLine_24, x_X8_isLine_27, x_X8_isLine_30, x_X8_isLine_31, x_X8_isLine_34, x_X8_isLine_37, x_X8_isLine_38, x_X8_isLine_40, x_X8_isLine_42, x_X8_isLine_45, x_X8_isLine_48, x_X8_isLine_49, x_X8_isLine_52, x_X8_isLine_53, x_X8_isLine_54, x_X8_isLine_55, x_X8_isLine_56, x_X8_isLine_57, x_X8_isLine_60, x_X8_isLine_63, x_X8_isLine_64, x_X8_isLine_65, x_X8_isLine_67, x_X8_isLine_70, List.length_cons, List.length_nil, Nat.reduceLeDiff, Nat.zero_add, iI_add, iI_sub, iI_mul, iI_neg, iI_lt, iI_le, iI_eq, jI_iI, B_True, B_False, B_t, B_f, ck_True, gd_True, cb_v, cb_n, p_mv_rw, p_fv_rw, p_rv_some, pA_1, pA_90, pA_92, pA_3, pA_2, pA_93, pA_4, pA_91, pA_95, pS_i, pW_i, pZ_0, pZ_1, pZ_b, bI_e0, u1_s, u1_n, uA_s, uA_n, true_and, and_true, not_true_eq_false, not_false_eq_true, eq_self, iI_z, al1, al2, al3, al4, al90, al91, al92, al93, al95, Int.cast_ofNat_Int, Nat.reduceAdd, Int.reduceNeg, Int.reduceAdd, Int.reduceSub, Int.reduceMul, Int.reduceLT, Int.reduceLE, Int.reduceGT, Int.reduceGE, Int.reduceEq, Int.reduceNe, Nat.reduceEqDiff, Int.zero_add, Int.add_zero, p_ty0, p_ty1, p_ty2, p_ty3, p_ty4, p_ty5, p_ty6, p_ty7, p_ty8, p_ty9, p_ty10, p_ty11, t0, v0, v1, v2, v3, gd_t, B_t, B_f]
      · rw [show n + (i + 1 - i) + 1 = n + 1 + 1 by omega, p1]
        exact psr_no (Or.inl (by decide)) (if_neg c3)
  have v2 := EN 2 2 i hi (by omega) (by omega)
  by_cases c3 : kcn bs z i = 3
  · have l1 := lt i hi (by omega)
    have v3 := EY 3 3 i hi (by omega) (by omega)
    have p1 : ∀ n, psr (kcn bs z) (n + 1) 0 i = psr (kcn bs z) n 5 (i + 1) := fun n => psr_go (Or.inr h22) (by rw [c3]; rfl) (by decide)
    by_cases c4 : kcn bs z (i + 1) = 20
    · have l2 := lt (i + 1) l1 (by omega)
      have v4 := EY 20 20 (i + 1) l1 (by omega) (by omega)
      have p2 : ∀ n, psr (kcn bs z) (n + 1) 5 (i + 1) = psr (kcn bs z) n 6 (i + 1 + 1) := fun n => psr_go (Or.inl (by decide)) (if_pos c4) (by decide)
      by_cases c5 : kcn bs z (i + 1 + 1) = 20
      · have l3 := lt (i + 1 + 1) l2 (by omega)
        have v5 := EY 20 20 (i + 1 + 1) l2 (by omega) (by omega)
        have p3 : ∀ n, psr (kcn bs z) (n + 1) 6 (i + 1 + 1) = psr (kcn bs z) n 7 (i + 1 + 1 + 1) := fun n => psr_go (Or.inl (by decide)) (if_pos c5) (by decide)
        by_cases c6 : kcn bs z (i + 1 + 1 + 1) = 4
        · have l4 := lt (i + 1 + 1 + 1) l3 (by omega)
          have v6 := EY 4 4 (i + 1 + 1 + 1) l3 (by omega) (by omega)
          have p4 : ∀ n, psr (kcn bs z) (n + 1) 7 (i + 1 + 1 + 1) = psr (kcn bs z) n 8 (i + 1 + 1 + 1 + 1) := fun n => psr_go (Or.inl (by decide)) (if_pos c6) (by decide)
          by_cases c7 : 7 ≤ kcn bs z (i + 1 + 1 + 1 + 1) ∧ kcn bs z (i + 1 + 1 + 1 + 1) ≤ 12
          · have l5 := lt (i + 1 + 1 + 1 + 1) l4 (by omega)
            have v7 := PY (i + 1 + 1 + 1 + 1) l4 c7
            refine ⟨True, i + 1 + 1 + 1 + 1 + 1, fun d hd => ?_, by omega, l5, fun _ => ⟨by omega, 9, Or.inl rfl, fun n => ?_⟩, fun q => absurd trivial q⟩
            · refine callD_go 3 hd rfl (fun e he => ?_)
              show R e m_X8_isLine 0 [.val (.ref 127)] [] T (w23 M (i : Int)) F = _
              have v0 := v0 e (by omega)
              have v1 := v1 e (by omega)
              have v2 := v2 e (by omega)
              have v3 := v3 e (by omega)
              have v4 := v4 e (by omega)
              have v5 := v5 e (by omega)
              have v6 := v6 e (by omega)
              have v7 := v7 e he
              rw [bI_t trivial]
              clear EY EN PY PN lt hK hY p1 p2 p3 p4
              simp (disch := omega) only [x_X8_isLine_0, x_X8_isLine_1, x_X8_isLine_2, x_X8_isLine_3, x_X8_isLine_6, x_X8_isLine_9, x_X8_isLine_10, x_X8_isLine_11, x_X8_isLine_12, x_X8_isLine_13, x_X8_isLine_14, x_X8_isLine_17, x_X8_isLine_20, x_X8_isLine_21, x_X8_isLine_22, x_X8_isLine_24, x_X8_isLine_27, x_X8_isLine_30, x_X8_isLine_31, x_X8_isLine_34, x_X8_isLine_37, x_X8_isLine_38, x_X8_isLine_40, x_X8_isLine_42, x_X8_isLine_45, x_X8_isLine_48, x_X8_isLine_49, x_X8_isLine_52, x_X8_isLine_53, x_X8_isLine_54, x_X8_isLine_55, x_X8_isLine_56, x_X8_isLine_57, x_X8_isLine_60, x_X8_isLine_63, x_X8_isLine_64, x_X8_isLine_65, x_X8_isLine_67, x_X8_isLine_70, x_X8_isLine_71, x_X8_isLine_72, x_X8_isLine_73, x_X8_isLine_74, x_X8_isLine_77, x_X8_isLine_80, x_X8_isLine_81, x_X8_isLine_83, x_X8_isLine_85, x_X8_isLine_88, x_X8_isLine_91, x_X8_isLine_92, x_X8_isLine_94, x_X8_isLine_96, x_X8_isLine_99, x_X8_isLine_102, x_X8_isLine_103, x_X8_isLine_104, x_X8_isLine_105, x_X8_isLine_108, x_X8_isLine_111, x_X8_isLine_112, x_X8_isLine_115, x_X8_isLine_118, x_X8_isLine_119, x_X8_isLine_122, x_X8_isLine_123, List.length_cons, List.length_nil, Nat.reduceLeDiff, Nat.zero_add, iI_add, iI_sub, iI_mul, iI_neg, iI_lt, iI_le, iI_eq, jI_iI, B_True, B_False, B_t, B_f, ck_True, gd_True, cb_v, cb_n, p_mv_rw, p_fv_rw, p_rv_some, pA_1, pA_90, pA_92, pA_3, pA_2, pA_93, pA_4, pA_91, pA_95, pS_i, pW_i, pZ_0, pZ_1, pZ_b, bI_e0, u1_s, u1_n, uA_s, uA_n, true_and, and_true, not_true_eq_false, not_false_eq_true, eq_self, iI_z, al1, al2, al3, al4, al90, al91, al92, al93, al95, Int.cast_ofNat_Int, Nat.reduceAdd, Int.reduceNeg, Int.reduceAdd, Int.reduceSub, Int.reduceMul, Int.reduceLT, Int.reduceLE, Int.reduceGT, Int.reduceGE, Int.reduceEq, Int.reduceNe, Nat.reduceEqDiff, Int.zero_add, Int.add_zero, p_ty0, p_ty1, p_ty2, p_ty3, p_ty4, p_ty5, p_ty6, p_ty7, p_ty8, p_ty9, p_ty10, p_ty11, t0, v0, v1, v2, v3, v4, v5, v6, v7, gd_t, B_t, B_f]
            · rw [show n + (i + 1 + 1 + 1 + 1 + 1 - i) = n + 1 + 1 + 1 + 1 + 1 by omega, p1, p2, p3, p4]
              exact psr_go (Or.inl (by decide)) (if_pos c7) (by decide)
          · have v7 := PN (i + 1 + 1 + 1 + 1) l4 c7
            refine ⟨False, i + 1 + 1 + 1 + 1, fun d hd => ?_, by omega, l4, fun q => q.elim, fun _ n => ?_⟩
            · refine callD_go 3 hd rfl (fun e he => ?_)
              show R e m_X8_isLine 0 [.val (.ref 127)] [] T (w23 M (i : Int)) F = _
              have v0 := v0 e (by omega)
              have v1 := v1 e (by omega)
              have v2 := v2 e (by omega)
              have v3 := v3 e (by omega)
              have v4 := v4 e (by omega)
              have v5 := v5 e (by omega)
              have v6 := v6 e (by omega)
              have v7 := v7 e he
              rw [bI_f id]
              clear EY EN PY PN lt hK hY p1 p2 p3 p4
              simp (disch := omega) only [x_X8_isLine_0, x_X8_isLine_1, x_X8_isLine_2, x_X8_isLine_3, x_X8_isLine_6, x_X8_isLine_9, x_X8_isLine_10, x_X8_isLine_11, x_X8_isLine_12, x_X8_isLine_13, x_X8_isLine_14, x_X8_isLine_17, x_X8_isLine_20, x_X8_isLine_21, x_X8_isLine_22, x_X8_isLine_24, x_X8_isLine_27, x_X8_isLine_30, x_X8_isLine_31, x_X8_isLine_34, x_X8_isLine_37, x_X8_isLine_38, x_X8_isLine_40, x_X8_isLine_42, x_X8_isLine_45, x_X8_isLine_48, x_X8_isLine_49, x_X8_isLine_52, x_X8_isLine_53, x_X8_isLine_54, x_X8_isLine_55, x_X8_isLine_56, x_X8_isLine_57, x_X8_isLine_60, x_X8_isLine_63, x_X8_isLine_64, x_X8_isLine_65, x_X8_isLine_67, x_X8_isLine_70, x_X8_isLine_71, x_X8_isLine_72, x_X8_isLine_73, x_X8_isLine_74, x_X8_isLine_77, x_X8_isLine_80, x_X8_isLine_81, x_X8_isLine_83, x_X8_isLine_85, x_X8_isLine_88, x_X8_isLine_91, x_X8_isLine_92, x_X8_isLine_94, x_X8_isLine_96, x_X8_isLine_99, x_X8_isLine_102, x_X8_isLine_103, x_X8_isLine_104, x_X8_isLine_105, x_X8_isLine_108, x_X8_isLine_111, x_X8_isLine_112, x_X8_isLine_115, x_X8_isLine_118, x_X8_isLine_119, x_X8_isLine_122, x_X8_isLine_123, List.length_cons, List.length_nil, Nat.reduceLeDiff, Nat.zero_add, iI_add, iI_sub, iI_mul, iI_neg, iI_lt, iI_le, iI_eq, jI_iI, B_True, B_False, B_t, B_f, ck_True, gd_True, cb_v, cb_n, p_mv_rw, p_fv_rw, p_rv_some, pA_1, pA_90, pA_92, pA_3, pA_2, pA_93, pA_4, pA_91, pA_95, pS_i, pW_i, pZ_0, pZ_1, pZ_b, bI_e0, u1_s, u1_n, uA_s, uA_n, true_and, and_true, not_true_eq_false, not_false_eq_true, eq_self, iI_z, al1, al2, al3, al4, al90, al91, al92, al93, al95, Int.cast_ofNat_Int, Nat.reduceAdd, Int.reduceNeg, Int.reduceAdd, Int.reduceSub, Int.reduceMul, Int.reduceLT, Int.reduceLE, Int.reduceGT, Int.reduceGE, Int.reduceEq, Int.reduceNe, Nat.reduceEqDiff, Int.zero_add, Int.add_zero, p_ty0, p_ty1, p_ty2, p_ty3, p_ty4, p_ty5, p_ty6, p_ty7, p_ty8, p_ty9, p_ty10, p_ty11, t0, v0, v1, v2, v3, v4, v5, v6, v7, gd_t, B_t, B_f]
            · rw [show n + (i + 1 + 1 + 1 + 1 - i) + 1 = n + 1 + 1 + 1 + 1 + 1 by omega, p1, p2, p3, p4]
              exact psr_no (Or.inl (by decide)) (if_neg c7)
        · have v6 := EN 4 4 (i + 1 + 1 + 1) l3 (by omega) (by omega)
          refine ⟨True, i + 1 + 1 + 1, fun d hd => ?_, by omega, l3, fun _ => ⟨by omega, 7, Or.inr ⟨rfl, c6⟩, fun n => ?_⟩, fun q => absurd trivial q⟩
          · refine callD_go 3 hd rfl (fun e he => ?_)
            show R e m_X8_isLine 0 [.val (.ref 127)] [] T (w23 M (i : Int)) F = _
            have v0 := v0 e (by omega)
            have v1 := v1 e (by omega)
            have v2 := v2 e (by omega)
            have v3 := v3 e (by omega)
            have v4 := v4 e (by omega)
            have v5 := v5 e (by omega)
            have v6 := v6 e (by omega)
            rw [bI_t trivial]
            clear EY EN PY PN lt hK hY p1 p2 p3
            simp (disch := omega) only [x_X8_isLine_0, x_X8_isLine_1, x_X8_isLine_2, x_X8_isLine_3, x_X8_isLine_6, x_X8_isLine_9, x_X8_isLine_10, x_X8_isLine_11, x_X8_isLine_12, x_X8_isLine_13, x_X8_isLine_14, x_X8_isLine_17, x_X8_isLine_20, x_X8_isLine_21, x_X8_isLine_22, x_X8_isLine_24, x_X8_isLine_27, x_X8_isLine_30, x_X8_isLine_31, x_X8_isLine_34, x_X8_isLine_37, x_X8_isLine_38, x_X8_isLine_40, x_X8_isLine_42, x_X8_isLine_45, x_X8_isLine_48, x_X8_isLine_49, x_X8_isLine_52, x_X8_isLine_53, x_X8_isLine_54, x_X8_isLine_55, x_X8_isLine_56, x_X8_isLine_57, x_X8_isLine_60, x_X8_isLine_63, x_X8_isLine_64, x_X8_isLine_65, x_X8_isLine_67, x_X8_isLine_70, x_X8_isLine_71, x_X8_isLine_72, x_X8_isLine_73, x_X8_isLine_74, x_X8_isLine_77, x_X8_isLine_80, x_X8_isLine_81, x_X8_isLine_83, x_X8_isLine_85, x_X8_isLine_88, x_X8_isLine_91, x_X8_isLine_92, x_X8_isLine_94, x_X8_isLine_96, x_X8_isLine_99, x_X8_isLine_102, x_X8_isLine_103, x_X8_isLine_104, x_X8_isLine_105, x_X8_isLine_108, x_X8_isLine_111, x_X8_isLine_112, x_X8_isLine_115, x_X8_isLine_118, x_X8_isLine_119, x_X8_isLine_122, x_X8_isLine_123, List.length_cons, List.length_nil, Nat.reduceLeDiff, Nat.zero_add, iI_add, iI_sub, iI_mul, iI_neg, iI_lt, iI_le, iI_eq, jI_iI, B_True, B_False, B_t, B_f, ck_True, gd_True, cb_v, cb_n, p_mv_rw, p_fv_rw, p_rv_some, pA_1, pA_90, pA_92, pA_3, pA_2, pA_93, pA_4, pA_91, pA_95, pS_i, pW_i, pZ_0, pZ_1, pZ_b, bI_e0, u1_s, u1_n, uA_s, uA_n, true_and, and_true, not_true_eq_false, not_false_eq_true, eq_self, iI_z, al1, al2, al3, al4, al90, al91, al92, al93, al95, Int.cast_ofNat_Int, Nat.reduceAdd, Int.reduceNeg, Int.reduceAdd, Int.reduceSub, Int.reduceMul, Int.reduceLT, Int.reduceLE, Int.reduceGT, Int.reduceGE, Int.reduceEq, Int.reduceNe, Nat.reduceEqDiff, Int.zero_add, Int.add_zero, p_ty0, p_ty1, p_ty2, p_ty3, p_ty4, p_ty5, p_ty6, p_ty7, p_ty8, p_ty9, p_ty10, p_ty11, t0, v0, v1, v2, v3, v4, v5, v6, gd_t, B_t, B_f]
          · rw [show n + (i + 1 + 1 + 1 - i) = n + 1 + 1 + 1 by omega, p1, p2, p3]
      · have v5 := EN 20 20 (i + 1 + 1) l2 (by omega) (by omega)
        refine ⟨False, i + 1 + 1, fun d hd => ?_, by omega, l2, fun q => q.elim, fun _ n => ?_⟩
        · refine callD_go 3 hd rfl (fun e he => ?_)
          show R e m_X8_isLine 0 [.val (.ref 127)] [] T (w23 M (i : Int)) F = _
          have v0 := v0 e (by omega)
          have v1 := v1 e (by omega)
          have v2 := v2 e (by omega)
          have v3 := v3 e (by omega)
          have v4 := v4 e (by omega)
          have v5 := v5 e (by omega)
          rw [bI_f id]
          clear EY EN PY PN lt hK hY p1 p2
          simp (disch := omega) only [x_X8_isLine_0, x_X8_isLine_1, x_X8_isLine_2, x_X8_isLine_3, x_X8_isLine_6, x_X8_isLine_9, x_X8_isLine_10, x_X8_isLine_11, x_X8_isLine_12, x_X8_isLine_13, x_X8_isLine_14, x_X8_isLine_17, x_X8_isLine_20, x_X8_isLine_21, x_X8_isLine_22, x_X8_isLine_24, x_X8_isLine_27, x_X8_isLine_30, x_X8_isLine_31, x_X8_isLine_34, x_X8_isLine_37, x_X8_isLine_38, x_X8_isLine_40, x_X8_isLine_42, x_X8_isLine_45, x_X8_isLine_48, x_X8_isLine_49, x_X8_isLine_52, x_X8_isLine_53, x_X8_isLine_54, x_X8_isLine_55, x_X8_isLine_56, x_X8_isLine_57, x_X8_isLine_60, x_X8_isLine_63, x_X8_isLine_64, x_X8_isLine_65, x_X8_isLine_67, x_X8_isLine_70, x_X8_isLine_71, x_X8_isLine_72, x_X8_isLine_73, x_X8_isLine_74, x_X8_isLine_77, x_X8_isLine_80, x_X8_isLine_81, x_X8_isLine_83, x_X8_isLine_85, x_X8_isLine_88, x_X8_isLine_91, x_X8_isLine_92, x_X8_isLine_94, x_X8_isLine_96, x_X8_isLine_99, x_X8_isLine_102, x_X8_isLine_103, x_X8_isLine_104, x_X8_isLine_105, x_X8_isLine_108, x_X8_isLine_111, x_X8_isLine_112, x_X8_isLine_115, x_X8_isLine_118, x_X8_isLine_119, x_X8_isLine_122, x_X8_isLine_123, List.length_cons, List.length_nil, Nat.reduceLeDiff, Nat.zero_add, iI_add, iI_sub, iI_mul, iI_neg, iI_lt, iI_le, iI_eq, jI_iI, B_True, B_False, B_t, B_f, ck_True, gd_True, cb_v, cb_n, p_mv_rw, p_fv_rw, p_rv_some, pA_1, pA_90, pA_92, pA_3, pA_2, pA_93, pA_4, pA_91, pA_95, pS_i, pW_i, pZ_0, pZ_1, pZ_b, bI_e0, u1_s, u1_n, uA_s, uA_n, true_and, and_true, not_true_eq_false, not_false_eq_true, eq_self, iI_z, al1, al2, al3, al4, al90, al91, al92, al93, al95, Int.cast_ofNat_Int, Nat.reduceAdd, Int.reduceNeg, Int.reduceAdd, Int.reduceSub, Int.reduceMul, Int.reduceLT, Int.reduceLE, Int.reduceGT, Int.reduceGE, Int.reduceEq, Int.reduceNe, Nat.reduceEqDiff, Int.zero_add, Int.add_zero, p_ty0, p_ty1, p_ty2, p_ty3, p_ty4, p_ty5, p_ty6, p_ty7, p_ty8, p_ty9, p_ty10, p_ty11, t0, v0, v1, v2, v3, v4, v5, gd_t, B_t, B_f]
        · rw [show n + (i + 1 + 1 - i) + 1 = n + 1 + 1 + 1 by omega, p1, p2]
          exact psr_no (Or.inl (by decide)) (if_neg c5)
    · have v4 := EN 20 20 (i + 1) l1 (by omega) (by omega)
      refine ⟨False, i + 1, fun d hd => ?_, by omega, l1, fun q => q.elim, fun _ n => ?_⟩
      · refine callD_go 3 hd rfl (fun e he => ?_)
        show R e m_X8_isLine 0 [.val (.ref 127)] [] T (w23 M (i : Int)) F = _
        have v0 := v0 e (by omega)
        have v1 := v1 e (by omega)
        have v2 := v2 e (by omega)
        have v3 := v3 e (by omega)
        have v4 := v4 e (by omega)
        rw [bI_f id]
        clear EY EN PY PN lt hK hY p1
        simp (disch := omega) only [x_X8_isLine_0, x_X8_isLine_1, x_X8_isLine_2, x_X8_isLine_3, x_X8_isLine_6, x_X8_isLine_9, x_X8_isLine_10, x_X8_isLine_11, x_X8_isLine_12, x_X8_isLine_13, x_X8_isLine_14, x_X8_isLine_17, x_X8_isLine_20, x_X8_isLine_21, x_X8_isLine_22, x_X8_isLine_24, x_X8_isLine_27, x_X8_isLine_30, x_X8_isLine_31, x_X8_isLine_34, x_X8_isLine_37, x_X8_isLine_38, x_X8_isLine_40, x_X8_isLine_42, x_X8_isLine_45, x_X8_isLine_48, x_X8_isLine_49, x_X8_isLine_52, x_X8_isLine_53, x_X8_isLine_54, x_X8_isLine_55, x_X8_isLine_56, x_X8_isLine_57, x_X8_isLine_60, x_X8_isLine_63, x_X8_isLine_64, x_X8_isLine_65, x_X8_isLine_67, x_X8_isLine_70, x_X8_isLine_71, x_X8_isLine_72, x_X8_isLine_73, x_X8_isLine_74, x_X8_isLine_77, x_X8_isLine_80, x_X8_isLine_81, x_X8_isLine_83, x_X8_isLine_85, x_X8_isLine_88, x_X8_isLine_91, x_X8_isLine_92, x_X8_isLine_94, x_X8_isLine_96, x_X8_isLine_99, x_X8_isLine_102, x_X8_isLine_103, x_X8_isLine_104, x_X8_isLine_105, x_X8_isLine_108, x_X8_isLine_111, x_X8_isLine_112, x_X8_isLine_115, x_X8_isLine_118, x_X8_isLine_119, x_X8_isLine_122, x_X8_isLine_123, List.length_cons, List.length_nil, Nat.reduceLeDiff, Nat.zero_add, iI_add, iI_sub, iI_mul, iI_neg, iI_lt, iI_le, iI_eq, jI_iI, B_True, B_False, B_t, B_f, ck_True, gd_True, cb_v, cb_n, p_mv_rw, p_fv_rw, p_rv_some, pA_1, pA_90, pA_92, pA_3, pA_2, pA_93, pA_4, pA_91, pA_95, pS_i, pW_i, pZ_0, pZ_1, pZ_b, bI_e0, u1_s, u1_n, uA_s, uA_n, true_and, and_true, not_true_eq_false, not_false_eq_true, eq_self, iI_z, al1, al2, al3, al4, al90, al91, al92, al93, al95, Int.cast_ofNat_Int, Nat.reduceAdd, Int.reduceNeg, Int.reduceAdd, Int.reduceSub, Int.reduceMul, Int.reduceLT, Int.reduceLE, Int.reduceGT, Int.reduceGE, Int.reduceEq, Int.reduceNe, Nat.reduceEqDiff, Int.zero_add, Int.add_zero, p_ty0, p_ty1, p_ty2, p_ty3, p_ty4, p_ty5, p_ty6, p_ty7, p_ty8, p_ty9, p_ty10, p_ty11, t0, v0, v1, v2, v3, v4, gd_t, B_t, B_f]
      · rw [show n + (i + 1 - i) + 1 = n + 1 + 1 by omega, p1]
        exact psr_no (Or.inl (by decide)) (if_neg c4)
  have v3 := EN 3 3 i hi (by omega) (by omega)
  refine ⟨False, i, fun d hd => ?_, Nat.le_refl _, hi, fun q => q.elim, fun _ n => ?_⟩
  · refine callD_go 3 hd rfl (fun e he => ?_)
    show R e m_X8_isLine 0 [.val (.ref 127)] [] T (w23 M (i : Int)) F = _
    have v0 := v0 e (by omega)
    have v1 := v1 e (by omega)
    have v2 := v2 e (by omega)
    have v3 := v3 e (by omega)
    rw [bI_f id]
    clear EY EN PY PN lt hK hY
    simp (disch := omega) only [x_X8_isLine_0, x_X8_isLine_1, x_X8_isLine_2, x_X8_isLine_3, x_X8_isLine_6, x_X8_isLine_9, x_X8_isLine_10, x_X8_isLine_11, x_X8_isLine_12, x_X8_isLine_13, x_X8_isLine_14, x_X8_isLine_17, x_X8_isLine_20, x_X8_isLine_21, x_X8_isLine_22, x_X8_isLine_24, x_X8_isLine_27, x_X8_isLine_30, x_X8_isLine_31, x_X8_isLine_34, x_X8_isLine_37, x_X8_isLine_38, x_X8_isLine_40, x_X8_isLine_42, x_X8_isLine_45, x_X8_isLine_48, x_X8_isLine_49, x_X8_isLine_52, x_X8_isLine_53, x_X8_isLine_54, x_X8_isLine_55, x_X8_isLine_56, x_X8_isLine_57, x_X8_isLine_60, x_X8_isLine_63, x_X8_isLine_64, x_X8_isLine_65, x_X8_isLine_67, x_X8_isLine_70, x_X8_isLine_71, x_X8_isLine_72, x_X8_isLine_73, x_X8_isLine_74, x_X8_isLine_77, x_X8_isLine_80, x_X8_isLine_81, x_X8_isLine_83, x_X8_isLine_85, x_X8_isLine_88, x_X8_isLine_91, x_X8_isLine_92, x_X8_isLine_94, x_X8_isLine_96, x_X8_isLine_99, x_X8_isLine_102, x_X8_isLine_103, x_X8_isLine_104, x_X8_isLine_105, x_X8_isLine_108, x_X8_isLine_111, x_X8_isLine_112, x_X8_isLine_115, x_X8_isLine_118, x_X8_isLine_119, x_X8_isLine_122, x_X8_isLine_123, List.length_cons, List.length_nil, Nat.reduceLeDiff, Nat.zero_add, iI_add, iI_sub, iI_mul, iI_neg, iI_lt, iI_le, iI_eq, jI_iI, B_True, B_False, B_t, B_f, ck_True, gd_True, cb_v, cb_n, p_mv_rw, p_fv_rw, p_rv_some, pA_1, pA_90, pA_92, pA_3, pA_2, pA_93, pA_4, pA_91, pA_95, pS_i, pW_i, pZ_0, pZ_1, pZ_b, bI_e0, u1_s, u1_n, uA_s, uA_n, true_and, and_true, not_true_eq_false, not_false_eq_true, eq_self, iI_z, al1, al2, al3, al4, al90, al91, al92, al93, al95, Int.cast_ofNat_Int, Nat.reduceAdd, Int.reduceNeg, Int.reduceAdd, Int.reduceSub, Int.reduceMul, Int.reduceLT, Int.reduceLE, Int.reduceGT, Int.reduceGE, Int.reduceEq, Int.reduceNe, Nat.reduceEqDiff, Int.zero_add, Int.add_zero, p_ty0, p_ty1, p_ty2, p_ty3, p_ty4, p_ty5, p_ty6, p_ty7, p_ty8, p_ty9, p_ty10, p_ty11, t0, v0, v1, v2, v3, gd_t, B_t, B_f]
  · rw [Nat.sub_self, Nat.add_zero]
    refine psr_no (Or.inr h22) ?_
    unfold gk
    rw [if_pos rfl, if_neg c0, if_neg c1, if_neg c2, if_neg c3]
theorem ig_loop (hY : YT T F bd lg N) (hK : TKM M bs z m) : ∀ (w i : Nat), m - i ≤ w → i ≤ m → ∃ j : Nat, (∀ e, 4 ≤ e → R e m_X8_isGame 5 [.val (.ref 127)] [] T (w23 M (i : Int)) F = some (.inl (some (.int (iI (bI ((psr (kcn bs z) (401 - i) 0 i).1 = true))))), T, w23 M (j : Int), F)) ∧ (psr (kcn bs z) (401 - i) 0 i).2 = j ∧ j ≤ m := by
  have t0 := hY.1
  have hm := hK.1
  intro w
  induction w with
  | zero =>
    intro i hw hi
    obtain rfl : i = m := by omega
    have h22 := hK.2.1
    have hkr := kcn_rg (bs := bs) (z := z) i
    have h141 := (hK.2.2.2.1 i (Nat.le_refl _)).2
    obtain ⟨ty127, ty128, fy1, ty129, fy4, ty130, fy5, ty131, fy6, ty132, fy7, ty133, fy8, ty136, fy15, ty137, fy16, ty138, fy17, ty139, fy18, ty140, fy19, ty141, fy20, ty142, fy21, ty143, fy22, hbd, tybd, fy9, hlg, tylg, fy13, hN⟩ := hY
    rw [show 401 - i = (400 - i) + 1 by omega]
    by_cases c : kcn bs z i = 22
    · refine ⟨i, fun e he => ?_, ?_, Nat.le_refl _⟩
      · rw [bI_t (by rw [psr, if_pos ⟨rfl, c⟩])]
        unfold w23
        clear hK
        simp (disch := omega) only [x_X8_isGame_5, x_X8_isGame_6, x_X8_isGame_9, x_X8_isGame_10, x_X8_isGame_13, x_X8_isGame_14, x_X8_isGame_16, x_X8_isGame_39, x_X8_isGame_40, List.length_cons, List.length_nil, Nat.reduceLeDiff, Nat.zero_add, iI_add, iI_sub, iI_mul, iI_neg, iI_lt, iI_le, iI_eq, jI_iI, B_True, B_False, B_t, B_f, ck_True, gd_True, cb_v, cb_n, p_mv_rw, p_fv_rw, p_rv_some, pA_1, pA_90, pA_92, pA_3, pA_2, pA_93, pA_4, pA_91, pA_95, pS_i, pW_i, pZ_0, pZ_1, pZ_b, bI_e0, u1_s, u1_n, uA_s, uA_n, true_and, and_true, not_true_eq_false, not_false_eq_true, eq_self, iI_z, al1, al2, al3, al4, al90, al91, al92, al93, al95, Int.cast_ofNat_Int, Nat.reduceAdd, Int.reduceNeg, Int.reduceAdd, Int.reduceSub, Int.reduceMul, Int.reduceLT, Int.reduceLE, Int.reduceGT, Int.reduceGE, Int.reduceEq, Int.reduceNe, Nat.reduceEqDiff, Int.zero_add, Int.add_zero, p_ty0, p_ty1, p_ty2, p_ty3, p_ty4, p_ty5, p_ty6, p_ty7, p_ty8, p_ty9, p_ty10, p_ty11, ty127, ty128, fy1, ty129, fy4, ty130, fy5, ty131, fy6, ty132, fy7, ty133, fy8, ty136, fy15, ty137, fy16, ty138, fy17, ty139, fy18, ty140, fy19, ty141, fy20, ty142, fy21, ty143, fy22, tybd, fy9, tylg, fy13, h141, c, gd_t, B_t, B_f]
      · rw [psr, if_pos ⟨rfl, c⟩]
    · have c23 : kcn bs z i = 23 := by omega
      have hp : psr (kcn bs z) (400 - i + 1) 0 i = (false, i) := psr_no (Or.inr c) (gk_x (by omega) (Or.inr c23))
      refine ⟨i, fun e he => ?_, by rw [hp], Nat.le_refl _⟩
      rw [hp, bI_f (show ¬ ((false, i) : Bool × Nat).1 = true from Bool.false_ne_true)]
      obtain ⟨b, j, r1, h1, h2, h3, h4⟩ := y_isLine (T := T) (F := F) (bd := bd) (lg := lg) (N := N) ⟨ty127, ty128, fy1, ty129, fy4, ty130, fy5, ty131, fy6, ty132, fy7, ty133, fy8, ty136, fy15, ty137, fy16, ty138, fy17, ty139, fy18, ty140, fy19, ty141, fy20, ty142, fy21, ty143, fy22, hbd, tybd, fy9, hlg, tylg, fy13, hN⟩ hK hi c
      obtain rfl : j = i := by omega
      have hb : ¬ b := fun q => by have := (h3 q).1; omega
      have r1 := r1 e he
      rw [bI_f hb] at r1
      unfold w23 at r1 ⊢
      clear hK h3 h4
      simp (disch := omega) only [x_X8_isGame_5, x_X8_isGame_6, x_X8_isGame_9, x_X8_isGame_10, x_X8_isGame_13, x_X8_isGame_14, x_X8_isGame_16, x_X8_isGame_19, x_X8_isGame_20, x_X8_isGame_23, x_X8_isGame_26, x_X8_isGame_27, x_X8_isGame_29, x_X8_isGame_31, x_X8_isGame_34, x_X8_isGame_37, x_X8_isGame_38, List.length_cons, List.length_nil, Nat.reduceLeDiff, Nat.zero_add, iI_add, iI_sub, iI_mul, iI_neg, iI_lt, iI_le, iI_eq, jI_iI, B_True, B_False, B_t, B_f, ck_True, gd_True, cb_v, cb_n, p_mv_rw, p_fv_rw, p_rv_some, pA_1, pA_90, pA_92, pA_3, pA_2, pA_93, pA_4, pA_91, pA_95, pS_i, pW_i, pZ_0, pZ_1, pZ_b, bI_e0, u1_s, u1_n, uA_s, uA_n, true_and, and_true, not_true_eq_false, not_false_eq_true, eq_self, iI_z, al1, al2, al3, al4, al90, al91, al92, al93, al95, Int.cast_ofNat_Int, Nat.reduceAdd, Int.reduceNeg, Int.reduceAdd, Int.reduceSub, Int.reduceMul, Int.reduceLT, Int.reduceLE, Int.reduceGT, Int.reduceGE, Int.reduceEq, Int.reduceNe, Nat.reduceEqDiff, Int.zero_add, Int.add_zero, p_ty0, p_ty1, p_ty2, p_ty3, p_ty4, p_ty5, p_ty6, p_ty7, p_ty8, p_ty9, p_ty10, p_ty11, ty127, ty128, fy1, ty129, fy4, ty130, fy5, ty131, fy6, ty132, fy7, ty133, fy8, ty136, fy15, ty137, fy16, ty138, fy17, ty139, fy18, ty140, fy19, ty141, fy20, ty142, fy21, ty143, fy22, tybd, fy9, tylg, fy13, h141, r1, gd_t, B_t, B_f]
  | succ w ih =>
    intro i hw hi
    have hkr := kcn_rg (bs := bs) (z := z) i
    have h141 := (hK.2.2.2.1 i hi).2
    have ty := hY
    obtain ⟨ty127, ty128, fy1, ty129, fy4, ty130, fy5, ty131, fy6, ty132, fy7, ty133, fy8, ty136, fy15, ty137, fy16, ty138, fy17, ty139, fy18, ty140, fy19, ty141, fy20, ty142, fy21, ty143, fy22, hbd, tybd, fy9, hlg, tylg, fy13, hN⟩ := ty
    by_cases c : kcn bs z i = 22
    · rw [show 401 - i = (400 - i) + 1 by omega]
      refine ⟨i, fun e he => ?_, by rw [psr, if_pos ⟨rfl, c⟩], hi⟩
      rw [bI_t (by rw [psr, if_pos ⟨rfl, c⟩])]
      unfold w23
      clear hK ih hY
      simp (disch := omega) only [x_X8_isGame_5, x_X8_isGame_6, x_X8_isGame_9, x_X8_isGame_10, x_X8_isGame_13, x_X8_isGame_14, x_X8_isGame_16, x_X8_isGame_39, x_X8_isGame_40, List.length_cons, List.length_nil, Nat.reduceLeDiff, Nat.zero_add, iI_add, iI_sub, iI_mul, iI_neg, iI_lt, iI_le, iI_eq, jI_iI, B_True, B_False, B_t, B_f, ck_True, gd_True, cb_v, cb_n, p_mv_rw, p_fv_rw, p_rv_some, pA_1, pA_90, pA_92, pA_3, pA_2, pA_93, pA_4, pA_91, pA_95, pS_i, pW_i, pZ_0, pZ_1, pZ_b, bI_e0, u1_s, u1_n, uA_s, uA_n, true_and, and_true, not_true_eq_false, not_false_eq_true, eq_self, iI_z, al1, al2, al3, al4, al90, al91, al92, al93, al95, Int.cast_ofNat_Int, Nat.reduceAdd, Int.reduceNeg, Int.reduceAdd, Int.reduceSub, Int.reduceMul, Int.reduceLT, Int.reduceLE, Int.reduceGT, Int.reduceGE, Int.reduceEq, Int.reduceNe, Nat.reduceEqDiff, Int.zero_add, Int.add_zero, p_ty0, p_ty1, p_ty2, p_ty3, p_ty4, p_ty5, p_ty6, p_ty7, p_ty8, p_ty9, p_ty10, p_ty11, ty127, ty128, fy1, ty129, fy4, ty130, fy5, ty131, fy6, ty132, fy7, ty133, fy8, ty136, fy15, ty137, fy16, ty138, fy17, ty139, fy18, ty140, fy19, ty141, fy20, ty142, fy21, ty143, fy22, tybd, fy9, tylg, fy13, h141, c, gd_t, B_t, B_f]
    · obtain ⟨b, j, r1, h1, h2, h3, h4⟩ := y_isLine (T := T) (F := F) hY hK hi c
      by_cases hb : b
      · obtain ⟨h5, st, hst, h6⟩ := h3 hb
        have hkj := kcn_rg (bs := bs) (z := z) j
        by_cases c21 : kcn bs z j = 21
        · have l1 := hK.lt h2 (by omega)
          obtain ⟨j2, r2, e2, l2⟩ := ih (j + 1) (by omega) l1
          have hps : psr (kcn bs z) (401 - i) 0 i = psr (kcn bs z) (401 - (j + 1)) 0 (j + 1) := by
            rw [show 401 - i = (401 - (j + 1) + 1) + (j - i) by omega, h6]
            refine psr_go (Or.inl (by omega)) ?_ (by decide)
            rw [c21]
            rcases hst with rfl | ⟨rfl, -⟩ <;> rfl
          refine ⟨j2, fun e he => ?_, by rw [hps]; exact e2, l2⟩
          have r1 := r1 e he
          have r2 := r2 e he
          have r3 := y_eat (d := e) (lw := 21) (up := 21) hY hK h2 (by omega) (by omega)
          rw [bI_t (by omega)] at r3
          rw [bI_t hb] at r1
          rw [hps, ← r2, Int.natCast_add_one]
          have hw1 : ∀ x, w23 M x = uA M 127 (u1 (M 127) 23 x) := fun _ => rfl
          rw [x_X8_isGame_5]
          rw [hw1 (i : Int)] at r1 ⊢
          clear hK ih hY h3 h4 h6 r2 hps
          simp (disch := omega) only [x_X8_isGame_6, x_X8_isGame_9, x_X8_isGame_10, x_X8_isGame_13, x_X8_isGame_14, x_X8_isGame_16, x_X8_isGame_19, x_X8_isGame_20, x_X8_isGame_23, x_X8_isGame_26, x_X8_isGame_27, x_X8_isGame_29, x_X8_isGame_31, x_X8_isGame_34, List.length_cons, List.length_nil, Nat.reduceLeDiff, Nat.zero_add, iI_add, iI_sub, iI_mul, iI_neg, iI_lt, iI_le, iI_eq, jI_iI, B_True, B_False, B_t, B_f, ck_True, gd_True, cb_v, cb_n, p_mv_rw, p_fv_rw, p_rv_some, pA_1, pA_90, pA_92, pA_3, pA_2, pA_93, pA_4, pA_91, pA_95, pS_i, pW_i, pZ_0, pZ_1, pZ_b, bI_e0, u1_s, u1_n, uA_s, uA_n, true_and, and_true, not_true_eq_false, not_false_eq_true, eq_self, iI_z, al1, al2, al3, al4, al90, al91, al92, al93, al95, Int.cast_ofNat_Int, Nat.reduceAdd, Int.reduceNeg, Int.reduceAdd, Int.reduceSub, Int.reduceMul, Int.reduceLT, Int.reduceLE, Int.reduceGT, Int.reduceGE, Int.reduceEq, Int.reduceNe, Nat.reduceEqDiff, Int.zero_add, Int.add_zero, p_ty0, p_ty1, p_ty2, p_ty3, p_ty4, p_ty5, p_ty6, p_ty7, p_ty8, p_ty9, p_ty10, p_ty11, ty127, ty128, fy1, ty129, fy4, ty130, fy5, ty131, fy6, ty132, fy7, ty133, fy8, ty136, fy15, ty137, fy16, ty138, fy17, ty139, fy18, ty140, fy19, ty141, fy20, ty142, fy21, ty143, fy22, tybd, fy9, tylg, fy13, h141, r1, r3, gd_t, B_t, B_f]
        · have hps : psr (kcn bs z) (401 - i) 0 i = (false, j) := by
            rw [show 401 - i = (401 - (j + 1) + 1) + (j - i) by omega, h6]
            refine psr_no (Or.inl (by omega)) ?_
            rcases hst with rfl | ⟨rfl, h7⟩
            · exact if_neg c21
            · show (if kcn bs z j = 4 then 8 else if kcn bs z j = 21 then 0 else 10) = 10
              rw [if_neg h7, if_neg c21]
          refine ⟨j, fun e he => ?_, by rw [hps], h2⟩
          have r1 := r1 e he
          have r3 := y_eat (d := e) (lw := 21) (up := 21) hY hK h2 (by omega) (by omega)
          rw [bI_f (by omega), Int.add_zero] at r3
          rw [bI_t hb] at r1
          rw [hps, bI_f (show ¬ ((false, j) : Bool × Nat).1 = true from Bool.false_ne_true)]
          have hw1 : ∀ x, w23 M x = uA M 127 (u1 (M 127) 23 x) := fun _ => rfl
          rw [x_X8_isGame_5]
          rw [hw1 (i : Int)] at r1 ⊢
          clear hK ih hY h3 h4 h6 hps
          simp (disch := omega) only [x_X8_isGame_6, x_X8_isGame_9, x_X8_isGame_10, x_X8_isGame_13, x_X8_isGame_14, x_X8_isGame_16, x_X8_isGame_19, x_X8_isGame_20, x_X8_isGame_23, x_X8_isGame_26, x_X8_isGame_27, x_X8_isGame_29, x_X8_isGame_31, x_X8_isGame_34, x_X8_isGame_37, x_X8_isGame_38, List.length_cons, List.length_nil, Nat.reduceLeDiff, Nat.zero_add, iI_add, iI_sub, iI_mul, iI_neg, iI_lt, iI_le, iI_eq, jI_iI, B_True, B_False, B_t, B_f, ck_True, gd_True, cb_v, cb_n, p_mv_rw, p_fv_rw, p_rv_some, pA_1, pA_90, pA_92, pA_3, pA_2, pA_93, pA_4, pA_91, pA_95, pS_i, pW_i, pZ_0, pZ_1, pZ_b, bI_e0, u1_s, u1_n, uA_s, uA_n, true_and, and_true, not_true_eq_false, not_false_eq_true, eq_self, iI_z, al1, al2, al3, al4, al90, al91, al92, al93, al95, Int.cast_ofNat_Int, Nat.reduceAdd, Int.reduceNeg, Int.reduceAdd, Int.reduceSub, Int.reduceMul, Int.reduceLT, Int.reduceLE, Int.reduceGT, Int.reduceGE, Int.reduceEq, Int.reduceNe, Nat.reduceEqDiff, Int.zero_add, Int.add_zero, p_ty0, p_ty1, p_ty2, p_ty3, p_ty4, p_ty5, p_ty6, p_ty7, p_ty8, p_ty9, p_ty10, p_ty11, ty127, ty128, fy1, ty129, fy4, ty130, fy5, ty131, fy6, ty132, fy7, ty133, fy8, ty136, fy15, ty137, fy16, ty138, fy17, ty139, fy18, ty140, fy19, ty141, fy20, ty142, fy21, ty143, fy22, tybd, fy9, tylg, fy13, h141, r1, r3, gd_t, B_t, B_f]
      · have hps : psr (kcn bs z) (401 - i) 0 i = (false, j) := by
          rw [show 401 - i = (400 - j) + (j - i) + 1 by omega]
          exact h4 hb _
        refine ⟨j, fun e he => ?_, by rw [hps], h2⟩
        have r1 := r1 e he
        rw [bI_f hb] at r1
        rw [hps, bI_f (show ¬ ((false, j) : Bool × Nat).1 = true from Bool.false_ne_true)]
        have hw1 : ∀ x, w23 M x = uA M 127 (u1 (M 127) 23 x) := fun _ => rfl
        rw [x_X8_isGame_5]
        rw [hw1 (i : Int)] at r1 ⊢
        clear hK ih hY h3 h4 hps
        simp (disch := omega) only [x_X8_isGame_6, x_X8_isGame_9, x_X8_isGame_10, x_X8_isGame_13, x_X8_isGame_14, x_X8_isGame_16, x_X8_isGame_19, x_X8_isGame_20, x_X8_isGame_23, x_X8_isGame_26, x_X8_isGame_27, x_X8_isGame_29, x_X8_isGame_31, x_X8_isGame_34, x_X8_isGame_37, x_X8_isGame_38, List.length_cons, List.length_nil, Nat.reduceLeDiff, Nat.zero_add, iI_add, iI_sub, iI_mul, iI_neg, iI_lt, iI_le, iI_eq, jI_iI, B_True, B_False, B_t, B_f, ck_True, gd_True, cb_v, cb_n, p_mv_rw, p_fv_rw, p_rv_some, pA_1, pA_90, pA_92, pA_3, pA_2, pA_93, pA_4, pA_91, pA_95, pS_i, pW_i, pZ_0, pZ_1, pZ_b, bI_e0, u1_s, u1_n, uA_s, uA_n, true_and, and_true, not_true_eq_false, not_false_eq_true, eq_self, iI_z, al1, al2, al3, al4, al90, al91, al92, al93, al95, Int.cast_ofNat_Int, Nat.reduceAdd, Int.reduceNeg, Int.reduceAdd, Int.reduceSub, Int.reduceMul, Int.reduceLT, Int.reduceLE, Int.reduceGT, Int.reduceGE, Int.reduceEq, Int.reduceNe, Nat.reduceEqDiff, Int.zero_add, Int.add_zero, p_ty0, p_ty1, p_ty2, p_ty3, p_ty4, p_ty5, p_ty6, p_ty7, p_ty8, p_ty9, p_ty10, p_ty11, ty127, ty128, fy1, ty129, fy4, ty130, fy5, ty131, fy6, ty132, fy7, ty133, fy8, ty136, fy15, ty137, fy16, ty138, fy17, ty139, fy18, ty140, fy19, ty141, fy20, ty142, fy21, ty143, fy22, tybd, fy9, tylg, fy13, h141, r1, gd_t, B_t, B_f]
theorem y_isGame (hY : YT T F bd lg N) (hK : TKM M bs z m) : ∃ j : Nat, (∀ d, 5 ≤ d → callD d m_X8_isGame [.ref 127] T M F = some (.inl (some (.int (iI (bI ((psr (kcn bs z) 401 0 0).1 = true))))), T, w23 M (j : Int), F)) ∧ (psr (kcn bs z) 401 0 0).2 = j ∧ j ≤ m := by
  obtain ⟨j, r1, h1, h2⟩ := ig_loop (T := T) (F := F) hY hK m 0 (by omega) (Nat.zero_le _)
  refine ⟨j, fun d hd => ?_, h1, h2⟩
  refine callD_go 4 hd rfl (fun e he => ?_)
  show R e m_X8_isGame 0 [.val (.ref 127)] [] T M F = _
  have r1 := r1 e he
  rw [Int.natCast_zero] at r1
  have t0 := hY.1
  have hw1 : w23 M 0 = uA M 127 (u1 (M 127) 23 0) := rfl
  rw [hw1] at r1
  rw [show 401 - 0 = 401 from rfl] at r1
  clear hK hY
  simp (disch := omega) only [x_X8_isGame_0, x_X8_isGame_1, x_X8_isGame_2, List.length_cons, List.length_nil, Nat.reduceLeDiff, Nat.zero_add, iI_add, iI_sub, iI_mul, iI_neg, iI_lt, iI_le, iI_eq, jI_iI, B_True, B_False, B_t, B_f, ck_True, gd_True, cb_v, cb_n, p_mv_rw, p_fv_rw, p_rv_some, pA_1, pA_90, pA_92, pA_3, pA_2, pA_93, pA_4, pA_91, pA_95, pS_i, pW_i, pZ_0, pZ_1, pZ_b, bI_e0, u1_s, u1_n, uA_s, uA_n, true_and, and_true, not_true_eq_false, not_false_eq_true, eq_self, iI_z, al1, al2, al3, al4, al90, al91, al92, al93, al95, Int.cast_ofNat_Int, Nat.reduceAdd, Int.reduceNeg, Int.reduceAdd, Int.reduceSub, Int.reduceMul, Int.reduceLT, Int.reduceLE, Int.reduceGT, Int.reduceGE, Int.reduceEq, Int.reduceNe, Nat.reduceEqDiff, Int.zero_add, Int.add_zero, p_ty0, p_ty1, p_ty2, p_ty3, p_ty4, p_ty5, p_ty6, p_ty7, p_ty8, p_ty9, p_ty10, p_ty11, t0, r1]
end PYGM
