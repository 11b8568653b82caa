section PYRD
variable {d bd lg N : Nat} {T : pT} {M M0 M1 M2 : pM} {F F1 : pF} {bs : Int → Int} {p z e0 n b c y : Int} {k i m : Nat}
/-- the tokens as the model keeps them -/
def TKM (M : pM) (bs : Int → Int) (z : Int) (m : Nat) : Prop := m ≤ 400 ∧ 22 ≤ kcn bs z m ∧ (∀ j : Nat, j < m → kcn bs z j < 22) ∧ (∀ j : Nat, j ≤ m → M 142 (j : Int) = spn bs z j ∧ M 141 (j : Int) = kcn bs z j) ∧ ∀ j : Nat, j < m → M 143 (j : Int) = t_end bs z (spn bs z j) - spn bs z j
theorem mcd_rg (hk : k < 16) : 0 ≤ mcd k ∧ mcd k ≤ 23 := by unfold mcd; repeat' split <;> omega
theorem kcn_rg (i : Nat) : 0 ≤ kcn bs z i ∧ kcn bs z i ≤ 23 := by
  unfold kcn
  split
  · omega
  · split
    · omega
    · exact mcd_rg (t_kf_rg 16 0 (by omega))
theorem kcn_lt (h : kcn bs z i < 22) : spn bs z i < z ∧ i ≠ 400 ∧ kcn bs z i = mcd (t_kd bs z (spn bs z i) (t_end bs z (spn bs z i))) := by
  unfold kcn at h ⊢
  by_cases c : z ≤ spn bs z i
  · rw [if_pos c] at h; omega
  · rw [if_neg c] at h ⊢
    by_cases c2 : i = 400
    · rw [if_pos c2] at h; omega
    · rw [if_neg c2]; exact ⟨by omega, c2, rfl⟩
theorem y_blk (hY : YT T F bd lg N) (hS : YTp M bs z) {l2 : Slot} {e : Nat} (he : 1 ≤ e) : ∀ (n : Nat) (x : Int), z ≤ x + n → 0 ≤ x → x ≤ 2001 → R e m_X8_readTokens 11 [.val (.ref 127), .val (.int (iI x)), l2] [] T M F = R e m_X8_readTokens 37 [.val (.ref 127), .val (.int (iI (t_bk bs z n x))), l2] [] T M F := by
  have t0 := hY.1
  have hz := hS.2.2.1
  intro n
  induction n with
  | zero =>
    intro x hx h0 hx2
    have b2 := y_byteAt (d := e) (p := x) hY hS (by omega) (by omega)
    rw [show t_b bs z x = -1 from if_neg (by omega)] at b2
    rw [t_bk]
    clear hY hS
    simp (disch := omega) only [x_X8_readTokens_11, x_X8_readTokens_12, x_X8_readTokens_13, x_X8_readTokens_16, x_X8_readTokens_18, x_X8_readTokens_21, x_X8_readTokens_22, x_X8_readTokens_23, x_X8_readTokens_26, x_X8_readTokens_28, List.length_cons, List.length_nil, Nat.reduceLeDiff, Nat.zero_add, iI_add, iI_sub, iI_mul, iI_neg, iI_lt, iI_le, iI_eq, jI_iI, B_True, B_False, B_t, B_f, ck_True, gd_True, cb_v, cb_n, p_mv_rw, p_fv_rw, p_rv_some, pA_1, pA_90, pA_92, pA_3, pA_2, pA_93, pA_4, pA_91, pA_95, pS_i, pW_i, pZ_0, pZ_1, pZ_b, bI_e0, u1_s, u1_n, uA_s, uA_n, true_and, and_true, not_true_eq_false, not_false_eq_true, eq_self, iI_z, al1, al2, al3, al4, al90, al91, al92, al93, al95, Int.cast_ofNat_Int, Nat.reduceAdd, Int.reduceNeg, Int.reduceAdd, Int.reduceSub, Int.reduceMul, Int.reduceLT, Int.reduceLE, Int.reduceGT, Int.reduceGE, Int.reduceEq, Int.reduceNe, Nat.reduceEqDiff, Int.zero_add, Int.add_zero, p_ty0, p_ty1, p_ty2, p_ty3, p_ty4, p_ty5, p_ty6, p_ty7, p_ty8, p_ty9, p_ty10, p_ty11, t0, b2, gd_t, B_t, B_f]
  | succ n ih =>
    intro x hx h0 hx2
    have b2 := y_byteAt (d := e) (p := x) hY hS (by omega) (by omega)
    have hbx := t_b_rg (p := x) (z := z) hS.2.2.2
    have hlt : t_b bs z x = 32 ∨ t_b bs z x = 10 → x < z := by
      unfold t_b
      intro q
      split at q <;> omega
    rw [t_bk]
    by_cases c1 : t_b bs z x = 32
    · have hxz := hlt (Or.inl c1)
      have ih := ih (x + 1) (by omega) (by omega) (by omega)
      rw [if_pos (Or.inl c1), ← ih, x_X8_readTokens_11]
      clear ih hY hS hlt
      simp (disch := omega) only [x_X8_readTokens_12, x_X8_readTokens_13, x_X8_readTokens_16, x_X8_readTokens_18, x_X8_readTokens_21, x_X8_readTokens_22, x_X8_readTokens_23, x_X8_readTokens_26, x_X8_readTokens_28, x_X8_readTokens_31, x_X8_readTokens_34, List.length_cons, List.length_nil, Nat.reduceLeDiff, Nat.zero_add, iI_add, iI_sub, iI_mul, iI_neg, iI_lt, iI_le, iI_eq, jI_iI, B_True, B_False, B_t, B_f, ck_True, gd_True, cb_v, cb_n, p_mv_rw, p_fv_rw, p_rv_some, pA_1, pA_90, pA_92, pA_3, pA_2, pA_93, pA_4, pA_91, pA_95, pS_i, pW_i, pZ_0, pZ_1, pZ_b, bI_e0, u1_s, u1_n, uA_s, uA_n, true_and, and_true, not_true_eq_false, not_false_eq_true, eq_self, iI_z, al1, al2, al3, al4, al90, al91, al92, al93, al95, Int.cast_ofNat_Int, Nat.reduceAdd, Int.reduceNeg, Int.reduceAdd, Int.reduceSub, Int.reduceMul, Int.reduceLT, Int.reduceLE, Int.reduceGT, Int.reduceGE, Int.reduceEq, Int.reduceNe, Nat.reduceEqDiff, Int.zero_add, Int.add_zero, p_ty0, p_ty1, p_ty2, p_ty3, p_ty4, p_ty5, p_ty6, p_ty7, p_ty8, p_ty9, p_ty10, p_ty11, t0, b2, c1, gd_t, B_t, B_f]
    · by_cases c2 : t_b bs z x = 10
      · have hxz := hlt (Or.inr c2)
        have ih := ih (x + 1) (by omega) (by omega) (by omega)
        rw [if_pos (Or.inr c2), ← ih, x_X8_readTokens_11]
        clear ih hY hS hlt
        simp (disch := omega) only [x_X8_readTokens_12, x_X8_readTokens_13, x_X8_readTokens_16, x_X8_readTokens_18, x_X8_readTokens_21, x_X8_readTokens_22, x_X8_readTokens_23, x_X8_readTokens_26, x_X8_readTokens_28, x_X8_readTokens_31, x_X8_readTokens_34, List.length_cons, List.length_nil, Nat.reduceLeDiff, Nat.zero_add, iI_add, iI_sub, iI_mul, iI_neg, iI_lt, iI_le, iI_eq, jI_iI, B_True, B_False, B_t, B_f, ck_True, gd_True, cb_v, cb_n, p_mv_rw, p_fv_rw, p_rv_some, pA_1, pA_90, pA_92, pA_3, pA_2, pA_93, pA_4, pA_91, pA_95, pS_i, pW_i, pZ_0, pZ_1, pZ_b, bI_e0, u1_s, u1_n, uA_s, uA_n, true_and, and_true, not_true_eq_false, not_false_eq_true, eq_self, iI_z, al1, al2, al3, al4, al90, al91, al92, al93, al95, Int.cast_ofNat_Int, Nat.reduceAdd, Int.reduceNeg, Int.reduceAdd, Int.reduceSub, Int.reduceMul, Int.reduceLT, Int.reduceLE, Int.reduceGT, Int.reduceGE, Int.reduceEq, Int.reduceNe, Nat.reduceEqDiff, Int.zero_add, Int.add_zero, p_ty0, p_ty1, p_ty2, p_ty3, p_ty4, p_ty5, p_ty6, p_ty7, p_ty8, p_ty9, p_ty10, p_ty11, t0, b2, c2, gd_t, B_t, B_f]
      · rw [if_neg (by rintro (q | q) <;> contradiction), x_X8_readTokens_11]
        clear ih hY hS hlt
        simp (disch := omega) only [x_X8_readTokens_12, x_X8_readTokens_13, x_X8_readTokens_16, x_X8_readTokens_18, x_X8_readTokens_21, x_X8_readTokens_22, x_X8_readTokens_23, x_X8_readTokens_26, x_X8_readTokens_28, List.length_cons, List.length_nil, Nat.reduceLeDiff, Nat.zero_add, iI_add, iI_sub, iI_mul, iI_neg, iI_lt, iI_le, iI_eq, jI_iI, B_True, B_False, B_t, B_f, ck_True, gd_True, cb_v, cb_n, p_mv_rw, p_fv_rw, p_rv_some, pA_1, pA_90, pA_92, pA_3, pA_2, pA_93, pA_4, pA_91, pA_95, pS_i, pW_i, pZ_0, pZ_1, pZ_b, bI_e0, u1_s, u1_n, uA_s, uA_n, true_and, and_true, not_true_eq_false, not_false_eq_true, eq_self, iI_z, al1, al2, al3, al4, al90, al91, al92, al93, al95, Int.cast_ofNat_Int, Nat.reduceAdd, Int.reduceNeg, Int.reduceAdd, Int.reduceSub, Int.reduceMul, Int.reduceLT, Int.reduceLE, Int.reduceGT, Int.reduceGE, Int.reduceEq, Int.reduceNe, Nat.reduceEqDiff, Int.zero_add, Int.add_zero, p_ty0, p_ty1, p_ty2, p_ty3, p_ty4, p_ty5, p_ty6, p_ty7, p_ty8, p_ty9, p_ty10, p_ty11, t0, b2, gd_t, B_t, B_f]
theorem rt_loop (hY : YT T F bd lg N) (hz : 0 ≤ z ∧ z ≤ 2000) : ∀ (n i : Nat) (y : Int) (M : pM), i + n = 400 → t_bk bs z 2000 y = spn bs z i → 0 ≤ y → y ≤ z → YTp M bs z → (∀ j : Nat, j < i → kcn bs z j < 22 ∧ M 142 (j : Int) = spn bs z j ∧ M 141 (j : Int) = kcn bs z j ∧ M 143 (j : Int) = t_end bs z (spn bs z j) - spn bs z j) →
    ∃ M' m, (∀ e, 7 ≤ e → R e m_X8_readTokens 4 [.val (.ref 127), .val (.int (iI y)), .val (.int (iI (i : Int)))] [] T M F = some (.inl none, T, M', F)) ∧ TKM M' bs z m ∧ ∀ a, a ≠ 141 → a ≠ 142 → a ≠ 143 → M' a = M a := by
  have ty := hY
  obtain ⟨ty127, ty128, fy1, ty129, fy4, ty130, fy5, ty131, fy6, ty132, fy7, ty133, fy8, ty136, fy15, ty137, fy16, ty138, fy17, ty139, fy18, ty140, fy19, ty141, fy20, ty142, fy21, ty143, fy22, hbd, tybd, fy9, hlg, tylg, fy13, hN⟩ := ty
  intro n
  induction n with
  | zero =>
    intro i y M hi hy h0 hyz hS hJ
    obtain rfl : i = 400 := by omega
    have hsp : 0 ≤ spn bs z 400 ∧ spn bs z 400 ≤ z := ⟨spn_rg hz 400, by rw [← hy]; exact t_bk_z 2000 y hyz⟩
    obtain ⟨M0, hM0⟩ : ∃ M0 : pM, M0 = uA M 142 (u1 (M 142) 400 (spn bs z 400)) := ⟨_, rfl⟩
    have m0 : ∀ a, a ≠ 142 → M0 a = M a := fun a ha => by rw [hM0, uA_n ha]
    have hS0 : YTp M0 bs z := ⟨by rw [m0 128 (by omega)]; exact hS.1, by rw [m0 127 (by omega)]; exact hS.2.1, hS.2.2⟩
    obtain ⟨M1, r1, k1, k1', f1⟩ := y_kindAt (k := 400) (p := spn bs z 400) hY hS0 (by omega) (by omega)
    have hkc : kcn bs z 400 = if z ≤ spn bs z 400 then 22 else if 400 = 400 then 23 else mcd (t_kd bs z (spn bs z 400) (t_end bs z (spn bs z 400))) := rfl
    rw [← hkc] at r1
    have h22 : 22 ≤ kcn bs z 400 ∧ kcn bs z 400 ≤ 23 := by rw [hkc]; split <;> omega
    obtain ⟨M2, hM2⟩ : ∃ M2 : pM, M2 = uA M1 141 (u1 (M1 141) 400 (kcn bs z 400)) := ⟨_, rfl⟩
    have m2 : ∀ a, a ≠ 141 → M2 a = M1 a := fun a ha => by rw [hM2, uA_n ha]
    refine ⟨M2, 400, fun e he => ?_, ⟨Nat.le_refl _, h22.1, fun j hj => (hJ j hj).1, fun j hj => ?_, fun j hj => ?_⟩, fun a a1 a2 a3 => by rw [m2 a a1, f1 a a3, m0 a a2]⟩
    · have hb := y_blk (l2 := .val (.int (iI 400))) (e := e) hY hS (by omega) 2000 y (by omega) h0 (by omega)
      rw [hy] at hb
      have r1 := r1 e (by omega)
      have e400 : ((400 : Nat) : Int) = 400 := rfl
      rw [e400] at r1 ⊢
      rw [hM0] at r1
      rw [hM2]
      clear hY hS hS0 hJ k1 k1' f1 m0 m2 hM0 hM2 hkc
      rw [x_X8_readTokens_4]
      simp (disch := omega) only [x_X8_readTokens_5, x_X8_readTokens_8, List.length_cons, List.length_nil, Nat.reduceLeDiff, Nat.zero_add, iI_add, iI_sub, iI_mul, iI_neg, iI_lt, iI_le, iI_eq, jI_iI, B_True, B_False, B_t, B_f, ck_True, gd_True, cb_v, cb_n, p_mv_rw, p_fv_rw, p_rv_some, pA_1, pA_90, pA_92, pA_3, pA_2, pA_93, pA_4, pA_91, pA_95, pS_i, pW_i, pZ_0, pZ_1, pZ_b, bI_e0, u1_s, u1_n, uA_s, uA_n, true_and, and_true, not_true_eq_false, not_false_eq_true, eq_self, iI_z, al1, al2, al3, al4, al90, al91, al92, al93, al95, Int.cast_ofNat_Int, Nat.reduceAdd, Int.reduceNeg, Int.reduceAdd, Int.reduceSub, Int.reduceMul, Int.reduceLT, Int.reduceLE, Int.reduceGT, Int.reduceGE, Int.reduceEq, Int.reduceNe, Nat.reduceEqDiff, Int.zero_add, Int.add_zero, p_ty0, p_ty1, p_ty2, p_ty3, p_ty4, p_ty5, p_ty6, p_ty7, p_ty8, p_ty9, p_ty10, p_ty11, B_t, B_f]
      rw [hb]
      simp (disch := omega) only [x_X8_readTokens_37, x_X8_readTokens_38, x_X8_readTokens_41, x_X8_readTokens_42, x_X8_readTokens_43, x_X8_readTokens_44, x_X8_readTokens_45, x_X8_readTokens_48, x_X8_readTokens_49, x_X8_readTokens_50, x_X8_readTokens_51, x_X8_readTokens_52, x_X8_readTokens_55, x_X8_readTokens_56, x_X8_readTokens_57, x_X8_readTokens_60, x_X8_readTokens_61, x_X8_readTokens_62, x_X8_readTokens_64, x_X8_readTokens_67, List.length_cons, List.length_nil, Nat.reduceLeDiff, Nat.zero_add, iI_add, iI_sub, iI_mul, iI_neg, iI_lt, iI_le, iI_eq, jI_iI, B_True, B_False, B_t, B_f, ck_True, gd_True, cb_v, cb_n, p_mv_rw, p_fv_rw, p_rv_some, pA_1, pA_90, pA_92, pA_3, pA_2, pA_93, pA_4, pA_91, pA_95, pS_i, pW_i, pZ_0, pZ_1, pZ_b, bI_e0, u1_s, u1_n, uA_s, uA_n, true_and, and_true, not_true_eq_false, not_false_eq_true, eq_self, iI_z, al1, al2, al3, al4, al90, al91, al92, al93, al95, Int.cast_ofNat_Int, Nat.reduceAdd, Int.reduceNeg, Int.reduceAdd, Int.reduceSub, Int.reduceMul, Int.reduceLT, Int.reduceLE, Int.reduceGT, Int.reduceGE, Int.reduceEq, Int.reduceNe, Nat.reduceEqDiff, Int.zero_add, Int.add_zero, p_ty0, p_ty1, p_ty2, p_ty3, p_ty4, p_ty5, p_ty6, p_ty7, p_ty8, p_ty9, p_ty10, p_ty11, ty127, ty128, fy1, ty129, fy4, ty130, fy5, ty131, fy6, ty132, fy7, ty133, fy8, ty136, fy15, ty137, fy16, ty138, fy17, ty139, fy18, ty140, fy19, ty141, fy20, ty142, fy21, ty143, fy22, tybd, fy9, tylg, fy13, r1, gd_t, B_t, B_f]
    · rw [m2 142 (by omega), f1 142 (by omega), hM0, uA_s, hM2, uA_s, f1 141 (by omega), m0 141 (by omega)]
      by_cases e : j = 400
      · subst e; exact ⟨u1_s, u1_s⟩
      · rw [u1_n (by omega), u1_n (by omega)]; exact ⟨(hJ j (by omega)).2.1, (hJ j (by omega)).2.2.1⟩
    · rw [m2 143 (by omega)]
      by_cases c : spn bs z 400 < z
      · rw [k1 c, u1_n (by omega), m0 143 (by omega)]; exact (hJ j hj).2.2.2
      · rw [k1' (by omega), m0 143 (by omega)]; exact (hJ j hj).2.2.2
  | succ n ih =>
    intro i y M hi hy h0 hyz hS hJ
    have hsp : 0 ≤ spn bs z i ∧ spn bs z i ≤ z := ⟨spn_rg hz i, by rw [← hy]; exact t_bk_z 2000 y hyz⟩
    obtain ⟨M0, hM0⟩ : ∃ M0 : pM, M0 = uA M 142 (u1 (M 142) (i : Int) (spn bs z i)) := ⟨_, rfl⟩
    have m0 : ∀ a, a ≠ 142 → M0 a = M a := fun a ha => by rw [hM0, uA_n ha]
    have hS0 : YTp M0 bs z := ⟨by rw [m0 128 (by omega)]; exact hS.1, by rw [m0 127 (by omega)]; exact hS.2.1, hS.2.2⟩
    obtain ⟨M1, r1, k1, k1', f1⟩ := y_kindAt (k := i) (p := spn bs z i) hY hS0 (by omega) (by omega)
    have hkc : kcn bs z i = if z ≤ spn bs z i then 22 else if i = 400 then 23 else mcd (t_kd bs z (spn bs z i) (t_end bs z (spn bs z i))) := rfl
    rw [← hkc] at r1
    have hkr := kcn_rg (bs := bs) (z := z) i
    obtain ⟨M2, hM2⟩ : ∃ M2 : pM, M2 = uA M1 141 (u1 (M1 141) (i : Int) (kcn bs z i)) := ⟨_, rfl⟩
    have m2 : ∀ a, a ≠ 141 → M2 a = M1 a := fun a ha => by rw [hM2, uA_n ha]
    have hJ2 : ∀ j : Nat, j ≤ i → M2 142 (j : Int) = spn bs z j ∧ M2 141 (j : Int) = kcn bs z j := by
      intro j hj
      rw [m2 142 (by omega), f1 142 (by omega), hM0, uA_s, hM2, uA_s, f1 141 (by omega), m0 141 (by omega)]
      by_cases e : j = i
      · subst e; exact ⟨u1_s, u1_s⟩
      · rw [u1_n (by omega), u1_n (by omega)]; exact ⟨(hJ j (by omega)).2.1, (hJ j (by omega)).2.2.1⟩
    have hJ3 : ∀ j : Nat, j < i → M2 143 (j : Int) = t_end bs z (spn bs z j) - spn bs z j := by
      intro j hj
      rw [m2 143 (by omega)]
      by_cases c : spn bs z i < z
      · rw [k1 c, u1_n (by omega), m0 143 (by omega)]; exact (hJ j hj).2.2.2
      · rw [k1' (by omega), m0 143 (by omega)]; exact (hJ j hj).2.2.2
    by_cases c9 : 22 ≤ kcn bs z i
    · refine ⟨M2, i, fun e he => ?_, ⟨by omega, c9, fun j hj => (hJ j hj).1, hJ2, hJ3⟩, fun a a1 a2 a3 => by rw [m2 a a1, f1 a a3, m0 a a2]⟩
      have hb := y_blk (l2 := .val (.int (iI (i : Int)))) (e := e) hY hS (by omega) 2000 y (by omega) h0 (by omega)
      rw [hy] at hb
      have r1 := r1 e (by omega)
      rw [hM0] at r1
      rw [hM2]
      clear hY hS hS0 hJ k1 k1' f1 m0 m2 hM0 hM2 hkc ih hJ2 hJ3
      rw [x_X8_readTokens_4]
      simp (disch := omega) only [x_X8_readTokens_5, x_X8_readTokens_8, List.length_cons, List.length_nil, Nat.reduceLeDiff, Nat.zero_add, iI_add, iI_sub, iI_mul, iI_neg, iI_lt, iI_le, iI_eq, jI_iI, B_True, B_False, B_t, B_f, ck_True, gd_True, cb_v, cb_n, p_mv_rw, p_fv_rw, p_rv_some, pA_1, pA_90, pA_92, pA_3, pA_2, pA_93, pA_4, pA_91, pA_95, pS_i, pW_i, pZ_0, pZ_1, pZ_b, bI_e0, u1_s, u1_n, uA_s, uA_n, true_and, and_true, not_true_eq_false, not_false_eq_true, eq_self, iI_z, al1, al2, al3, al4, al90, al91, al92, al93, al95, Int.cast_ofNat_Int, Nat.reduceAdd, Int.reduceNeg, Int.reduceAdd, Int.reduceSub, Int.reduceMul, Int.reduceLT, Int.reduceLE, Int.reduceGT, Int.reduceGE, Int.reduceEq, Int.reduceNe, Nat.reduceEqDiff, Int.zero_add, Int.add_zero, p_ty0, p_ty1, p_ty2, p_ty3, p_ty4, p_ty5, p_ty6, p_ty7, p_ty8, p_ty9, p_ty10, p_ty11, B_t, B_f]
      rw [hb]
      simp (disch := omega) only [x_X8_readTokens_37, x_X8_readTokens_38, x_X8_readTokens_41, x_X8_readTokens_42, x_X8_readTokens_43, x_X8_readTokens_44, x_X8_readTokens_45, x_X8_readTokens_48, x_X8_readTokens_49, x_X8_readTokens_50, x_X8_readTokens_51, x_X8_readTokens_52, x_X8_readTokens_55, x_X8_readTokens_56, x_X8_readTokens_57, x_X8_readTokens_60, x_X8_readTokens_61, x_X8_readTokens_62, x_X8_readTokens_64, x_X8_readTokens_67, List.length_cons, List.length_nil, Nat.reduceLeDiff, Nat.zero_add, iI_add, iI_sub, iI_mul, iI_neg, iI_lt, iI_le, iI_eq, jI_iI, B_True, B_False, B_t, B_f, ck_True, gd_True, cb_v, cb_n, p_mv_rw, p_fv_rw, p_rv_some, pA_1, pA_90, pA_92, pA_3, pA_2, pA_93, pA_4, pA_91, pA_95, pS_i, pW_i, pZ_0, pZ_1, pZ_b, bI_e0, u1_s, u1_n, uA_s, uA_n, true_and, and_true, not_true_eq_false, not_false_eq_true, eq_self, iI_z, al1, al2, al3, al4, al90, al91, al92, al93, al95, Int.cast_ofNat_Int, Nat.reduceAdd, Int.reduceNeg, Int.reduceAdd, Int.reduceSub, Int.reduceMul, Int.reduceLT, Int.reduceLE, Int.reduceGT, Int.reduceGE, Int.reduceEq, Int.reduceNe, Nat.reduceEqDiff, Int.zero_add, Int.add_zero, p_ty0, p_ty1, p_ty2, p_ty3, p_ty4, p_ty5, p_ty6, p_ty7, p_ty8, p_ty9, p_ty10, p_ty11, ty127, ty128, fy1, ty129, fy4, ty130, fy5, ty131, fy6, ty132, fy7, ty133, fy8, ty136, fy15, ty137, fy16, ty138, fy17, ty139, fy18, ty140, fy19, ty141, fy20, ty142, fy21, ty143, fy22, tybd, fy9, tylg, fy13, r1, gd_t, B_t, B_f]
    · have hlt := (kcn_lt (bs := bs) (z := z) (i := i) (by omega)).1
      have hE := t_end_rg (bs := bs) (p := spn bs z i) (z := z) ⟨hsp.1, hlt⟩
      have h143 : M2 143 (i : Int) = t_end bs z (spn bs z i) - spn bs z i := by rw [m2 143 (by omega), k1 hlt, u1_s]
      have mm : ∀ a, a ≠ 141 → a ≠ 142 → a ≠ 143 → M2 a = M a := fun a a1 a2 a3 => by rw [m2 a a1, f1 a a3, m0 a a2]
      obtain ⟨M3, m, r3, K3, f3⟩ := ih (i + 1) (t_end bs z (spn bs z i)) M2 (by omega) rfl (by omega) (by omega) ⟨by rw [mm 128 (by omega) (by omega) (by omega)]; exact hS.1, by rw [mm 127 (by omega) (by omega) (by omega)]; exact hS.2.1, hS.2.2⟩ (fun j hj => by
        by_cases e : j = i
        · subst e; exact ⟨by omega, (hJ2 j (Nat.le_refl _)).1, (hJ2 j (Nat.le_refl _)).2, h143⟩
        · exact ⟨(hJ j (by omega)).1, (hJ2 j (by omega)).1, (hJ2 j (by omega)).2, hJ3 j (by omega)⟩)
      refine ⟨M3, m, fun e he => ?_, K3, fun a a1 a2 a3 => (f3 a a1 a2 a3).trans (mm a a1 a2 a3)⟩
      have hb := y_blk (l2 := .val (.int (iI (i : Int)))) (e := e) hY hS (by omega) 2000 y (by omega) h0 (by omega)
      rw [hy] at hb
      have r1 := r1 e (by omega)
      have r3 := r3 e he
      rw [Int.natCast_add_one] at r3
      rw [hM0] at r1
      have e9 : spn bs z i + (t_end bs z (spn bs z i) - spn bs z i) = t_end bs z (spn bs z i) := by omega
      rw [← r3]
      have hM2' : uA M1 141 (u1 (M1 141) (i : Int) (kcn bs z i)) = M2 := hM2.symm
      have h141 := (hJ2 i (Nat.le_refl _)).2
      clear hY hS hS0 hJ k1 k1' f1 m0 m2 hM0 hkc ih hJ2 hJ3 r3 K3 f3 mm hM2
      rw [x_X8_readTokens_4]
      simp (disch := omega) only [x_X8_readTokens_5, x_X8_readTokens_8, List.length_cons, List.length_nil, Nat.reduceLeDiff, Nat.zero_add, iI_add, iI_sub, iI_mul, iI_neg, iI_lt, iI_le, iI_eq, jI_iI, B_True, B_False, B_t, B_f, ck_True, gd_True, cb_v, cb_n, p_mv_rw, p_fv_rw, p_rv_some, pA_1, pA_90, pA_92, pA_3, pA_2, pA_93, pA_4, pA_91, pA_95, pS_i, pW_i, pZ_0, pZ_1, pZ_b, bI_e0, u1_s, u1_n, uA_s, uA_n, true_and, and_true, not_true_eq_false, not_false_eq_true, eq_self, iI_z, al1, al2, al3, al4, al90, al91, al92, al93, al95, Int.cast_ofNat_Int, Nat.reduceAdd, Int.reduceNeg, Int.reduceAdd, Int.reduceSub, Int.reduceMul, Int.reduceLT, Int.reduceLE, Int.reduceGT, Int.reduceGE, Int.reduceEq, Int.reduceNe, Nat.reduceEqDiff, Int.zero_add, Int.add_zero, p_ty0, p_ty1, p_ty2, p_ty3, p_ty4, p_ty5, p_ty6, p_ty7, p_ty8, p_ty9, p_ty10, p_ty11, B_t, B_f]
      rw [hb]
      simp (disch := omega) only [x_X8_readTokens_37, x_X8_readTokens_38, x_X8_readTokens_41, x_X8_readTokens_42, x_X8_readTokens_43, x_X8_readTokens_44, x_X8_readTokens_45, x_X8_readTokens_48, x_X8_readTokens_49, x_X8_readTokens_50, x_X8_readTokens_51, x_X8_readTokens_52, x_X8_readTokens_55, x_X8_readTokens_56, x_X8_readTokens_57, x_X8_readTokens_60, x_X8_readTokens_61, x_X8_readTokens_62, x_X8_readTokens_64, x_X8_readTokens_67, x_X8_readTokens_68, x_X8_readTokens_69, x_X8_readTokens_70, x_X8_readTokens_73, x_X8_readTokens_74, x_X8_readTokens_75, x_X8_readTokens_76, x_X8_readTokens_77, x_X8_readTokens_80, List.length_cons, List.length_nil, Nat.reduceLeDiff, Nat.zero_add, iI_add, iI_sub, iI_mul, iI_neg, iI_lt, iI_le, iI_eq, jI_iI, B_True, B_False, B_t, B_f, ck_True, gd_True, cb_v, cb_n, p_mv_rw, p_fv_rw, p_rv_some, pA_1, pA_90, pA_92, pA_3, pA_2, pA_93, pA_4, pA_91, pA_95, pS_i, pW_i, pZ_0, pZ_1, pZ_b, bI_e0, u1_s, u1_n, uA_s, uA_n, true_and, and_true, not_true_eq_false, not_false_eq_true, eq_self, iI_z, al1, al2, al3, al4, al90, al91, al92, al93, al95, Int.cast_ofNat_Int, Nat.reduceAdd, Int.reduceNeg, Int.reduceAdd, Int.reduceSub, Int.reduceMul, Int.reduceLT, Int.reduceLE, Int.reduceGT, Int.reduceGE, Int.reduceEq, Int.reduceNe, Nat.reduceEqDiff, Int.zero_add, Int.add_zero, p_ty0, p_ty1, p_ty2, p_ty3, p_ty4, p_ty5, p_ty6, p_ty7, p_ty8, p_ty9, p_ty10, p_ty11, ty127, ty128, fy1, ty129, fy4, ty130, fy5, ty131, fy6, ty132, fy7, ty133, fy8, ty136, fy15, ty137, fy16, ty138, fy17, ty139, fy18, ty140, fy19, ty141, fy20, ty142, fy21, ty143, fy22, tybd, fy9, tylg, fy13, r1, hM2', h141, h143, e9, gd_t, B_t, B_f]
theorem y_readTokens (hY : YT T F bd lg N) (hS : YTp M bs z) : ∃ M' m, (∀ d, 8 ≤ d → callD d m_X8_readTokens [.ref 127] T M F = some (.inl none, T, M', F)) ∧ TKM M' bs z m ∧ ∀ a, a ≠ 141 → a ≠ 142 → a ≠ 143 → M' a = M a := by
  obtain ⟨M1, m, r1, K1, f1⟩ := rt_loop (T := T) (F := F) hY hS.2.2.1 400 0 0 M (by omega) rfl (by omega) hS.2.2.1.1 hS (fun j hj => absurd hj (Nat.not_lt_zero j))
  refine ⟨M1, m, fun d hd => ?_, K1, f1⟩
  refine callD_go 7 hd rfl (fun e he => ?_)
  show R e m_X8_readTokens 0 [.val (.ref 127), .unset, .unset] [] T M F = _
  have r1 := r1 e he
  rw [Int.natCast_zero] at r1
  clear hY hS K1 f1
  simp (disch := omega) only [x_X8_readTokens_0, x_X8_readTokens_1, x_X8_readTokens_2, x_X8_readTokens_3, List.length_cons, List.length_nil, Nat.reduceLeDiff, Nat.zero_add, iI_add, iI_sub, iI_mul, iI_neg, iI_lt, iI_le, iI_eq, jI_iI, B_True, B_False, B_t, B_f, ck_True, gd_True, cb_v, cb_n, p_mv_rw, p_fv_rw, p_rv_some, pA_1, pA_90, pA_92, pA_3, pA_2, pA_93, pA_4, pA_91, pA_95, pS_i, pW_i, pZ_0, pZ_1, pZ_b, bI_e0, u1_s, u1_n, uA_s, uA_n, true_and, and_true, not_true_eq_false, not_false_eq_true, eq_self, iI_z, al1, al2, al3, al4, al90, al91, al92, al93, al95, Int.cast_ofNat_Int, Nat.reduceAdd, Int.reduceNeg, Int.reduceAdd, Int.reduceSub, Int.reduceMul, Int.reduceLT, Int.reduceLE, Int.reduceGT, Int.reduceGE, Int.reduceEq, Int.reduceNe, Nat.reduceEqDiff, Int.zero_add, Int.add_zero, p_ty0, p_ty1, p_ty2, p_ty3, p_ty4, p_ty5, p_ty6, p_ty7, p_ty8, p_ty9, p_ty10, p_ty11, r1]
end PYRD
