section PCOF
variable {d n bd lg N : Nat} {T T1 : pT} {M M1 : pM} {F F1 : pF} {x y a k i f : Int}
def cof (x y : Int) : Int := if (-5 ≤ x ∧ x ≤ 5) ∧ (-5 ≤ y ∧ y ≤ 5) ∧ (-5 ≤ x + y ∧ x + y ≤ 5) then p_roM 1 (x + 5) + (y + 6 + (if x < 0 then x else 0)) - 1 else -1
theorem fs_N : ∀ f : Nat, f < 10 → p_roM 1 ((f : Int) + 1) = p_roM 1 (f : Int) + q_csz (f : Int) ∧ (0 ≤ p_roM 1 (f : Int) ∧ p_roM 1 (f : Int) ≤ 91) ∧ (6 ≤ q_csz (f : Int) ∧ q_csz (f : Int) ≤ 11) := by decide +kernel
theorem fs_s (h : 0 ≤ f ∧ f < 10) : p_roM 1 (f + 1) = p_roM 1 f + q_csz f ∧ (0 ≤ p_roM 1 f ∧ p_roM 1 f ≤ 91) ∧ (6 ≤ q_csz f ∧ q_csz f ≤ 11) := by
  have h2 := fs_N f.toNat (by omega)
  rwa [Int.toNat_of_nonneg h.1] at h2
theorem fs_0 : p_roM 1 0 = 0 ∧ p_roM 1 10 = 85 ∧ q_csz 10 = 6 := by decide +kernel
theorem cof_lp {l1 l2 : Int} (hx : -5 ≤ x ∧ x ≤ 5) : ∀ (m : Nat) (f : Int), f + m = x + 5 → 0 ≤ f → ∀ e, 2 ≤ e → R e m_X8_cellOf 51 [.val (.ref 127), .val (.int (iI x)), .val (.int (iI l1)), .val (.int (iI l2)), .val (.int (iI (p_roM 1 f))), .val (.int (iI f))] [] T M F = R e m_X8_cellOf 75 [.val (.ref 127), .val (.int (iI x)), .val (.int (iI l1)), .val (.int (iI l2)), .val (.int (iI (p_roM 1 (x + 5)))), .val (.int (iI (x + 5)))] [] T M F := by
  intro m
  induction m with
  | zero =>
    intro f hf h0 e he
    obtain rfl : f = x + 5 := by omega
    simp (disch := omega) only [x_X8_cellOf_51, x_X8_cellOf_53, x_X8_cellOf_54, x_X8_cellOf_55, x_X8_cellOf_56, List.length_cons, List.length_nil, Nat.reduceLeDiff, Nat.zero_add, iI_add, iI_sub, iI_mul, iI_neg, iI_lt, iI_le, iI_eq, jI_iI, B_True, B_False, B_t, B_f, ck_True, gd_True, cb_v, cb_n, p_mv_rw, p_fv_rw, p_rv_some, pA_1, pA_90, pA_92, pA_3, pA_2, pA_93, pA_4, pA_91, pA_95, pS_i, pW_i, pZ_0, pZ_1, pZ_b, bI_e0, u1_s, u1_n, uA_s, uA_n, true_and, and_true, not_true_eq_false, not_false_eq_true, eq_self, iI_z, al1, al2, al3, al4, al90, al91, al92, al93, al95, Int.cast_ofNat_Int, Nat.reduceAdd, Int.reduceNeg, Int.reduceAdd, Int.reduceSub, Int.reduceMul, Int.reduceLT, Int.reduceLE, Int.reduceGT, Int.reduceGE, Int.reduceEq, Int.reduceNe, Nat.reduceEqDiff, Int.zero_add, Int.add_zero, p_ty0, p_ty1, p_ty2, p_ty3, p_ty4, p_ty5, p_ty6, p_ty7, p_ty8, p_ty9, p_ty10, p_ty11, B_t, B_f]
  | succ m ih =>
    intro f hf h0 e he
    have h1 := fs_s (f := f) (by omega)
    have hz := y_sizeOf (d := e) (T := T) (M := M) (F := F) (n := f) he (by omega)
    have ih := ih (f + 1) (by omega) (by omega) e he
    rw [h1.1] at ih
    rw [← ih, x_X8_cellOf_51]
    obtain ⟨-, h2, h3⟩ := h1
    clear ih
    simp (disch := omega) only [x_X8_cellOf_53, x_X8_cellOf_54, x_X8_cellOf_55, x_X8_cellOf_56, x_X8_cellOf_59, x_X8_cellOf_61, x_X8_cellOf_63, x_X8_cellOf_66, x_X8_cellOf_67, x_X8_cellOf_69, x_X8_cellOf_72, List.length_cons, List.length_nil, Nat.reduceLeDiff, Nat.zero_add, iI_add, iI_sub, iI_mul, iI_neg, iI_lt, iI_le, iI_eq, jI_iI, B_True, B_False, B_t, B_f, ck_True, gd_True, cb_v, cb_n, p_mv_rw, p_fv_rw, p_rv_some, pA_1, pA_90, pA_92, pA_3, pA_2, pA_93, pA_4, pA_91, pA_95, pS_i, pW_i, pZ_0, pZ_1, pZ_b, bI_e0, u1_s, u1_n, uA_s, uA_n, true_and, and_true, not_true_eq_false, not_false_eq_true, eq_self, iI_z, al1, al2, al3, al4, al90, al91, al92, al93, al95, Int.cast_ofNat_Int, Nat.reduceAdd, Int.reduceNeg, Int.reduceAdd, Int.reduceSub, Int.reduceMul, Int.reduceLT, Int.reduceLE, Int.reduceGT, Int.reduceGE, Int.reduceEq, Int.reduceNe, Nat.reduceEqDiff, Int.zero_add, Int.add_zero, p_ty0, p_ty1, p_ty2, p_ty3, p_ty4, p_ty5, p_ty6, p_ty7, p_ty8, p_ty9, p_ty10, p_ty11, hz, gd_t, B_t, B_f]
theorem y_cellOf (t0 : p_ty T 127 = (18, 24)) (hx : -100 ≤ x ∧ x ≤ 100) (hy : -100 ≤ y ∧ y ≤ 100) (hd : 3 ≤ d) : callD d m_X8_cellOf [.ref 127, .int (iI x), .int (iI y)] T M F = some (.inl (some (.int (iI (cof x y)))), T, M, F) := by
  refine callD_go 2 hd rfl (fun e he => ?_)
  show R e m_X8_cellOf 0 [.val (.ref 127), .val (.int (iI x)), .val (.int (iI y)), .unset, .unset, .unset] [] T M F = _
  have i1 := y_isIn (d := e) (T := T) (M := M) (F := F) (n := x) (a := -5) (c := 5) (by omega) (by omega) (by omega) (by omega)
  have i2 := y_isIn (d := e) (T := T) (M := M) (F := F) (n := y) (a := -5) (c := 5) (by omega) (by omega) (by omega) (by omega)
  have i3 := y_isIn (d := e) (T := T) (M := M) (F := F) (n := x + y) (a := -5) (c := 5) (by omega) (by omega) (by omega) (by omega)
  unfold cof
  by_cases c1 : -5 ≤ x ∧ x ≤ 5
  · rw [bI_t c1] at i1
    by_cases c2 : -5 ≤ y ∧ y ≤ 5
    · rw [bI_t c2] at i2
      by_cases c3 : -5 ≤ x + y ∧ x + y ≤ 5
      · rw [bI_t c3] at i3
        rw [if_pos ⟨c1, c2, c3⟩]
        have mi := y_min (d := e) (T := T) (M := M) (F := F) (a := 0) (n := x) (by omega) (by omega) (by omega)
        have lp := fun l1 l2 => cof_lp (T := T) (M := M) (F := F) (x := x) (l1 := l1) (l2 := l2) c1 (x + 5).toNat 0 (by omega) (Int.le_refl _) e he
        rw [fs_0.1] at lp
        have hr : 0 ≤ p_roM 1 (x + 5) ∧ p_roM 1 (x + 5) ≤ 91 := by
          by_cases q : x = 5
          · rw [q]; show 0 ≤ p_roM 1 10 ∧ p_roM 1 10 ≤ 91; rw [fs_0.2.1]; omega
          · exact (fs_s (f := x + 5) (by omega)).2.1
        by_cases c4 : x < 0
        · rw [if_pos c4] at mi ⊢
          simp (disch := omega) only [x_X8_cellOf_0, x_X8_cellOf_1, x_X8_cellOf_3, x_X8_cellOf_4, x_X8_cellOf_7, x_X8_cellOf_10, x_X8_cellOf_11, x_X8_cellOf_13, x_X8_cellOf_14, x_X8_cellOf_17, x_X8_cellOf_20, x_X8_cellOf_21, x_X8_cellOf_22, x_X8_cellOf_23, x_X8_cellOf_25, x_X8_cellOf_26, x_X8_cellOf_29, x_X8_cellOf_32, x_X8_cellOf_33, x_X8_cellOf_34, x_X8_cellOf_35, x_X8_cellOf_37, x_X8_cellOf_38, x_X8_cellOf_39, x_X8_cellOf_40, x_X8_cellOf_43, x_X8_cellOf_44, x_X8_cellOf_45, x_X8_cellOf_46, x_X8_cellOf_48, x_X8_cellOf_49, x_X8_cellOf_51, x_X8_cellOf_53, x_X8_cellOf_54, x_X8_cellOf_55, x_X8_cellOf_56, x_X8_cellOf_59, x_X8_cellOf_61, x_X8_cellOf_63, x_X8_cellOf_66, x_X8_cellOf_67, x_X8_cellOf_69, x_X8_cellOf_72, x_X8_cellOf_75, x_X8_cellOf_77, x_X8_cellOf_78, x_X8_cellOf_79, x_X8_cellOf_80, x_X8_cellOf_81, List.length_cons, List.length_nil, Nat.reduceLeDiff, Nat.zero_add, iI_add, iI_sub, iI_mul, iI_neg, iI_lt, iI_le, iI_eq, jI_iI, B_True, B_False, B_t, B_f, ck_True, gd_True, cb_v, cb_n, p_mv_rw, p_fv_rw, p_rv_some, pA_1, pA_90, pA_92, pA_3, pA_2, pA_93, pA_4, pA_91, pA_95, pS_i, pW_i, pZ_0, pZ_1, pZ_b, bI_e0, u1_s, u1_n, uA_s, uA_n, true_and, and_true, not_true_eq_false, not_false_eq_true, eq_self, iI_z, al1, al2, al3, al4, al90, al91, al92, al93, al95, Int.cast_ofNat_Int, Nat.reduceAdd, Int.reduceNeg, Int.reduceAdd, Int.reduceSub, Int.reduceMul, Int.reduceLT, Int.reduceLE, Int.reduceGT, Int.reduceGE, Int.reduceEq, Int.reduceNe, Nat.reduceEqDiff, Int.zero_add, Int.add_zero, p_ty0, p_ty1, p_ty2, p_ty3, p_ty4, p_ty5, p_ty6, p_ty7, p_ty8, p_ty9, p_ty10, p_ty11, i1, i2, i3, mi, lp, gd_t, B_t, B_f]
        · rw [if_neg c4] at mi ⊢
          simp (disch := omega) only [x_X8_cellOf_0, x_X8_cellOf_1, x_X8_cellOf_3, x_X8_cellOf_4, x_X8_cellOf_7, x_X8_cellOf_10, x_X8_cellOf_11, x_X8_cellOf_13, x_X8_cellOf_14, x_X8_cellOf_17, x_X8_cellOf_20, x_X8_cellOf_21, x_X8_cellOf_22, x_X8_cellOf_23, x_X8_cellOf_25, x_X8_cellOf_26, x_X8_cellOf_29, x_X8_cellOf_32, x_X8_cellOf_33, x_X8_cellOf_34, x_X8_cellOf_35, x_X8_cellOf_37, x_X8_cellOf_38, x_X8_cellOf_39, x_X8_cellOf_40, x_X8_cellOf_43, x_X8_cellOf_44, x_X8_cellOf_45, x_X8_cellOf_46, x_X8_cellOf_48, x_X8_cellOf_49, x_X8_cellOf_51, x_X8_cellOf_53, x_X8_cellOf_54, x_X8_cellOf_55, x_X8_cellOf_56, x_X8_cellOf_59, x_X8_cellOf_61, x_X8_cellOf_63, x_X8_cellOf_66, x_X8_cellOf_67, x_X8_cellOf_69, x_X8_cellOf_72, x_X8_cellOf_75, x_X8_cellOf_77, x_X8_cellOf_78, x_X8_cellOf_79, x_X8_cellOf_80, x_X8_cellOf_81, List.length_cons, List.length_nil, Nat.reduceLeDiff, Nat.zero_add, iI_add, iI_sub, iI_mul, iI_neg, iI_lt, iI_le, iI_eq, jI_iI, B_True, B_False, B_t, B_f, ck_True, gd_True, cb_v, cb_n, p_mv_rw, p_fv_rw, p_rv_some, pA_1, pA_90, pA_92, pA_3, pA_2, pA_93, pA_4, pA_91, pA_95, pS_i, pW_i, pZ_0, pZ_1, pZ_b, bI_e0, u1_s, u1_n, uA_s, uA_n, true_and, and_true, not_true_eq_false, not_false_eq_true, eq_self, iI_z, al1, al2, al3, al4, al90, al91, al92, al93, al95, Int.cast_ofNat_Int, Nat.reduceAdd, Int.reduceNeg, Int.reduceAdd, Int.reduceSub, Int.reduceMul, Int.reduceLT, Int.reduceLE, Int.reduceGT, Int.reduceGE, Int.reduceEq, Int.reduceNe, Nat.reduceEqDiff, Int.zero_add, Int.add_zero, p_ty0, p_ty1, p_ty2, p_ty3, p_ty4, p_ty5, p_ty6, p_ty7, p_ty8, p_ty9, p_ty10, p_ty11, i1, i2, i3, mi, lp, gd_t, B_t, B_f]
      · rw [bI_f c3] at i3
        rw [if_neg (fun q => c3 q.2.2)]
        simp (disch := omega) only [x_X8_cellOf_0, x_X8_cellOf_1, x_X8_cellOf_3, x_X8_cellOf_4, x_X8_cellOf_7, x_X8_cellOf_10, x_X8_cellOf_11, x_X8_cellOf_13, x_X8_cellOf_14, x_X8_cellOf_17, x_X8_cellOf_20, x_X8_cellOf_21, x_X8_cellOf_22, x_X8_cellOf_23, x_X8_cellOf_25, x_X8_cellOf_26, x_X8_cellOf_29, x_X8_cellOf_32, x_X8_cellOf_33, List.length_cons, List.length_nil, Nat.reduceLeDiff, Nat.zero_add, iI_add, iI_sub, iI_mul, iI_neg, iI_lt, iI_le, iI_eq, jI_iI, B_True, B_False, B_t, B_f, ck_True, gd_True, cb_v, cb_n, p_mv_rw, p_fv_rw, p_rv_some, pA_1, pA_90, pA_92, pA_3, pA_2, pA_93, pA_4, pA_91, pA_95, pS_i, pW_i, pZ_0, pZ_1, pZ_b, bI_e0, u1_s, u1_n, uA_s, uA_n, true_and, and_true, not_true_eq_false, not_false_eq_true, eq_self, iI_z, al1, al2, al3, al4, al90, al91, al92, al93, al95, Int.cast_ofNat_Int, Nat.reduceAdd, Int.reduceNeg, Int.reduceAdd, Int.reduceSub, Int.reduceMul, Int.reduceLT, Int.reduceLE, Int.reduceGT, Int.reduceGE, Int.reduceEq, Int.reduceNe, Nat.reduceEqDiff, Int.zero_add, Int.add_zero, p_ty0, p_ty1, p_ty2, p_ty3, p_ty4, p_ty5, p_ty6, p_ty7, p_ty8, p_ty9, p_ty10, p_ty11, i1, i2, i3, gd_t, B_t, B_f]
    · rw [bI_f c2] at i2
      rw [if_neg (fun q => c2 q.2.1)]
      simp (disch := omega) only [x_X8_cellOf_0, x_X8_cellOf_1, x_X8_cellOf_3, x_X8_cellOf_4, x_X8_cellOf_7, x_X8_cellOf_10, x_X8_cellOf_11, x_X8_cellOf_13, x_X8_cellOf_14, x_X8_cellOf_17, x_X8_cellOf_20, x_X8_cellOf_21, x_X8_cellOf_22, x_X8_cellOf_23, x_X8_cellOf_25, x_X8_cellOf_26, x_X8_cellOf_29, x_X8_cellOf_32, x_X8_cellOf_33, List.length_cons, List.length_nil, Nat.reduceLeDiff, Nat.zero_add, iI_add, iI_sub, iI_mul, iI_neg, iI_lt, iI_le, iI_eq, jI_iI, B_True, B_False, B_t, B_f, ck_True, gd_True, cb_v, cb_n, p_mv_rw, p_fv_rw, p_rv_some, pA_1, pA_90, pA_92, pA_3, pA_2, pA_93, pA_4, pA_91, pA_95, pS_i, pW_i, pZ_0, pZ_1, pZ_b, bI_e0, u1_s, u1_n, uA_s, uA_n, true_and, and_true, not_true_eq_false, not_false_eq_true, eq_self, iI_z, al1, al2, al3, al4, al90, al91, al92, al93, al95, Int.cast_ofNat_Int, Nat.reduceAdd, Int.reduceNeg, Int.reduceAdd, Int.reduceSub, Int.reduceMul, Int.reduceLT, Int.reduceLE, Int.reduceGT, Int.reduceGE, Int.reduceEq, Int.reduceNe, Nat.reduceEqDiff, Int.zero_add, Int.add_zero, p_ty0, p_ty1, p_ty2, p_ty3, p_ty4, p_ty5, p_ty6, p_ty7, p_ty8, p_ty9, p_ty10, p_ty11, i1, i2, gd_t, B_t, B_f]
  · rw [bI_f c1] at i1
    rw [if_neg (fun q => c1 q.1)]
    simp (disch := omega) only [x_X8_cellOf_0, x_X8_cellOf_1, x_X8_cellOf_3, x_X8_cellOf_4, x_X8_cellOf_7, x_X8_cellOf_10, x_X8_cellOf_11, x_X8_cellOf_13, x_X8_cellOf_14, x_X8_cellOf_17, x_X8_cellOf_20, x_X8_cellOf_21, x_X8_cellOf_22, x_X8_cellOf_23, x_X8_cellOf_25, x_X8_cellOf_26, x_X8_cellOf_29, x_X8_cellOf_32, x_X8_cellOf_33, List.length_cons, List.length_nil, Nat.reduceLeDiff, Nat.zero_add, iI_add, iI_sub, iI_mul, iI_neg, iI_lt, iI_le, iI_eq, jI_iI, B_True, B_False, B_t, B_f, ck_True, gd_True, cb_v, cb_n, p_mv_rw, p_fv_rw, p_rv_some, pA_1, pA_90, pA_92, pA_3, pA_2, pA_93, pA_4, pA_91, pA_95, pS_i, pW_i, pZ_0, pZ_1, pZ_b, bI_e0, u1_s, u1_n, uA_s, uA_n, true_and, and_true, not_true_eq_false, not_false_eq_true, eq_self, iI_z, al1, al2, al3, al4, al90, al91, al92, al93, al95, Int.cast_ofNat_Int, Nat.reduceAdd, Int.reduceNeg, Int.reduceAdd, Int.reduceSub, Int.reduceMul, Int.reduceLT, Int.reduceLE, Int.reduceGT, Int.reduceGE, Int.reduceEq, Int.reduceNe, Nat.reduceEqDiff, Int.zero_add, Int.add_zero, p_ty0, p_ty1, p_ty2, p_ty3, p_ty4, p_ty5, p_ty6, p_ty7, p_ty8, p_ty9, p_ty10, p_ty11, i1, gd_t, B_t, B_f]
end PCOF
