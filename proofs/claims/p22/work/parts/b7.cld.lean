section PCLD
variable {d s b n : Nat} {T T1 : pT} {M M1 : pM} {F F1 : pF} {bb : Int → Int} {k t pas q its to as i c p x y X Y mv side f g u : Int}
def up1 (t : Int) : Int := if t = 0 then 1 else -1
theorem up1_f (hs : t = 0 ∨ t = 1) : (up1 t = 1 ∨ up1 t = -1) ∧ dX (m_ah t) = 0 ∧ dY (m_ah t) = up1 t ∧ (0 ≤ m_ah t ∧ m_ah t < 12) := by
  rcases hs with rfl | rfl <;> decide
theorem z_isFirst (hk : 0 ≤ k ∧ k < 91) (hs : side = 0 ∨ side = 1) (hd : 2 ≤ d) : callD d m_X8_isFirst [.int (iI (pl1 k)), .int (iI side)] T M F = some (.inl (some (.int (iI (bI (m_fst k side))))), T, M, F) := by
  refine callD_go 1 hd rfl (fun e he => ?_)
  show R e m_X8_isFirst 0 [.val (.int (iI (pl1 k))), .val (.int (iI side)), .unset, .unset] [] T M F = _
  have r1 := gxy_rg hk
  have k1 := (c1_pl1 hk).2.1
  have p1 := pl1_xy hk
  have d1 : iI (pl1 k) / iI 11 = iI (gx k + 5) := by rw [(idv11 (by omega)).1, p1.1]
  have d2 : pl1 k - (gx k + 5) * 11 = gy k + 5 := by omega
  have d3 : gx k + 5 - 5 = gx k := by omega
  have d4 : gy k + 5 - 5 = gy k := by omega
  have a1 := z_abs (d := e) (T := T) (M := M) (F := F) (n := gx k) he (by omega)
  have g1 := ab_rg (gx k)
  unfold m_fst
  generalize pl1 k = pk at *
  generalize gy k = Y at *
  generalize gx k = X at *
  by_cases c1 : -4 ≤ X ∧ X ≤ 4
  · have c2 : ab X < 5 := by unfold ab; split <;> omega
    generalize ab X = ax at *
    rcases hs with rfl | rfl
    · rw [if_pos (show (0 : Int) = 0 from rfl)]
      by_cases c3 : 0 < X
      · rw [if_pos c3]
        by_cases c4 : Y = -1 - X
        · rw [bI_t ⟨c1.1, c1.2, c4⟩]
          simp (disch := omega) only [x_X8_isFirst_0, x_X8_isFirst_1, x_X8_isFirst_3, x_X8_isFirst_4, x_X8_isFirst_5, x_X8_isFirst_6, x_X8_isFirst_7, x_X8_isFirst_8, x_X8_isFirst_10, x_X8_isFirst_11, x_X8_isFirst_12, x_X8_isFirst_13, x_X8_isFirst_14, x_X8_isFirst_15, x_X8_isFirst_18, x_X8_isFirst_19, x_X8_isFirst_22, x_X8_isFirst_23, x_X8_isFirst_26, x_X8_isFirst_27, x_X8_isFirst_28, x_X8_isFirst_31, x_X8_isFirst_32, x_X8_isFirst_33, x_X8_isFirst_34, x_X8_isFirst_37, x_X8_isFirst_38, x_X8_isFirst_41, x_X8_isFirst_44, x_X8_isFirst_45, x_X8_isFirst_46, x_X8_isFirst_49, x_X8_isFirst_50, x_X8_isFirst_51, x_X8_isFirst_52, x_X8_isFirst_55, x_X8_isFirst_56, x_X8_isFirst_59, x_X8_isFirst_60, x_X8_isFirst_63, x_X8_isFirst_64, List.length_cons, List.length_nil, Nat.reduceLeDiff, Nat.zero_add, iI_add, iI_sub, iI_mul, iI_neg, iI_lt, iI_le, iI_eq, jI_iI, B_True, B_False, B_t, B_f, ck_True, gd_True, cb_v, cb_n, p_mv_rw, p_fv_rw, p_rv_some, pA_1, pA_90, pA_92, pA_3, pA_5, pA_93, pA_4, pA_91, pA_6, pS_i, pB_i, pW_i, pZ_0, pZ_1, pZ_b, bI_e0, u1_s, u1_n, uA_s, uA_n, true_and, and_true, not_true_eq_false, not_false_eq_true, eq_self, iI_z, al1, al5, al3, al4, al90, al91, al92, al93, al6, Int.cast_ofNat_Int, Nat.reduceAdd, Int.reduceNeg, Int.reduceAdd, Int.reduceSub, Int.reduceMul, Int.reduceLT, Int.reduceLE, Int.reduceGT, Int.reduceGE, Int.reduceEq, Int.reduceNe, Nat.reduceEqDiff, Int.zero_add, Int.add_zero, p_ty0, p_ty1, p_ty2, p_ty3, p_ty4, p_ty5, p_ty8, p_ty9, p_ty10, d1, d2, d3, d4, a1, gd_t, ck_t, B_t, B_f]
        · rw [bI_f (fun z => c4 z.2.2)]
          simp (disch := omega) only [x_X8_isFirst_0, x_X8_isFirst_1, x_X8_isFirst_3, x_X8_isFirst_4, x_X8_isFirst_5, x_X8_isFirst_6, x_X8_isFirst_7, x_X8_isFirst_8, x_X8_isFirst_10, x_X8_isFirst_11, x_X8_isFirst_12, x_X8_isFirst_13, x_X8_isFirst_14, x_X8_isFirst_15, x_X8_isFirst_18, x_X8_isFirst_19, x_X8_isFirst_22, x_X8_isFirst_23, x_X8_isFirst_26, x_X8_isFirst_27, x_X8_isFirst_28, x_X8_isFirst_31, x_X8_isFirst_32, x_X8_isFirst_33, x_X8_isFirst_34, x_X8_isFirst_37, x_X8_isFirst_38, x_X8_isFirst_41, x_X8_isFirst_44, x_X8_isFirst_45, x_X8_isFirst_46, x_X8_isFirst_49, x_X8_isFirst_50, x_X8_isFirst_51, x_X8_isFirst_52, x_X8_isFirst_55, x_X8_isFirst_56, x_X8_isFirst_59, x_X8_isFirst_60, x_X8_isFirst_63, x_X8_isFirst_64, List.length_cons, List.length_nil, Nat.reduceLeDiff, Nat.zero_add, iI_add, iI_sub, iI_mul, iI_neg, iI_lt, iI_le, iI_eq, jI_iI, B_True, B_False, B_t, B_f, ck_True, gd_True, cb_v, cb_n, p_mv_rw, p_fv_rw, p_rv_some, pA_1, pA_90, pA_92, pA_3, pA_5, pA_93, pA_4, pA_91, pA_6, pS_i, pB_i, pW_i, pZ_0, pZ_1, pZ_b, bI_e0, u1_s, u1_n, uA_s, uA_n, true_and, and_true, not_true_eq_false, not_false_eq_true, eq_self, iI_z, al1, al5, al3, al4, al90, al91, al92, al93, al6, Int.cast_ofNat_Int, Nat.reduceAdd, Int.reduceNeg, Int.reduceAdd, Int.reduceSub, Int.reduceMul, Int.reduceLT, Int.reduceLE, Int.reduceGT, Int.reduceGE, Int.reduceEq, Int.reduceNe, Nat.reduceEqDiff, Int.zero_add, Int.add_zero, p_ty0, p_ty1, p_ty2, p_ty3, p_ty4, p_ty5, p_ty8, p_ty9, p_ty10, d1, d2, d3, d4, a1, gd_t, ck_t, B_t, B_f]
      · rw [if_neg c3]
        by_cases c4 : Y = -1
        · rw [bI_t ⟨c1.1, c1.2, c4⟩]
          simp (disch := omega) only [x_X8_isFirst_0, x_X8_isFirst_1, x_X8_isFirst_3, x_X8_isFirst_4, x_X8_isFirst_5, x_X8_isFirst_6, x_X8_isFirst_7, x_X8_isFirst_8, x_X8_isFirst_10, x_X8_isFirst_11, x_X8_isFirst_12, x_X8_isFirst_13, x_X8_isFirst_14, x_X8_isFirst_15, x_X8_isFirst_18, x_X8_isFirst_19, x_X8_isFirst_22, x_X8_isFirst_23, x_X8_isFirst_26, x_X8_isFirst_27, x_X8_isFirst_28, x_X8_isFirst_31, x_X8_isFirst_32, x_X8_isFirst_33, x_X8_isFirst_34, x_X8_isFirst_37, x_X8_isFirst_38, x_X8_isFirst_41, x_X8_isFirst_44, x_X8_isFirst_45, x_X8_isFirst_46, x_X8_isFirst_49, x_X8_isFirst_50, x_X8_isFirst_51, x_X8_isFirst_52, x_X8_isFirst_55, x_X8_isFirst_56, x_X8_isFirst_59, x_X8_isFirst_60, x_X8_isFirst_63, x_X8_isFirst_64, List.length_cons, List.length_nil, Nat.reduceLeDiff, Nat.zero_add, iI_add, iI_sub, iI_mul, iI_neg, iI_lt, iI_le, iI_eq, jI_iI, B_True, B_False, B_t, B_f, ck_True, gd_True, cb_v, cb_n, p_mv_rw, p_fv_rw, p_rv_some, pA_1, pA_90, pA_92, pA_3, pA_5, pA_93, pA_4, pA_91, pA_6, pS_i, pB_i, pW_i, pZ_0, pZ_1, pZ_b, bI_e0, u1_s, u1_n, uA_s, uA_n, true_and, and_true, not_true_eq_false, not_false_eq_true, eq_self, iI_z, al1, al5, al3, al4, al90, al91, al92, al93, al6, Int.cast_ofNat_Int, Nat.reduceAdd, Int.reduceNeg, Int.reduceAdd, Int.reduceSub, Int.reduceMul, Int.reduceLT, Int.reduceLE, Int.reduceGT, Int.reduceGE, Int.reduceEq, Int.reduceNe, Nat.reduceEqDiff, Int.zero_add, Int.add_zero, p_ty0, p_ty1, p_ty2, p_ty3, p_ty4, p_ty5, p_ty8, p_ty9, p_ty10, d1, d2, d3, d4, a1, gd_t, ck_t, B_t, B_f]
        · rw [bI_f (fun z => c4 z.2.2)]
          simp (disch := omega) only [x_X8_isFirst_0, x_X8_isFirst_1, x_X8_isFirst_3, x_X8_isFirst_4, x_X8_isFirst_5, x_X8_isFirst_6, x_X8_isFirst_7, x_X8_isFirst_8, x_X8_isFirst_10, x_X8_isFirst_11, x_X8_isFirst_12, x_X8_isFirst_13, x_X8_isFirst_14, x_X8_isFirst_15, x_X8_isFirst_18, x_X8_isFirst_19, x_X8_isFirst_22, x_X8_isFirst_23, x_X8_isFirst_26, x_X8_isFirst_27, x_X8_isFirst_28, x_X8_isFirst_31, x_X8_isFirst_32, x_X8_isFirst_33, x_X8_isFirst_34, x_X8_isFirst_37, x_X8_isFirst_38, x_X8_isFirst_41, x_X8_isFirst_44, x_X8_isFirst_45, x_X8_isFirst_46, x_X8_isFirst_49, x_X8_isFirst_50, x_X8_isFirst_51, x_X8_isFirst_52, x_X8_isFirst_55, x_X8_isFirst_56, x_X8_isFirst_59, x_X8_isFirst_60, x_X8_isFirst_63, x_X8_isFirst_64, List.length_cons, List.length_nil, Nat.reduceLeDiff, Nat.zero_add, iI_add, iI_sub, iI_mul, iI_neg, iI_lt, iI_le, iI_eq, jI_iI, B_True, B_False, B_t, B_f, ck_True, gd_True, cb_v, cb_n, p_mv_rw, p_fv_rw, p_rv_some, pA_1, pA_90, pA_92, pA_3, pA_5, pA_93, pA_4, pA_91, pA_6, pS_i, pB_i, pW_i, pZ_0, pZ_1, pZ_b, bI_e0, u1_s, u1_n, uA_s, uA_n, true_and, and_true, not_true_eq_false, not_false_eq_true, eq_self, iI_z, al1, al5, al3, al4, al90, al91, al92, al93, al6, Int.cast_ofNat_Int, Nat.reduceAdd, Int.reduceNeg, Int.reduceAdd, Int.reduceSub, Int.reduceMul, Int.reduceLT, Int.reduceLE, Int.reduceGT, Int.reduceGE, Int.reduceEq, Int.reduceNe, Nat.reduceEqDiff, Int.zero_add, Int.add_zero, p_ty0, p_ty1, p_ty2, p_ty3, p_ty4, p_ty5, p_ty8, p_ty9, p_ty10, d1, d2, d3, d4, a1, gd_t, ck_t, B_t, B_f]
    · rw [if_neg (show ¬ (1 : Int) = 0 by decide)]
      by_cases c3 : X < 0
      · rw [if_pos c3]
        by_cases c4 : Y = 1 - X
        · rw [bI_t ⟨c1.1, c1.2, c4⟩]
          simp (disch := omega) only [x_X8_isFirst_0, x_X8_isFirst_1, x_X8_isFirst_3, x_X8_isFirst_4, x_X8_isFirst_5, x_X8_isFirst_6, x_X8_isFirst_7, x_X8_isFirst_8, x_X8_isFirst_10, x_X8_isFirst_11, x_X8_isFirst_12, x_X8_isFirst_13, x_X8_isFirst_14, x_X8_isFirst_15, x_X8_isFirst_18, x_X8_isFirst_19, x_X8_isFirst_22, x_X8_isFirst_23, x_X8_isFirst_26, x_X8_isFirst_27, x_X8_isFirst_28, x_X8_isFirst_31, x_X8_isFirst_32, x_X8_isFirst_33, x_X8_isFirst_34, x_X8_isFirst_37, x_X8_isFirst_38, x_X8_isFirst_41, x_X8_isFirst_44, x_X8_isFirst_45, x_X8_isFirst_46, x_X8_isFirst_49, x_X8_isFirst_50, x_X8_isFirst_51, x_X8_isFirst_52, x_X8_isFirst_55, x_X8_isFirst_56, x_X8_isFirst_59, x_X8_isFirst_60, x_X8_isFirst_63, x_X8_isFirst_64, List.length_cons, List.length_nil, Nat.reduceLeDiff, Nat.zero_add, iI_add, iI_sub, iI_mul, iI_neg, iI_lt, iI_le, iI_eq, jI_iI, B_True, B_False, B_t, B_f, ck_True, gd_True, cb_v, cb_n, p_mv_rw, p_fv_rw, p_rv_some, pA_1, pA_90, pA_92, pA_3, pA_5, pA_93, pA_4, pA_91, pA_6, pS_i, pB_i, pW_i, pZ_0, pZ_1, pZ_b, bI_e0, u1_s, u1_n, uA_s, uA_n, true_and, and_true, not_true_eq_false, not_false_eq_true, eq_self, iI_z, al1, al5, al3, al4, al90, al91, al92, al93, al6, Int.cast_ofNat_Int, Nat.reduceAdd, Int.reduceNeg, Int.reduceAdd, Int.reduceSub, Int.reduceMul, Int.reduceLT, Int.reduceLE, Int.reduceGT, Int.reduceGE, Int.reduceEq, Int.reduceNe, Nat.reduceEqDiff, Int.zero_add, Int.add_zero, p_ty0, p_ty1, p_ty2, p_ty3, p_ty4, p_ty5, p_ty8, p_ty9, p_ty10, d1, d2, d3, d4, a1, gd_t, ck_t, B_t, B_f]
        · rw [bI_f (fun z => c4 z.2.2)]
          simp (disch := omega) only [x_X8_isFirst_0, x_X8_isFirst_1, x_X8_isFirst_3, x_X8_isFirst_4, x_X8_isFirst_5, x_X8_isFirst_6, x_X8_isFirst_7, x_X8_isFirst_8, x_X8_isFirst_10, x_X8_isFirst_11, x_X8_isFirst_12, x_X8_isFirst_13, x_X8_isFirst_14, x_X8_isFirst_15, x_X8_isFirst_18, x_X8_isFirst_19, x_X8_isFirst_22, x_X8_isFirst_23, x_X8_isFirst_26, x_X8_isFirst_27, x_X8_isFirst_28, x_X8_isFirst_31, x_X8_isFirst_32, x_X8_isFirst_33, x_X8_isFirst_34, x_X8_isFirst_37, x_X8_isFirst_38, x_X8_isFirst_41, x_X8_isFirst_44, x_X8_isFirst_45, x_X8_isFirst_46, x_X8_isFirst_49, x_X8_isFirst_50, x_X8_isFirst_51, x_X8_isFirst_52, x_X8_isFirst_55, x_X8_isFirst_56, x_X8_isFirst_59, x_X8_isFirst_60, x_X8_isFirst_63, x_X8_isFirst_64, List.length_cons, List.length_nil, Nat.reduceLeDiff, Nat.zero_add, iI_add, iI_sub, iI_mul, iI_neg, iI_lt, iI_le, iI_eq, jI_iI, B_True, B_False, B_t, B_f, ck_True, gd_True, cb_v, cb_n, p_mv_rw, p_fv_rw, p_rv_some, pA_1, pA_90, pA_92, pA_3, pA_5, pA_93, pA_4, pA_91, pA_6, pS_i, pB_i, pW_i, pZ_0, pZ_1, pZ_b, bI_e0, u1_s, u1_n, uA_s, uA_n, true_and, and_true, not_true_eq_false, not_false_eq_true, eq_self, iI_z, al1, al5, al3, al4, al90, al91, al92, al93, al6, Int.cast_ofNat_Int, Nat.reduceAdd, Int.reduceNeg, Int.reduceAdd, Int.reduceSub, Int.reduceMul, Int.reduceLT, Int.reduceLE, Int.reduceGT, Int.reduceGE, Int.reduceEq, Int.reduceNe, Nat.reduceEqDiff, Int.zero_add, Int.add_zero, p_ty0, p_ty1, p_ty2, p_ty3, p_ty4, p_ty5, p_ty8, p_ty9, p_ty10, d1, d2, d3, d4, a1, gd_t, ck_t, B_t, B_f]
      · rw [if_neg c3]
        by_cases c4 : Y = 1
        · rw [bI_t ⟨c1.1, c1.2, c4⟩]
          simp (disch := omega) only [x_X8_isFirst_0, x_X8_isFirst_1, x_X8_isFirst_3, x_X8_isFirst_4, x_X8_isFirst_5, x_X8_isFirst_6, x_X8_isFirst_7, x_X8_isFirst_8, x_X8_isFirst_10, x_X8_isFirst_11, x_X8_isFirst_12, x_X8_isFirst_13, x_X8_isFirst_14, x_X8_isFirst_15, x_X8_isFirst_18, x_X8_isFirst_19, x_X8_isFirst_22, x_X8_isFirst_23, x_X8_isFirst_26, x_X8_isFirst_27, x_X8_isFirst_28, x_X8_isFirst_31, x_X8_isFirst_32, x_X8_isFirst_33, x_X8_isFirst_34, x_X8_isFirst_37, x_X8_isFirst_38, x_X8_isFirst_41, x_X8_isFirst_44, x_X8_isFirst_45, x_X8_isFirst_46, x_X8_isFirst_49, x_X8_isFirst_50, x_X8_isFirst_51, x_X8_isFirst_52, x_X8_isFirst_55, x_X8_isFirst_56, x_X8_isFirst_59, x_X8_isFirst_60, x_X8_isFirst_63, x_X8_isFirst_64, List.length_cons, List.length_nil, Nat.reduceLeDiff, Nat.zero_add, iI_add, iI_sub, iI_mul, iI_neg, iI_lt, iI_le, iI_eq, jI_iI, B_True, B_False, B_t, B_f, ck_True, gd_True, cb_v, cb_n, p_mv_rw, p_fv_rw, p_rv_some, pA_1, pA_90, pA_92, pA_3, pA_5, pA_93, pA_4, pA_91, pA_6, pS_i, pB_i, pW_i, pZ_0, pZ_1, pZ_b, bI_e0, u1_s, u1_n, uA_s, uA_n, true_and, and_true, not_true_eq_false, not_false_eq_true, eq_self, iI_z, al1, al5, al3, al4, al90, al91, al92, al93, al6, Int.cast_ofNat_Int, Nat.reduceAdd, Int.reduceNeg, Int.reduceAdd, Int.reduceSub, Int.reduceMul, Int.reduceLT, Int.reduceLE, Int.reduceGT, Int.reduceGE, Int.reduceEq, Int.reduceNe, Nat.reduceEqDiff, Int.zero_add, Int.add_zero, p_ty0, p_ty1, p_ty2, p_ty3, p_ty4, p_ty5, p_ty8, p_ty9, p_ty10, d1, d2, d3, d4, a1, gd_t, ck_t, B_t, B_f]
        · rw [bI_f (fun z => c4 z.2.2)]
          simp (disch := omega) only [x_X8_isFirst_0, x_X8_isFirst_1, x_X8_isFirst_3, x_X8_isFirst_4, x_X8_isFirst_5, x_X8_isFirst_6, x_X8_isFirst_7, x_X8_isFirst_8, x_X8_isFirst_10, x_X8_isFirst_11, x_X8_isFirst_12, x_X8_isFirst_13, x_X8_isFirst_14, x_X8_isFirst_15, x_X8_isFirst_18, x_X8_isFirst_19, x_X8_isFirst_22, x_X8_isFirst_23, x_X8_isFirst_26, x_X8_isFirst_27, x_X8_isFirst_28, x_X8_isFirst_31, x_X8_isFirst_32, x_X8_isFirst_33, x_X8_isFirst_34, x_X8_isFirst_37, x_X8_isFirst_38, x_X8_isFirst_41, x_X8_isFirst_44, x_X8_isFirst_45, x_X8_isFirst_46, x_X8_isFirst_49, x_X8_isFirst_50, x_X8_isFirst_51, x_X8_isFirst_52, x_X8_isFirst_55, x_X8_isFirst_56, x_X8_isFirst_59, x_X8_isFirst_60, x_X8_isFirst_63, x_X8_isFirst_64, List.length_cons, List.length_nil, Nat.reduceLeDiff, Nat.zero_add, iI_add, iI_sub, iI_mul, iI_neg, iI_lt, iI_le, iI_eq, jI_iI, B_True, B_False, B_t, B_f, ck_True, gd_True, cb_v, cb_n, p_mv_rw, p_fv_rw, p_rv_some, pA_1, pA_90, pA_92, pA_3, pA_5, pA_93, pA_4, pA_91, pA_6, pS_i, pB_i, pW_i, pZ_0, pZ_1, pZ_b, bI_e0, u1_s, u1_n, uA_s, uA_n, true_and, and_true, not_true_eq_false, not_false_eq_true, eq_self, iI_z, al1, al5, al3, al4, al90, al91, al92, al93, al6, Int.cast_ofNat_Int, Nat.reduceAdd, Int.reduceNeg, Int.reduceAdd, Int.reduceSub, Int.reduceMul, Int.reduceLT, Int.reduceLE, Int.reduceGT, Int.reduceGE, Int.reduceEq, Int.reduceNe, Nat.reduceEqDiff, Int.zero_add, Int.add_zero, p_ty0, p_ty1, p_ty2, p_ty3, p_ty4, p_ty5, p_ty8, p_ty9, p_ty10, d1, d2, d3, d4, a1, gd_t, ck_t, B_t, B_f]
  · rw [bI_f (fun z => c1 ⟨z.1, z.2.1⟩)]
    have c2 : ¬ ab X < 5 := by unfold ab; split <;> omega
    generalize ab X = ax at *
    simp (disch := omega) only [x_X8_isFirst_0, x_X8_isFirst_1, x_X8_isFirst_3, x_X8_isFirst_4, x_X8_isFirst_5, x_X8_isFirst_6, x_X8_isFirst_7, x_X8_isFirst_8, x_X8_isFirst_10, x_X8_isFirst_11, x_X8_isFirst_12, x_X8_isFirst_13, x_X8_isFirst_14, x_X8_isFirst_15, x_X8_isFirst_18, x_X8_isFirst_19, x_X8_isFirst_22, x_X8_isFirst_23, x_X8_isFirst_26, x_X8_isFirst_27, x_X8_isFirst_28, x_X8_isFirst_31, x_X8_isFirst_32, x_X8_isFirst_33, x_X8_isFirst_34, x_X8_isFirst_37, x_X8_isFirst_38, x_X8_isFirst_41, x_X8_isFirst_44, x_X8_isFirst_45, x_X8_isFirst_46, x_X8_isFirst_49, x_X8_isFirst_50, x_X8_isFirst_51, x_X8_isFirst_52, x_X8_isFirst_55, x_X8_isFirst_56, x_X8_isFirst_59, x_X8_isFirst_60, x_X8_isFirst_63, x_X8_isFirst_64, List.length_cons, List.length_nil, Nat.reduceLeDiff, Nat.zero_add, iI_add, iI_sub, iI_mul, iI_neg, iI_lt, iI_le, iI_eq, jI_iI, B_True, B_False, B_t, B_f, ck_True, gd_True, cb_v, cb_n, p_mv_rw, p_fv_rw, p_rv_some, pA_1, pA_90, pA_92, pA_3, pA_5, pA_93, pA_4, pA_91, pA_6, pS_i, pB_i, pW_i, pZ_0, pZ_1, pZ_b, bI_e0, u1_s, u1_n, uA_s, uA_n, true_and, and_true, not_true_eq_false, not_false_eq_true, eq_self, iI_z, al1, al5, al3, al4, al90, al91, al92, al93, al6, Int.cast_ofNat_Int, Nat.reduceAdd, Int.reduceNeg, Int.reduceAdd, Int.reduceSub, Int.reduceMul, Int.reduceLT, Int.reduceLE, Int.reduceGT, Int.reduceGE, Int.reduceEq, Int.reduceNe, Nat.reduceEqDiff, Int.zero_add, Int.add_zero, p_ty0, p_ty1, p_ty2, p_ty3, p_ty4, p_ty5, p_ty8, p_ty9, p_ty10, d1, d2, d3, d4, a1, gd_t, ck_t, B_t, B_f]
theorem gn_ah (hk : 0 ≤ k ∧ k < 91) (hs : t = 0 ∨ t = 1) : gn k (m_ah t) = cA (gx k) (gy k + up1 t) := by
  obtain ⟨-, h1, h2, h3⟩ := up1_f hs
  rw [(gn_xy hk h3).1, h1, h2, Int.add_zero]
theorem z_isLast (hI : SI T F s b) (hk : 0 ≤ k ∧ k < 91) (hs : side = 0 ∨ side = 1) (hd : 3 ≤ d) : callD d m_X8_isLast [.ref s, .int (iI (pl1 k)), .int (iI side)] T M F = some (.inl (some (.int (iI (bI (gn k (m_ah side) = -1))))), T, M, F) := by
  refine callD_go 2 hd rfl (fun e he => ?_)
  show R e m_X8_isLast 0 [.val (.ref s), .val (.int (iI (pl1 k))), .val (.int (iI side))] [] T M F = _
  obtain ⟨h100, t0, f0, hb, t1, hsb⟩ := hI
  have r1 := gxy_rg hk
  have k1 := (c1_pl1 hk).2.1
  have p1 := pl1_xy hk
  have d1 : iI (pl1 k) / iI 11 = iI (gx k + 5) := by rw [(idv11 (by omega)).1, p1.1]
  have d2 : pl1 k - (gx k + 5) * 11 = gy k + 5 := by omega
  have d3 : gx k + 5 - 5 = gx k := by omega
  have d4 : gy k + 5 - 5 = gy k := by omega
  have ho := onP_cA (x := gx k) (y := gy k + up1 side)
  have hu := (up1_f hs).1
  have a1 := z_isOn (d := e) (T := T) (M := M) (F := F) (x := gx k) (y := gy k + up1 side) (by omega) (by omega) he
  rw [gn_ah hk hs]
  clear hk
  generalize gy k = Y at *
  generalize gx k = X at *
  by_cases c : cA X (Y + up1 side) = -1
  · rw [bI_t c]
    rw [bI_f (fun z => ho.mp z c)] at a1
    rcases hs with rfl | rfl
    · rw [show up1 0 = 1 from rfl] at a1
      simp (disch := omega) only [x_X8_isLast_0, x_X8_isLast_1, x_X8_isLast_3, x_X8_isLast_4, x_X8_isLast_5, x_X8_isLast_6, x_X8_isLast_7, x_X8_isLast_9, x_X8_isLast_10, x_X8_isLast_11, x_X8_isLast_12, x_X8_isLast_13, x_X8_isLast_16, x_X8_isLast_17, x_X8_isLast_20, x_X8_isLast_21, x_X8_isLast_22, x_X8_isLast_25, x_X8_isLast_28, x_X8_isLast_29, x_X8_isLast_32, x_X8_isLast_33, List.length_cons, List.length_nil, Nat.reduceLeDiff, Nat.zero_add, iI_add, iI_sub, iI_mul, iI_neg, iI_lt, iI_le, iI_eq, jI_iI, B_True, B_False, B_t, B_f, ck_True, gd_True, cb_v, cb_n, p_mv_rw, p_fv_rw, p_rv_some, pA_1, pA_90, pA_92, pA_3, pA_5, pA_93, pA_4, pA_91, pA_6, pS_i, pB_i, pW_i, pZ_0, pZ_1, pZ_b, bI_e0, u1_s, u1_n, uA_s, uA_n, true_and, and_true, not_true_eq_false, not_false_eq_true, eq_self, iI_z, al1, al5, al3, al4, al90, al91, al92, al93, al6, Int.cast_ofNat_Int, Nat.reduceAdd, Int.reduceNeg, Int.reduceAdd, Int.reduceSub, Int.reduceMul, Int.reduceLT, Int.reduceLE, Int.reduceGT, Int.reduceGE, Int.reduceEq, Int.reduceNe, Nat.reduceEqDiff, Int.zero_add, Int.add_zero, p_ty0, p_ty1, p_ty2, p_ty3, p_ty4, p_ty5, p_ty8, p_ty9, p_ty10, d1, d2, d3, d4, a1, gd_t, ck_t, B_t, B_f]
    · rw [show up1 1 = -1 from rfl] at a1
      simp (disch := omega) only [x_X8_isLast_0, x_X8_isLast_1, x_X8_isLast_3, x_X8_isLast_4, x_X8_isLast_5, x_X8_isLast_6, x_X8_isLast_7, x_X8_isLast_9, x_X8_isLast_10, x_X8_isLast_11, x_X8_isLast_12, x_X8_isLast_13, x_X8_isLast_16, x_X8_isLast_17, x_X8_isLast_20, x_X8_isLast_21, x_X8_isLast_22, x_X8_isLast_25, x_X8_isLast_28, x_X8_isLast_29, x_X8_isLast_32, x_X8_isLast_33, List.length_cons, List.length_nil, Nat.reduceLeDiff, Nat.zero_add, iI_add, iI_sub, iI_mul, iI_neg, iI_lt, iI_le, iI_eq, jI_iI, B_True, B_False, B_t, B_f, ck_True, gd_True, cb_v, cb_n, p_mv_rw, p_fv_rw, p_rv_some, pA_1, pA_90, pA_92, pA_3, pA_5, pA_93, pA_4, pA_91, pA_6, pS_i, pB_i, pW_i, pZ_0, pZ_1, pZ_b, bI_e0, u1_s, u1_n, uA_s, uA_n, true_and, and_true, not_true_eq_false, not_false_eq_true, eq_self, iI_z, al1, al5, al3, al4, al90, al91, al92, al93, al6, Int.cast_ofNat_Int, Nat.reduceAdd, Int.reduceNeg, Int.reduceAdd, Int.reduceSub, Int.reduceMul, Int.reduceLT, Int.reduceLE, Int.reduceGT, Int.reduceGE, Int.reduceEq, Int.reduceNe, Nat.reduceEqDiff, Int.zero_add, Int.add_zero, p_ty0, p_ty1, p_ty2, p_ty3, p_ty4, p_ty5, p_ty8, p_ty9, p_ty10, d1, d2, d3, d4, a1, gd_t, ck_t, B_t, B_f]
  · rw [bI_f c]
    rw [bI_t (ho.mpr c)] at a1
    rcases hs with rfl | rfl
    · rw [show up1 0 = 1 from rfl] at a1
      simp (disch := omega) only [x_X8_isLast_0, x_X8_isLast_1, x_X8_isLast_3, x_X8_isLast_4, x_X8_isLast_5, x_X8_isLast_6, x_X8_isLast_7, x_X8_isLast_9, x_X8_isLast_10, x_X8_isLast_11, x_X8_isLast_12, x_X8_isLast_13, x_X8_isLast_16, x_X8_isLast_17, x_X8_isLast_20, x_X8_isLast_21, x_X8_isLast_22, x_X8_isLast_25, x_X8_isLast_28, x_X8_isLast_29, x_X8_isLast_32, x_X8_isLast_33, List.length_cons, List.length_nil, Nat.reduceLeDiff, Nat.zero_add, iI_add, iI_sub, iI_mul, iI_neg, iI_lt, iI_le, iI_eq, jI_iI, B_True, B_False, B_t, B_f, ck_True, gd_True, cb_v, cb_n, p_mv_rw, p_fv_rw, p_rv_some, pA_1, pA_90, pA_92, pA_3, pA_5, pA_93, pA_4, pA_91, pA_6, pS_i, pB_i, pW_i, pZ_0, pZ_1, pZ_b, bI_e0, u1_s, u1_n, uA_s, uA_n, true_and, and_true, not_true_eq_false, not_false_eq_true, eq_self, iI_z, al1, al5, al3, al4, al90, al91, al92, al93, al6, Int.cast_ofNat_Int, Nat.reduceAdd, Int.reduceNeg, Int.reduceAdd, Int.reduceSub, Int.reduceMul, Int.reduceLT, Int.reduceLE, Int.reduceGT, Int.reduceGE, Int.reduceEq, Int.reduceNe, Nat.reduceEqDiff, Int.zero_add, Int.add_zero, p_ty0, p_ty1, p_ty2, p_ty3, p_ty4, p_ty5, p_ty8, p_ty9, p_ty10, d1, d2, d3, d4, a1, gd_t, ck_t, B_t, B_f]
    · rw [show up1 1 = -1 from rfl] at a1
      simp (disch := omega) only [x_X8_isLast_0, x_X8_isLast_1, x_X8_isLast_3, x_X8_isLast_4, x_X8_isLast_5, x_X8_isLast_6, x_X8_isLast_7, x_X8_isLast_9, x_X8_isLast_10, x_X8_isLast_11, x_X8_isLast_12, x_X8_isLast_13, x_X8_isLast_16, x_X8_isLast_17, x_X8_isLast_20, x_X8_isLast_21, x_X8_isLast_22, x_X8_isLast_25, x_X8_isLast_28, x_X8_isLast_29, x_X8_isLast_32, x_X8_isLast_33, List.length_cons, List.length_nil, Nat.reduceLeDiff, Nat.zero_add, iI_add, iI_sub, iI_mul, iI_neg, iI_lt, iI_le, iI_eq, jI_iI, B_True, B_False, B_t, B_f, ck_True, gd_True, cb_v, cb_n, p_mv_rw, p_fv_rw, p_rv_some, pA_1, pA_90, pA_92, pA_3, pA_5, pA_93, pA_4, pA_91, pA_6, pS_i, pB_i, pW_i, pZ_0, pZ_1, pZ_b, bI_e0, u1_s, u1_n, uA_s, uA_n, true_and, and_true, not_true_eq_false, not_false_eq_true, eq_self, iI_z, al1, al5, al3, al4, al90, al91, al92, al93, al6, Int.cast_ofNat_Int, Nat.reduceAdd, Int.reduceNeg, Int.reduceAdd, Int.reduceSub, Int.reduceMul, Int.reduceLT, Int.reduceLE, Int.reduceGT, Int.reduceGE, Int.reduceEq, Int.reduceNe, Nat.reduceEqDiff, Int.zero_add, Int.add_zero, p_ty0, p_ty1, p_ty2, p_ty3, p_ty4, p_ty5, p_ty8, p_ty9, p_ty10, d1, d2, d3, d4, a1, gd_t, ck_t, B_t, B_f]
theorem pp1_lt (hp : pas = -1 ∨ 0 ≤ pas ∧ pas < 91) : (pp1 pas < 0 ↔ pas = -1) ∧ (-1 ≤ pp1 pas ∧ pp1 pas < 121) := by
  unfold pp1
  rcases hp with rfl | h
  · rw [if_pos rfl]; omega
  · have := (c1_pl1 h).2.1
    rw [if_neg (by omega)]; omega
theorem z_isPlayed (hI : SI T F s b) (hS : SM M s b bb t pas q mv) (hd : 4 ≤ d) : callD d m_X8_isPlayed [.ref s] T M F = some (.inl (some (.int (iI (bI (m_ply bb t))))), T, M, F) := by
  refine callD_go 3 hd rfl (fun e he => ?_)
  show R e m_X8_isPlayed 0 [.val (.ref s)] [] T M F = _
  obtain ⟨hB, s1, s2, s3, s4, ht, hp, hq, hm⟩ := hS
  have kr : ∀ s, m_king bb s = -1 ∨ 0 ≤ m_king bb s ∧ m_king bb s < 91 := fun s => (m_king_rg bb s).imp id (fun h => ⟨h.1, h.2.1⟩)
  have p0 := pp1_lt (kr 0)
  have p1 := pp1_lt (kr 1)
  have k0 := z_king (d := e) (T := T) (F := F) hI hB (side := 0) (Or.inl rfl) (by omega)
  have k1 := z_king (d := e) (T := T) (F := F) hI hB (side := 1) (Or.inr rfl) (by omega)
  by_cases c0 : m_king bb 0 = -1
  · obtain ⟨h100, t0, f0, hb, t1, hsb⟩ := hI
    rw [bI_f (fun z => z.1 c0)]
    have := p0.1.mpr c0
    generalize pp1 (m_king bb 0) = z0 at *
    simp (disch := omega) only [x_X8_isPlayed_0, x_X8_isPlayed_1, x_X8_isPlayed_2, x_X8_isPlayed_5, x_X8_isPlayed_8, x_X8_isPlayed_9, x_X8_isPlayed_10, x_X8_isPlayed_13, x_X8_isPlayed_16, x_X8_isPlayed_17, x_X8_isPlayed_18, x_X8_isPlayed_19, x_X8_isPlayed_20, x_X8_isPlayed_23, x_X8_isPlayed_24, x_X8_isPlayed_27, x_X8_isPlayed_28, x_X8_isPlayed_31, x_X8_isPlayed_34, x_X8_isPlayed_37, x_X8_isPlayed_38, x_X8_isPlayed_41, x_X8_isPlayed_42, List.length_cons, List.length_nil, Nat.reduceLeDiff, Nat.zero_add, iI_add, iI_sub, iI_mul, iI_neg, iI_lt, iI_le, iI_eq, jI_iI, B_True, B_False, B_t, B_f, ck_True, gd_True, cb_v, cb_n, p_mv_rw, p_fv_rw, p_rv_some, pA_1, pA_90, pA_92, pA_3, pA_5, pA_93, pA_4, pA_91, pA_6, pS_i, pB_i, pW_i, pZ_0, pZ_1, pZ_b, bI_e0, u1_s, u1_n, uA_s, uA_n, true_and, and_true, not_true_eq_false, not_false_eq_true, eq_self, iI_z, al1, al5, al3, al4, al90, al91, al92, al93, al6, Int.cast_ofNat_Int, Nat.reduceAdd, Int.reduceNeg, Int.reduceAdd, Int.reduceSub, Int.reduceMul, Int.reduceLT, Int.reduceLE, Int.reduceGT, Int.reduceGE, Int.reduceEq, Int.reduceNe, Nat.reduceEqDiff, Int.zero_add, Int.add_zero, p_ty0, p_ty1, p_ty2, p_ty3, p_ty4, p_ty5, p_ty8, p_ty9, p_ty10, t0, f0, t1, k0, gd_t, ck_t, B_t, B_f]
  · by_cases c1 : m_king bb 1 = -1
    · obtain ⟨h100, t0, f0, hb, t1, hsb⟩ := hI
      rw [bI_f (fun z => z.2.1 c1)]
      have := p1.1.mpr c1
      have n0 : ¬ pp1 (m_king bb 0) < 0 := fun z => c0 (p0.1.mp z)
      generalize pp1 (m_king bb 0) = z0 at *
      generalize pp1 (m_king bb 1) = z1 at *
      simp (disch := omega) only [x_X8_isPlayed_0, x_X8_isPlayed_1, x_X8_isPlayed_2, x_X8_isPlayed_5, x_X8_isPlayed_8, x_X8_isPlayed_9, x_X8_isPlayed_10, x_X8_isPlayed_13, x_X8_isPlayed_16, x_X8_isPlayed_17, x_X8_isPlayed_18, x_X8_isPlayed_19, x_X8_isPlayed_20, x_X8_isPlayed_23, x_X8_isPlayed_24, x_X8_isPlayed_27, x_X8_isPlayed_28, x_X8_isPlayed_31, x_X8_isPlayed_34, x_X8_isPlayed_37, x_X8_isPlayed_38, x_X8_isPlayed_41, x_X8_isPlayed_42, List.length_cons, List.length_nil, Nat.reduceLeDiff, Nat.zero_add, iI_add, iI_sub, iI_mul, iI_neg, iI_lt, iI_le, iI_eq, jI_iI, B_True, B_False, B_t, B_f, ck_True, gd_True, cb_v, cb_n, p_mv_rw, p_fv_rw, p_rv_some, pA_1, pA_90, pA_92, pA_3, pA_5, pA_93, pA_4, pA_91, pA_6, pS_i, pB_i, pW_i, pZ_0, pZ_1, pZ_b, bI_e0, u1_s, u1_n, uA_s, uA_n, true_and, and_true, not_true_eq_false, not_false_eq_true, eq_self, iI_z, al1, al5, al3, al4, al90, al91, al92, al93, al6, Int.cast_ofNat_Int, Nat.reduceAdd, Int.reduceNeg, Int.reduceAdd, Int.reduceSub, Int.reduceMul, Int.reduceLT, Int.reduceLE, Int.reduceGT, Int.reduceGE, Int.reduceEq, Int.reduceNe, Nat.reduceEqDiff, Int.zero_add, Int.add_zero, p_ty0, p_ty1, p_ty2, p_ty3, p_ty4, p_ty5, p_ty8, p_ty9, p_ty10, t0, f0, t1, k0, k1, gd_t, ck_t, B_t, B_f]
    · have n0 : ¬ pp1 (m_king bb 0) < 0 := fun z => c0 (p0.1.mp z)
      have n1 : ¬ pp1 (m_king bb 1) < 0 := fun z => c1 (p1.1.mp z)
      have hkt : 0 ≤ m_king bb (1 - t) ∧ m_king bb (1 - t) < 91 := (kr (1 - t)).resolve_left (by rcases ht with rfl | rfl; exact c1; exact c0)
      have kt := z_king (d := e) (T := T) (F := F) hI hB (side := 1 - t) (by omega) (by omega)
      have at1 := z_attackers (d := e) hI hB hkt ht he
      have hr := m_att_rg bb (m_king bb (1 - t)) t
      have hy : m_ply bb t ↔ m_att bb (m_king bb (1 - t)) t = 0 := by
        unfold m_ply m_chk
        rw [show 1 - (1 - t) = t by omega]
        constructor
        · intro z; have := z.2.2; omega
        · intro z; exact ⟨c0, c1, by omega⟩
      rw [bI_iff hy]
      rw [show pp1 (m_king bb (1 - t)) = pl1 (m_king bb (1 - t)) by unfold pp1; rw [if_neg (by omega)]] at kt
      obtain ⟨h100, t0, f0, hb, t1, hsb⟩ := hI
      clear hy hB kr
      generalize pp1 (m_king bb 0) = z0 at *
      generalize pp1 (m_king bb 1) = z1 at *
      generalize pl1 (m_king bb (1 - t)) = z2 at *
      generalize m_att bb (m_king bb (1 - t)) t = z3 at *
      by_cases c2 : z3 = 0
      · subst c2
        rw [bI_t rfl]
        simp (disch := omega) only [x_X8_isPlayed_0, x_X8_isPlayed_1, x_X8_isPlayed_2, x_X8_isPlayed_5, x_X8_isPlayed_8, x_X8_isPlayed_9, x_X8_isPlayed_10, x_X8_isPlayed_13, x_X8_isPlayed_16, x_X8_isPlayed_17, x_X8_isPlayed_18, x_X8_isPlayed_19, x_X8_isPlayed_20, x_X8_isPlayed_23, x_X8_isPlayed_24, x_X8_isPlayed_27, x_X8_isPlayed_28, x_X8_isPlayed_31, x_X8_isPlayed_34, x_X8_isPlayed_37, x_X8_isPlayed_38, x_X8_isPlayed_41, x_X8_isPlayed_42, List.length_cons, List.length_nil, Nat.reduceLeDiff, Nat.zero_add, iI_add, iI_sub, iI_mul, iI_neg, iI_lt, iI_le, iI_eq, jI_iI, B_True, B_False, B_t, B_f, ck_True, gd_True, cb_v, cb_n, p_mv_rw, p_fv_rw, p_rv_some, pA_1, pA_90, pA_92, pA_3, pA_5, pA_93, pA_4, pA_91, pA_6, pS_i, pB_i, pW_i, pZ_0, pZ_1, pZ_b, bI_e0, u1_s, u1_n, uA_s, uA_n, true_and, and_true, not_true_eq_false, not_false_eq_true, eq_self, iI_z, al1, al5, al3, al4, al90, al91, al92, al93, al6, Int.cast_ofNat_Int, Nat.reduceAdd, Int.reduceNeg, Int.reduceAdd, Int.reduceSub, Int.reduceMul, Int.reduceLT, Int.reduceLE, Int.reduceGT, Int.reduceGE, Int.reduceEq, Int.reduceNe, Nat.reduceEqDiff, Int.zero_add, Int.add_zero, p_ty0, p_ty1, p_ty2, p_ty3, p_ty4, p_ty5, p_ty8, p_ty9, p_ty10, t0, f0, t1, k0, k1, kt, s1, at1, gd_t, ck_t, B_t, B_f]
      · rw [bI_f c2]
        simp (disch := omega) only [x_X8_isPlayed_0, x_X8_isPlayed_1, x_X8_isPlayed_2, x_X8_isPlayed_5, x_X8_isPlayed_8, x_X8_isPlayed_9, x_X8_isPlayed_10, x_X8_isPlayed_13, x_X8_isPlayed_16, x_X8_isPlayed_17, x_X8_isPlayed_18, x_X8_isPlayed_19, x_X8_isPlayed_20, x_X8_isPlayed_23, x_X8_isPlayed_24, x_X8_isPlayed_27, x_X8_isPlayed_28, x_X8_isPlayed_31, x_X8_isPlayed_34, x_X8_isPlayed_37, x_X8_isPlayed_38, x_X8_isPlayed_41, x_X8_isPlayed_42, List.length_cons, List.length_nil, Nat.reduceLeDiff, Nat.zero_add, iI_add, iI_sub, iI_mul, iI_neg, iI_lt, iI_le, iI_eq, jI_iI, B_True, B_False, B_t, B_f, ck_True, gd_True, cb_v, cb_n, p_mv_rw, p_fv_rw, p_rv_some, pA_1, pA_90, pA_92, pA_3, pA_5, pA_93, pA_4, pA_91, pA_6, pS_i, pB_i, pW_i, pZ_0, pZ_1, pZ_b, bI_e0, u1_s, u1_n, uA_s, uA_n, true_and, and_true, not_true_eq_false, not_false_eq_true, eq_self, iI_z, al1, al5, al3, al4, al90, al91, al92, al93, al6, Int.cast_ofNat_Int, Nat.reduceAdd, Int.reduceNeg, Int.reduceAdd, Int.reduceSub, Int.reduceMul, Int.reduceLT, Int.reduceLE, Int.reduceGT, Int.reduceGE, Int.reduceEq, Int.reduceNe, Nat.reduceEqDiff, Int.zero_add, Int.add_zero, p_ty0, p_ty1, p_ty2, p_ty3, p_ty4, p_ty5, p_ty8, p_ty9, p_ty10, t0, f0, t1, k0, k1, kt, s1, at1, gd_t, ck_t, B_t, B_f]
end PCLD
