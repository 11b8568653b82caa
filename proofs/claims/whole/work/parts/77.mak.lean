section PMKM
variable {d bd lg N lg1 N1 lg2 N2 : Nat} {T T1 T2 : pT} {M M0 M1 M2 : pM} {F F1 F2 : pF} {bb v w : Int → Int} {t pas q its to as p n i c s x k a b tk pc : Int} {H : List HE} {X : Nat → Prop}
theorem y_isPassing (hY : YT T F bd lg N) (hS : YS M bd bb t pas q) (hb : MB bb) (hp : -1 ≤ pas ∧ pas < 91) (hi : 0 ≤ its ∧ its < 91) (hc : 0 ≤ to ∧ to < 91) (hd : 2 ≤ d) : callD d m_X8_isPassing [.ref 127, .int (iI its), .int (iI to)] T M F = some (.inl (some (.int (iI (bI (bb its % 10 = 6 ∧ to = pas ∧ bb to = 0 ∧ gx its ≠ gx to))))), T, M, F) := by
  refine callD_go 1 hd rfl (fun e he => ?_)
  show R e m_X8_isPassing 0 [.val (.ref 127), .val (.int (iI its)), .val (.int (iI to))] [] T M F = _
  obtain ⟨hG, s1, s2, s3, s4⟩ := hS
  have hbi := hb its
  have hbt := hb to
  have g1 := (gxy_rg hi).1
  have g2 := (gxy_rg hc).1
  have x1 := hG.1 its hi.1 hi.2
  have x2 := hG.1 to hc.1 hc.2
  have p1 := y_piece (d := e) (T := T) (M := M) (F := F) (n := bb its) (by omega) (by omega)
  obtain ⟨ty127, ty128, fy1, ty129, fy4, ty130, fy5, ty131, fy6, ty132, fy7, ty133, fy8, ty136, fy15, ty137, fy16, ty138, fy17, ty139, fy18, ty140, fy19, ty141, fy20, ty142, fy21, ty143, fy22, hbd, tybd, fy9, hlg, tylg, fy13, hN⟩ := hY
  clear hG hb
  by_cases c1 : bb its % 10 = 6
  · by_cases c2 : to = pas
    · by_cases c3 : bb to = 0
      · by_cases c4 : gx its = gx to
        · rw [bI_f (fun z => z.2.2.2 c4)]
          simp (disch := omega) only [x_X8_isPassing_0, x_X8_isPassing_1, x_X8_isPassing_4, x_X8_isPassing_5, x_X8_isPassing_6, x_X8_isPassing_9, x_X8_isPassing_11, x_X8_isPassing_14, x_X8_isPassing_15, x_X8_isPassing_16, x_X8_isPassing_19, x_X8_isPassing_22, x_X8_isPassing_23, x_X8_isPassing_26, x_X8_isPassing_27, x_X8_isPassing_28, x_X8_isPassing_31, x_X8_isPassing_32, x_X8_isPassing_35, x_X8_isPassing_36, x_X8_isPassing_37, x_X8_isPassing_38, x_X8_isPassing_41, x_X8_isPassing_42, x_X8_isPassing_43, x_X8_isPassing_46, x_X8_isPassing_47, x_X8_isPassing_50, x_X8_isPassing_51, List.length_cons, List.length_nil, Nat.reduceLeDiff, Nat.zero_add, iI_add, iI_sub, iI_mul, iI_neg, iI_lt, iI_le, iI_eq, jI_iI, B_True, B_False, B_t, B_f, ck_True, gd_True, cb_v, cb_n, p_mv_rw, p_fv_rw, p_rv_some, pA_1, pA_90, pA_92, pA_3, pA_2, pA_93, pA_4, pA_91, pA_95, pS_i, pW_i, pZ_0, pZ_1, pZ_b, bI_e0, u1_s, u1_n, uA_s, uA_n, true_and, and_true, not_true_eq_false, not_false_eq_true, eq_self, iI_z, al1, al2, al3, al4, al90, al91, al92, al93, al95, Int.cast_ofNat_Int, Nat.reduceAdd, Int.reduceNeg, Int.reduceAdd, Int.reduceSub, Int.reduceMul, Int.reduceLT, Int.reduceLE, Int.reduceGT, Int.reduceGE, Int.reduceEq, Int.reduceNe, Nat.reduceEqDiff, Int.zero_add, Int.add_zero, p_ty0, p_ty1, p_ty2, p_ty3, p_ty4, p_ty5, p_ty6, p_ty7, p_ty8, p_ty9, p_ty10, p_ty11, ty127, ty128, fy1, ty129, fy4, ty130, fy5, ty131, fy6, ty132, fy7, ty133, fy8, ty136, fy15, ty137, fy16, ty138, fy17, ty139, fy18, ty140, fy19, ty141, fy20, ty142, fy21, ty143, fy22, tybd, fy9, tylg, fy13, s1, s3, p1, x1, x2, c1, c2.symm, c3, c4, gd_t, B_t, B_f]
        · rw [bI_t ⟨c1, c2, c3, c4⟩]
          simp (disch := omega) only [x_X8_isPassing_0, x_X8_isPassing_1, x_X8_isPassing_4, x_X8_isPassing_5, x_X8_isPassing_6, x_X8_isPassing_9, x_X8_isPassing_11, x_X8_isPassing_14, x_X8_isPassing_15, x_X8_isPassing_16, x_X8_isPassing_19, x_X8_isPassing_22, x_X8_isPassing_23, x_X8_isPassing_26, x_X8_isPassing_27, x_X8_isPassing_28, x_X8_isPassing_31, x_X8_isPassing_32, x_X8_isPassing_35, x_X8_isPassing_36, x_X8_isPassing_37, x_X8_isPassing_38, x_X8_isPassing_41, x_X8_isPassing_42, x_X8_isPassing_43, x_X8_isPassing_46, x_X8_isPassing_47, x_X8_isPassing_50, x_X8_isPassing_51, List.length_cons, List.length_nil, Nat.reduceLeDiff, Nat.zero_add, iI_add, iI_sub, iI_mul, iI_neg, iI_lt, iI_le, iI_eq, jI_iI, B_True, B_False, B_t, B_f, ck_True, gd_True, cb_v, cb_n, p_mv_rw, p_fv_rw, p_rv_some, pA_1, pA_90, pA_92, pA_3, pA_2, pA_93, pA_4, pA_91, pA_95, pS_i, pW_i, pZ_0, pZ_1, pZ_b, bI_e0, u1_s, u1_n, uA_s, uA_n, true_and, and_true, not_true_eq_false, not_false_eq_true, eq_self, iI_z, al1, al2, al3, al4, al90, al91, al92, al93, al95, Int.cast_ofNat_Int, Nat.reduceAdd, Int.reduceNeg, Int.reduceAdd, Int.reduceSub, Int.reduceMul, Int.reduceLT, Int.reduceLE, Int.reduceGT, Int.reduceGE, Int.reduceEq, Int.reduceNe, Nat.reduceEqDiff, Int.zero_add, Int.add_zero, p_ty0, p_ty1, p_ty2, p_ty3, p_ty4, p_ty5, p_ty6, p_ty7, p_ty8, p_ty9, p_ty10, p_ty11, ty127, ty128, fy1, ty129, fy4, ty130, fy5, ty131, fy6, ty132, fy7, ty133, fy8, ty136, fy15, ty137, fy16, ty138, fy17, ty139, fy18, ty140, fy19, ty141, fy20, ty142, fy21, ty143, fy22, tybd, fy9, tylg, fy13, s1, s3, p1, x1, x2, c1, c2.symm, c3, gd_t, B_t, B_f]
      · rw [bI_f (fun z => c3 z.2.2.1)]
        simp (disch := omega) only [x_X8_isPassing_0, x_X8_isPassing_1, x_X8_isPassing_4, x_X8_isPassing_5, x_X8_isPassing_6, x_X8_isPassing_9, x_X8_isPassing_11, x_X8_isPassing_14, x_X8_isPassing_15, x_X8_isPassing_16, x_X8_isPassing_19, x_X8_isPassing_22, x_X8_isPassing_23, x_X8_isPassing_26, x_X8_isPassing_27, x_X8_isPassing_28, x_X8_isPassing_31, x_X8_isPassing_32, x_X8_isPassing_35, x_X8_isPassing_36, x_X8_isPassing_37, x_X8_isPassing_38, x_X8_isPassing_41, x_X8_isPassing_42, x_X8_isPassing_43, x_X8_isPassing_46, x_X8_isPassing_47, x_X8_isPassing_50, x_X8_isPassing_51, List.length_cons, List.length_nil, Nat.reduceLeDiff, Nat.zero_add, iI_add, iI_sub, iI_mul, iI_neg, iI_lt, iI_le, iI_eq, jI_iI, B_True, B_False, B_t, B_f, ck_True, gd_True, cb_v, cb_n, p_mv_rw, p_fv_rw, p_rv_some, pA_1, pA_90, pA_92, pA_3, pA_2, pA_93, pA_4, pA_91, pA_95, pS_i, pW_i, pZ_0, pZ_1, pZ_b, bI_e0, u1_s, u1_n, uA_s, uA_n, true_and, and_true, not_true_eq_false, not_false_eq_true, eq_self, iI_z, al1, al2, al3, al4, al90, al91, al92, al93, al95, Int.cast_ofNat_Int, Nat.reduceAdd, Int.reduceNeg, Int.reduceAdd, Int.reduceSub, Int.reduceMul, Int.reduceLT, Int.reduceLE, Int.reduceGT, Int.reduceGE, Int.reduceEq, Int.reduceNe, Nat.reduceEqDiff, Int.zero_add, Int.add_zero, p_ty0, p_ty1, p_ty2, p_ty3, p_ty4, p_ty5, p_ty6, p_ty7, p_ty8, p_ty9, p_ty10, p_ty11, ty127, ty128, fy1, ty129, fy4, ty130, fy5, ty131, fy6, ty132, fy7, ty133, fy8, ty136, fy15, ty137, fy16, ty138, fy17, ty139, fy18, ty140, fy19, ty141, fy20, ty142, fy21, ty143, fy22, tybd, fy9, tylg, fy13, s1, s3, p1, x1, x2, c1, c2.symm, gd_t, B_t, B_f]
    · rw [bI_f (fun z => c2 z.2.1)]
      simp (disch := omega) only [x_X8_isPassing_0, x_X8_isPassing_1, x_X8_isPassing_4, x_X8_isPassing_5, x_X8_isPassing_6, x_X8_isPassing_9, x_X8_isPassing_11, x_X8_isPassing_14, x_X8_isPassing_15, x_X8_isPassing_16, x_X8_isPassing_19, x_X8_isPassing_22, x_X8_isPassing_23, x_X8_isPassing_26, x_X8_isPassing_27, x_X8_isPassing_28, x_X8_isPassing_31, x_X8_isPassing_32, x_X8_isPassing_35, x_X8_isPassing_36, x_X8_isPassing_37, x_X8_isPassing_38, x_X8_isPassing_41, x_X8_isPassing_42, x_X8_isPassing_43, x_X8_isPassing_46, x_X8_isPassing_47, x_X8_isPassing_50, x_X8_isPassing_51, List.length_cons, List.length_nil, Nat.reduceLeDiff, Nat.zero_add, iI_add, iI_sub, iI_mul, iI_neg, iI_lt, iI_le, iI_eq, jI_iI, B_True, B_False, B_t, B_f, ck_True, gd_True, cb_v, cb_n, p_mv_rw, p_fv_rw, p_rv_some, pA_1, pA_90, pA_92, pA_3, pA_2, pA_93, pA_4, pA_91, pA_95, pS_i, pW_i, pZ_0, pZ_1, pZ_b, bI_e0, u1_s, u1_n, uA_s, uA_n, true_and, and_true, not_true_eq_false, not_false_eq_true, eq_self, iI_z, al1, al2, al3, al4, al90, al91, al92, al93, al95, Int.cast_ofNat_Int, Nat.reduceAdd, Int.reduceNeg, Int.reduceAdd, Int.reduceSub, Int.reduceMul, Int.reduceLT, Int.reduceLE, Int.reduceGT, Int.reduceGE, Int.reduceEq, Int.reduceNe, Nat.reduceEqDiff, Int.zero_add, Int.add_zero, p_ty0, p_ty1, p_ty2, p_ty3, p_ty4, p_ty5, p_ty6, p_ty7, p_ty8, p_ty9, p_ty10, p_ty11, ty127, ty128, fy1, ty129, fy4, ty130, fy5, ty131, fy6, ty132, fy7, ty133, fy8, ty136, fy15, ty137, fy16, ty138, fy17, ty139, fy18, ty140, fy19, ty141, fy20, ty142, fy21, ty143, fy22, tybd, fy9, tylg, fy13, s1, s3, p1, x1, x2, c1, gd_t, B_t, B_f]
  · rw [bI_f (fun z => c1 z.1)]
    simp (disch := omega) only [x_X8_isPassing_0, x_X8_isPassing_1, x_X8_isPassing_4, x_X8_isPassing_5, x_X8_isPassing_6, x_X8_isPassing_9, x_X8_isPassing_11, x_X8_isPassing_14, x_X8_isPassing_15, x_X8_isPassing_16, x_X8_isPassing_19, x_X8_isPassing_22, x_X8_isPassing_23, x_X8_isPassing_26, x_X8_isPassing_27, x_X8_isPassing_28, x_X8_isPassing_31, x_X8_isPassing_32, x_X8_isPassing_35, x_X8_isPassing_36, x_X8_isPassing_37, x_X8_isPassing_38, x_X8_isPassing_41, x_X8_isPassing_42, x_X8_isPassing_43, x_X8_isPassing_46, x_X8_isPassing_47, x_X8_isPassing_50, x_X8_isPassing_51, List.length_cons, List.length_nil, Nat.reduceLeDiff, Nat.zero_add, iI_add, iI_sub, iI_mul, iI_neg, iI_lt, iI_le, iI_eq, jI_iI, B_True, B_False, B_t, B_f, ck_True, gd_True, cb_v, cb_n, p_mv_rw, p_fv_rw, p_rv_some, pA_1, pA_90, pA_92, pA_3, pA_2, pA_93, pA_4, pA_91, pA_95, pS_i, pW_i, pZ_0, pZ_1, pZ_b, bI_e0, u1_s, u1_n, uA_s, uA_n, true_and, and_true, not_true_eq_false, not_false_eq_true, eq_self, iI_z, al1, al2, al3, al4, al90, al91, al92, al93, al95, Int.cast_ofNat_Int, Nat.reduceAdd, Int.reduceNeg, Int.reduceAdd, Int.reduceSub, Int.reduceMul, Int.reduceLT, Int.reduceLE, Int.reduceGT, Int.reduceGE, Int.reduceEq, Int.reduceNe, Nat.reduceEqDiff, Int.zero_add, Int.add_zero, p_ty0, p_ty1, p_ty2, p_ty3, p_ty4, p_ty5, p_ty6, p_ty7, p_ty8, p_ty9, p_ty10, p_ty11, ty127, ty128, fy1, ty129, fy4, ty130, fy5, ty131, fy6, ty132, fy7, ty133, fy8, ty136, fy15, ty137, fy16, ty138, fy17, ty139, fy18, ty140, fy19, ty141, fy20, ty142, fy21, ty143, fy22, tybd, fy9, tylg, fy13, s1, s3, p1, x1, x2, gd_t, B_t, B_f]
theorem y_becomes (hY : YT T F bd lg N) (hS : YS M bd bb t pas q) (hb : MB bb) (hi : 0 ≤ its ∧ its < 91) (hc : 0 ≤ to ∧ to < 91) (hd : 3 ≤ d) : callD d m_X8_becomes [.ref 127, .int (iI its), .int (iI to)] T M F = some (.inl (some (.int (iI (bI (mk_be bb its to))))), T, M, F) := by
  refine callD_go 2 hd rfl (fun e he => ?_)
  show R e m_X8_becomes 0 [.val (.ref 127), .val (.int (iI its)), .val (.int (iI to))] [] T M F = _
  obtain ⟨hG, s1, s2, s3, s4⟩ := hS
  have hbi := hb its
  have p1 := y_piece (d := e) (T := T) (M := M) (F := F) (n := bb its) (by omega) (by omega)
  have p2 := y_side (d := e) (T := T) (M := M) (F := F) (n := bb its) (by omega) (by omega)
  have hY' := hY
  obtain ⟨ty127, ty128, fy1, ty129, fy4, ty130, fy5, ty131, fy6, ty132, fy7, ty133, fy8, ty136, fy15, ty137, fy16, ty138, fy17, ty139, fy18, ty140, fy19, ty141, fy20, ty142, fy21, ty143, fy22, hbd, tybd, fy9, hlg, tylg, fy13, hN⟩ := hY
  by_cases c1 : bb its % 10 = 6
  · have hs : m_side (bb its) = 0 ∨ m_side (bb its) = 1 := by unfold m_side; split <;> omega
    have p3 := y_isLast (d := e) hY' hG (by omega) hc hs
    by_cases c2 : gn to (m_ah (m_side (bb its))) = -1
    · rw [bI_t (show mk_be bb its to from ⟨c1, c2⟩)]
      rw [bI_t c2] at p3
      clear hG hb hY'
      simp (disch := omega) only [x_X8_becomes_0, x_X8_becomes_1, x_X8_becomes_4, x_X8_becomes_5, x_X8_becomes_6, x_X8_becomes_9, x_X8_becomes_11, x_X8_becomes_14, x_X8_becomes_15, x_X8_becomes_16, x_X8_becomes_17, x_X8_becomes_20, x_X8_becomes_21, x_X8_becomes_22, x_X8_becomes_25, x_X8_becomes_28, x_X8_becomes_31, x_X8_becomes_32, x_X8_becomes_35, x_X8_becomes_36, List.length_cons, List.length_nil, Nat.reduceLeDiff, Nat.zero_add, iI_add, iI_sub, iI_mul, iI_neg, iI_lt, iI_le, iI_eq, jI_iI, B_True, B_False, B_t, B_f, ck_True, gd_True, cb_v, cb_n, p_mv_rw, p_fv_rw, p_rv_some, pA_1, pA_90, pA_92, pA_3, pA_2, pA_93, pA_4, pA_91, pA_95, pS_i, pW_i, pZ_0, pZ_1, pZ_b, bI_e0, u1_s, u1_n, uA_s, uA_n, true_and, and_true, not_true_eq_false, not_false_eq_true, eq_self, iI_z, al1, al2, al3, al4, al90, al91, al92, al93, al95, Int.cast_ofNat_Int, Nat.reduceAdd, Int.reduceNeg, Int.reduceAdd, Int.reduceSub, Int.reduceMul, Int.reduceLT, Int.reduceLE, Int.reduceGT, Int.reduceGE, Int.reduceEq, Int.reduceNe, Nat.reduceEqDiff, Int.zero_add, Int.add_zero, p_ty0, p_ty1, p_ty2, p_ty3, p_ty4, p_ty5, p_ty6, p_ty7, p_ty8, p_ty9, p_ty10, p_ty11, ty127, ty128, fy1, ty129, fy4, ty130, fy5, ty131, fy6, ty132, fy7, ty133, fy8, ty136, fy15, ty137, fy16, ty138, fy17, ty139, fy18, ty140, fy19, ty141, fy20, ty142, fy21, ty143, fy22, tybd, fy9, tylg, fy13, s1, p1, p2, p3, c1, gd_t, B_t, B_f]
    · rw [bI_f (show ¬ mk_be bb its to from fun z => c2 z.2)]
      rw [bI_f c2] at p3
      clear hG hb hY'
      simp (disch := omega) only [x_X8_becomes_0, x_X8_becomes_1, x_X8_becomes_4, x_X8_becomes_5, x_X8_becomes_6, x_X8_becomes_9, x_X8_becomes_11, x_X8_becomes_14, x_X8_becomes_15, x_X8_becomes_16, x_X8_becomes_17, x_X8_becomes_20, x_X8_becomes_21, x_X8_becomes_22, x_X8_becomes_25, x_X8_becomes_28, x_X8_becomes_31, x_X8_becomes_32, x_X8_becomes_35, x_X8_becomes_36, List.length_cons, List.length_nil, Nat.reduceLeDiff, Nat.zero_add, iI_add, iI_sub, iI_mul, iI_neg, iI_lt, iI_le, iI_eq, jI_iI, B_True, B_False, B_t, B_f, ck_True, gd_True, cb_v, cb_n, p_mv_rw, p_fv_rw, p_rv_some, pA_1, pA_90, pA_92, pA_3, pA_2, pA_93, pA_4, pA_91, pA_95, pS_i, pW_i, pZ_0, pZ_1, pZ_b, bI_e0, u1_s, u1_n, uA_s, uA_n, true_and, and_true, not_true_eq_false, not_false_eq_true, eq_self, iI_z, al1, al2, al3, al4, al90, al91, al92, al93, al95, Int.cast_ofNat_Int, Nat.reduceAdd, Int.reduceNeg, Int.reduceAdd, Int.reduceSub, Int.reduceMul, Int.reduceLT, Int.reduceLE, Int.reduceGT, Int.reduceGE, Int.reduceEq, Int.reduceNe, Nat.reduceEqDiff, Int.zero_add, Int.add_zero, p_ty0, p_ty1, p_ty2, p_ty3, p_ty4, p_ty5, p_ty6, p_ty7, p_ty8, p_ty9, p_ty10, p_ty11, ty127, ty128, fy1, ty129, fy4, ty130, fy5, ty131, fy6, ty132, fy7, ty133, fy8, ty136, fy15, ty137, fy16, ty138, fy17, ty139, fy18, ty140, fy19, ty141, fy20, ty142, fy21, ty143, fy22, tybd, fy9, tylg, fy13, s1, p1, p2, p3, c1, gd_t, B_t, B_f]
  · rw [bI_f (show ¬ mk_be bb its to from fun z => c1 z.1)]
    clear hG hb hY'
    simp (disch := omega) only [x_X8_becomes_0, x_X8_becomes_1, x_X8_becomes_4, x_X8_becomes_5, x_X8_becomes_6, x_X8_becomes_9, x_X8_becomes_11, x_X8_becomes_14, x_X8_becomes_15, x_X8_becomes_16, x_X8_becomes_17, x_X8_becomes_20, x_X8_becomes_21, x_X8_becomes_22, x_X8_becomes_25, x_X8_becomes_28, x_X8_becomes_31, x_X8_becomes_32, x_X8_becomes_35, x_X8_becomes_36, List.length_cons, List.length_nil, Nat.reduceLeDiff, Nat.zero_add, iI_add, iI_sub, iI_mul, iI_neg, iI_lt, iI_le, iI_eq, jI_iI, B_True, B_False, B_t, B_f, ck_True, gd_True, cb_v, cb_n, p_mv_rw, p_fv_rw, p_rv_some, pA_1, pA_90, pA_92, pA_3, pA_2, pA_93, pA_4, pA_91, pA_95, pS_i, pW_i, pZ_0, pZ_1, pZ_b, bI_e0, u1_s, u1_n, uA_s, uA_n, true_and, and_true, not_true_eq_false, not_false_eq_true, eq_self, iI_z, al1, al2, al3, al4, al90, al91, al92, al93, al95, Int.cast_ofNat_Int, Nat.reduceAdd, Int.reduceNeg, Int.reduceAdd, Int.reduceSub, Int.reduceMul, Int.reduceLT, Int.reduceLE, Int.reduceGT, Int.reduceGE, Int.reduceEq, Int.reduceNe, Nat.reduceEqDiff, Int.zero_add, Int.add_zero, p_ty0, p_ty1, p_ty2, p_ty3, p_ty4, p_ty5, p_ty6, p_ty7, p_ty8, p_ty9, p_ty10, p_ty11, ty127, ty128, fy1, ty129, fy4, ty130, fy5, ty131, fy6, ty132, fy7, ty133, fy8, ty136, fy15, ty137, fy16, ty138, fy17, ty139, fy18, ty140, fy19, ty141, fy20, ty142, fy21, ty143, fy22, tybd, fy9, tylg, fy13, s1, p1, gd_t, B_t, B_f]
/-- a step of two: the pawn's cells lie so -/
abbrev mk_lo (bb : Int → Int) (its to : Int) : Prop := bb its % 10 = 6 ∧ gx its = gx to ∧ (gy to - gy its = 2 ∨ gy to - gy its = -2)
theorem y_make (hV : YV T M F bd lg N H) (hS : YS M bd bb t pas q) (hP : SP bb t pas q) (hH : H.length < 614) (hM : MV bb t pas its to) (has : 2 ≤ as ∧ as ≤ 5) :
    ∃ T' M' F' lg' N', (∀ d, 4 ≤ d → callD d m_X8_make [.ref 127, .int (iI its), .int (iI to), .int (iI as)] T M F = some (.inl (some (.int (iI (bb (mk_pl bb pas its to) % 10)))), T', M', F')) ∧ YV T' M' F' bd lg' N' ((bb, t, pas, q, its, to, as) :: H) ∧ YS M' bd (mk_bb bb pas its to as) (1 - t) (mk_ps bb its to) (mk_q bb pas q its to) ∧ (∀ j, j ≠ 10 → j ≠ 11 → j ≠ 12 → j ≠ 14 → M' 127 j = M 127 j) ∧ GC N N' H.length ∧ YC (fun a => a = 127 ∨ a = bd) T M F lg N T' M' F' lg' N' := by
  obtain ⟨hb, hu, h20, ht, hps, hq⟩ := hP
  have hpr := PS_rg hps
  obtain ⟨z1, z2, -⟩ := mk_pl_rg hb ht hps hM
  have hi := hM.1
  have hc := hM.2.1
  have hst := hM.2.2.1
  have hbi := hb its
  have hbp := hb (mk_pl bb pas its to)
  have hst2 := m_side_t hb ht hst
  obtain ⟨hYT, hD, hN, hL, hl, h14⟩ := id hV
  obtain ⟨hG, s1, s2, s3, s4⟩ := id hS
  obtain ⟨T1, M1, F1, lg1, N1, n1, Y1, D1, N1k, l1, L1, ⟨g0, g1, g2, g3, g4, g5, g6⟩, m127, G1, C1⟩ := y_note (its := its) (to := to) (tk := bb (mk_pl bb pas its to)) (pc := mk_pl bb pas its to) hV hH hi ⟨by omega, by omega, by omega, by rw [s1]; omega, by rw [s3]; omega, by rw [s4]; omega⟩
  rw [s1] at g2
  rw [s3] at g5
  rw [s4] at g6
  obtain ⟨d0, d0', d1, d2, d3, d4⟩ := id hD
  obtain ⟨e0, e0', e1, e2, e3, e4⟩ := id D1
  have mm : ∀ a, a < T.1.1 → a ≠ 127 → a ≠ lg → M1 a = M a := fun a ha h1 h2 => C1.2.1 a ha h1 h2
  have b1 : M1 bd = bb := (mm bd d2 (by omega) d1).trans s1
  have hG1 : YG M1 := by
    unfold YG at hG ⊢
    rw [mm 129 (by omega) (by omega) (by omega), mm 130 (by omega) (by omega) (by omega), mm 131 (by omega) (by omega) (by omega), mm 132 (by omega) (by omega) (by omega), mm 133 (by omega) (by omega) (by omega)]
    exact hG
  have k10 : M1 127 10 = t := by rw [m127, u1_n (by omega)]; exact s2
  have k11 : M1 127 11 = pas := by rw [m127, u1_n (by omega)]; exact s3
  have k12 : M1 127 12 = q := by rw [m127, u1_n (by omega)]; exact s4
  have k14 : M1 127 14 = (H.length : Int) + 1 := by rw [m127, u1_s]
  have hS1 : YS M1 bd bb t pas q := ⟨hG1, b1, k10, k11, k12⟩
  obtain ⟨M2, hM2⟩ : ∃ M2 : pM, M2 = uA (uA M1 bd (mk_bb bb pas its to as)) 127 (u1 (u1 (u1 (M1 127) 11 (mk_ps bb its to)) 12 (mk_q bb pas q its to)) 10 (1 - t)) := ⟨_, rfl⟩
  have mo : ∀ a, a ≠ 127 → a ≠ bd → M2 a = M1 a := fun a h1 h2 => by rw [hM2, uA_n h1, uA_n h2]
  have m2 : M2 127 = u1 (u1 (u1 (M1 127) 11 (mk_ps bb its to)) 12 (mk_q bb pas q its to)) 10 (1 - t) := by rw [hM2, uA_s]
  refine ⟨T1, M2, F1, lg1, N1, fun d hd => ?_, ⟨Y1, D1, N1k, ?_, ?_, ?_⟩, ⟨?_, ?_, ?_, ?_, ?_⟩, ?_, G1, C1.1, ?_, C1.2.2⟩
  · refine callD_go 3 hd rfl (fun e he => ?_)
    show R e m_X8_make 0 [.val (.ref 127), .val (.int (iI its)), .val (.int (iI to)), .val (.int (iI as)), .unset, .unset, .unset, .unset, .unset, .unset, .unset] [] T M F = _
    have n1 := n1 e (by omega)
    have p1 := y_side (d := e) (T := T) (M := M) (F := F) (n := bb its) (by omega) (by omega)
    have p2 := y_isPassing (d := e) hYT hS hb hpr hi hc (by omega)
    have p3 := y_becomes (d := e) hYT hS hb hi hc he
    have hs1 : 1 - m_side (bb its) = 0 ∨ 1 - m_side (bb its) = 1 := by omega
    have p4 := y_ahead (d := e) (T := T) (M := M) (F := F) (s := 1 - m_side (bb its)) (by omega) hs1
    have ah1 := (ah_fwd hs1).2.1
    have p5 := y_step (d := e) (k := to) (i := m_ah (1 - m_side (bb its))) hYT hG (by omega) (by omega) ah1
    have hst5 : m_st to (m_ah (1 - m_side (bb its))) = gn to (m_ah (1 - m_side (bb its))) := if_neg (by omega)
    rw [hst5] at p5
    have pr : 0 ≤ m_side (bb its) ∧ m_side (bb its) ≤ 1 := by omega
    have c1 : R e m_X8_make 0 [.val (.ref 127), .val (.int (iI its)), .val (.int (iI to)), .val (.int (iI as)), .unset, .unset, .unset, .unset, .unset, .unset, .unset] [] T M F = R e m_X8_make 51 [.val (.ref 127), .val (.int (iI its)), .val (.int (iI to)), .val (.int (iI as)), .val (.int (iI (bb its))), .val (.int (iI (m_side (bb its)))), .val (.int (iI (mk_pl bb pas its to))), .val (.int (iI (bb (mk_pl bb pas its to)))), .unset, .unset, .unset] [] T M F := by
      have ty9 := hYT
      obtain ⟨ty127, ty128, fy1, ty129, fy4, ty130, fy5, ty131, fy6, ty132, fy7, ty133, fy8, ty136, fy15, ty137, fy16, ty138, fy17, ty139, fy18, ty140, fy19, ty141, fy20, ty142, fy21, ty143, fy22, hbd, tybd, fy9, hlg, tylg, fy13, hN⟩ := ty9
      have z1' := z1
      have hpl : ∀ y, mk_pl bb pas its to = y → mk_pl bb pas its to = y := fun _ h => h
      unfold mk_pl at z1' hpl ⊢
      by_cases c : bb its % 10 = 6 ∧ to = pas ∧ bb to = 0 ∧ gx its ≠ gx to
      · rw [bI_t c] at p2
        rw [if_pos c] at z1' ⊢
        clear hM hps hL hV L1 C1 mm hG1 hS1 hS hG hb hu h20 n1 p3 hpl hM2 mo m2
        simp (disch := omega) only [x_X8_make_0, x_X8_make_1, x_X8_make_4, x_X8_make_5, x_X8_make_6, x_X8_make_8, x_X8_make_10, x_X8_make_13, x_X8_make_15, x_X8_make_16, x_X8_make_17, x_X8_make_18, x_X8_make_21, x_X8_make_24, x_X8_make_25, x_X8_make_26, x_X8_make_27, x_X8_make_29, x_X8_make_30, x_X8_make_33, x_X8_make_36, x_X8_make_39, x_X8_make_40, x_X8_make_42, x_X8_make_43, x_X8_make_46, x_X8_make_48, x_X8_make_49, List.length_cons, List.length_nil, Nat.reduceLeDiff, Nat.zero_add, iI_add, iI_sub, iI_mul, iI_neg, iI_lt, iI_le, iI_eq, jI_iI, B_True, B_False, B_t, B_f, ck_True, gd_True, cb_v, cb_n, p_mv_rw, p_fv_rw, p_rv_some, pA_1, pA_90, pA_92, pA_3, pA_2, pA_93, pA_4, pA_91, pA_95, pS_i, pW_i, pZ_0, pZ_1, pZ_b, bI_e0, u1_s, u1_n, uA_s, uA_n, true_and, and_true, not_true_eq_false, not_false_eq_true, eq_self, iI_z, al1, al2, al3, al4, al90, al91, al92, al93, al95, Int.cast_ofNat_Int, Nat.reduceAdd, Int.reduceNeg, Int.reduceAdd, Int.reduceSub, Int.reduceMul, Int.reduceLT, Int.reduceLE, Int.reduceGT, Int.reduceGE, Int.reduceEq, Int.reduceNe, Nat.reduceEqDiff, Int.zero_add, Int.add_zero, p_ty0, p_ty1, p_ty2, p_ty3, p_ty4, p_ty5, p_ty6, p_ty7, p_ty8, p_ty9, p_ty10, p_ty11, ty127, ty128, fy1, ty129, fy4, ty130, fy5, ty131, fy6, ty132, fy7, ty133, fy8, ty136, fy15, ty137, fy16, ty138, fy17, ty139, fy18, ty140, fy19, ty141, fy20, ty142, fy21, ty143, fy22, tybd, fy9, tylg, fy13, s1, p1, p2, p4, p5, gd_t, B_t, B_f]
      · rw [bI_f c] at p2
        rw [if_neg c] at z1' ⊢
        clear hM hps hL hV L1 C1 mm hG1 hS1 hS hG hb hu h20 n1 p3 hpl hM2 mo m2
        simp (disch := omega) only [x_X8_make_0, x_X8_make_1, x_X8_make_4, x_X8_make_5, x_X8_make_6, x_X8_make_8, x_X8_make_10, x_X8_make_13, x_X8_make_15, x_X8_make_16, x_X8_make_17, x_X8_make_18, x_X8_make_21, x_X8_make_24, x_X8_make_25, x_X8_make_26, x_X8_make_27, x_X8_make_29, x_X8_make_30, x_X8_make_33, x_X8_make_36, x_X8_make_39, x_X8_make_40, x_X8_make_42, x_X8_make_43, x_X8_make_46, x_X8_make_48, x_X8_make_49, List.length_cons, List.length_nil, Nat.reduceLeDiff, Nat.zero_add, iI_add, iI_sub, iI_mul, iI_neg, iI_lt, iI_le, iI_eq, jI_iI, B_True, B_False, B_t, B_f, ck_True, gd_True, cb_v, cb_n, p_mv_rw, p_fv_rw, p_rv_some, pA_1, pA_90, pA_92, pA_3, pA_2, pA_93, pA_4, pA_91, pA_95, pS_i, pW_i, pZ_0, pZ_1, pZ_b, bI_e0, u1_s, u1_n, uA_s, uA_n, true_and, and_true, not_true_eq_false, not_false_eq_true, eq_self, iI_z, al1, al2, al3, al4, al90, al91, al92, al93, al95, Int.cast_ofNat_Int, Nat.reduceAdd, Int.reduceNeg, Int.reduceAdd, Int.reduceSub, Int.reduceMul, Int.reduceLT, Int.reduceLE, Int.reduceGT, Int.reduceGE, Int.reduceEq, Int.reduceNe, Nat.reduceEqDiff, Int.zero_add, Int.add_zero, p_ty0, p_ty1, p_ty2, p_ty3, p_ty4, p_ty5, p_ty6, p_ty7, p_ty8, p_ty9, p_ty10, p_ty11, ty127, ty128, fy1, ty129, fy4, ty130, fy5, ty131, fy6, ty132, fy7, ty133, fy8, ty136, fy15, ty137, fy16, ty138, fy17, ty139, fy18, ty140, fy19, ty141, fy20, ty142, fy21, ty143, fy22, tybd, fy9, tylg, fy13, s1, p1, p2, gd_t, B_t, B_f]
    have c2 : R e m_X8_make 51 [.val (.ref 127), .val (.int (iI its)), .val (.int (iI to)), .val (.int (iI as)), .val (.int (iI (bb its))), .val (.int (iI (m_side (bb its)))), .val (.int (iI (mk_pl bb pas its to))), .val (.int (iI (bb (mk_pl bb pas its to)))), .unset, .unset, .unset] [] T M F = R e m_X8_make 84 [.val (.ref 127), .val (.int (iI its)), .val (.int (iI to)), .val (.int (iI as)), .val (.int (iI (bb its))), .val (.int (iI (m_side (bb its)))), .val (.int (iI (mk_pl bb pas its to))), .val (.int (iI (bb (mk_pl bb pas its to)))), .val (.int (iI (mk_th bb its to as))), .unset, .unset] [] T1 M1 F1 := by
      have ty9 := hYT.1
      by_cases c : mk_be bb its to
      · rw [bI_t c] at p3
        rw [show mk_th bb its to as = 10 * m_side (bb its) + as from if_pos c]
        clear hM hps hL hV L1 C1 mm hG1 hS1 hS hG hb hu h20 p2 hM2 mo m2 p5 c1
        simp (disch := omega) only [x_X8_make_51, x_X8_make_52, x_X8_make_53, x_X8_make_54, x_X8_make_57, x_X8_make_60, x_X8_make_62, x_X8_make_64, x_X8_make_65, x_X8_make_66, x_X8_make_67, x_X8_make_70, x_X8_make_72, x_X8_make_74, x_X8_make_75, x_X8_make_76, x_X8_make_77, x_X8_make_79, x_X8_make_81, List.length_cons, List.length_nil, Nat.reduceLeDiff, Nat.zero_add, iI_add, iI_sub, iI_mul, iI_neg, iI_lt, iI_le, iI_eq, jI_iI, B_True, B_False, B_t, B_f, ck_True, gd_True, cb_v, cb_n, p_mv_rw, p_fv_rw, p_rv_some, pA_1, pA_90, pA_92, pA_3, pA_2, pA_93, pA_4, pA_91, pA_95, pS_i, pW_i, pZ_0, pZ_1, pZ_b, bI_e0, u1_s, u1_n, uA_s, uA_n, true_and, and_true, not_true_eq_false, not_false_eq_true, eq_self, iI_z, al1, al2, al3, al4, al90, al91, al92, al93, al95, Int.cast_ofNat_Int, Nat.reduceAdd, Int.reduceNeg, Int.reduceAdd, Int.reduceSub, Int.reduceMul, Int.reduceLT, Int.reduceLE, Int.reduceGT, Int.reduceGE, Int.reduceEq, Int.reduceNe, Nat.reduceEqDiff, Int.zero_add, Int.add_zero, p_ty0, p_ty1, p_ty2, p_ty3, p_ty4, p_ty5, p_ty6, p_ty7, p_ty8, p_ty9, p_ty10, p_ty11, ty9, p3, n1, gd_t, B_t, B_f]
      · rw [bI_f c] at p3
        rw [show mk_th bb its to as = bb its from if_neg c]
        clear hM hps hL hV L1 C1 mm hG1 hS1 hS hG hb hu h20 p2 hM2 mo m2 p5 c1
        simp (disch := omega) only [x_X8_make_51, x_X8_make_52, x_X8_make_53, x_X8_make_54, x_X8_make_57, x_X8_make_60, x_X8_make_62, x_X8_make_64, x_X8_make_65, x_X8_make_66, x_X8_make_67, x_X8_make_70, x_X8_make_72, x_X8_make_74, x_X8_make_75, x_X8_make_76, x_X8_make_77, x_X8_make_79, x_X8_make_81, List.length_cons, List.length_nil, Nat.reduceLeDiff, Nat.zero_add, iI_add, iI_sub, iI_mul, iI_neg, iI_lt, iI_le, iI_eq, jI_iI, B_True, B_False, B_t, B_f, ck_True, gd_True, cb_v, cb_n, p_mv_rw, p_fv_rw, p_rv_some, pA_1, pA_90, pA_92, pA_3, pA_2, pA_93, pA_4, pA_91, pA_95, pS_i, pW_i, pZ_0, pZ_1, pZ_b, bI_e0, u1_s, u1_n, uA_s, uA_n, true_and, and_true, not_true_eq_false, not_false_eq_true, eq_self, iI_z, al1, al2, al3, al4, al90, al91, al92, al93, al95, Int.cast_ofNat_Int, Nat.reduceAdd, Int.reduceNeg, Int.reduceAdd, Int.reduceSub, Int.reduceMul, Int.reduceLT, Int.reduceLE, Int.reduceGT, Int.reduceGE, Int.reduceEq, Int.reduceNe, Nat.reduceEqDiff, Int.zero_add, Int.add_zero, p_ty0, p_ty1, p_ty2, p_ty3, p_ty4, p_ty5, p_ty6, p_ty7, p_ty8, p_ty9, p_ty10, p_ty11, ty9, p3, n1, gd_t, B_t, B_f]
    rw [c1, c2]
    clear c1 c2 n1 p2 p3 p4 p5 p1
    have xx := (gxy_rg hi)
    have yy := (gxy_rg hc)
    have q1 := y_piece (d := e) (T := T1) (M := M1) (F := F1) (n := bb its) (by omega) (by omega)
    have q9 := fun M => y_piece (d := e) (T := T1) (M := M) (F := F1) (n := bb (mk_pl bb pas its to)) (by omega) (by omega)
    have a1 := hG1.1 its hi.1 hi.2
    have a2 := hG1.1 to hc.1 hc.2
    have a3 := hG1.2.1 its hi.1 hi.2
    have a4 := hG1.2.1 to hc.1 hc.2
    have q2 := y_abs (d := e) (T := T1) (M := M1) (F := F1) (n := gy to - gy its) (by omega) (by omega)
    have c3 : R e m_X8_make 84 [.val (.ref 127), .val (.int (iI its)), .val (.int (iI to)), .val (.int (iI as)), .val (.int (iI (bb its))), .val (.int (iI (m_side (bb its)))), .val (.int (iI (mk_pl bb pas its to))), .val (.int (iI (bb (mk_pl bb pas its to)))), .val (.int (iI (mk_th bb its to as))), .unset, .unset] [] T1 M1 F1 = R e m_X8_make 148 [.val (.ref 127), .val (.int (iI its)), .val (.int (iI to)), .val (.int (iI as)), .val (.int (iI (bb its))), .val (.int (iI (m_side (bb its)))), .val (.int (iI (mk_pl bb pas its to))), .val (.int (iI (bb (mk_pl bb pas its to)))), .val (.int (iI (mk_th bb its to as))), .val (.int (iI (bI (bb its % 10 = 6)))), .val (.int (iI (bI (mk_lo bb its to))))] [] T1 M1 F1 := by
      have ty9 := Y1
      obtain ⟨ty127, ty128, fy1, ty129, fy4, ty130, fy5, ty131, fy6, ty132, fy7, ty133, fy8, ty136, fy15, ty137, fy16, ty138, fy17, ty139, fy18, ty140, fy19, ty141, fy20, ty142, fy21, ty143, fy22, hbd, tybd, fy9, hlg, tylg, fy13, hN⟩ := ty9
      by_cases c5 : bb its % 10 = 6
      · rw [bI_t c5]
        by_cases c6 : gx its = gx to
        · by_cases c7 : gy to - gy its = 2 ∨ gy to - gy its = -2
          · rw [bI_t (show mk_lo bb its to from ⟨c5, c6, c7⟩)]
            rw [show (if gy to - gy its < 0 then -(gy to - gy its) else gy to - gy its) = 2 by split <;> omega] at q2
            clear hM hps hL hV L1 C1 mm hG1 hS1 hS hG hb hu h20 hM2 mo m2
            simp (disch := omega) only [x_X8_make_84, x_X8_make_86, x_X8_make_89, x_X8_make_91, x_X8_make_94, x_X8_make_95, x_X8_make_98, x_X8_make_99, x_X8_make_101, x_X8_make_103, x_X8_make_106, x_X8_make_107, x_X8_make_110, x_X8_make_111, x_X8_make_112, x_X8_make_113, x_X8_make_116, x_X8_make_117, x_X8_make_118, x_X8_make_121, x_X8_make_122, x_X8_make_125, x_X8_make_126, x_X8_make_127, x_X8_make_128, x_X8_make_131, x_X8_make_132, x_X8_make_133, x_X8_make_134, x_X8_make_137, x_X8_make_138, x_X8_make_141, x_X8_make_142, x_X8_make_145, x_X8_make_146, List.length_cons, List.length_nil, Nat.reduceLeDiff, Nat.zero_add, iI_add, iI_sub, iI_mul, iI_neg, iI_lt, iI_le, iI_eq, jI_iI, B_True, B_False, B_t, B_f, ck_True, gd_True, cb_v, cb_n, p_mv_rw, p_fv_rw, p_rv_some, pA_1, pA_90, pA_92, pA_3, pA_2, pA_93, pA_4, pA_91, pA_95, pS_i, pW_i, pZ_0, pZ_1, pZ_b, bI_e0, u1_s, u1_n, uA_s, uA_n, true_and, and_true, not_true_eq_false, not_false_eq_true, eq_self, iI_z, al1, al2, al3, al4, al90, al91, al92, al93, al95, Int.cast_ofNat_Int, Nat.reduceAdd, Int.reduceNeg, Int.reduceAdd, Int.reduceSub, Int.reduceMul, Int.reduceLT, Int.reduceLE, Int.reduceGT, Int.reduceGE, Int.reduceEq, Int.reduceNe, Nat.reduceEqDiff, Int.zero_add, Int.add_zero, p_ty0, p_ty1, p_ty2, p_ty3, p_ty4, p_ty5, p_ty6, p_ty7, p_ty8, p_ty9, p_ty10, p_ty11, ty127, ty128, fy1, ty129, fy4, ty130, fy5, ty131, fy6, ty132, fy7, ty133, fy8, ty136, fy15, ty137, fy16, ty138, fy17, ty139, fy18, ty140, fy19, ty141, fy20, ty142, fy21, ty143, fy22, tybd, fy9, tylg, fy13, q1, q2, a1, a2, a3, a4, c5, c6, gd_t, B_t, B_f]
          · rw [bI_f (show ¬ mk_lo bb its to from fun z => c7 z.2.2)]
            have c8 : (if gy to - gy its < 0 then -(gy to - gy its) else gy to - gy its) ≠ 2 ∧ -100 ≤ (if gy to - gy its < 0 then -(gy to - gy its) else gy to - gy its) ∧ (if gy to - gy its < 0 then -(gy to - gy its) else gy to - gy its) ≤ 100 := by split <;> omega
            generalize (if gy to - gy its < 0 then -(gy to - gy its) else gy to - gy its) = ab at q2 c8
            obtain ⟨c8, c9, c10⟩ := c8
            clear hM hps hL hV L1 C1 mm hG1 hS1 hS hG hb hu h20 hM2 mo m2
            simp (disch := omega) only [x_X8_make_84, x_X8_make_86, x_X8_make_89, x_X8_make_91, x_X8_make_94, x_X8_make_95, x_X8_make_98, x_X8_make_99, x_X8_make_101, x_X8_make_103, x_X8_make_106, x_X8_make_107, x_X8_make_110, x_X8_make_111, x_X8_make_112, x_X8_make_113, x_X8_make_116, x_X8_make_117, x_X8_make_118, x_X8_make_121, x_X8_make_122, x_X8_make_125, x_X8_make_126, x_X8_make_127, x_X8_make_128, x_X8_make_131, x_X8_make_132, x_X8_make_133, x_X8_make_134, x_X8_make_137, x_X8_make_138, x_X8_make_141, x_X8_make_142, x_X8_make_145, x_X8_make_146, List.length_cons, List.length_nil, Nat.reduceLeDiff, Nat.zero_add, iI_add, iI_sub, iI_mul, iI_neg, iI_lt, iI_le, iI_eq, jI_iI, B_True, B_False, B_t, B_f, ck_True, gd_True, cb_v, cb_n, p_mv_rw, p_fv_rw, p_rv_some, pA_1, pA_90, pA_92, pA_3, pA_2, pA_93, pA_4, pA_91, pA_95, pS_i, pW_i, pZ_0, pZ_1, pZ_b, bI_e0, u1_s, u1_n, uA_s, uA_n, true_and, and_true, not_true_eq_false, not_false_eq_true, eq_self, iI_z, al1, al2, al3, al4, al90, al91, al92, al93, al95, Int.cast_ofNat_Int, Nat.reduceAdd, Int.reduceNeg, Int.reduceAdd, Int.reduceSub, Int.reduceMul, Int.reduceLT, Int.reduceLE, Int.reduceGT, Int.reduceGE, Int.reduceEq, Int.reduceNe, Nat.reduceEqDiff, Int.zero_add, Int.add_zero, p_ty0, p_ty1, p_ty2, p_ty3, p_ty4, p_ty5, p_ty6, p_ty7, p_ty8, p_ty9, p_ty10, p_ty11, ty127, ty128, fy1, ty129, fy4, ty130, fy5, ty131, fy6, ty132, fy7, ty133, fy8, ty136, fy15, ty137, fy16, ty138, fy17, ty139, fy18, ty140, fy19, ty141, fy20, ty142, fy21, ty143, fy22, tybd, fy9, tylg, fy13, q1, q2, a1, a2, a3, a4, c5, c6, gd_t, B_t, B_f]
        · rw [bI_f (show ¬ mk_lo bb its to from fun z => c6 z.2.1)]
          clear hM hps hL hV L1 C1 mm hG1 hS1 hS hG hb hu h20 hM2 mo m2 q2
          simp (disch := omega) only [x_X8_make_84, x_X8_make_86, x_X8_make_89, x_X8_make_91, x_X8_make_94, x_X8_make_95, x_X8_make_98, x_X8_make_99, x_X8_make_101, x_X8_make_103, x_X8_make_106, x_X8_make_107, x_X8_make_110, x_X8_make_111, x_X8_make_112, x_X8_make_113, x_X8_make_116, x_X8_make_117, x_X8_make_118, x_X8_make_121, x_X8_make_122, x_X8_make_125, x_X8_make_126, x_X8_make_127, x_X8_make_128, x_X8_make_131, x_X8_make_132, x_X8_make_133, x_X8_make_134, x_X8_make_137, x_X8_make_138, x_X8_make_141, x_X8_make_142, x_X8_make_145, x_X8_make_146, List.length_cons, List.length_nil, Nat.reduceLeDiff, Nat.zero_add, iI_add, iI_sub, iI_mul, iI_neg, iI_lt, iI_le, iI_eq, jI_iI, B_True, B_False, B_t, B_f, ck_True, gd_True, cb_v, cb_n, p_mv_rw, p_fv_rw, p_rv_some, pA_1, pA_90, pA_92, pA_3, pA_2, pA_93, pA_4, pA_91, pA_95, pS_i, pW_i, pZ_0, pZ_1, pZ_b, bI_e0, u1_s, u1_n, uA_s, uA_n, true_and, and_true, not_true_eq_false, not_false_eq_true, eq_self, iI_z, al1, al2, al3, al4, al90, al91, al92, al93, al95, Int.cast_ofNat_Int, Nat.reduceAdd, Int.reduceNeg, Int.reduceAdd, Int.reduceSub, Int.reduceMul, Int.reduceLT, Int.reduceLE, Int.reduceGT, Int.reduceGE, Int.reduceEq, Int.reduceNe, Nat.reduceEqDiff, Int.zero_add, Int.add_zero, p_ty0, p_ty1, p_ty2, p_ty3, p_ty4, p_ty5, p_ty6, p_ty7, p_ty8, p_ty9, p_ty10, p_ty11, ty127, ty128, fy1, ty129, fy4, ty130, fy5, ty131, fy6, ty132, fy7, ty133, fy8, ty136, fy15, ty137, fy16, ty138, fy17, ty139, fy18, ty140, fy19, ty141, fy20, ty142, fy21, ty143, fy22, tybd, fy9, tylg, fy13, q1, a1, a2, c5, gd_t, B_t, B_f]
      · rw [bI_f c5, bI_f (show ¬ mk_lo bb its to from fun z => c5 z.1)]
        clear hM hps hL hV L1 C1 mm hG1 hS1 hS hG hb hu h20 hM2 mo m2 q2
        simp (disch := omega) only [x_X8_make_84, x_X8_make_86, x_X8_make_89, x_X8_make_91, x_X8_make_94, x_X8_make_95, x_X8_make_98, x_X8_make_99, x_X8_make_101, x_X8_make_103, x_X8_make_106, x_X8_make_107, x_X8_make_110, x_X8_make_111, x_X8_make_112, x_X8_make_113, x_X8_make_116, x_X8_make_117, x_X8_make_118, x_X8_make_121, x_X8_make_122, x_X8_make_125, x_X8_make_126, x_X8_make_127, x_X8_make_128, x_X8_make_131, x_X8_make_132, x_X8_make_133, x_X8_make_134, x_X8_make_137, x_X8_make_138, x_X8_make_141, x_X8_make_142, x_X8_make_145, x_X8_make_146, List.length_cons, List.length_nil, Nat.reduceLeDiff, Nat.zero_add, iI_add, iI_sub, iI_mul, iI_neg, iI_lt, iI_le, iI_eq, jI_iI, B_True, B_False, B_t, B_f, ck_True, gd_True, cb_v, cb_n, p_mv_rw, p_fv_rw, p_rv_some, pA_1, pA_90, pA_92, pA_3, pA_2, pA_93, pA_4, pA_91, pA_95, pS_i, pW_i, pZ_0, pZ_1, pZ_b, bI_e0, u1_s, u1_n, uA_s, uA_n, true_and, and_true, not_true_eq_false, not_false_eq_true, eq_self, iI_z, al1, al2, al3, al4, al90, al91, al92, al93, al95, Int.cast_ofNat_Int, Nat.reduceAdd, Int.reduceNeg, Int.reduceAdd, Int.reduceSub, Int.reduceMul, Int.reduceLT, Int.reduceLE, Int.reduceGT, Int.reduceGE, Int.reduceEq, Int.reduceNe, Nat.reduceEqDiff, Int.zero_add, Int.add_zero, p_ty0, p_ty1, p_ty2, p_ty3, p_ty4, p_ty5, p_ty6, p_ty7, p_ty8, p_ty9, p_ty10, p_ty11, ty127, ty128, fy1, ty129, fy4, ty130, fy5, ty131, fy6, ty132, fy7, ty133, fy8, ty136, fy15, ty137, fy16, ty138, fy17, ty139, fy18, ty140, fy19, ty141, fy20, ty142, fy21, ty143, fy22, tybd, fy9, tylg, fy13, q1, gd_t, B_t, B_f]
    rw [c3]
    clear c3 q1 q2 a1 a2 a3 a4
    -- the board is written
    obtain ⟨M3, hM3⟩ : ∃ M3 : pM, M3 = uA M1 bd (mk_bb bb pas its to as) := ⟨_, rfl⟩
    have hth := mk_th_v hb ht hM has
    have c4 : ∀ l9 l10, R e m_X8_make 148 [.val (.ref 127), .val (.int (iI its)), .val (.int (iI to)), .val (.int (iI as)), .val (.int (iI (bb its))), .val (.int (iI (m_side (bb its)))), .val (.int (iI (mk_pl bb pas its to))), .val (.int (iI (bb (mk_pl bb pas its to)))), .val (.int (iI (mk_th bb its to as))), l9, l10] [] T1 M1 F1 = R e m_X8_make 171 [.val (.ref 127), .val (.int (iI its)), .val (.int (iI to)), .val (.int (iI as)), .val (.int (iI (bb its))), .val (.int (iI (m_side (bb its)))), .val (.int (iI (mk_pl bb pas its to))), .val (.int (iI (bb (mk_pl bb pas its to)))), .val (.int (iI (mk_th bb its to as))), l9, l10] [] T1 M3 F1 := by
      intro l9 l10
      have ty9 := Y1
      obtain ⟨ty127, ty128, fy1, ty129, fy4, ty130, fy5, ty131, fy6, ty132, fy7, ty133, fy8, ty136, fy15, ty137, fy16, ty138, fy17, ty139, fy18, ty140, fy19, ty141, fy20, ty142, fy21, ty143, fy22, hbd, tybd, fy9, hlg, tylg, fy13, hN⟩ := ty9
      have hth1 := hth.1
      have hth2 := hth.2.1
      rw [hM3]
      unfold mk_bb
      clear hM hps hL hV L1 C1 mm hG1 hS1 hS hG hb hu h20 hM2 mo m2 hth q9
      simp (disch := omega) only [x_X8_make_148, x_X8_make_149, x_X8_make_152, x_X8_make_154, x_X8_make_155, x_X8_make_156, x_X8_make_157, x_X8_make_160, x_X8_make_161, x_X8_make_162, x_X8_make_163, x_X8_make_164, x_X8_make_167, x_X8_make_168, x_X8_make_170, List.length_cons, List.length_nil, Nat.reduceLeDiff, Nat.zero_add, iI_add, iI_sub, iI_mul, iI_neg, iI_lt, iI_le, iI_eq, jI_iI, B_True, B_False, B_t, B_f, ck_True, gd_True, cb_v, cb_n, p_mv_rw, p_fv_rw, p_rv_some, pA_1, pA_90, pA_92, pA_3, pA_2, pA_93, pA_4, pA_91, pA_95, pS_i, pW_i, pZ_0, pZ_1, pZ_b, bI_e0, u1_s, u1_n, uA_s, uA_n, true_and, and_true, not_true_eq_false, not_false_eq_true, eq_self, iI_z, al1, al2, al3, al4, al90, al91, al92, al93, al95, Int.cast_ofNat_Int, Nat.reduceAdd, Int.reduceNeg, Int.reduceAdd, Int.reduceSub, Int.reduceMul, Int.reduceLT, Int.reduceLE, Int.reduceGT, Int.reduceGE, Int.reduceEq, Int.reduceNe, Nat.reduceEqDiff, Int.zero_add, Int.add_zero, p_ty0, p_ty1, p_ty2, p_ty3, p_ty4, p_ty5, p_ty6, p_ty7, p_ty8, p_ty9, p_ty10, p_ty11, ty127, ty128, fy1, ty129, fy4, ty130, fy5, ty131, fy6, ty132, fy7, ty133, fy8, ty136, fy15, ty137, fy16, ty138, fy17, ty139, fy18, ty140, fy19, ty141, fy20, ty142, fy21, ty143, fy22, tybd, fy9, tylg, fy13, b1, uA_uA, gd_t, B_t, B_f]
    rw [c4]
    clear c4
    have n10 : M3 127 10 = t := by rw [hM3, uA_n (by omega)]; exact k10
    have n12 : M3 127 12 = q := by rw [hM3, uA_n (by omega)]; exact k12
    have hG3 : YG M3 := by
      have m3 : ∀ a, a ≠ bd → M3 a = M1 a := fun a ha => by rw [hM3, uA_n ha]
      unfold YG at hG1 ⊢
      rw [m3 129 (by omega), m3 130 (by omega), m3 131 (by omega), m3 132 (by omega), m3 133 (by omega)]
      exact hG1
    have hM23 : M2 = uA M3 127 (u1 (u1 (u1 (M3 127) 11 (mk_ps bb its to)) 12 (mk_q bb pas q its to)) 10 (1 - t)) := by
      rw [hM2, hM3, uA_n (b := 127) (a := bd) (by omega)]
    have hs2 : m_side (bb its) = 0 ∨ m_side (bb its) = 1 := by omega
    have p4 := y_ahead (d := e) (T := T1) (M := M3) (F := F1) (s := m_side (bb its)) (by omega) hs2
    have ah1 := (ah_fwd hs2).2.1
    have p5 := y_step (d := e) (k := its) (i := m_ah (m_side (bb its))) Y1 hG3 (by omega) (by omega) ah1
    have ty127 := Y1.1
    have hmq : mk_q bb pas q its to = if bb its % 10 = 6 ∨ bb (mk_pl bb pas its to) ≠ 0 then 0 else q + 1 := rfl
    have hmp : mk_ps bb its to = if mk_lo bb its to then m_st its (m_ah (m_side (bb its))) else -1 := rfl
    have stR : -1 ≤ m_st its (m_ah (m_side (bb its))) ∧ m_st its (m_ah (m_side (bb its))) < 91 := by
      have := gn_rg hi ah1
      unfold m_st; rw [if_neg (by omega)]; exact this
    rw [hM23, hmq, hmp]
    clear hM hps hL hV L1 C1 mm hG1 hS1 hS hG hb hu h20 hM2 mo m2 hth hG3 hM3 hM23 hmq hmp
    by_cases c5 : mk_lo bb its to
    · have c6 := c5.1
      rw [bI_t c5, bI_t c6, if_pos c5, if_pos (Or.inl c6)]
      simp (disch := omega) only [x_X8_make_171, x_X8_make_172, x_X8_make_174, x_X8_make_177, x_X8_make_178, x_X8_make_179, x_X8_make_181, x_X8_make_184, x_X8_make_187, x_X8_make_190, x_X8_make_191, x_X8_make_194, x_X8_make_195, x_X8_make_197, x_X8_make_200, x_X8_make_202, x_X8_make_205, x_X8_make_206, x_X8_make_209, x_X8_make_210, x_X8_make_213, x_X8_make_214, x_X8_make_215, x_X8_make_218, x_X8_make_219, x_X8_make_220, x_X8_make_221, x_X8_make_224, x_X8_make_225, x_X8_make_228, x_X8_make_230, x_X8_make_233, List.length_cons, List.length_nil, Nat.reduceLeDiff, Nat.zero_add, iI_add, iI_sub, iI_mul, iI_neg, iI_lt, iI_le, iI_eq, jI_iI, B_True, B_False, B_t, B_f, ck_True, gd_True, cb_v, cb_n, p_mv_rw, p_fv_rw, p_rv_some, pA_1, pA_90, pA_92, pA_3, pA_2, pA_93, pA_4, pA_91, pA_95, pS_i, pW_i, pZ_0, pZ_1, pZ_b, bI_e0, u1_s, u1_n, uA_s, uA_n, true_and, and_true, not_true_eq_false, not_false_eq_true, eq_self, iI_z, al1, al2, al3, al4, al90, al91, al92, al93, al95, Int.cast_ofNat_Int, Nat.reduceAdd, Int.reduceNeg, Int.reduceAdd, Int.reduceSub, Int.reduceMul, Int.reduceLT, Int.reduceLE, Int.reduceGT, Int.reduceGE, Int.reduceEq, Int.reduceNe, Nat.reduceEqDiff, Int.zero_add, Int.add_zero, p_ty0, p_ty1, p_ty2, p_ty3, p_ty4, p_ty5, p_ty6, p_ty7, p_ty8, p_ty9, p_ty10, p_ty11, ty127, n10, n12, p4, p5, q9, uA_uA, gd_t, B_t, B_f]
    · rw [bI_f c5, if_neg c5]
      by_cases c6 : bb its % 10 = 6
      · rw [bI_t c6, if_pos (Or.inl c6)]
        simp (disch := omega) only [x_X8_make_171, x_X8_make_172, x_X8_make_174, x_X8_make_177, x_X8_make_178, x_X8_make_179, x_X8_make_181, x_X8_make_184, x_X8_make_187, x_X8_make_190, x_X8_make_191, x_X8_make_194, x_X8_make_195, x_X8_make_197, x_X8_make_200, x_X8_make_202, x_X8_make_205, x_X8_make_206, x_X8_make_209, x_X8_make_210, x_X8_make_213, x_X8_make_214, x_X8_make_215, x_X8_make_218, x_X8_make_219, x_X8_make_220, x_X8_make_221, x_X8_make_224, x_X8_make_225, x_X8_make_228, x_X8_make_230, x_X8_make_233, List.length_cons, List.length_nil, Nat.reduceLeDiff, Nat.zero_add, iI_add, iI_sub, iI_mul, iI_neg, iI_lt, iI_le, iI_eq, jI_iI, B_True, B_False, B_t, B_f, ck_True, gd_True, cb_v, cb_n, p_mv_rw, p_fv_rw, p_rv_some, pA_1, pA_90, pA_92, pA_3, pA_2, pA_93, pA_4, pA_91, pA_95, pS_i, pW_i, pZ_0, pZ_1, pZ_b, bI_e0, u1_s, u1_n, uA_s, uA_n, true_and, and_true, not_true_eq_false, not_false_eq_true, eq_self, iI_z, al1, al2, al3, al4, al90, al91, al92, al93, al95, Int.cast_ofNat_Int, Nat.reduceAdd, Int.reduceNeg, Int.reduceAdd, Int.reduceSub, Int.reduceMul, Int.reduceLT, Int.reduceLE, Int.reduceGT, Int.reduceGE, Int.reduceEq, Int.reduceNe, Nat.reduceEqDiff, Int.zero_add, Int.add_zero, p_ty0, p_ty1, p_ty2, p_ty3, p_ty4, p_ty5, p_ty6, p_ty7, p_ty8, p_ty9, p_ty10, p_ty11, ty127, n10, n12, q9, uA_uA, gd_t, B_t, B_f]
      · rw [bI_f c6]
        by_cases c7 : bb (mk_pl bb pas its to) = 0
        · rw [if_neg (by rintro (z | z) <;> contradiction)]
          have q0 := fun M => y_piece (d := e) (T := T1) (M := M) (F := F1) (n := 0) (by omega) (by omega)
          clear q9
          simp (disch := omega) only [x_X8_make_171, x_X8_make_172, x_X8_make_174, x_X8_make_177, x_X8_make_178, x_X8_make_179, x_X8_make_181, x_X8_make_184, x_X8_make_187, x_X8_make_190, x_X8_make_191, x_X8_make_194, x_X8_make_195, x_X8_make_197, x_X8_make_200, x_X8_make_202, x_X8_make_205, x_X8_make_206, x_X8_make_209, x_X8_make_210, x_X8_make_213, x_X8_make_214, x_X8_make_215, x_X8_make_218, x_X8_make_219, x_X8_make_220, x_X8_make_221, x_X8_make_224, x_X8_make_225, x_X8_make_228, x_X8_make_230, x_X8_make_233, List.length_cons, List.length_nil, Nat.reduceLeDiff, Nat.zero_add, iI_add, iI_sub, iI_mul, iI_neg, iI_lt, iI_le, iI_eq, jI_iI, B_True, B_False, B_t, B_f, ck_True, gd_True, cb_v, cb_n, p_mv_rw, p_fv_rw, p_rv_some, pA_1, pA_90, pA_92, pA_3, pA_2, pA_93, pA_4, pA_91, pA_95, pS_i, pW_i, pZ_0, pZ_1, pZ_b, bI_e0, u1_s, u1_n, uA_s, uA_n, true_and, and_true, not_true_eq_false, not_false_eq_true, eq_self, iI_z, al1, al2, al3, al4, al90, al91, al92, al93, al95, Int.cast_ofNat_Int, Nat.reduceAdd, Int.reduceNeg, Int.reduceAdd, Int.reduceSub, Int.reduceMul, Int.reduceLT, Int.reduceLE, Int.reduceGT, Int.reduceGE, Int.reduceEq, Int.reduceNe, Nat.reduceEqDiff, Int.zero_add, Int.add_zero, p_ty0, p_ty1, p_ty2, p_ty3, p_ty4, p_ty5, p_ty6, p_ty7, p_ty8, p_ty9, p_ty10, p_ty11, ty127, n10, n12, q0, c7, uA_uA, gd_t, B_t, B_f]
        · rw [if_pos (Or.inr c7)]
          simp (disch := omega) only [x_X8_make_171, x_X8_make_172, x_X8_make_174, x_X8_make_177, x_X8_make_178, x_X8_make_179, x_X8_make_181, x_X8_make_184, x_X8_make_187, x_X8_make_190, x_X8_make_191, x_X8_make_194, x_X8_make_195, x_X8_make_197, x_X8_make_200, x_X8_make_202, x_X8_make_205, x_X8_make_206, x_X8_make_209, x_X8_make_210, x_X8_make_213, x_X8_make_214, x_X8_make_215, x_X8_make_218, x_X8_make_219, x_X8_make_220, x_X8_make_221, x_X8_make_224, x_X8_make_225, x_X8_make_228, x_X8_make_230, x_X8_make_233, List.length_cons, List.length_nil, Nat.reduceLeDiff, Nat.zero_add, iI_add, iI_sub, iI_mul, iI_neg, iI_lt, iI_le, iI_eq, jI_iI, B_True, B_False, B_t, B_f, ck_True, gd_True, cb_v, cb_n, p_mv_rw, p_fv_rw, p_rv_some, pA_1, pA_90, pA_92, pA_3, pA_2, pA_93, pA_4, pA_91, pA_95, pS_i, pW_i, pZ_0, pZ_1, pZ_b, bI_e0, u1_s, u1_n, uA_s, uA_n, true_and, and_true, not_true_eq_false, not_false_eq_true, eq_self, iI_z, al1, al2, al3, al4, al90, al91, al92, al93, al95, Int.cast_ofNat_Int, Nat.reduceAdd, Int.reduceNeg, Int.reduceAdd, Int.reduceSub, Int.reduceMul, Int.reduceLT, Int.reduceLE, Int.reduceGT, Int.reduceGE, Int.reduceEq, Int.reduceNe, Nat.reduceEqDiff, Int.zero_add, Int.add_zero, p_ty0, p_ty1, p_ty2, p_ty3, p_ty4, p_ty5, p_ty6, p_ty7, p_ty8, p_ty9, p_ty10, p_ty11, ty127, n10, n12, q9, uA_uA, gd_t, B_t, B_f]
  · rw [mo lg1 (by omega) (Ne.symm e1)]
    exact ⟨⟨g0, g1, g2, g3, g4, g5, g6⟩, L1⟩
  · rw [List.length_cons]; exact l1
  · rw [m2, u1_n (by omega), u1_n (by omega), u1_n (by omega), List.length_cons]; omega
  · unfold YG at hG1 ⊢
    rw [mo 129 (by omega) (by omega), mo 130 (by omega) (by omega), mo 131 (by omega) (by omega), mo 132 (by omega) (by omega), mo 133 (by omega) (by omega)]
    exact hG1
  · rw [hM2, uA_n (by omega), uA_s]
  · rw [m2, u1_s]
  · rw [m2, u1_n (by omega), u1_n (by omega), u1_s]
  · rw [m2, u1_n (by omega), u1_s]
  · intro j j1 j2 j3 j4
    rw [m2, u1_n j1, u1_n j3, u1_n j2, m127, u1_n j4]
  · intro a ha hx hl
    rw [mo a (fun z => hx (Or.inl z)) (fun z => hx (Or.inr z))]
    exact C1.2.1 a ha (fun z => hx (Or.inl z)) hl
end PMKM
