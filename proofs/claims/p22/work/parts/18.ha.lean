section PHA
variable {d : Nat} {T : pT} {M : pM} {F : pF} {b g : Nat} {bb : Int → Int} {p s k x c n t pas q : Int}
theorem c_attR (hB : BT T F b) (hR : RB M b bb) (hd : 2 ≤ d) (hk : 0 ≤ k ∧ k < 91) (hs : s = 0 ∨ s = 1) :
    callD d m_X0_attackers [.ref b, .int (iI (q_pl k)), .int (iI s)] T M F = some (.inl (some (.int (iI (m_att bb k s)))), T, M, F) := by
  have hq := q_pl_nn hk
  rw [c_att hB hR.1 hd (by omega) hs, e_att hR.2.1 hR.2.2.1 hk hs]
theorem c_kingR (hB : BT T F b) (hR : RB M b bb) (hd : 1 ≤ d) (hs : s = 0 ∨ s = 1) :
    callD d m_X0_kingOf [.ref b, .int (iI s)] T M F = some (.inl (some (.int (iI (q_pp (m_king bb s))))), T, M, F) := by
  rw [c_kingOf hB hd hs]
  rcases hs with rfl | rfl
  · exact ri hR.2.2.2.1.king
  · exact ri hR.2.2.2.2.king
theorem c_onR (hB : BT T F b) (hR : RB M b bb) (hd : 1 ≤ d) (hk : 0 ≤ k ∧ k < 91) :
    callD d m_X0_on [.ref b, .int (iI (q_pl k))] T M F = some (.inl (some (.int (iI (cv (bb k))))), T, M, F) := by
  have hq := q_pl_nn hk
  rw [c_on hB hd (by omega), hR.2.1.pl hR.2.2.1 hk]
theorem q_pp_rg (h : -1 ≤ pas ∧ pas < 91) : -1 ≤ q_pp pas ∧ q_pp pas ≤ 229 := by
  unfold q_pp
  split
  · omega
  · have := q_pl_nn (k := pas) (by omega); omega
theorem q_pp_cel (h : -1 ≤ pas ∧ pas < 91) : q_cel (q_pp pas) = pas := by
  unfold q_pp
  split
  · rename_i e; rw [e]; rfl
  · exact geo1 (by omega)
theorem q_pp_n (h : -1 ≤ pas ∧ pas < 91) : q_pp pas = -1 ↔ pas = -1 := by
  unfold q_pp
  split
  · exact ⟨fun _ => by assumption, fun _ => rfl⟩
  · have := q_pl_nn (k := pas) (by omega); omega
theorem c_valueOn (hG : GT T F g) (hR : RB M (g + 1) bb) (hd : 2 ≤ d) (hk : 0 ≤ k ∧ k < 91) :
    callD d m_X1_valueOn [.ref g, .int (iI k)] T M F = some (.inl (some (.int (iI (cv (bb k))))), T, M, F) := by
  obtain ⟨hg, t0, f0, hB, -⟩ := hG
  have hb0 := hB.2.1
  refine callD_go 1 hd rfl (fun e he => ?_)
  show R e m_X1_valueOn 0 [.val (.ref g), .val (.int (iI k))] [] T M F = _
  simp (disch := omega) only [x_X1_valueOn_0, x_X1_valueOn_1, x_X1_valueOn_4, x_X1_valueOn_5, x_X1_valueOn_8, x_X1_valueOn_11, List.length_cons, List.length_nil, Nat.reduceLeDiff, Nat.zero_add, iI_add, iI_sub, iI_mul, iI_neg, iI_lt, iI_le, iI_eq, jI_iI, B_True, B_False, B_t, B_f, ck_True, gd_True, cb_v, cb_n, p_mv_rw, p_fv_rw, p_rv_some, pA_1, pA_90, pA_92, pA_3, pA_5, pA_93, pA_4, pA_91, pA_6, pS_i, pB_i, pW_i, pZ_0, pZ_1, pZ_b, bI_e0, u1_s, u1_n, uA_s, uA_n, true_and, and_true, not_true_eq_false, not_false_eq_true, eq_self, iI_z, al1, al5, al3, al4, al90, al91, al92, al93, al6, Int.cast_ofNat_Int, Nat.reduceAdd, Int.reduceNeg, Int.reduceAdd, Int.reduceSub, Int.reduceMul, Int.reduceLT, Int.reduceLE, Int.reduceGT, Int.reduceGE, Int.reduceEq, Int.reduceNe, Nat.reduceEqDiff, Int.zero_add, Int.add_zero, p_ty0, p_ty1, p_ty2, p_ty3, p_ty4, p_ty5, p_ty8, p_ty9, p_ty10, t0, f0, hb0, c_placeOf, c_onR hB hR, gd_t]
theorem c_attackersOf (hG : GT T F g) (hR : RB M (g + 1) bb) (hd : 3 ≤ d) (hk : 0 ≤ k ∧ k < 91) (hs : s = 0 ∨ s = 1) :
    callD d m_X1_attackersOf [.ref g, .int (iI k), .int (iI s)] T M F = some (.inl (some (.int (iI (m_att bb k s)))), T, M, F) := by
  obtain ⟨hg, t0, f0, hB, -⟩ := hG
  have hb0 := hB.2.1
  refine callD_go 2 hd rfl (fun e he => ?_)
  show R e m_X1_attackersOf 0 [.val (.ref g), .val (.int (iI k)), .val (.int (iI s))] [] T M F = _
  simp (disch := omega) only [x_X1_attackersOf_0, x_X1_attackersOf_1, x_X1_attackersOf_4, x_X1_attackersOf_5, x_X1_attackersOf_8, x_X1_attackersOf_9, x_X1_attackersOf_12, List.length_cons, List.length_nil, Nat.reduceLeDiff, Nat.zero_add, iI_add, iI_sub, iI_mul, iI_neg, iI_lt, iI_le, iI_eq, jI_iI, B_True, B_False, B_t, B_f, ck_True, gd_True, cb_v, cb_n, p_mv_rw, p_fv_rw, p_rv_some, pA_1, pA_90, pA_92, pA_3, pA_5, pA_93, pA_4, pA_91, pA_6, pS_i, pB_i, pW_i, pZ_0, pZ_1, pZ_b, bI_e0, u1_s, u1_n, uA_s, uA_n, true_and, and_true, not_true_eq_false, not_false_eq_true, eq_self, iI_z, al1, al5, al3, al4, al90, al91, al92, al93, al6, Int.cast_ofNat_Int, Nat.reduceAdd, Int.reduceNeg, Int.reduceAdd, Int.reduceSub, Int.reduceMul, Int.reduceLT, Int.reduceLE, Int.reduceGT, Int.reduceGE, Int.reduceEq, Int.reduceNe, Nat.reduceEqDiff, Int.zero_add, Int.add_zero, p_ty0, p_ty1, p_ty2, p_ty3, p_ty4, p_ty5, p_ty8, p_ty9, p_ty10, t0, f0, hb0, c_placeOf, c_attR hB hR, gd_t]
theorem c_hasKing (hG : GT T F g) (hR : RB M (g + 1) bb) (hd : 2 ≤ d) (hs : s = 0 ∨ s = 1) :
    callD d m_X1_hasKing [.ref g, .int (iI s)] T M F = some (.inl (some (.int (iI (bI (m_king bb s ≠ -1))))), T, M, F) := by
  obtain ⟨hg, t0, f0, hB, -⟩ := hG
  have hb0 := hB.2.1
  refine callD_go 1 hd rfl (fun e he => ?_)
  show R e m_X1_hasKing 0 [.val (.ref g), .val (.int (iI s))] [] T M F = _
  have hkr := m_king_rg bb s
  have h1 := q_pp_rg (pas := m_king bb s) (by omega)
  have h2 := q_pp_n (pas := m_king bb s) (by omega)
  repeat' (first | (refine B_splitn (fun _ => ?_) (fun _ => ?_)) | (refine B_split (fun _ => ?_) (fun _ => ?_)) | (simp (disch := omega) only [x_X1_hasKing_0, x_X1_hasKing_1, x_X1_hasKing_4, x_X1_hasKing_5, x_X1_hasKing_8, x_X1_hasKing_9, x_X1_hasKing_12, x_X1_hasKing_13, x_X1_hasKing_16, x_X1_hasKing_17, List.length_cons, List.length_nil, Nat.reduceLeDiff, Nat.zero_add, iI_add, iI_sub, iI_mul, iI_neg, iI_lt, iI_le, iI_eq, jI_iI, B_True, B_False, B_t, B_f, ck_True, gd_True, cb_v, cb_n, p_mv_rw, p_fv_rw, p_rv_some, pA_1, pA_90, pA_92, pA_3, pA_5, pA_93, pA_4, pA_91, pA_6, pS_i, pB_i, pW_i, pZ_0, pZ_1, pZ_b, bI_e0, u1_s, u1_n, uA_s, uA_n, true_and, and_true, not_true_eq_false, not_false_eq_true, eq_self, iI_z, al1, al5, al3, al4, al90, al91, al92, al93, al6, Int.cast_ofNat_Int, Nat.reduceAdd, Int.reduceNeg, Int.reduceAdd, Int.reduceSub, Int.reduceMul, Int.reduceLT, Int.reduceLE, Int.reduceGT, Int.reduceGE, Int.reduceEq, Int.reduceNe, Nat.reduceEqDiff, Int.zero_add, Int.add_zero, p_ty0, p_ty1, p_ty2, p_ty3, p_ty4, p_ty5, p_ty8, p_ty9, p_ty10, t0, f0, hb0, c_kingR hB hR, gd_t]))
  all_goals first | exact rb1 (by omega) | exact rb0 (by omega)
theorem c_passingCell (hG : GT T F g) (hS : GS M g bb t pas q) (hd : 4 ≤ d) :
    callD d m_X1_passingCell [.ref g] T M F = some (.inl (some (.int (iI pas))), T, M, F) := by
  obtain ⟨hg, t0, f0, hB, -⟩ := hG
  obtain ⟨hR, s1, s2, s3, s4, s5, s6⟩ := hS
  refine callD_go 3 hd rfl (fun e he => ?_)
  show R e m_X1_passingCell 0 [.val (.ref g)] [] T M F = _
  have h1 := q_pp_rg (pas := pas) (by omega)
  have h2 := q_pp_cel (pas := pas) (by omega)
  simp (disch := omega) only [x_X1_passingCell_0, x_X1_passingCell_1, x_X1_passingCell_4, x_X1_passingCell_7, List.length_cons, List.length_nil, Nat.reduceLeDiff, Nat.zero_add, iI_add, iI_sub, iI_mul, iI_neg, iI_lt, iI_le, iI_eq, jI_iI, B_True, B_False, B_t, B_f, ck_True, gd_True, cb_v, cb_n, p_mv_rw, p_fv_rw, p_rv_some, pA_1, pA_90, pA_92, pA_3, pA_5, pA_93, pA_4, pA_91, pA_6, pS_i, pB_i, pW_i, pZ_0, pZ_1, pZ_b, bI_e0, u1_s, u1_n, uA_s, uA_n, true_and, and_true, not_true_eq_false, not_false_eq_true, eq_self, iI_z, al1, al5, al3, al4, al90, al91, al92, al93, al6, Int.cast_ofNat_Int, Nat.reduceAdd, Int.reduceNeg, Int.reduceAdd, Int.reduceSub, Int.reduceMul, Int.reduceLT, Int.reduceLE, Int.reduceGT, Int.reduceGE, Int.reduceEq, Int.reduceNe, Nat.reduceEqDiff, Int.zero_add, Int.add_zero, p_ty0, p_ty1, p_ty2, p_ty3, p_ty4, p_ty5, p_ty8, p_ty9, p_ty10, t0, f0, s3, c_cel, h2, gd_t]
theorem c_playable (hG : GT T F g) (hS : GS M g bb t pas q) (hd : 3 ≤ d) :
    callD d m_X1_isPlayable [.ref g] T M F = some (.inl (some (.int (iI (bI (m_ply bb t))))), T, M, F) := by
  have hG' := hG
  obtain ⟨hg, t0, f0, hB, -⟩ := hG
  obtain ⟨hR, s1, s2, s3, s4, s5, s6⟩ := hS
  have hb0 := hB.2.1
  refine callD_go 2 hd rfl (fun e he => ?_)
  show R e m_X1_isPlayable 0 [.val (.ref g)] [] T M F = _
  have hs1 : 1 - t = 0 ∨ 1 - t = 1 := by omega
  have hk := m_king_rg bb (1 - t)
  have ha := m_att_rg bb (m_king bb (1 - t)) t
  have e11 : 1 - (1 - t) = t := by omega
  simp (disch := omega) only [x_X1_isPlayable_0, x_X1_isPlayable_1, x_X1_isPlayable_2, x_X1_isPlayable_5, x_X1_isPlayable_8, x_X1_isPlayable_9, x_X1_isPlayable_10, x_X1_isPlayable_13, x_X1_isPlayable_16, x_X1_isPlayable_17, x_X1_isPlayable_20, x_X1_isPlayable_21, x_X1_isPlayable_24, x_X1_isPlayable_25, x_X1_isPlayable_26, x_X1_isPlayable_29, x_X1_isPlayable_30, x_X1_isPlayable_33, x_X1_isPlayable_34, x_X1_isPlayable_37, x_X1_isPlayable_40, x_X1_isPlayable_43, x_X1_isPlayable_44, x_X1_isPlayable_47, x_X1_isPlayable_48, List.length_cons, List.length_nil, Nat.reduceLeDiff, Nat.zero_add, iI_add, iI_sub, iI_mul, iI_neg, iI_lt, iI_le, iI_eq, jI_iI, B_True, B_False, B_t, B_f, ck_True, gd_True, cb_v, cb_n, p_mv_rw, p_fv_rw, p_rv_some, pA_1, pA_90, pA_92, pA_3, pA_5, pA_93, pA_4, pA_91, pA_6, pS_i, pB_i, pW_i, pZ_0, pZ_1, pZ_b, bI_e0, u1_s, u1_n, uA_s, uA_n, true_and, and_true, not_true_eq_false, not_false_eq_true, eq_self, iI_z, al1, al5, al3, al4, al90, al91, al92, al93, al6, Int.cast_ofNat_Int, Nat.reduceAdd, Int.reduceNeg, Int.reduceAdd, Int.reduceSub, Int.reduceMul, Int.reduceLT, Int.reduceLE, Int.reduceGT, Int.reduceGE, Int.reduceEq, Int.reduceNe, Nat.reduceEqDiff, Int.zero_add, Int.add_zero, p_ty0, p_ty1, p_ty2, p_ty3, p_ty4, p_ty5, p_ty8, p_ty9, p_ty10, t0, f0, hb0, s1, c_hasKing hG' hR, gd_t]
  refine B_splitn (fun h1 => ?_) (fun h1 => ?_)
  · simp (disch := omega) only [x_X1_isPlayable_0, x_X1_isPlayable_1, x_X1_isPlayable_2, x_X1_isPlayable_5, x_X1_isPlayable_8, x_X1_isPlayable_9, x_X1_isPlayable_10, x_X1_isPlayable_13, x_X1_isPlayable_16, x_X1_isPlayable_17, x_X1_isPlayable_20, x_X1_isPlayable_21, x_X1_isPlayable_24, x_X1_isPlayable_25, x_X1_isPlayable_26, x_X1_isPlayable_29, x_X1_isPlayable_30, x_X1_isPlayable_33, x_X1_isPlayable_34, x_X1_isPlayable_37, x_X1_isPlayable_40, x_X1_isPlayable_43, x_X1_isPlayable_44, x_X1_isPlayable_47, x_X1_isPlayable_48, List.length_cons, List.length_nil, Nat.reduceLeDiff, Nat.zero_add, iI_add, iI_sub, iI_mul, iI_neg, iI_lt, iI_le, iI_eq, jI_iI, B_True, B_False, B_t, B_f, ck_True, gd_True, cb_v, cb_n, p_mv_rw, p_fv_rw, p_rv_some, pA_1, pA_90, pA_92, pA_3, pA_5, pA_93, pA_4, pA_91, pA_6, pS_i, pB_i, pW_i, pZ_0, pZ_1, pZ_b, bI_e0, u1_s, u1_n, uA_s, uA_n, true_and, and_true, not_true_eq_false, not_false_eq_true, eq_self, iI_z, al1, al5, al3, al4, al90, al91, al92, al93, al6, Int.cast_ofNat_Int, Nat.reduceAdd, Int.reduceNeg, Int.reduceAdd, Int.reduceSub, Int.reduceMul, Int.reduceLT, Int.reduceLE, Int.reduceGT, Int.reduceGE, Int.reduceEq, Int.reduceNe, Nat.reduceEqDiff, Int.zero_add, Int.add_zero, p_ty0, p_ty1, p_ty2, p_ty3, p_ty4, p_ty5, p_ty8, p_ty9, p_ty10]
    exact rb0 (fun z => h1 z.1)
  simp (disch := omega) only [x_X1_isPlayable_0, x_X1_isPlayable_1, x_X1_isPlayable_2, x_X1_isPlayable_5, x_X1_isPlayable_8, x_X1_isPlayable_9, x_X1_isPlayable_10, x_X1_isPlayable_13, x_X1_isPlayable_16, x_X1_isPlayable_17, x_X1_isPlayable_20, x_X1_isPlayable_21, x_X1_isPlayable_24, x_X1_isPlayable_25, x_X1_isPlayable_26, x_X1_isPlayable_29, x_X1_isPlayable_30, x_X1_isPlayable_33, x_X1_isPlayable_34, x_X1_isPlayable_37, x_X1_isPlayable_40, x_X1_isPlayable_43, x_X1_isPlayable_44, x_X1_isPlayable_47, x_X1_isPlayable_48, List.length_cons, List.length_nil, Nat.reduceLeDiff, Nat.zero_add, iI_add, iI_sub, iI_mul, iI_neg, iI_lt, iI_le, iI_eq, jI_iI, B_True, B_False, B_t, B_f, ck_True, gd_True, cb_v, cb_n, p_mv_rw, p_fv_rw, p_rv_some, pA_1, pA_90, pA_92, pA_3, pA_5, pA_93, pA_4, pA_91, pA_6, pS_i, pB_i, pW_i, pZ_0, pZ_1, pZ_b, bI_e0, u1_s, u1_n, uA_s, uA_n, true_and, and_true, not_true_eq_false, not_false_eq_true, eq_self, iI_z, al1, al5, al3, al4, al90, al91, al92, al93, al6, Int.cast_ofNat_Int, Nat.reduceAdd, Int.reduceNeg, Int.reduceAdd, Int.reduceSub, Int.reduceMul, Int.reduceLT, Int.reduceLE, Int.reduceGT, Int.reduceGE, Int.reduceEq, Int.reduceNe, Nat.reduceEqDiff, Int.zero_add, Int.add_zero, p_ty0, p_ty1, p_ty2, p_ty3, p_ty4, p_ty5, p_ty8, p_ty9, p_ty10, t0, f0, hb0, s1, c_hasKing hG' hR, gd_t]
  refine B_splitn (fun h2 => ?_) (fun h2 => ?_)
  · simp (disch := omega) only [x_X1_isPlayable_0, x_X1_isPlayable_1, x_X1_isPlayable_2, x_X1_isPlayable_5, x_X1_isPlayable_8, x_X1_isPlayable_9, x_X1_isPlayable_10, x_X1_isPlayable_13, x_X1_isPlayable_16, x_X1_isPlayable_17, x_X1_isPlayable_20, x_X1_isPlayable_21, x_X1_isPlayable_24, x_X1_isPlayable_25, x_X1_isPlayable_26, x_X1_isPlayable_29, x_X1_isPlayable_30, x_X1_isPlayable_33, x_X1_isPlayable_34, x_X1_isPlayable_37, x_X1_isPlayable_40, x_X1_isPlayable_43, x_X1_isPlayable_44, x_X1_isPlayable_47, x_X1_isPlayable_48, List.length_cons, List.length_nil, Nat.reduceLeDiff, Nat.zero_add, iI_add, iI_sub, iI_mul, iI_neg, iI_lt, iI_le, iI_eq, jI_iI, B_True, B_False, B_t, B_f, ck_True, gd_True, cb_v, cb_n, p_mv_rw, p_fv_rw, p_rv_some, pA_1, pA_90, pA_92, pA_3, pA_5, pA_93, pA_4, pA_91, pA_6, pS_i, pB_i, pW_i, pZ_0, pZ_1, pZ_b, bI_e0, u1_s, u1_n, uA_s, uA_n, true_and, and_true, not_true_eq_false, not_false_eq_true, eq_self, iI_z, al1, al5, al3, al4, al90, al91, al92, al93, al6, Int.cast_ofNat_Int, Nat.reduceAdd, Int.reduceNeg, Int.reduceAdd, Int.reduceSub, Int.reduceMul, Int.reduceLT, Int.reduceLE, Int.reduceGT, Int.reduceGE, Int.reduceEq, Int.reduceNe, Nat.reduceEqDiff, Int.zero_add, Int.add_zero, p_ty0, p_ty1, p_ty2, p_ty3, p_ty4, p_ty5, p_ty8, p_ty9, p_ty10]
    exact rb0 (fun z => h2 z.2.1)
  have hkn : m_king bb (1 - t) ≠ -1 := by rcases s4 with rfl | rfl <;> assumption
  have hpp : q_pp (m_king bb (1 - t)) = q_pl (m_king bb (1 - t)) := if_neg hkn
  repeat' (first | (refine B_splitn (fun _ => ?_) (fun _ => ?_)) | (refine B_split (fun _ => ?_) (fun _ => ?_)) | (simp (disch := omega) only [x_X1_isPlayable_0, x_X1_isPlayable_1, x_X1_isPlayable_2, x_X1_isPlayable_5, x_X1_isPlayable_8, x_X1_isPlayable_9, x_X1_isPlayable_10, x_X1_isPlayable_13, x_X1_isPlayable_16, x_X1_isPlayable_17, x_X1_isPlayable_20, x_X1_isPlayable_21, x_X1_isPlayable_24, x_X1_isPlayable_25, x_X1_isPlayable_26, x_X1_isPlayable_29, x_X1_isPlayable_30, x_X1_isPlayable_33, x_X1_isPlayable_34, x_X1_isPlayable_37, x_X1_isPlayable_40, x_X1_isPlayable_43, x_X1_isPlayable_44, x_X1_isPlayable_47, x_X1_isPlayable_48, List.length_cons, List.length_nil, Nat.reduceLeDiff, Nat.zero_add, iI_add, iI_sub, iI_mul, iI_neg, iI_lt, iI_le, iI_eq, jI_iI, B_True, B_False, B_t, B_f, ck_True, gd_True, cb_v, cb_n, p_mv_rw, p_fv_rw, p_rv_some, pA_1, pA_90, pA_92, pA_3, pA_5, pA_93, pA_4, pA_91, pA_6, pS_i, pB_i, pW_i, pZ_0, pZ_1, pZ_b, bI_e0, u1_s, u1_n, uA_s, uA_n, true_and, and_true, not_true_eq_false, not_false_eq_true, eq_self, iI_z, al1, al5, al3, al4, al90, al91, al92, al93, al6, Int.cast_ofNat_Int, Nat.reduceAdd, Int.reduceNeg, Int.reduceAdd, Int.reduceSub, Int.reduceMul, Int.reduceLT, Int.reduceLE, Int.reduceGT, Int.reduceGE, Int.reduceEq, Int.reduceNe, Nat.reduceEqDiff, Int.zero_add, Int.add_zero, p_ty0, p_ty1, p_ty2, p_ty3, p_ty4, p_ty5, p_ty8, p_ty9, p_ty10, t0, f0, hb0, s1, c_kingR hB hR, hpp, c_attR hB hR, gd_t]))
  all_goals first
    | exact rb1 ⟨h1, h2, by unfold m_chk; rw [e11]; omega⟩
    | exact rb0 (fun z => by have z3 := z.2.2; unfold m_chk at z3; rw [e11] at z3; omega)
theorem c_isAttacked (hG : GT T F g) (hR : RB M (g + 1) bb) (hd : 3 ≤ d) (hs : s = 0 ∨ s = 1) (hk : m_king bb s ≠ -1) :
    callD d m_X1_isAttacked [.ref g, .int (iI s)] T M F = some (.inl (some (.int (iI (bI (m_chk bb s))))), T, M, F) := by
  obtain ⟨hg, t0, f0, hB, -⟩ := hG
  have hb0 := hB.2.1
  refine callD_go 2 hd rfl (fun e he => ?_)
  show R e m_X1_isAttacked 0 [.val (.ref g), .val (.int (iI s))] [] T M F = _
  have hs1 : 1 - s = 0 ∨ 1 - s = 1 := by omega
  have hkr := m_king_rg bb s
  have ha := m_att_rg bb (m_king bb s) (1 - s)
  have hpp : q_pp (m_king bb s) = q_pl (m_king bb s) := if_neg hk
  repeat' (first | (refine B_splitn (fun _ => ?_) (fun _ => ?_)) | (refine B_split (fun _ => ?_) (fun _ => ?_)) | (simp (disch := omega) only [x_X1_isAttacked_0, x_X1_isAttacked_1, x_X1_isAttacked_4, x_X1_isAttacked_5, x_X1_isAttacked_8, x_X1_isAttacked_9, x_X1_isAttacked_12, x_X1_isAttacked_13, x_X1_isAttacked_14, x_X1_isAttacked_15, x_X1_isAttacked_18, x_X1_isAttacked_21, x_X1_isAttacked_22, x_X1_isAttacked_25, x_X1_isAttacked_26, List.length_cons, List.length_nil, Nat.reduceLeDiff, Nat.zero_add, iI_add, iI_sub, iI_mul, iI_neg, iI_lt, iI_le, iI_eq, jI_iI, B_True, B_False, B_t, B_f, ck_True, gd_True, cb_v, cb_n, p_mv_rw, p_fv_rw, p_rv_some, pA_1, pA_90, pA_92, pA_3, pA_5, pA_93, pA_4, pA_91, pA_6, pS_i, pB_i, pW_i, pZ_0, pZ_1, pZ_b, bI_e0, u1_s, u1_n, uA_s, uA_n, true_and, and_true, not_true_eq_false, not_false_eq_true, eq_self, iI_z, al1, al5, al3, al4, al90, al91, al92, al93, al6, Int.cast_ofNat_Int, Nat.reduceAdd, Int.reduceNeg, Int.reduceAdd, Int.reduceSub, Int.reduceMul, Int.reduceLT, Int.reduceLE, Int.reduceGT, Int.reduceGE, Int.reduceEq, Int.reduceNe, Nat.reduceEqDiff, Int.zero_add, Int.add_zero, p_ty0, p_ty1, p_ty2, p_ty3, p_ty4, p_ty5, p_ty8, p_ty9, p_ty10, t0, f0, hb0, c_kingR hB hR, hpp, c_attR hB hR, gd_t]))
  all_goals first | exact rb1 (by unfold m_chk; omega) | exact rb0 (by unfold m_chk; omega)
theorem c_startAnew (hG : GT T F g) (hd : 1 ≤ d) :
    callD d m_X1_startAnew [.ref g] T M F = some (.inl none, T, uA M g (u1 (u1 (u1 (u1 (M g) 2 0) 3 (-1)) 5 0) 8 0), F) := by
  obtain ⟨hg, t0, f0, hB, -⟩ := hG
  refine callD_go 0 hd rfl (fun e he => ?_)
  show R e m_X1_startAnew 0 [.val (.ref g)] [] T M F = _
  simp (disch := omega) only [x_X1_startAnew_0, x_X1_startAnew_1, x_X1_startAnew_2, x_X1_startAnew_5, x_X1_startAnew_6, x_X1_startAnew_7, x_X1_startAnew_10, x_X1_startAnew_11, x_X1_startAnew_12, x_X1_startAnew_15, x_X1_startAnew_16, x_X1_startAnew_17, x_X1_startAnew_20, List.length_cons, List.length_nil, Nat.reduceLeDiff, Nat.zero_add, iI_add, iI_sub, iI_mul, iI_neg, iI_lt, iI_le, iI_eq, jI_iI, B_True, B_False, B_t, B_f, ck_True, gd_True, cb_v, cb_n, p_mv_rw, p_fv_rw, p_rv_some, pA_1, pA_90, pA_92, pA_3, pA_5, pA_93, pA_4, pA_91, pA_6, pS_i, pB_i, pW_i, pZ_0, pZ_1, pZ_b, bI_e0, u1_s, u1_n, uA_s, uA_n, true_and, and_true, not_true_eq_false, not_false_eq_true, eq_self, iI_z, al1, al5, al3, al4, al90, al91, al92, al93, al6, Int.cast_ofNat_Int, Nat.reduceAdd, Int.reduceNeg, Int.reduceAdd, Int.reduceSub, Int.reduceMul, Int.reduceLT, Int.reduceLE, Int.reduceGT, Int.reduceGE, Int.reduceEq, Int.reduceNe, Nat.reduceEqDiff, Int.zero_add, Int.add_zero, p_ty0, p_ty1, p_ty2, p_ty3, p_ty4, p_ty5, p_ty8, p_ty9, p_ty10, t0, f0, uA_uA]
end PHA
