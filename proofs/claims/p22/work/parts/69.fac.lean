section PFAC
variable {d g G1 G2 : Nat} {T : pT} {M M0 M1 M2 : pM} {F F1 : pF} {bb bs : Int → Int} {t pas q its to as p z n i c s x er ea k a b : Int} {S S1 : GSx} {D : Nat} {m : pC} {v : List Value}
/-- the facts of a cell -/
noncomputable def z_fac (S : GSx) (c what : Int) : Int :=
  if what = 0 then S.1 c % 10 else if what = 1 then m_side (S.1 c) else if what = 2 then (gx c - gy c + 30) % 3 else if what = 3 then cntF c (lgQ S.1 S.2.1 S.2.2.1 S.2.2.2.1) else if what = 4 then m_att S.1 c 0 else m_att S.1 c 1
theorem c_factOf (hT : XT T F G1 G2) (hS : XS M G1 G2 S ea bs z) (hn : 0 ≤ n ∧ n ≤ 5) (hc : 0 ≤ c ∧ c < 91) : ∃ M', (∀ d, 9 ≤ d → callD d m_X7_factOf [.ref 100, .int (iI c), .int (iI n)] T M F = some (.inl (some (.int (iI (z_fac S c n)))), T, M', F)) ∧ XS M' G1 G2 S ea bs z ∧ FX M M' F F := by
  obtain ⟨x0, ⟨x1, x2, x3, x4, x5, x6⟩, xt, xr, xc, xw, xg, xg2, hg⟩ := id hT
  have hA := hS.1
  have hB := hA.gs
  have t0 := xg.2.1
  have g1 := xg.1
  obtain ⟨w1, w2, w3⟩ := cv_facts hB.1.2.2.1 c
  obtain rfl | rfl | rfl | rfl | rfl | rfl : n = 0 ∨ n = 1 ∨ n = 2 ∨ n = 3 ∨ n = 4 ∨ n = 5 := by omega
  · refine ⟨M, fun d hd => ?_, hS, FX.rf⟩
    refine callD_go 8 hd rfl (fun e he => ?_)
    show R e m_X7_factOf 0 [.val (.ref 100), .val (.int (iI c)), .val (.int (iI 0))] [] T M F = _
    rw [x_X7_factOf_0, x_X7_factOf_1]
    show R e m_X7_factOf 36 _ _ _ _ _ = _
    have e1 := c_valueOn (d := e) (T := T) (F := F) xg hB.1 (by omega) hc
    rw [show z_fac S c 0 = S.1 c % 10 from rfl]
    clear hA hS hB hT xg xg2 xw xr xt
    simp (disch := omega) only [x_X7_factOf_36, x_X7_factOf_37, x_X7_factOf_40, x_X7_factOf_41, x_X7_factOf_44, x_X7_factOf_47, List.length_cons, List.length_nil, Nat.reduceLeDiff, Nat.zero_add, iI_add, iI_sub, iI_mul, iI_neg, iI_lt, iI_le, iI_eq, jI_iI, B_True, B_False, B_t, B_f, ck_True, gd_True, cb_v, cb_n, p_mv_rw, p_fv_rw, p_rv_some, pA_1, pA_90, pA_92, pA_3, pA_5, pA_93, pA_4, pA_91, pA_6, pS_i, pB_i, pW_i, pZ_0, pZ_1, pZ_b, bI_e0, u1_s, u1_n, uA_s, uA_n, true_and, and_true, not_true_eq_false, not_false_eq_true, eq_self, iI_z, al1, al5, al3, al4, al90, al91, al92, al93, al6, Int.cast_ofNat_Int, Nat.reduceAdd, Int.reduceNeg, Int.reduceAdd, Int.reduceSub, Int.reduceMul, Int.reduceLT, Int.reduceLE, Int.reduceGT, Int.reduceGE, Int.reduceEq, Int.reduceNe, Nat.reduceEqDiff, Int.zero_add, Int.add_zero, p_ty0, p_ty1, p_ty2, p_ty3, p_ty4, p_ty5, p_ty8, p_ty9, p_ty10, x0, x5, t0, e1, c_kind, w3, gd_t]
  · refine ⟨M, fun d hd => ?_, hS, FX.rf⟩
    refine callD_go 8 hd rfl (fun e he => ?_)
    show R e m_X7_factOf 0 [.val (.ref 100), .val (.int (iI c)), .val (.int (iI 1))] [] T M F = _
    rw [x_X7_factOf_0, x_X7_factOf_1]
    show R e m_X7_factOf 48 _ _ _ _ _ = _
    have e1 := c_valueOn (d := e) (T := T) (F := F) xg hB.1 (by omega) hc
    rw [show z_fac S c 1 = m_side (S.1 c) from rfl]
    clear hA hS hB hT xg xg2 xw xr xt
    simp (disch := omega) only [x_X7_factOf_48, x_X7_factOf_49, x_X7_factOf_52, x_X7_factOf_53, x_X7_factOf_56, x_X7_factOf_59, List.length_cons, List.length_nil, Nat.reduceLeDiff, Nat.zero_add, iI_add, iI_sub, iI_mul, iI_neg, iI_lt, iI_le, iI_eq, jI_iI, B_True, B_False, B_t, B_f, ck_True, gd_True, cb_v, cb_n, p_mv_rw, p_fv_rw, p_rv_some, pA_1, pA_90, pA_92, pA_3, pA_5, pA_93, pA_4, pA_91, pA_6, pS_i, pB_i, pW_i, pZ_0, pZ_1, pZ_b, bI_e0, u1_s, u1_n, uA_s, uA_n, true_and, and_true, not_true_eq_false, not_false_eq_true, eq_self, iI_z, al1, al5, al3, al4, al90, al91, al92, al93, al6, Int.cast_ofNat_Int, Nat.reduceAdd, Int.reduceNeg, Int.reduceAdd, Int.reduceSub, Int.reduceMul, Int.reduceLT, Int.reduceLE, Int.reduceGT, Int.reduceGE, Int.reduceEq, Int.reduceNe, Nat.reduceEqDiff, Int.zero_add, Int.add_zero, p_ty0, p_ty1, p_ty2, p_ty3, p_ty4, p_ty5, p_ty8, p_ty9, p_ty10, x0, x5, t0, e1, c_side, w2, gd_t]
  · refine ⟨M, fun d hd => ?_, hS, FX.rf⟩
    refine callD_go 8 hd rfl (fun e he => ?_)
    show R e m_X7_factOf 0 [.val (.ref 100), .val (.int (iI c)), .val (.int (iI 2))] [] T M F = _
    rw [x_X7_factOf_0, x_X7_factOf_1]
    show R e m_X7_factOf 60 _ _ _ _ _ = _
    have e1 := c_colour (d := e) (T := T) (M := M) (F := F) (by omega) hc
    rw [show z_fac S c 2 = (q_pl c / 17 - 8 - (q_pl c % 17 - 8) + 30) % 3 from rfl]
    clear hA hS hB hT xg xg2 xw xr xt
    simp (disch := omega) only [x_X7_factOf_60, x_X7_factOf_61, x_X7_factOf_64, List.length_cons, List.length_nil, Nat.reduceLeDiff, Nat.zero_add, iI_add, iI_sub, iI_mul, iI_neg, iI_lt, iI_le, iI_eq, jI_iI, B_True, B_False, B_t, B_f, ck_True, gd_True, cb_v, cb_n, p_mv_rw, p_fv_rw, p_rv_some, pA_1, pA_90, pA_92, pA_3, pA_5, pA_93, pA_4, pA_91, pA_6, pS_i, pB_i, pW_i, pZ_0, pZ_1, pZ_b, bI_e0, u1_s, u1_n, uA_s, uA_n, true_and, and_true, not_true_eq_false, not_false_eq_true, eq_self, iI_z, al1, al5, al3, al4, al90, al91, al92, al93, al6, Int.cast_ofNat_Int, Nat.reduceAdd, Int.reduceNeg, Int.reduceAdd, Int.reduceSub, Int.reduceMul, Int.reduceLT, Int.reduceLE, Int.reduceGT, Int.reduceGE, Int.reduceEq, Int.reduceNe, Nat.reduceEqDiff, Int.zero_add, Int.add_zero, p_ty0, p_ty1, p_ty2, p_ty3, p_ty4, p_ty5, p_ty8, p_ty9, p_ty10, e1, gd_t]
  · obtain ⟨M', e1, f1, K1⟩ := c_movesFrom (T := T) (F := F) xg hA.1 hc
    obtain ⟨S1, F1⟩ := hS.mv hT f1 K1.gk
    refine ⟨M', fun d hd => ?_, S1, F1⟩
    refine callD_go 8 hd rfl (fun e he => ?_)
    show R e m_X7_factOf 0 [.val (.ref 100), .val (.int (iI c)), .val (.int (iI 3))] [] T M F = _
    rw [x_X7_factOf_0, x_X7_factOf_1]
    show R e m_X7_factOf 65 _ _ _ _ _ = _
    have e1 := e1 e (by omega)
    rw [show z_fac S c 3 = cntF c (lgQ S.1 S.2.1 S.2.2.1 S.2.2.2.1) from rfl]
    clear hA hS hB hT xg xg2 xw xr xt S1 F1 f1 K1
    simp (disch := omega) only [x_X7_factOf_65, x_X7_factOf_66, x_X7_factOf_69, x_X7_factOf_70, x_X7_factOf_73, List.length_cons, List.length_nil, Nat.reduceLeDiff, Nat.zero_add, iI_add, iI_sub, iI_mul, iI_neg, iI_lt, iI_le, iI_eq, jI_iI, B_True, B_False, B_t, B_f, ck_True, gd_True, cb_v, cb_n, p_mv_rw, p_fv_rw, p_rv_some, pA_1, pA_90, pA_92, pA_3, pA_5, pA_93, pA_4, pA_91, pA_6, pS_i, pB_i, pW_i, pZ_0, pZ_1, pZ_b, bI_e0, u1_s, u1_n, uA_s, uA_n, true_and, and_true, not_true_eq_false, not_false_eq_true, eq_self, iI_z, al1, al5, al3, al4, al90, al91, al92, al93, al6, Int.cast_ofNat_Int, Nat.reduceAdd, Int.reduceNeg, Int.reduceAdd, Int.reduceSub, Int.reduceMul, Int.reduceLT, Int.reduceLE, Int.reduceGT, Int.reduceGE, Int.reduceEq, Int.reduceNe, Nat.reduceEqDiff, Int.zero_add, Int.add_zero, p_ty0, p_ty1, p_ty2, p_ty3, p_ty4, p_ty5, p_ty8, p_ty9, p_ty10, x0, x5, t0, e1, gd_t]
  · refine ⟨M, fun d hd => ?_, hS, FX.rf⟩
    refine callD_go 8 hd rfl (fun e he => ?_)
    show R e m_X7_factOf 0 [.val (.ref 100), .val (.int (iI c)), .val (.int (iI 4))] [] T M F = _
    rw [x_X7_factOf_0, x_X7_factOf_1]
    show R e m_X7_factOf 74 _ _ _ _ _ = _
    have e1 := c_attackersOf (d := e) (T := T) (F := F) xg hB.1 (by omega) hc (s := 0) (Or.inl rfl)
    rw [show z_fac S c 4 = m_att S.1 c 0 from rfl]
    clear hA hS hB hT xg xg2 xw xr xt
    simp (disch := omega) only [x_X7_factOf_74, x_X7_factOf_75, x_X7_factOf_78, x_X7_factOf_79, x_X7_factOf_80, x_X7_factOf_83, List.length_cons, List.length_nil, Nat.reduceLeDiff, Nat.zero_add, iI_add, iI_sub, iI_mul, iI_neg, iI_lt, iI_le, iI_eq, jI_iI, B_True, B_False, B_t, B_f, ck_True, gd_True, cb_v, cb_n, p_mv_rw, p_fv_rw, p_rv_some, pA_1, pA_90, pA_92, pA_3, pA_5, pA_93, pA_4, pA_91, pA_6, pS_i, pB_i, pW_i, pZ_0, pZ_1, pZ_b, bI_e0, u1_s, u1_n, uA_s, uA_n, true_and, and_true, not_true_eq_false, not_false_eq_true, eq_self, iI_z, al1, al5, al3, al4, al90, al91, al92, al93, al6, Int.cast_ofNat_Int, Nat.reduceAdd, Int.reduceNeg, Int.reduceAdd, Int.reduceSub, Int.reduceMul, Int.reduceLT, Int.reduceLE, Int.reduceGT, Int.reduceGE, Int.reduceEq, Int.reduceNe, Nat.reduceEqDiff, Int.zero_add, Int.add_zero, p_ty0, p_ty1, p_ty2, p_ty3, p_ty4, p_ty5, p_ty8, p_ty9, p_ty10, x0, x5, t0, e1, gd_t]
  · refine ⟨M, fun d hd => ?_, hS, FX.rf⟩
    refine callD_go 8 hd rfl (fun e he => ?_)
    show R e m_X7_factOf 0 [.val (.ref 100), .val (.int (iI c)), .val (.int (iI 5))] [] T M F = _
    rw [x_X7_factOf_0, x_X7_factOf_1]
    show R e m_X7_factOf 84 _ _ _ _ _ = _
    have e1 := c_attackersOf (d := e) (T := T) (F := F) xg hB.1 (by omega) hc (s := 1) (Or.inr rfl)
    rw [show z_fac S c 5 = m_att S.1 c 1 from rfl]
    clear hA hS hB hT xg xg2 xw xr xt
    simp (disch := omega) only [x_X7_factOf_84, x_X7_factOf_85, x_X7_factOf_88, x_X7_factOf_89, x_X7_factOf_90, x_X7_factOf_93, List.length_cons, List.length_nil, Nat.reduceLeDiff, Nat.zero_add, iI_add, iI_sub, iI_mul, iI_neg, iI_lt, iI_le, iI_eq, jI_iI, B_True, B_False, B_t, B_f, ck_True, gd_True, cb_v, cb_n, p_mv_rw, p_fv_rw, p_rv_some, pA_1, pA_90, pA_92, pA_3, pA_5, pA_93, pA_4, pA_91, pA_6, pS_i, pB_i, pW_i, pZ_0, pZ_1, pZ_b, bI_e0, u1_s, u1_n, uA_s, uA_n, true_and, and_true, not_true_eq_false, not_false_eq_true, eq_self, iI_z, al1, al5, al3, al4, al90, al91, al92, al93, al6, Int.cast_ofNat_Int, Nat.reduceAdd, Int.reduceNeg, Int.reduceAdd, Int.reduceSub, Int.reduceMul, Int.reduceLT, Int.reduceLE, Int.reduceGT, Int.reduceGE, Int.reduceEq, Int.reduceNe, Nat.reduceEqDiff, Int.zero_add, Int.add_zero, p_ty0, p_ty1, p_ty2, p_ty3, p_ty4, p_ty5, p_ty8, p_ty9, p_ty10, x0, x5, t0, e1, gd_t]
/-- count, cell, at, name of the class: they answer or throw -/
theorem x_count (hW : CW T M F S ea bs z) : (0 ≤ n ∧ n ≤ 10 → XRet T M F m_X7_count [.ref 100, .int (iI n)] 10 (some (.int (iI (z_cnt S z n)))) (fun M' F' => CW T M' F' S ea bs z)) ∧ (-2147483648 ≤ n ∧ n < 2147483648 → ¬ (0 ≤ n ∧ n ≤ 10) → XThr T M F m_X7_count [.ref 100, .int (iI n)] 10 2 (fun M' F' => CW T M' F' S ea bs z)) := by
  have hW' := hW
  obtain ⟨G1, G2, hT, hS⟩ := hW
  have x0 := hT.1
  refine ⟨fun hn => ?_, fun hn hn' => ?_⟩
  · obtain ⟨M', e1, S1, F1⟩ := c_countOf (T := T) (F := F) hT hS hn
    refine ⟨M', F, fun d hd => ?_, ⟨G1, G2, hT, S1⟩, F1⟩
    refine callD_go 9 hd rfl (fun e he => ?_)
    show R e m_X7_count 0 [.val (.ref 100), .val (.int (iI n))] [] T M F = _
    have e1 := e1 e he
    clear S1 F1 hT hS hW'
    simp (disch := omega) only [x_X7_count_0, x_X7_count_1, x_X7_count_4, x_X7_count_5, x_X7_count_7, x_X7_count_10, x_X7_count_20, x_X7_count_21, x_X7_count_22, x_X7_count_25, List.length_cons, List.length_nil, Nat.reduceLeDiff, Nat.zero_add, iI_add, iI_sub, iI_mul, iI_neg, iI_lt, iI_le, iI_eq, jI_iI, B_True, B_False, B_t, B_f, ck_True, gd_True, cb_v, cb_n, p_mv_rw, p_fv_rw, p_rv_some, pA_1, pA_90, pA_92, pA_3, pA_5, pA_93, pA_4, pA_91, pA_6, pS_i, pB_i, pW_i, pZ_0, pZ_1, pZ_b, bI_e0, u1_s, u1_n, uA_s, uA_n, true_and, and_true, not_true_eq_false, not_false_eq_true, eq_self, iI_z, al1, al5, al3, al4, al90, al91, al92, al93, al6, Int.cast_ofNat_Int, Nat.reduceAdd, Int.reduceNeg, Int.reduceAdd, Int.reduceSub, Int.reduceMul, Int.reduceLT, Int.reduceLE, Int.reduceGT, Int.reduceGE, Int.reduceEq, Int.reduceNe, Nat.reduceEqDiff, Int.zero_add, Int.add_zero, p_ty0, p_ty1, p_ty2, p_ty3, p_ty4, p_ty5, p_ty8, p_ty9, p_ty10, x0, e1, gd_t, B_t, B_f]
  · refine ⟨M, fun d hd => ?_, hW', FX.rf⟩
    refine callD_go 9 hd rfl (fun e he => ?_)
    show R e m_X7_count 0 [.val (.ref 100), .val (.int (iI n))] [] T M F = _
    clear hT hS hW'
    by_cases c1 : n < 0
    · simp (disch := omega) only [x_X7_count_0, x_X7_count_1, x_X7_count_4, x_X7_count_5, x_X7_count_7, x_X7_count_10, x_X7_count_20, x_X7_count_21, x_X7_count_22, x_X7_count_25, List.length_cons, List.length_nil, Nat.reduceLeDiff, Nat.zero_add, iI_add, iI_sub, iI_mul, iI_neg, iI_lt, iI_le, iI_eq, jI_iI, B_True, B_False, B_t, B_f, ck_True, gd_True, cb_v, cb_n, p_mv_rw, p_fv_rw, p_rv_some, pA_1, pA_90, pA_92, pA_3, pA_5, pA_93, pA_4, pA_91, pA_6, pS_i, pB_i, pW_i, pZ_0, pZ_1, pZ_b, bI_e0, u1_s, u1_n, uA_s, uA_n, true_and, and_true, not_true_eq_false, not_false_eq_true, eq_self, iI_z, al1, al5, al3, al4, al90, al91, al92, al93, al6, Int.cast_ofNat_Int, Nat.reduceAdd, Int.reduceNeg, Int.reduceAdd, Int.reduceSub, Int.reduceMul, Int.reduceLT, Int.reduceLE, Int.reduceGT, Int.reduceGE, Int.reduceEq, Int.reduceNe, Nat.reduceEqDiff, Int.zero_add, Int.add_zero, p_ty0, p_ty1, p_ty2, p_ty3, p_ty4, p_ty5, p_ty8, p_ty9, p_ty10, x0, gd_t, B_t, B_f]
    · simp (disch := omega) only [x_X7_count_0, x_X7_count_1, x_X7_count_4, x_X7_count_5, x_X7_count_7, x_X7_count_10, x_X7_count_20, x_X7_count_21, x_X7_count_22, x_X7_count_25, List.length_cons, List.length_nil, Nat.reduceLeDiff, Nat.zero_add, iI_add, iI_sub, iI_mul, iI_neg, iI_lt, iI_le, iI_eq, jI_iI, B_True, B_False, B_t, B_f, ck_True, gd_True, cb_v, cb_n, p_mv_rw, p_fv_rw, p_rv_some, pA_1, pA_90, pA_92, pA_3, pA_5, pA_93, pA_4, pA_91, pA_6, pS_i, pB_i, pW_i, pZ_0, pZ_1, pZ_b, bI_e0, u1_s, u1_n, uA_s, uA_n, true_and, and_true, not_true_eq_false, not_false_eq_true, eq_self, iI_z, al1, al5, al3, al4, al90, al91, al92, al93, al6, Int.cast_ofNat_Int, Nat.reduceAdd, Int.reduceNeg, Int.reduceAdd, Int.reduceSub, Int.reduceMul, Int.reduceLT, Int.reduceLE, Int.reduceGT, Int.reduceGE, Int.reduceEq, Int.reduceNe, Nat.reduceEqDiff, Int.zero_add, Int.add_zero, p_ty0, p_ty1, p_ty2, p_ty3, p_ty4, p_ty5, p_ty8, p_ty9, p_ty10, x0, gd_t, B_t, B_f]
theorem x_cell (hW : CW T M F S ea bs z) : (0 ≤ c ∧ c < 91 → 0 ≤ n ∧ n ≤ 5 → XRet T M F m_X7_cell [.ref 100, .int (iI c), .int (iI n)] 10 (some (.int (iI (z_fac S c n)))) (fun M' F' => CW T M' F' S ea bs z)) ∧ (-2147483648 ≤ n ∧ n < 2147483648 → -2147483648 ≤ c ∧ c < 2147483648 → ¬ ((0 ≤ c ∧ c < 91) ∧ 0 ≤ n ∧ n ≤ 5) → XThr T M F m_X7_cell [.ref 100, .int (iI c), .int (iI n)] 10 2 (fun M' F' => CW T M' F' S ea bs z)) := by
  have hW' := hW
  obtain ⟨G1, G2, hT, hS⟩ := hW
  have x0 := hT.1
  refine ⟨fun hc hn => ?_, fun hn hc hn' => ?_⟩
  · obtain ⟨M', e1, S1, F1⟩ := c_factOf (T := T) (F := F) hT hS hn hc
    refine ⟨M', F, fun d hd => ?_, ⟨G1, G2, hT, S1⟩, F1⟩
    refine callD_go 9 hd rfl (fun e he => ?_)
    show R e m_X7_cell 0 [.val (.ref 100), .val (.int (iI c)), .val (.int (iI n))] [] T M F = _
    have e1 := e1 e he
    have e2 := c_isCell (d := e) (T := T) (M := M) (F := F) (k := iI c) (by omega)
    rw [jI_iI (by omega) (by omega), bI_t hc] at e2
    clear S1 F1 hT hS hW'
    simp (disch := omega) only [x_X7_cell_0, x_X7_cell_1, x_X7_cell_4, x_X7_cell_7, x_X7_cell_8, x_X7_cell_11, x_X7_cell_12, x_X7_cell_14, x_X7_cell_17, x_X7_cell_27, x_X7_cell_28, x_X7_cell_29, x_X7_cell_30, x_X7_cell_33, List.length_cons, List.length_nil, Nat.reduceLeDiff, Nat.zero_add, iI_add, iI_sub, iI_mul, iI_neg, iI_lt, iI_le, iI_eq, jI_iI, B_True, B_False, B_t, B_f, ck_True, gd_True, cb_v, cb_n, p_mv_rw, p_fv_rw, p_rv_some, pA_1, pA_90, pA_92, pA_3, pA_5, pA_93, pA_4, pA_91, pA_6, pS_i, pB_i, pW_i, pZ_0, pZ_1, pZ_b, bI_e0, u1_s, u1_n, uA_s, uA_n, true_and, and_true, not_true_eq_false, not_false_eq_true, eq_self, iI_z, al1, al5, al3, al4, al90, al91, al92, al93, al6, Int.cast_ofNat_Int, Nat.reduceAdd, Int.reduceNeg, Int.reduceAdd, Int.reduceSub, Int.reduceMul, Int.reduceLT, Int.reduceLE, Int.reduceGT, Int.reduceGE, Int.reduceEq, Int.reduceNe, Nat.reduceEqDiff, Int.zero_add, Int.add_zero, p_ty0, p_ty1, p_ty2, p_ty3, p_ty4, p_ty5, p_ty8, p_ty9, p_ty10, x0, e1, e2, gd_t, B_t, B_f]
  · refine ⟨M, fun d hd => ?_, hW', FX.rf⟩
    refine callD_go 9 hd rfl (fun e he => ?_)
    show R e m_X7_cell 0 [.val (.ref 100), .val (.int (iI c)), .val (.int (iI n))] [] T M F = _
    have e2 := c_isCell (d := e) (T := T) (M := M) (F := F) (k := iI c) (by omega)
    rw [jI_iI (by omega) (by omega)] at e2
    clear hT hS hW'
    by_cases c1 : 0 ≤ c ∧ c < 91
    · rw [bI_t c1] at e2
      by_cases c2 : n < 0
      · simp (disch := omega) only [x_X7_cell_0, x_X7_cell_1, x_X7_cell_4, x_X7_cell_7, x_X7_cell_8, x_X7_cell_11, x_X7_cell_12, x_X7_cell_14, x_X7_cell_17, x_X7_cell_27, x_X7_cell_28, x_X7_cell_29, x_X7_cell_30, x_X7_cell_33, List.length_cons, List.length_nil, Nat.reduceLeDiff, Nat.zero_add, iI_add, iI_sub, iI_mul, iI_neg, iI_lt, iI_le, iI_eq, jI_iI, B_True, B_False, B_t, B_f, ck_True, gd_True, cb_v, cb_n, p_mv_rw, p_fv_rw, p_rv_some, pA_1, pA_90, pA_92, pA_3, pA_5, pA_93, pA_4, pA_91, pA_6, pS_i, pB_i, pW_i, pZ_0, pZ_1, pZ_b, bI_e0, u1_s, u1_n, uA_s, uA_n, true_and, and_true, not_true_eq_false, not_false_eq_true, eq_self, iI_z, al1, al5, al3, al4, al90, al91, al92, al93, al6, Int.cast_ofNat_Int, Nat.reduceAdd, Int.reduceNeg, Int.reduceAdd, Int.reduceSub, Int.reduceMul, Int.reduceLT, Int.reduceLE, Int.reduceGT, Int.reduceGE, Int.reduceEq, Int.reduceNe, Nat.reduceEqDiff, Int.zero_add, Int.add_zero, p_ty0, p_ty1, p_ty2, p_ty3, p_ty4, p_ty5, p_ty8, p_ty9, p_ty10, x0, e2, gd_t, B_t, B_f]
      · simp (disch := omega) only [x_X7_cell_0, x_X7_cell_1, x_X7_cell_4, x_X7_cell_7, x_X7_cell_8, x_X7_cell_11, x_X7_cell_12, x_X7_cell_14, x_X7_cell_17, x_X7_cell_27, x_X7_cell_28, x_X7_cell_29, x_X7_cell_30, x_X7_cell_33, List.length_cons, List.length_nil, Nat.reduceLeDiff, Nat.zero_add, iI_add, iI_sub, iI_mul, iI_neg, iI_lt, iI_le, iI_eq, jI_iI, B_True, B_False, B_t, B_f, ck_True, gd_True, cb_v, cb_n, p_mv_rw, p_fv_rw, p_rv_some, pA_1, pA_90, pA_92, pA_3, pA_5, pA_93, pA_4, pA_91, pA_6, pS_i, pB_i, pW_i, pZ_0, pZ_1, pZ_b, bI_e0, u1_s, u1_n, uA_s, uA_n, true_and, and_true, not_true_eq_false, not_false_eq_true, eq_self, iI_z, al1, al5, al3, al4, al90, al91, al92, al93, al6, Int.cast_ofNat_Int, Nat.reduceAdd, Int.reduceNeg, Int.reduceAdd, Int.reduceSub, Int.reduceMul, Int.reduceLT, Int.reduceLE, Int.reduceGT, Int.reduceGE, Int.reduceEq, Int.reduceNe, Nat.reduceEqDiff, Int.zero_add, Int.add_zero, p_ty0, p_ty1, p_ty2, p_ty3, p_ty4, p_ty5, p_ty8, p_ty9, p_ty10, x0, e2, gd_t, B_t, B_f]
    · rw [bI_f c1] at e2
      simp (disch := omega) only [x_X7_cell_0, x_X7_cell_1, x_X7_cell_4, x_X7_cell_7, x_X7_cell_8, x_X7_cell_11, x_X7_cell_12, x_X7_cell_14, x_X7_cell_17, x_X7_cell_27, x_X7_cell_28, x_X7_cell_29, x_X7_cell_30, x_X7_cell_33, List.length_cons, List.length_nil, Nat.reduceLeDiff, Nat.zero_add, iI_add, iI_sub, iI_mul, iI_neg, iI_lt, iI_le, iI_eq, jI_iI, B_True, B_False, B_t, B_f, ck_True, gd_True, cb_v, cb_n, p_mv_rw, p_fv_rw, p_rv_some, pA_1, pA_90, pA_92, pA_3, pA_5, pA_93, pA_4, pA_91, pA_6, pS_i, pB_i, pW_i, pZ_0, pZ_1, pZ_b, bI_e0, u1_s, u1_n, uA_s, uA_n, true_and, and_true, not_true_eq_false, not_false_eq_true, eq_self, iI_z, al1, al5, al3, al4, al90, al91, al92, al93, al6, Int.cast_ofNat_Int, Nat.reduceAdd, Int.reduceNeg, Int.reduceAdd, Int.reduceSub, Int.reduceMul, Int.reduceLT, Int.reduceLE, Int.reduceGT, Int.reduceGE, Int.reduceEq, Int.reduceNe, Nat.reduceEqDiff, Int.zero_add, Int.add_zero, p_ty0, p_ty1, p_ty2, p_ty3, p_ty4, p_ty5, p_ty8, p_ty9, p_ty10, x0, e2, gd_t, B_t, B_f]
theorem c_namG (hd : 2 ≤ d) (ha : -2147483648 ≤ a ∧ a < 2147483648) (hb : -2147483648 ≤ b ∧ b < 2147483648) : callD d m_X7_cellNamed [.int (iI a), .int (iI b)] T M F = some (.inl (some (.int (iI (q_nam a b)))), T, M, F) := by
  refine callD_go 1 hd rfl (fun e he => ?_)
  show R e m_X7_cellNamed 0 [.val (.int (iI a)), .val (.int (iI b))] [] T M F = _
  unfold q_nam
  by_cases c1 : a < 0 ∨ 11 ≤ a
  · rw [if_pos c1]
    by_cases c2 : a < 0
    · simp (disch := omega) only [x_X7_cellNamed_0, x_X7_cellNamed_1, x_X7_cellNamed_4, x_X7_cellNamed_5, x_X7_cellNamed_8, x_X7_cellNamed_9, x_X7_cellNamed_12, x_X7_cellNamed_13, x_X7_cellNamed_14, x_X7_cellNamed_15, x_X7_cellNamed_16, x_X7_cellNamed_19, x_X7_cellNamed_20, x_X7_cellNamed_21, x_X7_cellNamed_24, x_X7_cellNamed_27, x_X7_cellNamed_28, x_X7_cellNamed_31, x_X7_cellNamed_34, x_X7_cellNamed_35, x_X7_cellNamed_36, x_X7_cellNamed_37, x_X7_cellNamed_38, x_X7_cellNamed_39, x_X7_cellNamed_40, List.length_cons, List.length_nil, Nat.reduceLeDiff, Nat.zero_add, iI_add, iI_sub, iI_mul, iI_neg, iI_lt, iI_le, iI_eq, jI_iI, B_True, B_False, B_t, B_f, ck_True, gd_True, cb_v, cb_n, p_mv_rw, p_fv_rw, p_rv_some, pA_1, pA_90, pA_92, pA_3, pA_5, pA_93, pA_4, pA_91, pA_6, pS_i, pB_i, pW_i, pZ_0, pZ_1, pZ_b, bI_e0, u1_s, u1_n, uA_s, uA_n, true_and, and_true, not_true_eq_false, not_false_eq_true, eq_self, iI_z, al1, al5, al3, al4, al90, al91, al92, al93, al6, Int.cast_ofNat_Int, Nat.reduceAdd, Int.reduceNeg, Int.reduceAdd, Int.reduceSub, Int.reduceMul, Int.reduceLT, Int.reduceLE, Int.reduceGT, Int.reduceGE, Int.reduceEq, Int.reduceNe, Nat.reduceEqDiff, Int.zero_add, Int.add_zero, p_ty0, p_ty1, p_ty2, p_ty3, p_ty4, p_ty5, p_ty8, p_ty9, p_ty10, B_t, B_f]
    · simp (disch := omega) only [x_X7_cellNamed_0, x_X7_cellNamed_1, x_X7_cellNamed_4, x_X7_cellNamed_5, x_X7_cellNamed_8, x_X7_cellNamed_9, x_X7_cellNamed_12, x_X7_cellNamed_13, x_X7_cellNamed_14, x_X7_cellNamed_15, x_X7_cellNamed_16, x_X7_cellNamed_19, x_X7_cellNamed_20, x_X7_cellNamed_21, x_X7_cellNamed_24, x_X7_cellNamed_27, x_X7_cellNamed_28, x_X7_cellNamed_31, x_X7_cellNamed_34, x_X7_cellNamed_35, x_X7_cellNamed_36, x_X7_cellNamed_37, x_X7_cellNamed_38, x_X7_cellNamed_39, x_X7_cellNamed_40, List.length_cons, List.length_nil, Nat.reduceLeDiff, Nat.zero_add, iI_add, iI_sub, iI_mul, iI_neg, iI_lt, iI_le, iI_eq, jI_iI, B_True, B_False, B_t, B_f, ck_True, gd_True, cb_v, cb_n, p_mv_rw, p_fv_rw, p_rv_some, pA_1, pA_90, pA_92, pA_3, pA_5, pA_93, pA_4, pA_91, pA_6, pS_i, pB_i, pW_i, pZ_0, pZ_1, pZ_b, bI_e0, u1_s, u1_n, uA_s, uA_n, true_and, and_true, not_true_eq_false, not_false_eq_true, eq_self, iI_z, al1, al5, al3, al4, al90, al91, al92, al93, al6, Int.cast_ofNat_Int, Nat.reduceAdd, Int.reduceNeg, Int.reduceAdd, Int.reduceSub, Int.reduceMul, Int.reduceLT, Int.reduceLE, Int.reduceGT, Int.reduceGE, Int.reduceEq, Int.reduceNe, Nat.reduceEqDiff, Int.zero_add, Int.add_zero, p_ty0, p_ty1, p_ty2, p_ty3, p_ty4, p_ty5, p_ty8, p_ty9, p_ty10, B_t, B_f]
  · rw [if_neg c1]
    have hcs := c_csz (d := e) (T := T) (M := M) (F := F) (c := a) he (by omega)
    have hq : 0 ≤ q_csz a ∧ q_csz a ≤ 100 := by unfold q_csz; split <;> omega
    by_cases c3 : b < 1 ∨ q_csz a < b
    · rw [if_pos c3]
      by_cases c2 : b < 1
      · simp (disch := omega) only [x_X7_cellNamed_0, x_X7_cellNamed_1, x_X7_cellNamed_4, x_X7_cellNamed_5, x_X7_cellNamed_8, x_X7_cellNamed_9, x_X7_cellNamed_12, x_X7_cellNamed_13, x_X7_cellNamed_14, x_X7_cellNamed_15, x_X7_cellNamed_16, x_X7_cellNamed_19, x_X7_cellNamed_20, x_X7_cellNamed_21, x_X7_cellNamed_24, x_X7_cellNamed_27, x_X7_cellNamed_28, x_X7_cellNamed_31, x_X7_cellNamed_34, x_X7_cellNamed_35, x_X7_cellNamed_36, x_X7_cellNamed_37, x_X7_cellNamed_38, x_X7_cellNamed_39, x_X7_cellNamed_40, List.length_cons, List.length_nil, Nat.reduceLeDiff, Nat.zero_add, iI_add, iI_sub, iI_mul, iI_neg, iI_lt, iI_le, iI_eq, jI_iI, B_True, B_False, B_t, B_f, ck_True, gd_True, cb_v, cb_n, p_mv_rw, p_fv_rw, p_rv_some, pA_1, pA_90, pA_92, pA_3, pA_5, pA_93, pA_4, pA_91, pA_6, pS_i, pB_i, pW_i, pZ_0, pZ_1, pZ_b, bI_e0, u1_s, u1_n, uA_s, uA_n, true_and, and_true, not_true_eq_false, not_false_eq_true, eq_self, iI_z, al1, al5, al3, al4, al90, al91, al92, al93, al6, Int.cast_ofNat_Int, Nat.reduceAdd, Int.reduceNeg, Int.reduceAdd, Int.reduceSub, Int.reduceMul, Int.reduceLT, Int.reduceLE, Int.reduceGT, Int.reduceGE, Int.reduceEq, Int.reduceNe, Nat.reduceEqDiff, Int.zero_add, Int.add_zero, p_ty0, p_ty1, p_ty2, p_ty3, p_ty4, p_ty5, p_ty8, p_ty9, p_ty10, hcs, B_t, B_f]
      · simp (disch := omega) only [x_X7_cellNamed_0, x_X7_cellNamed_1, x_X7_cellNamed_4, x_X7_cellNamed_5, x_X7_cellNamed_8, x_X7_cellNamed_9, x_X7_cellNamed_12, x_X7_cellNamed_13, x_X7_cellNamed_14, x_X7_cellNamed_15, x_X7_cellNamed_16, x_X7_cellNamed_19, x_X7_cellNamed_20, x_X7_cellNamed_21, x_X7_cellNamed_24, x_X7_cellNamed_27, x_X7_cellNamed_28, x_X7_cellNamed_31, x_X7_cellNamed_34, x_X7_cellNamed_35, x_X7_cellNamed_36, x_X7_cellNamed_37, x_X7_cellNamed_38, x_X7_cellNamed_39, x_X7_cellNamed_40, List.length_cons, List.length_nil, Nat.reduceLeDiff, Nat.zero_add, iI_add, iI_sub, iI_mul, iI_neg, iI_lt, iI_le, iI_eq, jI_iI, B_True, B_False, B_t, B_f, ck_True, gd_True, cb_v, cb_n, p_mv_rw, p_fv_rw, p_rv_some, pA_1, pA_90, pA_92, pA_3, pA_5, pA_93, pA_4, pA_91, pA_6, pS_i, pB_i, pW_i, pZ_0, pZ_1, pZ_b, bI_e0, u1_s, u1_n, uA_s, uA_n, true_and, and_true, not_true_eq_false, not_false_eq_true, eq_self, iI_z, al1, al5, al3, al4, al90, al91, al92, al93, al6, Int.cast_ofNat_Int, Nat.reduceAdd, Int.reduceNeg, Int.reduceAdd, Int.reduceSub, Int.reduceMul, Int.reduceLT, Int.reduceLE, Int.reduceGT, Int.reduceGE, Int.reduceEq, Int.reduceNe, Nat.reduceEqDiff, Int.zero_add, Int.add_zero, p_ty0, p_ty1, p_ty2, p_ty3, p_ty4, p_ty5, p_ty8, p_ty9, p_ty10, hcs, B_t, B_f]
    · rw [if_neg c3]
      simp (disch := omega) only [x_X7_cellNamed_0, x_X7_cellNamed_1, x_X7_cellNamed_4, x_X7_cellNamed_5, x_X7_cellNamed_8, x_X7_cellNamed_9, x_X7_cellNamed_12, x_X7_cellNamed_13, x_X7_cellNamed_14, x_X7_cellNamed_15, x_X7_cellNamed_16, x_X7_cellNamed_19, x_X7_cellNamed_20, x_X7_cellNamed_21, x_X7_cellNamed_24, x_X7_cellNamed_27, x_X7_cellNamed_28, x_X7_cellNamed_31, x_X7_cellNamed_34, x_X7_cellNamed_35, x_X7_cellNamed_36, x_X7_cellNamed_37, x_X7_cellNamed_38, x_X7_cellNamed_39, x_X7_cellNamed_40, List.length_cons, List.length_nil, Nat.reduceLeDiff, Nat.zero_add, iI_add, iI_sub, iI_mul, iI_neg, iI_lt, iI_le, iI_eq, jI_iI, B_True, B_False, B_t, B_f, ck_True, gd_True, cb_v, cb_n, p_mv_rw, p_fv_rw, p_rv_some, pA_1, pA_90, pA_92, pA_3, pA_5, pA_93, pA_4, pA_91, pA_6, pS_i, pB_i, pW_i, pZ_0, pZ_1, pZ_b, bI_e0, u1_s, u1_n, uA_s, uA_n, true_and, and_true, not_true_eq_false, not_false_eq_true, eq_self, iI_z, al1, al5, al3, al4, al90, al91, al92, al93, al6, Int.cast_ofNat_Int, Nat.reduceAdd, Int.reduceNeg, Int.reduceAdd, Int.reduceSub, Int.reduceMul, Int.reduceLT, Int.reduceLE, Int.reduceGT, Int.reduceGE, Int.reduceEq, Int.reduceNe, Nat.reduceEqDiff, Int.zero_add, Int.add_zero, p_ty0, p_ty1, p_ty2, p_ty3, p_ty4, p_ty5, p_ty8, p_ty9, p_ty10, hcs, p_mv_ro, B_t, B_f]
end PFAC
