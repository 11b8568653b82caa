section PYOP
variable {d bd lg N lg1 N1 : Nat} {T T1 : pT} {M M0 M1 M2 : pM} {F F1 : pF} {bb v w bs : Int → Int} {t pas q its to as p n i c s x k a b z acc ea : Int} {H : List HE} {A L : List Int} {io : Nat} {S S1 : GSx}
/-- a call of the model answers -/
def YRet (bd N : Nat) (T : pT) (M : pM) (F : pF) (m : pC) (as : List Value) (D : Nat) (r : Value) (thr : Int) (S : GSx) (ea : Int) (bs : Int → Int) (z : Int) : Prop :=
  ∃ T' M' F' lg' N', (∀ d, D ≤ d → callD d m as T M F = some (.inl (some r), T', M', F')) ∧ MW T' M' F' bd lg' N' S ea bs z ∧ M' 127 0 = thr ∧ OR T M F N T' M' F' N'
theorem y_no (hY : YT T F bd lg N) (hd : 1 ≤ d) (hx : 0 ≤ x ∧ x ≤ 10) : callD d m_X8_no [.ref 127, .int (iI x)] T M F = some (.inl (some (.int (iI 0))), T, w0 M x, F) := by
  refine callD_go 0 hd rfl (fun e he => ?_)
  show R e m_X8_no 0 [.val (.ref 127), .val (.int (iI x))] [] T M F = _
  have t0 := hY.1
  unfold w0
  clear hY
  simp (disch := omega) only [x_X8_no_0, x_X8_no_1, x_X8_no_2, x_X8_no_5, x_X8_no_6, List.length_cons, List.length_nil, Nat.reduceLeDiff, Nat.zero_add, iI_add, iI_sub, iI_mul, iI_neg, iI_lt, iI_le, iI_eq, jI_iI, B_True, B_False, B_t, B_f, ck_True, gd_True, cb_v, cb_n, p_mv_rw, p_fv_rw, p_rv_some, pA_1, pA_90, pA_92, pA_3, pA_2, pA_93, pA_4, pA_91, pA_95, pS_i, pW_i, pZ_0, pZ_1, pZ_b, bI_e0, u1_s, u1_n, uA_s, uA_n, true_and, and_true, not_true_eq_false, not_false_eq_true, eq_self, iI_z, al1, al2, al3, al4, al90, al91, al92, al93, al95, Int.cast_ofNat_Int, Nat.reduceAdd, Int.reduceNeg, Int.reduceAdd, Int.reduceSub, Int.reduceMul, Int.reduceLT, Int.reduceLE, Int.reduceGT, Int.reduceGE, Int.reduceEq, Int.reduceNe, Nat.reduceEqDiff, Int.zero_add, Int.add_zero, p_ty0, p_ty1, p_ty2, p_ty3, p_ty4, p_ty5, p_ty6, p_ty7, p_ty8, p_ty9, p_ty10, p_ty11, t0, gd_t]
theorem y_thrown (hY : YT T F bd lg N) (hd : 1 ≤ d) : callD d m_X8_thrown [.ref 127] T M F = some (.inl (some (.int (iI (M 127 0)))), T, M, F) := by
  refine callD_go 0 hd rfl (fun e he => ?_)
  show R e m_X8_thrown 0 [.val (.ref 127)] [] T M F = _
  have t0 := hY.1
  clear hY
  simp (disch := omega) only [x_X8_thrown_0, x_X8_thrown_1, x_X8_thrown_4, List.length_cons, List.length_nil, Nat.reduceLeDiff, Nat.zero_add, iI_add, iI_sub, iI_mul, iI_neg, iI_lt, iI_le, iI_eq, jI_iI, B_True, B_False, B_t, B_f, ck_True, gd_True, cb_v, cb_n, p_mv_rw, p_fv_rw, p_rv_some, pA_1, pA_90, pA_92, pA_3, pA_2, pA_93, pA_4, pA_91, pA_95, pS_i, pW_i, pZ_0, pZ_1, pZ_b, bI_e0, u1_s, u1_n, uA_s, uA_n, true_and, and_true, not_true_eq_false, not_false_eq_true, eq_self, iI_z, al1, al2, al3, al4, al90, al91, al92, al93, al95, Int.cast_ofNat_Int, Nat.reduceAdd, Int.reduceNeg, Int.reduceAdd, Int.reduceSub, Int.reduceMul, Int.reduceLT, Int.reduceLE, Int.reduceGT, Int.reduceGE, Int.reduceEq, Int.reduceNe, Nat.reduceEqDiff, Int.zero_add, Int.add_zero, p_ty0, p_ty1, p_ty2, p_ty3, p_ty4, p_ty5, p_ty6, p_ty7, p_ty8, p_ty9, p_ty10, p_ty11, t0, gd_t]
theorem w0_w0 (a b : Int) : w0 (w0 M a) b = w0 M b := by
  unfold w0
  rw [uA_uA, uA_s, u1_u1]
/-- a refused call -/
theorem YRet.no {m : pC} {as : List Value} {D : Nat} {thr : Int} (hW : MW T M F bd lg N S ea bs z) (h : ∀ d, D ≤ d → callD d m as T M F = some (.inl (some (.int (iI 0))), T, w0 M thr, F)) : YRet bd N T M F m as D (.int (iI 0)) thr S ea bs z :=
  ⟨T, w0 M thr, F, lg, N, h, (hW.wz thr).1, (hW.wz thr).2.1, (hW.wz thr).2.2⟩
theorem y_count (hW : MW T M F bd lg N S ea bs z) (hP : SPx S) (hH : S.2.2.2.2.length < 614) (hn0 : -2147483648 ≤ n ∧ n < 2147483648) : (0 ≤ n ∧ n ≤ 10 → YRet bd N T M F m_X8_count [.ref 127, .int (iI n)] 10 (.int (iI (z_cnt S z n))) 0 S ea bs z) ∧ (¬ (0 ≤ n ∧ n ≤ 10) → YRet bd N T M F m_X8_count [.ref 127, .int (iI n)] 10 (.int (iI 0)) 1 S ea bs z) := by
  have hY := hW.1.1
  have t0 := hY.1
  obtain ⟨W0, z0, O0⟩ := hW.wz 0
  have hin := fun e (he : 9 ≤ e) => fun M => y_isIn (d := e) (T := T) (M := M) (F := F) (n := n) (a := 0) (c := 10) (by omega) hn0 (by omega) (by omega)
  refine ⟨fun hn => ?_, fun hn => YRet.no hW (fun d hd => ?_)⟩
  · obtain ⟨T1, M1, F1, lg1, N1, r1, W1, f1, O1⟩ := y_counted W0 hP hH hn
    refine ⟨T1, M1, F1, lg1, N1, fun d hd => ?_, W1, f1.trans z0, O0.tr O1⟩
    refine callD_go 9 hd rfl (fun e he => ?_)
    show R e m_X8_count 0 [.val (.ref 127), .val (.int (iI n))] [] T M F = _
    have r1 := r1 e he
    have hin := hin e he
    rw [bI_t hn] at hin
    unfold w0 at r1
    clear hW hP W0 W1 O0 O1 hY
    simp (disch := omega) only [x_X8_count_0, x_X8_count_1, x_X8_count_2, x_X8_count_5, x_X8_count_6, x_X8_count_7, x_X8_count_9, x_X8_count_12, x_X8_count_15, x_X8_count_16, x_X8_count_17, x_X8_count_20, x_X8_count_23, x_X8_count_24, x_X8_count_25, x_X8_count_28, List.length_cons, List.length_nil, Nat.reduceLeDiff, Nat.zero_add, iI_add, iI_sub, iI_mul, iI_neg, iI_lt, iI_le, iI_eq, jI_iI, B_True, B_False, B_t, B_f, ck_True, gd_True, cb_v, cb_n, p_mv_rw, p_fv_rw, p_rv_some, pA_1, pA_90, pA_92, pA_3, pA_2, pA_93, pA_4, pA_91, pA_95, pS_i, pW_i, pZ_0, pZ_1, pZ_b, bI_e0, u1_s, u1_n, uA_s, uA_n, true_and, and_true, not_true_eq_false, not_false_eq_true, eq_self, iI_z, al1, al2, al3, al4, al90, al91, al92, al93, al95, Int.cast_ofNat_Int, Nat.reduceAdd, Int.reduceNeg, Int.reduceAdd, Int.reduceSub, Int.reduceMul, Int.reduceLT, Int.reduceLE, Int.reduceGT, Int.reduceGE, Int.reduceEq, Int.reduceNe, Nat.reduceEqDiff, Int.zero_add, Int.add_zero, p_ty0, p_ty1, p_ty2, p_ty3, p_ty4, p_ty5, p_ty6, p_ty7, p_ty8, p_ty9, p_ty10, p_ty11, t0, hin, r1, gd_t, B_t, B_f]
  · refine callD_go 9 hd rfl (fun e he => ?_)
    show R e m_X8_count 0 [.val (.ref 127), .val (.int (iI n))] [] T M F = _
    have hin := hin e he
    rw [bI_f hn] at hin
    have hno := y_no (d := e) (M := w0 M 0) (x := 1) hY (by omega) (by omega)
    rw [w0_w0] at hno
    unfold w0 at hno ⊢
    clear hW hP W0 O0 hY
    simp (disch := omega) only [x_X8_count_0, x_X8_count_1, x_X8_count_2, x_X8_count_5, x_X8_count_6, x_X8_count_7, x_X8_count_9, x_X8_count_12, x_X8_count_15, x_X8_count_16, x_X8_count_17, x_X8_count_20, x_X8_count_23, x_X8_count_24, x_X8_count_25, x_X8_count_28, List.length_cons, List.length_nil, Nat.reduceLeDiff, Nat.zero_add, iI_add, iI_sub, iI_mul, iI_neg, iI_lt, iI_le, iI_eq, jI_iI, B_True, B_False, B_t, B_f, ck_True, gd_True, cb_v, cb_n, p_mv_rw, p_fv_rw, p_rv_some, pA_1, pA_90, pA_92, pA_3, pA_2, pA_93, pA_4, pA_91, pA_95, pS_i, pW_i, pZ_0, pZ_1, pZ_b, bI_e0, u1_s, u1_n, uA_s, uA_n, true_and, and_true, not_true_eq_false, not_false_eq_true, eq_self, iI_z, al1, al2, al3, al4, al90, al91, al92, al93, al95, Int.cast_ofNat_Int, Nat.reduceAdd, Int.reduceNeg, Int.reduceAdd, Int.reduceSub, Int.reduceMul, Int.reduceLT, Int.reduceLE, Int.reduceGT, Int.reduceGE, Int.reduceEq, Int.reduceNe, Nat.reduceEqDiff, Int.zero_add, Int.add_zero, p_ty0, p_ty1, p_ty2, p_ty3, p_ty4, p_ty5, p_ty6, p_ty7, p_ty8, p_ty9, p_ty10, p_ty11, t0, hin, hno, gd_t, B_t, B_f]
theorem y_cellTold (hW : MW T M F bd lg N S ea bs z) (hP : SPx S) (hH : S.2.2.2.2.length < 614) (hn : 0 ≤ n ∧ n ≤ 5) (hc : 0 ≤ c ∧ c < 91) :
    ∃ T' M' F' lg' N', (∀ d, 9 ≤ d → callD d m_X8_cellTold [.ref 127, .int (iI c), .int (iI n)] T M F = some (.inl (some (.int (iI (z_fac S c n)))), T', M', F')) ∧ MW T' M' F' bd lg' N' S ea bs z ∧ M' 127 0 = M 127 0 ∧ OR T M F N T' M' F' N' := by
  have hY := hW.1.1
  have t0 := hW.1.1.1
  have s1 := hW.2.1.2.1
  have hG := hW.2.1.1
  have hD := hW.1.2.1
  have hb := hP.1.1
  have hbc := hb c
  have gxr := gxy_rg hc
  obtain rfl | rfl | rfl | rfl | rfl | rfl : n = 0 ∨ n = 1 ∨ n = 2 ∨ n = 3 ∨ n = 4 ∨ n = 5 := by omega
  · refine ⟨T, M, F, lg, N, fun d hd => ?_, hW, rfl, OR.rf⟩
    refine callD_go 8 hd rfl (fun e he => ?_)
    show R e m_X8_cellTold 0 [.val (.ref 127), .val (.int (iI c)), .val (.int (iI 0))] [] T M F = _
    rw [x_X8_cellTold_0, x_X8_cellTold_1]
    show R e m_X8_cellTold 32 _ _ _ _ _ = _
    have p1 := y_piece (d := e) (T := T) (M := M) (F := F) (n := S.1 c) (by omega) (by omega)
    rw [show z_fac S c 0 = S.1 c % 10 from rfl]
    obtain ⟨ty127, ty128, fy1, ty129, fy4, ty130, fy5, ty131, fy6, ty132, fy7, ty133, fy8, ty136, fy15, ty137, fy16, ty138, fy17, ty139, fy18, ty140, fy19, ty141, fy20, ty142, fy21, ty143, fy22, hbd, tybd, fy9, hlg, tylg, fy13, hN⟩ := hY
    clear hW hP hb hG
    simp (disch := omega) only [x_X8_cellTold_32, x_X8_cellTold_33, x_X8_cellTold_36, x_X8_cellTold_37, x_X8_cellTold_38, x_X8_cellTold_41, List.length_cons, List.length_nil, Nat.reduceLeDiff, Nat.zero_add, iI_add, iI_sub, iI_mul, iI_neg, iI_lt, iI_le, iI_eq, jI_iI, B_True, B_False, B_t, B_f, ck_True, gd_True, cb_v, cb_n, p_mv_rw, p_fv_rw, p_rv_some, pA_1, pA_90, pA_92, pA_3, pA_2, pA_93, pA_4, pA_91, pA_95, pS_i, pW_i, pZ_0, pZ_1, pZ_b, bI_e0, u1_s, u1_n, uA_s, uA_n, true_and, and_true, not_true_eq_false, not_false_eq_true, eq_self, iI_z, al1, al2, al3, al4, al90, al91, al92, al93, al95, Int.cast_ofNat_Int, Nat.reduceAdd, Int.reduceNeg, Int.reduceAdd, Int.reduceSub, Int.reduceMul, Int.reduceLT, Int.reduceLE, Int.reduceGT, Int.reduceGE, Int.reduceEq, Int.reduceNe, Nat.reduceEqDiff, Int.zero_add, Int.add_zero, p_ty0, p_ty1, p_ty2, p_ty3, p_ty4, p_ty5, p_ty6, p_ty7, p_ty8, p_ty9, p_ty10, p_ty11, ty127, ty128, fy1, ty129, fy4, ty130, fy5, ty131, fy6, ty132, fy7, ty133, fy8, ty136, fy15, ty137, fy16, ty138, fy17, ty139, fy18, ty140, fy19, ty141, fy20, ty142, fy21, ty143, fy22, tybd, fy9, tylg, fy13, s1, p1, gd_t]
  · refine ⟨T, M, F, lg, N, fun d hd => ?_, hW, rfl, OR.rf⟩
    refine callD_go 8 hd rfl (fun e he => ?_)
    show R e m_X8_cellTold 0 [.val (.ref 127), .val (.int (iI c)), .val (.int (iI 1))] [] T M F = _
    rw [x_X8_cellTold_0, x_X8_cellTold_1]
    show R e m_X8_cellTold 42 _ _ _ _ _ = _
    have p1 := y_side (d := e) (T := T) (M := M) (F := F) (n := S.1 c) (by omega) (by omega)
    rw [show z_fac S c 1 = m_side (S.1 c) from rfl]
    obtain ⟨ty127, ty128, fy1, ty129, fy4, ty130, fy5, ty131, fy6, ty132, fy7, ty133, fy8, ty136, fy15, ty137, fy16, ty138, fy17, ty139, fy18, ty140, fy19, ty141, fy20, ty142, fy21, ty143, fy22, hbd, tybd, fy9, hlg, tylg, fy13, hN⟩ := hY
    clear hW hP hb hG
    simp (disch := omega) only [x_X8_cellTold_42, x_X8_cellTold_43, x_X8_cellTold_46, x_X8_cellTold_47, x_X8_cellTold_48, x_X8_cellTold_51, List.length_cons, List.length_nil, Nat.reduceLeDiff, Nat.zero_add, iI_add, iI_sub, iI_mul, iI_neg, iI_lt, iI_le, iI_eq, jI_iI, B_True, B_False, B_t, B_f, ck_True, gd_True, cb_v, cb_n, p_mv_rw, p_fv_rw, p_rv_some, pA_1, pA_90, pA_92, pA_3, pA_2, pA_93, pA_4, pA_91, pA_95, pS_i, pW_i, pZ_0, pZ_1, pZ_b, bI_e0, u1_s, u1_n, uA_s, uA_n, true_and, and_true, not_true_eq_false, not_false_eq_true, eq_self, iI_z, al1, al2, al3, al4, al90, al91, al92, al93, al95, Int.cast_ofNat_Int, Nat.reduceAdd, Int.reduceNeg, Int.reduceAdd, Int.reduceSub, Int.reduceMul, Int.reduceLT, Int.reduceLE, Int.reduceGT, Int.reduceGE, Int.reduceEq, Int.reduceNe, Nat.reduceEqDiff, Int.zero_add, Int.add_zero, p_ty0, p_ty1, p_ty2, p_ty3, p_ty4, p_ty5, p_ty6, p_ty7, p_ty8, p_ty9, p_ty10, p_ty11, ty127, ty128, fy1, ty129, fy4, ty130, fy5, ty131, fy6, ty132, fy7, ty133, fy8, ty136, fy15, ty137, fy16, ty138, fy17, ty139, fy18, ty140, fy19, ty141, fy20, ty142, fy21, ty143, fy22, tybd, fy9, tylg, fy13, s1, p1, gd_t]
  · refine ⟨T, M, F, lg, N, fun d hd => ?_, hW, rfl, OR.rf⟩
    refine callD_go 8 hd rfl (fun e he => ?_)
    show R e m_X8_cellTold 0 [.val (.ref 127), .val (.int (iI c)), .val (.int (iI 2))] [] T M F = _
    rw [x_X8_cellTold_0, x_X8_cellTold_1]
    show R e m_X8_cellTold 52 _ _ _ _ _ = _
    have a1 := hG.1 c hc.1 hc.2
    have a2 := hG.2.1 c hc.1 hc.2
    rw [show z_fac S c 2 = (gx c - gy c + 30) % 3 from rfl]
    have e9 : gx c - gy c + 30 - (gx c - gy c + 30) / 3 * 3 = (gx c - gy c + 30) % 3 := by omega
    obtain ⟨ty127, ty128, fy1, ty129, fy4, ty130, fy5, ty131, fy6, ty132, fy7, ty133, fy8, ty136, fy15, ty137, fy16, ty138, fy17, ty139, fy18, ty140, fy19, ty141, fy20, ty142, fy21, ty143, fy22, hbd, tybd, fy9, hlg, tylg, fy13, hN⟩ := hY
    clear hW hP hb hG
    simp (disch := omega) only [x_X8_cellTold_52, x_X8_cellTold_53, x_X8_cellTold_56, x_X8_cellTold_57, x_X8_cellTold_58, x_X8_cellTold_59, x_X8_cellTold_62, x_X8_cellTold_63, x_X8_cellTold_64, x_X8_cellTold_65, x_X8_cellTold_67, x_X8_cellTold_68, x_X8_cellTold_69, x_X8_cellTold_70, List.length_cons, List.length_nil, Nat.reduceLeDiff, Nat.zero_add, iI_add, iI_sub, iI_mul, iI_neg, iI_lt, iI_le, iI_eq, jI_iI, B_True, B_False, B_t, B_f, ck_True, gd_True, cb_v, cb_n, p_mv_rw, p_fv_rw, p_rv_some, pA_1, pA_90, pA_92, pA_3, pA_2, pA_93, pA_4, pA_91, pA_95, pS_i, pW_i, pZ_0, pZ_1, pZ_b, bI_e0, u1_s, u1_n, uA_s, uA_n, true_and, and_true, not_true_eq_false, not_false_eq_true, eq_self, iI_z, al1, al2, al3, al4, al90, al91, al92, al93, al95, Int.cast_ofNat_Int, Nat.reduceAdd, Int.reduceNeg, Int.reduceAdd, Int.reduceSub, Int.reduceMul, Int.reduceLT, Int.reduceLE, Int.reduceGT, Int.reduceGE, Int.reduceEq, Int.reduceNe, Nat.reduceEqDiff, Int.zero_add, Int.add_zero, p_ty0, p_ty1, p_ty2, p_ty3, p_ty4, p_ty5, p_ty6, p_ty7, p_ty8, p_ty9, p_ty10, p_ty11, ty127, ty128, fy1, ty129, fy4, ty130, fy5, ty131, fy6, ty132, fy7, ty133, fy8, ty136, fy15, ty137, fy16, ty138, fy17, ty139, fy18, ty140, fy19, ty141, fy20, ty142, fy21, ty143, fy22, tybd, fy9, tylg, fy13, a1, a2, iI_div, e9, gd_t]
  · obtain ⟨T1, M1, F1, lg1, N1, r1, R1⟩ := y_movesFrom hW.1 hW.2.1 hP.1 hH hc
    obtain ⟨W1, f0, O1⟩ := hW.yr R1 (XL.y hD (Or.inl rfl))
    refine ⟨T1, M1, F1, lg1, N1, fun d hd => ?_, W1, f0, O1⟩
    refine callD_go 8 hd rfl (fun e he => ?_)
    show R e m_X8_cellTold 0 [.val (.ref 127), .val (.int (iI c)), .val (.int (iI 3))] [] T M F = _
    rw [x_X8_cellTold_0, x_X8_cellTold_1]
    show R e m_X8_cellTold 71 _ _ _ _ _ = _
    have r1 := r1 e he
    rw [show z_fac S c 3 = cntF c (lgQ S.1 S.2.1 S.2.2.1 S.2.2.2.1) from rfl]
    clear hW hP hb hG W1 O1 R1 hY
    simp (disch := omega) only [x_X8_cellTold_71, x_X8_cellTold_72, x_X8_cellTold_73, x_X8_cellTold_76, List.length_cons, List.length_nil, Nat.reduceLeDiff, Nat.zero_add, iI_add, iI_sub, iI_mul, iI_neg, iI_lt, iI_le, iI_eq, jI_iI, B_True, B_False, B_t, B_f, ck_True, gd_True, cb_v, cb_n, p_mv_rw, p_fv_rw, p_rv_some, pA_1, pA_90, pA_92, pA_3, pA_2, pA_93, pA_4, pA_91, pA_95, pS_i, pW_i, pZ_0, pZ_1, pZ_b, bI_e0, u1_s, u1_n, uA_s, uA_n, true_and, and_true, not_true_eq_false, not_false_eq_true, eq_self, iI_z, al1, al2, al3, al4, al90, al91, al92, al93, al95, Int.cast_ofNat_Int, Nat.reduceAdd, Int.reduceNeg, Int.reduceAdd, Int.reduceSub, Int.reduceMul, Int.reduceLT, Int.reduceLE, Int.reduceGT, Int.reduceGE, Int.reduceEq, Int.reduceNe, Nat.reduceEqDiff, Int.zero_add, Int.add_zero, p_ty0, p_ty1, p_ty2, p_ty3, p_ty4, p_ty5, p_ty6, p_ty7, p_ty8, p_ty9, p_ty10, p_ty11, t0, r1, gd_t]
  · refine ⟨T, M, F, lg, N, fun d hd => ?_, hW, rfl, OR.rf⟩
    refine callD_go 8 hd rfl (fun e he => ?_)
    show R e m_X8_cellTold 0 [.val (.ref 127), .val (.int (iI c)), .val (.int (iI 4))] [] T M F = _
    rw [x_X8_cellTold_0, x_X8_cellTold_1]
    show R e m_X8_cellTold 77 _ _ _ _ _ = _
    have r1 := y_att (d := e) (p := c) (s := 0) hY hG (by rw [s1]; exact hb) (by omega) hc (Or.inl rfl)
    rw [s1] at r1
    rw [show z_fac S c 4 = m_att S.1 c 0 from rfl]
    clear hW hP hb hG hY
    simp (disch := omega) only [x_X8_cellTold_77, x_X8_cellTold_78, x_X8_cellTold_79, x_X8_cellTold_80, x_X8_cellTold_81, x_X8_cellTold_82, x_X8_cellTold_85, List.length_cons, List.length_nil, Nat.reduceLeDiff, Nat.zero_add, iI_add, iI_sub, iI_mul, iI_neg, iI_lt, iI_le, iI_eq, jI_iI, B_True, B_False, B_t, B_f, ck_True, gd_True, cb_v, cb_n, p_mv_rw, p_fv_rw, p_rv_some, pA_1, pA_90, pA_92, pA_3, pA_2, pA_93, pA_4, pA_91, pA_95, pS_i, pW_i, pZ_0, pZ_1, pZ_b, bI_e0, u1_s, u1_n, uA_s, uA_n, true_and, and_true, not_true_eq_false, not_false_eq_true, eq_self, iI_z, al1, al2, al3, al4, al90, al91, al92, al93, al95, Int.cast_ofNat_Int, Nat.reduceAdd, Int.reduceNeg, Int.reduceAdd, Int.reduceSub, Int.reduceMul, Int.reduceLT, Int.reduceLE, Int.reduceGT, Int.reduceGE, Int.reduceEq, Int.reduceNe, Nat.reduceEqDiff, Int.zero_add, Int.add_zero, p_ty0, p_ty1, p_ty2, p_ty3, p_ty4, p_ty5, p_ty6, p_ty7, p_ty8, p_ty9, p_ty10, p_ty11, t0, r1, gd_t]
  · refine ⟨T, M, F, lg, N, fun d hd => ?_, hW, rfl, OR.rf⟩
    refine callD_go 8 hd rfl (fun e he => ?_)
    show R e m_X8_cellTold 0 [.val (.ref 127), .val (.int (iI c)), .val (.int (iI 5))] [] T M F = _
    rw [x_X8_cellTold_0, x_X8_cellTold_1]
    show R e m_X8_cellTold 77 _ _ _ _ _ = _
    have r1 := y_att (d := e) (p := c) (s := 1) hY hG (by rw [s1]; exact hb) (by omega) hc (Or.inr rfl)
    rw [s1] at r1
    rw [show z_fac S c 5 = m_att S.1 c 1 from rfl]
    clear hW hP hb hG hY
    simp (disch := omega) only [x_X8_cellTold_77, x_X8_cellTold_78, x_X8_cellTold_79, x_X8_cellTold_80, x_X8_cellTold_81, x_X8_cellTold_82, x_X8_cellTold_85, List.length_cons, List.length_nil, Nat.reduceLeDiff, Nat.zero_add, iI_add, iI_sub, iI_mul, iI_neg, iI_lt, iI_le, iI_eq, jI_iI, B_True, B_False, B_t, B_f, ck_True, gd_True, cb_v, cb_n, p_mv_rw, p_fv_rw, p_rv_some, pA_1, pA_90, pA_92, pA_3, pA_2, pA_93, pA_4, pA_91, pA_95, pS_i, pW_i, pZ_0, pZ_1, pZ_b, bI_e0, u1_s, u1_n, uA_s, uA_n, true_and, and_true, not_true_eq_false, not_false_eq_true, eq_self, iI_z, al1, al2, al3, al4, al90, al91, al92, al93, al95, Int.cast_ofNat_Int, Nat.reduceAdd, Int.reduceNeg, Int.reduceAdd, Int.reduceSub, Int.reduceMul, Int.reduceLT, Int.reduceLE, Int.reduceGT, Int.reduceGE, Int.reduceEq, Int.reduceNe, Nat.reduceEqDiff, Int.zero_add, Int.add_zero, p_ty0, p_ty1, p_ty2, p_ty3, p_ty4, p_ty5, p_ty6, p_ty7, p_ty8, p_ty9, p_ty10, p_ty11, t0, r1, gd_t]
theorem y_cell (hW : MW T M F bd lg N S ea bs z) (hP : SPx S) (hH : S.2.2.2.2.length < 614) (hn0 : -2147483648 ≤ n ∧ n < 2147483648) (hc0 : -2147483648 ≤ c ∧ c < 2147483648) : (0 ≤ c ∧ c < 91 → 0 ≤ n ∧ n ≤ 5 → YRet bd N T M F m_X8_cell [.ref 127, .int (iI c), .int (iI n)] 10 (.int (iI (z_fac S c n))) 0 S ea bs z) ∧ (¬ ((0 ≤ c ∧ c < 91) ∧ 0 ≤ n ∧ n ≤ 5) → YRet bd N T M F m_X8_cell [.ref 127, .int (iI c), .int (iI n)] 10 (.int (iI 0)) 1 S ea bs z) := by
  have hY := hW.1.1
  have t0 := hY.1
  obtain ⟨W0, z0, O0⟩ := hW.wz 0
  have hin := fun e (he : 9 ≤ e) => fun M => y_isIn (d := e) (T := T) (M := M) (F := F) (n := n) (a := 0) (c := 5) (by omega) hn0 (by omega) (by omega)
  have hic := fun e (he : 9 ≤ e) => fun M => y_isCell (d := e) (T := T) (M := M) (F := F) (n := c) (by omega) hc0
  refine ⟨fun hc hn => ?_, fun hn => YRet.no hW (fun d hd => ?_)⟩
  · obtain ⟨T1, M1, F1, lg1, N1, r1, W1, f1, O1⟩ := y_cellTold W0 hP hH hn hc
    refine ⟨T1, M1, F1, lg1, N1, fun d hd => ?_, W1, f1.trans z0, O0.tr O1⟩
    refine callD_go 9 hd rfl (fun e he => ?_)
    show R e m_X8_cell 0 [.val (.ref 127), .val (.int (iI c)), .val (.int (iI n))] [] T M F = _
    have r1 := r1 e he
    have hin := hin e he
    have hic := hic e he
    rw [bI_t hn] at hin
    rw [bI_t (by omega)] at hic
    unfold w0 at r1
    clear hW hP W0 W1 O0 O1 hY
    simp (disch := omega) only [x_X8_cell_0, x_X8_cell_1, x_X8_cell_2, x_X8_cell_5, x_X8_cell_6, x_X8_cell_9, x_X8_cell_12, x_X8_cell_13, x_X8_cell_14, x_X8_cell_15, x_X8_cell_18, x_X8_cell_21, x_X8_cell_22, x_X8_cell_23, x_X8_cell_24, x_X8_cell_27, x_X8_cell_30, x_X8_cell_31, x_X8_cell_32, x_X8_cell_35, List.length_cons, List.length_nil, Nat.reduceLeDiff, Nat.zero_add, iI_add, iI_sub, iI_mul, iI_neg, iI_lt, iI_le, iI_eq, jI_iI, B_True, B_False, B_t, B_f, ck_True, gd_True, cb_v, cb_n, p_mv_rw, p_fv_rw, p_rv_some, pA_1, pA_90, pA_92, pA_3, pA_2, pA_93, pA_4, pA_91, pA_95, pS_i, pW_i, pZ_0, pZ_1, pZ_b, bI_e0, u1_s, u1_n, uA_s, uA_n, true_and, and_true, not_true_eq_false, not_false_eq_true, eq_self, iI_z, al1, al2, al3, al4, al90, al91, al92, al93, al95, Int.cast_ofNat_Int, Nat.reduceAdd, Int.reduceNeg, Int.reduceAdd, Int.reduceSub, Int.reduceMul, Int.reduceLT, Int.reduceLE, Int.reduceGT, Int.reduceGE, Int.reduceEq, Int.reduceNe, Nat.reduceEqDiff, Int.zero_add, Int.add_zero, p_ty0, p_ty1, p_ty2, p_ty3, p_ty4, p_ty5, p_ty6, p_ty7, p_ty8, p_ty9, p_ty10, p_ty11, t0, hin, hic, r1, gd_t, B_t, B_f]
  · refine callD_go 9 hd rfl (fun e he => ?_)
    show R e m_X8_cell 0 [.val (.ref 127), .val (.int (iI c)), .val (.int (iI n))] [] T M F = _
    have hin := hin e he
    have hic := hic e he
    have hno := y_no (d := e) (M := w0 M 0) (x := 1) hY (by omega) (by omega)
    rw [w0_w0] at hno
    unfold w0 at hno ⊢
    clear hW hP W0 O0 hY
    by_cases c1 : 0 ≤ c ∧ c ≤ 90
    · rw [bI_t c1] at hic
      rw [bI_f (by omega)] at hin
      simp (disch := omega) only [x_X8_cell_0, x_X8_cell_1, x_X8_cell_2, x_X8_cell_5, x_X8_cell_6, x_X8_cell_9, x_X8_cell_12, x_X8_cell_13, x_X8_cell_14, x_X8_cell_15, x_X8_cell_18, x_X8_cell_21, x_X8_cell_22, x_X8_cell_23, x_X8_cell_24, x_X8_cell_27, x_X8_cell_30, x_X8_cell_31, x_X8_cell_32, x_X8_cell_35, List.length_cons, List.length_nil, Nat.reduceLeDiff, Nat.zero_add, iI_add, iI_sub, iI_mul, iI_neg, iI_lt, iI_le, iI_eq, jI_iI, B_True, B_False, B_t, B_f, ck_True, gd_True, cb_v, cb_n, p_mv_rw, p_fv_rw, p_rv_some, pA_1, pA_90, pA_92, pA_3, pA_2, pA_93, pA_4, pA_91, pA_95, pS_i, pW_i, pZ_0, pZ_1, pZ_b, bI_e0, u1_s, u1_n, uA_s, uA_n, true_and, and_true, not_true_eq_false, not_false_eq_true, eq_self, iI_z, al1, al2, al3, al4, al90, al91, al92, al93, al95, Int.cast_ofNat_Int, Nat.reduceAdd, Int.reduceNeg, Int.reduceAdd, Int.reduceSub, Int.reduceMul, Int.reduceLT, Int.reduceLE, Int.reduceGT, Int.reduceGE, Int.reduceEq, Int.reduceNe, Nat.reduceEqDiff, Int.zero_add, Int.add_zero, p_ty0, p_ty1, p_ty2, p_ty3, p_ty4, p_ty5, p_ty6, p_ty7, p_ty8, p_ty9, p_ty10, p_ty11, t0, hin, hic, hno, gd_t, B_t, B_f]
    · rw [bI_f c1] at hic
      simp (disch := omega) only [x_X8_cell_0, x_X8_cell_1, x_X8_cell_2, x_X8_cell_5, x_X8_cell_6, x_X8_cell_9, x_X8_cell_12, x_X8_cell_13, x_X8_cell_14, x_X8_cell_15, x_X8_cell_18, x_X8_cell_21, x_X8_cell_22, x_X8_cell_23, x_X8_cell_24, x_X8_cell_27, x_X8_cell_30, x_X8_cell_31, x_X8_cell_32, x_X8_cell_35, List.length_cons, List.length_nil, Nat.reduceLeDiff, Nat.zero_add, iI_add, iI_sub, iI_mul, iI_neg, iI_lt, iI_le, iI_eq, jI_iI, B_True, B_False, B_t, B_f, ck_True, gd_True, cb_v, cb_n, p_mv_rw, p_fv_rw, p_rv_some, pA_1, pA_90, pA_92, pA_3, pA_2, pA_93, pA_4, pA_91, pA_95, pS_i, pW_i, pZ_0, pZ_1, pZ_b, bI_e0, u1_s, u1_n, uA_s, uA_n, true_and, and_true, not_true_eq_false, not_false_eq_true, eq_self, iI_z, al1, al2, al3, al4, al90, al91, al92, al93, al95, Int.cast_ofNat_Int, Nat.reduceAdd, Int.reduceNeg, Int.reduceAdd, Int.reduceSub, Int.reduceMul, Int.reduceLT, Int.reduceLE, Int.reduceGT, Int.reduceGE, Int.reduceEq, Int.reduceNe, Nat.reduceEqDiff, Int.zero_add, Int.add_zero, p_ty0, p_ty1, p_ty2, p_ty3, p_ty4, p_ty5, p_ty6, p_ty7, p_ty8, p_ty9, p_ty10, p_ty11, t0, hic, hno, gd_t, B_t, B_f]
theorem y_errorAt (hW : MW T M F bd lg N S ea bs z) : YRet bd N T M F m_X8_errorAt [.ref 127] 10 (.int (iI ea)) 0 S ea bs z := by
  obtain ⟨W0, z0, O0⟩ := hW.wz 0
  refine ⟨T, w0 M 0, F, lg, N, fun d hd => ?_, W0, z0, O0⟩
  refine callD_go 9 hd rfl (fun e he => ?_)
  show R e m_X8_errorAt 0 [.val (.ref 127)] [] T M F = _
  have t0 := hW.1.1.1
  have h3 := hW.2.2.2.1
  unfold w0
  clear hW W0 O0
  simp (disch := omega) only [x_X8_errorAt_0, x_X8_errorAt_1, x_X8_errorAt_2, x_X8_errorAt_5, x_X8_errorAt_6, x_X8_errorAt_9, List.length_cons, List.length_nil, Nat.reduceLeDiff, Nat.zero_add, iI_add, iI_sub, iI_mul, iI_neg, iI_lt, iI_le, iI_eq, jI_iI, B_True, B_False, B_t, B_f, ck_True, gd_True, cb_v, cb_n, p_mv_rw, p_fv_rw, p_rv_some, pA_1, pA_90, pA_92, pA_3, pA_2, pA_93, pA_4, pA_91, pA_95, pS_i, pW_i, pZ_0, pZ_1, pZ_b, bI_e0, u1_s, u1_n, uA_s, uA_n, true_and, and_true, not_true_eq_false, not_false_eq_true, eq_self, iI_z, al1, al2, al3, al4, al90, al91, al92, al93, al95, Int.cast_ofNat_Int, Nat.reduceAdd, Int.reduceNeg, Int.reduceAdd, Int.reduceSub, Int.reduceMul, Int.reduceLT, Int.reduceLE, Int.reduceGT, Int.reduceGE, Int.reduceEq, Int.reduceNe, Nat.reduceEqDiff, Int.zero_add, Int.add_zero, p_ty0, p_ty1, p_ty2, p_ty3, p_ty4, p_ty5, p_ty6, p_ty7, p_ty8, p_ty9, p_ty10, p_ty11, t0, h3, gd_t]
theorem y_trim (hW : MW T M F bd lg N S ea bs z) (hz : 0 ≤ z ∧ z ≤ 2000) (hn0 : -2147483648 ≤ n ∧ n < 2147483648) : (0 ≤ n ∧ n ≤ z → YRet bd N T M F m_X8_trim [.ref 127, .int (iI n)] 10 (.int (iI n)) 0 S ea bs n) ∧ (¬ (0 ≤ n ∧ n ≤ z) → YRet bd N T M F m_X8_trim [.ref 127, .int (iI n)] 10 (.int (iI 0)) 1 S ea bs z) := by
  have hY := hW.1.1
  have t0 := hY.1
  have h2 := hW.2.2.1
  obtain ⟨W0, z0, O0⟩ := hW.wz 0
  have hin := fun e (he : 9 ≤ e) => fun M => y_isIn (d := e) (T := T) (M := M) (F := F) (n := n) (a := 0) (c := z) (by omega) hn0 (by omega) (by omega)
  refine ⟨fun hn => ?_, fun hn => YRet.no hW (fun d hd => ?_)⟩
  · obtain ⟨⟨a1, a2, a3, a4, a5, a6⟩, ⟨b1, b2, b3, b4, b5⟩, h2', h3, h4⟩ := W0
    obtain ⟨d0, d0', d1, d2, d3, d4⟩ := id a2
    obtain ⟨M1, hM1⟩ : ∃ M1 : pM, M1 = uA (w0 M 0) 127 (u1 (w0 M 0 127) 2 n) := ⟨_, rfl⟩
    have f : ∀ a, a ≠ 127 → M1 a = w0 M 0 a := fun a ha => by rw [hM1, uA_n ha]
    have g : ∀ j, j ≠ 2 → M1 127 j = w0 M 0 127 j := fun j hj => by rw [hM1, uA_s, u1_n hj]
    refine ⟨T, M1, F, lg, N, fun d hd => ?_, ⟨⟨a1, a2, a3, ?_, a5, ?_⟩, ⟨?_, ?_, ?_, ?_, ?_⟩, ?_, ?_, ?_⟩, ?_, O0.tr ⟨s_mono.rf, fun a ha => ⟨f a (by omega), rfl⟩, f 144 (by omega), Nat.le_refl _, Nat.le_refl _, Nat.le_refl _⟩⟩
    · refine callD_go 9 hd rfl (fun e he => ?_)
      show R e m_X8_trim 0 [.val (.ref 127), .val (.int (iI n))] [] T M F = _
      have hin := hin e he
      rw [bI_t hn] at hin
      rw [hM1]
      unfold w0
      clear hW O0 hY a1 a2 a4 b1 hM1 f g
      simp (disch := omega) only [x_X8_trim_0, x_X8_trim_1, x_X8_trim_2, x_X8_trim_5, x_X8_trim_6, x_X8_trim_7, x_X8_trim_8, x_X8_trim_11, x_X8_trim_14, x_X8_trim_17, x_X8_trim_18, x_X8_trim_19, x_X8_trim_22, x_X8_trim_23, x_X8_trim_24, x_X8_trim_25, x_X8_trim_28, x_X8_trim_29, List.length_cons, List.length_nil, Nat.reduceLeDiff, Nat.zero_add, iI_add, iI_sub, iI_mul, iI_neg, iI_lt, iI_le, iI_eq, jI_iI, B_True, B_False, B_t, B_f, ck_True, gd_True, cb_v, cb_n, p_mv_rw, p_fv_rw, p_rv_some, pA_1, pA_90, pA_92, pA_3, pA_2, pA_93, pA_4, pA_91, pA_95, pS_i, pW_i, pZ_0, pZ_1, pZ_b, bI_e0, u1_s, u1_n, uA_s, uA_n, true_and, and_true, not_true_eq_false, not_false_eq_true, eq_self, iI_z, al1, al2, al3, al4, al90, al91, al92, al93, al95, Int.cast_ofNat_Int, Nat.reduceAdd, Int.reduceNeg, Int.reduceAdd, Int.reduceSub, Int.reduceMul, Int.reduceLT, Int.reduceLE, Int.reduceGT, Int.reduceGE, Int.reduceEq, Int.reduceNe, Nat.reduceEqDiff, Int.zero_add, Int.add_zero, p_ty0, p_ty1, p_ty2, p_ty3, p_ty4, p_ty5, p_ty6, p_ty7, p_ty8, p_ty9, p_ty10, p_ty11, t0, h2, hin, uA_uA, gd_t, B_t, B_f]
    · rw [f lg (by omega)]; exact a4
    · rw [g 14 (by omega)]; exact a6
    · unfold YG at *
      rw [f 129 (by omega), f 130 (by omega), f 131 (by omega), f 132 (by omega), f 133 (by omega)]
      exact b1
    · rw [f bd (by omega)]; exact b2
    · rw [g 10 (by omega)]; exact b3
    · rw [g 11 (by omega)]; exact b4
    · rw [g 12 (by omega)]; exact b5
    · rw [hM1, uA_s, u1_s]
    · rw [g 3 (by omega)]; exact h3
    · rw [f 128 (by omega)]; exact h4
    · rw [g 0 (by omega)]; exact z0
  · refine callD_go 9 hd rfl (fun e he => ?_)
    show R e m_X8_trim 0 [.val (.ref 127), .val (.int (iI n))] [] T M F = _
    have hin := hin e he
    rw [bI_f hn] at hin
    have hno := y_no (d := e) (M := w0 M 0) (x := 1) hY (by omega) (by omega)
    rw [w0_w0] at hno
    unfold w0 at hno ⊢
    clear hW W0 O0 hY
    simp (disch := omega) only [x_X8_trim_0, x_X8_trim_1, x_X8_trim_2, x_X8_trim_5, x_X8_trim_6, x_X8_trim_7, x_X8_trim_8, x_X8_trim_11, x_X8_trim_14, x_X8_trim_17, x_X8_trim_18, x_X8_trim_19, x_X8_trim_22, x_X8_trim_23, x_X8_trim_24, x_X8_trim_25, x_X8_trim_28, x_X8_trim_29, List.length_cons, List.length_nil, Nat.reduceLeDiff, Nat.zero_add, iI_add, iI_sub, iI_mul, iI_neg, iI_lt, iI_le, iI_eq, jI_iI, B_True, B_False, B_t, B_f, ck_True, gd_True, cb_v, cb_n, p_mv_rw, p_fv_rw, p_rv_some, pA_1, pA_90, pA_92, pA_3, pA_2, pA_93, pA_4, pA_91, pA_95, pS_i, pW_i, pZ_0, pZ_1, pZ_b, bI_e0, u1_s, u1_n, uA_s, uA_n, true_and, and_true, not_true_eq_false, not_false_eq_true, eq_self, iI_z, al1, al2, al3, al4, al90, al91, al92, al93, al95, Int.cast_ofNat_Int, Nat.reduceAdd, Int.reduceNeg, Int.reduceAdd, Int.reduceSub, Int.reduceMul, Int.reduceLT, Int.reduceLE, Int.reduceGT, Int.reduceGE, Int.reduceEq, Int.reduceNe, Nat.reduceEqDiff, Int.zero_add, Int.add_zero, p_ty0, p_ty1, p_ty2, p_ty3, p_ty4, p_ty5, p_ty6, p_ty7, p_ty8, p_ty9, p_ty10, p_ty11, t0, h2, hin, hno, gd_t, B_t, B_f]
end PYOP
