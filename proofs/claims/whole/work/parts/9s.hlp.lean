section PHLP
variable {d : Nat} {T : pT} {M : pM} {F : pF} {S0 S : GSx} {ea0 z0 ea z r : Int} {bs0 bs : Int → Int} {y1 y2 y3 y4 y5 x : Int32} {p : Prop}
theorem h_feed (hW : CW T M F S0 ea0 bs0 z0) (h5 : 145 ≤ T.1.1) (t144 : p_ty T 144 = (3, 1)) (h : XRet T M F m_X7_feed [.ref 100, .int y1, .int y2, .int y3, .int y4, .int y5] 10 (some (.int x)) (fun M' F' => CW T M' F' S ea bs z)) : HC T M F m_L_feed [.ref 100, .int y1, .int y2, .int y3, .int y4, .int y5, .ref 144] 0 (jL x.toInt64) S ea bs z := by
  obtain ⟨M1, F1, r1, W1, f1⟩ := h
  have t100 := hW.t100
  refine ⟨T, uA M1 144 (u1 (M1 144) 0 (jL x.toInt64)), F1, fun d hd => ?_, W1.fr s_mono.rf (by omega) (fun a ha => ⟨uA_n (by omega), rfl⟩), s_mono.rf, by omega, by omega, fun a h1 h2 h3 => ⟨(uA_n h3).trans (f1 a h1).1, (f1 a h1).2⟩, fun _ => by rw [uA_s, u1_s]⟩
  refine callD_go 10 hd rfl (fun e he => ?_)
  show R e m_L_feed 0 [.val (.ref 100), .val (.int y1), .val (.int y2), .val (.int y3), .val (.int y4), .val (.int y5), .val (.ref 144), .unset] [] T M F = _
  have r1 := r1 e he
  clear W1 f1 hW
  simp (disch := omega) only [x_L_feed_0, x_L_feed_2, x_L_feed_3, x_L_feed_4, x_L_feed_5, x_L_feed_6, x_L_feed_7, x_L_feed_9, x_L_feed_11, x_L_feed_14, x_L_feed_15, x_L_feed_16, x_L_feed_19, x_L_feed_21, x_L_feed_22, x_L_feed_23, x_L_feed_24, List.length_cons, List.length_nil, Nat.reduceLeDiff, Nat.zero_add, iI_add, iI_sub, iI_mul, iI_neg, iI_lt, iI_le, iI_eq, jI_iI, B_True, B_False, B_t, B_f, ck_True, gd_True, cb_v, cb_n, p_mv_rw, p_fv_rw, p_rv_some, pA_1, pA_90, pA_92, pA_3, pA_2, pA_93, pA_4, pA_91, pA_95, pS_i, pW_i, pZ_0, pZ_1, pZ_b, bI_e0, u1_s, u1_n, uA_s, uA_n, true_and, and_true, not_true_eq_false, not_false_eq_true, eq_self, iI_z, al1, al2, al3, al4, al90, al91, al92, al93, al95, Int.cast_ofNat_Int, Nat.reduceAdd, Int.reduceNeg, Int.reduceAdd, Int.reduceSub, Int.reduceMul, Int.reduceLT, Int.reduceLE, Int.reduceGT, Int.reduceGE, Int.reduceEq, Int.reduceNe, Nat.reduceEqDiff, Int.zero_add, Int.add_zero, p_ty0, p_ty1, p_ty2, p_ty3, p_ty4, p_ty5, p_ty6, p_ty7, p_ty8, p_ty9, p_ty10, p_ty11, t100, t144, r1, gd_t]
theorem h_feed_1 (hW : CW T M F S0 ea0 bs0 z0) (h5 : 145 ≤ T.1.1) (h : XThr T M F m_X7_feed [.ref 100, .int y1, .int y2, .int y3, .int y4, .int y5] 10 0 (fun M' F' => CW T M' F' S ea bs z)) : HC T M F m_L_feed [.ref 100, .int y1, .int y2, .int y3, .int y4, .int y5, .ref 144] 1 r S ea bs z := by
  obtain ⟨M1, r1, W1, f1⟩ := h
  have t100 := hW.t100
  have hh : p_hnd m_L_feed 11 0 = some 19 := by decide +kernel
  refine ⟨p_new T 0 6, uA M1 T.1.1 (fun _ => 0), uA F T.1.1 (fun _ => none), fun d hd => ?_, W1.fr s_mono.new (by omega) (fun a ha => ⟨uA_n (by omega), uA_n (by omega)⟩), s_mono.new, Nat.le_refl _, Nat.le_refl _, fun a h1 h2 h3 => ⟨(uA_n (by omega)).trans (f1 a h1).1, uA_n (by omega)⟩, fun q => absurd q (by decide)⟩
  refine callD_go 10 hd rfl (fun e he => ?_)
  show R e m_L_feed 0 [.val (.ref 100), .val (.int y1), .val (.int y2), .val (.int y3), .val (.int y4), .val (.int y5), .val (.ref 144), .unset] [] T M F = _
  have r1 := r1 e he
  have hc := fun q L st => cb_e (T := p_new T 0 6) (M := uA M1 T.1.1 (fun _ => 0)) (F := uA F T.1.1 (fun _ => none)) (d := e) (q := q) (L := L) (st := st) hh
  clear W1 f1 hW
  simp (disch := omega) only [x_L_feed_0, x_L_feed_2, x_L_feed_3, x_L_feed_4, x_L_feed_5, x_L_feed_6, x_L_feed_7, x_L_feed_9, x_L_feed_11, x_L_feed_14, x_L_feed_15, x_L_feed_16, x_L_feed_19, x_L_feed_21, x_L_feed_22, x_L_feed_23, x_L_feed_24, List.length_cons, List.length_nil, Nat.reduceLeDiff, Nat.zero_add, iI_add, iI_sub, iI_mul, iI_neg, iI_lt, iI_le, iI_eq, jI_iI, B_True, B_False, B_t, B_f, ck_True, gd_True, cb_v, cb_n, p_mv_rw, p_fv_rw, p_rv_some, pA_1, pA_90, pA_92, pA_3, pA_2, pA_93, pA_4, pA_91, pA_95, pS_i, pW_i, pZ_0, pZ_1, pZ_b, bI_e0, u1_s, u1_n, uA_s, uA_n, true_and, and_true, not_true_eq_false, not_false_eq_true, eq_self, iI_z, al1, al2, al3, al4, al90, al91, al92, al93, al95, Int.cast_ofNat_Int, Nat.reduceAdd, Int.reduceNeg, Int.reduceAdd, Int.reduceSub, Int.reduceMul, Int.reduceLT, Int.reduceLE, Int.reduceGT, Int.reduceGE, Int.reduceEq, Int.reduceNe, Nat.reduceEqDiff, Int.zero_add, Int.add_zero, p_ty0, p_ty1, p_ty2, p_ty3, p_ty4, p_ty5, p_ty6, p_ty7, p_ty8, p_ty9, p_ty10, p_ty11, t100, r1, hc, gd_t]
theorem h_trim (hW : CW T M F S0 ea0 bs0 z0) (h5 : 145 ≤ T.1.1) (t144 : p_ty T 144 = (3, 1)) (h : XRet T M F m_X7_trim [.ref 100, .int y1] 10 (some (.int x)) (fun M' F' => CW T M' F' S ea bs z)) : HC T M F m_L_trim [.ref 100, .int y1, .ref 144] 0 (jL x.toInt64) S ea bs z := by
  obtain ⟨M1, F1, r1, W1, f1⟩ := h
  have t100 := hW.t100
  refine ⟨T, uA M1 144 (u1 (M1 144) 0 (jL x.toInt64)), F1, fun d hd => ?_, W1.fr s_mono.rf (by omega) (fun a ha => ⟨uA_n (by omega), rfl⟩), s_mono.rf, by omega, by omega, fun a h1 h2 h3 => ⟨(uA_n h3).trans (f1 a h1).1, (f1 a h1).2⟩, fun _ => by rw [uA_s, u1_s]⟩
  refine callD_go 10 hd rfl (fun e he => ?_)
  show R e m_L_trim 0 [.val (.ref 100), .val (.int y1), .val (.ref 144), .unset] [] T M F = _
  have r1 := r1 e he
  clear W1 f1 hW
  simp (disch := omega) only [x_L_trim_0, x_L_trim_1, x_L_trim_2, x_L_trim_3, x_L_trim_4, x_L_trim_7, x_L_trim_8, x_L_trim_9, x_L_trim_12, x_L_trim_13, x_L_trim_14, x_L_trim_15, x_L_trim_16, List.length_cons, List.length_nil, Nat.reduceLeDiff, Nat.zero_add, iI_add, iI_sub, iI_mul, iI_neg, iI_lt, iI_le, iI_eq, jI_iI, B_True, B_False, B_t, B_f, ck_True, gd_True, cb_v, cb_n, p_mv_rw, p_fv_rw, p_rv_some, pA_1, pA_90, pA_92, pA_3, pA_2, pA_93, pA_4, pA_91, pA_95, pS_i, pW_i, pZ_0, pZ_1, pZ_b, bI_e0, u1_s, u1_n, uA_s, uA_n, true_and, and_true, not_true_eq_false, not_false_eq_true, eq_self, iI_z, al1, al2, al3, al4, al90, al91, al92, al93, al95, Int.cast_ofNat_Int, Nat.reduceAdd, Int.reduceNeg, Int.reduceAdd, Int.reduceSub, Int.reduceMul, Int.reduceLT, Int.reduceLE, Int.reduceGT, Int.reduceGE, Int.reduceEq, Int.reduceNe, Nat.reduceEqDiff, Int.zero_add, Int.add_zero, p_ty0, p_ty1, p_ty2, p_ty3, p_ty4, p_ty5, p_ty6, p_ty7, p_ty8, p_ty9, p_ty10, p_ty11, t100, t144, r1, gd_t]
theorem h_trim_1 (hW : CW T M F S0 ea0 bs0 z0) (h5 : 145 ≤ T.1.1) (h : XThr T M F m_X7_trim [.ref 100, .int y1] 10 1 (fun M' F' => CW T M' F' S ea bs z)) : HC T M F m_L_trim [.ref 100, .int y1, .ref 144] 1 r S ea bs z := by
  obtain ⟨M1, r1, W1, f1⟩ := h
  have t100 := hW.t100
  have hh : p_hnd m_L_trim 4 1 = some 12 := by decide +kernel
  refine ⟨p_new T 0 6, uA M1 T.1.1 (fun _ => 0), uA F T.1.1 (fun _ => none), fun d hd => ?_, W1.fr s_mono.new (by omega) (fun a ha => ⟨uA_n (by omega), uA_n (by omega)⟩), s_mono.new, Nat.le_refl _, Nat.le_refl _, fun a h1 h2 h3 => ⟨(uA_n (by omega)).trans (f1 a h1).1, uA_n (by omega)⟩, fun q => absurd q (by decide)⟩
  refine callD_go 10 hd rfl (fun e he => ?_)
  show R e m_L_trim 0 [.val (.ref 100), .val (.int y1), .val (.ref 144), .unset] [] T M F = _
  have r1 := r1 e he
  have hc := fun q L st => cb_e (T := p_new T 0 6) (M := uA M1 T.1.1 (fun _ => 0)) (F := uA F T.1.1 (fun _ => none)) (d := e) (q := q) (L := L) (st := st) hh
  clear W1 f1 hW
  simp (disch := omega) only [x_L_trim_0, x_L_trim_1, x_L_trim_2, x_L_trim_3, x_L_trim_4, x_L_trim_7, x_L_trim_8, x_L_trim_9, x_L_trim_12, x_L_trim_13, x_L_trim_14, x_L_trim_15, x_L_trim_16, List.length_cons, List.length_nil, Nat.reduceLeDiff, Nat.zero_add, iI_add, iI_sub, iI_mul, iI_neg, iI_lt, iI_le, iI_eq, jI_iI, B_True, B_False, B_t, B_f, ck_True, gd_True, cb_v, cb_n, p_mv_rw, p_fv_rw, p_rv_some, pA_1, pA_90, pA_92, pA_3, pA_2, pA_93, pA_4, pA_91, pA_95, pS_i, pW_i, pZ_0, pZ_1, pZ_b, bI_e0, u1_s, u1_n, uA_s, uA_n, true_and, and_true, not_true_eq_false, not_false_eq_true, eq_self, iI_z, al1, al2, al3, al4, al90, al91, al92, al93, al95, Int.cast_ofNat_Int, Nat.reduceAdd, Int.reduceNeg, Int.reduceAdd, Int.reduceSub, Int.reduceMul, Int.reduceLT, Int.reduceLE, Int.reduceGT, Int.reduceGE, Int.reduceEq, Int.reduceNe, Nat.reduceEqDiff, Int.zero_add, Int.add_zero, p_ty0, p_ty1, p_ty2, p_ty3, p_ty4, p_ty5, p_ty6, p_ty7, p_ty8, p_ty9, p_ty10, p_ty11, t100, r1, hc, gd_t]
theorem h_count (hW : CW T M F S0 ea0 bs0 z0) (h5 : 145 ≤ T.1.1) (t144 : p_ty T 144 = (3, 1)) (h : XRet T M F m_X7_count [.ref 100, .int y1] 10 (some (.int x)) (fun M' F' => CW T M' F' S ea bs z)) : HC T M F m_L_count [.ref 100, .int y1, .ref 144] 0 (jL x.toInt64) S ea bs z := by
  obtain ⟨M1, F1, r1, W1, f1⟩ := h
  have t100 := hW.t100
  refine ⟨T, uA M1 144 (u1 (M1 144) 0 (jL x.toInt64)), F1, fun d hd => ?_, W1.fr s_mono.rf (by omega) (fun a ha => ⟨uA_n (by omega), rfl⟩), s_mono.rf, by omega, by omega, fun a h1 h2 h3 => ⟨(uA_n h3).trans (f1 a h1).1, (f1 a h1).2⟩, fun _ => by rw [uA_s, u1_s]⟩
  refine callD_go 10 hd rfl (fun e he => ?_)
  show R e m_L_count 0 [.val (.ref 100), .val (.int y1), .val (.ref 144), .unset] [] T M F = _
  have r1 := r1 e he
  clear W1 f1 hW
  simp (disch := omega) only [x_L_count_0, x_L_count_1, x_L_count_2, x_L_count_3, x_L_count_4, x_L_count_7, x_L_count_8, x_L_count_9, x_L_count_12, x_L_count_13, x_L_count_14, x_L_count_15, x_L_count_16, List.length_cons, List.length_nil, Nat.reduceLeDiff, Nat.zero_add, iI_add, iI_sub, iI_mul, iI_neg, iI_lt, iI_le, iI_eq, jI_iI, B_True, B_False, B_t, B_f, ck_True, gd_True, cb_v, cb_n, p_mv_rw, p_fv_rw, p_rv_some, pA_1, pA_90, pA_92, pA_3, pA_2, pA_93, pA_4, pA_91, pA_95, pS_i, pW_i, pZ_0, pZ_1, pZ_b, bI_e0, u1_s, u1_n, uA_s, uA_n, true_and, and_true, not_true_eq_false, not_false_eq_true, eq_self, iI_z, al1, al2, al3, al4, al90, al91, al92, al93, al95, Int.cast_ofNat_Int, Nat.reduceAdd, Int.reduceNeg, Int.reduceAdd, Int.reduceSub, Int.reduceMul, Int.reduceLT, Int.reduceLE, Int.reduceGT, Int.reduceGE, Int.reduceEq, Int.reduceNe, Nat.reduceEqDiff, Int.zero_add, Int.add_zero, p_ty0, p_ty1, p_ty2, p_ty3, p_ty4, p_ty5, p_ty6, p_ty7, p_ty8, p_ty9, p_ty10, p_ty11, t100, t144, r1, gd_t]
theorem h_count_1 (hW : CW T M F S0 ea0 bs0 z0) (h5 : 145 ≤ T.1.1) (h : XThr T M F m_X7_count [.ref 100, .int y1] 10 2 (fun M' F' => CW T M' F' S ea bs z)) : HC T M F m_L_count [.ref 100, .int y1, .ref 144] 1 r S ea bs z := by
  obtain ⟨M1, r1, W1, f1⟩ := h
  have t100 := hW.t100
  have hh : p_hnd m_L_count 4 2 = some 12 := by decide +kernel
  refine ⟨p_new T 0 6, uA M1 T.1.1 (fun _ => 0), uA F T.1.1 (fun _ => none), fun d hd => ?_, W1.fr s_mono.new (by omega) (fun a ha => ⟨uA_n (by omega), uA_n (by omega)⟩), s_mono.new, Nat.le_refl _, Nat.le_refl _, fun a h1 h2 h3 => ⟨(uA_n (by omega)).trans (f1 a h1).1, uA_n (by omega)⟩, fun q => absurd q (by decide)⟩
  refine callD_go 10 hd rfl (fun e he => ?_)
  show R e m_L_count 0 [.val (.ref 100), .val (.int y1), .val (.ref 144), .unset] [] T M F = _
  have r1 := r1 e he
  have hc := fun q L st => cb_e (T := p_new T 0 6) (M := uA M1 T.1.1 (fun _ => 0)) (F := uA F T.1.1 (fun _ => none)) (d := e) (q := q) (L := L) (st := st) hh
  clear W1 f1 hW
  simp (disch := omega) only [x_L_count_0, x_L_count_1, x_L_count_2, x_L_count_3, x_L_count_4, x_L_count_7, x_L_count_8, x_L_count_9, x_L_count_12, x_L_count_13, x_L_count_14, x_L_count_15, x_L_count_16, List.length_cons, List.length_nil, Nat.reduceLeDiff, Nat.zero_add, iI_add, iI_sub, iI_mul, iI_neg, iI_lt, iI_le, iI_eq, jI_iI, B_True, B_False, B_t, B_f, ck_True, gd_True, cb_v, cb_n, p_mv_rw, p_fv_rw, p_rv_some, pA_1, pA_90, pA_92, pA_3, pA_2, pA_93, pA_4, pA_91, pA_95, pS_i, pW_i, pZ_0, pZ_1, pZ_b, bI_e0, u1_s, u1_n, uA_s, uA_n, true_and, and_true, not_true_eq_false, not_false_eq_true, eq_self, iI_z, al1, al2, al3, al4, al90, al91, al92, al93, al95, Int.cast_ofNat_Int, Nat.reduceAdd, Int.reduceNeg, Int.reduceAdd, Int.reduceSub, Int.reduceMul, Int.reduceLT, Int.reduceLE, Int.reduceGT, Int.reduceGE, Int.reduceEq, Int.reduceNe, Nat.reduceEqDiff, Int.zero_add, Int.add_zero, p_ty0, p_ty1, p_ty2, p_ty3, p_ty4, p_ty5, p_ty6, p_ty7, p_ty8, p_ty9, p_ty10, p_ty11, t100, r1, hc, gd_t]
theorem h_cell (hW : CW T M F S0 ea0 bs0 z0) (h5 : 145 ≤ T.1.1) (t144 : p_ty T 144 = (3, 1)) (h : XRet T M F m_X7_cell [.ref 100, .int y1, .int y2] 10 (some (.int x)) (fun M' F' => CW T M' F' S ea bs z)) : HC T M F m_L_cell [.ref 100, .int y1, .int y2, .ref 144] 0 (jL x.toInt64) S ea bs z := by
  obtain ⟨M1, F1, r1, W1, f1⟩ := h
  have t100 := hW.t100
  refine ⟨T, uA M1 144 (u1 (M1 144) 0 (jL x.toInt64)), F1, fun d hd => ?_, W1.fr s_mono.rf (by omega) (fun a ha => ⟨uA_n (by omega), rfl⟩), s_mono.rf, by omega, by omega, fun a h1 h2 h3 => ⟨(uA_n h3).trans (f1 a h1).1, (f1 a h1).2⟩, fun _ => by rw [uA_s, u1_s]⟩
  refine callD_go 10 hd rfl (fun e he => ?_)
  show R e m_L_cell 0 [.val (.ref 100), .val (.int y1), .val (.int y2), .val (.ref 144), .unset] [] T M F = _
  have r1 := r1 e he
  clear W1 f1 hW
  simp (disch := omega) only [x_L_cell_0, x_L_cell_1, x_L_cell_2, x_L_cell_3, x_L_cell_4, x_L_cell_5, x_L_cell_8, x_L_cell_9, x_L_cell_10, x_L_cell_13, x_L_cell_15, x_L_cell_16, x_L_cell_17, x_L_cell_18, List.length_cons, List.length_nil, Nat.reduceLeDiff, Nat.zero_add, iI_add, iI_sub, iI_mul, iI_neg, iI_lt, iI_le, iI_eq, jI_iI, B_True, B_False, B_t, B_f, ck_True, gd_True, cb_v, cb_n, p_mv_rw, p_fv_rw, p_rv_some, pA_1, pA_90, pA_92, pA_3, pA_2, pA_93, pA_4, pA_91, pA_95, pS_i, pW_i, pZ_0, pZ_1, pZ_b, bI_e0, u1_s, u1_n, uA_s, uA_n, true_and, and_true, not_true_eq_false, not_false_eq_true, eq_self, iI_z, al1, al2, al3, al4, al90, al91, al92, al93, al95, Int.cast_ofNat_Int, Nat.reduceAdd, Int.reduceNeg, Int.reduceAdd, Int.reduceSub, Int.reduceMul, Int.reduceLT, Int.reduceLE, Int.reduceGT, Int.reduceGE, Int.reduceEq, Int.reduceNe, Nat.reduceEqDiff, Int.zero_add, Int.add_zero, p_ty0, p_ty1, p_ty2, p_ty3, p_ty4, p_ty5, p_ty6, p_ty7, p_ty8, p_ty9, p_ty10, p_ty11, t100, t144, r1, gd_t]
theorem h_cell_1 (hW : CW T M F S0 ea0 bs0 z0) (h5 : 145 ≤ T.1.1) (h : XThr T M F m_X7_cell [.ref 100, .int y1, .int y2] 10 2 (fun M' F' => CW T M' F' S ea bs z)) : HC T M F m_L_cell [.ref 100, .int y1, .int y2, .ref 144] 1 r S ea bs z := by
  obtain ⟨M1, r1, W1, f1⟩ := h
  have t100 := hW.t100
  have hh : p_hnd m_L_cell 5 2 = some 13 := by decide +kernel
  refine ⟨p_new T 0 6, uA M1 T.1.1 (fun _ => 0), uA F T.1.1 (fun _ => none), fun d hd => ?_, W1.fr s_mono.new (by omega) (fun a ha => ⟨uA_n (by omega), uA_n (by omega)⟩), s_mono.new, Nat.le_refl _, Nat.le_refl _, fun a h1 h2 h3 => ⟨(uA_n (by omega)).trans (f1 a h1).1, uA_n (by omega)⟩, fun q => absurd q (by decide)⟩
  refine callD_go 10 hd rfl (fun e he => ?_)
  show R e m_L_cell 0 [.val (.ref 100), .val (.int y1), .val (.int y2), .val (.ref 144), .unset] [] T M F = _
  have r1 := r1 e he
  have hc := fun q L st => cb_e (T := p_new T 0 6) (M := uA M1 T.1.1 (fun _ => 0)) (F := uA F T.1.1 (fun _ => none)) (d := e) (q := q) (L := L) (st := st) hh
  clear W1 f1 hW
  simp (disch := omega) only [x_L_cell_0, x_L_cell_1, x_L_cell_2, x_L_cell_3, x_L_cell_4, x_L_cell_5, x_L_cell_8, x_L_cell_9, x_L_cell_10, x_L_cell_13, x_L_cell_15, x_L_cell_16, x_L_cell_17, x_L_cell_18, List.length_cons, List.length_nil, Nat.reduceLeDiff, Nat.zero_add, iI_add, iI_sub, iI_mul, iI_neg, iI_lt, iI_le, iI_eq, jI_iI, B_True, B_False, B_t, B_f, ck_True, gd_True, cb_v, cb_n, p_mv_rw, p_fv_rw, p_rv_some, pA_1, pA_90, pA_92, pA_3, pA_2, pA_93, pA_4, pA_91, pA_95, pS_i, pW_i, pZ_0, pZ_1, pZ_b, bI_e0, u1_s, u1_n, uA_s, uA_n, true_and, and_true, not_true_eq_false, not_false_eq_true, eq_self, iI_z, al1, al2, al3, al4, al90, al91, al92, al93, al95, Int.cast_ofNat_Int, Nat.reduceAdd, Int.reduceNeg, Int.reduceAdd, Int.reduceSub, Int.reduceMul, Int.reduceLT, Int.reduceLE, Int.reduceGT, Int.reduceGE, Int.reduceEq, Int.reduceNe, Nat.reduceEqDiff, Int.zero_add, Int.add_zero, p_ty0, p_ty1, p_ty2, p_ty3, p_ty4, p_ty5, p_ty6, p_ty7, p_ty8, p_ty9, p_ty10, p_ty11, t100, r1, hc, gd_t]
theorem h_at (hW : CW T M F S0 ea0 bs0 z0) (h5 : 145 ≤ T.1.1) (t144 : p_ty T 144 = (3, 1)) (h : XRet T M F m_X7_at [.ref 100, .int y1, .int y2] 10 (some (.int x)) (fun M' F' => CW T M' F' S ea bs z)) : HC T M F m_L_at [.ref 100, .int y1, .int y2, .ref 144] 0 (jL x.toInt64) S ea bs z := by
  obtain ⟨M1, F1, r1, W1, f1⟩ := h
  have t100 := hW.t100
  refine ⟨T, uA M1 144 (u1 (M1 144) 0 (jL x.toInt64)), F1, fun d hd => ?_, W1.fr s_mono.rf (by omega) (fun a ha => ⟨uA_n (by omega), rfl⟩), s_mono.rf, by omega, by omega, fun a h1 h2 h3 => ⟨(uA_n h3).trans (f1 a h1).1, (f1 a h1).2⟩, fun _ => by rw [uA_s, u1_s]⟩
  refine callD_go 10 hd rfl (fun e he => ?_)
  show R e m_L_at 0 [.val (.ref 100), .val (.int y1), .val (.int y2), .val (.ref 144), .unset] [] T M F = _
  have r1 := r1 e he
  clear W1 f1 hW
  simp (disch := omega) only [x_L_at_0, x_L_at_1, x_L_at_2, x_L_at_3, x_L_at_4, x_L_at_5, x_L_at_8, x_L_at_9, x_L_at_10, x_L_at_13, x_L_at_15, x_L_at_16, x_L_at_17, x_L_at_18, List.length_cons, List.length_nil, Nat.reduceLeDiff, Nat.zero_add, iI_add, iI_sub, iI_mul, iI_neg, iI_lt, iI_le, iI_eq, jI_iI, B_True, B_False, B_t, B_f, ck_True, gd_True, cb_v, cb_n, p_mv_rw, p_fv_rw, p_rv_some, pA_1, pA_90, pA_92, pA_3, pA_2, pA_93, pA_4, pA_91, pA_95, pS_i, pW_i, pZ_0, pZ_1, pZ_b, bI_e0, u1_s, u1_n, uA_s, uA_n, true_and, and_true, not_true_eq_false, not_false_eq_true, eq_self, iI_z, al1, al2, al3, al4, al90, al91, al92, al93, al95, Int.cast_ofNat_Int, Nat.reduceAdd, Int.reduceNeg, Int.reduceAdd, Int.reduceSub, Int.reduceMul, Int.reduceLT, Int.reduceLE, Int.reduceGT, Int.reduceGE, Int.reduceEq, Int.reduceNe, Nat.reduceEqDiff, Int.zero_add, Int.add_zero, p_ty0, p_ty1, p_ty2, p_ty3, p_ty4, p_ty5, p_ty6, p_ty7, p_ty8, p_ty9, p_ty10, p_ty11, t100, t144, r1, gd_t]
theorem h_at_1 (hW : CW T M F S0 ea0 bs0 z0) (h5 : 145 ≤ T.1.1) (h : XThr T M F m_X7_at [.ref 100, .int y1, .int y2] 10 2 (fun M' F' => CW T M' F' S ea bs z)) : HC T M F m_L_at [.ref 100, .int y1, .int y2, .ref 144] 1 r S ea bs z := by
  obtain ⟨M1, r1, W1, f1⟩ := h
  have t100 := hW.t100
  have hh : p_hnd m_L_at 5 2 = some 13 := by decide +kernel
  refine ⟨p_new T 0 6, uA M1 T.1.1 (fun _ => 0), uA F T.1.1 (fun _ => none), fun d hd => ?_, W1.fr s_mono.new (by omega) (fun a ha => ⟨uA_n (by omega), uA_n (by omega)⟩), s_mono.new, Nat.le_refl _, Nat.le_refl _, fun a h1 h2 h3 => ⟨(uA_n (by omega)).trans (f1 a h1).1, uA_n (by omega)⟩, fun q => absurd q (by decide)⟩
  refine callD_go 10 hd rfl (fun e he => ?_)
  show R e m_L_at 0 [.val (.ref 100), .val (.int y1), .val (.int y2), .val (.ref 144), .unset] [] T M F = _
  have r1 := r1 e he
  have hc := fun q L st => cb_e (T := p_new T 0 6) (M := uA M1 T.1.1 (fun _ => 0)) (F := uA F T.1.1 (fun _ => none)) (d := e) (q := q) (L := L) (st := st) hh
  clear W1 f1 hW
  simp (disch := omega) only [x_L_at_0, x_L_at_1, x_L_at_2, x_L_at_3, x_L_at_4, x_L_at_5, x_L_at_8, x_L_at_9, x_L_at_10, x_L_at_13, x_L_at_15, x_L_at_16, x_L_at_17, x_L_at_18, List.length_cons, List.length_nil, Nat.reduceLeDiff, Nat.zero_add, iI_add, iI_sub, iI_mul, iI_neg, iI_lt, iI_le, iI_eq, jI_iI, B_True, B_False, B_t, B_f, ck_True, gd_True, cb_v, cb_n, p_mv_rw, p_fv_rw, p_rv_some, pA_1, pA_90, pA_92, pA_3, pA_2, pA_93, pA_4, pA_91, pA_95, pS_i, pW_i, pZ_0, pZ_1, pZ_b, bI_e0, u1_s, u1_n, uA_s, uA_n, true_and, and_true, not_true_eq_false, not_false_eq_true, eq_self, iI_z, al1, al2, al3, al4, al90, al91, al92, al93, al95, Int.cast_ofNat_Int, Nat.reduceAdd, Int.reduceNeg, Int.reduceAdd, Int.reduceSub, Int.reduceMul, Int.reduceLT, Int.reduceLE, Int.reduceGT, Int.reduceGE, Int.reduceEq, Int.reduceNe, Nat.reduceEqDiff, Int.zero_add, Int.add_zero, p_ty0, p_ty1, p_ty2, p_ty3, p_ty4, p_ty5, p_ty6, p_ty7, p_ty8, p_ty9, p_ty10, p_ty11, t100, r1, hc, gd_t]
theorem h_name (hW : CW T M F S0 ea0 bs0 z0) (h5 : 145 ≤ T.1.1) (t144 : p_ty T 144 = (3, 1)) (h : XRet T M F m_X7_name [.ref 100, .int y1] 10 (some (.int x)) (fun M' F' => CW T M' F' S ea bs z)) : HC T M F m_L_name [.ref 100, .int y1, .ref 144] 0 (jL x.toInt64) S ea bs z := by
  obtain ⟨M1, F1, r1, W1, f1⟩ := h
  have t100 := hW.t100
  refine ⟨T, uA M1 144 (u1 (M1 144) 0 (jL x.toInt64)), F1, fun d hd => ?_, W1.fr s_mono.rf (by omega) (fun a ha => ⟨uA_n (by omega), rfl⟩), s_mono.rf, by omega, by omega, fun a h1 h2 h3 => ⟨(uA_n h3).trans (f1 a h1).1, (f1 a h1).2⟩, fun _ => by rw [uA_s, u1_s]⟩
  refine callD_go 10 hd rfl (fun e he => ?_)
  show R e m_L_name 0 [.val (.ref 100), .val (.int y1), .val (.ref 144), .unset] [] T M F = _
  have r1 := r1 e he
  clear W1 f1 hW
  simp (disch := omega) only [x_L_name_0, x_L_name_1, x_L_name_2, x_L_name_3, x_L_name_4, x_L_name_7, x_L_name_8, x_L_name_9, x_L_name_12, x_L_name_13, x_L_name_14, x_L_name_15, x_L_name_16, List.length_cons, List.length_nil, Nat.reduceLeDiff, Nat.zero_add, iI_add, iI_sub, iI_mul, iI_neg, iI_lt, iI_le, iI_eq, jI_iI, B_True, B_False, B_t, B_f, ck_True, gd_True, cb_v, cb_n, p_mv_rw, p_fv_rw, p_rv_some, pA_1, pA_90, pA_92, pA_3, pA_2, pA_93, pA_4, pA_91, pA_95, pS_i, pW_i, pZ_0, pZ_1, pZ_b, bI_e0, u1_s, u1_n, uA_s, uA_n, true_and, and_true, not_true_eq_false, not_false_eq_true, eq_self, iI_z, al1, al2, al3, al4, al90, al91, al92, al93, al95, Int.cast_ofNat_Int, Nat.reduceAdd, Int.reduceNeg, Int.reduceAdd, Int.reduceSub, Int.reduceMul, Int.reduceLT, Int.reduceLE, Int.reduceGT, Int.reduceGE, Int.reduceEq, Int.reduceNe, Nat.reduceEqDiff, Int.zero_add, Int.add_zero, p_ty0, p_ty1, p_ty2, p_ty3, p_ty4, p_ty5, p_ty6, p_ty7, p_ty8, p_ty9, p_ty10, p_ty11, t100, t144, r1, gd_t]
theorem h_name_1 (hW : CW T M F S0 ea0 bs0 z0) (h5 : 145 ≤ T.1.1) (h : XThr T M F m_X7_name [.ref 100, .int y1] 10 2 (fun M' F' => CW T M' F' S ea bs z)) : HC T M F m_L_name [.ref 100, .int y1, .ref 144] 1 r S ea bs z := by
  obtain ⟨M1, r1, W1, f1⟩ := h
  have t100 := hW.t100
  have hh : p_hnd m_L_name 4 2 = some 12 := by decide +kernel
  refine ⟨p_new T 0 6, uA M1 T.1.1 (fun _ => 0), uA F T.1.1 (fun _ => none), fun d hd => ?_, W1.fr s_mono.new (by omega) (fun a ha => ⟨uA_n (by omega), uA_n (by omega)⟩), s_mono.new, Nat.le_refl _, Nat.le_refl _, fun a h1 h2 h3 => ⟨(uA_n (by omega)).trans (f1 a h1).1, uA_n (by omega)⟩, fun q => absurd q (by decide)⟩
  refine callD_go 10 hd rfl (fun e he => ?_)
  show R e m_L_name 0 [.val (.ref 100), .val (.int y1), .val (.ref 144), .unset] [] T M F = _
  have r1 := r1 e he
  have hc := fun q L st => cb_e (T := p_new T 0 6) (M := uA M1 T.1.1 (fun _ => 0)) (F := uA F T.1.1 (fun _ => none)) (d := e) (q := q) (L := L) (st := st) hh
  clear W1 f1 hW
  simp (disch := omega) only [x_L_name_0, x_L_name_1, x_L_name_2, x_L_name_3, x_L_name_4, x_L_name_7, x_L_name_8, x_L_name_9, x_L_name_12, x_L_name_13, x_L_name_14, x_L_name_15, x_L_name_16, List.length_cons, List.length_nil, Nat.reduceLeDiff, Nat.zero_add, iI_add, iI_sub, iI_mul, iI_neg, iI_lt, iI_le, iI_eq, jI_iI, B_True, B_False, B_t, B_f, ck_True, gd_True, cb_v, cb_n, p_mv_rw, p_fv_rw, p_rv_some, pA_1, pA_90, pA_92, pA_3, pA_2, pA_93, pA_4, pA_91, pA_95, pS_i, pW_i, pZ_0, pZ_1, pZ_b, bI_e0, u1_s, u1_n, uA_s, uA_n, true_and, and_true, not_true_eq_false, not_false_eq_true, eq_self, iI_z, al1, al2, al3, al4, al90, al91, al92, al93, al95, Int.cast_ofNat_Int, Nat.reduceAdd, Int.reduceNeg, Int.reduceAdd, Int.reduceSub, Int.reduceMul, Int.reduceLT, Int.reduceLE, Int.reduceGT, Int.reduceGE, Int.reduceEq, Int.reduceNe, Nat.reduceEqDiff, Int.zero_add, Int.add_zero, p_ty0, p_ty1, p_ty2, p_ty3, p_ty4, p_ty5, p_ty6, p_ty7, p_ty8, p_ty9, p_ty10, p_ty11, t100, r1, hc, gd_t]
theorem h_far (hW : CW T M F S0 ea0 bs0 z0) (h5 : 145 ≤ T.1.1) (t144 : p_ty T 144 = (3, 1)) (h : XRet T M F m_X7_far [.ref 100, .int y1, .int y2, .int y3] 10 (some (.int x)) (fun M' F' => CW T M' F' S ea bs z)) : HC T M F m_L_far [.ref 100, .int y1, .int y2, .int y3, .ref 144] 0 (jL x.toInt64) S ea bs z := by
  obtain ⟨M1, F1, r1, W1, f1⟩ := h
  have t100 := hW.t100
  refine ⟨T, uA M1 144 (u1 (M1 144) 0 (jL x.toInt64)), F1, fun d hd => ?_, W1.fr s_mono.rf (by omega) (fun a ha => ⟨uA_n (by omega), rfl⟩), s_mono.rf, by omega, by omega, fun a h1 h2 h3 => ⟨(uA_n h3).trans (f1 a h1).1, (f1 a h1).2⟩, fun _ => by rw [uA_s, u1_s]⟩
  refine callD_go 10 hd rfl (fun e he => ?_)
  show R e m_L_far 0 [.val (.ref 100), .val (.int y1), .val (.int y2), .val (.int y3), .val (.ref 144), .unset] [] T M F = _
  have r1 := r1 e he
  clear W1 f1 hW
  simp (disch := omega) only [x_L_far_0, x_L_far_2, x_L_far_3, x_L_far_4, x_L_far_5, x_L_far_6, x_L_far_7, x_L_far_10, x_L_far_11, x_L_far_12, x_L_far_15, x_L_far_17, x_L_far_18, x_L_far_19, x_L_far_21, x_L_far_22, x_L_far_23, x_L_far_24, List.length_cons, List.length_nil, Nat.reduceLeDiff, Nat.zero_add, iI_add, iI_sub, iI_mul, iI_neg, iI_lt, iI_le, iI_eq, jI_iI, B_True, B_False, B_t, B_f, ck_True, gd_True, cb_v, cb_n, p_mv_rw, p_fv_rw, p_rv_some, pA_1, pA_90, pA_92, pA_3, pA_2, pA_93, pA_4, pA_91, pA_95, pS_i, pW_i, pZ_0, pZ_1, pZ_b, bI_e0, u1_s, u1_n, uA_s, uA_n, true_and, and_true, not_true_eq_false, not_false_eq_true, eq_self, iI_z, al1, al2, al3, al4, al90, al91, al92, al93, al95, Int.cast_ofNat_Int, Nat.reduceAdd, Int.reduceNeg, Int.reduceAdd, Int.reduceSub, Int.reduceMul, Int.reduceLT, Int.reduceLE, Int.reduceGT, Int.reduceGE, Int.reduceEq, Int.reduceNe, Nat.reduceEqDiff, Int.zero_add, Int.add_zero, p_ty0, p_ty1, p_ty2, p_ty3, p_ty4, p_ty5, p_ty6, p_ty7, p_ty8, p_ty9, p_ty10, p_ty11, t100, t144, r1, gd_t]
theorem h_far_1 (hW : CW T M F S0 ea0 bs0 z0) (h5 : 145 ≤ T.1.1) (h : XThr T M F m_X7_far [.ref 100, .int y1, .int y2, .int y3] 10 1 (fun M' F' => CW T M' F' S ea bs z)) : HC T M F m_L_far [.ref 100, .int y1, .int y2, .int y3, .ref 144] 1 r S ea bs z := by
  obtain ⟨M1, r1, W1, f1⟩ := h
  have t100 := hW.t100
  have hh : p_hnd m_L_far 7 1 = some 15 := by decide +kernel
  refine ⟨p_new T 0 6, uA M1 T.1.1 (fun _ => 0), uA F T.1.1 (fun _ => none), fun d hd => ?_, W1.fr s_mono.new (by omega) (fun a ha => ⟨uA_n (by omega), uA_n (by omega)⟩), s_mono.new, Nat.le_refl _, Nat.le_refl _, fun a h1 h2 h3 => ⟨(uA_n (by omega)).trans (f1 a h1).1, uA_n (by omega)⟩, fun q => absurd q (by decide)⟩
  refine callD_go 10 hd rfl (fun e he => ?_)
  show R e m_L_far 0 [.val (.ref 100), .val (.int y1), .val (.int y2), .val (.int y3), .val (.ref 144), .unset] [] T M F = _
  have r1 := r1 e he
  have hc := fun q L st => cb_e (T := p_new T 0 6) (M := uA M1 T.1.1 (fun _ => 0)) (F := uA F T.1.1 (fun _ => none)) (d := e) (q := q) (L := L) (st := st) hh
  clear W1 f1 hW
  simp (disch := omega) only [x_L_far_0, x_L_far_2, x_L_far_3, x_L_far_4, x_L_far_5, x_L_far_6, x_L_far_7, x_L_far_10, x_L_far_11, x_L_far_12, x_L_far_15, x_L_far_17, x_L_far_18, x_L_far_19, x_L_far_21, x_L_far_22, x_L_far_23, x_L_far_24, List.length_cons, List.length_nil, Nat.reduceLeDiff, Nat.zero_add, iI_add, iI_sub, iI_mul, iI_neg, iI_lt, iI_le, iI_eq, jI_iI, B_True, B_False, B_t, B_f, ck_True, gd_True, cb_v, cb_n, p_mv_rw, p_fv_rw, p_rv_some, pA_1, pA_90, pA_92, pA_3, pA_2, pA_93, pA_4, pA_91, pA_95, pS_i, pW_i, pZ_0, pZ_1, pZ_b, bI_e0, u1_s, u1_n, uA_s, uA_n, true_and, and_true, not_true_eq_false, not_false_eq_true, eq_self, iI_z, al1, al2, al3, al4, al90, al91, al92, al93, al95, Int.cast_ofNat_Int, Nat.reduceAdd, Int.reduceNeg, Int.reduceAdd, Int.reduceSub, Int.reduceMul, Int.reduceLT, Int.reduceLE, Int.reduceGT, Int.reduceGE, Int.reduceEq, Int.reduceNe, Nat.reduceEqDiff, Int.zero_add, Int.add_zero, p_ty0, p_ty1, p_ty2, p_ty3, p_ty4, p_ty5, p_ty6, p_ty7, p_ty8, p_ty9, p_ty10, p_ty11, t100, r1, hc, gd_t]
theorem h_far_2 (hW : CW T M F S0 ea0 bs0 z0) (h5 : 145 ≤ T.1.1) (h : XThr T M F m_X7_far [.ref 100, .int y1, .int y2, .int y3] 10 2 (fun M' F' => CW T M' F' S ea bs z)) : HC T M F m_L_far [.ref 100, .int y1, .int y2, .int y3, .ref 144] 2 r S ea bs z := by
  obtain ⟨M1, r1, W1, f1⟩ := h
  have t100 := hW.t100
  have hh : p_hnd m_L_far 7 2 = some 19 := by decide +kernel
  refine ⟨p_new T 0 6, uA M1 T.1.1 (fun _ => 0), uA F T.1.1 (fun _ => none), fun d hd => ?_, W1.fr s_mono.new (by omega) (fun a ha => ⟨uA_n (by omega), uA_n (by omega)⟩), s_mono.new, Nat.le_refl _, Nat.le_refl _, fun a h1 h2 h3 => ⟨(uA_n (by omega)).trans (f1 a h1).1, uA_n (by omega)⟩, fun q => absurd q (by decide)⟩
  refine callD_go 10 hd rfl (fun e he => ?_)
  show R e m_L_far 0 [.val (.ref 100), .val (.int y1), .val (.int y2), .val (.int y3), .val (.ref 144), .unset] [] T M F = _
  have r1 := r1 e he
  have hc := fun q L st => cb_e (T := p_new T 0 6) (M := uA M1 T.1.1 (fun _ => 0)) (F := uA F T.1.1 (fun _ => none)) (d := e) (q := q) (L := L) (st := st) hh
  clear W1 f1 hW
  simp (disch := omega) only [x_L_far_0, x_L_far_2, x_L_far_3, x_L_far_4, x_L_far_5, x_L_far_6, x_L_far_7, x_L_far_10, x_L_far_11, x_L_far_12, x_L_far_15, x_L_far_17, x_L_far_18, x_L_far_19, x_L_far_21, x_L_far_22, x_L_far_23, x_L_far_24, List.length_cons, List.length_nil, Nat.reduceLeDiff, Nat.zero_add, iI_add, iI_sub, iI_mul, iI_neg, iI_lt, iI_le, iI_eq, jI_iI, B_True, B_False, B_t, B_f, ck_True, gd_True, cb_v, cb_n, p_mv_rw, p_fv_rw, p_rv_some, pA_1, pA_90, pA_92, pA_3, pA_2, pA_93, pA_4, pA_91, pA_95, pS_i, pW_i, pZ_0, pZ_1, pZ_b, bI_e0, u1_s, u1_n, uA_s, uA_n, true_and, and_true, not_true_eq_false, not_false_eq_true, eq_self, iI_z, al1, al2, al3, al4, al90, al91, al92, al93, al95, Int.cast_ofNat_Int, Nat.reduceAdd, Int.reduceNeg, Int.reduceAdd, Int.reduceSub, Int.reduceMul, Int.reduceLT, Int.reduceLE, Int.reduceGT, Int.reduceGE, Int.reduceEq, Int.reduceNe, Nat.reduceEqDiff, Int.zero_add, Int.add_zero, p_ty0, p_ty1, p_ty2, p_ty3, p_ty4, p_ty5, p_ty6, p_ty7, p_ty8, p_ty9, p_ty10, p_ty11, t100, r1, hc, gd_t]
theorem h_legal (hW : CW T M F S0 ea0 bs0 z0) (h5 : 145 ≤ T.1.1) (t144 : p_ty T 144 = (3, 1)) (h : XRet T M F m_X7_legal [.ref 100, .int y1, .int y2] 10 (some (.int (iI (bI p)))) (fun M' F' => CW T M' F' S ea bs z)) : HC T M F m_L_legal [.ref 100, .int y1, .int y2, .ref 144] 0 (jL (iL (bI p))) S ea bs z := by
  obtain ⟨M1, F1, r1, W1, f1⟩ := h
  have t100 := hW.t100
  refine ⟨T, uA M1 144 (u1 (M1 144) 0 (jL (iL (bI p)))), F1, fun d hd => ?_, W1.fr s_mono.rf (by omega) (fun a ha => ⟨uA_n (by omega), rfl⟩), s_mono.rf, by omega, by omega, fun a h1 h2 h3 => ⟨(uA_n h3).trans (f1 a h1).1, (f1 a h1).2⟩, fun _ => by rw [uA_s, u1_s]⟩
  refine callD_go 10 hd rfl (fun e he => ?_)
  show R e m_L_legal 0 [.val (.ref 100), .val (.int y1), .val (.int y2), .val (.ref 144), .unset] [] T M F = _
  have r1 := r1 e he
  clear W1 f1 hW
  by_cases c : p
  · rw [bI_t c] at r1 ⊢
    simp (disch := omega) only [x_L_legal_0, x_L_legal_1, x_L_legal_2, x_L_legal_3, x_L_legal_4, x_L_legal_5, x_L_legal_8, x_L_legal_11, x_L_legal_12, x_L_legal_15, x_L_legal_16, x_L_legal_17, x_L_legal_20, x_L_legal_22, x_L_legal_23, x_L_legal_24, x_L_legal_25, List.length_cons, List.length_nil, Nat.reduceLeDiff, Nat.zero_add, iI_add, iI_sub, iI_mul, iI_neg, iI_lt, iI_le, iI_eq, jI_iI, B_True, B_False, B_t, B_f, ck_True, gd_True, cb_v, cb_n, p_mv_rw, p_fv_rw, p_rv_some, pA_1, pA_90, pA_92, pA_3, pA_2, pA_93, pA_4, pA_91, pA_95, pS_i, pW_i, pZ_0, pZ_1, pZ_b, bI_e0, u1_s, u1_n, uA_s, uA_n, true_and, and_true, not_true_eq_false, not_false_eq_true, eq_self, iI_z, al1, al2, al3, al4, al90, al91, al92, al93, al95, Int.cast_ofNat_Int, Nat.reduceAdd, Int.reduceNeg, Int.reduceAdd, Int.reduceSub, Int.reduceMul, Int.reduceLT, Int.reduceLE, Int.reduceGT, Int.reduceGE, Int.reduceEq, Int.reduceNe, Nat.reduceEqDiff, Int.zero_add, Int.add_zero, p_ty0, p_ty1, p_ty2, p_ty3, p_ty4, p_ty5, p_ty6, p_ty7, p_ty8, p_ty9, p_ty10, p_ty11, t100, t144, r1, gd_t]
  · rw [bI_f c] at r1 ⊢
    simp (disch := omega) only [x_L_legal_0, x_L_legal_1, x_L_legal_2, x_L_legal_3, x_L_legal_4, x_L_legal_5, x_L_legal_8, x_L_legal_11, x_L_legal_12, x_L_legal_15, x_L_legal_16, x_L_legal_17, x_L_legal_20, x_L_legal_22, x_L_legal_23, x_L_legal_24, x_L_legal_25, List.length_cons, List.length_nil, Nat.reduceLeDiff, Nat.zero_add, iI_add, iI_sub, iI_mul, iI_neg, iI_lt, iI_le, iI_eq, jI_iI, B_True, B_False, B_t, B_f, ck_True, gd_True, cb_v, cb_n, p_mv_rw, p_fv_rw, p_rv_some, pA_1, pA_90, pA_92, pA_3, pA_2, pA_93, pA_4, pA_91, pA_95, pS_i, pW_i, pZ_0, pZ_1, pZ_b, bI_e0, u1_s, u1_n, uA_s, uA_n, true_and, and_true, not_true_eq_false, not_false_eq_true, eq_self, iI_z, al1, al2, al3, al4, al90, al91, al92, al93, al95, Int.cast_ofNat_Int, Nat.reduceAdd, Int.reduceNeg, Int.reduceAdd, Int.reduceSub, Int.reduceMul, Int.reduceLT, Int.reduceLE, Int.reduceGT, Int.reduceGE, Int.reduceEq, Int.reduceNe, Nat.reduceEqDiff, Int.zero_add, Int.add_zero, p_ty0, p_ty1, p_ty2, p_ty3, p_ty4, p_ty5, p_ty6, p_ty7, p_ty8, p_ty9, p_ty10, p_ty11, t100, t144, r1, gd_t]
theorem h_legal_1 (hW : CW T M F S0 ea0 bs0 z0) (h5 : 145 ≤ T.1.1) (h : XThr T M F m_X7_legal [.ref 100, .int y1, .int y2] 10 2 (fun M' F' => CW T M' F' S ea bs z)) : HC T M F m_L_legal [.ref 100, .int y1, .int y2, .ref 144] 1 r S ea bs z := by
  obtain ⟨M1, r1, W1, f1⟩ := h
  have t100 := hW.t100
  have hh : p_hnd m_L_legal 5 2 = some 20 := by decide +kernel
  refine ⟨p_new T 0 6, uA M1 T.1.1 (fun _ => 0), uA F T.1.1 (fun _ => none), fun d hd => ?_, W1.fr s_mono.new (by omega) (fun a ha => ⟨uA_n (by omega), uA_n (by omega)⟩), s_mono.new, Nat.le_refl _, Nat.le_refl _, fun a h1 h2 h3 => ⟨(uA_n (by omega)).trans (f1 a h1).1, uA_n (by omega)⟩, fun q => absurd q (by decide)⟩
  refine callD_go 10 hd rfl (fun e he => ?_)
  show R e m_L_legal 0 [.val (.ref 100), .val (.int y1), .val (.int y2), .val (.ref 144), .unset] [] T M F = _
  have r1 := r1 e he
  have hc := fun q L st => cb_e (T := p_new T 0 6) (M := uA M1 T.1.1 (fun _ => 0)) (F := uA F T.1.1 (fun _ => none)) (d := e) (q := q) (L := L) (st := st) hh
  clear W1 f1 hW
  simp (disch := omega) only [x_L_legal_0, x_L_legal_1, x_L_legal_2, x_L_legal_3, x_L_legal_4, x_L_legal_5, x_L_legal_8, x_L_legal_11, x_L_legal_12, x_L_legal_15, x_L_legal_16, x_L_legal_17, x_L_legal_20, x_L_legal_22, x_L_legal_23, x_L_legal_24, x_L_legal_25, List.length_cons, List.length_nil, Nat.reduceLeDiff, Nat.zero_add, iI_add, iI_sub, iI_mul, iI_neg, iI_lt, iI_le, iI_eq, jI_iI, B_True, B_False, B_t, B_f, ck_True, gd_True, cb_v, cb_n, p_mv_rw, p_fv_rw, p_rv_some, pA_1, pA_90, pA_92, pA_3, pA_2, pA_93, pA_4, pA_91, pA_95, pS_i, pW_i, pZ_0, pZ_1, pZ_b, bI_e0, u1_s, u1_n, uA_s, uA_n, true_and, and_true, not_true_eq_false, not_false_eq_true, eq_self, iI_z, al1, al2, al3, al4, al90, al91, al92, al93, al95, Int.cast_ofNat_Int, Nat.reduceAdd, Int.reduceNeg, Int.reduceAdd, Int.reduceSub, Int.reduceMul, Int.reduceLT, Int.reduceLE, Int.reduceGT, Int.reduceGE, Int.reduceEq, Int.reduceNe, Nat.reduceEqDiff, Int.zero_add, Int.add_zero, p_ty0, p_ty1, p_ty2, p_ty3, p_ty4, p_ty5, p_ty6, p_ty7, p_ty8, p_ty9, p_ty10, p_ty11, t100, r1, hc, gd_t]
theorem h_nth (hW : CW T M F S0 ea0 bs0 z0) (h5 : 145 ≤ T.1.1) (t144 : p_ty T 144 = (3, 1)) (h : XRet T M F m_X7_nth [.ref 100, .int y1] 10 (some (.int x)) (fun M' F' => CW T M' F' S ea bs z)) : HC T M F m_L_nth [.ref 100, .int y1, .ref 144] 0 (jL x.toInt64) S ea bs z := by
  obtain ⟨M1, F1, r1, W1, f1⟩ := h
  have t100 := hW.t100
  refine ⟨T, uA M1 144 (u1 (M1 144) 0 (jL x.toInt64)), F1, fun d hd => ?_, W1.fr s_mono.rf (by omega) (fun a ha => ⟨uA_n (by omega), rfl⟩), s_mono.rf, by omega, by omega, fun a h1 h2 h3 => ⟨(uA_n h3).trans (f1 a h1).1, (f1 a h1).2⟩, fun _ => by rw [uA_s, u1_s]⟩
  refine callD_go 10 hd rfl (fun e he => ?_)
  show R e m_L_nth 0 [.val (.ref 100), .val (.int y1), .val (.ref 144), .unset] [] T M F = _
  have r1 := r1 e he
  clear W1 f1 hW
  simp (disch := omega) only [x_L_nth_0, x_L_nth_1, x_L_nth_2, x_L_nth_3, x_L_nth_4, x_L_nth_7, x_L_nth_8, x_L_nth_9, x_L_nth_12, x_L_nth_13, x_L_nth_14, x_L_nth_15, x_L_nth_16, List.length_cons, List.length_nil, Nat.reduceLeDiff, Nat.zero_add, iI_add, iI_sub, iI_mul, iI_neg, iI_lt, iI_le, iI_eq, jI_iI, B_True, B_False, B_t, B_f, ck_True, gd_True, cb_v, cb_n, p_mv_rw, p_fv_rw, p_rv_some, pA_1, pA_90, pA_92, pA_3, pA_2, pA_93, pA_4, pA_91, pA_95, pS_i, pW_i, pZ_0, pZ_1, pZ_b, bI_e0, u1_s, u1_n, uA_s, uA_n, true_and, and_true, not_true_eq_false, not_false_eq_true, eq_self, iI_z, al1, al2, al3, al4, al90, al91, al92, al93, al95, Int.cast_ofNat_Int, Nat.reduceAdd, Int.reduceNeg, Int.reduceAdd, Int.reduceSub, Int.reduceMul, Int.reduceLT, Int.reduceLE, Int.reduceGT, Int.reduceGE, Int.reduceEq, Int.reduceNe, Nat.reduceEqDiff, Int.zero_add, Int.add_zero, p_ty0, p_ty1, p_ty2, p_ty3, p_ty4, p_ty5, p_ty6, p_ty7, p_ty8, p_ty9, p_ty10, p_ty11, t100, t144, r1, gd_t]
theorem h_nth_1 (hW : CW T M F S0 ea0 bs0 z0) (h5 : 145 ≤ T.1.1) (h : XThr T M F m_X7_nth [.ref 100, .int y1] 10 2 (fun M' F' => CW T M' F' S ea bs z)) : HC T M F m_L_nth [.ref 100, .int y1, .ref 144] 1 r S ea bs z := by
  obtain ⟨M1, r1, W1, f1⟩ := h
  have t100 := hW.t100
  have hh : p_hnd m_L_nth 4 2 = some 12 := by decide +kernel
  refine ⟨p_new T 0 6, uA M1 T.1.1 (fun _ => 0), uA F T.1.1 (fun _ => none), fun d hd => ?_, W1.fr s_mono.new (by omega) (fun a ha => ⟨uA_n (by omega), uA_n (by omega)⟩), s_mono.new, Nat.le_refl _, Nat.le_refl _, fun a h1 h2 h3 => ⟨(uA_n (by omega)).trans (f1 a h1).1, uA_n (by omega)⟩, fun q => absurd q (by decide)⟩
  refine callD_go 10 hd rfl (fun e he => ?_)
  show R e m_L_nth 0 [.val (.ref 100), .val (.int y1), .val (.ref 144), .unset] [] T M F = _
  have r1 := r1 e he
  have hc := fun q L st => cb_e (T := p_new T 0 6) (M := uA M1 T.1.1 (fun _ => 0)) (F := uA F T.1.1 (fun _ => none)) (d := e) (q := q) (L := L) (st := st) hh
  clear W1 f1 hW
  simp (disch := omega) only [x_L_nth_0, x_L_nth_1, x_L_nth_2, x_L_nth_3, x_L_nth_4, x_L_nth_7, x_L_nth_8, x_L_nth_9, x_L_nth_12, x_L_nth_13, x_L_nth_14, x_L_nth_15, x_L_nth_16, List.length_cons, List.length_nil, Nat.reduceLeDiff, Nat.zero_add, iI_add, iI_sub, iI_mul, iI_neg, iI_lt, iI_le, iI_eq, jI_iI, B_True, B_False, B_t, B_f, ck_True, gd_True, cb_v, cb_n, p_mv_rw, p_fv_rw, p_rv_some, pA_1, pA_90, pA_92, pA_3, pA_2, pA_93, pA_4, pA_91, pA_95, pS_i, pW_i, pZ_0, pZ_1, pZ_b, bI_e0, u1_s, u1_n, uA_s, uA_n, true_and, and_true, not_true_eq_false, not_false_eq_true, eq_self, iI_z, al1, al2, al3, al4, al90, al91, al92, al93, al95, Int.cast_ofNat_Int, Nat.reduceAdd, Int.reduceNeg, Int.reduceAdd, Int.reduceSub, Int.reduceMul, Int.reduceLT, Int.reduceLE, Int.reduceGT, Int.reduceGE, Int.reduceEq, Int.reduceNe, Nat.reduceEqDiff, Int.zero_add, Int.add_zero, p_ty0, p_ty1, p_ty2, p_ty3, p_ty4, p_ty5, p_ty6, p_ty7, p_ty8, p_ty9, p_ty10, p_ty11, t100, r1, hc, gd_t]
theorem h_move (hW : CW T M F S0 ea0 bs0 z0) (h5 : 145 ≤ T.1.1) (t144 : p_ty T 144 = (3, 1)) (h : XRet T M F m_X7_move [.ref 100, .int y1, .int y2, .int y3] 10 (some (.int x)) (fun M' F' => CW T M' F' S ea bs z)) : HC T M F m_L_move [.ref 100, .int y1, .int y2, .int y3, .ref 144] 0 (jL x.toInt64) S ea bs z := by
  obtain ⟨M1, F1, r1, W1, f1⟩ := h
  have t100 := hW.t100
  refine ⟨T, uA M1 144 (u1 (M1 144) 0 (jL x.toInt64)), F1, fun d hd => ?_, W1.fr s_mono.rf (by omega) (fun a ha => ⟨uA_n (by omega), rfl⟩), s_mono.rf, by omega, by omega, fun a h1 h2 h3 => ⟨(uA_n h3).trans (f1 a h1).1, (f1 a h1).2⟩, fun _ => by rw [uA_s, u1_s]⟩
  refine callD_go 10 hd rfl (fun e he => ?_)
  show R e m_L_move 0 [.val (.ref 100), .val (.int y1), .val (.int y2), .val (.int y3), .val (.ref 144), .unset] [] T M F = _
  have r1 := r1 e he
  clear W1 f1 hW
  simp (disch := omega) only [x_L_move_0, x_L_move_2, x_L_move_3, x_L_move_4, x_L_move_5, x_L_move_6, x_L_move_7, x_L_move_10, x_L_move_11, x_L_move_12, x_L_move_15, x_L_move_17, x_L_move_18, x_L_move_19, x_L_move_21, x_L_move_22, x_L_move_23, x_L_move_25, x_L_move_26, x_L_move_27, x_L_move_28, List.length_cons, List.length_nil, Nat.reduceLeDiff, Nat.zero_add, iI_add, iI_sub, iI_mul, iI_neg, iI_lt, iI_le, iI_eq, jI_iI, B_True, B_False, B_t, B_f, ck_True, gd_True, cb_v, cb_n, p_mv_rw, p_fv_rw, p_rv_some, pA_1, pA_90, pA_92, pA_3, pA_2, pA_93, pA_4, pA_91, pA_95, pS_i, pW_i, pZ_0, pZ_1, pZ_b, bI_e0, u1_s, u1_n, uA_s, uA_n, true_and, and_true, not_true_eq_false, not_false_eq_true, eq_self, iI_z, al1, al2, al3, al4, al90, al91, al92, al93, al95, Int.cast_ofNat_Int, Nat.reduceAdd, Int.reduceNeg, Int.reduceAdd, Int.reduceSub, Int.reduceMul, Int.reduceLT, Int.reduceLE, Int.reduceGT, Int.reduceGE, Int.reduceEq, Int.reduceNe, Nat.reduceEqDiff, Int.zero_add, Int.add_zero, p_ty0, p_ty1, p_ty2, p_ty3, p_ty4, p_ty5, p_ty6, p_ty7, p_ty8, p_ty9, p_ty10, p_ty11, t100, t144, r1, gd_t]
theorem h_move_1 (hW : CW T M F S0 ea0 bs0 z0) (h5 : 145 ≤ T.1.1) (h : XThr T M F m_X7_move [.ref 100, .int y1, .int y2, .int y3] 10 2 (fun M' F' => CW T M' F' S ea bs z)) : HC T M F m_L_move [.ref 100, .int y1, .int y2, .int y3, .ref 144] 1 r S ea bs z := by
  obtain ⟨M1, r1, W1, f1⟩ := h
  have t100 := hW.t100
  have hh : p_hnd m_L_move 7 2 = some 15 := by decide +kernel
  refine ⟨p_new T 0 6, uA M1 T.1.1 (fun _ => 0), uA F T.1.1 (fun _ => none), fun d hd => ?_, W1.fr s_mono.new (by omega) (fun a ha => ⟨uA_n (by omega), uA_n (by omega)⟩), s_mono.new, Nat.le_refl _, Nat.le_refl _, fun a h1 h2 h3 => ⟨(uA_n (by omega)).trans (f1 a h1).1, uA_n (by omega)⟩, fun q => absurd q (by decide)⟩
  refine callD_go 10 hd rfl (fun e he => ?_)
  show R e m_L_move 0 [.val (.ref 100), .val (.int y1), .val (.int y2), .val (.int y3), .val (.ref 144), .unset] [] T M F = _
  have r1 := r1 e he
  have hc := fun q L st => cb_e (T := p_new T 0 6) (M := uA M1 T.1.1 (fun _ => 0)) (F := uA F T.1.1 (fun _ => none)) (d := e) (q := q) (L := L) (st := st) hh
  clear W1 f1 hW
  simp (disch := omega) only [x_L_move_0, x_L_move_2, x_L_move_3, x_L_move_4, x_L_move_5, x_L_move_6, x_L_move_7, x_L_move_10, x_L_move_11, x_L_move_12, x_L_move_15, x_L_move_17, x_L_move_18, x_L_move_19, x_L_move_21, x_L_move_22, x_L_move_23, x_L_move_25, x_L_move_26, x_L_move_27, x_L_move_28, List.length_cons, List.length_nil, Nat.reduceLeDiff, Nat.zero_add, iI_add, iI_sub, iI_mul, iI_neg, iI_lt, iI_le, iI_eq, jI_iI, B_True, B_False, B_t, B_f, ck_True, gd_True, cb_v, cb_n, p_mv_rw, p_fv_rw, p_rv_some, pA_1, pA_90, pA_92, pA_3, pA_2, pA_93, pA_4, pA_91, pA_95, pS_i, pW_i, pZ_0, pZ_1, pZ_b, bI_e0, u1_s, u1_n, uA_s, uA_n, true_and, and_true, not_true_eq_false, not_false_eq_true, eq_self, iI_z, al1, al2, al3, al4, al90, al91, al92, al93, al95, Int.cast_ofNat_Int, Nat.reduceAdd, Int.reduceNeg, Int.reduceAdd, Int.reduceSub, Int.reduceMul, Int.reduceLT, Int.reduceLE, Int.reduceGT, Int.reduceGE, Int.reduceEq, Int.reduceNe, Nat.reduceEqDiff, Int.zero_add, Int.add_zero, p_ty0, p_ty1, p_ty2, p_ty3, p_ty4, p_ty5, p_ty6, p_ty7, p_ty8, p_ty9, p_ty10, p_ty11, t100, r1, hc, gd_t]
theorem h_move_2 (hW : CW T M F S0 ea0 bs0 z0) (h5 : 145 ≤ T.1.1) (h : XThr T M F m_X7_move [.ref 100, .int y1, .int y2, .int y3] 10 1 (fun M' F' => CW T M' F' S ea bs z)) : HC T M F m_L_move [.ref 100, .int y1, .int y2, .int y3, .ref 144] 2 r S ea bs z := by
  obtain ⟨M1, r1, W1, f1⟩ := h
  have t100 := hW.t100
  have hh : p_hnd m_L_move 7 1 = some 19 := by decide +kernel
  refine ⟨p_new T 0 6, uA M1 T.1.1 (fun _ => 0), uA F T.1.1 (fun _ => none), fun d hd => ?_, W1.fr s_mono.new (by omega) (fun a ha => ⟨uA_n (by omega), uA_n (by omega)⟩), s_mono.new, Nat.le_refl _, Nat.le_refl _, fun a h1 h2 h3 => ⟨(uA_n (by omega)).trans (f1 a h1).1, uA_n (by omega)⟩, fun q => absurd q (by decide)⟩
  refine callD_go 10 hd rfl (fun e he => ?_)
  show R e m_L_move 0 [.val (.ref 100), .val (.int y1), .val (.int y2), .val (.int y3), .val (.ref 144), .unset] [] T M F = _
  have r1 := r1 e he
  have hc := fun q L st => cb_e (T := p_new T 0 6) (M := uA M1 T.1.1 (fun _ => 0)) (F := uA F T.1.1 (fun _ => none)) (d := e) (q := q) (L := L) (st := st) hh
  clear W1 f1 hW
  simp (disch := omega) only [x_L_move_0, x_L_move_2, x_L_move_3, x_L_move_4, x_L_move_5, x_L_move_6, x_L_move_7, x_L_move_10, x_L_move_11, x_L_move_12, x_L_move_15, x_L_move_17, x_L_move_18, x_L_move_19, x_L_move_21, x_L_move_22, x_L_move_23, x_L_move_25, x_L_move_26, x_L_move_27, x_L_move_28, List.length_cons, List.length_nil, Nat.reduceLeDiff, Nat.zero_add, iI_add, iI_sub, iI_mul, iI_neg, iI_lt, iI_le, iI_eq, jI_iI, B_True, B_False, B_t, B_f, ck_True, gd_True, cb_v, cb_n, p_mv_rw, p_fv_rw, p_rv_some, pA_1, pA_90, pA_92, pA_3, pA_2, pA_93, pA_4, pA_91, pA_95, pS_i, pW_i, pZ_0, pZ_1, pZ_b, bI_e0, u1_s, u1_n, uA_s, uA_n, true_and, and_true, not_true_eq_false, not_false_eq_true, eq_self, iI_z, al1, al2, al3, al4, al90, al91, al92, al93, al95, Int.cast_ofNat_Int, Nat.reduceAdd, Int.reduceNeg, Int.reduceAdd, Int.reduceSub, Int.reduceMul, Int.reduceLT, Int.reduceLE, Int.reduceGT, Int.reduceGE, Int.reduceEq, Int.reduceNe, Nat.reduceEqDiff, Int.zero_add, Int.add_zero, p_ty0, p_ty1, p_ty2, p_ty3, p_ty4, p_ty5, p_ty6, p_ty7, p_ty8, p_ty9, p_ty10, p_ty11, t100, r1, hc, gd_t]
theorem h_move_3 (hW : CW T M F S0 ea0 bs0 z0) (h5 : 145 ≤ T.1.1) (h : XThr T M F m_X7_move [.ref 100, .int y1, .int y2, .int y3] 10 0 (fun M' F' => CW T M' F' S ea bs z)) : HC T M F m_L_move [.ref 100, .int y1, .int y2, .int y3, .ref 144] 3 r S ea bs z := by
  obtain ⟨M1, r1, W1, f1⟩ := h
  have t100 := hW.t100
  have hh : p_hnd m_L_move 7 0 = some 23 := by decide +kernel
  refine ⟨p_new T 0 6, uA M1 T.1.1 (fun _ => 0), uA F T.1.1 (fun _ => none), fun d hd => ?_, W1.fr s_mono.new (by omega) (fun a ha => ⟨uA_n (by omega), uA_n (by omega)⟩), s_mono.new, Nat.le_refl _, Nat.le_refl _, fun a h1 h2 h3 => ⟨(uA_n (by omega)).trans (f1 a h1).1, uA_n (by omega)⟩, fun q => absurd q (by decide)⟩
  refine callD_go 10 hd rfl (fun e he => ?_)
  show R e m_L_move 0 [.val (.ref 100), .val (.int y1), .val (.int y2), .val (.int y3), .val (.ref 144), .unset] [] T M F = _
  have r1 := r1 e he
  have hc := fun q L st => cb_e (T := p_new T 0 6) (M := uA M1 T.1.1 (fun _ => 0)) (F := uA F T.1.1 (fun _ => none)) (d := e) (q := q) (L := L) (st := st) hh
  clear W1 f1 hW
  simp (disch := omega) only [x_L_move_0, x_L_move_2, x_L_move_3, x_L_move_4, x_L_move_5, x_L_move_6, x_L_move_7, x_L_move_10, x_L_move_11, x_L_move_12, x_L_move_15, x_L_move_17, x_L_move_18, x_L_move_19, x_L_move_21, x_L_move_22, x_L_move_23, x_L_move_25, x_L_move_26, x_L_move_27, x_L_move_28, List.length_cons, List.length_nil, Nat.reduceLeDiff, Nat.zero_add, iI_add, iI_sub, iI_mul, iI_neg, iI_lt, iI_le, iI_eq, jI_iI, B_True, B_False, B_t, B_f, ck_True, gd_True, cb_v, cb_n, p_mv_rw, p_fv_rw, p_rv_some, pA_1, pA_90, pA_92, pA_3, pA_2, pA_93, pA_4, pA_91, pA_95, pS_i, pW_i, pZ_0, pZ_1, pZ_b, bI_e0, u1_s, u1_n, uA_s, uA_n, true_and, and_true, not_true_eq_false, not_false_eq_true, eq_self, iI_z, al1, al2, al3, al4, al90, al91, al92, al93, al95, Int.cast_ofNat_Int, Nat.reduceAdd, Int.reduceNeg, Int.reduceAdd, Int.reduceSub, Int.reduceMul, Int.reduceLT, Int.reduceLE, Int.reduceGT, Int.reduceGE, Int.reduceEq, Int.reduceNe, Nat.reduceEqDiff, Int.zero_add, Int.add_zero, p_ty0, p_ty1, p_ty2, p_ty3, p_ty4, p_ty5, p_ty6, p_ty7, p_ty8, p_ty9, p_ty10, p_ty11, t100, r1, hc, gd_t]
theorem h_back (hW : CW T M F S0 ea0 bs0 z0) (h5 : 145 ≤ T.1.1) (t144 : p_ty T 144 = (3, 1)) (h : XRet T M F m_X7_back [.ref 100] 10 (some (.int x)) (fun M' F' => CW T M' F' S ea bs z)) : HC T M F m_L_back [.ref 100, .ref 144] 0 (jL x.toInt64) S ea bs z := by
  obtain ⟨M1, F1, r1, W1, f1⟩ := h
  have t100 := hW.t100
  refine ⟨T, uA M1 144 (u1 (M1 144) 0 (jL x.toInt64)), F1, fun d hd => ?_, W1.fr s_mono.rf (by omega) (fun a ha => ⟨uA_n (by omega), rfl⟩), s_mono.rf, by omega, by omega, fun a h1 h2 h3 => ⟨(uA_n h3).trans (f1 a h1).1, (f1 a h1).2⟩, fun _ => by rw [uA_s, u1_s]⟩
  refine callD_go 10 hd rfl (fun e he => ?_)
  show R e m_L_back 0 [.val (.ref 100), .val (.ref 144), .unset] [] T M F = _
  have r1 := r1 e he
  clear W1 f1 hW
  simp (disch := omega) only [x_L_back_0, x_L_back_1, x_L_back_2, x_L_back_3, x_L_back_6, x_L_back_7, x_L_back_8, x_L_back_11, x_L_back_12, x_L_back_13, x_L_back_14, x_L_back_15, List.length_cons, List.length_nil, Nat.reduceLeDiff, Nat.zero_add, iI_add, iI_sub, iI_mul, iI_neg, iI_lt, iI_le, iI_eq, jI_iI, B_True, B_False, B_t, B_f, ck_True, gd_True, cb_v, cb_n, p_mv_rw, p_fv_rw, p_rv_some, pA_1, pA_90, pA_92, pA_3, pA_2, pA_93, pA_4, pA_91, pA_95, pS_i, pW_i, pZ_0, pZ_1, pZ_b, bI_e0, u1_s, u1_n, uA_s, uA_n, true_and, and_true, not_true_eq_false, not_false_eq_true, eq_self, iI_z, al1, al2, al3, al4, al90, al91, al92, al93, al95, Int.cast_ofNat_Int, Nat.reduceAdd, Int.reduceNeg, Int.reduceAdd, Int.reduceSub, Int.reduceMul, Int.reduceLT, Int.reduceLE, Int.reduceGT, Int.reduceGE, Int.reduceEq, Int.reduceNe, Nat.reduceEqDiff, Int.zero_add, Int.add_zero, p_ty0, p_ty1, p_ty2, p_ty3, p_ty4, p_ty5, p_ty6, p_ty7, p_ty8, p_ty9, p_ty10, p_ty11, t100, t144, r1, gd_t]
theorem h_back_1 (hW : CW T M F S0 ea0 bs0 z0) (h5 : 145 ≤ T.1.1) (h : XThr T M F m_X7_back [.ref 100] 10 0 (fun M' F' => CW T M' F' S ea bs z)) : HC T M F m_L_back [.ref 100, .ref 144] 1 r S ea bs z := by
  obtain ⟨M1, r1, W1, f1⟩ := h
  have t100 := hW.t100
  have hh : p_hnd m_L_back 3 0 = some 11 := by decide +kernel
  refine ⟨p_new T 0 6, uA M1 T.1.1 (fun _ => 0), uA F T.1.1 (fun _ => none), fun d hd => ?_, W1.fr s_mono.new (by omega) (fun a ha => ⟨uA_n (by omega), uA_n (by omega)⟩), s_mono.new, Nat.le_refl _, Nat.le_refl _, fun a h1 h2 h3 => ⟨(uA_n (by omega)).trans (f1 a h1).1, uA_n (by omega)⟩, fun q => absurd q (by decide)⟩
  refine callD_go 10 hd rfl (fun e he => ?_)
  show R e m_L_back 0 [.val (.ref 100), .val (.ref 144), .unset] [] T M F = _
  have r1 := r1 e he
  have hc := fun q L st => cb_e (T := p_new T 0 6) (M := uA M1 T.1.1 (fun _ => 0)) (F := uA F T.1.1 (fun _ => none)) (d := e) (q := q) (L := L) (st := st) hh
  clear W1 f1 hW
  simp (disch := omega) only [x_L_back_0, x_L_back_1, x_L_back_2, x_L_back_3, x_L_back_6, x_L_back_7, x_L_back_8, x_L_back_11, x_L_back_12, x_L_back_13, x_L_back_14, x_L_back_15, List.length_cons, List.length_nil, Nat.reduceLeDiff, Nat.zero_add, iI_add, iI_sub, iI_mul, iI_neg, iI_lt, iI_le, iI_eq, jI_iI, B_True, B_False, B_t, B_f, ck_True, gd_True, cb_v, cb_n, p_mv_rw, p_fv_rw, p_rv_some, pA_1, pA_90, pA_92, pA_3, pA_2, pA_93, pA_4, pA_91, pA_95, pS_i, pW_i, pZ_0, pZ_1, pZ_b, bI_e0, u1_s, u1_n, uA_s, uA_n, true_and, and_true, not_true_eq_false, not_false_eq_true, eq_self, iI_z, al1, al2, al3, al4, al90, al91, al92, al93, al95, Int.cast_ofNat_Int, Nat.reduceAdd, Int.reduceNeg, Int.reduceAdd, Int.reduceSub, Int.reduceMul, Int.reduceLT, Int.reduceLE, Int.reduceGT, Int.reduceGE, Int.reduceEq, Int.reduceNe, Nat.reduceEqDiff, Int.zero_add, Int.add_zero, p_ty0, p_ty1, p_ty2, p_ty3, p_ty4, p_ty5, p_ty6, p_ty7, p_ty8, p_ty9, p_ty10, p_ty11, t100, r1, hc, gd_t]
theorem h_lines (hW : CW T M F S0 ea0 bs0 z0) (h5 : 145 ≤ T.1.1) (t144 : p_ty T 144 = (3, 1)) (h : XRet T M F m_X7_lines [.ref 100, .int y1] 10 (some (.int x)) (fun M' F' => CW T M' F' S ea bs z)) : HC T M F m_L_lines [.ref 100, .int y1, .ref 144] 0 (jL x.toInt64) S ea bs z := by
  obtain ⟨M1, F1, r1, W1, f1⟩ := h
  have t100 := hW.t100
  refine ⟨T, uA M1 144 (u1 (M1 144) 0 (jL x.toInt64)), F1, fun d hd => ?_, W1.fr s_mono.rf (by omega) (fun a ha => ⟨uA_n (by omega), rfl⟩), s_mono.rf, by omega, by omega, fun a h1 h2 h3 => ⟨(uA_n h3).trans (f1 a h1).1, (f1 a h1).2⟩, fun _ => by rw [uA_s, u1_s]⟩
  refine callD_go 10 hd rfl (fun e he => ?_)
  show R e m_L_lines 0 [.val (.ref 100), .val (.int y1), .val (.ref 144), .unset] [] T M F = _
  have r1 := r1 e he
  clear W1 f1 hW
  simp (disch := omega) only [x_L_lines_0, x_L_lines_1, x_L_lines_2, x_L_lines_3, x_L_lines_4, x_L_lines_7, x_L_lines_8, x_L_lines_9, x_L_lines_12, x_L_lines_13, x_L_lines_14, x_L_lines_15, x_L_lines_16, List.length_cons, List.length_nil, Nat.reduceLeDiff, Nat.zero_add, iI_add, iI_sub, iI_mul, iI_neg, iI_lt, iI_le, iI_eq, jI_iI, B_True, B_False, B_t, B_f, ck_True, gd_True, cb_v, cb_n, p_mv_rw, p_fv_rw, p_rv_some, pA_1, pA_90, pA_92, pA_3, pA_2, pA_93, pA_4, pA_91, pA_95, pS_i, pW_i, pZ_0, pZ_1, pZ_b, bI_e0, u1_s, u1_n, uA_s, uA_n, true_and, and_true, not_true_eq_false, not_false_eq_true, eq_self, iI_z, al1, al2, al3, al4, al90, al91, al92, al93, al95, Int.cast_ofNat_Int, Nat.reduceAdd, Int.reduceNeg, Int.reduceAdd, Int.reduceSub, Int.reduceMul, Int.reduceLT, Int.reduceLE, Int.reduceGT, Int.reduceGE, Int.reduceEq, Int.reduceNe, Nat.reduceEqDiff, Int.zero_add, Int.add_zero, p_ty0, p_ty1, p_ty2, p_ty3, p_ty4, p_ty5, p_ty6, p_ty7, p_ty8, p_ty9, p_ty10, p_ty11, t100, t144, r1, gd_t]
theorem h_lines_1 (hW : CW T M F S0 ea0 bs0 z0) (h5 : 145 ≤ T.1.1) (h : XThr T M F m_X7_lines [.ref 100, .int y1] 10 1 (fun M' F' => CW T M' F' S ea bs z)) : HC T M F m_L_lines [.ref 100, .int y1, .ref 144] 1 r S ea bs z := by
  obtain ⟨M1, r1, W1, f1⟩ := h
  have t100 := hW.t100
  have hh : p_hnd m_L_lines 4 1 = some 12 := by decide +kernel
  refine ⟨p_new T 0 6, uA M1 T.1.1 (fun _ => 0), uA F T.1.1 (fun _ => none), fun d hd => ?_, W1.fr s_mono.new (by omega) (fun a ha => ⟨uA_n (by omega), uA_n (by omega)⟩), s_mono.new, Nat.le_refl _, Nat.le_refl _, fun a h1 h2 h3 => ⟨(uA_n (by omega)).trans (f1 a h1).1, uA_n (by omega)⟩, fun q => absurd q (by decide)⟩
  refine callD_go 10 hd rfl (fun e he => ?_)
  show R e m_L_lines 0 [.val (.ref 100), .val (.int y1), .val (.ref 144), .unset] [] T M F = _
  have r1 := r1 e he
  have hc := fun q L st => cb_e (T := p_new T 0 6) (M := uA M1 T.1.1 (fun _ => 0)) (F := uA F T.1.1 (fun _ => none)) (d := e) (q := q) (L := L) (st := st) hh
  clear W1 f1 hW
  simp (disch := omega) only [x_L_lines_0, x_L_lines_1, x_L_lines_2, x_L_lines_3, x_L_lines_4, x_L_lines_7, x_L_lines_8, x_L_lines_9, x_L_lines_12, x_L_lines_13, x_L_lines_14, x_L_lines_15, x_L_lines_16, List.length_cons, List.length_nil, Nat.reduceLeDiff, Nat.zero_add, iI_add, iI_sub, iI_mul, iI_neg, iI_lt, iI_le, iI_eq, jI_iI, B_True, B_False, B_t, B_f, ck_True, gd_True, cb_v, cb_n, p_mv_rw, p_fv_rw, p_rv_some, pA_1, pA_90, pA_92, pA_3, pA_2, pA_93, pA_4, pA_91, pA_95, pS_i, pW_i, pZ_0, pZ_1, pZ_b, bI_e0, u1_s, u1_n, uA_s, uA_n, true_and, and_true, not_true_eq_false, not_false_eq_true, eq_self, iI_z, al1, al2, al3, al4, al90, al91, al92, al93, al95, Int.cast_ofNat_Int, Nat.reduceAdd, Int.reduceNeg, Int.reduceAdd, Int.reduceSub, Int.reduceMul, Int.reduceLT, Int.reduceLE, Int.reduceGT, Int.reduceGE, Int.reduceEq, Int.reduceNe, Nat.reduceEqDiff, Int.zero_add, Int.add_zero, p_ty0, p_ty1, p_ty2, p_ty3, p_ty4, p_ty5, p_ty6, p_ty7, p_ty8, p_ty9, p_ty10, p_ty11, t100, r1, hc, gd_t]
theorem h_hanging (hW : CW T M F S0 ea0 bs0 z0) (h5 : 145 ≤ T.1.1) (t144 : p_ty T 144 = (3, 1)) (h : XRet T M F m_X7_hanging [.ref 100, .int y1] 10 (some (.int x)) (fun M' F' => CW T M' F' S ea bs z)) : HC T M F m_L_hanging [.ref 100, .int y1, .ref 144] 0 (jL x.toInt64) S ea bs z := by
  obtain ⟨M1, F1, r1, W1, f1⟩ := h
  have t100 := hW.t100
  refine ⟨T, uA M1 144 (u1 (M1 144) 0 (jL x.toInt64)), F1, fun d hd => ?_, W1.fr s_mono.rf (by omega) (fun a ha => ⟨uA_n (by omega), rfl⟩), s_mono.rf, by omega, by omega, fun a h1 h2 h3 => ⟨(uA_n h3).trans (f1 a h1).1, (f1 a h1).2⟩, fun _ => by rw [uA_s, u1_s]⟩
  refine callD_go 10 hd rfl (fun e he => ?_)
  show R e m_L_hanging 0 [.val (.ref 100), .val (.int y1), .val (.ref 144), .unset] [] T M F = _
  have r1 := r1 e he
  clear W1 f1 hW
  simp (disch := omega) only [x_L_hanging_0, x_L_hanging_1, x_L_hanging_2, x_L_hanging_3, x_L_hanging_4, x_L_hanging_7, x_L_hanging_8, x_L_hanging_9, x_L_hanging_12, x_L_hanging_13, x_L_hanging_14, x_L_hanging_15, x_L_hanging_16, List.length_cons, List.length_nil, Nat.reduceLeDiff, Nat.zero_add, iI_add, iI_sub, iI_mul, iI_neg, iI_lt, iI_le, iI_eq, jI_iI, B_True, B_False, B_t, B_f, ck_True, gd_True, cb_v, cb_n, p_mv_rw, p_fv_rw, p_rv_some, pA_1, pA_90, pA_92, pA_3, pA_2, pA_93, pA_4, pA_91, pA_95, pS_i, pW_i, pZ_0, pZ_1, pZ_b, bI_e0, u1_s, u1_n, uA_s, uA_n, true_and, and_true, not_true_eq_false, not_false_eq_true, eq_self, iI_z, al1, al2, al3, al4, al90, al91, al92, al93, al95, Int.cast_ofNat_Int, Nat.reduceAdd, Int.reduceNeg, Int.reduceAdd, Int.reduceSub, Int.reduceMul, Int.reduceLT, Int.reduceLE, Int.reduceGT, Int.reduceGE, Int.reduceEq, Int.reduceNe, Nat.reduceEqDiff, Int.zero_add, Int.add_zero, p_ty0, p_ty1, p_ty2, p_ty3, p_ty4, p_ty5, p_ty6, p_ty7, p_ty8, p_ty9, p_ty10, p_ty11, t100, t144, r1, gd_t]
theorem h_hanging_1 (hW : CW T M F S0 ea0 bs0 z0) (h5 : 145 ≤ T.1.1) (h : XThr T M F m_X7_hanging [.ref 100, .int y1] 10 2 (fun M' F' => CW T M' F' S ea bs z)) : HC T M F m_L_hanging [.ref 100, .int y1, .ref 144] 1 r S ea bs z := by
  obtain ⟨M1, r1, W1, f1⟩ := h
  have t100 := hW.t100
  have hh : p_hnd m_L_hanging 4 2 = some 12 := by decide +kernel
  refine ⟨p_new T 0 6, uA M1 T.1.1 (fun _ => 0), uA F T.1.1 (fun _ => none), fun d hd => ?_, W1.fr s_mono.new (by omega) (fun a ha => ⟨uA_n (by omega), uA_n (by omega)⟩), s_mono.new, Nat.le_refl _, Nat.le_refl _, fun a h1 h2 h3 => ⟨(uA_n (by omega)).trans (f1 a h1).1, uA_n (by omega)⟩, fun q => absurd q (by decide)⟩
  refine callD_go 10 hd rfl (fun e he => ?_)
  show R e m_L_hanging 0 [.val (.ref 100), .val (.int y1), .val (.ref 144), .unset] [] T M F = _
  have r1 := r1 e he
  have hc := fun q L st => cb_e (T := p_new T 0 6) (M := uA M1 T.1.1 (fun _ => 0)) (F := uA F T.1.1 (fun _ => none)) (d := e) (q := q) (L := L) (st := st) hh
  clear W1 f1 hW
  simp (disch := omega) only [x_L_hanging_0, x_L_hanging_1, x_L_hanging_2, x_L_hanging_3, x_L_hanging_4, x_L_hanging_7, x_L_hanging_8, x_L_hanging_9, x_L_hanging_12, x_L_hanging_13, x_L_hanging_14, x_L_hanging_15, x_L_hanging_16, List.length_cons, List.length_nil, Nat.reduceLeDiff, Nat.zero_add, iI_add, iI_sub, iI_mul, iI_neg, iI_lt, iI_le, iI_eq, jI_iI, B_True, B_False, B_t, B_f, ck_True, gd_True, cb_v, cb_n, p_mv_rw, p_fv_rw, p_rv_some, pA_1, pA_90, pA_92, pA_3, pA_2, pA_93, pA_4, pA_91, pA_95, pS_i, pW_i, pZ_0, pZ_1, pZ_b, bI_e0, u1_s, u1_n, uA_s, uA_n, true_and, and_true, not_true_eq_false, not_false_eq_true, eq_self, iI_z, al1, al2, al3, al4, al90, al91, al92, al93, al95, Int.cast_ofNat_Int, Nat.reduceAdd, Int.reduceNeg, Int.reduceAdd, Int.reduceSub, Int.reduceMul, Int.reduceLT, Int.reduceLE, Int.reduceGT, Int.reduceGE, Int.reduceEq, Int.reduceNe, Nat.reduceEqDiff, Int.zero_add, Int.add_zero, p_ty0, p_ty1, p_ty2, p_ty3, p_ty4, p_ty5, p_ty6, p_ty7, p_ty8, p_ty9, p_ty10, p_ty11, t100, r1, hc, gd_t]
end PHLP
