section POWN
variable {d g G1 G2 : Nat} {T : pT} {M M0 M1 M2 : pM} {F F1 : pF} {bb bs bs1 : Int → Int} {t pas q its to as p z z1 n i c s x er ea k a b : Int} {S S1 : GSx} {D : Nat} {m : pC} {v : List Value}
theorem XS.tape (hT : XT T F G1 G2) (h : XS M G1 G2 S ea bs z) (ht : TS M1 101 bs1 z1) (f : ∀ a, a ≠ 101 → a ≠ 101 + 1 → M1 a = M a) : XS M1 G1 G2 S ea bs1 z1 ∧ FX M M1 F F := by
  obtain ⟨-, -, -, -, -, -, -, -, hg⟩ := hT
  obtain ⟨h1, h2, h3, h4, h5⟩ := h
  refine ⟨⟨h1.fr (fun a a1 a2 => f a (by omega) (by omega)), ?_, ht, ?_, ?_⟩, fun a ha => ⟨f a (by omega) (by omega), rfl⟩⟩
  · rw [f (G2 + 1 + 1) (by omega) (by omega)]; exact h2
  · rw [f 100 (by omega) (by omega)]; exact h4
  · unfold RB at *; rw [f 109 (by omega) (by omega), f (109 + 1) (by omega) (by omega)]; exact h5
def t_p20 (bs : Int → Int) (z : Int) (x1 x2 x3 x4 x5 : Int32) : Int → Int := t_p4 (t_p4 (t_p4 (t_p4 (t_p4 bs z x1) (z + 4) x2) (z + 4 + 4) x3) (z + 4 + 4 + 4) x4) (z + 4 + 4 + 4 + 4) x5
theorem x_feed (hW : CW T M F S ea bs z) (y1 y2 y3 y4 y5 : Int32) : (z ≤ 1980 → XRet T M F m_X7_feed [.ref 100, .int y1, .int y2, .int y3, .int y4, .int y5] 10 (some (.int (iI (z + 20)))) (fun M' F' => CW T M' F' S ea (t_p20 bs z y1 y2 y3 y4 y5) (z + 20))) ∧ (¬ z ≤ 1980 → XThr T M F m_X7_feed [.ref 100, .int y1, .int y2, .int y3, .int y4, .int y5] 10 0 (fun M' F' => CW T M' F' S ea bs z)) := by
  have hW' := hW
  obtain ⟨G1, G2, hT, hS⟩ := hW
  obtain ⟨x0, ⟨x1, x2, x3, x4, x5, x6⟩, xt, -⟩ := id hT
  have tt := xt.2.1
  have h5 := hS.2.2.1.2.1
  have hz := hS.2.2.1.2.2.1
  refine ⟨fun hn => ?_, fun hn => ?_⟩
  · obtain ⟨M1, r1, T1, f1⟩ := c_append xt hS.2.2.1 (by omega) y1
    obtain ⟨M2, r2, T2, f2⟩ := c_append xt T1 (by omega) y2
    obtain ⟨M3, r3, T3, f3⟩ := c_append xt T2 (by omega) y3
    obtain ⟨M4, r4, T4, f4⟩ := c_append xt T3 (by omega) y4
    obtain ⟨M5, r5, T5, f5⟩ := c_append xt T4 (by omega) y5
    rw [show z + 4 + 4 + 4 + 4 + 4 = z + 20 by omega] at T5
    have h6 := T5.2.1
    obtain ⟨S5, F5⟩ := hS.tape hT T5 (fun a a1 a2 => by rw [f5 a a1 a2, f4 a a1 a2, f3 a a1 a2, f2 a a1 a2, f1 a a1 a2])
    refine ⟨M5, F, fun d hd => ?_, ⟨G1, G2, hT, S5⟩, F5⟩
    refine callD_go 9 hd rfl (fun e he => ?_)
    show R e m_X7_feed 0 [.val (.ref 100), .val (.int y1), .val (.int y2), .val (.int y3), .val (.int y4), .val (.int y5)] [] T M F = _
    have r1 := r1 e (by omega)
    have r2 := r2 e (by omega)
    have r3 := r3 e (by omega)
    have r4 := r4 e (by omega)
    have r5 := r5 e (by omega)
    clear S5 F5 T5 T4 T3 T2 T1 f1 f2 f3 f4 f5 hT hS hW' xt
    simp (disch := omega) only [x_X7_feed_0, x_X7_feed_1, x_X7_feed_4, x_X7_feed_7, x_X7_feed_10, x_X7_feed_13, x_X7_feed_23, x_X7_feed_24, x_X7_feed_27, x_X7_feed_28, x_X7_feed_31, x_X7_feed_32, x_X7_feed_35, x_X7_feed_36, x_X7_feed_39, x_X7_feed_40, x_X7_feed_43, x_X7_feed_44, x_X7_feed_47, x_X7_feed_48, x_X7_feed_51, x_X7_feed_53, x_X7_feed_56, x_X7_feed_57, x_X7_feed_60, x_X7_feed_62, x_X7_feed_65, x_X7_feed_66, x_X7_feed_69, x_X7_feed_72, List.length_cons, List.length_nil, Nat.reduceLeDiff, Nat.zero_add, iI_add, iI_sub, iI_mul, iI_neg, iI_lt, iI_le, iI_eq, jI_iI, B_True, B_False, B_t, B_f, ck_True, gd_True, cb_v, cb_n, p_mv_rw, p_fv_rw, p_rv_some, pA_1, pA_90, pA_92, pA_3, pA_5, pA_93, pA_4, pA_91, pA_6, pS_i, pB_i, pW_i, pZ_0, pZ_1, pZ_b, bI_e0, u1_s, u1_n, uA_s, uA_n, true_and, and_true, not_true_eq_false, not_false_eq_true, eq_self, iI_z, al1, al5, al3, al4, al90, al91, al92, al93, al6, Int.cast_ofNat_Int, Nat.reduceAdd, Int.reduceNeg, Int.reduceAdd, Int.reduceSub, Int.reduceMul, Int.reduceLT, Int.reduceLE, Int.reduceGT, Int.reduceGE, Int.reduceEq, Int.reduceNe, Nat.reduceEqDiff, Int.zero_add, Int.add_zero, p_ty0, p_ty1, p_ty2, p_ty3, p_ty4, p_ty5, p_ty8, p_ty9, p_ty10, x0, x1, tt, h5, h6, r1, r2, r3, r4, r5, gd_t, B_t, B_f]
  · refine ⟨M, fun d hd => ?_, hW', FX.rf⟩
    refine callD_go 9 hd rfl (fun e he => ?_)
    show R e m_X7_feed 0 [.val (.ref 100), .val (.int y1), .val (.int y2), .val (.int y3), .val (.int y4), .val (.int y5)] [] T M F = _
    clear hT hS hW' xt
    simp (disch := omega) only [x_X7_feed_0, x_X7_feed_1, x_X7_feed_4, x_X7_feed_7, x_X7_feed_10, x_X7_feed_13, List.length_cons, List.length_nil, Nat.reduceLeDiff, Nat.zero_add, iI_add, iI_sub, iI_mul, iI_neg, iI_lt, iI_le, iI_eq, jI_iI, B_True, B_False, B_t, B_f, ck_True, gd_True, cb_v, cb_n, p_mv_rw, p_fv_rw, p_rv_some, pA_1, pA_90, pA_92, pA_3, pA_5, pA_93, pA_4, pA_91, pA_6, pS_i, pB_i, pW_i, pZ_0, pZ_1, pZ_b, bI_e0, u1_s, u1_n, uA_s, uA_n, true_and, and_true, not_true_eq_false, not_false_eq_true, eq_self, iI_z, al1, al5, al3, al4, al90, al91, al92, al93, al6, Int.cast_ofNat_Int, Nat.reduceAdd, Int.reduceNeg, Int.reduceAdd, Int.reduceSub, Int.reduceMul, Int.reduceLT, Int.reduceLE, Int.reduceGT, Int.reduceGE, Int.reduceEq, Int.reduceNe, Nat.reduceEqDiff, Int.zero_add, Int.add_zero, p_ty0, p_ty1, p_ty2, p_ty3, p_ty4, p_ty5, p_ty8, p_ty9, p_ty10, x0, x1, tt, h5, gd_t, B_t, B_f]
theorem x_trim (hW : CW T M F S ea bs z) (hn0 : -2147483648 ≤ n ∧ n < 2147483648) : (0 ≤ n ∧ n ≤ z → XRet T M F m_X7_trim [.ref 100, .int (iI n)] 10 (some (.int (iI n))) (fun M' F' => CW T M' F' S ea bs n)) ∧ (¬ (0 ≤ n ∧ n ≤ z) → XThr T M F m_X7_trim [.ref 100, .int (iI n)] 10 1 (fun M' F' => CW T M' F' S ea bs z)) := by
  have hW' := hW
  obtain ⟨G1, G2, hT, hS⟩ := hW
  obtain ⟨x0, ⟨x1, x2, x3, x4, x5, x6⟩, xt, -⟩ := id hT
  have tt := xt.2.1
  have h5 := hS.2.2.1.2.1
  have hz := hS.2.2.1.2.2.1
  refine ⟨fun hn => ?_, fun hn => ?_⟩
  · obtain ⟨M1, r1, T1, f1⟩ := c_shorten (n := n) xt hS.2.2.1 (by omega)
    obtain ⟨S5, F5⟩ := hS.tape hT T1 (fun a a1 a2 => f1 a a1)
    refine ⟨M1, F, fun d hd => ?_, ⟨G1, G2, hT, S5⟩, F5⟩
    refine callD_go 9 hd rfl (fun e he => ?_)
    show R e m_X7_trim 0 [.val (.ref 100), .val (.int (iI n))] [] T M F = _
    have r1 := r1 e (by omega)
    clear S5 F5 T1 f1 hT hS hW' xt
    simp (disch := omega) only [x_X7_trim_0, x_X7_trim_1, x_X7_trim_4, x_X7_trim_5, x_X7_trim_6, x_X7_trim_9, x_X7_trim_12, x_X7_trim_15, x_X7_trim_25, x_X7_trim_26, x_X7_trim_29, x_X7_trim_30, x_X7_trim_33, x_X7_trim_34, List.length_cons, List.length_nil, Nat.reduceLeDiff, Nat.zero_add, iI_add, iI_sub, iI_mul, iI_neg, iI_lt, iI_le, iI_eq, jI_iI, B_True, B_False, B_t, B_f, ck_True, gd_True, cb_v, cb_n, p_mv_rw, p_fv_rw, p_rv_some, pA_1, pA_90, pA_92, pA_3, pA_5, pA_93, pA_4, pA_91, pA_6, pS_i, pB_i, pW_i, pZ_0, pZ_1, pZ_b, bI_e0, u1_s, u1_n, uA_s, uA_n, true_and, and_true, not_true_eq_false, not_false_eq_true, eq_self, iI_z, al1, al5, al3, al4, al90, al91, al92, al93, al6, Int.cast_ofNat_Int, Nat.reduceAdd, Int.reduceNeg, Int.reduceAdd, Int.reduceSub, Int.reduceMul, Int.reduceLT, Int.reduceLE, Int.reduceGT, Int.reduceGE, Int.reduceEq, Int.reduceNe, Nat.reduceEqDiff, Int.zero_add, Int.add_zero, p_ty0, p_ty1, p_ty2, p_ty3, p_ty4, p_ty5, p_ty8, p_ty9, p_ty10, x0, x1, tt, h5, r1, gd_t, B_t, B_f]
  · refine ⟨M, fun d hd => ?_, hW', FX.rf⟩
    refine callD_go 9 hd rfl (fun e he => ?_)
    show R e m_X7_trim 0 [.val (.ref 100), .val (.int (iI n))] [] T M F = _
    clear hT hS hW' xt
    by_cases c1 : n < 0
    · simp (disch := omega) only [x_X7_trim_0, x_X7_trim_1, x_X7_trim_4, x_X7_trim_5, x_X7_trim_6, x_X7_trim_9, x_X7_trim_12, x_X7_trim_15, List.length_cons, List.length_nil, Nat.reduceLeDiff, Nat.zero_add, iI_add, iI_sub, iI_mul, iI_neg, iI_lt, iI_le, iI_eq, jI_iI, B_True, B_False, B_t, B_f, ck_True, gd_True, cb_v, cb_n, p_mv_rw, p_fv_rw, p_rv_some, pA_1, pA_90, pA_92, pA_3, pA_5, pA_93, pA_4, pA_91, pA_6, pS_i, pB_i, pW_i, pZ_0, pZ_1, pZ_b, bI_e0, u1_s, u1_n, uA_s, uA_n, true_and, and_true, not_true_eq_false, not_false_eq_true, eq_self, iI_z, al1, al5, al3, al4, al90, al91, al92, al93, al6, Int.cast_ofNat_Int, Nat.reduceAdd, Int.reduceNeg, Int.reduceAdd, Int.reduceSub, Int.reduceMul, Int.reduceLT, Int.reduceLE, Int.reduceGT, Int.reduceGE, Int.reduceEq, Int.reduceNe, Nat.reduceEqDiff, Int.zero_add, Int.add_zero, p_ty0, p_ty1, p_ty2, p_ty3, p_ty4, p_ty5, p_ty8, p_ty9, p_ty10, x0, x1, tt, h5, gd_t, B_t, B_f]
    · simp (disch := omega) only [x_X7_trim_0, x_X7_trim_1, x_X7_trim_4, x_X7_trim_5, x_X7_trim_6, x_X7_trim_9, x_X7_trim_12, x_X7_trim_15, List.length_cons, List.length_nil, Nat.reduceLeDiff, Nat.zero_add, iI_add, iI_sub, iI_mul, iI_neg, iI_lt, iI_le, iI_eq, jI_iI, B_True, B_False, B_t, B_f, ck_True, gd_True, cb_v, cb_n, p_mv_rw, p_fv_rw, p_rv_some, pA_1, pA_90, pA_92, pA_3, pA_5, pA_93, pA_4, pA_91, pA_6, pS_i, pB_i, pW_i, pZ_0, pZ_1, pZ_b, bI_e0, u1_s, u1_n, uA_s, uA_n, true_and, and_true, not_true_eq_false, not_false_eq_true, eq_self, iI_z, al1, al5, al3, al4, al90, al91, al92, al93, al6, Int.cast_ofNat_Int, Nat.reduceAdd, Int.reduceNeg, Int.reduceAdd, Int.reduceSub, Int.reduceMul, Int.reduceLT, Int.reduceLE, Int.reduceGT, Int.reduceGE, Int.reduceEq, Int.reduceNe, Nat.reduceEqDiff, Int.zero_add, Int.add_zero, p_ty0, p_ty1, p_ty2, p_ty3, p_ty4, p_ty5, p_ty8, p_ty9, p_ty10, x0, x1, tt, h5, gd_t, B_t, B_f]
theorem x_legal (hW : CW T M F S ea bs z) (ha0 : -2147483648 ≤ a ∧ a < 2147483648) (hb0 : -2147483648 ≤ b ∧ b < 2147483648) : (0 ≤ a ∧ a < 91 → 0 ≤ b ∧ b < 91 → XRet T M F m_X7_legal [.ref 100, .int (iI a), .int (iI b)] 10 (some (.int (iI (bI (91 * a + b ∈ lgQ S.1 S.2.1 S.2.2.1 S.2.2.2.1))))) (fun M' F' => CW T M' F' S ea bs z)) ∧ (¬ ((0 ≤ a ∧ a < 91) ∧ 0 ≤ b ∧ b < 91) → XThr T M F m_X7_legal [.ref 100, .int (iI a), .int (iI b)] 10 2 (fun M' F' => CW T M' F' S ea bs z)) := by
  have hW' := hW
  obtain ⟨G1, G2, hT, hS⟩ := hW
  obtain ⟨x0, ⟨x1, x2, x3, x4, x5, x6⟩, xt, xr, xc, xw, xg, xg2, hg⟩ := id hT
  refine ⟨fun ha hb => ?_, fun hn => ?_⟩
  · obtain ⟨M1, r1, f1, K1⟩ := c_allows (T := T) (F := F) xg hS.1.1 ha hb
    obtain ⟨S1, F1⟩ := hS.mv hT f1 K1.gk
    refine ⟨M1, F, fun d hd => ?_, ⟨G1, G2, hT, S1⟩, F1⟩
    refine callD_go 9 hd rfl (fun e he => ?_)
    show R e m_X7_legal 0 [.val (.ref 100), .val (.int (iI a)), .val (.int (iI b))] [] T M F = _
    have r1 := r1 e (by omega)
    have e2 := c_isCell (d := e) (T := T) (M := M) (F := F) (k := iI a) (by omega)
    have e3 := c_isCell (d := e) (T := T) (M := M) (F := F) (k := iI b) (by omega)
    rw [jI_iI (by omega) (by omega), bI_t ha] at e2
    rw [jI_iI (by omega) (by omega), bI_t hb] at e3
    have w0 := xg.2.1
    have w1 := xg.1
    clear hT hS S1 F1 K1 hW' f1 xt xr xw xg xg2
    simp (disch := omega) only [x_X7_legal_0, x_X7_legal_1, x_X7_legal_4, x_X7_legal_7, x_X7_legal_8, x_X7_legal_11, x_X7_legal_14, x_X7_legal_24, x_X7_legal_25, x_X7_legal_28, x_X7_legal_29, x_X7_legal_30, x_X7_legal_33, List.length_cons, List.length_nil, Nat.reduceLeDiff, Nat.zero_add, iI_add, iI_sub, iI_mul, iI_neg, iI_lt, iI_le, iI_eq, jI_iI, B_True, B_False, B_t, B_f, ck_True, gd_True, cb_v, cb_n, p_mv_rw, p_fv_rw, p_rv_some, pA_1, pA_90, pA_92, pA_3, pA_5, pA_93, pA_4, pA_91, pA_6, pS_i, pB_i, pW_i, pZ_0, pZ_1, pZ_b, bI_e0, u1_s, u1_n, uA_s, uA_n, true_and, and_true, not_true_eq_false, not_false_eq_true, eq_self, iI_z, al1, al5, al3, al4, al90, al91, al92, al93, al6, Int.cast_ofNat_Int, Nat.reduceAdd, Int.reduceNeg, Int.reduceAdd, Int.reduceSub, Int.reduceMul, Int.reduceLT, Int.reduceLE, Int.reduceGT, Int.reduceGE, Int.reduceEq, Int.reduceNe, Nat.reduceEqDiff, Int.zero_add, Int.add_zero, p_ty0, p_ty1, p_ty2, p_ty3, p_ty4, p_ty5, p_ty8, p_ty9, p_ty10, x0, x5, w0, r1, e2, e3, gd_t, B_t, B_f]
  · refine ⟨M, fun d hd => ?_, hW', FX.rf⟩
    refine callD_go 9 hd rfl (fun e he => ?_)
    show R e m_X7_legal 0 [.val (.ref 100), .val (.int (iI a)), .val (.int (iI b))] [] T M F = _
    have e2 := c_isCell (d := e) (T := T) (M := M) (F := F) (k := iI a) (by omega)
    have e3 := c_isCell (d := e) (T := T) (M := M) (F := F) (k := iI b) (by omega)
    rw [jI_iI (by omega) (by omega)] at e2
    rw [jI_iI (by omega) (by omega)] at e3
    clear hT hS hW' xt xr xw xg xg2
    by_cases c1 : 0 ≤ a ∧ a < 91
    · rw [bI_t c1] at e2
      rw [bI_f (fun q => hn ⟨c1, q⟩)] at e3
      simp (disch := omega) only [x_X7_legal_0, x_X7_legal_1, x_X7_legal_4, x_X7_legal_7, x_X7_legal_8, x_X7_legal_11, x_X7_legal_14, List.length_cons, List.length_nil, Nat.reduceLeDiff, Nat.zero_add, iI_add, iI_sub, iI_mul, iI_neg, iI_lt, iI_le, iI_eq, jI_iI, B_True, B_False, B_t, B_f, ck_True, gd_True, cb_v, cb_n, p_mv_rw, p_fv_rw, p_rv_some, pA_1, pA_90, pA_92, pA_3, pA_5, pA_93, pA_4, pA_91, pA_6, pS_i, pB_i, pW_i, pZ_0, pZ_1, pZ_b, bI_e0, u1_s, u1_n, uA_s, uA_n, true_and, and_true, not_true_eq_false, not_false_eq_true, eq_self, iI_z, al1, al5, al3, al4, al90, al91, al92, al93, al6, Int.cast_ofNat_Int, Nat.reduceAdd, Int.reduceNeg, Int.reduceAdd, Int.reduceSub, Int.reduceMul, Int.reduceLT, Int.reduceLE, Int.reduceGT, Int.reduceGE, Int.reduceEq, Int.reduceNe, Nat.reduceEqDiff, Int.zero_add, Int.add_zero, p_ty0, p_ty1, p_ty2, p_ty3, p_ty4, p_ty5, p_ty8, p_ty9, p_ty10, e2, e3, gd_t, B_t, B_f]
    · rw [bI_f c1] at e2
      simp (disch := omega) only [x_X7_legal_0, x_X7_legal_1, x_X7_legal_4, x_X7_legal_7, x_X7_legal_8, x_X7_legal_11, x_X7_legal_14, List.length_cons, List.length_nil, Nat.reduceLeDiff, Nat.zero_add, iI_add, iI_sub, iI_mul, iI_neg, iI_lt, iI_le, iI_eq, jI_iI, B_True, B_False, B_t, B_f, ck_True, gd_True, cb_v, cb_n, p_mv_rw, p_fv_rw, p_rv_some, pA_1, pA_90, pA_92, pA_3, pA_5, pA_93, pA_4, pA_91, pA_6, pS_i, pB_i, pW_i, pZ_0, pZ_1, pZ_b, bI_e0, u1_s, u1_n, uA_s, uA_n, true_and, and_true, not_true_eq_false, not_false_eq_true, eq_self, iI_z, al1, al5, al3, al4, al90, al91, al92, al93, al6, Int.cast_ofNat_Int, Nat.reduceAdd, Int.reduceNeg, Int.reduceAdd, Int.reduceSub, Int.reduceMul, Int.reduceLT, Int.reduceLE, Int.reduceGT, Int.reduceGE, Int.reduceEq, Int.reduceNe, Nat.reduceEqDiff, Int.zero_add, Int.add_zero, p_ty0, p_ty1, p_ty2, p_ty3, p_ty4, p_ty5, p_ty8, p_ty9, p_ty10, e2, gd_t, B_t, B_f]
theorem x_nth (hW : CW T M F S ea bs z) (hn0 : -2147483648 ≤ n ∧ n < 2147483648) : (0 ≤ n ∧ n < ((lgQ S.1 S.2.1 S.2.2.1 S.2.2.2.1).length : Int) → XRet T M F m_X7_nth [.ref 100, .int (iI n)] 10 (some (.int (iI ((lgQ S.1 S.2.1 S.2.2.1 S.2.2.2.1).getD n.toNat 0)))) (fun M' F' => CW T M' F' S ea bs z)) ∧ (¬ (0 ≤ n ∧ n < ((lgQ S.1 S.2.1 S.2.2.1 S.2.2.2.1).length : Int)) → XThr T M F m_X7_nth [.ref 100, .int (iI n)] 10 2 (fun M' F' => CW T M' F' S ea bs z)) := by
  have hW' := hW
  obtain ⟨G1, G2, hT, hS⟩ := hW
  obtain ⟨x0, ⟨x1, x2, x3, x4, x5, x6⟩, xt, xr, xc, xw, xg, xg2, hg⟩ := id hT
  obtain ⟨M1, r1, f1, K1⟩ := c_moveCount (T := T) (F := F) xg hS.1.1
  obtain ⟨S1, F1⟩ := hS.mv hT f1 K1.gk
  have hl := lgQ_len (q := S.2.2.2.1) K1.len
  have w0 := xg.2.1
  have w1 := xg.1
  refine ⟨fun hn => ?_, fun hn => ?_⟩
  · refine ⟨M1, F, fun d hd => ?_, ⟨G1, G2, hT, S1⟩, F1⟩
    refine callD_go 9 hd rfl (fun e he => ?_)
    show R e m_X7_nth 0 [.val (.ref 100), .val (.int (iI n))] [] T M F = _
    have r1 := r1 e (by omega)
    have hq : lgQ S.1 S.2.1 S.2.2.1 S.2.2.2.1 = lgA S.1 S.2.1 S.2.2.1 := by
      unfold lgQ at hn ⊢
      by_cases c : 60 ≤ S.2.2.2.1
      · rw [if_pos c, List.length_nil] at hn; omega
      · rw [if_neg c]
    have r2 := c_moveAt (d := e) (T := T) (F := F) (n := n.toNat) xg K1.2.2.1 K1.len (by rw [← hq]; omega) (by omega)
    rw [Int.toNat_of_nonneg hn.1, ← hq] at r2
    clear hT hS S1 F1 K1 hW' f1 xt xr xw xg xg2 hq
    simp (disch := omega) only [x_X7_nth_0, x_X7_nth_1, x_X7_nth_4, x_X7_nth_5, x_X7_nth_6, x_X7_nth_9, x_X7_nth_12, x_X7_nth_15, x_X7_nth_25, x_X7_nth_26, x_X7_nth_29, x_X7_nth_30, x_X7_nth_33, List.length_cons, List.length_nil, Nat.reduceLeDiff, Nat.zero_add, iI_add, iI_sub, iI_mul, iI_neg, iI_lt, iI_le, iI_eq, jI_iI, B_True, B_False, B_t, B_f, ck_True, gd_True, cb_v, cb_n, p_mv_rw, p_fv_rw, p_rv_some, pA_1, pA_90, pA_92, pA_3, pA_5, pA_93, pA_4, pA_91, pA_6, pS_i, pB_i, pW_i, pZ_0, pZ_1, pZ_b, bI_e0, u1_s, u1_n, uA_s, uA_n, true_and, and_true, not_true_eq_false, not_false_eq_true, eq_self, iI_z, al1, al5, al3, al4, al90, al91, al92, al93, al6, Int.cast_ofNat_Int, Nat.reduceAdd, Int.reduceNeg, Int.reduceAdd, Int.reduceSub, Int.reduceMul, Int.reduceLT, Int.reduceLE, Int.reduceGT, Int.reduceGE, Int.reduceEq, Int.reduceNe, Nat.reduceEqDiff, Int.zero_add, Int.add_zero, p_ty0, p_ty1, p_ty2, p_ty3, p_ty4, p_ty5, p_ty8, p_ty9, p_ty10, x0, x5, w0, r1, r2, gd_t, B_t, B_f]
  · by_cases c1 : n < 0
    · refine ⟨M, fun d hd => ?_, hW', FX.rf⟩
      refine callD_go 9 hd rfl (fun e he => ?_)
      show R e m_X7_nth 0 [.val (.ref 100), .val (.int (iI n))] [] T M F = _
      clear hT hS S1 F1 K1 hW' f1 xt xr xw xg xg2 r1
      simp (disch := omega) only [x_X7_nth_0, x_X7_nth_1, x_X7_nth_4, x_X7_nth_5, x_X7_nth_6, x_X7_nth_9, x_X7_nth_12, x_X7_nth_15, List.length_cons, List.length_nil, Nat.reduceLeDiff, Nat.zero_add, iI_add, iI_sub, iI_mul, iI_neg, iI_lt, iI_le, iI_eq, jI_iI, B_True, B_False, B_t, B_f, ck_True, gd_True, cb_v, cb_n, p_mv_rw, p_fv_rw, p_rv_some, pA_1, pA_90, pA_92, pA_3, pA_5, pA_93, pA_4, pA_91, pA_6, pS_i, pB_i, pW_i, pZ_0, pZ_1, pZ_b, bI_e0, u1_s, u1_n, uA_s, uA_n, true_and, and_true, not_true_eq_false, not_false_eq_true, eq_self, iI_z, al1, al5, al3, al4, al90, al91, al92, al93, al6, Int.cast_ofNat_Int, Nat.reduceAdd, Int.reduceNeg, Int.reduceAdd, Int.reduceSub, Int.reduceMul, Int.reduceLT, Int.reduceLE, Int.reduceGT, Int.reduceGE, Int.reduceEq, Int.reduceNe, Nat.reduceEqDiff, Int.zero_add, Int.add_zero, p_ty0, p_ty1, p_ty2, p_ty3, p_ty4, p_ty5, p_ty8, p_ty9, p_ty10, x0, x5, w0, gd_t, B_t, B_f]
    · refine ⟨M1, fun d hd => ?_, ⟨G1, G2, hT, S1⟩, F1⟩
      refine callD_go 9 hd rfl (fun e he => ?_)
      show R e m_X7_nth 0 [.val (.ref 100), .val (.int (iI n))] [] T M F = _
      have r1 := r1 e (by omega)
      clear hT hS S1 F1 K1 hW' f1 xt xr xw xg xg2
      simp (disch := omega) only [x_X7_nth_0, x_X7_nth_1, x_X7_nth_4, x_X7_nth_5, x_X7_nth_6, x_X7_nth_9, x_X7_nth_12, x_X7_nth_15, List.length_cons, List.length_nil, Nat.reduceLeDiff, Nat.zero_add, iI_add, iI_sub, iI_mul, iI_neg, iI_lt, iI_le, iI_eq, jI_iI, B_True, B_False, B_t, B_f, ck_True, gd_True, cb_v, cb_n, p_mv_rw, p_fv_rw, p_rv_some, pA_1, pA_90, pA_92, pA_3, pA_5, pA_93, pA_4, pA_91, pA_6, pS_i, pB_i, pW_i, pZ_0, pZ_1, pZ_b, bI_e0, u1_s, u1_n, uA_s, uA_n, true_and, and_true, not_true_eq_false, not_false_eq_true, eq_self, iI_z, al1, al5, al3, al4, al90, al91, al92, al93, al6, Int.cast_ofNat_Int, Nat.reduceAdd, Int.reduceNeg, Int.reduceAdd, Int.reduceSub, Int.reduceMul, Int.reduceLT, Int.reduceLE, Int.reduceGT, Int.reduceGE, Int.reduceEq, Int.reduceNe, Nat.reduceEqDiff, Int.zero_add, Int.add_zero, p_ty0, p_ty1, p_ty2, p_ty3, p_ty4, p_ty5, p_ty8, p_ty9, p_ty10, x0, x5, w0, r1, gd_t, B_t, B_f]
end POWN
