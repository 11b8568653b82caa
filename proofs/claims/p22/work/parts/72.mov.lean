section PMOV
variable {d g G1 G2 : Nat} {T : pT} {M M0 M1 M2 : pM} {F F1 : pF} {bb bs bs1 : Int → Int} {t pas q its to as p z z1 n i c s x er ea k a b : Int} {S S1 : GSx} {D : Nat} {m : pC} {v : List Value}
/-- the state behind a move -/
noncomputable def z_mv (S : GSx) (its to as : Int) : GSx := (mk_bb S.1 S.2.2.1 its to as, 1 - S.2.1, mk_ps S.1 its to, mk_q S.1 S.2.2.1 S.2.2.2.1 its to, (S.1, S.2.1, S.2.2.1, S.2.2.2.1, its, to, as) :: S.2.2.2.2)
theorem x_move (hW : CW T M F S ea bs z) (hH : S.2.2.2.2.length < 620) (ha0 : -2147483648 ≤ a ∧ a < 2147483648) (hb0 : -2147483648 ≤ b ∧ b < 2147483648) (hn0 : -2147483648 ≤ n ∧ n < 2147483648) :
    (0 ≤ a ∧ a < 91 → 0 ≤ b ∧ b < 91 → 2 ≤ n ∧ n ≤ 5 → 91 * a + b ∈ lgQ S.1 S.2.1 S.2.2.1 S.2.2.2.1 → XRet T M F m_X7_move [.ref 100, .int (iI a), .int (iI b), .int (iI n)] 10 (some (.int (iI (S.1 (mk_pl S.1 S.2.2.1 a b) % 10)))) (fun M' F' => CW T M' F' (z_mv S a b n) ea bs z)) ∧
    (¬ ((0 ≤ a ∧ a < 91) ∧ 0 ≤ b ∧ b < 91) → XThr T M F m_X7_move [.ref 100, .int (iI a), .int (iI b), .int (iI n)] 10 2 (fun M' F' => CW T M' F' S ea bs z)) ∧
    (0 ≤ a ∧ a < 91 → 0 ≤ b ∧ b < 91 → ¬ (2 ≤ n ∧ n ≤ 5) → XThr T M F m_X7_move [.ref 100, .int (iI a), .int (iI b), .int (iI n)] 10 1 (fun M' F' => CW T M' F' S ea bs z)) ∧
    (0 ≤ a ∧ a < 91 → 0 ≤ b ∧ b < 91 → 2 ≤ n ∧ n ≤ 5 → ¬ 91 * a + b ∈ lgQ S.1 S.2.1 S.2.2.1 S.2.2.2.1 → XThr T M F m_X7_move [.ref 100, .int (iI a), .int (iI b), .int (iI n)] 10 0 (fun M' F' => CW T M' F' S ea bs z)) := by
  have hW' := hW
  obtain ⟨G1, G2, hT, hS⟩ := hW
  obtain ⟨x0, ⟨x1, x2, x3, x4, x5, x6⟩, xt, xr, xc, xw, xg, xg2, hg⟩ := id hT
  have w0 := xg.2.1
  have w1 := xg.1
  have hfu := fun e (he : 1 ≤ e) => c_isFull (d := e) (T := T) (F := F) (H := S.2.2.2.2) xg hS.1.2.1 (by omega) he
  rw [bI_f (by omega)] at hfu
  have ic : ∀ e, 1 ≤ e → ∀ y : Int, (-2147483648 ≤ y ∧ y < 2147483648) → callD e m_X7_isCell [.int (iI y)] T M F = some (.inl (some (.int (iI (bI (0 ≤ y ∧ y < 91))))), T, M, F) := fun e he y hy => by
    have e2 := c_isCell (d := e) (T := T) (M := M) (F := F) (k := iI y) he
    rwa [jI_iI (by omega) (by omega)] at e2
  refine ⟨fun ha hb hn hL => ?_, fun hn => ?_, fun ha hb hn => ?_, fun ha hb hn hL => ?_⟩
  · obtain ⟨M1, r1, f1, K1⟩ := c_allows (T := T) (F := F) xg hS.1.1 ha hb
    have A1 := hS.1.mv f1 K1
    obtain ⟨z1, z2, z3, z4⟩ := lgQ_mv hL ha hb
    obtain ⟨M2, r2, A2, gf⟩ := c_make (T := T) (F := F) xg A1 z1 hH z3 hn
    obtain ⟨S2, F2⟩ := hS.upd (M1 := M2) (S1 := z_mv S a b n) (F := F) hT A2 (fun y hy => (gf y hy).trans (f1.o y hy))
    refine ⟨M2, F, fun d hd => ?_, ⟨G1, G2, hT, S2⟩, F2⟩
    refine callD_go 9 hd rfl (fun e he => ?_)
    show R e m_X7_move 0 [.val (.ref 100), .val (.int (iI a)), .val (.int (iI b)), .val (.int (iI n))] [] T M F = _
    have r1 := r1 e (by omega)
    have r2 := r2 e (by omega)
    rw [bI_t hL] at r1
    have hfu := hfu e (by omega)
    have e2 := ic e (by omega) a ha0
    have e3 := ic e (by omega) b hb0
    rw [bI_t ha] at e2
    rw [bI_t hb] at e3
    clear hT hS S2 F2 A2 A1 K1 hW' f1 gf xt xr xw xg xg2 ic hL z1 z2 z3 z4
    simp (disch := omega) only [x_X7_move_0, x_X7_move_1, x_X7_move_4, x_X7_move_7, x_X7_move_8, x_X7_move_11, x_X7_move_14, x_X7_move_24, x_X7_move_25, x_X7_move_26, x_X7_move_29, x_X7_move_30, x_X7_move_31, x_X7_move_34, x_X7_move_44, x_X7_move_45, x_X7_move_48, x_X7_move_51, x_X7_move_54, x_X7_move_55, x_X7_move_58, x_X7_move_59, x_X7_move_60, x_X7_move_63, x_X7_move_66, x_X7_move_76, x_X7_move_77, x_X7_move_80, x_X7_move_81, x_X7_move_82, x_X7_move_83, x_X7_move_86, List.length_cons, List.length_nil, Nat.reduceLeDiff, Nat.zero_add, iI_add, iI_sub, iI_mul, iI_neg, iI_lt, iI_le, iI_eq, jI_iI, B_True, B_False, B_t, B_f, ck_True, gd_True, cb_v, cb_n, p_mv_rw, p_fv_rw, p_rv_some, pA_1, pA_90, pA_92, pA_3, pA_5, pA_93, pA_4, pA_91, pA_6, pS_i, pB_i, pW_i, pZ_0, pZ_1, pZ_b, bI_e0, u1_s, u1_n, uA_s, uA_n, true_and, and_true, not_true_eq_false, not_false_eq_true, eq_self, iI_z, al1, al5, al3, al4, al90, al91, al92, al93, al6, Int.cast_ofNat_Int, Nat.reduceAdd, Int.reduceNeg, Int.reduceAdd, Int.reduceSub, Int.reduceMul, Int.reduceLT, Int.reduceLE, Int.reduceGT, Int.reduceGE, Int.reduceEq, Int.reduceNe, Nat.reduceEqDiff, Int.zero_add, Int.add_zero, p_ty0, p_ty1, p_ty2, p_ty3, p_ty4, p_ty5, p_ty8, p_ty9, p_ty10, x0, x5, w0, r1, r2, e2, e3, hfu, gd_t, B_t, B_f]
  · refine ⟨M, fun d hd => ?_, hW', FX.rf⟩
    refine callD_go 9 hd rfl (fun e he => ?_)
    show R e m_X7_move 0 [.val (.ref 100), .val (.int (iI a)), .val (.int (iI b)), .val (.int (iI n))] [] T M F = _
    have e2 := ic e (by omega) a ha0
    have e3 := ic e (by omega) b hb0
    clear hT hS hW' xt xr xw xg xg2 ic hfu
    by_cases c1 : 0 ≤ a ∧ a < 91
    · rw [bI_t c1] at e2
      rw [bI_f (fun q => hn ⟨c1, q⟩)] at e3
      simp (disch := omega) only [x_X7_move_0, x_X7_move_1, x_X7_move_4, x_X7_move_7, x_X7_move_8, x_X7_move_11, x_X7_move_14, List.length_cons, List.length_nil, Nat.reduceLeDiff, Nat.zero_add, iI_add, iI_sub, iI_mul, iI_neg, iI_lt, iI_le, iI_eq, jI_iI, B_True, B_False, B_t, B_f, ck_True, gd_True, cb_v, cb_n, p_mv_rw, p_fv_rw, p_rv_some, pA_1, pA_90, pA_92, pA_3, pA_5, pA_93, pA_4, pA_91, pA_6, pS_i, pB_i, pW_i, pZ_0, pZ_1, pZ_b, bI_e0, u1_s, u1_n, uA_s, uA_n, true_and, and_true, not_true_eq_false, not_false_eq_true, eq_self, iI_z, al1, al5, al3, al4, al90, al91, al92, al93, al6, Int.cast_ofNat_Int, Nat.reduceAdd, Int.reduceNeg, Int.reduceAdd, Int.reduceSub, Int.reduceMul, Int.reduceLT, Int.reduceLE, Int.reduceGT, Int.reduceGE, Int.reduceEq, Int.reduceNe, Nat.reduceEqDiff, Int.zero_add, Int.add_zero, p_ty0, p_ty1, p_ty2, p_ty3, p_ty4, p_ty5, p_ty8, p_ty9, p_ty10, e2, e3, gd_t, B_t, B_f]
    · rw [bI_f c1] at e2
      simp (disch := omega) only [x_X7_move_0, x_X7_move_1, x_X7_move_4, x_X7_move_7, x_X7_move_8, x_X7_move_11, x_X7_move_14, List.length_cons, List.length_nil, Nat.reduceLeDiff, Nat.zero_add, iI_add, iI_sub, iI_mul, iI_neg, iI_lt, iI_le, iI_eq, jI_iI, B_True, B_False, B_t, B_f, ck_True, gd_True, cb_v, cb_n, p_mv_rw, p_fv_rw, p_rv_some, pA_1, pA_90, pA_92, pA_3, pA_5, pA_93, pA_4, pA_91, pA_6, pS_i, pB_i, pW_i, pZ_0, pZ_1, pZ_b, bI_e0, u1_s, u1_n, uA_s, uA_n, true_and, and_true, not_true_eq_false, not_false_eq_true, eq_self, iI_z, al1, al5, al3, al4, al90, al91, al92, al93, al6, Int.cast_ofNat_Int, Nat.reduceAdd, Int.reduceNeg, Int.reduceAdd, Int.reduceSub, Int.reduceMul, Int.reduceLT, Int.reduceLE, Int.reduceGT, Int.reduceGE, Int.reduceEq, Int.reduceNe, Nat.reduceEqDiff, Int.zero_add, Int.add_zero, p_ty0, p_ty1, p_ty2, p_ty3, p_ty4, p_ty5, p_ty8, p_ty9, p_ty10, e2, gd_t, B_t, B_f]
  · refine ⟨M, fun d hd => ?_, hW', FX.rf⟩
    refine callD_go 9 hd rfl (fun e he => ?_)
    show R e m_X7_move 0 [.val (.ref 100), .val (.int (iI a)), .val (.int (iI b)), .val (.int (iI n))] [] T M F = _
    have e2 := ic e (by omega) a ha0
    have e3 := ic e (by omega) b hb0
    rw [bI_t ha] at e2
    rw [bI_t hb] at e3
    clear hT hS hW' xt xr xw xg xg2 ic hfu
    by_cases c1 : n < 2
    · simp (disch := omega) only [x_X7_move_0, x_X7_move_1, x_X7_move_4, x_X7_move_7, x_X7_move_8, x_X7_move_11, x_X7_move_14, x_X7_move_24, x_X7_move_25, x_X7_move_26, x_X7_move_29, x_X7_move_30, x_X7_move_31, x_X7_move_34, List.length_cons, List.length_nil, Nat.reduceLeDiff, Nat.zero_add, iI_add, iI_sub, iI_mul, iI_neg, iI_lt, iI_le, iI_eq, jI_iI, B_True, B_False, B_t, B_f, ck_True, gd_True, cb_v, cb_n, p_mv_rw, p_fv_rw, p_rv_some, pA_1, pA_90, pA_92, pA_3, pA_5, pA_93, pA_4, pA_91, pA_6, pS_i, pB_i, pW_i, pZ_0, pZ_1, pZ_b, bI_e0, u1_s, u1_n, uA_s, uA_n, true_and, and_true, not_true_eq_false, not_false_eq_true, eq_self, iI_z, al1, al5, al3, al4, al90, al91, al92, al93, al6, Int.cast_ofNat_Int, Nat.reduceAdd, Int.reduceNeg, Int.reduceAdd, Int.reduceSub, Int.reduceMul, Int.reduceLT, Int.reduceLE, Int.reduceGT, Int.reduceGE, Int.reduceEq, Int.reduceNe, Nat.reduceEqDiff, Int.zero_add, Int.add_zero, p_ty0, p_ty1, p_ty2, p_ty3, p_ty4, p_ty5, p_ty8, p_ty9, p_ty10, e2, e3, gd_t, B_t, B_f]
    · simp (disch := omega) only [x_X7_move_0, x_X7_move_1, x_X7_move_4, x_X7_move_7, x_X7_move_8, x_X7_move_11, x_X7_move_14, x_X7_move_24, x_X7_move_25, x_X7_move_26, x_X7_move_29, x_X7_move_30, x_X7_move_31, x_X7_move_34, List.length_cons, List.length_nil, Nat.reduceLeDiff, Nat.zero_add, iI_add, iI_sub, iI_mul, iI_neg, iI_lt, iI_le, iI_eq, jI_iI, B_True, B_False, B_t, B_f, ck_True, gd_True, cb_v, cb_n, p_mv_rw, p_fv_rw, p_rv_some, pA_1, pA_90, pA_92, pA_3, pA_5, pA_93, pA_4, pA_91, pA_6, pS_i, pB_i, pW_i, pZ_0, pZ_1, pZ_b, bI_e0, u1_s, u1_n, uA_s, uA_n, true_and, and_true, not_true_eq_false, not_false_eq_true, eq_self, iI_z, al1, al5, al3, al4, al90, al91, al92, al93, al6, Int.cast_ofNat_Int, Nat.reduceAdd, Int.reduceNeg, Int.reduceAdd, Int.reduceSub, Int.reduceMul, Int.reduceLT, Int.reduceLE, Int.reduceGT, Int.reduceGE, Int.reduceEq, Int.reduceNe, Nat.reduceEqDiff, Int.zero_add, Int.add_zero, p_ty0, p_ty1, p_ty2, p_ty3, p_ty4, p_ty5, p_ty8, p_ty9, p_ty10, e2, e3, gd_t, B_t, B_f]
  · obtain ⟨M1, r1, f1, K1⟩ := c_allows (T := T) (F := F) xg hS.1.1 ha hb
    obtain ⟨S2, F2⟩ := hS.mv (F := F) hT f1 K1.gk
    refine ⟨M1, fun d hd => ?_, ⟨G1, G2, hT, S2⟩, F2⟩
    refine callD_go 9 hd rfl (fun e he => ?_)
    show R e m_X7_move 0 [.val (.ref 100), .val (.int (iI a)), .val (.int (iI b)), .val (.int (iI n))] [] T M F = _
    have r1 := r1 e (by omega)
    rw [bI_f hL] at r1
    have hfu := hfu e (by omega)
    have e2 := ic e (by omega) a ha0
    have e3 := ic e (by omega) b hb0
    rw [bI_t ha] at e2
    rw [bI_t hb] at e3
    clear hT hS S2 F2 K1 hW' f1 xt xr xw xg xg2 ic hL
    simp (disch := omega) only [x_X7_move_0, x_X7_move_1, x_X7_move_4, x_X7_move_7, x_X7_move_8, x_X7_move_11, x_X7_move_14, x_X7_move_24, x_X7_move_25, x_X7_move_26, x_X7_move_29, x_X7_move_30, x_X7_move_31, x_X7_move_34, x_X7_move_44, x_X7_move_45, x_X7_move_48, x_X7_move_51, x_X7_move_54, x_X7_move_55, x_X7_move_58, x_X7_move_59, x_X7_move_60, x_X7_move_63, x_X7_move_66, List.length_cons, List.length_nil, Nat.reduceLeDiff, Nat.zero_add, iI_add, iI_sub, iI_mul, iI_neg, iI_lt, iI_le, iI_eq, jI_iI, B_True, B_False, B_t, B_f, ck_True, gd_True, cb_v, cb_n, p_mv_rw, p_fv_rw, p_rv_some, pA_1, pA_90, pA_92, pA_3, pA_5, pA_93, pA_4, pA_91, pA_6, pS_i, pB_i, pW_i, pZ_0, pZ_1, pZ_b, bI_e0, u1_s, u1_n, uA_s, uA_n, true_and, and_true, not_true_eq_false, not_false_eq_true, eq_self, iI_z, al1, al5, al3, al4, al90, al91, al92, al93, al6, Int.cast_ofNat_Int, Nat.reduceAdd, Int.reduceNeg, Int.reduceAdd, Int.reduceSub, Int.reduceMul, Int.reduceLT, Int.reduceLE, Int.reduceGT, Int.reduceGE, Int.reduceEq, Int.reduceNe, Nat.reduceEqDiff, Int.zero_add, Int.add_zero, p_ty0, p_ty1, p_ty2, p_ty3, p_ty4, p_ty5, p_ty8, p_ty9, p_ty10, x0, x5, w0, r1, e2, e3, hfu, gd_t, B_t, B_f]
/-- the state behind back -/
def z_bk (b : Int → Int) (t p q : Int) (H : List HE) : GSx := (b, t, p, q, H)
theorem x_back (hW : CW T M F S ea bs z) (hH : S.2.2.2.2.length < 620) :
    (∀ (b0 : Int → Int) (t0 p0 q0 i0 o0 a0 : Int) (H : List HE), S.2.2.2.2 = (b0, t0, p0, q0, i0, o0, a0) :: H → XRet T M F m_X7_back [.ref 100] 10 (some (.int (iI (H.length : Int)))) (fun M' F' => CW T M' F' (b0, t0, p0, q0, H) ea bs z)) ∧
    (S.2.2.2.2 = [] → XThr T M F m_X7_back [.ref 100] 10 0 (fun M' F' => CW T M' F' S ea bs z)) := by
  have hW' := hW
  obtain ⟨G1, G2, hT, hS⟩ := hW
  obtain ⟨x0, ⟨x1, x2, x3, x4, x5, x6⟩, xt, xr, xc, xw, xg, xg2, hg⟩ := id hT
  have w0 := xg.2.1
  have w1 := xg.1
  have h5 := hS.1.2.1
  refine ⟨fun b0 t0 p0 q0 i0 o0 a0 H hE => ?_, fun hE => ?_⟩
  · have hA : GA M G1 ((b0, t0, p0, q0, i0, o0, a0) :: H) S.1 S.2.1 S.2.2.1 S.2.2.2.1 := by rw [← hE]; exact hS.1
    rw [hE, List.length_cons] at h5 hH
    obtain ⟨M2, r2, A2, gf⟩ := c_takeBack (T := T) (F := F) xg hA (by omega)
    obtain ⟨S2, F2⟩ := hS.upd (M1 := M2) (S1 := (b0, t0, p0, q0, H)) (F := F) hT A2 gf
    have h6 := A2.2.1
    refine ⟨M2, F, fun d hd => ?_, ⟨G1, G2, hT, S2⟩, F2⟩
    refine callD_go 9 hd rfl (fun e he => ?_)
    show R e m_X7_back 0 [.val (.ref 100)] [] T M F = _
    have r2 := r2 e (by omega)
    clear hT hS S2 F2 A2 hW' gf xt xr xw xg xg2 hA hE
    simp (disch := omega) only [x_X7_back_0, x_X7_back_1, x_X7_back_4, x_X7_back_7, x_X7_back_10, x_X7_back_20, x_X7_back_21, x_X7_back_24, x_X7_back_27, x_X7_back_28, x_X7_back_31, x_X7_back_34, List.length_cons, List.length_nil, Nat.reduceLeDiff, Nat.zero_add, iI_add, iI_sub, iI_mul, iI_neg, iI_lt, iI_le, iI_eq, jI_iI, B_True, B_False, B_t, B_f, ck_True, gd_True, cb_v, cb_n, p_mv_rw, p_fv_rw, p_rv_some, pA_1, pA_90, pA_92, pA_3, pA_5, pA_93, pA_4, pA_91, pA_6, pS_i, pB_i, pW_i, pZ_0, pZ_1, pZ_b, bI_e0, u1_s, u1_n, uA_s, uA_n, true_and, and_true, not_true_eq_false, not_false_eq_true, eq_self, iI_z, al1, al5, al3, al4, al90, al91, al92, al93, al6, Int.cast_ofNat_Int, Nat.reduceAdd, Int.reduceNeg, Int.reduceAdd, Int.reduceSub, Int.reduceMul, Int.reduceLT, Int.reduceLE, Int.reduceGT, Int.reduceGE, Int.reduceEq, Int.reduceNe, Nat.reduceEqDiff, Int.zero_add, Int.add_zero, p_ty0, p_ty1, p_ty2, p_ty3, p_ty4, p_ty5, p_ty8, p_ty9, p_ty10, x0, x5, w0, r2, h5, h6, gd_t, B_t, B_f]
  · rw [hE, List.length_nil] at h5
    refine ⟨M, fun d hd => ?_, hW', FX.rf⟩
    refine callD_go 9 hd rfl (fun e he => ?_)
    show R e m_X7_back 0 [.val (.ref 100)] [] T M F = _
    clear hT hS hW' xt xr xw xg xg2 hE hH
    simp (disch := omega) only [x_X7_back_0, x_X7_back_1, x_X7_back_4, x_X7_back_7, x_X7_back_10, List.length_cons, List.length_nil, Nat.reduceLeDiff, Nat.zero_add, iI_add, iI_sub, iI_mul, iI_neg, iI_lt, iI_le, iI_eq, jI_iI, B_True, B_False, B_t, B_f, ck_True, gd_True, cb_v, cb_n, p_mv_rw, p_fv_rw, p_rv_some, pA_1, pA_90, pA_92, pA_3, pA_5, pA_93, pA_4, pA_91, pA_6, pS_i, pB_i, pW_i, pZ_0, pZ_1, pZ_b, bI_e0, u1_s, u1_n, uA_s, uA_n, true_and, and_true, not_true_eq_false, not_false_eq_true, eq_self, iI_z, al1, al5, al3, al4, al90, al91, al92, al93, al6, Int.cast_ofNat_Int, Nat.reduceAdd, Int.reduceNeg, Int.reduceAdd, Int.reduceSub, Int.reduceMul, Int.reduceLT, Int.reduceLE, Int.reduceGT, Int.reduceGE, Int.reduceEq, Int.reduceNe, Nat.reduceEqDiff, Int.zero_add, Int.add_zero, p_ty0, p_ty1, p_ty2, p_ty3, p_ty4, p_ty5, p_ty8, p_ty9, p_ty10, x0, x5, w0, h5, gd_t, B_t, B_f, Int.natCast_zero]
noncomputable def z_lin (S : GSx) (n : Int) : Int := if n = 1 then ((lgQ S.1 S.2.1 S.2.2.1 S.2.2.2.1).length : Int) else rpl S.1 S.2.1 S.2.2.1 S.2.2.2.1 (lgQ S.1 S.2.1 S.2.2.1 S.2.2.2.1)
theorem x_lines (hW : CW T M F S ea bs z) (hn0 : -2147483648 ≤ n ∧ n < 2147483648) : (n = 1 ∨ n = 2 → XRet T M F m_X7_lines [.ref 100, .int (iI n)] 10 (some (.int (iI (z_lin S n)))) (fun M' F' => CW T M' F' S ea bs z)) ∧ (¬ (n = 1 ∨ n = 2) → XThr T M F m_X7_lines [.ref 100, .int (iI n)] 10 1 (fun M' F' => CW T M' F' S ea bs z)) := by
  have hW' := hW
  obtain ⟨G1, G2, hT, hS⟩ := hW
  obtain ⟨x0, ⟨x1, x2, x3, x4, x5, x6⟩, xt, xr, xc, xw, xg, xg2, hg⟩ := id hT
  have w0 := xg.2.1
  have w1 := xg.1
  refine ⟨fun hn => ?_, fun hn => ?_⟩
  · rcases hn with rfl | rfl
    · obtain ⟨M1, r1, f1, K1⟩ := c_moveCount (T := T) (F := F) xg hS.1.1
      obtain ⟨S1, F1⟩ := hS.mv (F := F) hT f1 K1.gk
      refine ⟨M1, F, fun d hd => ?_, ⟨G1, G2, hT, S1⟩, F1⟩
      refine callD_go 9 hd rfl (fun e he => ?_)
      show R e m_X7_lines 0 [.val (.ref 100), .val (.int (iI 1))] [] T M F = _
      have r1 := r1 e (by omega)
      rw [show z_lin S 1 = ((lgQ S.1 S.2.1 S.2.2.1 S.2.2.2.1).length : Int) from rfl]
      clear hT hS S1 F1 K1 hW' f1 xt xr xw xg xg2
      simp (disch := omega) only [x_X7_lines_0, x_X7_lines_1, x_X7_lines_2, x_X7_lines_5, x_X7_lines_6, x_X7_lines_7, x_X7_lines_10, x_X7_lines_20, x_X7_lines_21, x_X7_lines_22, x_X7_lines_25, x_X7_lines_26, x_X7_lines_29, x_X7_lines_32, x_X7_lines_35, x_X7_lines_36, x_X7_lines_39, x_X7_lines_42, List.length_cons, List.length_nil, Nat.reduceLeDiff, Nat.zero_add, iI_add, iI_sub, iI_mul, iI_neg, iI_lt, iI_le, iI_eq, jI_iI, B_True, B_False, B_t, B_f, ck_True, gd_True, cb_v, cb_n, p_mv_rw, p_fv_rw, p_rv_some, pA_1, pA_90, pA_92, pA_3, pA_5, pA_93, pA_4, pA_91, pA_6, pS_i, pB_i, pW_i, pZ_0, pZ_1, pZ_b, bI_e0, u1_s, u1_n, uA_s, uA_n, true_and, and_true, not_true_eq_false, not_false_eq_true, eq_self, iI_z, al1, al5, al3, al4, al90, al91, al92, al93, al6, Int.cast_ofNat_Int, Nat.reduceAdd, Int.reduceNeg, Int.reduceAdd, Int.reduceSub, Int.reduceMul, Int.reduceLT, Int.reduceLE, Int.reduceGT, Int.reduceGE, Int.reduceEq, Int.reduceNe, Nat.reduceEqDiff, Int.zero_add, Int.add_zero, p_ty0, p_ty1, p_ty2, p_ty3, p_ty4, p_ty5, p_ty8, p_ty9, p_ty10, x0, x5, w0, r1, gd_t, B_t, B_f]
    · obtain ⟨M1, r1, K1, f1, f5⟩ := c_repliesToAll (T := T) (F := F) xg hS.1.1
      obtain ⟨S1, F1⟩ := XS.try (F := F) hT hS K1 f1 f5
      refine ⟨M1, F, fun d hd => ?_, ⟨G1, G2, hT, S1⟩, F1⟩
      refine callD_go 9 hd rfl (fun e he => ?_)
      show R e m_X7_lines 0 [.val (.ref 100), .val (.int (iI 2))] [] T M F = _
      have r1 := r1 e (by omega)
      rw [show z_lin S 2 = rpl S.1 S.2.1 S.2.2.1 S.2.2.2.1 (lgQ S.1 S.2.1 S.2.2.1 S.2.2.2.1) from rfl]
      clear hT hS S1 F1 K1 hW' f1 xt xr xw xg xg2
      simp (disch := omega) only [x_X7_lines_0, x_X7_lines_1, x_X7_lines_2, x_X7_lines_5, x_X7_lines_6, x_X7_lines_7, x_X7_lines_10, x_X7_lines_20, x_X7_lines_21, x_X7_lines_22, x_X7_lines_25, x_X7_lines_26, x_X7_lines_29, x_X7_lines_32, x_X7_lines_35, x_X7_lines_36, x_X7_lines_39, x_X7_lines_42, List.length_cons, List.length_nil, Nat.reduceLeDiff, Nat.zero_add, iI_add, iI_sub, iI_mul, iI_neg, iI_lt, iI_le, iI_eq, jI_iI, B_True, B_False, B_t, B_f, ck_True, gd_True, cb_v, cb_n, p_mv_rw, p_fv_rw, p_rv_some, pA_1, pA_90, pA_92, pA_3, pA_5, pA_93, pA_4, pA_91, pA_6, pS_i, pB_i, pW_i, pZ_0, pZ_1, pZ_b, bI_e0, u1_s, u1_n, uA_s, uA_n, true_and, and_true, not_true_eq_false, not_false_eq_true, eq_self, iI_z, al1, al5, al3, al4, al90, al91, al92, al93, al6, Int.cast_ofNat_Int, Nat.reduceAdd, Int.reduceNeg, Int.reduceAdd, Int.reduceSub, Int.reduceMul, Int.reduceLT, Int.reduceLE, Int.reduceGT, Int.reduceGE, Int.reduceEq, Int.reduceNe, Nat.reduceEqDiff, Int.zero_add, Int.add_zero, p_ty0, p_ty1, p_ty2, p_ty3, p_ty4, p_ty5, p_ty8, p_ty9, p_ty10, x0, x5, w0, r1, gd_t, B_t, B_f]
  · refine ⟨M, fun d hd => ?_, hW', FX.rf⟩
    refine callD_go 9 hd rfl (fun e he => ?_)
    show R e m_X7_lines 0 [.val (.ref 100), .val (.int (iI n))] [] T M F = _
    clear hT hS hW' xt xr xw xg xg2
    simp (disch := omega) only [x_X7_lines_0, x_X7_lines_1, x_X7_lines_2, x_X7_lines_5, x_X7_lines_6, x_X7_lines_7, x_X7_lines_10, List.length_cons, List.length_nil, Nat.reduceLeDiff, Nat.zero_add, iI_add, iI_sub, iI_mul, iI_neg, iI_lt, iI_le, iI_eq, jI_iI, B_True, B_False, B_t, B_f, ck_True, gd_True, cb_v, cb_n, p_mv_rw, p_fv_rw, p_rv_some, pA_1, pA_90, pA_92, pA_3, pA_5, pA_93, pA_4, pA_91, pA_6, pS_i, pB_i, pW_i, pZ_0, pZ_1, pZ_b, bI_e0, u1_s, u1_n, uA_s, uA_n, true_and, and_true, not_true_eq_false, not_false_eq_true, eq_self, iI_z, al1, al5, al3, al4, al90, al91, al92, al93, al6, Int.cast_ofNat_Int, Nat.reduceAdd, Int.reduceNeg, Int.reduceAdd, Int.reduceSub, Int.reduceMul, Int.reduceLT, Int.reduceLE, Int.reduceGT, Int.reduceGE, Int.reduceEq, Int.reduceNe, Nat.reduceEqDiff, Int.zero_add, Int.add_zero, p_ty0, p_ty1, p_ty2, p_ty3, p_ty4, p_ty5, p_ty8, p_ty9, p_ty10, gd_t, B_t, B_f]
theorem x_hanging (hW : CW T M F S ea bs z) (hn0 : -2147483648 ≤ n ∧ n < 2147483648) : (n = 0 ∨ n = 1 → XRet T M F m_X7_hanging [.ref 100, .int (iI n)] 10 (some (.int (iI (hgd S.1 n 91 0 (-1) 0)))) (fun M' F' => CW T M' F' S ea bs z)) ∧ (¬ (n = 0 ∨ n = 1) → XThr T M F m_X7_hanging [.ref 100, .int (iI n)] 10 2 (fun M' F' => CW T M' F' S ea bs z)) := by
  have hW' := hW
  obtain ⟨G1, G2, hT, hS⟩ := hW
  obtain ⟨x0, ⟨x1, x2, x3, x4, x5, x6⟩, xt, xr, xc, xw, xg, xg2, hg⟩ := id hT
  have w0 := xg.2.1
  refine ⟨fun hn => ?_, fun hn => ?_⟩
  · refine ⟨M, F, fun d hd => ?_, hW', FX.rf⟩
    refine callD_go 9 hd rfl (fun e he => ?_)
    show R e m_X7_hanging 0 [.val (.ref 100), .val (.int (iI n))] [] T M F = _
    have r1 := c_dearest (d := e) (T := T) (F := F) xg hS.1.gs hn (by omega)
    clear hT hS hW' xt xr xw xg xg2
    rcases hn with rfl | rfl
    · simp (disch := omega) only [x_X7_hanging_0, x_X7_hanging_1, x_X7_hanging_4, x_X7_hanging_5, x_X7_hanging_6, x_X7_hanging_9, x_X7_hanging_19, x_X7_hanging_20, x_X7_hanging_23, x_X7_hanging_24, x_X7_hanging_27, List.length_cons, List.length_nil, Nat.reduceLeDiff, Nat.zero_add, iI_add, iI_sub, iI_mul, iI_neg, iI_lt, iI_le, iI_eq, jI_iI, B_True, B_False, B_t, B_f, ck_True, gd_True, cb_v, cb_n, p_mv_rw, p_fv_rw, p_rv_some, pA_1, pA_90, pA_92, pA_3, pA_5, pA_93, pA_4, pA_91, pA_6, pS_i, pB_i, pW_i, pZ_0, pZ_1, pZ_b, bI_e0, u1_s, u1_n, uA_s, uA_n, true_and, and_true, not_true_eq_false, not_false_eq_true, eq_self, iI_z, al1, al5, al3, al4, al90, al91, al92, al93, al6, Int.cast_ofNat_Int, Nat.reduceAdd, Int.reduceNeg, Int.reduceAdd, Int.reduceSub, Int.reduceMul, Int.reduceLT, Int.reduceLE, Int.reduceGT, Int.reduceGE, Int.reduceEq, Int.reduceNe, Nat.reduceEqDiff, Int.zero_add, Int.add_zero, p_ty0, p_ty1, p_ty2, p_ty3, p_ty4, p_ty5, p_ty8, p_ty9, p_ty10, x0, x5, w0, r1, gd_t, B_t, B_f]
    · simp (disch := omega) only [x_X7_hanging_0, x_X7_hanging_1, x_X7_hanging_4, x_X7_hanging_5, x_X7_hanging_6, x_X7_hanging_9, x_X7_hanging_19, x_X7_hanging_20, x_X7_hanging_23, x_X7_hanging_24, x_X7_hanging_27, List.length_cons, List.length_nil, Nat.reduceLeDiff, Nat.zero_add, iI_add, iI_sub, iI_mul, iI_neg, iI_lt, iI_le, iI_eq, jI_iI, B_True, B_False, B_t, B_f, ck_True, gd_True, cb_v, cb_n, p_mv_rw, p_fv_rw, p_rv_some, pA_1, pA_90, pA_92, pA_3, pA_5, pA_93, pA_4, pA_91, pA_6, pS_i, pB_i, pW_i, pZ_0, pZ_1, pZ_b, bI_e0, u1_s, u1_n, uA_s, uA_n, true_and, and_true, not_true_eq_false, not_false_eq_true, eq_self, iI_z, al1, al5, al3, al4, al90, al91, al92, al93, al6, Int.cast_ofNat_Int, Nat.reduceAdd, Int.reduceNeg, Int.reduceAdd, Int.reduceSub, Int.reduceMul, Int.reduceLT, Int.reduceLE, Int.reduceGT, Int.reduceGE, Int.reduceEq, Int.reduceNe, Nat.reduceEqDiff, Int.zero_add, Int.add_zero, p_ty0, p_ty1, p_ty2, p_ty3, p_ty4, p_ty5, p_ty8, p_ty9, p_ty10, x0, x5, w0, r1, gd_t, B_t, B_f]
  · refine ⟨M, fun d hd => ?_, hW', FX.rf⟩
    refine callD_go 9 hd rfl (fun e he => ?_)
    show R e m_X7_hanging 0 [.val (.ref 100), .val (.int (iI n))] [] T M F = _
    clear hT hS hW' xt xr xw xg xg2
    simp (disch := omega) only [x_X7_hanging_0, x_X7_hanging_1, x_X7_hanging_4, x_X7_hanging_5, x_X7_hanging_6, x_X7_hanging_9, List.length_cons, List.length_nil, Nat.reduceLeDiff, Nat.zero_add, iI_add, iI_sub, iI_mul, iI_neg, iI_lt, iI_le, iI_eq, jI_iI, B_True, B_False, B_t, B_f, ck_True, gd_True, cb_v, cb_n, p_mv_rw, p_fv_rw, p_rv_some, pA_1, pA_90, pA_92, pA_3, pA_5, pA_93, pA_4, pA_91, pA_6, pS_i, pB_i, pW_i, pZ_0, pZ_1, pZ_b, bI_e0, u1_s, u1_n, uA_s, uA_n, true_and, and_true, not_true_eq_false, not_false_eq_true, eq_self, iI_z, al1, al5, al3, al4, al90, al91, al92, al93, al6, Int.cast_ofNat_Int, Nat.reduceAdd, Int.reduceNeg, Int.reduceAdd, Int.reduceSub, Int.reduceMul, Int.reduceLT, Int.reduceLE, Int.reduceGT, Int.reduceGE, Int.reduceEq, Int.reduceNe, Nat.reduceEqDiff, Int.zero_add, Int.add_zero, p_ty0, p_ty1, p_ty2, p_ty3, p_ty4, p_ty5, p_ty8, p_ty9, p_ty10, gd_t, B_t, B_f]
theorem x_mean (hW : CW T M F S ea bs z) : XRet T M F m_X7_mean [.ref 100] 10 (some (.double (z_mean S))) (fun M' F' => CW T M' F' S ea bs z) := by
  have hW' := hW
  obtain ⟨G1, G2, hT, hS⟩ := hW
  obtain ⟨x0, ⟨x1, x2, x3, x4, x5, x6⟩, xt, xr, xc, xw, xg, xg2, hg⟩ := id hT
  have w0 := xg.2.1
  have w1 := xg.1
  have f0 := xg.2.2.1
  have tb := xg.2.2.2.1.2.1
  obtain ⟨M1, r1, f1, K1⟩ := c_moveCount (T := T) (F := F) xg hS.1.1
  obtain ⟨S1, F1⟩ := hS.mv (F := F) hT f1 K1.gk
  have hok := z_mean_ok hS.1.1.2.2.1 hS.1.gs.2.2.2.2.1 (lgQ_len K1.len)
  have h1 := hS.1.gs.2.1
  have hp := fun e (he : 2 ≤ e) => c_pieces (d := e) (T := T) (F := F) xg.2.2.2.1 hS.1.gs.1 he hS.1.gs.2.2.2.2.1
  have hpr := sm_rg (f := a_pc S.1 S.2.1) (a := 0) (b := 1) (fun i => bI_rg _) 91
  unfold z_mean at hok ⊢
  by_cases c : sm (a_pc S.1 S.2.1) 91 = 0
  · rw [if_pos c]
    refine ⟨M, F, fun d hd => ?_, hW', FX.rf⟩
    refine callD_go 9 hd rfl (fun e he => ?_)
    show R e m_X7_mean 0 [.val (.ref 100), .unset] [] T M F = _
    have hp := hp e (by omega)
    rw [c] at hp
    clear hT hS S1 F1 K1 f1 xt xr xw xg xg2 hW' hok hpr
    simp (disch := omega) only [x_X7_mean_0, x_X7_mean_1, x_X7_mean_4, x_X7_mean_7, x_X7_mean_8, x_X7_mean_11, x_X7_mean_14, x_X7_mean_17, x_X7_mean_18, x_X7_mean_19, x_X7_mean_22, x_X7_mean_23, x_X7_mean_26, x_X7_mean_27, x_X7_mean_30, x_X7_mean_33, x_X7_mean_34, x_X7_mean_35, x_X7_mean_36, x_X7_mean_37, List.length_cons, List.length_nil, Nat.reduceLeDiff, Nat.zero_add, iI_add, iI_sub, iI_mul, iI_neg, iI_lt, iI_le, iI_eq, jI_iI, B_True, B_False, B_t, B_f, ck_True, gd_True, cb_v, cb_n, p_mv_rw, p_fv_rw, p_rv_some, pA_1, pA_90, pA_92, pA_3, pA_5, pA_93, pA_4, pA_91, pA_6, pS_i, pB_i, pW_i, pZ_0, pZ_1, pZ_b, bI_e0, u1_s, u1_n, uA_s, uA_n, true_and, and_true, not_true_eq_false, not_false_eq_true, eq_self, iI_z, al1, al5, al3, al4, al90, al91, al92, al93, al6, Int.cast_ofNat_Int, Nat.reduceAdd, Int.reduceNeg, Int.reduceAdd, Int.reduceSub, Int.reduceMul, Int.reduceLT, Int.reduceLE, Int.reduceGT, Int.reduceGE, Int.reduceEq, Int.reduceNe, Nat.reduceEqDiff, Int.zero_add, Int.add_zero, p_ty0, p_ty1, p_ty2, p_ty3, p_ty4, p_ty5, p_ty8, p_ty9, p_ty10, x0, x5, w0, f0, tb, h1, hp, gd_t, B_t, B_f]
  · rw [if_neg c] at hok ⊢
    refine ⟨M1, F, fun d hd => ?_, ⟨G1, G2, hT, S1⟩, F1⟩
    refine callD_go 9 hd rfl (fun e he => ?_)
    show R e m_X7_mean 0 [.val (.ref 100), .unset] [] T M F = _
    have hp := hp e (by omega)
    have r1 := r1 e (by omega)
    clear hT hS S1 F1 K1 f1 xt xr xw xg xg2 hW'
    simp (disch := omega) only [x_X7_mean_0, x_X7_mean_1, x_X7_mean_4, x_X7_mean_7, x_X7_mean_8, x_X7_mean_11, x_X7_mean_14, x_X7_mean_17, x_X7_mean_18, x_X7_mean_19, x_X7_mean_22, x_X7_mean_23, x_X7_mean_26, x_X7_mean_27, x_X7_mean_30, x_X7_mean_33, x_X7_mean_34, x_X7_mean_35, x_X7_mean_36, x_X7_mean_37, List.length_cons, List.length_nil, Nat.reduceLeDiff, Nat.zero_add, iI_add, iI_sub, iI_mul, iI_neg, iI_lt, iI_le, iI_eq, jI_iI, B_True, B_False, B_t, B_f, ck_True, gd_True, cb_v, cb_n, p_mv_rw, p_fv_rw, p_rv_some, pA_1, pA_90, pA_92, pA_3, pA_5, pA_93, pA_4, pA_91, pA_6, pS_i, pB_i, pW_i, pZ_0, pZ_1, pZ_b, bI_e0, u1_s, u1_n, uA_s, uA_n, true_and, and_true, not_true_eq_false, not_false_eq_true, eq_self, iI_z, al1, al5, al3, al4, al90, al91, al92, al93, al6, Int.cast_ofNat_Int, Nat.reduceAdd, Int.reduceNeg, Int.reduceAdd, Int.reduceSub, Int.reduceMul, Int.reduceLT, Int.reduceLE, Int.reduceGT, Int.reduceGE, Int.reduceEq, Int.reduceNe, Nat.reduceEqDiff, Int.zero_add, Int.add_zero, p_ty0, p_ty1, p_ty2, p_ty3, p_ty4, p_ty5, p_ty8, p_ty9, p_ty10, x0, x5, w0, f0, tb, h1, hp, r1, ck_t hok, gd_t, B_t, B_f]
end PMOV
