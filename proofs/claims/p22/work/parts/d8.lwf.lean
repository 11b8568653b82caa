section PLWF
variable {d k s b n D r e c0 c1 : Nat} {T T1 T2 : pT} {M M1 M2 : pM} {F F1 F2 : pF} {S S1 : GSx} {ea z mv c i j w a x as tk pc own : Int} {bs : Int → Int}
theorem lg_cmp0 (x : Int64) : lg_cmp x x = iI 0 := by unfold lg_cmp; simp; rfl
theorem lf_a {l0 l1 l2 l4 l5 l6 l7 l8 l9 l10 l11 l12 l13 l14 l15 l16 l17 l18 l19 l20 l21 l22 l23 l24 : Slot} (he : 10 ≤ e) (h : LW k T M F S ea bs 0) : ∃ T1 M1 F1, R e m_L_law 570 [l0, l1, l2, .val (.ref (100 + k)), l4, l5, l6, l7, l8, l9, l10, l11, l12, l13, l14, l15, l16, l17, l18, l19, l20, l21, l22, l23, l24] [] T M F = R e m_L_law 591 [l0, l1, l2, .val (.ref (100 + k)), l4, l5, l6, l7, l8, l9, l10, l11, l12, l13, l14, l15, l16, l17, l18, .val (.ref T.1.1), l20, l21, l22, l23, l24] [] T1 M1 F1 ∧ LW k T1 M1 F1 S ea bs 0 ∧ KY k T M F T1 M1 F1 ∧ (T1.1.1 = T.1.1 + 1 ∧ T1.1.2 = T.1.2 + 2) ∧ p_ty T1 T.1.1 = (1, 2) ∧ M1 T.1.1 0 = sm (a_wo S.1 0) 91 ∧ M1 T.1.1 1 = sm (a_wo S.1 1) 91 := by
  have hn := h.cnt
  obtain ⟨T3, hT3⟩ : ∃ T3 : pT, T3 = p_new T 1 2 := ⟨_, rfl⟩
  have y0 : s_mono T T3 := by rw [hT3]; exact s_mono.new
  have nn : T3.1.1 = T.1.1 + 1 := by rw [hT3]; rfl
  have ns : T3.1.2 = T.1.2 + 2 := by rw [hT3]; rfl
  have tc : p_ty T3 T.1.1 = (1, 2) := by rw [hT3]; exact p_ty_nw (by omega)
  have L3 : LW k T3 (uA M T.1.1 (fun _ => 0)) (uA F T.1.1 (fun _ => none)) S ea bs 0 := h.up y0 (fun b h1 h2 => ⟨uA_n (by omega), uA_n (by omega)⟩)
  obtain ⟨T4, M4, F4, e4, L4, K4⟩ := w_count L3 (i := 4) (by omega) he
  have m4 : M4 T.1.1 = fun _ => 0 := by rw [(K4.2.2 T.1.1 (by omega) (Or.inr hn)).1, uA_s]
  have n4 := K4.lt
  have L4' : LW k T4 (uA M4 T.1.1 (u1 (fun _ => 0) 0 (z_cnt S 0 4))) F4 S ea bs 0 := L4.up s_mono.rf (fun b h1 h2 => ⟨uA_n (by omega), rfl⟩)
  obtain ⟨T5, M5, F5, e5, L5, K5⟩ := w_count L4' (i := 5) (by omega) he
  have m5 : M5 T.1.1 = u1 (fun _ => 0) 0 (z_cnt S 0 4) := by rw [(K5.2.2 T.1.1 (by omega) (Or.inr hn)).1, uA_s]
  have n5 := K5.lt
  have t4 := (K4.ty (a := T.1.1) (by omega)).trans tc
  have t5 := (K5.ty (a := T.1.1) (by omega)).trans t4
  refine ⟨T5, uA M5 T.1.1 (u1 (u1 (fun _ => 0) 0 (z_cnt S 0 4)) 1 (z_cnt S 0 5)), F5, ?_, L5.up s_mono.rf (fun b h1 h2 => ⟨uA_n (by omega), rfl⟩), ⟨y0.tr (K4.1.tr K5.1), fun b hb hk => ⟨?_, ?_⟩⟩, ⟨by omega, by rw [K5.2.1, K4.2.1]; exact ns⟩, t5, ?_, ?_⟩
  · have ty3 := L3.ty
    have ty4 := L4.ty
    have ty := h.ty
    have w0 := sm_wo_rg h.sf.1.1 0
    have w1 := sm_wo_rg h.sf.1.1 1
    have y2 : (2 : Int).toNat = 2 := rfl
    rw [show z_cnt S 0 4 = sm (a_wo S.1 0) 91 from rfl] at e4 m5 e5 ⊢
    rw [show z_cnt S 0 5 = sm (a_wo S.1 1) 91 from rfl] at e5 ⊢
    clear L3 L4 L4' L5 K4 K5 h
    generalize sm (a_wo S.1 0) 91 = v4 at *
    generalize sm (a_wo S.1 1) 91 = v5 at *
    subst hT3
    simp (disch := omega) only [x_L_law_570, x_L_law_571, x_L_law_573, x_L_law_574, x_L_law_575, x_L_law_576, x_L_law_577, x_L_law_580, x_L_law_581, x_L_law_582, x_L_law_583, x_L_law_584, x_L_law_585, x_L_law_588, x_L_law_589, List.length_cons, List.length_nil, Nat.reduceLeDiff, Nat.zero_add, iI_add, iI_sub, iI_mul, iI_neg, iI_lt, iI_le, iI_eq, jI_iI, B_True, B_False, B_t, B_f, ck_True, gd_True, cb_v, cb_n, p_mv_rw, p_fv_rw, p_rv_some, pA_1, pA_90, pA_92, pA_3, pA_5, pA_93, pA_4, pA_91, pA_6, pS_i, pB_i, pW_i, pZ_0, pZ_1, pZ_b, bI_e0, u1_s, u1_n, uA_s, uA_n, true_and, and_true, not_true_eq_false, not_false_eq_true, eq_self, iI_z, al1, al5, al3, al4, al90, al91, al92, al93, al6, Int.cast_ofNat_Int, Nat.reduceAdd, Int.reduceNeg, Int.reduceAdd, Int.reduceSub, Int.reduceMul, Int.reduceLT, Int.reduceLE, Int.reduceGT, Int.reduceGE, Int.reduceEq, Int.reduceNe, Nat.reduceEqDiff, Int.zero_add, Int.add_zero, p_ty0, p_ty1, p_ty2, p_ty3, p_ty4, p_ty5, p_ty8, p_ty9, p_ty10, e4, e5, m4, m5, tc, t4, t5, ty, ty3, ty4, y2, uA_uA, gd_t, ck_t, B_t, B_f]
  · rw [uA_n (by omega), (K5.2.2 b (by omega) hk).1, uA_n (by omega), (K4.2.2 b (by omega) hk).1, uA_n (by omega)]
  · rw [(K5.2.2 b (by omega) hk).2, (K4.2.2 b (by omega) hk).2, uA_n (by omega)]
  · rw [uA_s, u1_n (by decide), u1_s]; rfl
  · rw [uA_s, u1_s]; rfl
theorem lf_b {l0 l1 l2 l4 l5 l6 l7 l8 l9 l10 l11 l12 l13 l14 l15 l16 l17 l18 l19 l20 l21 l22 l23 l24 : Slot} (he : 10 ≤ e) (h : LW k T M F S ea bs 0) : ∃ T1 M1 F1, R e m_L_law 647 [l0, l1, l2, .val (.ref (100 + k)), l4, l5, l6, l7, l8, l9, l10, l11, l12, l13, l14, l15, l16, l17, l18, l19, l20, l21, l22, l23, l24] [] T M F = R e m_L_law 668 [l0, l1, l2, .val (.ref (100 + k)), l4, l5, l6, l7, l8, l9, l10, l11, l12, l13, l14, l15, l16, l17, l18, l19, l20, l21, l22, .val (.ref T.1.1), l24] [] T1 M1 F1 ∧ LW k T1 M1 F1 S ea bs 0 ∧ KY k T M F T1 M1 F1 ∧ (T1.1.1 = T.1.1 + 1 ∧ T1.1.2 = T.1.2 + 2) ∧ p_ty T1 T.1.1 = (1, 2) ∧ M1 T.1.1 0 = sm (a_wo S.1 0) 91 ∧ M1 T.1.1 1 = sm (a_wo S.1 1) 91 := by
  have hn := h.cnt
  obtain ⟨T3, hT3⟩ : ∃ T3 : pT, T3 = p_new T 1 2 := ⟨_, rfl⟩
  have y0 : s_mono T T3 := by rw [hT3]; exact s_mono.new
  have nn : T3.1.1 = T.1.1 + 1 := by rw [hT3]; rfl
  have ns : T3.1.2 = T.1.2 + 2 := by rw [hT3]; rfl
  have tc : p_ty T3 T.1.1 = (1, 2) := by rw [hT3]; exact p_ty_nw (by omega)
  have L3 : LW k T3 (uA M T.1.1 (fun _ => 0)) (uA F T.1.1 (fun _ => none)) S ea bs 0 := h.up y0 (fun b h1 h2 => ⟨uA_n (by omega), uA_n (by omega)⟩)
  obtain ⟨T4, M4, F4, e4, L4, K4⟩ := w_count L3 (i := 4) (by omega) he
  have m4 : M4 T.1.1 = fun _ => 0 := by rw [(K4.2.2 T.1.1 (by omega) (Or.inr hn)).1, uA_s]
  have n4 := K4.lt
  have L4' : LW k T4 (uA M4 T.1.1 (u1 (fun _ => 0) 0 (z_cnt S 0 4))) F4 S ea bs 0 := L4.up s_mono.rf (fun b h1 h2 => ⟨uA_n (by omega), rfl⟩)
  obtain ⟨T5, M5, F5, e5, L5, K5⟩ := w_count L4' (i := 5) (by omega) he
  have m5 : M5 T.1.1 = u1 (fun _ => 0) 0 (z_cnt S 0 4) := by rw [(K5.2.2 T.1.1 (by omega) (Or.inr hn)).1, uA_s]
  have n5 := K5.lt
  have t4 := (K4.ty (a := T.1.1) (by omega)).trans tc
  have t5 := (K5.ty (a := T.1.1) (by omega)).trans t4
  refine ⟨T5, uA M5 T.1.1 (u1 (u1 (fun _ => 0) 0 (z_cnt S 0 4)) 1 (z_cnt S 0 5)), F5, ?_, L5.up s_mono.rf (fun b h1 h2 => ⟨uA_n (by omega), rfl⟩), ⟨y0.tr (K4.1.tr K5.1), fun b hb hk => ⟨?_, ?_⟩⟩, ⟨by omega, by rw [K5.2.1, K4.2.1]; exact ns⟩, t5, ?_, ?_⟩
  · have ty3 := L3.ty
    have ty4 := L4.ty
    have ty := h.ty
    have w0 := sm_wo_rg h.sf.1.1 0
    have w1 := sm_wo_rg h.sf.1.1 1
    have y2 : (2 : Int).toNat = 2 := rfl
    rw [show z_cnt S 0 4 = sm (a_wo S.1 0) 91 from rfl] at e4 m5 e5 ⊢
    rw [show z_cnt S 0 5 = sm (a_wo S.1 1) 91 from rfl] at e5 ⊢
    clear L3 L4 L4' L5 K4 K5 h
    generalize sm (a_wo S.1 0) 91 = v4 at *
    generalize sm (a_wo S.1 1) 91 = v5 at *
    subst hT3
    simp (disch := omega) only [x_L_law_647, x_L_law_648, x_L_law_650, x_L_law_651, x_L_law_652, x_L_law_653, x_L_law_654, x_L_law_657, x_L_law_658, x_L_law_659, x_L_law_660, x_L_law_661, x_L_law_662, x_L_law_665, x_L_law_666, List.length_cons, List.length_nil, Nat.reduceLeDiff, Nat.zero_add, iI_add, iI_sub, iI_mul, iI_neg, iI_lt, iI_le, iI_eq, jI_iI, B_True, B_False, B_t, B_f, ck_True, gd_True, cb_v, cb_n, p_mv_rw, p_fv_rw, p_rv_some, pA_1, pA_90, pA_92, pA_3, pA_5, pA_93, pA_4, pA_91, pA_6, pS_i, pB_i, pW_i, pZ_0, pZ_1, pZ_b, bI_e0, u1_s, u1_n, uA_s, uA_n, true_and, and_true, not_true_eq_false, not_false_eq_true, eq_self, iI_z, al1, al5, al3, al4, al90, al91, al92, al93, al6, Int.cast_ofNat_Int, Nat.reduceAdd, Int.reduceNeg, Int.reduceAdd, Int.reduceSub, Int.reduceMul, Int.reduceLT, Int.reduceLE, Int.reduceGT, Int.reduceGE, Int.reduceEq, Int.reduceNe, Nat.reduceEqDiff, Int.zero_add, Int.add_zero, p_ty0, p_ty1, p_ty2, p_ty3, p_ty4, p_ty5, p_ty8, p_ty9, p_ty10, e4, e5, m4, m5, tc, t4, t5, ty, ty3, ty4, y2, uA_uA, gd_t, ck_t, B_t, B_f]
  · rw [uA_n (by omega), (K5.2.2 b (by omega) hk).1, uA_n (by omega), (K4.2.2 b (by omega) hk).1, uA_n (by omega)]
  · rw [(K5.2.2 b (by omega) hk).2, (K4.2.2 b (by omega) hk).2, uA_n (by omega)]
  · rw [uA_s, u1_n (by decide), u1_s]; rfl
  · rw [uA_s, u1_s]; rfl
theorem lf_1 {l0 l1 l2 l4 l7 l8 l9 l10 l11 l12 l13 l14 l15 l16 l17 l18 l19 l20 l21 l22 l23 l24 : Slot} {x5 : Int32} (he : 10 ≤ e) (h : LW k T M F S ea bs 0) (hl : (lgQ S.1 S.2.1 S.2.2.1 S.2.2.2.1).length ≠ 0) : ∃ a c T1 M1 F1, ((0 ≤ a ∧ a < 91) ∧ (0 ≤ c ∧ c < 91) ∧ 91 * a + c ∈ lgQ S.1 S.2.1 S.2.2.1 S.2.2.2.1) ∧ R e m_L_law 521 [l0, l1, l2, .val (.ref (100 + k)), l4, .val (.int x5), .val (.int (iI (((lgQ S.1 S.2.1 S.2.2.1 S.2.2.2.1).length : Int)))), l7, l8, l9, l10, l11, l12, l13, l14, l15, l16, l17, l18, l19, l20, l21, l22, l23, l24] [] T M F = R e m_L_law 570 [l0, l1, l2, .val (.ref (100 + k)), l4, .val (.int x5), .val (.int (iI (((lgQ S.1 S.2.1 S.2.2.1 S.2.2.2.1).length : Int)))), l7, l8, l9, l10, l11, .val (.int (iI (91 * a + c))), .val (.int (iI (a))), .val (.int (iI (c))), .val (.long (z_dig S 0)), .second, .val (.int (iI (S.1 a % 10))), .val (.int (iI ((S.2.2.2.2.length : Int)))), l19, l20, l21, l22, l23, l24] [] T1 M1 F1 ∧ LW k T1 M1 F1 S ea bs 0 ∧ KX k T M F T1 M1 F1 := by
  have hl8 := h.sf.2.2.2.2.2.1
  have hb := bl_rg x5 (n := ((lgQ S.1 S.2.1 S.2.2.1 S.2.2.2.1).length : Int)) (by omega)
  have bl0 := z_below (d := e) (T := T) (M := M) (F := F) (x := x5) (n := ((lgQ S.1 S.2.1 S.2.2.1 S.2.2.2.1).length : Int)) (by omega) (by omega)
  obtain ⟨T1, M1, F1, e1, L1, K1⟩ := w_nth h (i := bl x5 ((lgQ S.1 S.2.1 S.2.2.1 S.2.2.2.1).length : Int)) (by omega) he
  have hmem := lgQ_at (bb := S.1) (t := S.2.1) (pas := S.2.2.1) (q := S.2.2.2.1) (i := (bl x5 ((lgQ S.1 S.2.1 S.2.2.1 S.2.2.2.1).length : Int)).toNat) (by omega)
  generalize hcd : (lgQ S.1 S.2.1 S.2.2.1 S.2.2.2.1).getD (bl x5 ((lgQ S.1 S.2.1 S.2.2.1 S.2.2.2.1).length : Int)).toNat 0 = cd at *
  have hx := (lgQ_own hmem).1
  have ha : 0 ≤ cd / 91 ∧ cd / 91 < 91 := by omega
  have hc : 0 ≤ cd % 91 ∧ cd % 91 < 91 := by omega
  have hcd2 : 91 * (cd / 91) + cd % 91 = cd := by omega
  obtain ⟨T2, M2, F2, e2, L2, K2⟩ := w_digest L1 he
  obtain ⟨T3, M3, F3, e3, L3, K3⟩ := w_cell L2 ha (i := 0) (by omega) he
  obtain ⟨T4, M4, F4, e4, L4, K4⟩ := w_count L3 (i := 0) (by omega) he
  refine ⟨cd / 91, cd % 91, T4, M4, F4, ⟨ha, hc, by rw [hcd2]; exact hmem⟩, ?_, L4, (K1.tr K2).tr (K3.tr K4)⟩
  rw [hcd2]
  obtain ⟨d1, d2⟩ := idv91 (u := cd) (by omega)
  rw [fac0] at e3
  rw [show z_cnt S 0 0 = (S.2.2.2.2.length : Int) from rfl] at e4
  have ty := h.ty
  have ty1 := L1.ty
  have ty2 := L2.ty
  have ty3 := L3.ty
  clear L1 L2 L3 L4 K1 K2 K3 K4 h hmem hcd
  generalize (S.2.2.2.2.length : Int) = mvs at *
  generalize S.1 (cd / 91) % 10 = pi at *
  generalize z_dig S 0 = dg at *
  generalize (lgQ S.1 S.2.1 S.2.2.1 S.2.2.2.1).length = ln at *
  generalize bl x5 (ln : Int) = u at *
  simp (disch := omega) only [x_L_law_521, x_L_law_522, x_L_law_524, x_L_law_526, x_L_law_529, x_L_law_532, x_L_law_534, x_L_law_536, x_L_law_538, x_L_law_539, x_L_law_541, x_L_law_543, x_L_law_545, x_L_law_546, x_L_law_548, x_L_law_549, x_L_law_552, x_L_law_554, x_L_law_555, x_L_law_557, x_L_law_558, x_L_law_561, x_L_law_563, x_L_law_564, x_L_law_565, x_L_law_568, List.length_cons, List.length_nil, Nat.reduceLeDiff, Nat.zero_add, iI_add, iI_sub, iI_mul, iI_neg, iI_lt, iI_le, iI_eq, jI_iI, B_True, B_False, B_t, B_f, ck_True, gd_True, cb_v, cb_n, p_mv_rw, p_fv_rw, p_rv_some, pA_1, pA_90, pA_92, pA_3, pA_5, pA_93, pA_4, pA_91, pA_6, pS_i, pB_i, pW_i, pZ_0, pZ_1, pZ_b, bI_e0, u1_s, u1_n, uA_s, uA_n, true_and, and_true, not_true_eq_false, not_false_eq_true, eq_self, iI_z, al1, al5, al3, al4, al90, al91, al92, al93, al6, Int.cast_ofNat_Int, Nat.reduceAdd, Int.reduceNeg, Int.reduceAdd, Int.reduceSub, Int.reduceMul, Int.reduceLT, Int.reduceLE, Int.reduceGT, Int.reduceGE, Int.reduceEq, Int.reduceNe, Nat.reduceEqDiff, Int.zero_add, Int.add_zero, p_ty0, p_ty1, p_ty2, p_ty3, p_ty4, p_ty5, p_ty8, p_ty9, p_ty10, bl0, e1, e2, e3, e4, d1, d2, ty, ty1, ty2, ty3, gd_t, ck_t, B_t, B_f]
theorem lf_2 {l0 l1 l2 l4 l6 l7 l8 l9 l10 l11 l12 l15 l16 l18 l19 l20 l21 l22 l23 l24 : Slot} {x5 : Int32} (he : 10 ≤ e) (h : LW k T M F S ea bs 0) (ha : 0 ≤ a ∧ a < 91) (hc : 0 ≤ c ∧ c < 91) (hL : 91 * a + c ∈ lgQ S.1 S.2.1 S.2.2.1 S.2.2.2.1) (hH : S.2.2.2.2.length < 600) : ∃ as T1 M1 F1, (2 ≤ as ∧ as ≤ 5) ∧ R e m_L_law 591 [l0, l1, l2, .val (.ref (100 + k)), l4, .val (.int x5), l6, l7, l8, l9, l10, l11, l12, .val (.int (iI (a))), .val (.int (iI (c))), l15, l16, .val (.int (iI (S.1 a % 10))), l18, l19, l20, l21, l22, l23, l24] [] T M F = R e m_L_law 647 [l0, l1, l2, .val (.ref (100 + k)), l4, .val (.int x5), l6, l7, l8, l9, l10, l11, l12, .val (.int (iI (a))), .val (.int (iI (c))), l15, l16, .val (.int (iI (S.1 a % 10))), l18, l19, .val (.int (iI (as))), .val (.int (iI (S.1 (mk_pl S.1 S.2.2.1 a c) % 10))), .val (.int (iI (bI (S.1 a % 10 ≠ mk_th S.1 a c as % 10)))), l23, l24] [] T1 M1 F1 ∧ LW k T1 M1 F1 (z_mv S a c as) ea bs 0 ∧ KX k T M F T1 M1 F1 := by
  have hb4 := bl_rg (x5 >>> (iI 4 &&& 31)) (n := 4) (by omega)
  obtain ⟨as, has⟩ : ∃ as, as = 2 + bl (x5 >>> (iI 4 &&& 31)) 4 := ⟨_, rfl⟩
  have has2 : 2 ≤ as ∧ as ≤ 5 := by omega
  obtain ⟨T1, M1, F1, e1, L1, K1⟩ := w_legal h ha hc he
  rw [bI_t hL] at e1
  have bl4 := z_below (d := e) (T := T1) (M := M1) (F := F1) (x := x5 >>> (iI 4 &&& 31)) (n := 4) (by omega) (by omega)
  obtain ⟨T2, M2, F2, e2, L2, K2⟩ := w_move L1 (by omega) ha hc has2 hL he
  obtain ⟨T3, M3, F3, e3, L3, K3⟩ := w_cell L2 hc (i := 0) (by omega) he
  have hth : z_fac (z_mv S a c as) c 0 = mk_th S.1 a c as % 10 := by
    show mk_bb S.1 S.2.2.1 a c as c % 10 = _
    rw [mk_bb_at, if_pos rfl]
  rw [hth] at e3
  refine ⟨as, T3, M3, F3, has2, ?_, L3, (K1.tr K2).tr K3⟩
  have ty := h.ty
  have ty1 := L1.ty
  have ty2 := L2.ty
  have r1 : 0 ≤ S.1 a % 10 ∧ S.1 a % 10 < 10 := by omega
  have r2 : 0 ≤ mk_th S.1 a c as % 10 ∧ mk_th S.1 a c as % 10 < 10 := by omega
  clear L1 L2 L3 K1 K2 K3 h hL hth
  generalize mk_th S.1 a c as % 10 = u2 at *
  generalize S.1 a % 10 = u1' at *
  generalize S.1 (mk_pl S.1 S.2.2.1 a c) % 10 = tk at *
  generalize hb4' : bl (x5 >>> (iI 4 &&& 31)) 4 = b4 at *
  subst has
  by_cases cu : u1' = u2
  · rw [bI_f (fun z => z cu)]
    subst cu
    simp (disch := omega) only [x_L_law_591, x_L_law_592, x_L_law_594, x_L_law_596, x_L_law_599, x_L_law_602, x_L_law_603, x_L_law_604, x_L_law_605, x_L_law_607, x_L_law_608, x_L_law_609, x_L_law_610, x_L_law_613, x_L_law_614, x_L_law_616, x_L_law_617, x_L_law_619, x_L_law_621, x_L_law_623, x_L_law_626, x_L_law_628, x_L_law_630, x_L_law_631, x_L_law_633, x_L_law_634, x_L_law_637, x_L_law_640, x_L_law_641, x_L_law_644, x_L_law_645, List.length_cons, List.length_nil, Nat.reduceLeDiff, Nat.zero_add, iI_add, iI_sub, iI_mul, iI_neg, iI_lt, iI_le, iI_eq, jI_iI, B_True, B_False, B_t, B_f, ck_True, gd_True, cb_v, cb_n, p_mv_rw, p_fv_rw, p_rv_some, pA_1, pA_90, pA_92, pA_3, pA_5, pA_93, pA_4, pA_91, pA_6, pS_i, pB_i, pW_i, pZ_0, pZ_1, pZ_b, bI_e0, u1_s, u1_n, uA_s, uA_n, true_and, and_true, not_true_eq_false, not_false_eq_true, eq_self, iI_z, al1, al5, al3, al4, al90, al91, al92, al93, al6, Int.cast_ofNat_Int, Nat.reduceAdd, Int.reduceNeg, Int.reduceAdd, Int.reduceSub, Int.reduceMul, Int.reduceLT, Int.reduceLE, Int.reduceGT, Int.reduceGE, Int.reduceEq, Int.reduceNe, Nat.reduceEqDiff, Int.zero_add, Int.add_zero, p_ty0, p_ty1, p_ty2, p_ty3, p_ty4, p_ty5, p_ty8, p_ty9, p_ty10, bl4, e1, e2, e3, ty, ty1, ty2, gd_t, ck_t, B_t, B_f]
  · rw [bI_t cu]
    simp (disch := omega) only [x_L_law_591, x_L_law_592, x_L_law_594, x_L_law_596, x_L_law_599, x_L_law_602, x_L_law_603, x_L_law_604, x_L_law_605, x_L_law_607, x_L_law_608, x_L_law_609, x_L_law_610, x_L_law_613, x_L_law_614, x_L_law_616, x_L_law_617, x_L_law_619, x_L_law_621, x_L_law_623, x_L_law_626, x_L_law_628, x_L_law_630, x_L_law_631, x_L_law_633, x_L_law_634, x_L_law_637, x_L_law_640, x_L_law_641, x_L_law_644, x_L_law_645, List.length_cons, List.length_nil, Nat.reduceLeDiff, Nat.zero_add, iI_add, iI_sub, iI_mul, iI_neg, iI_lt, iI_le, iI_eq, jI_iI, B_True, B_False, B_t, B_f, ck_True, gd_True, cb_v, cb_n, p_mv_rw, p_fv_rw, p_rv_some, pA_1, pA_90, pA_92, pA_3, pA_5, pA_93, pA_4, pA_91, pA_6, pS_i, pB_i, pW_i, pZ_0, pZ_1, pZ_b, bI_e0, u1_s, u1_n, uA_s, uA_n, true_and, and_true, not_true_eq_false, not_false_eq_true, eq_self, iI_z, al1, al5, al3, al4, al90, al91, al92, al93, al6, Int.cast_ofNat_Int, Nat.reduceAdd, Int.reduceNeg, Int.reduceAdd, Int.reduceSub, Int.reduceMul, Int.reduceLT, Int.reduceLE, Int.reduceGT, Int.reduceGE, Int.reduceEq, Int.reduceNe, Nat.reduceEqDiff, Int.zero_add, Int.add_zero, p_ty0, p_ty1, p_ty2, p_ty3, p_ty4, p_ty5, p_ty8, p_ty9, p_ty10, bl4, e1, e2, e3, ty, ty1, ty2, gd_t, ck_t, B_t, B_f]
theorem lf_3 {l0 l1 l2 l4 l5 l6 l8 l9 l10 l11 l12 l15 l16 l19 l21 l23 l24 : Slot} (he : 10 ≤ e) (h : LW k T M F (z_mv S a c as) ea bs 0) (hf : SF S) (hV : MV S.1 S.2.1 S.2.2.1 a c) (has : 2 ≤ as ∧ as ≤ 5) (hH : S.2.2.2.2.length < 600) : ∃ T1 M1 F1, R e m_L_law 668 [l0, l1, l2, .val (.ref (100 + k)), l4, l5, l6, .val (.int (iI (S.2.1))), l8, l9, l10, l11, l12, .val (.int (iI (a))), .val (.int (iI (c))), l15, l16, .val (.int (iI (S.1 a % 10))), .val (.int (iI ((S.2.2.2.2.length : Int)))), l19, .val (.int (iI (as))), l21, .val (.int (iI (bI (S.1 a % 10 ≠ mk_th S.1 a c as % 10)))), l23, l24] [] T M F = R e m_L_law 738 [l0, l1, l2, .val (.ref (100 + k)), l4, l5, l6, .val (.int (iI (S.2.1))), l8, l9, l10, l11, l12, .val (.int (iI (a))), .val (.int (iI (c))), l15, l16, .val (.int (iI (S.1 a % 10))), .val (.int (iI ((S.2.2.2.2.length : Int)))), l19, .val (.int (iI (as))), l21, .val (.int (iI (bI (S.1 a % 10 ≠ mk_th S.1 a c as % 10)))), l23, l24] [] T1 M1 F1 ∧ LW k T1 M1 F1 (z_mv S a c as) ea bs 0 ∧ KX k T M F T1 M1 F1 := by
  obtain ⟨⟨f1, f2, f3⟩, ht, hPS, -⟩ := hf
  obtain ⟨hi, hto, ho, hm, hn⟩ := id hV
  have hst := m_side_t f1 ht ho
  have hne : c ≠ a := by intro z; rw [z] at hn; exact hn ho
  have hth := (mk_th_v f1 ht hV has).2.1
  obtain ⟨T1, M1, F1, e1, L1, K1⟩ := w_count h (i := 1) (by omega) he
  obtain ⟨T2, M2, F2, e2, L2, K2⟩ := w_count L1 (i := 0) (by omega) he
  obtain ⟨T3, M3, F3, e3, L3, K3⟩ := w_cell L2 hi (i := 0) (by omega) he
  obtain ⟨T4, M4, F4, e4, L4, K4⟩ := w_cell L3 hto (i := 1) (by omega) he
  obtain ⟨T5, M5, F5, e5, L5, K5⟩ := w_cell L4 hto (i := 0) (by omega) he
  rw [show z_cnt (z_mv S a c as) 0 1 = 1 - S.2.1 from rfl] at e1
  rw [show z_cnt (z_mv S a c as) 0 0 = (S.2.2.2.2.length : Int) + 1 by show ((_ :: S.2.2.2.2 : List HE).length : Int) = _; rw [List.length_cons]; omega] at e2
  have h3 : z_fac (z_mv S a c as) a 0 = 0 := by
    show mk_bb S.1 S.2.2.1 a c as a % 10 = 0
    rw [mk_bb_at, if_neg (fun z => hne z.symm), if_pos rfl]; rfl
  have h4 : z_fac (z_mv S a c as) c 1 = S.2.1 := by
    show m_side (mk_bb S.1 S.2.2.1 a c as c) = _
    rw [mk_bb_at, if_pos rfl]
    unfold m_side
    split <;> omega
  have h5 : z_fac (z_mv S a c as) c 0 = mk_th S.1 a c as % 10 := by
    show mk_bb S.1 S.2.2.1 a c as c % 10 = _
    rw [mk_bb_at, if_pos rfl]
  rw [h3] at e3
  rw [h4] at e4
  rw [h5] at e5
  have ty := h.ty
  have ty1 := L1.ty
  have ty2 := L2.ty
  have ty3 := L3.ty
  have ty4 := L4.ty
  have hmore : S.1 a % 10 ≠ mk_th S.1 a c as % 10 → S.1 a % 10 = 6 ∧ mk_th S.1 a c as % 10 = as := by
    intro z
    revert z
    unfold mk_th
    split
    · rename_i z2
      intro _
      refine ⟨z2.1, ?_⟩
      rw [ho]; omega
    · intro z; exact absurd rfl z
  by_cases cm : S.1 a % 10 ≠ mk_th S.1 a c as % 10
  · rw [bI_t cm]
    obtain ⟨g1, g2⟩ := hmore cm
    refine ⟨T5, M5, F5, ?_, L5, (K1.tr K2).tr ((K3.tr K4).tr K5)⟩
    rw [g2] at e5
    rw [g1]
    clear L1 L2 L3 L4 L5 K1 K2 K3 K4 K5 h hV hm hPS f1 f2 f3 h3 h4 h5 hmore cm
    generalize (S.2.2.2.2.length : Int) = mvs at *
    generalize S.2.1 = t at *
    simp (disch := omega) only [x_L_law_668, x_L_law_669, x_L_law_670, x_L_law_673, x_L_law_674, x_L_law_676, x_L_law_677, x_L_law_680, x_L_law_681, x_L_law_682, x_L_law_685, x_L_law_687, x_L_law_688, x_L_law_689, x_L_law_692, x_L_law_693, x_L_law_695, x_L_law_696, x_L_law_699, x_L_law_702, x_L_law_703, x_L_law_705, x_L_law_706, x_L_law_709, x_L_law_711, x_L_law_714, x_L_law_716, x_L_law_719, x_L_law_721, x_L_law_723, x_L_law_726, x_L_law_727, x_L_law_729, x_L_law_730, x_L_law_733, x_L_law_735, List.length_cons, List.length_nil, Nat.reduceLeDiff, Nat.zero_add, iI_add, iI_sub, iI_mul, iI_neg, iI_lt, iI_le, iI_eq, jI_iI, B_True, B_False, B_t, B_f, ck_True, gd_True, cb_v, cb_n, p_mv_rw, p_fv_rw, p_rv_some, pA_1, pA_90, pA_92, pA_3, pA_5, pA_93, pA_4, pA_91, pA_6, pS_i, pB_i, pW_i, pZ_0, pZ_1, pZ_b, bI_e0, u1_s, u1_n, uA_s, uA_n, true_and, and_true, not_true_eq_false, not_false_eq_true, eq_self, iI_z, al1, al5, al3, al4, al90, al91, al92, al93, al6, Int.cast_ofNat_Int, Nat.reduceAdd, Int.reduceNeg, Int.reduceAdd, Int.reduceSub, Int.reduceMul, Int.reduceLT, Int.reduceLE, Int.reduceGT, Int.reduceGE, Int.reduceEq, Int.reduceNe, Nat.reduceEqDiff, Int.zero_add, Int.add_zero, p_ty0, p_ty1, p_ty2, p_ty3, p_ty4, p_ty5, p_ty8, p_ty9, p_ty10, e1, e2, e3, e4, e5, ty, ty1, ty2, ty3, ty4, gd_t, ck_t, B_t, B_f]
  · rw [bI_f cm]
    refine ⟨T4, M4, F4, ?_, L4, (K1.tr K2).tr (K3.tr K4)⟩
    clear L1 L2 L3 L4 L5 K1 K2 K3 K4 K5 h hV hm hPS f1 f2 f3 h3 h4 h5 hmore cm e5
    generalize (S.2.2.2.2.length : Int) = mvs at *
    generalize S.1 a % 10 = pi at *
    generalize S.2.1 = t at *
    simp (disch := omega) only [x_L_law_668, x_L_law_669, x_L_law_670, x_L_law_673, x_L_law_674, x_L_law_676, x_L_law_677, x_L_law_680, x_L_law_681, x_L_law_682, x_L_law_685, x_L_law_687, x_L_law_688, x_L_law_689, x_L_law_692, x_L_law_693, x_L_law_695, x_L_law_696, x_L_law_699, x_L_law_702, x_L_law_703, x_L_law_705, x_L_law_706, x_L_law_709, x_L_law_711, x_L_law_714, x_L_law_716, x_L_law_719, x_L_law_721, x_L_law_723, x_L_law_726, x_L_law_727, x_L_law_729, x_L_law_730, x_L_law_733, x_L_law_735, List.length_cons, List.length_nil, Nat.reduceLeDiff, Nat.zero_add, iI_add, iI_sub, iI_mul, iI_neg, iI_lt, iI_le, iI_eq, jI_iI, B_True, B_False, B_t, B_f, ck_True, gd_True, cb_v, cb_n, p_mv_rw, p_fv_rw, p_rv_some, pA_1, pA_90, pA_92, pA_3, pA_5, pA_93, pA_4, pA_91, pA_6, pS_i, pB_i, pW_i, pZ_0, pZ_1, pZ_b, bI_e0, u1_s, u1_n, uA_s, uA_n, true_and, and_true, not_true_eq_false, not_false_eq_true, eq_self, iI_z, al1, al5, al3, al4, al90, al91, al92, al93, al6, Int.cast_ofNat_Int, Nat.reduceAdd, Int.reduceNeg, Int.reduceAdd, Int.reduceSub, Int.reduceMul, Int.reduceLT, Int.reduceLE, Int.reduceGT, Int.reduceGE, Int.reduceEq, Int.reduceNe, Nat.reduceEqDiff, Int.zero_add, Int.add_zero, p_ty0, p_ty1, p_ty2, p_ty3, p_ty4, p_ty5, p_ty8, p_ty9, p_ty10, e1, e2, e3, e4, ty, ty1, ty2, ty3, ty4, gd_t, ck_t, B_t, B_f]
theorem lf_4 {l0 l1 l2 l4 l5 l6 l8 l9 l10 l11 l12 l13 l14 l15 l16 l17 l18 l24 : Slot} {t : Int} {P : Prop} {v0 v1 : Int → Int} (he : 10 ≤ e) (hn : 127 + k ≤ T.1.1) (ht : t = 0 ∨ t = 1) (has : 2 ≤ as ∧ as ≤ 5) (htk : 0 ≤ tk ∧ tk ≤ 6) (t0 : p_ty T c0 = (1, 2)) (t1 : p_ty T c1 = (1, 2)) (h0 : 100 ≤ c0 ∧ c0 < T.1.1) (h1 : 100 ≤ c1 ∧ c1 < T.1.1) (m0 : M c0 = v0) (m1 : M c1 = v1) (hr : ∀ i, 0 ≤ i → i ≤ 1 → (0 ≤ v0 i ∧ v0 i ≤ 1000) ∧ 0 ≤ v1 i ∧ v1 i ≤ 1000) (g1 : v1 (1 - t) = v0 (1 - t) - m_wor tk) (g2 : P → v1 t = v0 t + (m_wor as - 1)) (g3 : ¬ P → v1 t = v0 t) : ∃ T1 M1 F1, R e m_L_law 738 [l0, l1, l2, .val (.ref (100 + k)), l4, l5, l6, .val (.int (iI (t))), l8, l9, l10, l11, l12, l13, l14, l15, l16, l17, l18, .val (.ref c0), .val (.int (iI (as))), .val (.int (iI (tk))), .val (.int (iI (bI P))), .val (.ref c1), l24] [] T M F = R e m_L_law 793 [l0, l1, l2, .val (.ref (100 + k)), l4, l5, l6, .val (.int (iI (t))), l8, l9, l10, l11, l12, l13, l14, l15, l16, l17, l18, .val (.ref c0), .val (.int (iI (as))), .val (.int (iI (tk))), .val (.int (iI (bI P))), .val (.ref c1), l24] [] T1 M1 F1 ∧ (s_mono T T1 ∧ ∀ b, b < T.1.1 → M1 b = M b ∧ F1 b = F b) ∧ T1.1.1 ≤ T.1.1 + 2 ∧ T1.1.2 ≤ T.1.2 + 14 := by
  have atk : ab tk = tk := by unfold ab; rw [if_neg (by omega)]
  have aas : ab as = as := by unfold ab; rw [if_neg (by omega)]
  obtain ⟨Ma, ra, fa⟩ := z_worth (T := T) (M := M) (F := F) (x := tk) (by omega) (by omega)
  rw [atk] at ra
  have ra := ra e (by omega)
  obtain ⟨T3, hT3⟩ : ∃ T3 : pT, T3 = p_new T 1 7 := ⟨_, rfl⟩
  have y0 : s_mono T T3 := by rw [hT3]; exact s_mono.new
  have nn : T3.1.1 = T.1.1 + 1 := by rw [hT3]; rfl
  have ns : T3.1.2 = T.1.2 + 7 := by rw [hT3]; rfl
  rw [← hT3] at ra
  have w0 := m_wor_rg (x := tk)
  have w1 := m_wor_rg (x := as)
  have q0 := (y0.2.2 c0 h0.2).trans t0
  have q1 := (y0.2.2 c1 h1.2).trans t1
  have a0 := fa c0 h0.2
  have a1 := fa c1 h1.2
  rw [m0] at a0
  rw [m1] at a1
  have r0 := hr t (by omega) (by omega)
  have r1 := hr (1 - t) (by omega) (by omega)
  by_cases c : P
  · obtain ⟨Mb, rb, fb⟩ := z_worth (T := T3) (M := Ma) (F := uA F T.1.1 (fun _ => none)) (x := as) (by omega) (by omega)
    rw [aas] at rb
    have rb := rb e (by omega)
    obtain ⟨T4, hT4⟩ : ∃ T4 : pT, T4 = p_new T3 1 7 := ⟨_, rfl⟩
    have y1 : s_mono T3 T4 := by rw [hT4]; exact s_mono.new
    have nn4 : T4.1.1 = T3.1.1 + 1 := by rw [hT4]; rfl
    have ns4 : T4.1.2 = T3.1.2 + 7 := by rw [hT4]; rfl
    rw [← hT4] at rb
    refine ⟨T4, Mb, uA (uA F T.1.1 (fun _ => none)) T3.1.1 (fun _ => none), ?_, ⟨y0.tr y1, fun b hb => ⟨(fb b (by omega)).trans (fa b hb), (uA_n (by omega)).trans (uA_n (by omega))⟩⟩, by omega, by omega⟩
    rw [bI_t c]
    have g2 := g2 c
    clear hr
    generalize hu0 : v0 t = u0 at *
    generalize hu1 : v1 t = u1' at *
    generalize hu2 : v0 (1 - t) = u2 at *
    generalize hu3 : v1 (1 - t) = u3 at *
    generalize m_wor tk = u4 at *
    generalize m_wor as = u5 at *
    subst g1 g2
    simp (disch := omega) only [x_L_law_738, x_L_law_740, x_L_law_741, x_L_law_743, x_L_law_744, x_L_law_745, x_L_law_747, x_L_law_748, x_L_law_750, x_L_law_751, x_L_law_752, x_L_law_754, x_L_law_757, x_L_law_758, x_L_law_761, x_L_law_763, x_L_law_765, x_L_law_766, x_L_law_768, x_L_law_770, x_L_law_771, x_L_law_773, x_L_law_776, x_L_law_778, x_L_law_781, x_L_law_782, x_L_law_783, x_L_law_786, x_L_law_787, x_L_law_788, x_L_law_791, x_L_law_792, List.length_cons, List.length_nil, Nat.reduceLeDiff, Nat.zero_add, iI_add, iI_sub, iI_mul, iI_neg, iI_lt, iI_le, iI_eq, jI_iI, B_True, B_False, B_t, B_f, ck_True, gd_True, cb_v, cb_n, p_mv_rw, p_fv_rw, p_rv_some, pA_1, pA_90, pA_92, pA_3, pA_5, pA_93, pA_4, pA_91, pA_6, pS_i, pB_i, pW_i, pZ_0, pZ_1, pZ_b, bI_e0, u1_s, u1_n, uA_s, uA_n, true_and, and_true, not_true_eq_false, not_false_eq_true, eq_self, iI_z, al1, al5, al3, al4, al90, al91, al92, al93, al6, Int.cast_ofNat_Int, Nat.reduceAdd, Int.reduceNeg, Int.reduceAdd, Int.reduceSub, Int.reduceMul, Int.reduceLT, Int.reduceLE, Int.reduceGT, Int.reduceGE, Int.reduceEq, Int.reduceNe, Nat.reduceEqDiff, Int.zero_add, Int.add_zero, p_ty0, p_ty1, p_ty2, p_ty3, p_ty4, p_ty5, p_ty8, p_ty9, p_ty10, ra, rb, a0, a1, q0, q1, t0, t1, m0, m1, hu0, hu1, hu2, hu3, gd_t, ck_t, B_t, B_f]
  · refine ⟨T3, Ma, uA F T.1.1 (fun _ => none), ?_, ⟨y0, fun b hb => ⟨fa b hb, uA_n (by omega)⟩⟩, by omega, by omega⟩
    rw [bI_f c]
    have g3 := g3 c
    clear hr
    generalize hu0 : v0 t = u0 at *
    generalize hu1 : v1 t = u1' at *
    generalize hu2 : v0 (1 - t) = u2 at *
    generalize hu3 : v1 (1 - t) = u3 at *
    generalize m_wor tk = u4 at *
    subst g1 g3
    simp (disch := omega) only [x_L_law_738, x_L_law_740, x_L_law_741, x_L_law_743, x_L_law_744, x_L_law_745, x_L_law_747, x_L_law_748, x_L_law_750, x_L_law_751, x_L_law_752, x_L_law_754, x_L_law_757, x_L_law_758, x_L_law_761, x_L_law_763, x_L_law_765, x_L_law_766, x_L_law_768, x_L_law_770, x_L_law_771, x_L_law_773, x_L_law_776, x_L_law_778, x_L_law_781, x_L_law_782, x_L_law_783, x_L_law_786, x_L_law_787, x_L_law_788, x_L_law_791, x_L_law_792, List.length_cons, List.length_nil, Nat.reduceLeDiff, Nat.zero_add, iI_add, iI_sub, iI_mul, iI_neg, iI_lt, iI_le, iI_eq, jI_iI, B_True, B_False, B_t, B_f, ck_True, gd_True, cb_v, cb_n, p_mv_rw, p_fv_rw, p_rv_some, pA_1, pA_90, pA_92, pA_3, pA_5, pA_93, pA_4, pA_91, pA_6, pS_i, pB_i, pW_i, pZ_0, pZ_1, pZ_b, bI_e0, u1_s, u1_n, uA_s, uA_n, true_and, and_true, not_true_eq_false, not_false_eq_true, eq_self, iI_z, al1, al5, al3, al4, al90, al91, al92, al93, al6, Int.cast_ofNat_Int, Nat.reduceAdd, Int.reduceNeg, Int.reduceAdd, Int.reduceSub, Int.reduceMul, Int.reduceLT, Int.reduceLE, Int.reduceGT, Int.reduceGE, Int.reduceEq, Int.reduceNe, Nat.reduceEqDiff, Int.zero_add, Int.add_zero, p_ty0, p_ty1, p_ty2, p_ty3, p_ty4, p_ty5, p_ty8, p_ty9, p_ty10, ra, a0, a1, q0, q1, t0, t1, m0, m1, hu0, hu1, hu2, hu3, gd_t, ck_t, B_t, B_f]
end PLWF
