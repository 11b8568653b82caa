section PLWR
variable {d k s b n D r e c0 c1 : Nat} {T T1 T2 : pT} {M M1 M2 : pM} {F F1 F2 : pF} {S S1 : GSx} {ea z mv c i j w a x as tk pc own : Int} {bs : Int → Int}
theorem lg_1 {l0 l1 l2 l4 l5 l6 l8 l9 l11 l12 l13 l15 l16 l18 l19 l20 l22 l23 l24 : Slot} (he : 10 ≤ e) (h : LW k T M F (z_mv S a c as) ea bs 0) (hf : SF S) (hV : MV S.1 S.2.1 S.2.2.1 a c) (has : 2 ≤ as ∧ as ≤ 5) (hk : m_king S.1 S.2.1 ≠ -1) (hch : ¬ m_chk (mk_bb S.1 S.2.2.1 a c 2) S.2.1) : ∃ l24' T1 M1 F1, R e m_L_law 793 [l0, l1, l2, .val (.ref (100 + k)), l4, l5, l6, .val (.int (iI (S.2.1))), l8, l9, .val (.int (iI (m_king S.1 S.2.1))), l11, l12, l13, .val (.int (iI (c))), l15, l16, .val (.int (iI (S.1 a % 10))), l18, l19, l20, .val (.int (iI (S.1 (mk_pl S.1 S.2.2.1 a c) % 10))), l22, l23, l24] [] T M F = R e m_L_law 868 [l0, l1, l2, .val (.ref (100 + k)), l4, l5, l6, .val (.int (iI (S.2.1))), l8, l9, .val (.int (iI (m_king S.1 S.2.1))), l11, l12, l13, .val (.int (iI (c))), l15, l16, .val (.int (iI (S.1 a % 10))), l18, l19, l20, .val (.int (iI (S.1 (mk_pl S.1 S.2.2.1 a c) % 10))), l22, l23, l24'] [] T1 M1 F1 ∧ LW k T1 M1 F1 (z_mv S a c as) ea bs 0 ∧ KX k T M F T1 M1 F1 := by
  obtain ⟨⟨f1, f2, f3⟩, ht, hPS, hq, -⟩ := hf
  obtain ⟨hi, hto, ho, hm, hn⟩ := id hV
  have hst := m_side_t f1 ht ho
  obtain ⟨o1, o2, o3⟩ := own_king f1 f2 ht hPS hV has hk hch
  obtain ⟨T1, M1, F1, e1, L1, K1⟩ := w_cell h o1 (i := 0) (by omega) he
  obtain ⟨T2, M2, F2, e2, L2, K2⟩ := w_cell L1 o1 (i := 5 - S.2.1) (by omega) he
  obtain ⟨T3, M3, F3, e3, L3, K3⟩ := w_count L2 (i := 6) (by omega) he
  have g1 : z_fac (z_mv S a c as) (if S.1 a % 10 = 1 then c else m_king S.1 S.2.1) 0 = 1 := o2
  have g2 : z_fac (z_mv S a c as) (if S.1 a % 10 = 1 then c else m_king S.1 S.2.1) (5 - S.2.1) = 0 := by
    rw [← o3]
    rcases ht with z | z <;> rw [z]
    · exact fac5
    · exact fac4
  have g3 : z_cnt (z_mv S a c as) 0 6 = mk_q S.1 S.2.2.1 S.2.2.2.1 a c := rfl
  rw [g1] at e1
  rw [g2] at e2
  rw [g3] at e3
  have hqq : (S.1 a % 10 = 6 ∨ 0 < S.1 (mk_pl S.1 S.2.2.1 a c) % 10) ∧ mk_q S.1 S.2.2.1 S.2.2.2.1 a c = 0 ∨ ¬ (S.1 a % 10 = 6 ∨ 0 < S.1 (mk_pl S.1 S.2.2.1 a c) % 10) ∧ 0 < mk_q S.1 S.2.2.1 S.2.2.2.1 a c ∧ mk_q S.1 S.2.2.1 S.2.2.2.1 a c ≤ 61 := by
    have hb := f1 (mk_pl S.1 S.2.2.1 a c)
    unfold mk_q
    split
    · exact Or.inl ⟨by omega, rfl⟩
    · exact Or.inr ⟨by omega, by omega, by omega⟩
  refine ⟨.val (.int (iI (if S.1 a % 10 = 1 then c else m_king S.1 S.2.1))), T3, M3, F3, ?_, L3, (K1.tr K2).tr K3⟩
  have ty := h.ty
  have ty1 := L1.ty
  have ty2 := L2.ty
  have hpi := MB.pi f1 (k := a) (by omega)
  have htk : 0 ≤ S.1 (mk_pl S.1 S.2.2.1 a c) % 10 ∧ S.1 (mk_pl S.1 S.2.2.1 a c) % 10 < 10 := by omega
  clear L1 L2 L3 K1 K2 K3 h hV hm hPS f1 f2 f3 g1 g2 g3 o2 o3 hch
  generalize mk_q S.1 S.2.2.1 S.2.2.2.1 a c = qq at *
  generalize S.1 (mk_pl S.1 S.2.2.1 a c) % 10 = tk at *
  generalize S.1 a % 10 = pi at *
  generalize m_king S.1 S.2.1 = kg at *
  generalize S.2.1 = t at *
  by_cases c1 : pi = 1
  · rw [if_pos c1] at e1 e2 ⊢
    rcases hqq with ⟨h1, h2⟩ | ⟨h1, h2⟩
    · subst h2
      have h3 : 0 < tk := by omega
      simp (disch := omega) only [x_L_law_793, x_L_law_795, x_L_law_796, x_L_law_799, x_L_law_801, x_L_law_804, x_L_law_806, x_L_law_808, x_L_law_809, x_L_law_811, x_L_law_812, x_L_law_815, x_L_law_816, x_L_law_819, x_L_law_820, x_L_law_822, x_L_law_823, x_L_law_825, x_L_law_826, x_L_law_829, x_L_law_832, x_L_law_834, x_L_law_836, x_L_law_839, x_L_law_841, x_L_law_844, x_L_law_845, x_L_law_848, x_L_law_849, x_L_law_850, x_L_law_852, x_L_law_855, x_L_law_858, x_L_law_859, x_L_law_862, x_L_law_863, x_L_law_866, x_L_law_867, List.length_cons, List.length_nil, Nat.reduceLeDiff, Nat.zero_add, iI_add, iI_sub, iI_mul, iI_neg, iI_lt, iI_le, iI_eq, jI_iI, B_True, B_False, B_t, B_f, ck_True, gd_True, cb_v, cb_n, p_mv_rw, p_fv_rw, p_rv_some, pA_1, pA_90, pA_92, pA_3, pA_5, pA_93, pA_4, pA_91, pA_6, pS_i, pB_i, pW_i, pZ_0, pZ_1, pZ_b, bI_e0, u1_s, u1_n, uA_s, uA_n, true_and, and_true, not_true_eq_false, not_false_eq_true, eq_self, iI_z, al1, al5, al3, al4, al90, al91, al92, al93, al6, Int.cast_ofNat_Int, Nat.reduceAdd, Int.reduceNeg, Int.reduceAdd, Int.reduceSub, Int.reduceMul, Int.reduceLT, Int.reduceLE, Int.reduceGT, Int.reduceGE, Int.reduceEq, Int.reduceNe, Nat.reduceEqDiff, Int.zero_add, Int.add_zero, p_ty0, p_ty1, p_ty2, p_ty3, p_ty4, p_ty5, p_ty8, p_ty9, p_ty10, e1, e2, e3, ty, ty1, ty2, gd_t, ck_t, B_t, B_f]
    · have h3 : ¬ 0 < tk := fun z => h1 (Or.inr z)
      simp (disch := omega) only [x_L_law_793, x_L_law_795, x_L_law_796, x_L_law_799, x_L_law_801, x_L_law_804, x_L_law_806, x_L_law_808, x_L_law_809, x_L_law_811, x_L_law_812, x_L_law_815, x_L_law_816, x_L_law_819, x_L_law_820, x_L_law_822, x_L_law_823, x_L_law_825, x_L_law_826, x_L_law_829, x_L_law_832, x_L_law_834, x_L_law_836, x_L_law_839, x_L_law_841, x_L_law_844, x_L_law_845, x_L_law_848, x_L_law_849, x_L_law_850, x_L_law_852, x_L_law_855, x_L_law_858, x_L_law_859, x_L_law_862, x_L_law_863, x_L_law_866, x_L_law_867, List.length_cons, List.length_nil, Nat.reduceLeDiff, Nat.zero_add, iI_add, iI_sub, iI_mul, iI_neg, iI_lt, iI_le, iI_eq, jI_iI, B_True, B_False, B_t, B_f, ck_True, gd_True, cb_v, cb_n, p_mv_rw, p_fv_rw, p_rv_some, pA_1, pA_90, pA_92, pA_3, pA_5, pA_93, pA_4, pA_91, pA_6, pS_i, pB_i, pW_i, pZ_0, pZ_1, pZ_b, bI_e0, u1_s, u1_n, uA_s, uA_n, true_and, and_true, not_true_eq_false, not_false_eq_true, eq_self, iI_z, al1, al5, al3, al4, al90, al91, al92, al93, al6, Int.cast_ofNat_Int, Nat.reduceAdd, Int.reduceNeg, Int.reduceAdd, Int.reduceSub, Int.reduceMul, Int.reduceLT, Int.reduceLE, Int.reduceGT, Int.reduceGE, Int.reduceEq, Int.reduceNe, Nat.reduceEqDiff, Int.zero_add, Int.add_zero, p_ty0, p_ty1, p_ty2, p_ty3, p_ty4, p_ty5, p_ty8, p_ty9, p_ty10, e1, e2, e3, ty, ty1, ty2, gd_t, ck_t, B_t, B_f]
  · rw [if_neg c1] at e1 e2 ⊢
    rcases hqq with ⟨h1, h2⟩ | ⟨h1, h2⟩
    · subst h2
      by_cases c6 : pi = 6
      · simp (disch := omega) only [x_L_law_793, x_L_law_795, x_L_law_796, x_L_law_799, x_L_law_801, x_L_law_804, x_L_law_806, x_L_law_808, x_L_law_809, x_L_law_811, x_L_law_812, x_L_law_815, x_L_law_816, x_L_law_819, x_L_law_820, x_L_law_822, x_L_law_823, x_L_law_825, x_L_law_826, x_L_law_829, x_L_law_832, x_L_law_834, x_L_law_836, x_L_law_839, x_L_law_841, x_L_law_844, x_L_law_845, x_L_law_848, x_L_law_849, x_L_law_850, x_L_law_852, x_L_law_855, x_L_law_858, x_L_law_859, x_L_law_862, x_L_law_863, x_L_law_866, x_L_law_867, List.length_cons, List.length_nil, Nat.reduceLeDiff, Nat.zero_add, iI_add, iI_sub, iI_mul, iI_neg, iI_lt, iI_le, iI_eq, jI_iI, B_True, B_False, B_t, B_f, ck_True, gd_True, cb_v, cb_n, p_mv_rw, p_fv_rw, p_rv_some, pA_1, pA_90, pA_92, pA_3, pA_5, pA_93, pA_4, pA_91, pA_6, pS_i, pB_i, pW_i, pZ_0, pZ_1, pZ_b, bI_e0, u1_s, u1_n, uA_s, uA_n, true_and, and_true, not_true_eq_false, not_false_eq_true, eq_self, iI_z, al1, al5, al3, al4, al90, al91, al92, al93, al6, Int.cast_ofNat_Int, Nat.reduceAdd, Int.reduceNeg, Int.reduceAdd, Int.reduceSub, Int.reduceMul, Int.reduceLT, Int.reduceLE, Int.reduceGT, Int.reduceGE, Int.reduceEq, Int.reduceNe, Nat.reduceEqDiff, Int.zero_add, Int.add_zero, p_ty0, p_ty1, p_ty2, p_ty3, p_ty4, p_ty5, p_ty8, p_ty9, p_ty10, e1, e2, e3, ty, ty1, ty2, gd_t, ck_t, B_t, B_f]
      · have h3 : 0 < tk := by omega
        simp (disch := omega) only [x_L_law_793, x_L_law_795, x_L_law_796, x_L_law_799, x_L_law_801, x_L_law_804, x_L_law_806, x_L_law_808, x_L_law_809, x_L_law_811, x_L_law_812, x_L_law_815, x_L_law_816, x_L_law_819, x_L_law_820, x_L_law_822, x_L_law_823, x_L_law_825, x_L_law_826, x_L_law_829, x_L_law_832, x_L_law_834, x_L_law_836, x_L_law_839, x_L_law_841, x_L_law_844, x_L_law_845, x_L_law_848, x_L_law_849, x_L_law_850, x_L_law_852, x_L_law_855, x_L_law_858, x_L_law_859, x_L_law_862, x_L_law_863, x_L_law_866, x_L_law_867, List.length_cons, List.length_nil, Nat.reduceLeDiff, Nat.zero_add, iI_add, iI_sub, iI_mul, iI_neg, iI_lt, iI_le, iI_eq, jI_iI, B_True, B_False, B_t, B_f, ck_True, gd_True, cb_v, cb_n, p_mv_rw, p_fv_rw, p_rv_some, pA_1, pA_90, pA_92, pA_3, pA_5, pA_93, pA_4, pA_91, pA_6, pS_i, pB_i, pW_i, pZ_0, pZ_1, pZ_b, bI_e0, u1_s, u1_n, uA_s, uA_n, true_and, and_true, not_true_eq_false, not_false_eq_true, eq_self, iI_z, al1, al5, al3, al4, al90, al91, al92, al93, al6, Int.cast_ofNat_Int, Nat.reduceAdd, Int.reduceNeg, Int.reduceAdd, Int.reduceSub, Int.reduceMul, Int.reduceLT, Int.reduceLE, Int.reduceGT, Int.reduceGE, Int.reduceEq, Int.reduceNe, Nat.reduceEqDiff, Int.zero_add, Int.add_zero, p_ty0, p_ty1, p_ty2, p_ty3, p_ty4, p_ty5, p_ty8, p_ty9, p_ty10, e1, e2, e3, ty, ty1, ty2, gd_t, ck_t, B_t, B_f]
    · have h3 : ¬ 0 < tk := fun z => h1 (Or.inr z)
      have h4 : ¬ pi = 6 := fun z => h1 (Or.inl z)
      simp (disch := omega) only [x_L_law_793, x_L_law_795, x_L_law_796, x_L_law_799, x_L_law_801, x_L_law_804, x_L_law_806, x_L_law_808, x_L_law_809, x_L_law_811, x_L_law_812, x_L_law_815, x_L_law_816, x_L_law_819, x_L_law_820, x_L_law_822, x_L_law_823, x_L_law_825, x_L_law_826, x_L_law_829, x_L_law_832, x_L_law_834, x_L_law_836, x_L_law_839, x_L_law_841, x_L_law_844, x_L_law_845, x_L_law_848, x_L_law_849, x_L_law_850, x_L_law_852, x_L_law_855, x_L_law_858, x_L_law_859, x_L_law_862, x_L_law_863, x_L_law_866, x_L_law_867, List.length_cons, List.length_nil, Nat.reduceLeDiff, Nat.zero_add, iI_add, iI_sub, iI_mul, iI_neg, iI_lt, iI_le, iI_eq, jI_iI, B_True, B_False, B_t, B_f, ck_True, gd_True, cb_v, cb_n, p_mv_rw, p_fv_rw, p_rv_some, pA_1, pA_90, pA_92, pA_3, pA_5, pA_93, pA_4, pA_91, pA_6, pS_i, pB_i, pW_i, pZ_0, pZ_1, pZ_b, bI_e0, u1_s, u1_n, uA_s, uA_n, true_and, and_true, not_true_eq_false, not_false_eq_true, eq_self, iI_z, al1, al5, al3, al4, al90, al91, al92, al93, al6, Int.cast_ofNat_Int, Nat.reduceAdd, Int.reduceNeg, Int.reduceAdd, Int.reduceSub, Int.reduceMul, Int.reduceLT, Int.reduceLE, Int.reduceGT, Int.reduceGE, Int.reduceEq, Int.reduceNe, Nat.reduceEqDiff, Int.zero_add, Int.add_zero, p_ty0, p_ty1, p_ty2, p_ty3, p_ty4, p_ty5, p_ty8, p_ty9, p_ty10, e1, e2, e3, ty, ty1, ty2, gd_t, ck_t, B_t, B_f]
theorem lg_2 {l0 l1 l2 l4 l5 l6 l7 l8 l9 l10 l11 l12 l13 l14 l17 l19 l20 l21 l22 l23 l24 : Slot} (he : 10 ≤ e) (h : LW k T M F (z_mv S a c as) ea bs 0) (hH : S.2.2.2.2.length < 600) : ∃ T1 M1 F1, R e m_L_law 868 [l0, l1, l2, .val (.ref (100 + k)), l4, l5, l6, l7, l8, l9, l10, l11, l12, l13, l14, .val (.long (z_dig S 0)), .second, l17, .val (.int (iI ((S.2.2.2.2.length : Int)))), l19, l20, l21, l22, l23, l24] [] T M F = R e m_L_law 889 [l0, l1, l2, .val (.ref (100 + k)), l4, l5, l6, l7, l8, l9, l10, l11, l12, l13, l14, .val (.long (z_dig S 0)), .second, l17, .val (.int (iI ((S.2.2.2.2.length : Int)))), l19, l20, l21, l22, l23, l24] [] T1 M1 F1 ∧ LW k T1 M1 F1 S ea bs 0 ∧ KX k T M F T1 M1 F1 := by
  obtain ⟨T1, M1, F1, e1, L1, K1⟩ := w_back h hH he
  obtain ⟨T2, M2, F2, e2, L2, K2⟩ := w_digest L1 he
  refine ⟨T2, M2, F2, ?_, L2, K1.tr K2⟩
  have ty := h.ty
  have ty1 := L1.ty
  clear L1 L2 K1 K2 h
  generalize S.2.2.2.2.length = ln at *
  generalize z_dig S 0 = dg at *
  simp (disch := omega) only [x_L_law_868, x_L_law_869, x_L_law_872, x_L_law_874, x_L_law_877, x_L_law_878, x_L_law_881, x_L_law_883, x_L_law_884, x_L_law_887, x_L_law_888, List.length_cons, List.length_nil, Nat.reduceLeDiff, Nat.zero_add, iI_add, iI_sub, iI_mul, iI_neg, iI_lt, iI_le, iI_eq, jI_iI, B_True, B_False, B_t, B_f, ck_True, gd_True, cb_v, cb_n, p_mv_rw, p_fv_rw, p_rv_some, pA_1, pA_90, pA_92, pA_3, pA_5, pA_93, pA_4, pA_91, pA_6, pS_i, pB_i, pW_i, pZ_0, pZ_1, pZ_b, bI_e0, u1_s, u1_n, uA_s, uA_n, true_and, and_true, not_true_eq_false, not_false_eq_true, eq_self, iI_z, al1, al5, al3, al4, al90, al91, al92, al93, al6, Int.cast_ofNat_Int, Nat.reduceAdd, Int.reduceNeg, Int.reduceAdd, Int.reduceSub, Int.reduceMul, Int.reduceLT, Int.reduceLE, Int.reduceGT, Int.reduceGE, Int.reduceEq, Int.reduceNe, Nat.reduceEqDiff, Int.zero_add, Int.add_zero, p_ty0, p_ty1, p_ty2, p_ty3, p_ty4, p_ty5, p_ty8, p_ty9, p_ty10, e1, e2, ty, ty1, lg_cmp0, gd_t, ck_t, B_t, B_f]
theorem LQ.ky (h : LQ k s b T M F S mv) (hx : KY k T M F T1 M1 F1) (hW : LW k T1 M1 F1 S ea bs 0) : LQ k s b T1 M1 F1 S mv := by
  have hn := h.cnt
  obtain ⟨hsb, hI, hS, -⟩ := h
  exact ⟨hsb, hI.ky hx hsb.1 hsb.2 hn, hS.eq (hx.2 s (by omega) (Or.inl hsb.1)).1 (hx.2 b (by omega) (Or.inl hsb.2)).1, ea, bs, hW⟩
theorem lg_3 {l0 l1 l4 l8 l9 l11 l12 l13 l14 l15 l16 l17 l18 l19 l20 l21 l22 l23 l24 : Slot} {x5 : Int32} (he : 10 ≤ e) (h : LQ k s b T M F S mv) (hmv : mv = S.2.2.2.2.length) (hm9 : mv ≤ 500) (hl : (lgQ S.1 S.2.1 S.2.2.1 S.2.2.2.1).length ≠ 0) : ∃ (m12 m13 m14 m15 m16 m17 m18 m19 m20 m21 m22 m23 m24 : Slot) (T1 : pT) (M1 : pM) (F1 : pF) (S1 : GSx) (mv1 : Int), R (e + 1) m_L_law 521 [l0, l1, .val (.ref s), .val (.ref (100 + k)), l4, .val (.int x5), .val (.int (iI (((lgQ S.1 S.2.1 S.2.2.1 S.2.2.2.1).length : Int)))), .val (.int (iI (S.2.1))), l8, l9, .val (.int (iI (m_king S.1 S.2.1))), l11, l12, l13, l14, l15, l16, l17, l18, l19, l20, l21, l22, l23, l24] [] T M F = R (e + 1) m_L_law 903 [l0, l1, .val (.ref s), .val (.ref (100 + k)), l4, .val (.int x5), .val (.int (iI (((lgQ S.1 S.2.1 S.2.2.1 S.2.2.2.1).length : Int)))), .val (.int (iI (S.2.1))), l8, l9, .val (.int (iI (m_king S.1 S.2.1))), l11, m12, m13, m14, m15, m16, m17, m18, m19, m20, m21, m22, m23, m24] [] T1 M1 F1 ∧ LQ k s b T1 M1 F1 S1 mv1 ∧ mv1 = S1.2.2.2.2.length ∧ mv1 ≤ mv + 1 ∧ (T1.1.1 ≤ T.1.1 + 5010 ∧ T1.1.2 ≤ T.1.2 + 600050) ∧ s_mono T T1 ∧ ∀ a, a < 100 → M1 a = M a ∧ F1 a = F a := by
  have hn := h.cnt
  have hsf := h.sf
  obtain ⟨⟨f1, f2, f3⟩, ht, hPS, -⟩ := id hsf
  obtain ⟨hsb, hI, hS, ea, bs, hW⟩ := id h
  obtain ⟨a, c, T1, M1, F1, ⟨ha, hc, hL⟩, e1, L1, K1⟩ := lf_1 (l0 := l0) (l1 := l1) (l2 := .val (.ref s)) (l4 := l4) (l7 := .val (.int (iI (S.2.1)))) (l8 := l8) (l9 := l9) (l10 := .val (.int (iI (m_king S.1 S.2.1)))) (l11 := l11) (l12 := l12) (l13 := l13) (l14 := l14) (l15 := l15) (l16 := l16) (l17 := l17) (l18 := l18) (l19 := l19) (l20 := l20) (l21 := l21) (l22 := l22) (l23 := l23) (l24 := l24) (e := e + 1) (x5 := x5) (by omega) hW hl
  obtain ⟨hqq, hy, hV, hch⟩ := lgQ_mv hL ha hc
  have hkg : m_king S.1 S.2.1 ≠ -1 := by rcases ht with z | z <;> rw [z]; exact hy.1; exact hy.2.1
  obtain ⟨T2, M2, F2, e2, L2, K2, n2, t2, u0, u1'⟩ := lf_a (l0 := l0) (l1 := l1) (l2 := .val (.ref s)) (l4 := l4) (l5 := .val (.int x5)) (l6 := .val (.int (iI (((lgQ S.1 S.2.1 S.2.2.1 S.2.2.2.1).length : Int))))) (l7 := .val (.int (iI (S.2.1)))) (l8 := l8) (l9 := l9) (l10 := .val (.int (iI (m_king S.1 S.2.1)))) (l11 := l11) (l12 := .val (.int (iI (91 * a + c)))) (l13 := .val (.int (iI (a)))) (l14 := .val (.int (iI (c)))) (l15 := .val (.long (z_dig S 0))) (l16 := .second) (l17 := .val (.int (iI (S.1 a % 10)))) (l18 := .val (.int (iI ((S.2.2.2.2.length : Int))))) (l19 := l19) (l20 := l20) (l21 := l21) (l22 := l22) (l23 := l23) (l24 := l24) (e := e + 1) (by omega) L1
  obtain ⟨as, T3, M3, F3, has, e3, L3, K3⟩ := lf_2 (l0 := l0) (l1 := l1) (l2 := .val (.ref s)) (l4 := l4) (l6 := .val (.int (iI (((lgQ S.1 S.2.1 S.2.2.1 S.2.2.2.1).length : Int))))) (l7 := .val (.int (iI (S.2.1)))) (l8 := l8) (l9 := l9) (l10 := .val (.int (iI (m_king S.1 S.2.1)))) (l11 := l11) (l12 := .val (.int (iI (91 * a + c)))) (l15 := .val (.long (z_dig S 0))) (l16 := .second) (l18 := .val (.int (iI ((S.2.2.2.2.length : Int))))) (l19 := .val (.ref T1.1.1)) (l20 := l20) (l21 := l21) (l22 := l22) (l23 := l23) (l24 := l24) (e := e + 1) (x5 := x5) (by omega) L2 ha hc hL (by omega)
  obtain ⟨T4, M4, F4, e4, L4, K4, n4, t4, v0, v1⟩ := lf_b (l0 := l0) (l1 := l1) (l2 := .val (.ref s)) (l4 := l4) (l5 := .val (.int x5)) (l6 := .val (.int (iI (((lgQ S.1 S.2.1 S.2.2.1 S.2.2.2.1).length : Int))))) (l7 := .val (.int (iI (S.2.1)))) (l8 := l8) (l9 := l9) (l10 := .val (.int (iI (m_king S.1 S.2.1)))) (l11 := l11) (l12 := .val (.int (iI (91 * a + c)))) (l13 := .val (.int (iI (a)))) (l14 := .val (.int (iI (c)))) (l15 := .val (.long (z_dig S 0))) (l16 := .second) (l17 := .val (.int (iI (S.1 a % 10)))) (l18 := .val (.int (iI ((S.2.2.2.2.length : Int))))) (l19 := .val (.ref T1.1.1)) (l20 := .val (.int (iI (as)))) (l21 := .val (.int (iI (S.1 (mk_pl S.1 S.2.2.1 a c) % 10)))) (l22 := .val (.int (iI (bI (S.1 a % 10 ≠ mk_th S.1 a c as % 10))))) (l23 := l23) (l24 := l24) (e := e + 1) (by omega) L3
  obtain ⟨T5, M5, F5, e5, L5, K5⟩ := lf_3 (l0 := l0) (l1 := l1) (l2 := .val (.ref s)) (l4 := l4) (l5 := .val (.int x5)) (l6 := .val (.int (iI (((lgQ S.1 S.2.1 S.2.2.1 S.2.2.2.1).length : Int))))) (l8 := l8) (l9 := l9) (l10 := .val (.int (iI (m_king S.1 S.2.1)))) (l11 := l11) (l12 := .val (.int (iI (91 * a + c)))) (l15 := .val (.long (z_dig S 0))) (l16 := .second) (l19 := .val (.ref T1.1.1)) (l21 := .val (.int (iI (S.1 (mk_pl S.1 S.2.2.1 a c) % 10)))) (l23 := .val (.ref T3.1.1)) (l24 := l24) (e := e + 1) (by omega) L4 hsf hV has (by omega)
  have hn1 := L1.cnt
  have hn3 := L3.cnt
  have k3 := K3.lt
  have k5 := K5.lt
  have hn5 := L5.cnt
  -- the arrays
  have a0 : p_ty T5 T1.1.1 = (1, 2) := ((K3.1.tr (K4.1.tr K5.1)).2.2 T1.1.1 (by omega)).trans t2
  have a1 : p_ty T5 T3.1.1 = (1, 2) := (K5.1.2.2 T3.1.1 (by omega)).trans t4
  have b0 : M5 T1.1.1 = M2 T1.1.1 := by rw [(K5.2.2 T1.1.1 (by omega) (Or.inr (by omega))).1, (K4.2 T1.1.1 (by omega) (Or.inr (by omega))).1, (K3.2.2 T1.1.1 (by omega) (Or.inr (by omega))).1]
  have b1 : M5 T3.1.1 = M4 T3.1.1 := (K5.2.2 T3.1.1 (by omega) (Or.inr (by omega))).1
  obtain ⟨w1, w2⟩ := wo_mk f1 ht hPS hV has
  have hb9 := f1.mk ht hV has
  have hth := (mk_th_v f1 ht hV has).2.1
  have ho := hV.2.2.1
  have hst := m_side_t f1 ht ho
  have htk : 0 ≤ S.1 (mk_pl S.1 S.2.2.1 a c) % 10 ∧ S.1 (mk_pl S.1 S.2.2.1 a c) % 10 ≤ 6 := by have := f1 (mk_pl S.1 S.2.2.1 a c); omega
  have hm0 : ∀ i, (i = 0 ∨ i = 1) → M2 T1.1.1 i = sm (a_wo S.1 i) 91 := by
    rintro i (rfl | rfl)
    · exact u0
    · exact u1'
  have hm1 : ∀ i, (i = 0 ∨ i = 1) → M4 T3.1.1 i = sm (a_wo (mk_bb S.1 S.2.2.1 a c as) i) 91 := by
    rintro i (rfl | rfl)
    · exact v0
    · exact v1
  obtain ⟨T6, M6, F6, e6, ⟨K6, f6⟩, n6⟩ := lf_4 (l0 := l0) (l1 := l1) (l2 := .val (.ref s)) (l4 := l4) (l5 := .val (.int x5)) (l6 := .val (.int (iI (((lgQ S.1 S.2.1 S.2.2.1 S.2.2.2.1).length : Int))))) (l8 := l8) (l9 := l9) (l10 := .val (.int (iI (m_king S.1 S.2.1)))) (l11 := l11) (l12 := .val (.int (iI (91 * a + c)))) (l13 := .val (.int (iI (a)))) (l14 := .val (.int (iI (c)))) (l15 := .val (.long (z_dig S 0))) (l16 := .second) (l17 := .val (.int (iI (S.1 a % 10)))) (l18 := .val (.int (iI ((S.2.2.2.2.length : Int))))) (l24 := l24) (e := e + 1) (t := S.2.1) (as := as) (tk := S.1 (mk_pl S.1 S.2.2.1 a c) % 10) (P := S.1 a % 10 ≠ mk_th S.1 a c as % 10) (c0 := T1.1.1) (c1 := T3.1.1) (T := T5) (M := M5) (F := F5) (v0 := M2 T1.1.1) (v1 := M4 T3.1.1) (by omega) hn5 ht has htk a0 a1 (by omega) (by omega) b0 b1
    (fun i i0 i1 => by
      have h1 : i = 0 ∨ i = 1 := by omega
      rw [hm0 i h1, hm1 i h1]
      have := sm_wo_rg f1 i
      have := sm_wo_rg (S := (mk_bb S.1 S.2.2.1 a c as, 0, 0, 0, [])) hb9 i
      dsimp only at this
      omega)
    (by rw [hm0 _ (by omega), hm1 _ (by omega)]; exact w2)
    (fun hP => by
      rw [hm0 _ ht, hm1 _ ht, w1]
      have : mk_th S.1 a c as % 10 = as ∧ S.1 a % 10 = 6 := by
        revert hP
        unfold mk_th
        split
        · rename_i z
          intro _
          rw [ho]
          exact ⟨by omega, z.1⟩
        · intro z; exact absurd rfl z
      rw [this.1, this.2, show m_wor 6 = 1 from rfl])
    (fun hP => by
      rw [hm0 _ ht, hm1 _ ht, w1]
      have : S.1 a % 10 = mk_th S.1 a c as % 10 := Classical.byContradiction hP
      rw [this]
      omega)
  have L6 := L5.up (T1 := T6) (M1 := M6) (F1 := F6) K6 (fun b0 h1 h2 => f6 b0 (by omega))
  obtain ⟨l24', T7, M7, F7, e7, L7, K7⟩ := lg_1 (l0 := l0) (l1 := l1) (l2 := .val (.ref s)) (l4 := l4) (l5 := .val (.int x5)) (l6 := .val (.int (iI (((lgQ S.1 S.2.1 S.2.2.1 S.2.2.2.1).length : Int))))) (l8 := l8) (l9 := l9) (l11 := l11) (l12 := .val (.int (iI (91 * a + c)))) (l13 := .val (.int (iI (a)))) (l15 := .val (.long (z_dig S 0))) (l16 := .second) (l18 := .val (.int (iI ((S.2.2.2.2.length : Int))))) (l19 := .val (.ref T1.1.1)) (l20 := .val (.int (iI (as)))) (l22 := .val (.int (iI (bI (S.1 a % 10 ≠ mk_th S.1 a c as % 10))))) (l23 := .val (.ref T3.1.1)) (l24 := l24) (e := e + 1) (by omega) L6 hsf hV has hkg hch
  obtain ⟨T8, M8, F8, e8, L8, K8⟩ := lg_2 (l0 := l0) (l1 := l1) (l2 := .val (.ref s)) (l4 := l4) (l5 := .val (.int x5)) (l6 := .val (.int (iI (((lgQ S.1 S.2.1 S.2.2.1 S.2.2.2.1).length : Int))))) (l7 := .val (.int (iI (S.2.1)))) (l8 := l8) (l9 := l9) (l10 := .val (.int (iI (m_king S.1 S.2.1)))) (l11 := l11) (l12 := .val (.int (iI (91 * a + c)))) (l13 := .val (.int (iI (a)))) (l14 := .val (.int (iI (c)))) (l17 := .val (.int (iI (S.1 a % 10)))) (l19 := .val (.ref T1.1.1)) (l20 := .val (.int (iI (as)))) (l21 := .val (.int (iI (S.1 (mk_pl S.1 S.2.2.1 a c) % 10)))) (l22 := .val (.int (iI (bI (S.1 a % 10 ≠ mk_th S.1 a c as % 10))))) (l23 := .val (.ref T3.1.1)) (l24 := l24') (e := e + 1) (by omega) L7 (by omega)
  have KK : KY k T M F T8 M8 F8 := K1.ky.tr (K2.tr (K3.ky.tr (K4.tr (K5.ky.tr (KY.tr ⟨K6, fun b0 hb _ => f6 b0 hb⟩ (K7.ky.tr K8.ky))))))
  have Q8 := h.ky KK L8
  obtain ⟨T9, M9, F9, S9, mv9, e9, Q9, g1, g2, g3, g4, g5⟩ := z_goes (e := e) Q8 hmv (by omega) (x5 >>> (iI 2 &&& 31)) he
  have ncell : T8.1.1 ≤ T.1.1 + 4 ∧ T8.1.2 ≤ T.1.2 + 18 := by
    have q1 := K1.2.1
    have q3 := K3.2.1
    have q5 := K5.2.1
    have q7 := K7.2.1
    have q8 := K8.2.1
    rw [q8, q7]
    rw [q5] at n6
    rw [q3] at n4
    rw [q1] at n2
    omega
  refine ⟨.val (.int (iI (91 * a + c))), .val (.int (iI (a))), .val (.int (iI (c))), .val (.long (z_dig S 0)), .second, .val (.int (iI (S.1 a % 10))), .val (.int (iI ((S.2.2.2.2.length : Int)))), .val (.ref T1.1.1), .val (.int (iI (as))), .val (.int (iI (S.1 (mk_pl S.1 S.2.2.1 a c) % 10))), .val (.int (iI (bI (S.1 a % 10 ≠ mk_th S.1 a c as % 10)))), .val (.ref T3.1.1), l24', T9, M9, F9, S9, mv9, ?_, Q9, g1, by omega, ⟨by have := g3.1; omega, by have := g3.2; omega⟩, KK.1.tr g4, fun a ha => ⟨?_, ?_⟩⟩
  · rw [e1, e2, e3, e4, e5, e6, e7, e8]
    have ty := L8.ty
    have tys := Q8.2.1.2.1
    clear L1 L2 L3 L4 L5 L6 L7 L8 K1 K2 K3 K4 K5 K6 K7 K8 KK Q8 Q9 h hW e1 e2 e3 e4 e5 e6 e7 e8
    simp (disch := omega) only [x_L_law_889, x_L_law_890, x_L_law_891, x_L_law_893, x_L_law_894, x_L_law_895, x_L_law_898, x_L_law_901, x_L_law_902, List.length_cons, List.length_nil, Nat.reduceLeDiff, Nat.zero_add, iI_add, iI_sub, iI_mul, iI_neg, iI_lt, iI_le, iI_eq, jI_iI, B_True, B_False, B_t, B_f, ck_True, gd_True, cb_v, cb_n, p_mv_rw, p_fv_rw, p_rv_some, pA_1, pA_90, pA_92, pA_3, pA_5, pA_93, pA_4, pA_91, pA_6, pS_i, pB_i, pW_i, pZ_0, pZ_1, pZ_b, bI_e0, u1_s, u1_n, uA_s, uA_n, true_and, and_true, not_true_eq_false, not_false_eq_true, eq_self, iI_z, al1, al5, al3, al4, al90, al91, al92, al93, al6, Int.cast_ofNat_Int, Nat.reduceAdd, Int.reduceNeg, Int.reduceAdd, Int.reduceSub, Int.reduceMul, Int.reduceLT, Int.reduceLE, Int.reduceGT, Int.reduceGE, Int.reduceEq, Int.reduceNe, Nat.reduceEqDiff, Int.zero_add, Int.add_zero, p_ty0, p_ty1, p_ty2, p_ty3, p_ty4, p_ty5, p_ty8, p_ty9, p_ty10, e9, gd_t, ck_t, B_t, B_f]
  · rw [(g5 a ha).1]; exact (KK.2 a (by omega) (Or.inl (by omega))).1
  · rw [(g5 a ha).2]; exact (KK.2 a (by omega) (Or.inl (by omega))).2
end PLWR
