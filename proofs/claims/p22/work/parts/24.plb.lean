section PPLB
variable {d : Nat} {T : pT} {M : pM} {F : pF} {b g : Nat} {bb : Int → Int} {k s t pas q its to as c x n : Int}
def q_pk (bb : Int → Int) (pas q its to : Int) : Int := q_pl its + q_pl to * 512 + q_pl (mk_pl bb pas its to) * 262144 + ((cv (bb its) + cv (bb (mk_pl bb pas its to)) * 16 + q * 256) * 134217728 + (q_pp pas + 1) * 8796093022208)
theorem PS_rg (h : PS bb t pas) : -1 ≤ pas ∧ pas < 91 := by
  rcases h with h | ⟨h1, h2, -⟩ <;> omega
/-- what the run of play wants to know -/
theorem pl_facts (hR : RB M (g + 1) bb) (ht : t = 0 ∨ t = 1) (hp : PS bb t pas) (hV : MV bb t pas its to) :
    (q_pl to = q_pp pas ↔ to = pas) ∧ q_on (M (g + 1 + 1)) (q_pl to + q_fwd t) = cm (m_on bb (gn to (m_ah t))) ∧ (gn to (m_ah t) = -1 → cm (m_on bb (gn to (m_ah t))) = -1) ∧ (gn to (m_ah t) ≠ -1 → 0 ≤ cm (m_on bb (gn to (m_ah t)))) ∧ (-1 ≤ cm (m_on bb (gn to (m_ah t))) ∧ cm (m_on bb (gn to (m_ah t))) ≤ 14) := by
  have hb := hR.2.2.1
  obtain ⟨h1, h2, h3, h4, h5⟩ := hV
  have hpr := PS_rg hp
  obtain ⟨a1, a2, a3, a4⟩ := ah_fwd ht
  have q2 := q_pl_nn h2
  have hgn := gn_rg h2 a2
  have hl1 : gn to (m_ah t) = -1 → cm (m_on bb (gn to (m_ah t))) = -1 := by intro z; rw [z]; rfl
  have hl2 : gn to (m_ah t) ≠ -1 → 0 ≤ cm (m_on bb (gn to (m_ah t))) ∧ cm (m_on bb (gn to (m_ah t))) ≤ 14 := by
    intro z
    have := hb (gn to (m_ah t))
    unfold cm m_on cv
    rw [if_neg z]
    (repeat' split) <;> omega
  refine ⟨⟨fun z => ?_, fun z => ?_⟩, ?_, hl1, fun z => (hl2 z).1, ?_⟩
  · have := q_pp_cel hpr
    rw [← z, geo1 h2] at this
    exact this
  · rw [z]
    unfold q_pp
    rw [if_neg (by omega)]
  · rw [hR.2.1.on hb (p := q_pl to + q_fwd t) (by omega)]
    unfold gn
    rw [a1]
  · by_cases z : gn to (m_ah t) = -1
    · rw [hl1 z]; omega
    · have := hl2 z; omega
theorem play_A (hG : GT T F g) (hS : GS M g bb t pas q) (hV : MV bb t pas its to) {e : Nat} (he : 1 ≤ e) {l3 l7 l8 l9 l10 : Slot} :
    R e m_X1_play 0 [.val (.ref g), .val (.int (iI (q_pl its))), .val (.int (iI (q_pl to))), l3, .unset, .unset, .unset, l7, l8, l9, l10] [] T M F = R e m_X1_play 85 [.val (.ref g), .val (.int (iI (q_pl its))), .val (.int (iI (q_pl to))), l3, .val (.int (iI (cv (bb its)))), .val (.int (iI (bI (bb its % 10 = 6)))), .val (.int (iI (bI (mk_be bb its to)))), l7, l8, l9, l10] [.int (iI (q_pl (mk_pl bb pas its to)))] T M F := by
  obtain ⟨hR, s1, s2, s3, ht, s5, hp⟩ := hS
  obtain ⟨p1, p2, p3, p4, p5⟩ := pl_facts hR ht hp hV
  have hb := hR.2.2.1
  obtain ⟨hg, t0, f0, hB, -⟩ := hG
  have hb0 := hB.2.1
  obtain ⟨z1, z2, z3⟩ := mk_pl_rg hb ht hp hV
  have hep := fun h => mk_pl_iff hb ht hp hV h
  have h1 := hV.1
  have h2 := hV.2.1
  have h3 := hV.2.2.1
  have hpr := PS_rg hp
  have q1 := q_pl_nn h1
  have q2 := q_pl_nn h2
  have q3 := q_pl_nn z1
  have q4 := q_pp_rg hpr
  obtain ⟨c11, c12, c13⟩ := cv_facts hb its
  have hi := hb its
  obtain ⟨a1, a2, a3, a4⟩ := ah_fwd ht
  by_cases c6 : bb its % 10 = 6
  · rw [bI_t c6]
    have hpe : q_pl (mk_pl bb pas its to) = if to = pas then q_pl to - q_fwd t else q_pl to := by
      unfold mk_pl
      by_cases cp : to = pas
      · obtain ⟨x1, x2⟩ := hep cp c6
        rw [if_pos ⟨c6, cp, x1, x2⟩, if_pos cp, h3]
        have hne : gn to (m_ah (1 - t)) ≠ -1 := by
          rcases hp with hp | hp
          · omega
          · rw [cp]; omega
        obtain ⟨b1, b2, -⟩ := ah_fwd (s := 1 - t) (by omega)
        rw [(gn_pl h2 b2 hne).1, b1, a3]
        omega
      · rw [if_neg (fun z => cp z.2.1), if_neg cp]
    rw [hpe]
    by_cases cl : gn to (m_ah t) = -1
    · rw [show bI (mk_be bb its to) = 1 from bI_t ⟨c6, by rw [h3]; exact cl⟩]
      have p3 := p3 cl
      by_cases cp : to = pas
      · rw [if_pos cp]
        simp (disch := omega) only [x_X1_play_0, x_X1_play_1, x_X1_play_4, x_X1_play_5, x_X1_play_8, x_X1_play_10, x_X1_play_12, x_X1_play_15, x_X1_play_17, x_X1_play_20, x_X1_play_21, x_X1_play_24, x_X1_play_25, x_X1_play_27, x_X1_play_29, x_X1_play_32, x_X1_play_33, x_X1_play_36, x_X1_play_37, x_X1_play_38, x_X1_play_41, x_X1_play_44, x_X1_play_45, x_X1_play_48, x_X1_play_49, x_X1_play_52, x_X1_play_53, x_X1_play_56, x_X1_play_57, x_X1_play_59, x_X1_play_61, x_X1_play_64, x_X1_play_65, x_X1_play_66, x_X1_play_69, x_X1_play_72, x_X1_play_73, x_X1_play_74, x_X1_play_77, x_X1_play_80, x_X1_play_81, x_X1_play_84, List.length_cons, List.length_nil, Nat.reduceLeDiff, Nat.zero_add, iI_add, iI_sub, iI_mul, iI_neg, iI_lt, iI_le, iI_eq, jI_iI, B_True, B_False, B_t, B_f, ck_True, gd_True, cb_v, cb_n, p_mv_rw, p_fv_rw, p_rv_some, pA_1, pA_90, pA_92, pA_3, pA_5, pA_93, pA_4, pA_91, pA_6, pS_i, pB_i, pW_i, pZ_0, pZ_1, pZ_b, bI_e0, u1_s, u1_n, uA_s, uA_n, true_and, and_true, not_true_eq_false, not_false_eq_true, eq_self, iI_z, al1, al5, al3, al4, al90, al91, al92, al93, al6, Int.cast_ofNat_Int, Nat.reduceAdd, Int.reduceNeg, Int.reduceAdd, Int.reduceSub, Int.reduceMul, Int.reduceLT, Int.reduceLE, Int.reduceGT, Int.reduceGE, Int.reduceEq, Int.reduceNe, Nat.reduceEqDiff, Int.zero_add, Int.add_zero, p_ty0, p_ty1, p_ty2, p_ty3, p_ty4, p_ty5, p_ty8, p_ty9, p_ty10, t0, f0, hb0, s1, s3, c_onR hB hR, c_on hB, p2, c_kind, c_fwd, c13, B_t, B_f, gd_t]
      · rw [if_neg cp]
        simp (disch := omega) only [x_X1_play_0, x_X1_play_1, x_X1_play_4, x_X1_play_5, x_X1_play_8, x_X1_play_10, x_X1_play_12, x_X1_play_15, x_X1_play_17, x_X1_play_20, x_X1_play_21, x_X1_play_24, x_X1_play_25, x_X1_play_27, x_X1_play_29, x_X1_play_32, x_X1_play_33, x_X1_play_36, x_X1_play_37, x_X1_play_38, x_X1_play_41, x_X1_play_44, x_X1_play_45, x_X1_play_48, x_X1_play_49, x_X1_play_52, x_X1_play_53, x_X1_play_56, x_X1_play_57, x_X1_play_59, x_X1_play_61, x_X1_play_64, x_X1_play_65, x_X1_play_66, x_X1_play_69, x_X1_play_72, x_X1_play_73, x_X1_play_74, x_X1_play_77, x_X1_play_80, x_X1_play_81, x_X1_play_84, List.length_cons, List.length_nil, Nat.reduceLeDiff, Nat.zero_add, iI_add, iI_sub, iI_mul, iI_neg, iI_lt, iI_le, iI_eq, jI_iI, B_True, B_False, B_t, B_f, ck_True, gd_True, cb_v, cb_n, p_mv_rw, p_fv_rw, p_rv_some, pA_1, pA_90, pA_92, pA_3, pA_5, pA_93, pA_4, pA_91, pA_6, pS_i, pB_i, pW_i, pZ_0, pZ_1, pZ_b, bI_e0, u1_s, u1_n, uA_s, uA_n, true_and, and_true, not_true_eq_false, not_false_eq_true, eq_self, iI_z, al1, al5, al3, al4, al90, al91, al92, al93, al6, Int.cast_ofNat_Int, Nat.reduceAdd, Int.reduceNeg, Int.reduceAdd, Int.reduceSub, Int.reduceMul, Int.reduceLT, Int.reduceLE, Int.reduceGT, Int.reduceGE, Int.reduceEq, Int.reduceNe, Nat.reduceEqDiff, Int.zero_add, Int.add_zero, p_ty0, p_ty1, p_ty2, p_ty3, p_ty4, p_ty5, p_ty8, p_ty9, p_ty10, t0, f0, hb0, s1, s3, c_onR hB hR, c_on hB, p2, c_kind, c_fwd, c13, B_t, B_f, gd_t]
    · rw [show bI (mk_be bb its to) = 0 from bI_f (fun z => cl (by have := z.2; rwa [h3] at this))]
      have p4 := p4 cl
      by_cases cp : to = pas
      · rw [if_pos cp]
        simp (disch := omega) only [x_X1_play_0, x_X1_play_1, x_X1_play_4, x_X1_play_5, x_X1_play_8, x_X1_play_10, x_X1_play_12, x_X1_play_15, x_X1_play_17, x_X1_play_20, x_X1_play_21, x_X1_play_24, x_X1_play_25, x_X1_play_27, x_X1_play_29, x_X1_play_32, x_X1_play_33, x_X1_play_36, x_X1_play_37, x_X1_play_38, x_X1_play_41, x_X1_play_44, x_X1_play_45, x_X1_play_48, x_X1_play_49, x_X1_play_52, x_X1_play_53, x_X1_play_56, x_X1_play_57, x_X1_play_59, x_X1_play_61, x_X1_play_64, x_X1_play_65, x_X1_play_66, x_X1_play_69, x_X1_play_72, x_X1_play_73, x_X1_play_74, x_X1_play_77, x_X1_play_80, x_X1_play_81, x_X1_play_84, List.length_cons, List.length_nil, Nat.reduceLeDiff, Nat.zero_add, iI_add, iI_sub, iI_mul, iI_neg, iI_lt, iI_le, iI_eq, jI_iI, B_True, B_False, B_t, B_f, ck_True, gd_True, cb_v, cb_n, p_mv_rw, p_fv_rw, p_rv_some, pA_1, pA_90, pA_92, pA_3, pA_5, pA_93, pA_4, pA_91, pA_6, pS_i, pB_i, pW_i, pZ_0, pZ_1, pZ_b, bI_e0, u1_s, u1_n, uA_s, uA_n, true_and, and_true, not_true_eq_false, not_false_eq_true, eq_self, iI_z, al1, al5, al3, al4, al90, al91, al92, al93, al6, Int.cast_ofNat_Int, Nat.reduceAdd, Int.reduceNeg, Int.reduceAdd, Int.reduceSub, Int.reduceMul, Int.reduceLT, Int.reduceLE, Int.reduceGT, Int.reduceGE, Int.reduceEq, Int.reduceNe, Nat.reduceEqDiff, Int.zero_add, Int.add_zero, p_ty0, p_ty1, p_ty2, p_ty3, p_ty4, p_ty5, p_ty8, p_ty9, p_ty10, t0, f0, hb0, s1, s3, c_onR hB hR, c_on hB, p2, c_kind, c_fwd, c13, B_t, B_f, gd_t]
      · rw [if_neg cp]
        simp (disch := omega) only [x_X1_play_0, x_X1_play_1, x_X1_play_4, x_X1_play_5, x_X1_play_8, x_X1_play_10, x_X1_play_12, x_X1_play_15, x_X1_play_17, x_X1_play_20, x_X1_play_21, x_X1_play_24, x_X1_play_25, x_X1_play_27, x_X1_play_29, x_X1_play_32, x_X1_play_33, x_X1_play_36, x_X1_play_37, x_X1_play_38, x_X1_play_41, x_X1_play_44, x_X1_play_45, x_X1_play_48, x_X1_play_49, x_X1_play_52, x_X1_play_53, x_X1_play_56, x_X1_play_57, x_X1_play_59, x_X1_play_61, x_X1_play_64, x_X1_play_65, x_X1_play_66, x_X1_play_69, x_X1_play_72, x_X1_play_73, x_X1_play_74, x_X1_play_77, x_X1_play_80, x_X1_play_81, x_X1_play_84, List.length_cons, List.length_nil, Nat.reduceLeDiff, Nat.zero_add, iI_add, iI_sub, iI_mul, iI_neg, iI_lt, iI_le, iI_eq, jI_iI, B_True, B_False, B_t, B_f, ck_True, gd_True, cb_v, cb_n, p_mv_rw, p_fv_rw, p_rv_some, pA_1, pA_90, pA_92, pA_3, pA_5, pA_93, pA_4, pA_91, pA_6, pS_i, pB_i, pW_i, pZ_0, pZ_1, pZ_b, bI_e0, u1_s, u1_n, uA_s, uA_n, true_and, and_true, not_true_eq_false, not_false_eq_true, eq_self, iI_z, al1, al5, al3, al4, al90, al91, al92, al93, al6, Int.cast_ofNat_Int, Nat.reduceAdd, Int.reduceNeg, Int.reduceAdd, Int.reduceSub, Int.reduceMul, Int.reduceLT, Int.reduceLE, Int.reduceGT, Int.reduceGE, Int.reduceEq, Int.reduceNe, Nat.reduceEqDiff, Int.zero_add, Int.add_zero, p_ty0, p_ty1, p_ty2, p_ty3, p_ty4, p_ty5, p_ty8, p_ty9, p_ty10, t0, f0, hb0, s1, s3, c_onR hB hR, c_on hB, p2, c_kind, c_fwd, c13, B_t, B_f, gd_t]
  · have hpl : mk_pl bb pas its to = to := by unfold mk_pl; rw [if_neg (fun z => c6 z.1)]
    rw [bI_f c6, hpl, show bI (mk_be bb its to) = 0 from bI_f (fun z => c6 z.1)]
    clear hep hV p1 p2 p3 p4 p5 z3
    simp (disch := omega) only [x_X1_play_0, x_X1_play_1, x_X1_play_4, x_X1_play_5, x_X1_play_8, x_X1_play_10, x_X1_play_12, x_X1_play_15, x_X1_play_17, x_X1_play_20, x_X1_play_21, x_X1_play_24, x_X1_play_25, x_X1_play_27, x_X1_play_29, x_X1_play_32, x_X1_play_33, x_X1_play_36, x_X1_play_37, x_X1_play_38, x_X1_play_41, x_X1_play_44, x_X1_play_45, x_X1_play_48, x_X1_play_49, x_X1_play_52, x_X1_play_53, x_X1_play_56, x_X1_play_57, x_X1_play_59, x_X1_play_61, x_X1_play_64, x_X1_play_65, x_X1_play_66, x_X1_play_69, x_X1_play_72, x_X1_play_73, x_X1_play_74, x_X1_play_77, x_X1_play_80, x_X1_play_81, x_X1_play_84, List.length_cons, List.length_nil, Nat.reduceLeDiff, Nat.zero_add, iI_add, iI_sub, iI_mul, iI_neg, iI_lt, iI_le, iI_eq, jI_iI, B_True, B_False, B_t, B_f, ck_True, gd_True, cb_v, cb_n, p_mv_rw, p_fv_rw, p_rv_some, pA_1, pA_90, pA_92, pA_3, pA_5, pA_93, pA_4, pA_91, pA_6, pS_i, pB_i, pW_i, pZ_0, pZ_1, pZ_b, bI_e0, u1_s, u1_n, uA_s, uA_n, true_and, and_true, not_true_eq_false, not_false_eq_true, eq_self, iI_z, al1, al5, al3, al4, al90, al91, al92, al93, al6, Int.cast_ofNat_Int, Nat.reduceAdd, Int.reduceNeg, Int.reduceAdd, Int.reduceSub, Int.reduceMul, Int.reduceLT, Int.reduceLE, Int.reduceGT, Int.reduceGE, Int.reduceEq, Int.reduceNe, Nat.reduceEqDiff, Int.zero_add, Int.add_zero, p_ty0, p_ty1, p_ty2, p_ty3, p_ty4, p_ty5, p_ty8, p_ty9, p_ty10, t0, f0, hb0, s1, s3, c_onR hB hR, c_kind, c13, B_t, B_f, gd_t]
theorem play_B (hG : GT T F g) (hR : RB M (g + 1) bb) (s2 : M g 2 = q) (s3 : M g 3 = q_pp pas) (hpr : -1 ≤ pas ∧ pas < 91) (hq : 0 ≤ q ∧ q ≤ 250) (h1 : 0 ≤ its ∧ its < 91) (h2 : 0 ≤ to ∧ to < 91) (z1 : 0 ≤ mk_pl bb pas its to ∧ mk_pl bb pas its to < 91) {e : Nat} (he : 1 ≤ e) {l3 l5 l6 l7 l8 l9 l10 : Slot} :
    R e m_X1_play 85 [.val (.ref g), .val (.int (iI (q_pl its))), .val (.int (iI (q_pl to))), l3, .val (.int (iI (cv (bb its)))), l5, l6, l7, l8, l9, l10] [.int (iI (q_pl (mk_pl bb pas its to)))] T M F = R e m_X1_play 148 [.val (.ref g), .val (.int (iI (q_pl its))), .val (.int (iI (q_pl to))), l3, .val (.int (iI (cv (bb its)))), l5, l6, .val (.int (iI (q_pl (mk_pl bb pas its to)))), .val (.int (iI (cv (bb (mk_pl bb pas its to))))), .val (.long (iL (q_pk bb pas q its to))), .second] [] T M F := by
  have hb := hR.2.2.1
  obtain ⟨hg, t0, f0, hB, -⟩ := hG
  have hb0 := hB.2.1
  have q1 := q_pl_nn h1
  have q2 := q_pl_nn h2
  have q3 := q_pl_nn z1
  have q4 := q_pp_rg hpr
  obtain ⟨c11, -, -⟩ := cv_facts hb its
  obtain ⟨c21, -, -⟩ := cv_facts hb (mk_pl bb pas its to)
  unfold q_pk
  simp (disch := omega) only [x_X1_play_85, x_X1_play_87, x_X1_play_88, x_X1_play_91, x_X1_play_93, x_X1_play_96, x_X1_play_98, x_X1_play_99, x_X1_play_100, x_X1_play_102, x_X1_play_103, x_X1_play_104, x_X1_play_106, x_X1_play_108, x_X1_play_109, x_X1_play_110, x_X1_play_111, x_X1_play_113, x_X1_play_115, x_X1_play_117, x_X1_play_119, x_X1_play_120, x_X1_play_121, x_X1_play_122, x_X1_play_123, x_X1_play_126, x_X1_play_128, x_X1_play_129, x_X1_play_130, x_X1_play_131, x_X1_play_133, x_X1_play_134, x_X1_play_135, x_X1_play_138, x_X1_play_139, x_X1_play_140, x_X1_play_141, x_X1_play_143, x_X1_play_144, x_X1_play_145, x_X1_play_146, List.length_cons, List.length_nil, Nat.reduceLeDiff, Nat.zero_add, iI_add, iI_sub, iI_mul, iI_neg, iI_lt, iI_le, iI_eq, jI_iI, B_True, B_False, B_t, B_f, ck_True, gd_True, cb_v, cb_n, p_mv_rw, p_fv_rw, p_rv_some, pA_1, pA_90, pA_92, pA_3, pA_5, pA_93, pA_4, pA_91, pA_6, pS_i, pB_i, pW_i, pZ_0, pZ_1, pZ_b, bI_e0, u1_s, u1_n, uA_s, uA_n, true_and, and_true, not_true_eq_false, not_false_eq_true, eq_self, iI_z, al1, al5, al3, al4, al90, al91, al92, al93, al6, Int.cast_ofNat_Int, Nat.reduceAdd, Int.reduceNeg, Int.reduceAdd, Int.reduceSub, Int.reduceMul, Int.reduceLT, Int.reduceLE, Int.reduceGT, Int.reduceGE, Int.reduceEq, Int.reduceNe, Nat.reduceEqDiff, Int.zero_add, Int.add_zero, p_ty0, p_ty1, p_ty2, p_ty3, p_ty4, p_ty5, p_ty8, p_ty9, p_ty10, t0, f0, hb0, s2, s3, c_onR hB hR, i_shl9, i_shl18, i_shl4, i_shl8, i_or9, i_or18, i_or4, i_or8, i2lN, l_shl27, l_shl43, l_or43, l_or27, gd_t]
end PPLB
