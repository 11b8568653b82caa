section PLWC
variable {d k s b n D r e : Nat} {T T1 T2 : pT} {M M1 M2 : pM} {F F1 F2 : pF} {S S1 : GSx} {ea z mv c i j w a : Int} {bs : Int → Int}
theorem hw_f : (m_ply S.1 S.2.1 → hw S.1 S.2.1 S.2.2.1 S.2.2.2.1 ≠ 5 ∧ (hw S.1 S.2.1 S.2.2.1 S.2.2.2.1 = 4 ∨ (m_chk S.1 S.2.1 ↔ hw S.1 S.2.1 S.2.2.1 S.2.2.2.1 = 1 ∨ hw S.1 S.2.1 S.2.2.1 S.2.2.2.1 = 2))) ∧ (¬ m_ply S.1 S.2.1 → hw S.1 S.2.1 S.2.2.1 S.2.2.2.1 = 5) ∧ ((lgQ S.1 S.2.1 S.2.2.1 S.2.2.2.1).length = 0 ↔ 1 < hw S.1 S.2.1 S.2.2.1 S.2.2.2.1) := by
  by_cases hy : m_ply S.1 S.2.1
  · have e : hw S.1 S.2.1 S.2.2.1 S.2.2.2.1 = (if (lgA S.1 S.2.1 S.2.2.1).length = 0 then 3 - bI (m_chk S.1 S.2.1) else if 60 ≤ S.2.2.2.1 then 4 else bI (m_chk S.1 S.2.1)) := by unfold hw; rw [if_pos hy]
    rw [e]
    refine ⟨fun _ => ?_, fun z => absurd hy z, ?_⟩
    · by_cases cl : (lgA S.1 S.2.1 S.2.2.1).length = 0
      · rw [if_pos cl]
        by_cases c : m_chk S.1 S.2.1
        · rw [bI_t c]; exact ⟨by omega, Or.inr ⟨fun _ => Or.inr (by omega), fun _ => c⟩⟩
        · rw [bI_f c]; exact ⟨by omega, Or.inr ⟨fun z => absurd z c, fun z => by omega⟩⟩
      · rw [if_neg cl]
        by_cases cq : 60 ≤ S.2.2.2.1
        · rw [if_pos cq]; exact ⟨by omega, Or.inl rfl⟩
        · rw [if_neg cq]
          by_cases c : m_chk S.1 S.2.1
          · rw [bI_t c]; exact ⟨by omega, Or.inr ⟨fun _ => Or.inl rfl, fun _ => c⟩⟩
          · rw [bI_f c]; exact ⟨by omega, Or.inr ⟨fun z => absurd z c, fun z => by omega⟩⟩
    · have hb := bI_rg (m_chk S.1 S.2.1)
      have h0 : ([] : List Int).length = 0 := rfl
      unfold lgQ
      by_cases cq : 60 ≤ S.2.2.2.1
      · rw [if_pos cq, if_pos cq]
        by_cases cl : (lgA S.1 S.2.1 S.2.2.1).length = 0
        · rw [if_pos cl]; omega
        · rw [if_neg cl]; omega
      · rw [if_neg cq, if_neg cq]
        by_cases cl : (lgA S.1 S.2.1 S.2.2.1).length = 0
        · rw [if_pos cl]; omega
        · rw [if_neg cl]; omega
  · have e : hw S.1 S.2.1 S.2.2.1 S.2.2.2.1 = 5 := by unfold hw; rw [if_neg hy]
    rw [e]
    refine ⟨fun z => absurd z hy, fun _ => rfl, ?_⟩
    have : lgQ S.1 S.2.1 S.2.2.1 S.2.2.2.1 = [] := by
      unfold lgQ lgA
      split
      · rfl
      · first | rfl | rw [if_neg hy]
    rw [this]
    have : ([] : List Int).length = 0 := rfl
    omega
theorem pt_sum (h : 0 ≤ c ∧ c ≤ 5) (ht : i = 0 ∨ i = 1) : pt c i 0 + pt c i 1 = (if c = 2 ∨ c = 3 ∨ c = 4 then 4 else 0) ∧ (0 ≤ pt c i 0 ∧ pt c i 0 ≤ 4) ∧ 0 ≤ pt c i 1 ∧ pt c i 1 ≤ 4 := by
  unfold pt
  rcases ht with rfl | rfl <;> (repeat' split) <;> omega
theorem lc_1 {l0 l1 l2 l4 l5 l10 l11 l12 l13 l14 l15 l16 l17 l18 l19 l20 l21 l22 l23 l24 : Slot} (he : 10 ≤ e) (h : LW k T M F S ea bs 0) : ∃ T1 M1 F1, R e m_L_law 240 [l0, l1, l2, .val (.ref (100 + k)), l4, l5, .val (.int (iI (((lgQ S.1 S.2.1 S.2.2.1 S.2.2.2.1).length : Int)))), .val (.int (iI (S.2.1))), .val (.int (iI (hw S.1 S.2.1 S.2.2.1 S.2.2.2.1))), .val (.int (iI (((lgQ S.1 S.2.1 S.2.2.1 S.2.2.2.1).length : Int)))), l10, l11, l12, l13, l14, l15, l16, l17, l18, l19, l20, l21, l22, l23, l24] [] T M F = R e m_L_law 286 [l0, l1, l2, .val (.ref (100 + k)), l4, l5, .val (.int (iI (((lgQ S.1 S.2.1 S.2.2.1 S.2.2.2.1).length : Int)))), .val (.int (iI (S.2.1))), .val (.int (iI (hw S.1 S.2.1 S.2.2.1 S.2.2.2.1))), .val (.int (iI (((lgQ S.1 S.2.1 S.2.2.1 S.2.2.2.1).length : Int)))), l10, l11, l12, l13, l14, l15, l16, l17, l18, l19, l20, l21, l22, l23, l24] [] T1 M1 F1 ∧ LW k T1 M1 F1 S ea bs 0 ∧ KX k T M F T1 M1 F1 := by
  obtain ⟨T1, M1, F1, e1, L1, K1⟩ := w_count h (i := 7) (by omega) he
  obtain ⟨T2, M2, F2, e2, L2, K2⟩ := w_count L1 (i := 8) (by omega) he
  refine ⟨T2, M2, F2, ?_, L2, K1.tr K2⟩
  have ty := h.ty
  have ty1 := L1.ty
  have hl := h.sf.2.2.2.2.2.1
  have hr := hw_rg (bb := S.1) (t := S.2.1) (pas := S.2.2.1) (q := S.2.2.2.1)
  obtain ⟨hp, hp1, hp2⟩ := pt_sum hr h.sf.2.1
  rw [show z_cnt S 0 7 = pt (hw S.1 S.2.1 S.2.2.1 S.2.2.2.1) S.2.1 0 from rfl] at e1
  rw [show z_cnt S 0 8 = pt (hw S.1 S.2.1 S.2.2.1 S.2.2.2.1) S.2.1 1 from rfl] at e2
  clear L1 L2 K1 K2 h
  generalize pt (hw S.1 S.2.1 S.2.2.1 S.2.2.2.1) S.2.1 0 = p0 at *
  generalize pt (hw S.1 S.2.1 S.2.2.1 S.2.2.2.1) S.2.1 1 = p1 at *
  generalize hw S.1 S.2.1 S.2.2.1 S.2.2.2.1 = hh at *
  generalize (lgQ S.1 S.2.1 S.2.2.1 S.2.2.2.1).length = ln at *
  by_cases c2 : hh = 2
  · subst c2
    rw [if_pos (by omega)] at hp
    simp (disch := omega) only [x_L_law_240, x_L_law_242, x_L_law_244, x_L_law_247, x_L_law_248, x_L_law_250, x_L_law_253, x_L_law_254, x_L_law_256, x_L_law_259, x_L_law_260, x_L_law_262, x_L_law_263, x_L_law_266, x_L_law_268, x_L_law_269, x_L_law_272, x_L_law_274, x_L_law_275, x_L_law_278, x_L_law_279, x_L_law_282, x_L_law_283, List.length_cons, List.length_nil, Nat.reduceLeDiff, Nat.zero_add, iI_add, iI_sub, iI_mul, iI_neg, iI_lt, iI_le, iI_eq, jI_iI, B_True, B_False, B_t, B_f, ck_True, gd_True, cb_v, cb_n, p_mv_rw, p_fv_rw, p_rv_some, pA_1, pA_90, pA_92, pA_3, pA_5, pA_93, pA_4, pA_91, pA_6, pS_i, pB_i, pW_i, pZ_0, pZ_1, pZ_b, bI_e0, u1_s, u1_n, uA_s, uA_n, true_and, and_true, not_true_eq_false, not_false_eq_true, eq_self, iI_z, al1, al5, al3, al4, al90, al91, al92, al93, al6, Int.cast_ofNat_Int, Nat.reduceAdd, Int.reduceNeg, Int.reduceAdd, Int.reduceSub, Int.reduceMul, Int.reduceLT, Int.reduceLE, Int.reduceGT, Int.reduceGE, Int.reduceEq, Int.reduceNe, Nat.reduceEqDiff, Int.zero_add, Int.add_zero, p_ty0, p_ty1, p_ty2, p_ty3, p_ty4, p_ty5, p_ty8, p_ty9, p_ty10, e1, e2, hp, ty, ty1, gd_t, ck_t, B_t, B_f]
  · by_cases c3 : hh = 3
    · subst c3
      rw [if_pos (by omega)] at hp
      simp (disch := omega) only [x_L_law_240, x_L_law_242, x_L_law_244, x_L_law_247, x_L_law_248, x_L_law_250, x_L_law_253, x_L_law_254, x_L_law_256, x_L_law_259, x_L_law_260, x_L_law_262, x_L_law_263, x_L_law_266, x_L_law_268, x_L_law_269, x_L_law_272, x_L_law_274, x_L_law_275, x_L_law_278, x_L_law_279, x_L_law_282, x_L_law_283, List.length_cons, List.length_nil, Nat.reduceLeDiff, Nat.zero_add, iI_add, iI_sub, iI_mul, iI_neg, iI_lt, iI_le, iI_eq, jI_iI, B_True, B_False, B_t, B_f, ck_True, gd_True, cb_v, cb_n, p_mv_rw, p_fv_rw, p_rv_some, pA_1, pA_90, pA_92, pA_3, pA_5, pA_93, pA_4, pA_91, pA_6, pS_i, pB_i, pW_i, pZ_0, pZ_1, pZ_b, bI_e0, u1_s, u1_n, uA_s, uA_n, true_and, and_true, not_true_eq_false, not_false_eq_true, eq_self, iI_z, al1, al5, al3, al4, al90, al91, al92, al93, al6, Int.cast_ofNat_Int, Nat.reduceAdd, Int.reduceNeg, Int.reduceAdd, Int.reduceSub, Int.reduceMul, Int.reduceLT, Int.reduceLE, Int.reduceGT, Int.reduceGE, Int.reduceEq, Int.reduceNe, Nat.reduceEqDiff, Int.zero_add, Int.add_zero, p_ty0, p_ty1, p_ty2, p_ty3, p_ty4, p_ty5, p_ty8, p_ty9, p_ty10, e1, e2, hp, ty, ty1, gd_t, ck_t, B_t, B_f]
    · by_cases c4 : hh = 4
      · subst c4
        rw [if_pos (by omega)] at hp
        simp (disch := omega) only [x_L_law_240, x_L_law_242, x_L_law_244, x_L_law_247, x_L_law_248, x_L_law_250, x_L_law_253, x_L_law_254, x_L_law_256, x_L_law_259, x_L_law_260, x_L_law_262, x_L_law_263, x_L_law_266, x_L_law_268, x_L_law_269, x_L_law_272, x_L_law_274, x_L_law_275, x_L_law_278, x_L_law_279, x_L_law_282, x_L_law_283, List.length_cons, List.length_nil, Nat.reduceLeDiff, Nat.zero_add, iI_add, iI_sub, iI_mul, iI_neg, iI_lt, iI_le, iI_eq, jI_iI, B_True, B_False, B_t, B_f, ck_True, gd_True, cb_v, cb_n, p_mv_rw, p_fv_rw, p_rv_some, pA_1, pA_90, pA_92, pA_3, pA_5, pA_93, pA_4, pA_91, pA_6, pS_i, pB_i, pW_i, pZ_0, pZ_1, pZ_b, bI_e0, u1_s, u1_n, uA_s, uA_n, true_and, and_true, not_true_eq_false, not_false_eq_true, eq_self, iI_z, al1, al5, al3, al4, al90, al91, al92, al93, al6, Int.cast_ofNat_Int, Nat.reduceAdd, Int.reduceNeg, Int.reduceAdd, Int.reduceSub, Int.reduceMul, Int.reduceLT, Int.reduceLE, Int.reduceGT, Int.reduceGE, Int.reduceEq, Int.reduceNe, Nat.reduceEqDiff, Int.zero_add, Int.add_zero, p_ty0, p_ty1, p_ty2, p_ty3, p_ty4, p_ty5, p_ty8, p_ty9, p_ty10, e1, e2, hp, ty, ty1, gd_t, ck_t, B_t, B_f]
      · rw [if_neg (by omega)] at hp
        simp (disch := omega) only [x_L_law_240, x_L_law_242, x_L_law_244, x_L_law_247, x_L_law_248, x_L_law_250, x_L_law_253, x_L_law_254, x_L_law_256, x_L_law_259, x_L_law_260, x_L_law_262, x_L_law_263, x_L_law_266, x_L_law_268, x_L_law_269, x_L_law_272, x_L_law_274, x_L_law_275, x_L_law_278, x_L_law_279, x_L_law_282, x_L_law_283, List.length_cons, List.length_nil, Nat.reduceLeDiff, Nat.zero_add, iI_add, iI_sub, iI_mul, iI_neg, iI_lt, iI_le, iI_eq, jI_iI, B_True, B_False, B_t, B_f, ck_True, gd_True, cb_v, cb_n, p_mv_rw, p_fv_rw, p_rv_some, pA_1, pA_90, pA_92, pA_3, pA_5, pA_93, pA_4, pA_91, pA_6, pS_i, pB_i, pW_i, pZ_0, pZ_1, pZ_b, bI_e0, u1_s, u1_n, uA_s, uA_n, true_and, and_true, not_true_eq_false, not_false_eq_true, eq_self, iI_z, al1, al5, al3, al4, al90, al91, al92, al93, al6, Int.cast_ofNat_Int, Nat.reduceAdd, Int.reduceNeg, Int.reduceAdd, Int.reduceSub, Int.reduceMul, Int.reduceLT, Int.reduceLE, Int.reduceGT, Int.reduceGE, Int.reduceEq, Int.reduceNe, Nat.reduceEqDiff, Int.zero_add, Int.add_zero, p_ty0, p_ty1, p_ty2, p_ty3, p_ty4, p_ty5, p_ty8, p_ty9, p_ty10, e1, e2, hp, ty, ty1, gd_t, ck_t, B_t, B_f]
theorem lc_2 {l0 l1 l2 l4 l5 l6 l9 l11 l12 l13 l14 l15 l16 l17 l18 l19 l20 l21 l22 l23 l24 : Slot} (he : 10 ≤ e) (h : LW k T M F S ea bs 0) : ∃ T1 M1 F1, R e m_L_law 286 [l0, l1, l2, .val (.ref (100 + k)), l4, l5, l6, .val (.int (iI (S.2.1))), .val (.int (iI (hw S.1 S.2.1 S.2.2.1 S.2.2.2.1))), l9, .val (.int (iI (m_king S.1 S.2.1))), l11, l12, l13, l14, l15, l16, l17, l18, l19, l20, l21, l22, l23, l24] [] T M F = R e m_L_law 338 [l0, l1, l2, .val (.ref (100 + k)), l4, l5, l6, .val (.int (iI (S.2.1))), .val (.int (iI (hw S.1 S.2.1 S.2.2.1 S.2.2.2.1))), l9, .val (.int (iI (m_king S.1 S.2.1))), l11, l12, l13, l14, l15, l16, l17, l18, l19, l20, l21, l22, l23, l24] [] T1 M1 F1 ∧ LW k T1 M1 F1 S ea bs 0 ∧ KX k T M F T1 M1 F1 := by
  have hr := hw_rg (bb := S.1) (t := S.2.1) (pas := S.2.2.1) (q := S.2.2.2.1)
  have hf := hw_f (S := S)
  have ht := h.sf.2.1
  by_cases hy : m_ply S.1 S.2.1
  · obtain ⟨h5, h4⟩ := hf.1 hy
    have hkg : m_king S.1 S.2.1 ≠ -1 := by rcases ht with z | z <;> rw [z]; exact hy.1; exact hy.2.1
    obtain ⟨k0, k1, -⟩ := (m_king_rg S.1 S.2.1).resolve_left hkg
    obtain ⟨T1, M1, F1, e1, L1, K1⟩ := w_cell h (c := m_king S.1 S.2.1) ⟨k0, k1⟩ (i := 5 - S.2.1) (by omega) he
    refine ⟨T1, M1, F1, ?_, L1, K1⟩
    have ef : z_fac S (m_king S.1 S.2.1) (5 - S.2.1) = m_att S.1 (m_king S.1 S.2.1) (1 - S.2.1) := by
      rcases ht with z | z <;> rw [z]
      · exact fac5
      · exact fac4
    rw [ef] at e1
    have hck : m_chk S.1 S.2.1 ↔ 0 < m_att S.1 (m_king S.1 S.2.1) (1 - S.2.1) := Iff.rfl
    rw [hck] at h4
    have ra := m_att_rg S.1 (m_king S.1 S.2.1) (1 - S.2.1)
    have ty := h.ty
    clear L1 K1 h hf hck hy ef hkg
    generalize m_att S.1 (m_king S.1 S.2.1) (1 - S.2.1) = u at *
    generalize m_king S.1 S.2.1 = kg at *
    generalize hw S.1 S.2.1 S.2.2.1 S.2.2.2.1 = hh at *
    generalize S.2.1 = t at *
    by_cases cu : 0 < u
    · by_cases c1 : hh = 1
      · simp (disch := omega) only [x_L_law_286, x_L_law_288, x_L_law_289, x_L_law_292, x_L_law_294, x_L_law_295, x_L_law_298, x_L_law_300, x_L_law_301, x_L_law_304, x_L_law_305, x_L_law_308, x_L_law_309, x_L_law_310, x_L_law_312, x_L_law_313, x_L_law_315, x_L_law_316, x_L_law_319, x_L_law_322, x_L_law_323, x_L_law_326, x_L_law_327, x_L_law_330, x_L_law_332, x_L_law_333, x_L_law_336, x_L_law_337, List.length_cons, List.length_nil, Nat.reduceLeDiff, Nat.zero_add, iI_add, iI_sub, iI_mul, iI_neg, iI_lt, iI_le, iI_eq, jI_iI, B_True, B_False, B_t, B_f, ck_True, gd_True, cb_v, cb_n, p_mv_rw, p_fv_rw, p_rv_some, pA_1, pA_90, pA_92, pA_3, pA_5, pA_93, pA_4, pA_91, pA_6, pS_i, pB_i, pW_i, pZ_0, pZ_1, pZ_b, bI_e0, u1_s, u1_n, uA_s, uA_n, true_and, and_true, not_true_eq_false, not_false_eq_true, eq_self, iI_z, al1, al5, al3, al4, al90, al91, al92, al93, al6, Int.cast_ofNat_Int, Nat.reduceAdd, Int.reduceNeg, Int.reduceAdd, Int.reduceSub, Int.reduceMul, Int.reduceLT, Int.reduceLE, Int.reduceGT, Int.reduceGE, Int.reduceEq, Int.reduceNe, Nat.reduceEqDiff, Int.zero_add, Int.add_zero, p_ty0, p_ty1, p_ty2, p_ty3, p_ty4, p_ty5, p_ty8, p_ty9, p_ty10, e1, ty, gd_t, ck_t, B_t, B_f]
      · by_cases c2 : hh = 2
        · simp (disch := omega) only [x_L_law_286, x_L_law_288, x_L_law_289, x_L_law_292, x_L_law_294, x_L_law_295, x_L_law_298, x_L_law_300, x_L_law_301, x_L_law_304, x_L_law_305, x_L_law_308, x_L_law_309, x_L_law_310, x_L_law_312, x_L_law_313, x_L_law_315, x_L_law_316, x_L_law_319, x_L_law_322, x_L_law_323, x_L_law_326, x_L_law_327, x_L_law_330, x_L_law_332, x_L_law_333, x_L_law_336, x_L_law_337, List.length_cons, List.length_nil, Nat.reduceLeDiff, Nat.zero_add, iI_add, iI_sub, iI_mul, iI_neg, iI_lt, iI_le, iI_eq, jI_iI, B_True, B_False, B_t, B_f, ck_True, gd_True, cb_v, cb_n, p_mv_rw, p_fv_rw, p_rv_some, pA_1, pA_90, pA_92, pA_3, pA_5, pA_93, pA_4, pA_91, pA_6, pS_i, pB_i, pW_i, pZ_0, pZ_1, pZ_b, bI_e0, u1_s, u1_n, uA_s, uA_n, true_and, and_true, not_true_eq_false, not_false_eq_true, eq_self, iI_z, al1, al5, al3, al4, al90, al91, al92, al93, al6, Int.cast_ofNat_Int, Nat.reduceAdd, Int.reduceNeg, Int.reduceAdd, Int.reduceSub, Int.reduceMul, Int.reduceLT, Int.reduceLE, Int.reduceGT, Int.reduceGE, Int.reduceEq, Int.reduceNe, Nat.reduceEqDiff, Int.zero_add, Int.add_zero, p_ty0, p_ty1, p_ty2, p_ty3, p_ty4, p_ty5, p_ty8, p_ty9, p_ty10, e1, ty, gd_t, ck_t, B_t, B_f]
        · obtain rfl : hh = 4 := by omega
          simp (disch := omega) only [x_L_law_286, x_L_law_288, x_L_law_289, x_L_law_292, x_L_law_294, x_L_law_295, x_L_law_298, x_L_law_300, x_L_law_301, x_L_law_304, x_L_law_305, x_L_law_308, x_L_law_309, x_L_law_310, x_L_law_312, x_L_law_313, x_L_law_315, x_L_law_316, x_L_law_319, x_L_law_322, x_L_law_323, x_L_law_326, x_L_law_327, x_L_law_330, x_L_law_332, x_L_law_333, x_L_law_336, x_L_law_337, List.length_cons, List.length_nil, Nat.reduceLeDiff, Nat.zero_add, iI_add, iI_sub, iI_mul, iI_neg, iI_lt, iI_le, iI_eq, jI_iI, B_True, B_False, B_t, B_f, ck_True, gd_True, cb_v, cb_n, p_mv_rw, p_fv_rw, p_rv_some, pA_1, pA_90, pA_92, pA_3, pA_5, pA_93, pA_4, pA_91, pA_6, pS_i, pB_i, pW_i, pZ_0, pZ_1, pZ_b, bI_e0, u1_s, u1_n, uA_s, uA_n, true_and, and_true, not_true_eq_false, not_false_eq_true, eq_self, iI_z, al1, al5, al3, al4, al90, al91, al92, al93, al6, Int.cast_ofNat_Int, Nat.reduceAdd, Int.reduceNeg, Int.reduceAdd, Int.reduceSub, Int.reduceMul, Int.reduceLT, Int.reduceLE, Int.reduceGT, Int.reduceGE, Int.reduceEq, Int.reduceNe, Nat.reduceEqDiff, Int.zero_add, Int.add_zero, p_ty0, p_ty1, p_ty2, p_ty3, p_ty4, p_ty5, p_ty8, p_ty9, p_ty10, e1, ty, gd_t, ck_t, B_t, B_f]
    · by_cases c1 : hh = 4
      · simp (disch := omega) only [x_L_law_286, x_L_law_288, x_L_law_289, x_L_law_292, x_L_law_294, x_L_law_295, x_L_law_298, x_L_law_300, x_L_law_301, x_L_law_304, x_L_law_305, x_L_law_308, x_L_law_309, x_L_law_310, x_L_law_312, x_L_law_313, x_L_law_315, x_L_law_316, x_L_law_319, x_L_law_322, x_L_law_323, x_L_law_326, x_L_law_327, x_L_law_330, x_L_law_332, x_L_law_333, x_L_law_336, x_L_law_337, List.length_cons, List.length_nil, Nat.reduceLeDiff, Nat.zero_add, iI_add, iI_sub, iI_mul, iI_neg, iI_lt, iI_le, iI_eq, jI_iI, B_True, B_False, B_t, B_f, ck_True, gd_True, cb_v, cb_n, p_mv_rw, p_fv_rw, p_rv_some, pA_1, pA_90, pA_92, pA_3, pA_5, pA_93, pA_4, pA_91, pA_6, pS_i, pB_i, pW_i, pZ_0, pZ_1, pZ_b, bI_e0, u1_s, u1_n, uA_s, uA_n, true_and, and_true, not_true_eq_false, not_false_eq_true, eq_self, iI_z, al1, al5, al3, al4, al90, al91, al92, al93, al6, Int.cast_ofNat_Int, Nat.reduceAdd, Int.reduceNeg, Int.reduceAdd, Int.reduceSub, Int.reduceMul, Int.reduceLT, Int.reduceLE, Int.reduceGT, Int.reduceGE, Int.reduceEq, Int.reduceNe, Nat.reduceEqDiff, Int.zero_add, Int.add_zero, p_ty0, p_ty1, p_ty2, p_ty3, p_ty4, p_ty5, p_ty8, p_ty9, p_ty10, e1, ty, gd_t, ck_t, B_t, B_f]
      · have n1 : hh ≠ 1 := by omega
        have n2 : hh ≠ 2 := by omega
        simp (disch := omega) only [x_L_law_286, x_L_law_288, x_L_law_289, x_L_law_292, x_L_law_294, x_L_law_295, x_L_law_298, x_L_law_300, x_L_law_301, x_L_law_304, x_L_law_305, x_L_law_308, x_L_law_309, x_L_law_310, x_L_law_312, x_L_law_313, x_L_law_315, x_L_law_316, x_L_law_319, x_L_law_322, x_L_law_323, x_L_law_326, x_L_law_327, x_L_law_330, x_L_law_332, x_L_law_333, x_L_law_336, x_L_law_337, List.length_cons, List.length_nil, Nat.reduceLeDiff, Nat.zero_add, iI_add, iI_sub, iI_mul, iI_neg, iI_lt, iI_le, iI_eq, jI_iI, B_True, B_False, B_t, B_f, ck_True, gd_True, cb_v, cb_n, p_mv_rw, p_fv_rw, p_rv_some, pA_1, pA_90, pA_92, pA_3, pA_5, pA_93, pA_4, pA_91, pA_6, pS_i, pB_i, pW_i, pZ_0, pZ_1, pZ_b, bI_e0, u1_s, u1_n, uA_s, uA_n, true_and, and_true, not_true_eq_false, not_false_eq_true, eq_self, iI_z, al1, al5, al3, al4, al90, al91, al92, al93, al6, Int.cast_ofNat_Int, Nat.reduceAdd, Int.reduceNeg, Int.reduceAdd, Int.reduceSub, Int.reduceMul, Int.reduceLT, Int.reduceLE, Int.reduceGT, Int.reduceGE, Int.reduceEq, Int.reduceNe, Nat.reduceEqDiff, Int.zero_add, Int.add_zero, p_ty0, p_ty1, p_ty2, p_ty3, p_ty4, p_ty5, p_ty8, p_ty9, p_ty10, e1, ty, gd_t, ck_t, B_t, B_f]
  · have h5 := hf.2.1 hy
    refine ⟨T, M, F, ?_, h, .rf⟩
    rw [h5]
    clear h hf hy hr h5
    generalize m_king S.1 S.2.1 = kg at *
    simp (disch := omega) only [x_L_law_286, x_L_law_288, x_L_law_289, x_L_law_292, x_L_law_294, x_L_law_295, x_L_law_298, x_L_law_300, x_L_law_301, x_L_law_304, x_L_law_305, x_L_law_308, x_L_law_309, x_L_law_310, x_L_law_312, x_L_law_313, x_L_law_315, x_L_law_316, x_L_law_319, x_L_law_322, x_L_law_323, x_L_law_326, x_L_law_327, x_L_law_330, x_L_law_332, x_L_law_333, x_L_law_336, x_L_law_337, List.length_cons, List.length_nil, Nat.reduceLeDiff, Nat.zero_add, iI_add, iI_sub, iI_mul, iI_neg, iI_lt, iI_le, iI_eq, jI_iI, B_True, B_False, B_t, B_f, ck_True, gd_True, cb_v, cb_n, p_mv_rw, p_fv_rw, p_rv_some, pA_1, pA_90, pA_92, pA_3, pA_5, pA_93, pA_4, pA_91, pA_6, pS_i, pB_i, pW_i, pZ_0, pZ_1, pZ_b, bI_e0, u1_s, u1_n, uA_s, uA_n, true_and, and_true, not_true_eq_false, not_false_eq_true, eq_self, iI_z, al1, al5, al3, al4, al90, al91, al92, al93, al6, Int.cast_ofNat_Int, Nat.reduceAdd, Int.reduceNeg, Int.reduceAdd, Int.reduceSub, Int.reduceMul, Int.reduceLT, Int.reduceLE, Int.reduceGT, Int.reduceGE, Int.reduceEq, Int.reduceNe, Nat.reduceEqDiff, Int.zero_add, Int.add_zero, p_ty0, p_ty1, p_ty2, p_ty3, p_ty4, p_ty5, p_ty8, p_ty9, p_ty10, gd_t, ck_t, B_t, B_f]
theorem lc_3 {l0 l1 l2 l4 l5 l7 l9 l10 l11 l12 l13 l14 l15 l16 l17 l18 l19 l20 l21 l22 l23 l24 : Slot} (h : LW k T M F S ea bs 0) : R e m_L_law 338 [l0, l1, l2, .val (.ref (100 + k)), l4, l5, .val (.int (iI (((lgQ S.1 S.2.1 S.2.2.1 S.2.2.2.1).length : Int)))), l7, .val (.int (iI (hw S.1 S.2.1 S.2.2.1 S.2.2.2.1))), l9, l10, l11, l12, l13, l14, l15, l16, l17, l18, l19, l20, l21, l22, l23, l24] [] T M F = R e m_L_law 364 [l0, l1, l2, .val (.ref (100 + k)), l4, l5, .val (.int (iI (((lgQ S.1 S.2.1 S.2.2.1 S.2.2.2.1).length : Int)))), l7, .val (.int (iI (hw S.1 S.2.1 S.2.2.1 S.2.2.2.1))), l9, l10, l11, l12, l13, l14, l15, l16, l17, l18, l19, l20, l21, l22, l23, l24] [] T M F := by
  have hr := hw_rg (bb := S.1) (t := S.2.1) (pas := S.2.2.1) (q := S.2.2.2.1)
  have hf := (hw_f (S := S)).2.2
  have hl := h.sf.2.2.2.2.2.1
  clear h
  generalize hw S.1 S.2.1 S.2.2.1 S.2.2.2.1 = hh at *
  generalize (lgQ S.1 S.2.1 S.2.2.1 S.2.2.2.1).length = ln at *
  by_cases c : ln = 0
  · have := hf.mp c
    subst c
    simp (disch := omega) only [x_L_law_338, x_L_law_340, x_L_law_343, x_L_law_344, x_L_law_347, x_L_law_348, x_L_law_350, x_L_law_351, x_L_law_354, x_L_law_355, x_L_law_358, x_L_law_359, x_L_law_362, x_L_law_363, List.length_cons, List.length_nil, Nat.reduceLeDiff, Nat.zero_add, iI_add, iI_sub, iI_mul, iI_neg, iI_lt, iI_le, iI_eq, jI_iI, B_True, B_False, B_t, B_f, ck_True, gd_True, cb_v, cb_n, p_mv_rw, p_fv_rw, p_rv_some, pA_1, pA_90, pA_92, pA_3, pA_5, pA_93, pA_4, pA_91, pA_6, pS_i, pB_i, pW_i, pZ_0, pZ_1, pZ_b, bI_e0, u1_s, u1_n, uA_s, uA_n, true_and, and_true, not_true_eq_false, not_false_eq_true, eq_self, iI_z, al1, al5, al3, al4, al90, al91, al92, al93, al6, Int.cast_ofNat_Int, Nat.reduceAdd, Int.reduceNeg, Int.reduceAdd, Int.reduceSub, Int.reduceMul, Int.reduceLT, Int.reduceLE, Int.reduceGT, Int.reduceGE, Int.reduceEq, Int.reduceNe, Nat.reduceEqDiff, Int.zero_add, Int.add_zero, p_ty0, p_ty1, p_ty2, p_ty3, p_ty4, p_ty5, p_ty8, p_ty9, p_ty10, gd_t, ck_t, B_t, B_f]
  · have : ¬ 1 < hh := fun z => c (hf.mpr z)
    simp (disch := omega) only [x_L_law_338, x_L_law_340, x_L_law_343, x_L_law_344, x_L_law_347, x_L_law_348, x_L_law_350, x_L_law_351, x_L_law_354, x_L_law_355, x_L_law_358, x_L_law_359, x_L_law_362, x_L_law_363, List.length_cons, List.length_nil, Nat.reduceLeDiff, Nat.zero_add, iI_add, iI_sub, iI_mul, iI_neg, iI_lt, iI_le, iI_eq, jI_iI, B_True, B_False, B_t, B_f, ck_True, gd_True, cb_v, cb_n, p_mv_rw, p_fv_rw, p_rv_some, pA_1, pA_90, pA_92, pA_3, pA_5, pA_93, pA_4, pA_91, pA_6, pS_i, pB_i, pW_i, pZ_0, pZ_1, pZ_b, bI_e0, u1_s, u1_n, uA_s, uA_n, true_and, and_true, not_true_eq_false, not_false_eq_true, eq_self, iI_z, al1, al5, al3, al4, al90, al91, al92, al93, al6, Int.cast_ofNat_Int, Nat.reduceAdd, Int.reduceNeg, Int.reduceAdd, Int.reduceSub, Int.reduceMul, Int.reduceLT, Int.reduceLE, Int.reduceGT, Int.reduceGE, Int.reduceEq, Int.reduceNe, Nat.reduceEqDiff, Int.zero_add, Int.add_zero, p_ty0, p_ty1, p_ty2, p_ty3, p_ty4, p_ty5, p_ty8, p_ty9, p_ty10, gd_t, ck_t, B_t, B_f]
theorem ld_B {l0 l1 l2 l4 l5 l8 l9 l10 l14 l15 l16 l17 l18 l19 l20 l21 l22 l23 l24 : Slot} (he : 10 ≤ e) : ∀ (n : Nat) (w : Int) (l13 : Slot) (T : pT) (M : pM) (F : pF), LW k T M F S ea bs 0 → 0 ≤ w → w + n = ((lgQ S.1 S.2.1 S.2.2.1 S.2.2.2.1).length : Int) → ∃ T1 M1 F1 l11' l13', R e m_L_law 370 [l0, l1, l2, .val (.ref (100 + k)), l4, l5, .val (.int (iI (((lgQ S.1 S.2.1 S.2.2.1 S.2.2.2.1).length : Int)))), .val (.int (iI (S.2.1))), l8, l9, l10, .val (.int (iI ((if w = 0 then -1 else (lgQ S.1 S.2.1 S.2.2.1 S.2.2.2.1).getD (w - 1).toNat 0)))), .val (.int (iI (w))), l13, l14, l15, l16, l17, l18, l19, l20, l21, l22, l23, l24] [] T M F = R e m_L_law 434 [l0, l1, l2, .val (.ref (100 + k)), l4, l5, .val (.int (iI (((lgQ S.1 S.2.1 S.2.2.1 S.2.2.2.1).length : Int)))), .val (.int (iI (S.2.1))), l8, l9, l10, l11', .val (.int (iI (((lgQ S.1 S.2.1 S.2.2.1 S.2.2.2.1).length : Int)))), l13', l14, l15, l16, l17, l18, l19, l20, l21, l22, l23, l24] [] T1 M1 F1 ∧ LW k T1 M1 F1 S ea bs 0 ∧ KX k T M F T1 M1 F1
  | 0, w, l13, T, M, F, h, h0, hw => by
    obtain rfl : w = ((lgQ S.1 S.2.1 S.2.2.1 S.2.2.2.1).length : Int) := by omega
    have hl := h.sf.2.2.2.2.2.1
    refine ⟨T, M, F, .val (.int (iI (if ((lgQ S.1 S.2.1 S.2.2.1 S.2.2.2.1).length : Int) = 0 then -1 else (lgQ S.1 S.2.1 S.2.2.1 S.2.2.2.1).getD (((lgQ S.1 S.2.1 S.2.2.1 S.2.2.2.1).length : Int) - 1).toNat 0))), l13, ?_, h, .rf⟩
    generalize (lgQ S.1 S.2.1 S.2.2.1 S.2.2.2.1).length = ln at *
    generalize (if (ln : Int) = 0 then -1 else (lgQ S.1 S.2.1 S.2.2.1 S.2.2.2.1).getD ((ln : Int) - 1).toNat 0) = z1
    simp (disch := omega) only [x_L_law_370, x_L_law_372, x_L_law_374, List.length_cons, List.length_nil, Nat.reduceLeDiff, Nat.zero_add, iI_add, iI_sub, iI_mul, iI_neg, iI_lt, iI_le, iI_eq, jI_iI, B_True, B_False, B_t, B_f, ck_True, gd_True, cb_v, cb_n, p_mv_rw, p_fv_rw, p_rv_some, pA_1, pA_90, pA_92, pA_3, pA_5, pA_93, pA_4, pA_91, pA_6, pS_i, pB_i, pW_i, pZ_0, pZ_1, pZ_b, bI_e0, u1_s, u1_n, uA_s, uA_n, true_and, and_true, not_true_eq_false, not_false_eq_true, eq_self, iI_z, al1, al5, al3, al4, al90, al91, al92, al93, al6, Int.cast_ofNat_Int, Nat.reduceAdd, Int.reduceNeg, Int.reduceAdd, Int.reduceSub, Int.reduceMul, Int.reduceLT, Int.reduceLE, Int.reduceGT, Int.reduceGE, Int.reduceEq, Int.reduceNe, Nat.reduceEqDiff, Int.zero_add, Int.add_zero, p_ty0, p_ty1, p_ty2, p_ty3, p_ty4, p_ty5, p_ty8, p_ty9, p_ty10, gd_t, ck_t, B_t, B_f]
  | n + 1, w, l13, T, M, F, h, h0, hw => by
    have hl := h.sf.2.2.2.2.2.1
    have ht := h.sf.2.1
    obtain ⟨T1, M1, F1, e1, L1, K1⟩ := w_nth h (i := w) (by omega) he
    have hmem := lgQ_at (bb := S.1) (t := S.2.1) (pas := S.2.2.1) (q := S.2.2.2.1) (i := w.toNat) (by omega)
    obtain ⟨hx, ho, hn⟩ := lgQ_own hmem
    have hlt : (if w = 0 then -1 else (lgQ S.1 S.2.1 S.2.2.1 S.2.2.2.1).getD (w - 1).toNat 0) < (lgQ S.1 S.2.1 S.2.2.1 S.2.2.2.1).getD w.toNat 0 := by
      split
      · omega
      · exact lgQ_lt (by omega) (by omega)
    have hge : -1 ≤ (if w = 0 then -1 else (lgQ S.1 S.2.1 S.2.2.1 S.2.2.2.1).getD (w - 1).toNat 0) := by
      split
      · omega
      · have := (lgQ_own (lgQ_at (bb := S.1) (t := S.2.1) (pas := S.2.2.1) (q := S.2.2.2.1) (i := (w - 1).toNat) (by omega))).1
        omega
    obtain ⟨T2, M2, F2, e2, L2, K2⟩ := w_cell L1 (c := (lgQ S.1 S.2.1 S.2.2.1 S.2.2.2.1).getD w.toNat 0 / 91) (by omega) (i := 1) (by omega) he
    obtain ⟨T3, M3, F3, e3, L3, K3⟩ := w_cell L2 (c := (lgQ S.1 S.2.1 S.2.2.1 S.2.2.2.1).getD w.toNat 0 % 91) (by omega) (i := 1) (by omega) he
    have hs := (h.sv ((lgQ S.1 S.2.1 S.2.2.1 S.2.2.2.1).getD w.toNat 0 % 91)).1
    obtain ⟨T4, M4, F4, l11', l13', e4, L4, K4⟩ := ld_B he (l0 := l0) (l1 := l1) (l2 := l2) (l4 := l4) (l5 := l5) (l8 := l8) (l9 := l9) (l10 := l10) (l14 := l14) (l15 := l15) (l16 := l16) (l17 := l17) (l18 := l18) (l19 := l19) (l20 := l20) (l21 := l21) (l22 := l22) (l23 := l23) (l24 := l24) n (w + 1) (.val (.int (iI ((lgQ S.1 S.2.1 S.2.2.1 S.2.2.2.1).getD w.toNat 0)))) T3 M3 F3 L3 (by omega) (by omega)
    refine ⟨T4, M4, F4, l11', l13', ?_, L4, (K1.tr K2).tr (K3.tr K4)⟩
    rw [if_neg (show ¬ w + 1 = 0 by omega), show w + 1 - 1 = w by omega] at e4
    rw [← e4]
    rw [fac1] at e2 e3
    rw [ho] at e2
    obtain ⟨d1, d2⟩ := idv91 (u := (lgQ S.1 S.2.1 S.2.2.1 S.2.2.2.1).getD w.toNat 0) (by omega)
    have ty := h.ty
    have ty1 := L1.ty
    have ty2 := L2.ty
    clear L1 L2 L3 L4 K1 K2 K3 K4 h e4 hmem ho
    generalize (if w = 0 then -1 else (lgQ S.1 S.2.1 S.2.2.1 S.2.2.2.1).getD (w - 1).toNat 0) = last at *
    generalize (lgQ S.1 S.2.1 S.2.2.1 S.2.2.2.1).getD w.toNat 0 = x at *
    generalize (lgQ S.1 S.2.1 S.2.2.1 S.2.2.2.1).length = ln at *
    generalize m_side (S.1 (x % 91)) = u at *
    generalize S.2.1 = t at *
    rw [x_L_law_370]
    simp (disch := omega) only [x_L_law_372, x_L_law_374, x_L_law_377, x_L_law_378, x_L_law_380, x_L_law_383, x_L_law_385, x_L_law_387, x_L_law_389, x_L_law_392, x_L_law_393, x_L_law_395, x_L_law_397, x_L_law_398, x_L_law_399, x_L_law_402, x_L_law_404, x_L_law_407, x_L_law_408, x_L_law_410, x_L_law_412, x_L_law_413, x_L_law_414, x_L_law_417, x_L_law_419, x_L_law_422, x_L_law_423, x_L_law_424, x_L_law_426, x_L_law_428, x_L_law_431, List.length_cons, List.length_nil, Nat.reduceLeDiff, Nat.zero_add, iI_add, iI_sub, iI_mul, iI_neg, iI_lt, iI_le, iI_eq, jI_iI, B_True, B_False, B_t, B_f, ck_True, gd_True, cb_v, cb_n, p_mv_rw, p_fv_rw, p_rv_some, pA_1, pA_90, pA_92, pA_3, pA_5, pA_93, pA_4, pA_91, pA_6, pS_i, pB_i, pW_i, pZ_0, pZ_1, pZ_b, bI_e0, u1_s, u1_n, uA_s, uA_n, true_and, and_true, not_true_eq_false, not_false_eq_true, eq_self, iI_z, al1, al5, al3, al4, al90, al91, al92, al93, al6, Int.cast_ofNat_Int, Nat.reduceAdd, Int.reduceNeg, Int.reduceAdd, Int.reduceSub, Int.reduceMul, Int.reduceLT, Int.reduceLE, Int.reduceGT, Int.reduceGE, Int.reduceEq, Int.reduceNe, Nat.reduceEqDiff, Int.zero_add, Int.add_zero, p_ty0, p_ty1, p_ty2, p_ty3, p_ty4, p_ty5, p_ty8, p_ty9, p_ty10, e1, e2, e3, d1, d2, ty, ty1, ty2, gd_t, ck_t, B_t, B_f]
theorem le_1 {l0 l1 l2 l4 l5 l6 l7 l8 l9 l10 l11 l13 l14 l15 l16 l17 l18 l19 l20 l21 l22 l23 l24 : Slot} (he : 10 ≤ e) (hi : i = 0 ∨ i = 1) (h : LW k T M F S ea bs 0) : ∃ T1 M1 F1 l13', R e m_L_law 437 [l0, l1, l2, .val (.ref (100 + k)), l4, l5, l6, l7, l8, l9, l10, l11, .val (.int (iI (i))), l13, l14, l15, l16, l17, l18, l19, l20, l21, l22, l23, l24] [] T M F = R e m_L_law 437 [l0, l1, l2, .val (.ref (100 + k)), l4, l5, l6, l7, l8, l9, l10, l11, .val (.int (iI (i + 1))), l13', l14, l15, l16, l17, l18, l19, l20, l21, l22, l23, l24] [] T1 M1 F1 ∧ LW k T1 M1 F1 S ea bs 0 ∧ KX k T M F T1 M1 F1 := by
  obtain ⟨T1, M1, F1, e1, L1, K1⟩ := w_hanging h hi he
  have ty := h.ty
  rcases hgd_ok (bb := S.1) (s := i) with hz | ⟨hr, h1, h2, h3, h4⟩
  · refine ⟨T1, M1, F1, .val (.int (iI (hgd S.1 i 91 0 (-1) 0))), ?_, L1, K1⟩
    rw [hz]
    rw [hz] at e1
    clear L1 K1 h
    rw [x_L_law_437]
    simp (disch := omega) only [x_L_law_439, x_L_law_440, x_L_law_443, x_L_law_444, x_L_law_446, x_L_law_449, x_L_law_451, x_L_law_453, x_L_law_456, x_L_law_457, x_L_law_459, x_L_law_460, x_L_law_463, x_L_law_465, x_L_law_468, x_L_law_469, x_L_law_471, x_L_law_472, x_L_law_474, x_L_law_475, x_L_law_478, x_L_law_481, x_L_law_482, x_L_law_484, x_L_law_485, x_L_law_487, x_L_law_488, x_L_law_491, x_L_law_494, x_L_law_495, x_L_law_497, x_L_law_498, x_L_law_501, x_L_law_502, x_L_law_505, x_L_law_506, x_L_law_507, x_L_law_510, List.length_cons, List.length_nil, Nat.reduceLeDiff, Nat.zero_add, iI_add, iI_sub, iI_mul, iI_neg, iI_lt, iI_le, iI_eq, jI_iI, B_True, B_False, B_t, B_f, ck_True, gd_True, cb_v, cb_n, p_mv_rw, p_fv_rw, p_rv_some, pA_1, pA_90, pA_92, pA_3, pA_5, pA_93, pA_4, pA_91, pA_6, pS_i, pB_i, pW_i, pZ_0, pZ_1, pZ_b, bI_e0, u1_s, u1_n, uA_s, uA_n, true_and, and_true, not_true_eq_false, not_false_eq_true, eq_self, iI_z, al1, al5, al3, al4, al90, al91, al92, al93, al6, Int.cast_ofNat_Int, Nat.reduceAdd, Int.reduceNeg, Int.reduceAdd, Int.reduceSub, Int.reduceMul, Int.reduceLT, Int.reduceLE, Int.reduceGT, Int.reduceGE, Int.reduceEq, Int.reduceNe, Nat.reduceEqDiff, Int.zero_add, Int.add_zero, p_ty0, p_ty1, p_ty2, p_ty3, p_ty4, p_ty5, p_ty8, p_ty9, p_ty10, e1, ty, gd_t, ck_t, B_t, B_f]
  · obtain ⟨T2, M2, F2, e2, L2, K2⟩ := w_cell L1 hr (i := 1) (by omega) he
    obtain ⟨T3, M3, F3, e3, L3, K3⟩ := w_cell L2 hr (i := 5 - i) (by omega) he
    obtain ⟨T4, M4, F4, e4, L4, K4⟩ := w_cell L3 hr (i := 4 + i) (by omega) he
    obtain ⟨T5, M5, F5, e5, L5, K5⟩ := w_cell L4 hr (i := 0) (by omega) he
    refine ⟨T5, M5, F5, .val (.int (iI (hgd S.1 i 91 0 (-1) 0))), ?_, L5, (K1.tr K2).tr ((K3.tr K4).tr K5)⟩
    have ef : z_fac S (hgd S.1 i 91 0 (-1) 0) (5 - i) = m_att S.1 (hgd S.1 i 91 0 (-1) 0) (1 - i) := by
      rcases hi with z | z <;> rw [z]
      · exact fac5
      · exact fac4
    have ef2 : z_fac S (hgd S.1 i 91 0 (-1) 0) (4 + i) = m_att S.1 (hgd S.1 i 91 0 (-1) 0) i := by
      rcases hi with z | z <;> rw [z]
      · exact fac4
      · exact fac5
    rw [fac1, h1] at e2
    rw [ef] at e3
    rw [ef2, h4] at e4
    rw [fac0] at e5
    have ra := m_att_rg S.1 (hgd S.1 i 91 0 (-1) 0) (1 - i)
    have hs := (h.sv (hgd S.1 i 91 0 (-1) 0)).1
    have ty1 := L1.ty
    have ty2 := L2.ty
    have ty3 := L3.ty
    have ty4 := L4.ty
    clear L1 L2 L3 L4 L5 K1 K2 K3 K4 K5 h h4 ef ef2 h1
    generalize m_att S.1 (hgd S.1 i 91 0 (-1) 0) (1 - i) = u1' at *
    generalize S.1 (hgd S.1 i 91 0 (-1) 0) % 10 = u2 at *
    generalize hgd S.1 i 91 0 (-1) 0 = hg at *
    have hs2 : 0 ≤ u2 ∧ u2 ≤ 6 := by omega
    clear hs
    rw [x_L_law_437]
    simp (disch := omega) only [x_L_law_439, x_L_law_440, x_L_law_443, x_L_law_444, x_L_law_446, x_L_law_449, x_L_law_451, x_L_law_453, x_L_law_456, x_L_law_457, x_L_law_459, x_L_law_460, x_L_law_463, x_L_law_465, x_L_law_468, x_L_law_469, x_L_law_471, x_L_law_472, x_L_law_474, x_L_law_475, x_L_law_478, x_L_law_481, x_L_law_482, x_L_law_484, x_L_law_485, x_L_law_487, x_L_law_488, x_L_law_491, x_L_law_494, x_L_law_495, x_L_law_497, x_L_law_498, x_L_law_501, x_L_law_502, x_L_law_505, x_L_law_506, x_L_law_507, x_L_law_510, List.length_cons, List.length_nil, Nat.reduceLeDiff, Nat.zero_add, iI_add, iI_sub, iI_mul, iI_neg, iI_lt, iI_le, iI_eq, jI_iI, B_True, B_False, B_t, B_f, ck_True, gd_True, cb_v, cb_n, p_mv_rw, p_fv_rw, p_rv_some, pA_1, pA_90, pA_92, pA_3, pA_5, pA_93, pA_4, pA_91, pA_6, pS_i, pB_i, pW_i, pZ_0, pZ_1, pZ_b, bI_e0, u1_s, u1_n, uA_s, uA_n, true_and, and_true, not_true_eq_false, not_false_eq_true, eq_self, iI_z, al1, al5, al3, al4, al90, al91, al92, al93, al6, Int.cast_ofNat_Int, Nat.reduceAdd, Int.reduceNeg, Int.reduceAdd, Int.reduceSub, Int.reduceMul, Int.reduceLT, Int.reduceLE, Int.reduceGT, Int.reduceGE, Int.reduceEq, Int.reduceNe, Nat.reduceEqDiff, Int.zero_add, Int.add_zero, p_ty0, p_ty1, p_ty2, p_ty3, p_ty4, p_ty5, p_ty8, p_ty9, p_ty10, e1, e2, e3, e4, e5, ty, ty1, ty2, ty3, ty4, gd_t, ck_t, B_t, B_f]
end PLWC
