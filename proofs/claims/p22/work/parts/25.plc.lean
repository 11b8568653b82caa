section PPLC
variable {d : Nat} {T : pT} {M : pM} {F : pF} {b g : Nat} {bb : Int → Int} {k s t pas q its to as c x n : Int}
theorem play_C {M1 M2 M3 : pM} (hG : GT T F g) (s1 : M g 1 = t) (hb : MB bb) (ht : t = 0 ∨ t = 1) (hst : m_side (bb its) = t) (has : 2 ≤ as ∧ as ≤ 5) (g2 : M2 g = M g)
    (e1 : ∀ d, 1 ≤ d → callD d m_X0_set [.ref (g + 1), .int (iI (q_pl (mk_pl bb pas its to))), .int (iI 0)] T M F = some (.inl none, T, M1, F))
    (e2 : ∀ d, 1 ≤ d → callD d m_X0_set [.ref (g + 1), .int (iI (q_pl its)), .int (iI 0)] T M1 F = some (.inl none, T, M2, F))
    (e3 : ∀ d, 1 ≤ d → callD d m_X0_set [.ref (g + 1), .int (iI (q_pl to)), .int (iI (cv (mk_th bb its to as)))] T M2 F = some (.inl none, T, M3, F)) {e : Nat} (he : 1 ≤ e) {l5 l8 l9 l10 : Slot} :
    R e m_X1_play 148 [.val (.ref g), .val (.int (iI (q_pl its))), .val (.int (iI (q_pl to))), .val (.int (iI as)), .val (.int (iI (cv (bb its)))), l5, .val (.int (iI (bI (mk_be bb its to)))), .val (.int (iI (q_pl (mk_pl bb pas its to)))), l8, l9, l10] [] T M F = R e m_X1_play 193 [.val (.ref g), .val (.int (iI (q_pl its))), .val (.int (iI (q_pl to))), .val (.int (iI as)), .val (.int (iI (cv (bb its)))), l5, .val (.int (iI (bI (mk_be bb its to)))), .val (.int (iI (q_pl (mk_pl bb pas its to)))), l8, l9, l10] [] T M3 F := by
  obtain ⟨hg, t0, f0, hB, -⟩ := hG
  have hb0 := hB.2.1
  have hval : q_val t as = cv (10 * t + as) := by unfold q_val cv; (repeat' split) <;> omega
  by_cases cl : mk_be bb its to
  · rw [bI_t cl]
    rw [show mk_th bb its to as = 10 * t + as by unfold mk_th; rw [if_pos (show bb its % 10 = 6 ∧ gn to (m_ah (m_side (bb its))) = -1 from cl), hst], ← hval] at e3
    simp (disch := omega) only [x_X1_play_148, x_X1_play_149, x_X1_play_152, x_X1_play_154, x_X1_play_155, x_X1_play_158, x_X1_play_159, x_X1_play_162, x_X1_play_163, x_X1_play_164, x_X1_play_167, x_X1_play_168, x_X1_play_171, x_X1_play_172, x_X1_play_174, x_X1_play_177, x_X1_play_178, x_X1_play_181, x_X1_play_182, x_X1_play_185, x_X1_play_188, x_X1_play_190, List.length_cons, List.length_nil, Nat.reduceLeDiff, Nat.zero_add, iI_add, iI_sub, iI_mul, iI_neg, iI_lt, iI_le, iI_eq, jI_iI, B_True, B_False, B_t, B_f, ck_True, gd_True, cb_v, cb_n, p_mv_rw, p_fv_rw, p_rv_some, pA_1, pA_90, pA_92, pA_3, pA_5, pA_93, pA_4, pA_91, pA_6, pS_i, pB_i, pW_i, pZ_0, pZ_1, pZ_b, bI_e0, u1_s, u1_n, uA_s, uA_n, true_and, and_true, not_true_eq_false, not_false_eq_true, eq_self, iI_z, al1, al5, al3, al4, al90, al91, al92, al93, al6, Int.cast_ofNat_Int, Nat.reduceAdd, Int.reduceNeg, Int.reduceAdd, Int.reduceSub, Int.reduceMul, Int.reduceLT, Int.reduceLE, Int.reduceGT, Int.reduceGE, Int.reduceEq, Int.reduceNe, Nat.reduceEqDiff, Int.zero_add, Int.add_zero, p_ty0, p_ty1, p_ty2, p_ty3, p_ty4, p_ty5, p_ty8, p_ty9, p_ty10, t0, f0, hb0, s1, e1, e2, e3, g2, c_val, B_t, B_f, gd_t]
  · rw [bI_f cl]
    rw [show mk_th bb its to as = bb its by unfold mk_th; rw [if_neg (show ¬ (bb its % 10 = 6 ∧ gn to (m_ah (m_side (bb its))) = -1) from cl)]] at e3
    simp (disch := omega) only [x_X1_play_148, x_X1_play_149, x_X1_play_152, x_X1_play_154, x_X1_play_155, x_X1_play_158, x_X1_play_159, x_X1_play_162, x_X1_play_163, x_X1_play_164, x_X1_play_167, x_X1_play_168, x_X1_play_171, x_X1_play_172, x_X1_play_174, x_X1_play_177, x_X1_play_178, x_X1_play_181, x_X1_play_182, x_X1_play_185, x_X1_play_188, x_X1_play_190, List.length_cons, List.length_nil, Nat.reduceLeDiff, Nat.zero_add, iI_add, iI_sub, iI_mul, iI_neg, iI_lt, iI_le, iI_eq, jI_iI, B_True, B_False, B_t, B_f, ck_True, gd_True, cb_v, cb_n, p_mv_rw, p_fv_rw, p_rv_some, pA_1, pA_90, pA_92, pA_3, pA_5, pA_93, pA_4, pA_91, pA_6, pS_i, pB_i, pW_i, pZ_0, pZ_1, pZ_b, bI_e0, u1_s, u1_n, uA_s, uA_n, true_and, and_true, not_true_eq_false, not_false_eq_true, eq_self, iI_z, al1, al5, al3, al4, al90, al91, al92, al93, al6, Int.cast_ofNat_Int, Nat.reduceAdd, Int.reduceNeg, Int.reduceAdd, Int.reduceSub, Int.reduceMul, Int.reduceLT, Int.reduceLE, Int.reduceGT, Int.reduceGE, Int.reduceEq, Int.reduceNe, Nat.reduceEqDiff, Int.zero_add, Int.add_zero, p_ty0, p_ty1, p_ty2, p_ty3, p_ty4, p_ty5, p_ty8, p_ty9, p_ty10, t0, f0, hb0, e1, e2, e3, B_t, B_f, gd_t]
theorem play_D0 {M3 : pM} {P : Prop} {A B w X Y : Int} (hg : 100 ≤ g) (t0 : p_ty T g = (11, 14)) (ht : t = 0 ∨ t = 1) (s1 : M3 g 1 = t) (s2 : M3 g 2 = q) (hqr : 0 ≤ q ∧ q ≤ 250) (hA : 0 ≤ A ∧ A < 300) (hB : 0 ≤ B ∧ B < 300) (hw : 0 ≤ w ∧ w < 15)
    (hX1 : P ∨ w ≠ 0 → X = 0) (hX2 : ¬ P → w = 0 → X = q + 1) (hY1 : P → B = A + 2 * q_fwd t → Y = A + q_fwd t) (hY2 : ¬ (P ∧ B = A + 2 * q_fwd t) → Y = -1) {e : Nat} (he : 1 ≤ e) {l3 l4 l6 l7 : Slot} {n : Int64} :
    R e m_X1_play 193 [.val (.ref g), .val (.int (iI A)), .val (.int (iI B)), l3, l4, .val (.int (iI (bI P))), l6, l7, .val (.int (iI w)), .val (.long n), .second] [] T M3 F = some (.inl (some (.long n)), T, uA M3 g (u1 (u1 (u1 (M3 g) 2 X) 3 Y) 1 (1 - t)), F) := by
  have a4 := (ah_fwd ht).2.2.2
  by_cases hP : P
  · rw [bI_t hP, hX1 (Or.inl hP)]
    by_cases h2 : B = A + 2 * q_fwd t
    · rw [hY1 hP h2]
      clear hX1 hX2 hY1 hY2 hP
      simp (disch := omega) only [x_X1_play_193, x_X1_play_194, x_X1_play_196, x_X1_play_199, x_X1_play_201, x_X1_play_204, x_X1_play_205, x_X1_play_208, x_X1_play_209, x_X1_play_212, x_X1_play_213, x_X1_play_214, x_X1_play_217, x_X1_play_218, x_X1_play_220, x_X1_play_223, x_X1_play_224, x_X1_play_225, x_X1_play_226, x_X1_play_227, x_X1_play_230, x_X1_play_233, x_X1_play_234, x_X1_play_235, x_X1_play_238, x_X1_play_239, x_X1_play_240, x_X1_play_243, x_X1_play_246, x_X1_play_247, x_X1_play_250, x_X1_play_251, x_X1_play_254, x_X1_play_255, x_X1_play_256, x_X1_play_257, x_X1_play_260, x_X1_play_261, x_X1_play_264, x_X1_play_266, List.length_cons, List.length_nil, Nat.reduceLeDiff, Nat.zero_add, iI_add, iI_sub, iI_mul, iI_neg, iI_lt, iI_le, iI_eq, jI_iI, B_True, B_False, B_t, B_f, ck_True, gd_True, cb_v, cb_n, p_mv_rw, p_fv_rw, p_rv_some, pA_1, pA_90, pA_92, pA_3, pA_5, pA_93, pA_4, pA_91, pA_6, pS_i, pB_i, pW_i, pZ_0, pZ_1, pZ_b, bI_e0, u1_s, u1_n, uA_s, uA_n, true_and, and_true, not_true_eq_false, not_false_eq_true, eq_self, iI_z, al1, al5, al3, al4, al90, al91, al92, al93, al6, Int.cast_ofNat_Int, Nat.reduceAdd, Int.reduceNeg, Int.reduceAdd, Int.reduceSub, Int.reduceMul, Int.reduceLT, Int.reduceLE, Int.reduceGT, Int.reduceGE, Int.reduceEq, Int.reduceNe, Nat.reduceEqDiff, Int.zero_add, Int.add_zero, p_ty0, p_ty1, p_ty2, p_ty3, p_ty4, p_ty5, p_ty8, p_ty9, p_ty10, t0, s1, s2, c_fwd, B_t, B_f, uA_uA, gd_t]
    · rw [hY2 (fun z => h2 z.2)]
      clear hX1 hX2 hY1 hY2 hP
      simp (disch := omega) only [x_X1_play_193, x_X1_play_194, x_X1_play_196, x_X1_play_199, x_X1_play_201, x_X1_play_204, x_X1_play_205, x_X1_play_208, x_X1_play_209, x_X1_play_212, x_X1_play_213, x_X1_play_214, x_X1_play_217, x_X1_play_218, x_X1_play_220, x_X1_play_223, x_X1_play_224, x_X1_play_225, x_X1_play_226, x_X1_play_227, x_X1_play_230, x_X1_play_233, x_X1_play_234, x_X1_play_235, x_X1_play_238, x_X1_play_239, x_X1_play_240, x_X1_play_243, x_X1_play_246, x_X1_play_247, x_X1_play_250, x_X1_play_251, x_X1_play_254, x_X1_play_255, x_X1_play_256, x_X1_play_257, x_X1_play_260, x_X1_play_261, x_X1_play_264, x_X1_play_266, List.length_cons, List.length_nil, Nat.reduceLeDiff, Nat.zero_add, iI_add, iI_sub, iI_mul, iI_neg, iI_lt, iI_le, iI_eq, jI_iI, B_True, B_False, B_t, B_f, ck_True, gd_True, cb_v, cb_n, p_mv_rw, p_fv_rw, p_rv_some, pA_1, pA_90, pA_92, pA_3, pA_5, pA_93, pA_4, pA_91, pA_6, pS_i, pB_i, pW_i, pZ_0, pZ_1, pZ_b, bI_e0, u1_s, u1_n, uA_s, uA_n, true_and, and_true, not_true_eq_false, not_false_eq_true, eq_self, iI_z, al1, al5, al3, al4, al90, al91, al92, al93, al6, Int.cast_ofNat_Int, Nat.reduceAdd, Int.reduceNeg, Int.reduceAdd, Int.reduceSub, Int.reduceMul, Int.reduceLT, Int.reduceLE, Int.reduceGT, Int.reduceGE, Int.reduceEq, Int.reduceNe, Nat.reduceEqDiff, Int.zero_add, Int.add_zero, p_ty0, p_ty1, p_ty2, p_ty3, p_ty4, p_ty5, p_ty8, p_ty9, p_ty10, t0, s1, s2, c_fwd, B_t, B_f, uA_uA, gd_t]
  · rw [bI_f hP, hY2 (fun z => hP z.1)]
    by_cases h2 : w = 0
    · rw [hX2 hP h2]
      clear hX1 hX2 hY1 hY2 hP
      simp (disch := omega) only [x_X1_play_193, x_X1_play_194, x_X1_play_196, x_X1_play_199, x_X1_play_201, x_X1_play_204, x_X1_play_205, x_X1_play_208, x_X1_play_209, x_X1_play_212, x_X1_play_213, x_X1_play_214, x_X1_play_217, x_X1_play_218, x_X1_play_220, x_X1_play_223, x_X1_play_224, x_X1_play_225, x_X1_play_226, x_X1_play_227, x_X1_play_230, x_X1_play_233, x_X1_play_234, x_X1_play_235, x_X1_play_238, x_X1_play_239, x_X1_play_240, x_X1_play_243, x_X1_play_246, x_X1_play_247, x_X1_play_250, x_X1_play_251, x_X1_play_254, x_X1_play_255, x_X1_play_256, x_X1_play_257, x_X1_play_260, x_X1_play_261, x_X1_play_264, x_X1_play_266, List.length_cons, List.length_nil, Nat.reduceLeDiff, Nat.zero_add, iI_add, iI_sub, iI_mul, iI_neg, iI_lt, iI_le, iI_eq, jI_iI, B_True, B_False, B_t, B_f, ck_True, gd_True, cb_v, cb_n, p_mv_rw, p_fv_rw, p_rv_some, pA_1, pA_90, pA_92, pA_3, pA_5, pA_93, pA_4, pA_91, pA_6, pS_i, pB_i, pW_i, pZ_0, pZ_1, pZ_b, bI_e0, u1_s, u1_n, uA_s, uA_n, true_and, and_true, not_true_eq_false, not_false_eq_true, eq_self, iI_z, al1, al5, al3, al4, al90, al91, al92, al93, al6, Int.cast_ofNat_Int, Nat.reduceAdd, Int.reduceNeg, Int.reduceAdd, Int.reduceSub, Int.reduceMul, Int.reduceLT, Int.reduceLE, Int.reduceGT, Int.reduceGE, Int.reduceEq, Int.reduceNe, Nat.reduceEqDiff, Int.zero_add, Int.add_zero, p_ty0, p_ty1, p_ty2, p_ty3, p_ty4, p_ty5, p_ty8, p_ty9, p_ty10, t0, s1, s2, c_fwd, B_t, B_f, uA_uA, gd_t]
    · rw [hX1 (Or.inr h2)]
      clear hX1 hX2 hY1 hY2 hP
      simp (disch := omega) only [x_X1_play_193, x_X1_play_194, x_X1_play_196, x_X1_play_199, x_X1_play_201, x_X1_play_204, x_X1_play_205, x_X1_play_208, x_X1_play_209, x_X1_play_212, x_X1_play_213, x_X1_play_214, x_X1_play_217, x_X1_play_218, x_X1_play_220, x_X1_play_223, x_X1_play_224, x_X1_play_225, x_X1_play_226, x_X1_play_227, x_X1_play_230, x_X1_play_233, x_X1_play_234, x_X1_play_235, x_X1_play_238, x_X1_play_239, x_X1_play_240, x_X1_play_243, x_X1_play_246, x_X1_play_247, x_X1_play_250, x_X1_play_251, x_X1_play_254, x_X1_play_255, x_X1_play_256, x_X1_play_257, x_X1_play_260, x_X1_play_261, x_X1_play_264, x_X1_play_266, List.length_cons, List.length_nil, Nat.reduceLeDiff, Nat.zero_add, iI_add, iI_sub, iI_mul, iI_neg, iI_lt, iI_le, iI_eq, jI_iI, B_True, B_False, B_t, B_f, ck_True, gd_True, cb_v, cb_n, p_mv_rw, p_fv_rw, p_rv_some, pA_1, pA_90, pA_92, pA_3, pA_5, pA_93, pA_4, pA_91, pA_6, pS_i, pB_i, pW_i, pZ_0, pZ_1, pZ_b, bI_e0, u1_s, u1_n, uA_s, uA_n, true_and, and_true, not_true_eq_false, not_false_eq_true, eq_self, iI_z, al1, al5, al3, al4, al90, al91, al92, al93, al6, Int.cast_ofNat_Int, Nat.reduceAdd, Int.reduceNeg, Int.reduceAdd, Int.reduceSub, Int.reduceMul, Int.reduceLT, Int.reduceLE, Int.reduceGT, Int.reduceGE, Int.reduceEq, Int.reduceNe, Nat.reduceEqDiff, Int.zero_add, Int.add_zero, p_ty0, p_ty1, p_ty2, p_ty3, p_ty4, p_ty5, p_ty8, p_ty9, p_ty10, t0, s1, s2, c_fwd, B_t, B_f, uA_uA, gd_t]
theorem two_xy (h1 : 0 ≤ its ∧ its < 91) (hf : q_fwd t = 1 ∨ q_fwd t = -1) (z : q_pl to = q_pl its + 2 * q_fwd t) : gx its = gx to ∧ (gy to - gy its = 2 ∨ gy to - gy its = -2) := by
  have g1 := (gxy_rg h1).2
  unfold gx gy at *
  rw [z]
  rcases hf with h | h <;> rw [h] <;> clear h z <;> omega
theorem play_D {M3 : pM} (hqr : 0 ≤ q ∧ q ≤ 250) (hG : GT T F g) (hR : RB M (g + 1) bb) (ht : t = 0 ∨ t = 1) (s1 : M3 g 1 = t) (s2 : M3 g 2 = q) (hp : PS bb t pas) (hV : MV bb t pas its to) {e : Nat} (he : 1 ≤ e) {l3 l4 l6 l7 : Slot} {n : Int64} :
    R e m_X1_play 193 [.val (.ref g), .val (.int (iI (q_pl its))), .val (.int (iI (q_pl to))), l3, l4, .val (.int (iI (bI (bb its % 10 = 6)))), l6, l7, .val (.int (iI (cv (bb (mk_pl bb pas its to))))), .val (.long n), .second] [] T M3 F = some (.inl (some (.long n)), T, uA M3 g (u1 (u1 (u1 (M3 g) 2 (mk_q bb pas q its to)) 3 (q_pp (mk_ps bb its to))) 1 (1 - t)), F) := by
  have hb := hR.2.2.1
  obtain ⟨hg, t0, f0, hB, -⟩ := hG
  have h1 := hV.1
  have h2 := hV.2.1
  have h3 := hV.2.2.1
  have q1 := q_pl_nn h1
  have q2 := q_pl_nn h2
  obtain ⟨a1, a2, a3, a4⟩ := ah_fwd ht
  have hpi := hb (mk_pl bb pas its to)
  have hcv : cv (bb (mk_pl bb pas its to)) = 0 ↔ bb (mk_pl bb pas its to) = 0 := by unfold cv; split <;> omega
  obtain ⟨c21, -, -⟩ := cv_facts hb (mk_pl bb pas its to)
  refine play_D0 hg t0 ht s1 s2 hqr (by omega) (by omega) (by omega) (fun z => ?_) (fun z1 z2 => ?_) (fun z1 z2 => ?_) (fun z => ?_) he
  · unfold mk_q
    rw [if_pos]
    rcases z with z | z
    · exact Or.inl z
    · exact Or.inr (fun y => z (hcv.mpr y))
  · unfold mk_q
    rw [if_neg]
    rintro (y | y)
    · exact z1 y
    · exact y (hcv.mp z2)
  · have hxy := two_xy h1 a4 z2
    obtain ⟨m1, m2, m3, m4, m6⟩ := (mk_long hb ht hV z1).mp hxy
    have g1 := gn_pl h1 a2 m1
    have hst : m_st its (m_ah t) = gn its (m_ah t) := by unfold m_st; rw [if_neg (by omega)]
    unfold mk_ps
    rw [if_pos ⟨z1, hxy⟩, h3, hst]
    unfold q_pp
    rw [if_neg m1, g1.1, a1]
  · unfold mk_ps
    rw [if_neg]
    · rfl
    · rintro ⟨y1, y2⟩
      apply z
      refine ⟨y1, ?_⟩
      obtain ⟨m1, m2, m3, m4, m6⟩ := (mk_long hb ht hV y1).mp y2
      have g1 := gn_pl h1 a2 m1
      have g2 := gn_pl g1.2 a2 (by rw [← m4]; omega)
      rw [← m4] at g2
      rw [g2.1, g1.1, a1]
      omega
theorem c_play (hG : GT T F g) (hS : GS M g bb t pas q) (hq : q ≤ 190) (hV : MV bb t pas its to) (has : 2 ≤ as ∧ as ≤ 5) :
    ∃ M', (∀ d, 2 ≤ d → callD d m_X1_play [.ref g, .int (iI (q_pl its)), .int (iI (q_pl to)), .int (iI as)] T M F = some (.inl (some (.long (iL (q_pk bb pas q its to)))), T, M', F)) ∧
      GS M' g (mk_bb bb pas its to as) (1 - t) (mk_ps bb its to) (mk_q bb pas q its to) ∧ (∀ j, j ≠ 1 → j ≠ 2 → j ≠ 3 → M' g j = M g j) ∧ (∀ a, a ≠ g → a ≠ g + 1 → a ≠ g + 1 + 1 → M' a = M a) ∧
      M' (g + 1 + 1) = u1 (u1 (u1 (M (g + 1 + 1)) (q_pl (mk_pl bb pas its to)) 0) (q_pl its) 0) (q_pl to) (cv (mk_th bb its to as)) ∧ (∀ j, j ≠ 1 → j ≠ 2 → M' (g + 1) j = M (g + 1) j) := by
  have hS' := hS
  obtain ⟨hR, s1, s2, s3, ht, s5, hp⟩ := hS
  have hb := hR.2.2.1
  have hB := hG.2.2.2.1
  obtain ⟨z1, z2, z3⟩ := mk_pl_rg hb ht hp hV
  obtain ⟨M1, M2, M3, e1, e2, e3, R3, F3, V3, B3⟩ := c_set3 (T := T) (F := F) (as := as) hB hR ht hp hV has
  have g2 : M2 g = M g := (F3 g (by omega) (by omega)).2.1
  have g3 : M3 g = M g := (F3 g (by omega) (by omega)).2.2
  have n1 : uA M3 g (u1 (u1 (u1 (M3 g) 2 (mk_q bb pas q its to)) 3 (q_pp (mk_ps bb its to))) 1 (1 - t)) (g + 1) = M3 (g + 1) := uA_n (by omega)
  have n2 : uA M3 g (u1 (u1 (u1 (M3 g) 2 (mk_q bb pas q its to)) 3 (q_pp (mk_ps bb its to))) 1 (1 - t)) (g + 1 + 1) = M3 (g + 1 + 1) := uA_n (by omega)
  have n0 : uA M3 g (u1 (u1 (u1 (M3 g) 2 (mk_q bb pas q its to)) 3 (q_pp (mk_ps bb its to))) 1 (1 - t)) g = u1 (u1 (u1 (M3 g) 2 (mk_q bb pas q its to)) 3 (q_pp (mk_ps bb its to))) 1 (1 - t) := uA_s
  refine ⟨uA M3 g (u1 (u1 (u1 (M3 g) 2 (mk_q bb pas q its to)) 3 (q_pp (mk_ps bb its to))) 1 (1 - t)), fun d hd => ?_, ⟨?_, ?_, ?_, ?_, by omega, ?_, mk_PS hb ht hp hV⟩, fun j j1 j2 j3 => ?_, fun a a1 a2 a3 => ?_, ?_, fun j j1 j2 => ?_⟩
  · refine callD_go 1 hd rfl (fun e he => ?_)
    show R e m_X1_play 0 [.val (.ref g), .val (.int (iI (q_pl its))), .val (.int (iI (q_pl to))), .val (.int (iI as)), .unset, .unset, .unset, .unset, .unset, .unset, .unset] [] T M F = _
    rw [play_A hG hS' hV he, play_B hG hR s2 s3 (PS_rg hp) (by omega) hV.1 hV.2.1 z1 he, play_C hG s1 hb ht hV.2.2.1 has g2 e1 e2 e3 he, play_D (q := q) (by omega) hG hR ht (by rw [g3]; exact s1) (by rw [g3]; exact s2) hp hV he]
  · unfold RB; rw [n1, n2]; exact R3
  · rw [n0]; rfl
  · rw [n0]; rfl
  · rw [n0]; rfl
  · unfold mk_q; split <;> omega
  · rw [n0]; unfold u1; rw [if_neg j1, if_neg j3, if_neg j2, g3]
  · rw [uA_n a1]; exact (F3 a a2 a3).2.2
  · rw [n2, V3]
  · rw [n1]; exact B3 j j1 j2
end PPLC
