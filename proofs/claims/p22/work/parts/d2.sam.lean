section PSAM
variable {d k s b n D r c0 : Nat} {T T1 T2 : pT} {M M1 M2 : pM} {F F1 F2 : pF} {S S1 : GSx} {ea ea1 z z1 mv x c i j w : Int} {bs bs1 : Int → Int}
theorem KX.ty (h : KX k T M F T1 M1 F1) {a : Nat} (ha : a < T.1.1) : p_ty T1 a = p_ty T a := h.1.2.2 a ha
theorem KX.lt (h : KX k T M F T1 M1 F1) : T1.1.1 = T.1.1 := by rw [h.2.1]
theorem AR.ky {A : List Int} (h : AR T M r A) (hx : KY k T M F T1 M1 F1) (hr : r < T.1.1) (hk : 127 + k ≤ r) : AR T1 M1 r A := ⟨h.1, (hx.1.2.2 r hr).trans h.2.1, fun j hj => by rw [(hx.2 r hr (Or.inr hk)).1]; exact h.2.2 j hj⟩
/-- the counts are compared -/
theorem sa_1 {e : Nat} (he : 10 ≤ e) {l2 l3 l6 : Slot} (hc0 : 127 + k ≤ c0) : ∀ (n : Nat) (w : Int) (T : pT) (M : pM) (F : pF), LQ k s b T M F S mv → c0 < T.1.1 → p_ty T c0 = (1, 11) → (∀ i, 0 ≤ i → i ≤ 10 → M c0 i = z_cnt S 0 i) → 0 ≤ w → w + n = 11 → ∃ T1 M1 F1, R e m_X8_isSame 113 [.val (.ref s), .val (.ref (100 + k)), l2, l3, .val (.ref c0), .val (.int (iI w)), l6] [] T M F = R e m_X8_isSame 142 [.val (.ref s), .val (.ref (100 + k)), l2, l3, .val (.ref c0), .val (.int (iI 11)), l6] [] T1 M1 F1 ∧ LQ k s b T1 M1 F1 S mv ∧ KX k T M F T1 M1 F1
  | 0, w, T, M, F, hL, hc, ht, hm, h0, hw => by
    obtain rfl : w = 11 := by omega
    refine ⟨T, M, F, ?_, hL, .rf⟩
    simp (disch := omega) only [x_X8_isSame_113, x_X8_isSame_115, x_X8_isSame_117, List.length_cons, List.length_nil, Nat.reduceLeDiff, Nat.zero_add, iI_add, iI_sub, iI_mul, iI_neg, iI_lt, iI_le, iI_eq, jI_iI, B_True, B_False, B_t, B_f, ck_True, gd_True, cb_v, cb_n, p_mv_rw, p_fv_rw, p_rv_some, pA_1, pA_90, pA_92, pA_3, pA_5, pA_93, pA_4, pA_91, pA_6, pS_i, pB_i, pW_i, pZ_0, pZ_1, pZ_b, bI_e0, u1_s, u1_n, uA_s, uA_n, true_and, and_true, not_true_eq_false, not_false_eq_true, eq_self, iI_z, al1, al5, al3, al4, al90, al91, al92, al93, al6, Int.cast_ofNat_Int, Nat.reduceAdd, Int.reduceNeg, Int.reduceAdd, Int.reduceSub, Int.reduceMul, Int.reduceLT, Int.reduceLE, Int.reduceGT, Int.reduceGE, Int.reduceEq, Int.reduceNe, Nat.reduceEqDiff, Int.zero_add, Int.add_zero, p_ty0, p_ty1, p_ty2, p_ty3, p_ty4, p_ty5, p_ty8, p_ty9, p_ty10, B_t, B_f]
  | n + 1, w, T, M, F, hL, hc, ht, hm, h0, hw => by
    obtain ⟨T1, M1, F1, e1, L1, K1⟩ := q_count hL (i := w) (by omega) he
    have m1 := (K1.2.2 c0 hc (Or.inr hc0)).1
    obtain ⟨T2, M2, F2, e2, L2, K2⟩ := sa_1 he hc0 n (w + 1) T1 M1 F1 L1 (by rw [K1.lt]; exact hc) ((K1.ty hc).trans ht) (fun i i0 i1 => by rw [m1]; exact hm i i0 i1) (by omega) (by omega)
    refine ⟨T2, M2, F2, ?_, L2, K1.tr K2⟩
    rw [← e2]
    have hv := hm w h0 (by omega)
    rw [← m1] at hv
    have t1 := (K1.ty hc).trans ht
    have ty := hL.ty
    generalize z_cnt S 0 w = v at *
    rw [x_X8_isSame_113]
    simp (disch := omega) only [x_X8_isSame_115, x_X8_isSame_117, x_X8_isSame_120, x_X8_isSame_121, x_X8_isSame_123, x_X8_isSame_126, x_X8_isSame_128, x_X8_isSame_130, x_X8_isSame_131, x_X8_isSame_134, x_X8_isSame_135, x_X8_isSame_136, x_X8_isSame_139, List.length_cons, List.length_nil, Nat.reduceLeDiff, Nat.zero_add, iI_add, iI_sub, iI_mul, iI_neg, iI_lt, iI_le, iI_eq, jI_iI, B_True, B_False, B_t, B_f, ck_True, gd_True, cb_v, cb_n, p_mv_rw, p_fv_rw, p_rv_some, pA_1, pA_90, pA_92, pA_3, pA_5, pA_93, pA_4, pA_91, pA_6, pS_i, pB_i, pW_i, pZ_0, pZ_1, pZ_b, bI_e0, u1_s, u1_n, uA_s, uA_n, true_and, and_true, not_true_eq_false, not_false_eq_true, eq_self, iI_z, al1, al5, al3, al4, al90, al91, al92, al93, al6, Int.cast_ofNat_Int, Nat.reduceAdd, Int.reduceNeg, Int.reduceAdd, Int.reduceSub, Int.reduceMul, Int.reduceLT, Int.reduceLE, Int.reduceGT, Int.reduceGE, Int.reduceEq, Int.reduceNe, Nat.reduceEqDiff, Int.zero_add, Int.add_zero, p_ty0, p_ty1, p_ty2, p_ty3, p_ty4, p_ty5, p_ty8, p_ty9, p_ty10, e1, ty, t1, hv, gd_t, ck_t, B_t, B_f]
/-- the moves are compared -/
theorem sa_2 {e : Nat} (he : 10 ≤ e) {l2 l4 l6 : Slot} (hc0 : 127 + k ≤ r) (A : List Int) (hA : A = lgQ S.1 S.2.1 S.2.2.1 S.2.2.2.1) : ∀ (n : Nat) (w : Int) (T : pT) (M : pM) (F : pF), LQ k s b T M F S mv → r < T.1.1 → AR T M r A → 0 ≤ w → w + n = A.length → ∃ T1 M1 F1, R e m_X8_isSame 145 [.val (.ref s), .val (.ref (100 + k)), l2, .val (.ref r), l4, .val (.int (iI w)), l6] [] T M F = R e m_X8_isSame 173 [.val (.ref s), .val (.ref (100 + k)), l2, .val (.ref r), l4, .val (.int (iI A.length)), l6] [] T1 M1 F1 ∧ LQ k s b T1 M1 F1 S mv ∧ KX k T M F T1 M1 F1
  | 0, w, T, M, F, hL, hc, hR, h0, hw => by
    obtain rfl : w = A.length := by omega
    refine ⟨T, M, F, ?_, hL, .rf⟩
    have t0 := hR.2.1
    have hl : (A.length : Int) ≤ 840 := by rw [hA]; have := hL.sf.2.2.2.2.2.1; omega
    simp (disch := omega) only [x_X8_isSame_145, x_X8_isSame_147, x_X8_isSame_148, x_X8_isSame_149, List.length_cons, List.length_nil, Nat.reduceLeDiff, Nat.zero_add, iI_add, iI_sub, iI_mul, iI_neg, iI_lt, iI_le, iI_eq, jI_iI, B_True, B_False, B_t, B_f, ck_True, gd_True, cb_v, cb_n, p_mv_rw, p_fv_rw, p_rv_some, pA_1, pA_90, pA_92, pA_3, pA_5, pA_93, pA_4, pA_91, pA_6, pS_i, pB_i, pW_i, pZ_0, pZ_1, pZ_b, bI_e0, u1_s, u1_n, uA_s, uA_n, true_and, and_true, not_true_eq_false, not_false_eq_true, eq_self, iI_z, al1, al5, al3, al4, al90, al91, al92, al93, al6, Int.cast_ofNat_Int, Nat.reduceAdd, Int.reduceNeg, Int.reduceAdd, Int.reduceSub, Int.reduceMul, Int.reduceLT, Int.reduceLE, Int.reduceGT, Int.reduceGE, Int.reduceEq, Int.reduceNe, Nat.reduceEqDiff, Int.zero_add, Int.add_zero, p_ty0, p_ty1, p_ty2, p_ty3, p_ty4, p_ty5, p_ty8, p_ty9, p_ty10, t0, gd_t, ck_t, B_t, B_f]
  | n + 1, w, T, M, F, hL, hc, hR, h0, hw => by
    obtain ⟨T1, M1, F1, e1, L1, K1⟩ := q_nth hL (i := w) (by rw [← hA]; omega) he
    have hR1 := hR.ky K1.ky hc hc0
    obtain ⟨T2, M2, F2, e2, L2, K2⟩ := sa_2 he hc0 A hA n (w + 1) T1 M1 F1 L1 (by rw [K1.lt]; exact hc) hR1 (by omega) (by omega)
    refine ⟨T2, M2, F2, ?_, L2, K1.tr K2⟩
    rw [← e2]
    have hv := hR1.2.2 w.toNat (by omega)
    rw [Int.toNat_of_nonneg h0] at hv
    rw [← hA] at e1
    have t0 := hR.2.1
    have t1 := hR1.2.1
    have r1 := hR.1
    have ty := hL.ty
    have hl : (A.length : Int) ≤ 840 := by rw [hA]; have := hL.sf.2.2.2.2.2.1; omega
    clear hR hR1 e2 L2 K2
    generalize A.getD w.toNat 0 = v at *
    generalize A.length = ln at *
    obtain ⟨hv1, hv2⟩ := hv
    rw [x_X8_isSame_145]
    simp (disch := omega) only [x_X8_isSame_147, x_X8_isSame_148, x_X8_isSame_149, x_X8_isSame_152, x_X8_isSame_153, x_X8_isSame_155, x_X8_isSame_158, x_X8_isSame_159, x_X8_isSame_161, x_X8_isSame_162, x_X8_isSame_165, x_X8_isSame_166, x_X8_isSame_167, x_X8_isSame_170, List.length_cons, List.length_nil, Nat.reduceLeDiff, Nat.zero_add, iI_add, iI_sub, iI_mul, iI_neg, iI_lt, iI_le, iI_eq, jI_iI, B_True, B_False, B_t, B_f, ck_True, gd_True, cb_v, cb_n, p_mv_rw, p_fv_rw, p_rv_some, pA_1, pA_90, pA_92, pA_3, pA_5, pA_93, pA_4, pA_91, pA_6, pS_i, pB_i, pW_i, pZ_0, pZ_1, pZ_b, bI_e0, u1_s, u1_n, uA_s, uA_n, true_and, and_true, not_true_eq_false, not_false_eq_true, eq_self, iI_z, al1, al5, al3, al4, al90, al91, al92, al93, al6, Int.cast_ofNat_Int, Nat.reduceAdd, Int.reduceNeg, Int.reduceAdd, Int.reduceSub, Int.reduceMul, Int.reduceLT, Int.reduceLE, Int.reduceGT, Int.reduceGE, Int.reduceEq, Int.reduceNe, Nat.reduceEqDiff, Int.zero_add, Int.add_zero, p_ty0, p_ty1, p_ty2, p_ty3, p_ty4, p_ty5, p_ty8, p_ty9, p_ty10, e1, ty, t0, t1, hv1, gd_t, ck_t, B_t, B_f]
theorem LQ.sm (h : LQ k s b T M F S mv) : SB1 (M b) S.1 ∧ MB S.1 := h.2.2.1.1
theorem fac0 : z_fac S c 0 = S.1 c % 10 := rfl
theorem fac1 : z_fac S c 1 = m_side (S.1 c) := rfl
theorem fac4 : z_fac S c 4 = m_att S.1 c 0 := rfl
theorem fac5 : z_fac S c 5 = m_att S.1 c 1 := rfl
/-- the cells are compared -/
theorem sa_3 {e : Nat} (he : 10 ≤ e) {l2 l3 l4 : Slot} : ∀ (n : Nat) (w : Int) (l6 : Slot) (T : pT) (M : pM) (F : pF), LQ k s b T M F S mv → 0 ≤ w → w + n = 91 → ∃ T1 M1 F1 l6', R e m_X8_isSame 176 [.val (.ref s), .val (.ref (100 + k)), l2, l3, l4, .val (.int (iI w)), l6] [] T M F = R e m_X8_isSame 287 [.val (.ref s), .val (.ref (100 + k)), l2, l3, l4, .val (.int (iI 91)), l6'] [] T1 M1 F1 ∧ LQ k s b T1 M1 F1 S mv ∧ KX k T M F T1 M1 F1
  | 0, w, l6, T, M, F, hL, h0, hw => by
    obtain rfl : w = 91 := by omega
    refine ⟨T, M, F, l6, ?_, hL, .rf⟩
    simp (disch := omega) only [x_X8_isSame_176, x_X8_isSame_178, x_X8_isSame_180, List.length_cons, List.length_nil, Nat.reduceLeDiff, Nat.zero_add, iI_add, iI_sub, iI_mul, iI_neg, iI_lt, iI_le, iI_eq, jI_iI, B_True, B_False, B_t, B_f, ck_True, gd_True, cb_v, cb_n, p_mv_rw, p_fv_rw, p_rv_some, pA_1, pA_90, pA_92, pA_3, pA_5, pA_93, pA_4, pA_91, pA_6, pS_i, pB_i, pW_i, pZ_0, pZ_1, pZ_b, bI_e0, u1_s, u1_n, uA_s, uA_n, true_and, and_true, not_true_eq_false, not_false_eq_true, eq_self, iI_z, al1, al5, al3, al4, al90, al91, al92, al93, al6, Int.cast_ofNat_Int, Nat.reduceAdd, Int.reduceNeg, Int.reduceAdd, Int.reduceSub, Int.reduceMul, Int.reduceLT, Int.reduceLE, Int.reduceGT, Int.reduceGE, Int.reduceEq, Int.reduceNe, Nat.reduceEqDiff, Int.zero_add, Int.add_zero, p_ty0, p_ty1, p_ty2, p_ty3, p_ty4, p_ty5, p_ty8, p_ty9, p_ty10, gd_t, ck_t, B_t, B_f]
  | n + 1, w, l6, T, M, F, hL, h0, hw => by
    have hc : 0 ≤ w ∧ w < 91 := by omega
    obtain ⟨T1, M1, F1, e1, L1, K1⟩ := q_cell hL hc (i := 0) (by omega) he
    obtain ⟨T2, M2, F2, e2, L2, K2⟩ := q_cell L1 hc (i := 1) (by omega) he
    obtain ⟨T3, M3, F3, e3, L3, K3⟩ := q_cell L2 hc (i := 4) (by omega) he
    obtain ⟨T4, M4, F4, e4, L4, K4⟩ := q_cell L3 hc (i := 5) (by omega) he
    rw [fac0] at e1
    rw [fac1] at e2
    rw [fac4] at e3
    rw [fac5] at e4
    have a3 := z_attackers (d := e) (T := T3) (M := M3) (F := F3) L3.2.1 L3.sm hc (side := 0) (Or.inl rfl) (by omega)
    have a4 := z_attackers (d := e) (T := T4) (M := M4) (F := F4) L4.2.1 L4.sm hc (side := 1) (Or.inr rfl) (by omega)
    have pl0 := fun T M F => z_placeOf (d := e) (T := T) (M := M) (F := F) hc (by omega)
    have kp := (c1_pl1 hc).2.1
    have vk := hL.sm.1.at hc
    have sk := sv_f hL.sm.2 w
    have ek : ab (sv (S.1 w)) = S.1 w % 10 := sk.2.2.2.2
    have ab1 := z_abs (d := e) (T := T1) (M := M1) (F := F1) (n := sv (S.1 w)) (by omega) (by omega)
    rw [ek] at ab1
    have i0 := hL.2.1.1
    have i1 := hL.2.1.2.1
    have i2 := hL.2.1.2.2.1
    have i3 := hL.2.1.2.2.2.1
    have i4 := hL.2.1.2.2.2.2.1
    have j3 := L3.2.1.2.1
    have j4 := L4.2.1.2.1
    have ty := hL.ty
    have ty1 := L1.ty
    have ty2 := L2.ty
    have ty3 := L3.ty
    have ra := m_att_rg S.1 w 0
    have rb := m_att_rg S.1 w 1
    have hs : sv (S.1 w) = 0 ∧ m_side (S.1 w) = -1 ∨ 0 < sv (S.1 w) ∧ m_side (S.1 w) = 0 ∨ sv (S.1 w) < 0 ∧ m_side (S.1 w) = 1 := by
      have h1 := sk.2.2.1
      have h2 := sk.2.2.2.1
      rcases Int.lt_trichotomy (sv (S.1 w)) 0 with z | z | z
      · exact Or.inr (Or.inr ⟨z, h2.mp z⟩)
      · refine Or.inl ⟨z, ?_⟩
        unfold m_side
        rw [if_pos (sk.1.mp z)]
      · exact Or.inr (Or.inl ⟨z, h1.mp z⟩)
    have hp : 0 ≤ S.1 w % 10 ∧ S.1 w % 10 < 10 := by omega
    obtain ⟨T5, M5, F5, l6', e5, L5, K5⟩ := sa_3 he (l2 := l2) (l3 := l3) (l4 := l4) n (w + 1) (.val (.int (iI (sv (S.1 w))))) T4 M4 F4 L4 (by omega) (by omega)
    refine ⟨T5, M5, F5, l6', ?_, L5, (K1.tr K2).tr ((K3.tr K4).tr K5)⟩
    rw [← e5]
    clear e5 L1 L2 L3 L4 L5 K1 K2 K3 K4 K5 hL ek
    have sr := sk.2.1
    clear sk
    generalize pl1 w = p at *
    generalize m_att S.1 w 0 = u0 at *
    generalize m_att S.1 w 1 = u1' at *
    generalize S.1 w % 10 = u2 at *
    generalize m_side (S.1 w) = u3 at *
    generalize sv (S.1 w) = u4 at *
    rw [x_X8_isSame_176]
    rcases hs with ⟨h1, rfl⟩ | ⟨h1, rfl⟩ | ⟨h1, rfl⟩
    · simp (disch := omega) only [x_X8_isSame_178, x_X8_isSame_180, x_X8_isSame_183, x_X8_isSame_184, x_X8_isSame_187, x_X8_isSame_189, x_X8_isSame_192, x_X8_isSame_193, x_X8_isSame_195, x_X8_isSame_196, x_X8_isSame_198, x_X8_isSame_199, x_X8_isSame_202, x_X8_isSame_204, x_X8_isSame_207, x_X8_isSame_210, x_X8_isSame_211, x_X8_isSame_213, x_X8_isSame_214, x_X8_isSame_217, x_X8_isSame_219, x_X8_isSame_222, x_X8_isSame_223, x_X8_isSame_226, x_X8_isSame_228, x_X8_isSame_231, x_X8_isSame_232, x_X8_isSame_235, x_X8_isSame_236, x_X8_isSame_239, x_X8_isSame_240, x_X8_isSame_242, x_X8_isSame_243, x_X8_isSame_246, x_X8_isSame_247, x_X8_isSame_249, x_X8_isSame_252, x_X8_isSame_253, x_X8_isSame_256, x_X8_isSame_259, x_X8_isSame_260, x_X8_isSame_262, x_X8_isSame_263, x_X8_isSame_266, x_X8_isSame_267, x_X8_isSame_269, x_X8_isSame_272, x_X8_isSame_273, x_X8_isSame_276, x_X8_isSame_279, x_X8_isSame_280, x_X8_isSame_281, x_X8_isSame_284, List.length_cons, List.length_nil, Nat.reduceLeDiff, Nat.zero_add, iI_add, iI_sub, iI_mul, iI_neg, iI_lt, iI_le, iI_eq, jI_iI, B_True, B_False, B_t, B_f, ck_True, gd_True, cb_v, cb_n, p_mv_rw, p_fv_rw, p_rv_some, pA_1, pA_90, pA_92, pA_3, pA_5, pA_93, pA_4, pA_91, pA_6, pS_i, pB_i, pW_i, pZ_0, pZ_1, pZ_b, bI_e0, u1_s, u1_n, uA_s, uA_n, true_and, and_true, not_true_eq_false, not_false_eq_true, eq_self, iI_z, al1, al5, al3, al4, al90, al91, al92, al93, al6, Int.cast_ofNat_Int, Nat.reduceAdd, Int.reduceNeg, Int.reduceAdd, Int.reduceSub, Int.reduceMul, Int.reduceLT, Int.reduceLE, Int.reduceGT, Int.reduceGE, Int.reduceEq, Int.reduceNe, Nat.reduceEqDiff, Int.zero_add, Int.add_zero, p_ty0, p_ty1, p_ty2, p_ty3, p_ty4, p_ty5, p_ty8, p_ty9, p_ty10, e1, e2, e3, e4, a3, a4, pl0, vk, ab1, i0, i1, i2, i3, i4, j3, j4, ty, ty1, ty2, ty3, gd_t, ck_t, B_t, B_f]
    · simp (disch := omega) only [x_X8_isSame_178, x_X8_isSame_180, x_X8_isSame_183, x_X8_isSame_184, x_X8_isSame_187, x_X8_isSame_189, x_X8_isSame_192, x_X8_isSame_193, x_X8_isSame_195, x_X8_isSame_196, x_X8_isSame_198, x_X8_isSame_199, x_X8_isSame_202, x_X8_isSame_204, x_X8_isSame_207, x_X8_isSame_210, x_X8_isSame_211, x_X8_isSame_213, x_X8_isSame_214, x_X8_isSame_217, x_X8_isSame_219, x_X8_isSame_222, x_X8_isSame_223, x_X8_isSame_226, x_X8_isSame_228, x_X8_isSame_231, x_X8_isSame_232, x_X8_isSame_235, x_X8_isSame_236, x_X8_isSame_239, x_X8_isSame_240, x_X8_isSame_242, x_X8_isSame_243, x_X8_isSame_246, x_X8_isSame_247, x_X8_isSame_249, x_X8_isSame_252, x_X8_isSame_253, x_X8_isSame_256, x_X8_isSame_259, x_X8_isSame_260, x_X8_isSame_262, x_X8_isSame_263, x_X8_isSame_266, x_X8_isSame_267, x_X8_isSame_269, x_X8_isSame_272, x_X8_isSame_273, x_X8_isSame_276, x_X8_isSame_279, x_X8_isSame_280, x_X8_isSame_281, x_X8_isSame_284, List.length_cons, List.length_nil, Nat.reduceLeDiff, Nat.zero_add, iI_add, iI_sub, iI_mul, iI_neg, iI_lt, iI_le, iI_eq, jI_iI, B_True, B_False, B_t, B_f, ck_True, gd_True, cb_v, cb_n, p_mv_rw, p_fv_rw, p_rv_some, pA_1, pA_90, pA_92, pA_3, pA_5, pA_93, pA_4, pA_91, pA_6, pS_i, pB_i, pW_i, pZ_0, pZ_1, pZ_b, bI_e0, u1_s, u1_n, uA_s, uA_n, true_and, and_true, not_true_eq_false, not_false_eq_true, eq_self, iI_z, al1, al5, al3, al4, al90, al91, al92, al93, al6, Int.cast_ofNat_Int, Nat.reduceAdd, Int.reduceNeg, Int.reduceAdd, Int.reduceSub, Int.reduceMul, Int.reduceLT, Int.reduceLE, Int.reduceGT, Int.reduceGE, Int.reduceEq, Int.reduceNe, Nat.reduceEqDiff, Int.zero_add, Int.add_zero, p_ty0, p_ty1, p_ty2, p_ty3, p_ty4, p_ty5, p_ty8, p_ty9, p_ty10, e1, e2, e3, e4, a3, a4, pl0, vk, ab1, i0, i1, i2, i3, i4, j3, j4, ty, ty1, ty2, ty3, gd_t, ck_t, B_t, B_f]
    · simp (disch := omega) only [x_X8_isSame_178, x_X8_isSame_180, x_X8_isSame_183, x_X8_isSame_184, x_X8_isSame_187, x_X8_isSame_189, x_X8_isSame_192, x_X8_isSame_193, x_X8_isSame_195, x_X8_isSame_196, x_X8_isSame_198, x_X8_isSame_199, x_X8_isSame_202, x_X8_isSame_204, x_X8_isSame_207, x_X8_isSame_210, x_X8_isSame_211, x_X8_isSame_213, x_X8_isSame_214, x_X8_isSame_217, x_X8_isSame_219, x_X8_isSame_222, x_X8_isSame_223, x_X8_isSame_226, x_X8_isSame_228, x_X8_isSame_231, x_X8_isSame_232, x_X8_isSame_235, x_X8_isSame_236, x_X8_isSame_239, x_X8_isSame_240, x_X8_isSame_242, x_X8_isSame_243, x_X8_isSame_246, x_X8_isSame_247, x_X8_isSame_249, x_X8_isSame_252, x_X8_isSame_253, x_X8_isSame_256, x_X8_isSame_259, x_X8_isSame_260, x_X8_isSame_262, x_X8_isSame_263, x_X8_isSame_266, x_X8_isSame_267, x_X8_isSame_269, x_X8_isSame_272, x_X8_isSame_273, x_X8_isSame_276, x_X8_isSame_279, x_X8_isSame_280, x_X8_isSame_281, x_X8_isSame_284, List.length_cons, List.length_nil, Nat.reduceLeDiff, Nat.zero_add, iI_add, iI_sub, iI_mul, iI_neg, iI_lt, iI_le, iI_eq, jI_iI, B_True, B_False, B_t, B_f, ck_True, gd_True, cb_v, cb_n, p_mv_rw, p_fv_rw, p_rv_some, pA_1, pA_90, pA_92, pA_3, pA_5, pA_93, pA_4, pA_91, pA_6, pS_i, pB_i, pW_i, pZ_0, pZ_1, pZ_b, bI_e0, u1_s, u1_n, uA_s, uA_n, true_and, and_true, not_true_eq_false, not_false_eq_true, eq_self, iI_z, al1, al5, al3, al4, al90, al91, al92, al93, al6, Int.cast_ofNat_Int, Nat.reduceAdd, Int.reduceNeg, Int.reduceAdd, Int.reduceSub, Int.reduceMul, Int.reduceLT, Int.reduceLE, Int.reduceGT, Int.reduceGE, Int.reduceEq, Int.reduceNe, Nat.reduceEqDiff, Int.zero_add, Int.add_zero, p_ty0, p_ty1, p_ty2, p_ty3, p_ty4, p_ty5, p_ty8, p_ty9, p_ty10, e1, e2, e3, e4, a3, a4, pl0, vk, ab1, i0, i1, i2, i3, i4, j3, j4, ty, ty1, ty2, ty3, gd_t, ck_t, B_t, B_f]
end PSAM
