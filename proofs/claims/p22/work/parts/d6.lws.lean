section PLWS
variable {d k s b n D r e : Nat} {T T1 T2 : pT} {M M1 M2 : pM} {F F1 F2 : pF} {S S1 : GSx} {ea z mv c i j w a : Int} {bs : Int → Int}
theorem w_count (h : LW k T M F S ea bs 0) (hi : 0 ≤ i ∧ i ≤ 10) (hd : 10 ≤ d) : ∃ T1 M1 F1, callD d m_X7_count [.ref (100 + k), .int (iI i)] T M F = some (.inl (some (.int (iI (z_cnt S 0 i)))), T1, M1, F1) ∧ LW k T1 M1 F1 S ea bs 0 ∧ KX k T M F T1 M1 F1 := by
  exact h.ret (v := [.int (iI i)]) (fun T0 M0 F0 hC => (x_count hC).1 hi) rfl rfl hd
theorem w_cell (h : LW k T M F S ea bs 0) (hc : 0 ≤ c ∧ c < 91) (hi : 0 ≤ i ∧ i ≤ 5) (hd : 10 ≤ d) : ∃ T1 M1 F1, callD d m_X7_cell [.ref (100 + k), .int (iI c), .int (iI i)] T M F = some (.inl (some (.int (iI (z_fac S c i)))), T1, M1, F1) ∧ LW k T1 M1 F1 S ea bs 0 ∧ KX k T M F T1 M1 F1 := by
  exact h.ret (v := [.int (iI c), .int (iI i)]) (fun T0 M0 F0 hC => (x_cell hC).1 hc hi) rfl rfl hd
theorem w_nth (h : LW k T M F S ea bs 0) (hi : 0 ≤ i ∧ i < ((lgQ S.1 S.2.1 S.2.2.1 S.2.2.2.1).length : Int)) (hd : 10 ≤ d) : ∃ T1 M1 F1, callD d m_X7_nth [.ref (100 + k), .int (iI i)] T M F = some (.inl (some (.int (iI ((lgQ S.1 S.2.1 S.2.2.1 S.2.2.2.1).getD i.toNat 0)))), T1, M1, F1) ∧ LW k T1 M1 F1 S ea bs 0 ∧ KX k T M F T1 M1 F1 := by
  have hl := h.sf.2.2.2.2.2.1
  exact h.ret (v := [.int (iI i)]) (fun T0 M0 F0 hC => (x_nth hC (by omega)).1 hi) rfl rfl hd
theorem w_legal (h : LW k T M F S ea bs 0) (ha : 0 ≤ a ∧ a < 91) (hc : 0 ≤ c ∧ c < 91) (hd : 10 ≤ d) : ∃ T1 M1 F1, callD d m_X7_legal [.ref (100 + k), .int (iI a), .int (iI c)] T M F = some (.inl (some (.int (iI (bI (91 * a + c ∈ lgQ S.1 S.2.1 S.2.2.1 S.2.2.2.1))))), T1, M1, F1) ∧ LW k T1 M1 F1 S ea bs 0 ∧ KX k T M F T1 M1 F1 := by
  exact h.ret (v := [.int (iI a), .int (iI c)]) (fun T0 M0 F0 hC => (x_legal hC (by omega) (by omega)).1 ha hc) rfl rfl hd
theorem w_hanging (h : LW k T M F S ea bs 0) (hi : i = 0 ∨ i = 1) (hd : 10 ≤ d) : ∃ T1 M1 F1, callD d m_X7_hanging [.ref (100 + k), .int (iI i)] T M F = some (.inl (some (.int (iI (hgd S.1 i 91 0 (-1) 0)))), T1, M1, F1) ∧ LW k T1 M1 F1 S ea bs 0 ∧ KX k T M F T1 M1 F1 := by
  exact h.ret (v := [.int (iI i)]) (fun T0 M0 F0 hC => (x_hanging hC (by omega)).1 hi) rfl rfl hd
theorem w_digest (h : LW k T M F S ea bs 0)  (hd : 10 ≤ d) : ∃ T1 M1 F1, callD d m_X7_digest [.ref (100 + k)] T M F = some (.inl (some (.long (z_dig S 0))), T1, M1, F1) ∧ LW k T1 M1 F1 S ea bs 0 ∧ KX k T M F T1 M1 F1 := by
  exact h.ret (v := []) (fun T0 M0 F0 hC => x_digest hC) rfl rfl hd
theorem w_move (h : LW k T M F S ea bs 0) (hH : S.2.2.2.2.length < 620) (ha : 0 ≤ a ∧ a < 91) (hc : 0 ≤ c ∧ c < 91) (hi : 2 ≤ i ∧ i ≤ 5) (hL : 91 * a + c ∈ lgQ S.1 S.2.1 S.2.2.1 S.2.2.2.1) (hd : 10 ≤ d) : ∃ T1 M1 F1, callD d m_X7_move [.ref (100 + k), .int (iI a), .int (iI c), .int (iI i)] T M F = some (.inl (some (.int (iI (S.1 (mk_pl S.1 S.2.2.1 a c) % 10)))), T1, M1, F1) ∧ LW k T1 M1 F1 (z_mv S a c i) ea bs 0 ∧ KX k T M F T1 M1 F1 := by
  exact h.ret (v := [.int (iI a), .int (iI c), .int (iI i)]) (fun T0 M0 F0 hC => (x_move hC hH (by omega) (by omega) (by omega)).1 ha hc hi hL) rfl rfl hd
theorem w_back (h : LW k T M F (z_mv S a c i) ea bs 0) (hH : S.2.2.2.2.length < 600) (hd : 10 ≤ d) : ∃ T1 M1 F1, callD d m_X7_back [.ref (100 + k)] T M F = some (.inl (some (.int (iI (S.2.2.2.2.length : Int)))), T1, M1, F1) ∧ LW k T1 M1 F1 S ea bs 0 ∧ KX k T M F T1 M1 F1 := by
  exact h.ret (v := []) (fun T0 M0 F0 hC => (x_back hC (by show ((_ :: S.2.2.2.2 : List HE).length) < 620; rw [List.length_cons]; omega)).1 _ _ _ _ _ _ _ _ rfl) rfl rfl hd
theorem fac2 : z_fac S c 2 = (gx c - gy c + 30) % 3 := rfl
theorem fac3 : z_fac S c 3 = cntF c (lgQ S.1 S.2.1 S.2.2.1 S.2.2.2.1) := rfl
theorem LW.sv (h : LW k T M F S ea bs z) (c : Int) : (S.1 c % 10 = 0 ∧ S.1 c = 0 ∧ m_side (S.1 c) = -1 ∨ (1 ≤ S.1 c % 10 ∧ S.1 c % 10 ≤ 6) ∧ S.1 c ≠ 0 ∧ (m_side (S.1 c) = 0 ∨ m_side (S.1 c) = 1)) ∧ (S.1 c % 10 = 1 ∧ m_side (S.1 c) = S.2.1 ↔ S.1 c = 10 * S.2.1 + 1) := by
  have h1 := h.sf.1.1 c
  have h2 := h.sf.2.1
  unfold m_side
  constructor
  · split <;> omega
  · split <;> omega
/-- a cell is looked at: piece, side, colour -/
theorem lb_1 {l0 l1 l2 l4 l5 l6 l7 l8 l9 l10 l12 l13 l14 l15 l16 l17 l18 l19 l20 l21 l22 l23 l24 : Slot} (he : 10 ≤ e) (h : LW k T M F S ea bs 0) (hc : 0 ≤ w ∧ w < 91) : ∃ T1 M1 F1, R e m_L_law 98 [l0, l1, l2, .val (.ref (100 + k)), l4, l5, l6, l7, l8, l9, l10, .val (.int (iI (w))), l12, l13, l14, l15, l16, l17, l18, l19, l20, l21, l22, l23, l24] [] T M F = R e m_L_law 154 [l0, l1, l2, .val (.ref (100 + k)), l4, l5, l6, l7, l8, l9, l10, .val (.int (iI (w))), l12, l13, l14, l15, l16, l17, l18, l19, l20, l21, l22, l23, l24] [] T1 M1 F1 ∧ LW k T1 M1 F1 S ea bs 0 ∧ KX k T M F T1 M1 F1 := by
  obtain ⟨T1, M1, F1, e1, L1, K1⟩ := w_cell h hc (i := 0) (by omega) he
  obtain ⟨T2, M2, F2, e2, L2, K2⟩ := w_cell L1 hc (i := 1) (by omega) he
  obtain ⟨T3, M3, F3, e3, L3, K3⟩ := w_cell L2 hc (i := 2) (by omega) he
  obtain ⟨T4, M4, F4, e4, L4, K4⟩ := w_cell L3 hc (i := 2) (by omega) he
  refine ⟨T4, M4, F4, ?_, L4, (K1.tr K2).tr (K3.tr K4)⟩
  have ty := h.ty
  have ty1 := L1.ty
  have ty2 := L2.ty
  have ty3 := L3.ty
  have hs := (h.sv w).1
  rw [fac0] at e1
  rw [fac1] at e2
  rw [fac2] at e3 e4
  have hr : 0 ≤ (gx w - gy w + 30) % 3 ∧ (gx w - gy w + 30) % 3 ≤ 2 := by omega
  clear L1 L2 L3 L4 K1 K2 K3 K4 h
  generalize (gx w - gy w + 30) % 3 = u2 at *
  generalize S.1 w % 10 = u0 at *
  generalize m_side (S.1 w) = u1' at *
  rcases hs with ⟨h0, -, h1⟩ | ⟨h0, -, h1⟩
  · subst h0 h1
    simp (disch := omega) only [x_L_law_98, x_L_law_99, x_L_law_101, x_L_law_102, x_L_law_105, x_L_law_108, x_L_law_109, x_L_law_112, x_L_law_113, x_L_law_114, x_L_law_116, x_L_law_117, x_L_law_120, x_L_law_123, x_L_law_124, x_L_law_127, x_L_law_128, x_L_law_131, x_L_law_132, x_L_law_134, x_L_law_135, x_L_law_138, x_L_law_141, x_L_law_142, x_L_law_144, x_L_law_145, x_L_law_148, x_L_law_149, x_L_law_152, x_L_law_153, List.length_cons, List.length_nil, Nat.reduceLeDiff, Nat.zero_add, iI_add, iI_sub, iI_mul, iI_neg, iI_lt, iI_le, iI_eq, jI_iI, B_True, B_False, B_t, B_f, ck_True, gd_True, cb_v, cb_n, p_mv_rw, p_fv_rw, p_rv_some, pA_1, pA_90, pA_92, pA_3, pA_5, pA_93, pA_4, pA_91, pA_6, pS_i, pB_i, pW_i, pZ_0, pZ_1, pZ_b, bI_e0, u1_s, u1_n, uA_s, uA_n, true_and, and_true, not_true_eq_false, not_false_eq_true, eq_self, iI_z, al1, al5, al3, al4, al90, al91, al92, al93, al6, Int.cast_ofNat_Int, Nat.reduceAdd, Int.reduceNeg, Int.reduceAdd, Int.reduceSub, Int.reduceMul, Int.reduceLT, Int.reduceLE, Int.reduceGT, Int.reduceGE, Int.reduceEq, Int.reduceNe, Nat.reduceEqDiff, Int.zero_add, Int.add_zero, p_ty0, p_ty1, p_ty2, p_ty3, p_ty4, p_ty5, p_ty8, p_ty9, p_ty10, e1, e2, e3, e4, ty, ty1, ty2, ty3, gd_t, ck_t, B_t, B_f]
  · simp (disch := omega) only [x_L_law_98, x_L_law_99, x_L_law_101, x_L_law_102, x_L_law_105, x_L_law_108, x_L_law_109, x_L_law_112, x_L_law_113, x_L_law_114, x_L_law_116, x_L_law_117, x_L_law_120, x_L_law_123, x_L_law_124, x_L_law_127, x_L_law_128, x_L_law_131, x_L_law_132, x_L_law_134, x_L_law_135, x_L_law_138, x_L_law_141, x_L_law_142, x_L_law_144, x_L_law_145, x_L_law_148, x_L_law_149, x_L_law_152, x_L_law_153, List.length_cons, List.length_nil, Nat.reduceLeDiff, Nat.zero_add, iI_add, iI_sub, iI_mul, iI_neg, iI_lt, iI_le, iI_eq, jI_iI, B_True, B_False, B_t, B_f, ck_True, gd_True, cb_v, cb_n, p_mv_rw, p_fv_rw, p_rv_some, pA_1, pA_90, pA_92, pA_3, pA_5, pA_93, pA_4, pA_91, pA_6, pS_i, pB_i, pW_i, pZ_0, pZ_1, pZ_b, bI_e0, u1_s, u1_n, uA_s, uA_n, true_and, and_true, not_true_eq_false, not_false_eq_true, eq_self, iI_z, al1, al5, al3, al4, al90, al91, al92, al93, al6, Int.cast_ofNat_Int, Nat.reduceAdd, Int.reduceNeg, Int.reduceAdd, Int.reduceSub, Int.reduceMul, Int.reduceLT, Int.reduceLE, Int.reduceGT, Int.reduceGE, Int.reduceEq, Int.reduceNe, Nat.reduceEqDiff, Int.zero_add, Int.add_zero, p_ty0, p_ty1, p_ty2, p_ty3, p_ty4, p_ty5, p_ty8, p_ty9, p_ty10, e1, e2, e3, e4, ty, ty1, ty2, ty3, gd_t, ck_t, B_t, B_f]
theorem lb_2 {l0 l1 l2 l4 l5 l6 l8 l9 l12 l13 l14 l15 l16 l17 l18 l19 l20 l21 l22 l23 l24 : Slot} (he : 10 ≤ e) (h : LW k T M F S ea bs 0) (hc : 0 ≤ w ∧ w < 91) (hw : w = n) : ∃ T1 M1 F1, R e m_L_law 154 [l0, l1, l2, .val (.ref (100 + k)), l4, l5, l6, .val (.int (iI (S.2.1))), l8, l9, .val (.int (iI (kl S.1 S.2.1 n))), .val (.int (iI (w))), l12, l13, l14, l15, l16, l17, l18, l19, l20, l21, l22, l23, l24] [] T M F = R e m_L_law 181 [l0, l1, l2, .val (.ref (100 + k)), l4, l5, l6, .val (.int (iI (S.2.1))), l8, l9, .val (.int (iI (kl S.1 S.2.1 (n + 1)))), .val (.int (iI (w))), l12, l13, l14, l15, l16, l17, l18, l19, l20, l21, l22, l23, l24] [] T1 M1 F1 ∧ LW k T1 M1 F1 S ea bs 0 ∧ KX k T M F T1 M1 F1 := by
  obtain ⟨T1, M1, F1, e1, L1, K1⟩ := w_cell h hc (i := 0) (by omega) he
  obtain ⟨T2, M2, F2, e2, L2, K2⟩ := w_cell L1 hc (i := 1) (by omega) he
  have ty := h.ty
  have ty1 := L1.ty
  have hs := h.sv w
  have ht := h.sf.2.1
  rw [fac0] at e1
  rw [fac1] at e2
  rw [kl]
  rw [hw] at hs
  rw [← hw] at hs ⊢
  have hk := kl_sp (bb := S.1) (t := S.2.1) n
  have hkr : -1 ≤ kl S.1 S.2.1 n ∧ kl S.1 S.2.1 n < 91 := by rcases hk with ⟨h1, -⟩ | ⟨h1, -⟩ <;> omega
  clear hk
  by_cases c1 : S.1 w % 10 = 1
  · by_cases c2 : m_side (S.1 w) = S.2.1
    · rw [if_pos (hs.2.mp ⟨c1, c2⟩)]
      refine ⟨T2, M2, F2, ?_, L2, K1.tr K2⟩
      clear L1 L2 K1 K2 h hs
      generalize S.2.1 = t at *
      generalize kl S.1 t n = z at *
      generalize S.1 w % 10 = u0 at *
      generalize m_side (S.1 w) = u1' at *
      simp (disch := omega) only [x_L_law_154, x_L_law_155, x_L_law_157, x_L_law_158, x_L_law_161, x_L_law_162, x_L_law_165, x_L_law_166, x_L_law_168, x_L_law_169, x_L_law_172, x_L_law_174, x_L_law_177, x_L_law_179, List.length_cons, List.length_nil, Nat.reduceLeDiff, Nat.zero_add, iI_add, iI_sub, iI_mul, iI_neg, iI_lt, iI_le, iI_eq, jI_iI, B_True, B_False, B_t, B_f, ck_True, gd_True, cb_v, cb_n, p_mv_rw, p_fv_rw, p_rv_some, pA_1, pA_90, pA_92, pA_3, pA_5, pA_93, pA_4, pA_91, pA_6, pS_i, pB_i, pW_i, pZ_0, pZ_1, pZ_b, bI_e0, u1_s, u1_n, uA_s, uA_n, true_and, and_true, not_true_eq_false, not_false_eq_true, eq_self, iI_z, al1, al5, al3, al4, al90, al91, al92, al93, al6, Int.cast_ofNat_Int, Nat.reduceAdd, Int.reduceNeg, Int.reduceAdd, Int.reduceSub, Int.reduceMul, Int.reduceLT, Int.reduceLE, Int.reduceGT, Int.reduceGE, Int.reduceEq, Int.reduceNe, Nat.reduceEqDiff, Int.zero_add, Int.add_zero, p_ty0, p_ty1, p_ty2, p_ty3, p_ty4, p_ty5, p_ty8, p_ty9, p_ty10, e1, e2, ty, ty1, gd_t, ck_t, B_t, B_f]
    · rw [if_neg (fun z => c2 (hs.2.mpr z).2)]
      refine ⟨T2, M2, F2, ?_, L2, K1.tr K2⟩
      have hs := hs.1
      clear L1 L2 K1 K2 h
      generalize S.2.1 = t at *
      generalize kl S.1 t n = z at *
      generalize S.1 w % 10 = u0 at *
      generalize m_side (S.1 w) = u1' at *
      simp (disch := omega) only [x_L_law_154, x_L_law_155, x_L_law_157, x_L_law_158, x_L_law_161, x_L_law_162, x_L_law_165, x_L_law_166, x_L_law_168, x_L_law_169, x_L_law_172, x_L_law_174, x_L_law_177, x_L_law_179, List.length_cons, List.length_nil, Nat.reduceLeDiff, Nat.zero_add, iI_add, iI_sub, iI_mul, iI_neg, iI_lt, iI_le, iI_eq, jI_iI, B_True, B_False, B_t, B_f, ck_True, gd_True, cb_v, cb_n, p_mv_rw, p_fv_rw, p_rv_some, pA_1, pA_90, pA_92, pA_3, pA_5, pA_93, pA_4, pA_91, pA_6, pS_i, pB_i, pW_i, pZ_0, pZ_1, pZ_b, bI_e0, u1_s, u1_n, uA_s, uA_n, true_and, and_true, not_true_eq_false, not_false_eq_true, eq_self, iI_z, al1, al5, al3, al4, al90, al91, al92, al93, al6, Int.cast_ofNat_Int, Nat.reduceAdd, Int.reduceNeg, Int.reduceAdd, Int.reduceSub, Int.reduceMul, Int.reduceLT, Int.reduceLE, Int.reduceGT, Int.reduceGE, Int.reduceEq, Int.reduceNe, Nat.reduceEqDiff, Int.zero_add, Int.add_zero, p_ty0, p_ty1, p_ty2, p_ty3, p_ty4, p_ty5, p_ty8, p_ty9, p_ty10, e1, e2, ty, ty1, gd_t, ck_t, B_t, B_f]
  · rw [if_neg (fun z => c1 (hs.2.mpr z).1)]
    refine ⟨T1, M1, F1, ?_, L1, K1⟩
    have hs := hs.1
    clear L1 L2 K1 K2 h e2
    generalize S.2.1 = t at *
    generalize kl S.1 t n = z at *
    generalize S.1 w % 10 = u0 at *
    simp (disch := omega) only [x_L_law_154, x_L_law_155, x_L_law_157, x_L_law_158, x_L_law_161, x_L_law_162, x_L_law_165, x_L_law_166, x_L_law_168, x_L_law_169, x_L_law_172, x_L_law_174, x_L_law_177, x_L_law_179, List.length_cons, List.length_nil, Nat.reduceLeDiff, Nat.zero_add, iI_add, iI_sub, iI_mul, iI_neg, iI_lt, iI_le, iI_eq, jI_iI, B_True, B_False, B_t, B_f, ck_True, gd_True, cb_v, cb_n, p_mv_rw, p_fv_rw, p_rv_some, pA_1, pA_90, pA_92, pA_3, pA_5, pA_93, pA_4, pA_91, pA_6, pS_i, pB_i, pW_i, pZ_0, pZ_1, pZ_b, bI_e0, u1_s, u1_n, uA_s, uA_n, true_and, and_true, not_true_eq_false, not_false_eq_true, eq_self, iI_z, al1, al5, al3, al4, al90, al91, al92, al93, al6, Int.cast_ofNat_Int, Nat.reduceAdd, Int.reduceNeg, Int.reduceAdd, Int.reduceSub, Int.reduceMul, Int.reduceLT, Int.reduceLE, Int.reduceGT, Int.reduceGE, Int.reduceEq, Int.reduceNe, Nat.reduceEqDiff, Int.zero_add, Int.add_zero, p_ty0, p_ty1, p_ty2, p_ty3, p_ty4, p_ty5, p_ty8, p_ty9, p_ty10, e1, ty, ty1, gd_t, ck_t, B_t, B_f]
theorem lb_3 {l0 l1 l2 l4 l5 l6 l8 l10 l12 l13 l14 l15 l16 l17 l18 l19 l20 l21 l22 l23 l24 : Slot} (he : 10 ≤ e) (h : LW k T M F S ea bs 0) (hc : 0 ≤ w ∧ w < 91) (hw : w = n) : ∃ T1 M1 F1, R e m_L_law 181 [l0, l1, l2, .val (.ref (100 + k)), l4, l5, l6, .val (.int (iI (S.2.1))), l8, .val (.int (iI (sm (fun k => cntF k (lgQ S.1 S.2.1 S.2.2.1 S.2.2.2.1)) n))), l10, .val (.int (iI (w))), l12, l13, l14, l15, l16, l17, l18, l19, l20, l21, l22, l23, l24] [] T M F = R e m_L_law 205 [l0, l1, l2, .val (.ref (100 + k)), l4, l5, l6, .val (.int (iI (S.2.1))), l8, .val (.int (iI (sm (fun k => cntF k (lgQ S.1 S.2.1 S.2.2.1 S.2.2.2.1)) (n + 1)))), l10, .val (.int (iI (w))), l12, l13, l14, l15, l16, l17, l18, l19, l20, l21, l22, l23, l24] [] T1 M1 F1 ∧ LW k T1 M1 F1 S ea bs 0 ∧ KX k T M F T1 M1 F1 := by
  obtain ⟨T1, M1, F1, e1, L1, K1⟩ := w_cell h hc (i := 1) (by omega) he
  obtain ⟨T2, M2, F2, e2, L2, K2⟩ := w_cell L1 hc (i := 3) (by omega) he
  have ty := h.ty
  have ty1 := L1.ty
  have hs := (h.sv w).1
  have ht := h.sf.2.1
  rw [fac1] at e1
  rw [fac3] at e2
  have es : sm (fun k => cntF k (lgQ S.1 S.2.1 S.2.2.1 S.2.2.2.1)) (n + 1) = sm (fun k => cntF k (lgQ S.1 S.2.1 S.2.2.1 S.2.2.2.1)) n + cntF w (lgQ S.1 S.2.1 S.2.2.1 S.2.2.2.1) := by rw [hw]; rfl
  rw [es]
  by_cases c2 : m_side (S.1 w) = S.2.1
  · refine ⟨T2, M2, F2, ?_, L2, K1.tr K2⟩
    clear L1 L2 K1 K2 h es hw
    generalize sm (fun k => cntF k (lgQ S.1 S.2.1 S.2.2.1 S.2.2.2.1)) n = z at *
    generalize cntF w (lgQ S.1 S.2.1 S.2.2.1 S.2.2.2.1) = z2 at *
    generalize m_side (S.1 w) = u1' at *
    generalize S.2.1 = t at *
    simp (disch := omega) only [x_L_law_181, x_L_law_182, x_L_law_184, x_L_law_185, x_L_law_188, x_L_law_190, x_L_law_193, x_L_law_195, x_L_law_196, x_L_law_198, x_L_law_199, x_L_law_202, x_L_law_203, List.length_cons, List.length_nil, Nat.reduceLeDiff, Nat.zero_add, iI_add, iI_sub, iI_mul, iI_neg, iI_lt, iI_le, iI_eq, jI_iI, B_True, B_False, B_t, B_f, ck_True, gd_True, cb_v, cb_n, p_mv_rw, p_fv_rw, p_rv_some, pA_1, pA_90, pA_92, pA_3, pA_5, pA_93, pA_4, pA_91, pA_6, pS_i, pB_i, pW_i, pZ_0, pZ_1, pZ_b, bI_e0, u1_s, u1_n, uA_s, uA_n, true_and, and_true, not_true_eq_false, not_false_eq_true, eq_self, iI_z, al1, al5, al3, al4, al90, al91, al92, al93, al6, Int.cast_ofNat_Int, Nat.reduceAdd, Int.reduceNeg, Int.reduceAdd, Int.reduceSub, Int.reduceMul, Int.reduceLT, Int.reduceLE, Int.reduceGT, Int.reduceGE, Int.reduceEq, Int.reduceNe, Nat.reduceEqDiff, Int.zero_add, Int.add_zero, p_ty0, p_ty1, p_ty2, p_ty3, p_ty4, p_ty5, p_ty8, p_ty9, p_ty10, e1, e2, ty, ty1, gd_t, ck_t, B_t, B_f]
  · rw [cntF_own c2, Int.add_zero]
    refine ⟨T1, M1, F1, ?_, L1, K1⟩
    clear L1 L2 K1 K2 h es hw e2
    generalize sm (fun k => cntF k (lgQ S.1 S.2.1 S.2.2.1 S.2.2.2.1)) n = z at *
    generalize m_side (S.1 w) = u1' at *
    generalize S.2.1 = t at *
    simp (disch := omega) only [x_L_law_181, x_L_law_182, x_L_law_184, x_L_law_185, x_L_law_188, x_L_law_190, x_L_law_193, x_L_law_195, x_L_law_196, x_L_law_198, x_L_law_199, x_L_law_202, x_L_law_203, List.length_cons, List.length_nil, Nat.reduceLeDiff, Nat.zero_add, iI_add, iI_sub, iI_mul, iI_neg, iI_lt, iI_le, iI_eq, jI_iI, B_True, B_False, B_t, B_f, ck_True, gd_True, cb_v, cb_n, p_mv_rw, p_fv_rw, p_rv_some, pA_1, pA_90, pA_92, pA_3, pA_5, pA_93, pA_4, pA_91, pA_6, pS_i, pB_i, pW_i, pZ_0, pZ_1, pZ_b, bI_e0, u1_s, u1_n, uA_s, uA_n, true_and, and_true, not_true_eq_false, not_false_eq_true, eq_self, iI_z, al1, al5, al3, al4, al90, al91, al92, al93, al6, Int.cast_ofNat_Int, Nat.reduceAdd, Int.reduceNeg, Int.reduceAdd, Int.reduceSub, Int.reduceMul, Int.reduceLT, Int.reduceLE, Int.reduceGT, Int.reduceGE, Int.reduceEq, Int.reduceNe, Nat.reduceEqDiff, Int.zero_add, Int.add_zero, p_ty0, p_ty1, p_ty2, p_ty3, p_ty4, p_ty5, p_ty8, p_ty9, p_ty10, e1, ty, ty1, gd_t, ck_t, B_t, B_f]
theorem lb_4 {l0 l1 l2 l5 l6 l8 l9 l10 l12 l13 l14 l15 l16 l17 l18 l19 l20 l21 l22 l23 l24 : Slot} (he : 10 ≤ e) (h : LW k T M F S ea bs 0) (hc : 0 ≤ w ∧ w < 91) (hi : 0 ≤ i ∧ i ≤ 8) : ∃ T1 M1 F1, R e m_L_law 205 [l0, l1, l2, .val (.ref (100 + k)), .val (.int (iI (i))), l5, l6, .val (.int (iI (S.2.1))), l8, l9, l10, .val (.int (iI (w))), l12, l13, l14, l15, l16, l17, l18, l19, l20, l21, l22, l23, l24] [] T M F = R e m_L_law 234 [l0, l1, l2, .val (.ref (100 + k)), .val (.int (iI (i))), l5, l6, .val (.int (iI (S.2.1))), l8, l9, l10, .val (.int (iI (w))), l12, l13, l14, l15, l16, l17, l18, l19, l20, l21, l22, l23, l24] [] T1 M1 F1 ∧ LW k T1 M1 F1 S ea bs 0 ∧ KX k T M F T1 M1 F1 := by
  obtain ⟨T1, M1, F1, e1, L1, K1⟩ := w_cell h hc (i := 1) (by omega) he
  obtain ⟨T2, M2, F2, e2, L2, K2⟩ := w_cell L1 hc (i := 3) (by omega) he
  have ty := h.ty
  have ty1 := L1.ty
  have hs := (h.sv w).1
  have ht := h.sf.2.1
  rw [fac1] at e1
  rw [fac3] at e2
  by_cases ci : i = 0
  · subst ci
    by_cases c2 : m_side (S.1 w) = S.2.1
    · refine ⟨T1, M1, F1, ?_, L1, K1⟩
      clear L1 L2 K1 K2 h e2
      generalize m_side (S.1 w) = u1' at *
      generalize S.2.1 = t at *
      simp (disch := omega) only [x_L_law_205, x_L_law_207, x_L_law_210, x_L_law_211, x_L_law_213, x_L_law_214, x_L_law_217, x_L_law_219, x_L_law_222, x_L_law_223, x_L_law_225, x_L_law_226, x_L_law_229, x_L_law_232, x_L_law_233, List.length_cons, List.length_nil, Nat.reduceLeDiff, Nat.zero_add, iI_add, iI_sub, iI_mul, iI_neg, iI_lt, iI_le, iI_eq, jI_iI, B_True, B_False, B_t, B_f, ck_True, gd_True, cb_v, cb_n, p_mv_rw, p_fv_rw, p_rv_some, pA_1, pA_90, pA_92, pA_3, pA_5, pA_93, pA_4, pA_91, pA_6, pS_i, pB_i, pW_i, pZ_0, pZ_1, pZ_b, bI_e0, u1_s, u1_n, uA_s, uA_n, true_and, and_true, not_true_eq_false, not_false_eq_true, eq_self, iI_z, al1, al5, al3, al4, al90, al91, al92, al93, al6, Int.cast_ofNat_Int, Nat.reduceAdd, Int.reduceNeg, Int.reduceAdd, Int.reduceSub, Int.reduceMul, Int.reduceLT, Int.reduceLE, Int.reduceGT, Int.reduceGE, Int.reduceEq, Int.reduceNe, Nat.reduceEqDiff, Int.zero_add, Int.add_zero, p_ty0, p_ty1, p_ty2, p_ty3, p_ty4, p_ty5, p_ty8, p_ty9, p_ty10, e1, ty, ty1, gd_t, ck_t, B_t, B_f]
    · rw [cntF_own c2] at e2
      refine ⟨T2, M2, F2, ?_, L2, K1.tr K2⟩
      clear L1 L2 K1 K2 h
      generalize m_side (S.1 w) = u1' at *
      generalize S.2.1 = t at *
      simp (disch := omega) only [x_L_law_205, x_L_law_207, x_L_law_210, x_L_law_211, x_L_law_213, x_L_law_214, x_L_law_217, x_L_law_219, x_L_law_222, x_L_law_223, x_L_law_225, x_L_law_226, x_L_law_229, x_L_law_232, x_L_law_233, List.length_cons, List.length_nil, Nat.reduceLeDiff, Nat.zero_add, iI_add, iI_sub, iI_mul, iI_neg, iI_lt, iI_le, iI_eq, jI_iI, B_True, B_False, B_t, B_f, ck_True, gd_True, cb_v, cb_n, p_mv_rw, p_fv_rw, p_rv_some, pA_1, pA_90, pA_92, pA_3, pA_5, pA_93, pA_4, pA_91, pA_6, pS_i, pB_i, pW_i, pZ_0, pZ_1, pZ_b, bI_e0, u1_s, u1_n, uA_s, uA_n, true_and, and_true, not_true_eq_false, not_false_eq_true, eq_self, iI_z, al1, al5, al3, al4, al90, al91, al92, al93, al6, Int.cast_ofNat_Int, Nat.reduceAdd, Int.reduceNeg, Int.reduceAdd, Int.reduceSub, Int.reduceMul, Int.reduceLT, Int.reduceLE, Int.reduceGT, Int.reduceGE, Int.reduceEq, Int.reduceNe, Nat.reduceEqDiff, Int.zero_add, Int.add_zero, p_ty0, p_ty1, p_ty2, p_ty3, p_ty4, p_ty5, p_ty8, p_ty9, p_ty10, e1, e2, ty, ty1, gd_t, ck_t, B_t, B_f]
  · refine ⟨T, M, F, ?_, h, .rf⟩
    clear L1 L2 K1 K2 h e2 e1
    simp (disch := omega) only [x_L_law_205, x_L_law_207, x_L_law_210, x_L_law_211, x_L_law_213, x_L_law_214, x_L_law_217, x_L_law_219, x_L_law_222, x_L_law_223, x_L_law_225, x_L_law_226, x_L_law_229, x_L_law_232, x_L_law_233, List.length_cons, List.length_nil, Nat.reduceLeDiff, Nat.zero_add, iI_add, iI_sub, iI_mul, iI_neg, iI_lt, iI_le, iI_eq, jI_iI, B_True, B_False, B_t, B_f, ck_True, gd_True, cb_v, cb_n, p_mv_rw, p_fv_rw, p_rv_some, pA_1, pA_90, pA_92, pA_3, pA_5, pA_93, pA_4, pA_91, pA_6, pS_i, pB_i, pW_i, pZ_0, pZ_1, pZ_b, bI_e0, u1_s, u1_n, uA_s, uA_n, true_and, and_true, not_true_eq_false, not_false_eq_true, eq_self, iI_z, al1, al5, al3, al4, al90, al91, al92, al93, al6, Int.cast_ofNat_Int, Nat.reduceAdd, Int.reduceNeg, Int.reduceAdd, Int.reduceSub, Int.reduceMul, Int.reduceLT, Int.reduceLE, Int.reduceGT, Int.reduceGE, Int.reduceEq, Int.reduceNe, Nat.reduceEqDiff, Int.zero_add, Int.add_zero, p_ty0, p_ty1, p_ty2, p_ty3, p_ty4, p_ty5, p_ty8, p_ty9, p_ty10, ty, ty1, gd_t, ck_t, B_t, B_f]
theorem lb_B {l0 l1 l2 l5 l6 l8 l12 l13 l14 l15 l16 l17 l18 l19 l20 l21 l22 l23 l24 : Slot} (he : 10 ≤ e) (hi : 0 ≤ i ∧ i ≤ 8) : ∀ (n : Nat) (w : Int) (T : pT) (M : pM) (F : pF), LW k T M F S ea bs 0 → 0 ≤ w → w + n = 91 → ∃ T1 M1 F1, R e m_L_law 91 [l0, l1, l2, .val (.ref (100 + k)), .val (.int (iI (i))), l5, l6, .val (.int (iI (S.2.1))), l8, .val (.int (iI (sm (fun k => cntF k (lgQ S.1 S.2.1 S.2.2.1 S.2.2.2.1)) w.toNat))), .val (.int (iI (kl S.1 S.2.1 w.toNat))), .val (.int (iI (w))), l12, l13, l14, l15, l16, l17, l18, l19, l20, l21, l22, l23, l24] [] T M F = R e m_L_law 240 [l0, l1, l2, .val (.ref (100 + k)), .val (.int (iI (i))), l5, l6, .val (.int (iI (S.2.1))), l8, .val (.int (iI (sm (fun k => cntF k (lgQ S.1 S.2.1 S.2.2.1 S.2.2.2.1)) 91))), .val (.int (iI (kl S.1 S.2.1 91))), .val (.int (iI (91))), l12, l13, l14, l15, l16, l17, l18, l19, l20, l21, l22, l23, l24] [] T1 M1 F1 ∧ LW k T1 M1 F1 S ea bs 0 ∧ KX k T M F T1 M1 F1
  | 0, w, T, M, F, h, h0, hw => by
    obtain rfl : w = 91 := by omega
    refine ⟨T, M, F, ?_, h, .rf⟩
    rw [show (91 : Int).toNat = 91 from rfl]
    generalize sm (fun k => cntF k (lgQ S.1 S.2.1 S.2.2.1 S.2.2.2.1)) 91 = z1
    generalize kl S.1 S.2.1 91 = z2
    simp (disch := omega) only [x_L_law_91, x_L_law_93, x_L_law_95, List.length_cons, List.length_nil, Nat.reduceLeDiff, Nat.zero_add, iI_add, iI_sub, iI_mul, iI_neg, iI_lt, iI_le, iI_eq, jI_iI, B_True, B_False, B_t, B_f, ck_True, gd_True, cb_v, cb_n, p_mv_rw, p_fv_rw, p_rv_some, pA_1, pA_90, pA_92, pA_3, pA_5, pA_93, pA_4, pA_91, pA_6, pS_i, pB_i, pW_i, pZ_0, pZ_1, pZ_b, bI_e0, u1_s, u1_n, uA_s, uA_n, true_and, and_true, not_true_eq_false, not_false_eq_true, eq_self, iI_z, al1, al5, al3, al4, al90, al91, al92, al93, al6, Int.cast_ofNat_Int, Nat.reduceAdd, Int.reduceNeg, Int.reduceAdd, Int.reduceSub, Int.reduceMul, Int.reduceLT, Int.reduceLE, Int.reduceGT, Int.reduceGE, Int.reduceEq, Int.reduceNe, Nat.reduceEqDiff, Int.zero_add, Int.add_zero, p_ty0, p_ty1, p_ty2, p_ty3, p_ty4, p_ty5, p_ty8, p_ty9, p_ty10, gd_t, ck_t, B_t, B_f]
  | n + 1, w, T, M, F, h, h0, hw => by
    obtain ⟨w, rfl⟩ := Int.eq_ofNat_of_zero_le h0
    have hc : 0 ≤ (w : Int) ∧ (w : Int) < 91 := by omega
    have y : (w : Int).toNat = w := by omega
    have y2 : ((w : Int) + 1).toNat = w + 1 := by omega
    obtain ⟨T1, M1, F1, e1, L1, K1⟩ := lb_1 he h hc
    obtain ⟨T2, M2, F2, e2, L2, K2⟩ := lb_2 he L1 hc (n := w) rfl
    obtain ⟨T3, M3, F3, e3, L3, K3⟩ := lb_3 he L2 hc (n := w) rfl
    obtain ⟨T4, M4, F4, e4, L4, K4⟩ := lb_4 he L3 hc hi
    obtain ⟨T5, M5, F5, e5, L5, K5⟩ := lb_B he hi n ((w : Int) + 1) T4 M4 F4 L4 (by omega) (by omega)
    refine ⟨T5, M5, F5, ?_, L5, (K1.tr K2).tr ((K3.tr K4).tr K5)⟩
    rw [y2] at e5
    rw [← e5, y]
    rw [show R e m_L_law 91 [l0, l1, l2, .val (.ref (100 + k)), .val (.int (iI (i))), l5, l6, .val (.int (iI (S.2.1))), l8, .val (.int (iI (sm (fun k => cntF k (lgQ S.1 S.2.1 S.2.2.1 S.2.2.2.1)) w))), .val (.int (iI (kl S.1 S.2.1 w))), .val (.int (iI ((w : Int)))), l12, l13, l14, l15, l16, l17, l18, l19, l20, l21, l22, l23, l24] [] T M F = R e m_L_law 98 [l0, l1, l2, .val (.ref (100 + k)), .val (.int (iI (i))), l5, l6, .val (.int (iI (S.2.1))), l8, .val (.int (iI (sm (fun k => cntF k (lgQ S.1 S.2.1 S.2.2.1 S.2.2.2.1)) w))), .val (.int (iI (kl S.1 S.2.1 w))), .val (.int (iI ((w : Int)))), l12, l13, l14, l15, l16, l17, l18, l19, l20, l21, l22, l23, l24] [] T M F by
      generalize sm (fun k => cntF k (lgQ S.1 S.2.1 S.2.2.1 S.2.2.2.1)) w = z1
      generalize kl S.1 S.2.1 w = z2
      simp (disch := omega) only [x_L_law_91, x_L_law_93, x_L_law_95, List.length_cons, List.length_nil, Nat.reduceLeDiff, Nat.zero_add, iI_add, iI_sub, iI_mul, iI_neg, iI_lt, iI_le, iI_eq, jI_iI, B_True, B_False, B_t, B_f, ck_True, gd_True, cb_v, cb_n, p_mv_rw, p_fv_rw, p_rv_some, pA_1, pA_90, pA_92, pA_3, pA_5, pA_93, pA_4, pA_91, pA_6, pS_i, pB_i, pW_i, pZ_0, pZ_1, pZ_b, bI_e0, u1_s, u1_n, uA_s, uA_n, true_and, and_true, not_true_eq_false, not_false_eq_true, eq_self, iI_z, al1, al5, al3, al4, al90, al91, al92, al93, al6, Int.cast_ofNat_Int, Nat.reduceAdd, Int.reduceNeg, Int.reduceAdd, Int.reduceSub, Int.reduceMul, Int.reduceLT, Int.reduceLE, Int.reduceGT, Int.reduceGE, Int.reduceEq, Int.reduceNe, Nat.reduceEqDiff, Int.zero_add, Int.add_zero, p_ty0, p_ty1, p_ty2, p_ty3, p_ty4, p_ty5, p_ty8, p_ty9, p_ty10, gd_t, ck_t, B_t, B_f]]
    rw [e1, e2, e3, e4]
    generalize sm (fun k => cntF k (lgQ S.1 S.2.1 S.2.2.1 S.2.2.2.1)) (w + 1) = z1
    generalize kl S.1 S.2.1 (w + 1) = z2
    simp (disch := omega) only [x_L_law_234, x_L_law_237, List.length_cons, List.length_nil, Nat.reduceLeDiff, Nat.zero_add, iI_add, iI_sub, iI_mul, iI_neg, iI_lt, iI_le, iI_eq, jI_iI, B_True, B_False, B_t, B_f, ck_True, gd_True, cb_v, cb_n, p_mv_rw, p_fv_rw, p_rv_some, pA_1, pA_90, pA_92, pA_3, pA_5, pA_93, pA_4, pA_91, pA_6, pS_i, pB_i, pW_i, pZ_0, pZ_1, pZ_b, bI_e0, u1_s, u1_n, uA_s, uA_n, true_and, and_true, not_true_eq_false, not_false_eq_true, eq_self, iI_z, al1, al5, al3, al4, al90, al91, al92, al93, al6, Int.cast_ofNat_Int, Nat.reduceAdd, Int.reduceNeg, Int.reduceAdd, Int.reduceSub, Int.reduceMul, Int.reduceLT, Int.reduceLE, Int.reduceGT, Int.reduceGE, Int.reduceEq, Int.reduceNe, Nat.reduceEqDiff, Int.zero_add, Int.add_zero, p_ty0, p_ty1, p_ty2, p_ty3, p_ty4, p_ty5, p_ty8, p_ty9, p_ty10, gd_t, ck_t, B_t, B_f]
end PLWS
