section PMRL
variable {d bd lg N : Nat} {T : pT} {M M0 M1 M2 : pM} {F : pF} {bb v w : Int → Int} {t pas q its to as p n i c s x k a b lo hi : Int} {H : List HE} {P Q : Int → Prop}
theorem mr_clr (hY : YT T F bd lg N) (hi : 0 ≤ its ∧ its < 91) : ∀ (n : Nat) (k : Int) (M : pM), k + n = 91 → 0 ≤ k → (∀ j, 0 ≤ j → j < k → M 136 j = 0) →
    ∃ M', (∀ e l3 l4, R e m_X8_mark 2 [.val (.ref 127), .val (.int (iI its)), .val (.int (iI k)), l3, l4] [] T M F = R e m_X8_mark 21 [.val (.ref 127), .val (.int (iI its)), .val (.int (iI 91)), l3, l4] [] T M' F) ∧ (∀ j, 0 ≤ j → j < 91 → M' 136 j = 0) ∧ ∀ a, a ≠ 136 → M' a = M a := by
  intro n
  induction n with
  | zero =>
    intro k M hk h0 h
    obtain rfl : k = 91 := by omega
    refine ⟨M, fun e l3 l4 => ?_, h, fun _ _ => rfl⟩
    clear h hY
    simp (disch := omega) only [x_X8_mark_2, x_X8_mark_3, x_X8_mark_5, List.length_cons, List.length_nil, Nat.reduceLeDiff, Nat.zero_add, iI_add, iI_sub, iI_mul, iI_neg, iI_lt, iI_le, iI_eq, jI_iI, B_True, B_False, B_t, B_f, ck_True, gd_True, cb_v, cb_n, p_mv_rw, p_fv_rw, p_rv_some, pA_1, pA_90, pA_92, pA_3, pA_2, pA_93, pA_4, pA_91, pA_95, pS_i, pW_i, pZ_0, pZ_1, pZ_b, bI_e0, u1_s, u1_n, uA_s, uA_n, true_and, and_true, not_true_eq_false, not_false_eq_true, eq_self, iI_z, al1, al2, al3, al4, al90, al91, al92, al93, al95, Int.cast_ofNat_Int, Nat.reduceAdd, Int.reduceNeg, Int.reduceAdd, Int.reduceSub, Int.reduceMul, Int.reduceLT, Int.reduceLE, Int.reduceGT, Int.reduceGE, Int.reduceEq, Int.reduceNe, Nat.reduceEqDiff, Int.zero_add, Int.add_zero, p_ty0, p_ty1, p_ty2, p_ty3, p_ty4, p_ty5, p_ty6, p_ty7, p_ty8, p_ty9, p_ty10, p_ty11, B_t, B_f]
  | succ n ih =>
    intro k M hk h0 h
    obtain ⟨M1, hM1⟩ : ∃ M1 : pM, M1 = uA M 136 (u1 (M 136) k 0) := ⟨_, rfl⟩
    obtain ⟨M2, r2, z2, f2⟩ := ih (k + 1) M1 (by omega) (by omega) (fun j j0 j1 => by
      rw [hM1, uA_s]
      by_cases e : j = k
      · rw [e, u1_s]
      · rw [u1_n e]; exact h j j0 (by omega))
    refine ⟨M2, fun e l3 l4 => ?_, z2, fun a ha => (f2 a ha).trans (by rw [hM1, uA_n ha])⟩
    rw [← r2 e l3 l4, hM1, x_X8_mark_2]
    obtain ⟨ty127, ty128, fy1, ty129, fy4, ty130, fy5, ty131, fy6, ty132, fy7, ty133, fy8, ty136, fy15, ty137, fy16, ty138, fy17, ty139, fy18, ty140, fy19, ty141, fy20, ty142, fy21, ty143, fy22, hbd, tybd, fy9, hlg, tylg, fy13, hN⟩ := hY
    clear r2 z2 f2 ih hM1 h
    simp (disch := omega) only [x_X8_mark_3, x_X8_mark_5, x_X8_mark_8, x_X8_mark_9, x_X8_mark_12, x_X8_mark_13, x_X8_mark_14, x_X8_mark_15, x_X8_mark_18, List.length_cons, List.length_nil, Nat.reduceLeDiff, Nat.zero_add, iI_add, iI_sub, iI_mul, iI_neg, iI_lt, iI_le, iI_eq, jI_iI, B_True, B_False, B_t, B_f, ck_True, gd_True, cb_v, cb_n, p_mv_rw, p_fv_rw, p_rv_some, pA_1, pA_90, pA_92, pA_3, pA_2, pA_93, pA_4, pA_91, pA_95, pS_i, pW_i, pZ_0, pZ_1, pZ_b, bI_e0, u1_s, u1_n, uA_s, uA_n, true_and, and_true, not_true_eq_false, not_false_eq_true, eq_self, iI_z, al1, al2, al3, al4, al90, al91, al92, al93, al95, Int.cast_ofNat_Int, Nat.reduceAdd, Int.reduceNeg, Int.reduceAdd, Int.reduceSub, Int.reduceMul, Int.reduceLT, Int.reduceLE, Int.reduceGT, Int.reduceGE, Int.reduceEq, Int.reduceNe, Nat.reduceEqDiff, Int.zero_add, Int.add_zero, p_ty0, p_ty1, p_ty2, p_ty3, p_ty4, p_ty5, p_ty6, p_ty7, p_ty8, p_ty9, p_ty10, p_ty11, ty127, ty128, fy1, ty129, fy4, ty130, fy5, ty131, fy6, ty132, fy7, ty133, fy8, ty136, fy15, ty137, fy16, ty138, fy17, ty139, fy18, ty140, fy19, ty141, fy20, ty142, fy21, ty143, fy22, tybd, fy9, tylg, fy13, gd_t, B_t, B_f]
def w_nb (x k j : Int) : Int := if x = 1 then gn k j else if x = 5 then gj k j else -1
theorem mr_nb (hY : YT T F bd lg N) (hB : YB bd) (hi : 0 ≤ its ∧ its < 91) (hx : 1 ≤ x ∧ x ≤ 6) : ∀ (n : Nat) (i : Int) (M : pM), i + n = 12 → 0 ≤ i → YG M →
    ∃ M', (∀ e l4, R e m_X8_mark 90 [.val (.ref 127), .val (.int (iI its)), .val (.int (iI x)), .val (.int (iI i)), l4] [] T M F = some (.inl none, T, M', F)) ∧ M' 136 = mkS (M 136) (fun k => ∃ j, i ≤ j ∧ j < 12 ∧ k = w_nb x its j ∧ k ≠ -1) ∧ ∀ a, a ≠ 136 → M' a = M a := by
  intro n
  induction n with
  | zero =>
    intro i M hn h0 hG
    obtain rfl : i = 12 := by omega
    refine ⟨M, fun e l4 => ?_, (mkS_0 (fun k h => by obtain ⟨j, h1, h2, -⟩ := h; omega)).symm, fun _ _ => rfl⟩
    clear hG hY
    simp (disch := omega) only [x_X8_mark_90, x_X8_mark_91, x_X8_mark_93, x_X8_mark_157, List.length_cons, List.length_nil, Nat.reduceLeDiff, Nat.zero_add, iI_add, iI_sub, iI_mul, iI_neg, iI_lt, iI_le, iI_eq, jI_iI, B_True, B_False, B_t, B_f, ck_True, gd_True, cb_v, cb_n, p_mv_rw, p_fv_rw, p_rv_some, pA_1, pA_90, pA_92, pA_3, pA_2, pA_93, pA_4, pA_91, pA_95, pS_i, pW_i, pZ_0, pZ_1, pZ_b, bI_e0, u1_s, u1_n, uA_s, uA_n, true_and, and_true, not_true_eq_false, not_false_eq_true, eq_self, iI_z, al1, al2, al3, al4, al90, al91, al92, al93, al95, Int.cast_ofNat_Int, Nat.reduceAdd, Int.reduceNeg, Int.reduceAdd, Int.reduceSub, Int.reduceMul, Int.reduceLT, Int.reduceLE, Int.reduceGT, Int.reduceGE, Int.reduceEq, Int.reduceNe, Nat.reduceEqDiff, Int.zero_add, Int.add_zero, p_ty0, p_ty1, p_ty2, p_ty3, p_ty4, p_ty5, p_ty6, p_ty7, p_ty8, p_ty9, p_ty10, p_ty11, B_t, B_f]
  | succ n ih =>
    intro i M hn h0 hG
    have hi12 : 0 ≤ i ∧ i < 12 := by omega
    have hg := gn_rg hi hi12
    have hj := gj_rg hi hi12
    have n1 := hG.2.2.2.1 its i hi.1 hi.2 hi12.1 hi12.2
    have n2 := hG.2.2.2.2 its i hi.1 hi.2 hi12.1 hi12.2
    have wr : -1 ≤ w_nb x its i ∧ w_nb x its i < 91 := by unfold w_nb; split; exact hg; split; exact hj; omega
    have hst : ∀ e l4, R e m_X8_mark 90 [.val (.ref 127), .val (.int (iI its)), .val (.int (iI x)), .val (.int (iI i)), l4] [] T M F = R e m_X8_mark 137 [.val (.ref 127), .val (.int (iI its)), .val (.int (iI x)), .val (.int (iI i)), .val (.int (iI (w_nb x its i)))] [] T M F := by
      intro e l4
      obtain ⟨ty127, ty128, fy1, ty129, fy4, ty130, fy5, ty131, fy6, ty132, fy7, ty133, fy8, ty136, fy15, ty137, fy16, ty138, fy17, ty139, fy18, ty140, fy19, ty141, fy20, ty142, fy21, ty143, fy22, hbd, tybd, fy9, hlg, tylg, fy13, hN⟩ := hY
      clear hG ih
      unfold w_nb
      by_cases c1 : x = 1
      · rw [if_pos c1]
        simp (disch := omega) only [x_X8_mark_90, x_X8_mark_91, x_X8_mark_93, x_X8_mark_96, x_X8_mark_97, x_X8_mark_98, x_X8_mark_101, x_X8_mark_102, x_X8_mark_105, x_X8_mark_107, x_X8_mark_108, x_X8_mark_109, x_X8_mark_110, x_X8_mark_111, x_X8_mark_112, x_X8_mark_115, x_X8_mark_116, x_X8_mark_117, x_X8_mark_120, x_X8_mark_121, x_X8_mark_124, x_X8_mark_126, x_X8_mark_127, x_X8_mark_128, x_X8_mark_129, x_X8_mark_130, x_X8_mark_131, x_X8_mark_134, x_X8_mark_135, List.length_cons, List.length_nil, Nat.reduceLeDiff, Nat.zero_add, iI_add, iI_sub, iI_mul, iI_neg, iI_lt, iI_le, iI_eq, jI_iI, B_True, B_False, B_t, B_f, ck_True, gd_True, cb_v, cb_n, p_mv_rw, p_fv_rw, p_rv_some, pA_1, pA_90, pA_92, pA_3, pA_2, pA_93, pA_4, pA_91, pA_95, pS_i, pW_i, pZ_0, pZ_1, pZ_b, bI_e0, u1_s, u1_n, uA_s, uA_n, true_and, and_true, not_true_eq_false, not_false_eq_true, eq_self, iI_z, al1, al2, al3, al4, al90, al91, al92, al93, al95, Int.cast_ofNat_Int, Nat.reduceAdd, Int.reduceNeg, Int.reduceAdd, Int.reduceSub, Int.reduceMul, Int.reduceLT, Int.reduceLE, Int.reduceGT, Int.reduceGE, Int.reduceEq, Int.reduceNe, Nat.reduceEqDiff, Int.zero_add, Int.add_zero, p_ty0, p_ty1, p_ty2, p_ty3, p_ty4, p_ty5, p_ty6, p_ty7, p_ty8, p_ty9, p_ty10, p_ty11, ty127, ty128, fy1, ty129, fy4, ty130, fy5, ty131, fy6, ty132, fy7, ty133, fy8, ty136, fy15, ty137, fy16, ty138, fy17, ty139, fy18, ty140, fy19, ty141, fy20, ty142, fy21, ty143, fy22, tybd, fy9, tylg, fy13, n1, c1, gd_t, B_t, B_f]
      · rw [if_neg c1]
        by_cases c5 : x = 5
        · rw [if_pos c5]
          simp (disch := omega) only [x_X8_mark_90, x_X8_mark_91, x_X8_mark_93, x_X8_mark_96, x_X8_mark_97, x_X8_mark_98, x_X8_mark_101, x_X8_mark_102, x_X8_mark_105, x_X8_mark_107, x_X8_mark_108, x_X8_mark_109, x_X8_mark_110, x_X8_mark_111, x_X8_mark_112, x_X8_mark_115, x_X8_mark_116, x_X8_mark_117, x_X8_mark_120, x_X8_mark_121, x_X8_mark_124, x_X8_mark_126, x_X8_mark_127, x_X8_mark_128, x_X8_mark_129, x_X8_mark_130, x_X8_mark_131, x_X8_mark_134, x_X8_mark_135, List.length_cons, List.length_nil, Nat.reduceLeDiff, Nat.zero_add, iI_add, iI_sub, iI_mul, iI_neg, iI_lt, iI_le, iI_eq, jI_iI, B_True, B_False, B_t, B_f, ck_True, gd_True, cb_v, cb_n, p_mv_rw, p_fv_rw, p_rv_some, pA_1, pA_90, pA_92, pA_3, pA_2, pA_93, pA_4, pA_91, pA_95, pS_i, pW_i, pZ_0, pZ_1, pZ_b, bI_e0, u1_s, u1_n, uA_s, uA_n, true_and, and_true, not_true_eq_false, not_false_eq_true, eq_self, iI_z, al1, al2, al3, al4, al90, al91, al92, al93, al95, Int.cast_ofNat_Int, Nat.reduceAdd, Int.reduceNeg, Int.reduceAdd, Int.reduceSub, Int.reduceMul, Int.reduceLT, Int.reduceLE, Int.reduceGT, Int.reduceGE, Int.reduceEq, Int.reduceNe, Nat.reduceEqDiff, Int.zero_add, Int.add_zero, p_ty0, p_ty1, p_ty2, p_ty3, p_ty4, p_ty5, p_ty6, p_ty7, p_ty8, p_ty9, p_ty10, p_ty11, ty127, ty128, fy1, ty129, fy4, ty130, fy5, ty131, fy6, ty132, fy7, ty133, fy8, ty136, fy15, ty137, fy16, ty138, fy17, ty139, fy18, ty140, fy19, ty141, fy20, ty142, fy21, ty143, fy22, tybd, fy9, tylg, fy13, n2, c5, gd_t, B_t, B_f]
        · rw [if_neg c5]
          simp (disch := omega) only [x_X8_mark_90, x_X8_mark_91, x_X8_mark_93, x_X8_mark_96, x_X8_mark_97, x_X8_mark_98, x_X8_mark_101, x_X8_mark_102, x_X8_mark_105, x_X8_mark_107, x_X8_mark_108, x_X8_mark_109, x_X8_mark_110, x_X8_mark_111, x_X8_mark_112, x_X8_mark_115, x_X8_mark_116, x_X8_mark_117, x_X8_mark_120, x_X8_mark_121, x_X8_mark_124, x_X8_mark_126, x_X8_mark_127, x_X8_mark_128, x_X8_mark_129, x_X8_mark_130, x_X8_mark_131, x_X8_mark_134, x_X8_mark_135, List.length_cons, List.length_nil, Nat.reduceLeDiff, Nat.zero_add, iI_add, iI_sub, iI_mul, iI_neg, iI_lt, iI_le, iI_eq, jI_iI, B_True, B_False, B_t, B_f, ck_True, gd_True, cb_v, cb_n, p_mv_rw, p_fv_rw, p_rv_some, pA_1, pA_90, pA_92, pA_3, pA_2, pA_93, pA_4, pA_91, pA_95, pS_i, pW_i, pZ_0, pZ_1, pZ_b, bI_e0, u1_s, u1_n, uA_s, uA_n, true_and, and_true, not_true_eq_false, not_false_eq_true, eq_self, iI_z, al1, al2, al3, al4, al90, al91, al92, al93, al95, Int.cast_ofNat_Int, Nat.reduceAdd, Int.reduceNeg, Int.reduceAdd, Int.reduceSub, Int.reduceMul, Int.reduceLT, Int.reduceLE, Int.reduceGT, Int.reduceGE, Int.reduceEq, Int.reduceNe, Nat.reduceEqDiff, Int.zero_add, Int.add_zero, p_ty0, p_ty1, p_ty2, p_ty3, p_ty4, p_ty5, p_ty6, p_ty7, p_ty8, p_ty9, p_ty10, p_ty11, ty127, ty128, fy1, ty129, fy4, ty130, fy5, ty131, fy6, ty132, fy7, ty133, fy8, ty136, fy15, ty137, fy16, ty138, fy17, ty139, fy18, ty140, fy19, ty141, fy20, ty142, fy21, ty143, fy22, tybd, fy9, tylg, fy13, gd_t, B_t, B_f]
    by_cases c : w_nb x its i = -1
    · obtain ⟨M2, r2, k2, f2⟩ := ih (i + 1) M (by omega) (by omega) hG
      refine ⟨M2, fun e l4 => ?_, ?_, f2⟩
      · rw [hst e l4]
        have r2 := r2 e
        clear hG ih hst k2 f2 hY
        rw [c]
        simp (disch := omega) only [x_X8_mark_137, x_X8_mark_139, x_X8_mark_140, x_X8_mark_143, x_X8_mark_144, x_X8_mark_147, x_X8_mark_149, x_X8_mark_150, x_X8_mark_151, x_X8_mark_154, List.length_cons, List.length_nil, Nat.reduceLeDiff, Nat.zero_add, iI_add, iI_sub, iI_mul, iI_neg, iI_lt, iI_le, iI_eq, jI_iI, B_True, B_False, B_t, B_f, ck_True, gd_True, cb_v, cb_n, p_mv_rw, p_fv_rw, p_rv_some, pA_1, pA_90, pA_92, pA_3, pA_2, pA_93, pA_4, pA_91, pA_95, pS_i, pW_i, pZ_0, pZ_1, pZ_b, bI_e0, u1_s, u1_n, uA_s, uA_n, true_and, and_true, not_true_eq_false, not_false_eq_true, eq_self, iI_z, al1, al2, al3, al4, al90, al91, al92, al93, al95, Int.cast_ofNat_Int, Nat.reduceAdd, Int.reduceNeg, Int.reduceAdd, Int.reduceSub, Int.reduceMul, Int.reduceLT, Int.reduceLE, Int.reduceGT, Int.reduceGE, Int.reduceEq, Int.reduceNe, Nat.reduceEqDiff, Int.zero_add, Int.add_zero, p_ty0, p_ty1, p_ty2, p_ty3, p_ty4, p_ty5, p_ty6, p_ty7, p_ty8, p_ty9, p_ty10, p_ty11, r2, B_t, B_f]
      · rw [k2]
        refine mkS_c (fun k => ?_)
        constructor
        · rintro ⟨j, j1, j2, z⟩; exact ⟨j, by omega, j2, z⟩
        · rintro ⟨j, j1, j2, z1, z2⟩
          by_cases e : j = i
          · rw [e, c] at z1; exact absurd z1 z2
          · exact ⟨j, by omega, j2, z1, z2⟩
    · obtain ⟨M1, hM1⟩ : ∃ M1 : pM, M1 = uA M 136 (u1 (M 136) (w_nb x its i) 1) := ⟨_, rfl⟩
      have m1 : ∀ a, a ≠ 136 → M1 a = M a := fun a ha => by rw [hM1, uA_n ha]
      obtain ⟨M2, r2, k2, f2⟩ := ih (i + 1) M1 (by omega) (by omega) (hG.fr m1)
      refine ⟨M2, fun e l4 => ?_, ?_, fun a ha => (f2 a ha).trans (m1 a ha)⟩
      · rw [hst e l4]
        have r2 := r2 e
        rw [hM1] at r2
        obtain ⟨ty127, ty128, fy1, ty129, fy4, ty130, fy5, ty131, fy6, ty132, fy7, ty133, fy8, ty136, fy15, ty137, fy16, ty138, fy17, ty139, fy18, ty140, fy19, ty141, fy20, ty142, fy21, ty143, fy22, hbd, tybd, fy9, hlg, tylg, fy13, hN⟩ := hY
        clear hG ih hst k2 f2 m1 hM1 n1 n2
        simp (disch := omega) only [x_X8_mark_137, x_X8_mark_139, x_X8_mark_140, x_X8_mark_143, x_X8_mark_144, x_X8_mark_147, x_X8_mark_149, x_X8_mark_150, x_X8_mark_151, x_X8_mark_154, List.length_cons, List.length_nil, Nat.reduceLeDiff, Nat.zero_add, iI_add, iI_sub, iI_mul, iI_neg, iI_lt, iI_le, iI_eq, jI_iI, B_True, B_False, B_t, B_f, ck_True, gd_True, cb_v, cb_n, p_mv_rw, p_fv_rw, p_rv_some, pA_1, pA_90, pA_92, pA_3, pA_2, pA_93, pA_4, pA_91, pA_95, pS_i, pW_i, pZ_0, pZ_1, pZ_b, bI_e0, u1_s, u1_n, uA_s, uA_n, true_and, and_true, not_true_eq_false, not_false_eq_true, eq_self, iI_z, al1, al2, al3, al4, al90, al91, al92, al93, al95, Int.cast_ofNat_Int, Nat.reduceAdd, Int.reduceNeg, Int.reduceAdd, Int.reduceSub, Int.reduceMul, Int.reduceLT, Int.reduceLE, Int.reduceGT, Int.reduceGE, Int.reduceEq, Int.reduceNe, Nat.reduceEqDiff, Int.zero_add, Int.add_zero, p_ty0, p_ty1, p_ty2, p_ty3, p_ty4, p_ty5, p_ty6, p_ty7, p_ty8, p_ty9, p_ty10, p_ty11, ty127, ty128, fy1, ty129, fy4, ty130, fy5, ty131, fy6, ty132, fy7, ty133, fy8, ty136, fy15, ty137, fy16, ty138, fy17, ty139, fy18, ty140, fy19, ty141, fy20, ty142, fy21, ty143, fy22, tybd, fy9, tylg, fy13, r2, gd_t, B_t, B_f]
      · rw [k2, hM1, uA_s, mkS_1, mkS_2]
        refine mkS_c (fun k => ?_)
        constructor
        · rintro (z | ⟨j, j1, j2, z⟩)
          · exact ⟨i, Int.le_refl _, hi12.2, z, by rw [z]; exact c⟩
          · exact ⟨j, by omega, j2, z⟩
        · rintro ⟨j, j1, j2, z⟩
          by_cases e : j = i
          · rw [e] at z; exact Or.inl z.1
          · exact Or.inr ⟨j, by omega, j2, z⟩
theorem y_mark (hY : YT T F bd lg N) (hB : YB bd) (hS : YS M bd bb t pas q) (hb : MB bb) (ht : t = 0 ∨ t = 1) (hp : -1 ≤ pas ∧ pas < 91) (hi : 0 ≤ its ∧ its < 91) (hst : m_side (bb its) = t) :
    ∃ M', (∀ d, 4 ≤ d → callD d m_X8_mark [.ref 127, .int (iI its)] T M F = some (.inl none, T, M', F)) ∧ (∀ k, 0 ≤ k → k < 91 → M' 136 k = bI (MK bb pas its k)) ∧ ∀ a, a ≠ 136 → M' a = M a := by
  obtain ⟨hG, s1, s2, s3, s4⟩ := hS
  have hb136 : bd ≠ 136 := by unfold YB at hB; omega
  have hs2 := m_side_t hb ht hst
  obtain ⟨M1, r1, z1, f1⟩ := mr_clr hY hi 91 0 M (by omega) (by omega) (fun j j0 j1 => by omega)
  have hG1 := hG.fr f1
  have b1 := (f1 bd hb136).trans s1
  have p1 : M1 127 11 = pas := by rw [f1 127 (by omega)]; exact s3
  obtain ⟨x, hx⟩ : ∃ x, x = bb its % 10 := ⟨_, rfl⟩
  have hxr : 1 ≤ x ∧ x ≤ 6 := by omega
  have hpc := fun e (he : 3 ≤ e) => y_piece (d := e) (T := T) (M := M1) (F := F) (n := bb its) (by omega) (by omega)
  have hsd := fun e (he : 3 ≤ e) => y_side (d := e) (T := T) (M := M1) (F := F) (n := bb its) (by omega) (by omega)
  rw [hst] at hsd
  rw [← hx] at hpc
  have mid : ∃ M2, (∀ e, 3 ≤ e → R e m_X8_mark 21 [.val (.ref 127), .val (.int (iI its)), .val (.int (iI 91)), .unset, .unset] [] T M1 F = R e m_X8_mark 88 [.val (.ref 127), .val (.int (iI its)), .val (.int (iI x)), .unset, .unset] [] T M2 F) ∧ M2 136 = mkS (M1 136) (fun k => (x = 6 ∧ MKp bb pas its k t) ∨ ((x = 2 ∨ x = 3) ∧ ∃ j, 0 ≤ j ∧ j < 6 ∧ onRay bb j 17 (gn its j) k) ∨ ((x = 2 ∨ x = 4) ∧ ∃ j, 6 ≤ j ∧ j < 12 ∧ onRay bb j 17 (gn its j) k)) ∧ ∀ a, a ≠ 136 → M2 a = M1 a := by
    have ty := hY
    obtain ⟨ty127, ty128, fy1, ty129, fy4, ty130, fy5, ty131, fy6, ty132, fy7, ty133, fy8, ty136, fy15, ty137, fy16, ty138, fy17, ty139, fy18, ty140, fy19, ty141, fy20, ty142, fy21, ty143, fy22, hbd, tybd, fy9, hlg, tylg, fy13, hN⟩ := ty
    by_cases x6 : x = 6
    · obtain ⟨M2, r2, k2, f2⟩ := y_pawn hY hB hi hb ht hp hG1 b1 p1
      refine ⟨M2, fun e he => ?_, ?_, f2⟩
      · have v1 := hpc e he
        have v2 := hsd e he
        have r2 := r2 e he
        have v3 : callD e m_X8_pieceOf [.int (iI (bb its))] T M1 F = some (.inl (some (.int (iI 6))), T, M1, F) := by rw [v1, x6]
        rw [x6]
        clear hG hG1 hb hpc hsd r1 z1 f1 k2 f2 hY hx v1
        simp (disch := omega) only [x_X8_mark_21, x_X8_mark_22, x_X8_mark_25, x_X8_mark_26, x_X8_mark_27, x_X8_mark_30, x_X8_mark_31, x_X8_mark_32, x_X8_mark_34, x_X8_mark_37, x_X8_mark_38, x_X8_mark_39, x_X8_mark_40, x_X8_mark_43, x_X8_mark_44, x_X8_mark_45, x_X8_mark_48, x_X8_mark_51, x_X8_mark_52, x_X8_mark_53, x_X8_mark_56, x_X8_mark_57, x_X8_mark_58, x_X8_mark_61, x_X8_mark_62, x_X8_mark_63, x_X8_mark_64, x_X8_mark_66, x_X8_mark_69, x_X8_mark_70, x_X8_mark_71, x_X8_mark_74, x_X8_mark_75, x_X8_mark_76, List.length_cons, List.length_nil, Nat.reduceLeDiff, Nat.zero_add, iI_add, iI_sub, iI_mul, iI_neg, iI_lt, iI_le, iI_eq, jI_iI, B_True, B_False, B_t, B_f, ck_True, gd_True, cb_v, cb_n, p_mv_rw, p_fv_rw, p_rv_some, pA_1, pA_90, pA_92, pA_3, pA_2, pA_93, pA_4, pA_91, pA_95, pS_i, pW_i, pZ_0, pZ_1, pZ_b, bI_e0, u1_s, u1_n, uA_s, uA_n, true_and, and_true, not_true_eq_false, not_false_eq_true, eq_self, iI_z, al1, al2, al3, al4, al90, al91, al92, al93, al95, Int.cast_ofNat_Int, Nat.reduceAdd, Int.reduceNeg, Int.reduceAdd, Int.reduceSub, Int.reduceMul, Int.reduceLT, Int.reduceLE, Int.reduceGT, Int.reduceGE, Int.reduceEq, Int.reduceNe, Nat.reduceEqDiff, Int.zero_add, Int.add_zero, p_ty0, p_ty1, p_ty2, p_ty3, p_ty4, p_ty5, p_ty6, p_ty7, p_ty8, p_ty9, p_ty10, p_ty11, ty127, ty128, fy1, ty129, fy4, ty130, fy5, ty131, fy6, ty132, fy7, ty133, fy8, ty136, fy15, ty137, fy16, ty138, fy17, ty139, fy18, ty140, fy19, ty141, fy20, ty142, fy21, ty143, fy22, tybd, fy9, tylg, fy13, b1, v2, v3, r2, gd_t, B_t, B_f]
      · rw [k2]
        refine mkS_c (fun k => ⟨fun z => Or.inl ⟨x6, z⟩, ?_⟩)
        rintro (z | z | z)
        · exact z.2
        · omega
        · omega
    · by_cases x2 : x = 2
      · obtain ⟨M2, r2, k2, f2⟩ := y_slides (lw := 0) (up := 6) hY hB hi (by omega) (by omega) hb hG1 b1
        obtain ⟨M3, r3, k3, f3⟩ := y_slides (lw := 6) (up := 12) hY hB hi (by omega) (by omega) hb (hG1.fr f2) ((f2 bd hb136).trans b1)
        refine ⟨M3, fun e he => ?_, ?_, fun a ha => (f3 a ha).trans (f2 a ha)⟩
        · have v1 := hpc e he
          have r2 := r2 e (by omega)
          have r3 := r3 e (by omega)
          rw [x2] at v1
          rw [x2]
          clear hG hG1 hb hpc hsd r1 z1 f1 k2 f2 k3 f3 hY hx
          simp (disch := omega) only [x_X8_mark_21, x_X8_mark_22, x_X8_mark_25, x_X8_mark_26, x_X8_mark_27, x_X8_mark_30, x_X8_mark_31, x_X8_mark_32, x_X8_mark_34, x_X8_mark_37, x_X8_mark_38, x_X8_mark_39, x_X8_mark_40, x_X8_mark_43, x_X8_mark_44, x_X8_mark_45, x_X8_mark_48, x_X8_mark_51, x_X8_mark_52, x_X8_mark_53, x_X8_mark_56, x_X8_mark_57, x_X8_mark_58, x_X8_mark_61, x_X8_mark_62, x_X8_mark_63, x_X8_mark_64, x_X8_mark_66, x_X8_mark_69, x_X8_mark_70, x_X8_mark_71, x_X8_mark_74, x_X8_mark_75, x_X8_mark_76, x_X8_mark_79, x_X8_mark_80, x_X8_mark_81, x_X8_mark_83, x_X8_mark_85, List.length_cons, List.length_nil, Nat.reduceLeDiff, Nat.zero_add, iI_add, iI_sub, iI_mul, iI_neg, iI_lt, iI_le, iI_eq, jI_iI, B_True, B_False, B_t, B_f, ck_True, gd_True, cb_v, cb_n, p_mv_rw, p_fv_rw, p_rv_some, pA_1, pA_90, pA_92, pA_3, pA_2, pA_93, pA_4, pA_91, pA_95, pS_i, pW_i, pZ_0, pZ_1, pZ_b, bI_e0, u1_s, u1_n, uA_s, uA_n, true_and, and_true, not_true_eq_false, not_false_eq_true, eq_self, iI_z, al1, al2, al3, al4, al90, al91, al92, al93, al95, Int.cast_ofNat_Int, Nat.reduceAdd, Int.reduceNeg, Int.reduceAdd, Int.reduceSub, Int.reduceMul, Int.reduceLT, Int.reduceLE, Int.reduceGT, Int.reduceGE, Int.reduceEq, Int.reduceNe, Nat.reduceEqDiff, Int.zero_add, Int.add_zero, p_ty0, p_ty1, p_ty2, p_ty3, p_ty4, p_ty5, p_ty6, p_ty7, p_ty8, p_ty9, p_ty10, p_ty11, ty127, ty128, fy1, ty129, fy4, ty130, fy5, ty131, fy6, ty132, fy7, ty133, fy8, ty136, fy15, ty137, fy16, ty138, fy17, ty139, fy18, ty140, fy19, ty141, fy20, ty142, fy21, ty143, fy22, tybd, fy9, tylg, fy13, b1, v1, r2, r3, gd_t, B_t, B_f]
        · rw [k3, k2, mkS_2]
          refine mkS_c (fun k => ⟨?_, ?_⟩)
          · rintro (z | z)
            · exact Or.inr (Or.inl ⟨Or.inl x2, z⟩)
            · exact Or.inr (Or.inr ⟨Or.inl x2, z⟩)
          · rintro (z | z | z)
            · omega
            · exact Or.inl z.2
            · exact Or.inr z.2
      · by_cases x3 : x = 3
        · obtain ⟨M2, r2, k2, f2⟩ := y_slides (lw := 0) (up := 6) hY hB hi (by omega) (by omega) hb hG1 b1
          refine ⟨M2, fun e he => ?_, ?_, f2⟩
          · have v1 := hpc e he
            have r2 := r2 e (by omega)
            rw [x3] at v1
            rw [x3]
            clear hG hG1 hb hpc hsd r1 z1 f1 k2 f2 hY hx
            simp (disch := omega) only [x_X8_mark_21, x_X8_mark_22, x_X8_mark_25, x_X8_mark_26, x_X8_mark_27, x_X8_mark_30, x_X8_mark_31, x_X8_mark_32, x_X8_mark_34, x_X8_mark_37, x_X8_mark_38, x_X8_mark_39, x_X8_mark_40, x_X8_mark_43, x_X8_mark_44, x_X8_mark_45, x_X8_mark_48, x_X8_mark_51, x_X8_mark_52, x_X8_mark_53, x_X8_mark_56, x_X8_mark_57, x_X8_mark_58, x_X8_mark_61, x_X8_mark_62, x_X8_mark_63, x_X8_mark_64, x_X8_mark_66, x_X8_mark_69, x_X8_mark_70, x_X8_mark_71, x_X8_mark_74, x_X8_mark_75, x_X8_mark_76, List.length_cons, List.length_nil, Nat.reduceLeDiff, Nat.zero_add, iI_add, iI_sub, iI_mul, iI_neg, iI_lt, iI_le, iI_eq, jI_iI, B_True, B_False, B_t, B_f, ck_True, gd_True, cb_v, cb_n, p_mv_rw, p_fv_rw, p_rv_some, pA_1, pA_90, pA_92, pA_3, pA_2, pA_93, pA_4, pA_91, pA_95, pS_i, pW_i, pZ_0, pZ_1, pZ_b, bI_e0, u1_s, u1_n, uA_s, uA_n, true_and, and_true, not_true_eq_false, not_false_eq_true, eq_self, iI_z, al1, al2, al3, al4, al90, al91, al92, al93, al95, Int.cast_ofNat_Int, Nat.reduceAdd, Int.reduceNeg, Int.reduceAdd, Int.reduceSub, Int.reduceMul, Int.reduceLT, Int.reduceLE, Int.reduceGT, Int.reduceGE, Int.reduceEq, Int.reduceNe, Nat.reduceEqDiff, Int.zero_add, Int.add_zero, p_ty0, p_ty1, p_ty2, p_ty3, p_ty4, p_ty5, p_ty6, p_ty7, p_ty8, p_ty9, p_ty10, p_ty11, ty127, ty128, fy1, ty129, fy4, ty130, fy5, ty131, fy6, ty132, fy7, ty133, fy8, ty136, fy15, ty137, fy16, ty138, fy17, ty139, fy18, ty140, fy19, ty141, fy20, ty142, fy21, ty143, fy22, tybd, fy9, tylg, fy13, b1, v1, r2, gd_t, B_t, B_f]
          · rw [k2]
            refine mkS_c (fun k => ⟨fun z => Or.inr (Or.inl ⟨Or.inr x3, z⟩), ?_⟩)
            rintro (z | z | z)
            · omega
            · exact z.2
            · omega
        · by_cases x4 : x = 4
          · obtain ⟨M2, r2, k2, f2⟩ := y_slides (lw := 6) (up := 12) hY hB hi (by omega) (by omega) hb hG1 b1
            refine ⟨M2, fun e he => ?_, ?_, f2⟩
            · have v1 := hpc e he
              have r2 := r2 e (by omega)
              rw [x4] at v1
              rw [x4]
              clear hG hG1 hb hpc hsd r1 z1 f1 k2 f2 hY hx
              simp (disch := omega) only [x_X8_mark_21, x_X8_mark_22, x_X8_mark_25, x_X8_mark_26, x_X8_mark_27, x_X8_mark_30, x_X8_mark_31, x_X8_mark_32, x_X8_mark_34, x_X8_mark_37, x_X8_mark_38, x_X8_mark_39, x_X8_mark_40, x_X8_mark_43, x_X8_mark_44, x_X8_mark_45, x_X8_mark_48, x_X8_mark_51, x_X8_mark_52, x_X8_mark_53, x_X8_mark_56, x_X8_mark_57, x_X8_mark_58, x_X8_mark_61, x_X8_mark_62, x_X8_mark_63, x_X8_mark_64, x_X8_mark_66, x_X8_mark_69, x_X8_mark_70, x_X8_mark_71, x_X8_mark_74, x_X8_mark_75, x_X8_mark_76, x_X8_mark_79, x_X8_mark_80, x_X8_mark_81, x_X8_mark_83, x_X8_mark_85, List.length_cons, List.length_nil, Nat.reduceLeDiff, Nat.zero_add, iI_add, iI_sub, iI_mul, iI_neg, iI_lt, iI_le, iI_eq, jI_iI, B_True, B_False, B_t, B_f, ck_True, gd_True, cb_v, cb_n, p_mv_rw, p_fv_rw, p_rv_some, pA_1, pA_90, pA_92, pA_3, pA_2, pA_93, pA_4, pA_91, pA_95, pS_i, pW_i, pZ_0, pZ_1, pZ_b, bI_e0, u1_s, u1_n, uA_s, uA_n, true_and, and_true, not_true_eq_false, not_false_eq_true, eq_self, iI_z, al1, al2, al3, al4, al90, al91, al92, al93, al95, Int.cast_ofNat_Int, Nat.reduceAdd, Int.reduceNeg, Int.reduceAdd, Int.reduceSub, Int.reduceMul, Int.reduceLT, Int.reduceLE, Int.reduceGT, Int.reduceGE, Int.reduceEq, Int.reduceNe, Nat.reduceEqDiff, Int.zero_add, Int.add_zero, p_ty0, p_ty1, p_ty2, p_ty3, p_ty4, p_ty5, p_ty6, p_ty7, p_ty8, p_ty9, p_ty10, p_ty11, ty127, ty128, fy1, ty129, fy4, ty130, fy5, ty131, fy6, ty132, fy7, ty133, fy8, ty136, fy15, ty137, fy16, ty138, fy17, ty139, fy18, ty140, fy19, ty141, fy20, ty142, fy21, ty143, fy22, tybd, fy9, tylg, fy13, b1, v1, r2, gd_t, B_t, B_f]
            · rw [k2]
              refine mkS_c (fun k => ⟨fun z => Or.inr (Or.inr ⟨Or.inr x4, z⟩), ?_⟩)
              rintro (z | z | z)
              · omega
              · omega
              · exact z.2
          · refine ⟨M1, fun e he => ?_, (mkS_0 (fun k h => by rcases h with z | z | z <;> omega)).symm, fun _ _ => rfl⟩
            have v1 := hpc e he
            clear hG hG1 hb hpc hsd r1 z1 f1 hY hx
            simp (disch := omega) only [x_X8_mark_21, x_X8_mark_22, x_X8_mark_25, x_X8_mark_26, x_X8_mark_27, x_X8_mark_30, x_X8_mark_31, x_X8_mark_32, x_X8_mark_34, x_X8_mark_37, x_X8_mark_38, x_X8_mark_39, x_X8_mark_40, x_X8_mark_43, x_X8_mark_44, x_X8_mark_45, x_X8_mark_48, x_X8_mark_51, x_X8_mark_52, x_X8_mark_53, x_X8_mark_56, x_X8_mark_57, x_X8_mark_58, x_X8_mark_61, x_X8_mark_62, x_X8_mark_63, x_X8_mark_64, x_X8_mark_66, x_X8_mark_69, x_X8_mark_70, x_X8_mark_71, x_X8_mark_74, x_X8_mark_75, x_X8_mark_76, List.length_cons, List.length_nil, Nat.reduceLeDiff, Nat.zero_add, iI_add, iI_sub, iI_mul, iI_neg, iI_lt, iI_le, iI_eq, jI_iI, B_True, B_False, B_t, B_f, ck_True, gd_True, cb_v, cb_n, p_mv_rw, p_fv_rw, p_rv_some, pA_1, pA_90, pA_92, pA_3, pA_2, pA_93, pA_4, pA_91, pA_95, pS_i, pW_i, pZ_0, pZ_1, pZ_b, bI_e0, u1_s, u1_n, uA_s, uA_n, true_and, and_true, not_true_eq_false, not_false_eq_true, eq_self, iI_z, al1, al2, al3, al4, al90, al91, al92, al93, al95, Int.cast_ofNat_Int, Nat.reduceAdd, Int.reduceNeg, Int.reduceAdd, Int.reduceSub, Int.reduceMul, Int.reduceLT, Int.reduceLE, Int.reduceGT, Int.reduceGE, Int.reduceEq, Int.reduceNe, Nat.reduceEqDiff, Int.zero_add, Int.add_zero, p_ty0, p_ty1, p_ty2, p_ty3, p_ty4, p_ty5, p_ty6, p_ty7, p_ty8, p_ty9, p_ty10, p_ty11, ty127, ty128, fy1, ty129, fy4, ty130, fy5, ty131, fy6, ty132, fy7, ty133, fy8, ty136, fy15, ty137, fy16, ty138, fy17, ty139, fy18, ty140, fy19, ty141, fy20, ty142, fy21, ty143, fy22, tybd, fy9, tylg, fy13, b1, v1, gd_t, B_t, B_f]
  obtain ⟨M2, r2, k2, f2⟩ := mid
  obtain ⟨M3, r3, k3, f3⟩ := mr_nb (x := x) hY hB hi hxr 12 0 M2 (by omega) (by omega) (hG1.fr f2)
  refine ⟨M3, fun d hd => ?_, fun k h0 h1 => ?_, fun a ha => (f3 a ha).trans ((f2 a ha).trans (f1 a ha))⟩
  · refine callD_go 3 hd rfl (fun e he => ?_)
    show R e m_X8_mark 0 [.val (.ref 127), .val (.int (iI its)), .unset, .unset, .unset] [] T M F = _
    have r3 := r3 e
    rw [x_X8_mark_0, x_X8_mark_1, r1 e, r2 e he]
    clear hG hG1 hb hpc hsd r1 z1 f1 k2 f2 hY hx k3 f3 r2
    simp (disch := omega) only [x_X8_mark_88, x_X8_mark_89, List.length_cons, List.length_nil, Nat.reduceLeDiff, Nat.zero_add, iI_add, iI_sub, iI_mul, iI_neg, iI_lt, iI_le, iI_eq, jI_iI, B_True, B_False, B_t, B_f, ck_True, gd_True, cb_v, cb_n, p_mv_rw, p_fv_rw, p_rv_some, pA_1, pA_90, pA_92, pA_3, pA_2, pA_93, pA_4, pA_91, pA_95, pS_i, pW_i, pZ_0, pZ_1, pZ_b, bI_e0, u1_s, u1_n, uA_s, uA_n, true_and, and_true, not_true_eq_false, not_false_eq_true, eq_self, iI_z, al1, al2, al3, al4, al90, al91, al92, al93, al95, Int.cast_ofNat_Int, Nat.reduceAdd, Int.reduceNeg, Int.reduceAdd, Int.reduceSub, Int.reduceMul, Int.reduceLT, Int.reduceLE, Int.reduceGT, Int.reduceGE, Int.reduceEq, Int.reduceNe, Nat.reduceEqDiff, Int.zero_add, Int.add_zero, p_ty0, p_ty1, p_ty2, p_ty3, p_ty4, p_ty5, p_ty6, p_ty7, p_ty8, p_ty9, p_ty10, p_ty11, r3]
  · rw [k3, k2, mkS_2]
    have hmk : MK bb pas its k ↔ ((x = 6 ∧ MKp bb pas its k t) ∨ ((x = 2 ∨ x = 3) ∧ ∃ j, 0 ≤ j ∧ j < 6 ∧ onRay bb j 17 (gn its j) k) ∨ ((x = 2 ∨ x = 4) ∧ ∃ j, 6 ≤ j ∧ j < 12 ∧ onRay bb j 17 (gn its j) k)) ∨ ∃ j, 0 ≤ j ∧ j < 12 ∧ k = w_nb x its j ∧ k ≠ -1 := by
      unfold MK
      rw [hst, ← hx]
      constructor
      · rintro (z | z | z | ⟨z, j, j0, j1, j2, j3⟩ | ⟨z, j, j0, j1, j2, j3⟩)
        · exact Or.inl (Or.inl z)
        · exact Or.inl (Or.inr (Or.inl z))
        · exact Or.inl (Or.inr (Or.inr z))
        · refine Or.inr ⟨j, j0, j1, ?_, j3⟩
          unfold w_nb; rw [if_pos z]; exact j2
        · refine Or.inr ⟨j, j0, j1, ?_, j3⟩
          unfold w_nb; rw [if_neg (by omega), if_pos z]; exact j2
      · rintro ((z | z | z) | ⟨j, j0, j1, j2, j3⟩)
        · exact Or.inl z
        · exact Or.inr (Or.inl z)
        · exact Or.inr (Or.inr (Or.inl z))
        · unfold w_nb at j2
          by_cases c1 : x = 1
          · rw [if_pos c1] at j2
            exact Or.inr (Or.inr (Or.inr (Or.inl ⟨c1, j, j0, j1, j2, j3⟩)))
          · rw [if_neg c1] at j2
            by_cases c5 : x = 5
            · rw [if_pos c5] at j2
              exact Or.inr (Or.inr (Or.inr (Or.inr ⟨c5, j, j0, j1, j2, j3⟩)))
            · rw [if_neg c5] at j2; exact absurd j2 j3
    rw [bI_iff hmk]
    unfold mkS
    by_cases c : ((x = 6 ∧ MKp bb pas its k t) ∨ ((x = 2 ∨ x = 3) ∧ ∃ j, 0 ≤ j ∧ j < 6 ∧ onRay bb j 17 (gn its j) k) ∨ ((x = 2 ∨ x = 4) ∧ ∃ j, 6 ≤ j ∧ j < 12 ∧ onRay bb j 17 (gn its j) k)) ∨ ∃ j, 0 ≤ j ∧ j < 12 ∧ k = w_nb x its j ∧ k ≠ -1
    · rw [if_pos c, bI_t c]
    · rw [if_neg c, bI_f c]; exact z1 k h0 h1
end PMRL
