section PYGO
variable {d bd lg N lg1 N1 cs ss : Nat} {T T1 T2 : pT} {M M0 M1 M2 : pM} {F F1 F2 : pF} {bs bb : Int → Int} {z c x n1 w s t pas q er p its to acc : Int} {k i m n j : Nat} {S : GSx} {R' : List TKn} {L : List Int}
theorem ior_1 : iI 0 ||| iI 0 = iI 0 := by decide
theorem ior_2 : iI 0 ||| iI 1 = iI 1 := by decide
theorem ior_3 : iI 1 ||| iI 0 = iI 1 := by decide
theorem ior_4 : iI 1 ||| iI 1 = iI 1 := by decide
theorem go_fr {l6 l7 : Slot} (hY : YT T F bd lg N) (hL : LMy M 137 L) (hl : L.length ≤ 840) (hx : ∀ x ∈ L, 0 ≤ x ∧ x < 8281) (hi : 0 ≤ its ∧ its < 91) : ∀ (Q P : List Int) (acc : Int), P ++ Q = L → (acc = 0 ∨ acc = 1) → ∀ e, R e m_X8_go 48 [.val (.ref 127), .val (.int (iI (i : Int))), .val (.int (iI (L.length : Int))), .val (.int (iI its)), .val (.int (iI acc)), .val (.int (iI (P.length : Int))), l6, l7] [] T M F = R e m_X8_go 84 [.val (.ref 127), .val (.int (iI (i : Int))), .val (.int (iI (L.length : Int))), .val (.int (iI its)), .val (.int (iI (if acc = 1 ∨ cntF its Q ≠ 0 then 1 else 0))), .val (.int (iI (L.length : Int))), l6, l7] [] T M F := by
  obtain ⟨ty127, ty128, fy1, ty129, fy4, ty130, fy5, ty131, fy6, ty132, fy7, ty133, fy8, ty136, fy15, ty137, fy16, ty138, fy17, ty139, fy18, ty140, fy19, ty141, fy20, ty142, fy21, ty143, fy22, hbd, tybd, fy9, hlg, tylg, fy13, hN⟩ := hY
  intro Q
  induction Q with
  | nil =>
    intro P acc hP ha e
    rw [List.append_nil] at hP
    subst hP
    rw [cntF]
    have e1 : (if acc = 1 ∨ (0 : Int) ≠ 0 then (1 : Int) else 0) = acc := by
      rcases ha with rfl | rfl
      · exact if_neg (by omega)
      · exact if_pos (Or.inl rfl)
    rw [e1]
    clear hL hx
    simp (disch := omega) only [x_X8_go_48, x_X8_go_50, x_X8_go_51, List.length_cons, List.length_nil, Nat.reduceLeDiff, Nat.zero_add, iI_add, iI_sub, iI_mul, iI_neg, iI_lt, iI_le, iI_eq, jI_iI, B_True, B_False, B_t, B_f, ck_True, gd_True, cb_v, cb_n, p_mv_rw, p_fv_rw, p_rv_some, pA_1, pA_90, pA_92, pA_3, pA_2, pA_93, pA_4, pA_91, pA_95, pS_i, pW_i, pZ_0, pZ_1, pZ_b, bI_e0, u1_s, u1_n, uA_s, uA_n, true_and, and_true, not_true_eq_false, not_false_eq_true, eq_self, iI_z, al1, al2, al3, al4, al90, al91, al92, al93, al95, Int.cast_ofNat_Int, Nat.reduceAdd, Int.reduceNeg, Int.reduceAdd, Int.reduceSub, Int.reduceMul, Int.reduceLT, Int.reduceLE, Int.reduceGT, Int.reduceGE, Int.reduceEq, Int.reduceNe, Nat.reduceEqDiff, Int.zero_add, Int.add_zero, p_ty0, p_ty1, p_ty2, p_ty3, p_ty4, p_ty5, p_ty6, p_ty7, p_ty8, p_ty9, p_ty10, p_ty11, B_t, B_f]
  | cons x Q ih =>
    intro P acc hP ha e
    have hPl : P.length + 1 + Q.length = L.length := by rw [← hP]; simp; omega
    have hxr := hx x (by rw [← hP]; simp)
    have hx1 : M 137 (P.length : Int) = x := by rw [hL P.length (by omega), ← hP, getD_mid]
    have hcr := cntF_rg (k := its) Q
    rw [cntF]
    by_cases c : x / 91 = its
    · have ih := ih (P ++ [x]) 1 (by rw [List.append_assoc]; exact hP) (Or.inr rfl) e
      rw [List.length_append, List.length_singleton, Int.natCast_add_one] at ih
      rw [bI_t c]
      rw [if_pos (Or.inl rfl)] at ih
      rw [if_pos (Or.inr (by omega)), ← ih, x_X8_go_48]
      clear hL hx ih hP
      rcases ha with rfl | rfl
      · simp (disch := omega) only [x_X8_go_50, x_X8_go_51, x_X8_go_54, x_X8_go_56, x_X8_go_57, x_X8_go_60, x_X8_go_62, x_X8_go_63, x_X8_go_65, x_X8_go_66, x_X8_go_67, x_X8_go_70, x_X8_go_71, x_X8_go_74, x_X8_go_75, x_X8_go_76, x_X8_go_78, x_X8_go_81, List.length_cons, List.length_nil, Nat.reduceLeDiff, Nat.zero_add, iI_add, iI_sub, iI_mul, iI_neg, iI_lt, iI_le, iI_eq, jI_iI, B_True, B_False, B_t, B_f, ck_True, gd_True, cb_v, cb_n, p_mv_rw, p_fv_rw, p_rv_some, pA_1, pA_90, pA_92, pA_3, pA_2, pA_93, pA_4, pA_91, pA_95, pS_i, pW_i, pZ_0, pZ_1, pZ_b, bI_e0, u1_s, u1_n, uA_s, uA_n, true_and, and_true, not_true_eq_false, not_false_eq_true, eq_self, iI_z, al1, al2, al3, al4, al90, al91, al92, al93, al95, Int.cast_ofNat_Int, Nat.reduceAdd, Int.reduceNeg, Int.reduceAdd, Int.reduceSub, Int.reduceMul, Int.reduceLT, Int.reduceLE, Int.reduceGT, Int.reduceGE, Int.reduceEq, Int.reduceNe, Nat.reduceEqDiff, Int.zero_add, Int.add_zero, p_ty0, p_ty1, p_ty2, p_ty3, p_ty4, p_ty5, p_ty6, p_ty7, p_ty8, p_ty9, p_ty10, p_ty11, ty127, ty128, fy1, ty129, fy4, ty130, fy5, ty131, fy6, ty132, fy7, ty133, fy8, ty136, fy15, ty137, fy16, ty138, fy17, ty139, fy18, ty140, fy19, ty141, fy20, ty142, fy21, ty143, fy22, tybd, fy9, tylg, fy13, hx1, iI_div, ior_1, ior_2, ior_3, ior_4, gd_t, B_t, B_f]
      · simp (disch := omega) only [x_X8_go_50, x_X8_go_51, x_X8_go_54, x_X8_go_56, x_X8_go_57, x_X8_go_60, x_X8_go_62, x_X8_go_63, x_X8_go_65, x_X8_go_66, x_X8_go_67, x_X8_go_70, x_X8_go_71, x_X8_go_74, x_X8_go_75, x_X8_go_76, x_X8_go_78, x_X8_go_81, List.length_cons, List.length_nil, Nat.reduceLeDiff, Nat.zero_add, iI_add, iI_sub, iI_mul, iI_neg, iI_lt, iI_le, iI_eq, jI_iI, B_True, B_False, B_t, B_f, ck_True, gd_True, cb_v, cb_n, p_mv_rw, p_fv_rw, p_rv_some, pA_1, pA_90, pA_92, pA_3, pA_2, pA_93, pA_4, pA_91, pA_95, pS_i, pW_i, pZ_0, pZ_1, pZ_b, bI_e0, u1_s, u1_n, uA_s, uA_n, true_and, and_true, not_true_eq_false, not_false_eq_true, eq_self, iI_z, al1, al2, al3, al4, al90, al91, al92, al93, al95, Int.cast_ofNat_Int, Nat.reduceAdd, Int.reduceNeg, Int.reduceAdd, Int.reduceSub, Int.reduceMul, Int.reduceLT, Int.reduceLE, Int.reduceGT, Int.reduceGE, Int.reduceEq, Int.reduceNe, Nat.reduceEqDiff, Int.zero_add, Int.add_zero, p_ty0, p_ty1, p_ty2, p_ty3, p_ty4, p_ty5, p_ty6, p_ty7, p_ty8, p_ty9, p_ty10, p_ty11, ty127, ty128, fy1, ty129, fy4, ty130, fy5, ty131, fy6, ty132, fy7, ty133, fy8, ty136, fy15, ty137, fy16, ty138, fy17, ty139, fy18, ty140, fy19, ty141, fy20, ty142, fy21, ty143, fy22, tybd, fy9, tylg, fy13, hx1, iI_div, ior_1, ior_2, ior_3, ior_4, gd_t, B_t, B_f]
    · have ih := ih (P ++ [x]) acc (by rw [List.append_assoc]; exact hP) ha e
      rw [List.length_append, List.length_singleton, Int.natCast_add_one] at ih
      rw [bI_f c, Int.zero_add, ← ih, x_X8_go_48]
      clear hL hx ih hP
      rcases ha with rfl | rfl
      · simp (disch := omega) only [x_X8_go_50, x_X8_go_51, x_X8_go_54, x_X8_go_56, x_X8_go_57, x_X8_go_60, x_X8_go_62, x_X8_go_63, x_X8_go_65, x_X8_go_66, x_X8_go_67, x_X8_go_70, x_X8_go_71, x_X8_go_74, x_X8_go_75, x_X8_go_76, x_X8_go_78, x_X8_go_81, List.length_cons, List.length_nil, Nat.reduceLeDiff, Nat.zero_add, iI_add, iI_sub, iI_mul, iI_neg, iI_lt, iI_le, iI_eq, jI_iI, B_True, B_False, B_t, B_f, ck_True, gd_True, cb_v, cb_n, p_mv_rw, p_fv_rw, p_rv_some, pA_1, pA_90, pA_92, pA_3, pA_2, pA_93, pA_4, pA_91, pA_95, pS_i, pW_i, pZ_0, pZ_1, pZ_b, bI_e0, u1_s, u1_n, uA_s, uA_n, true_and, and_true, not_true_eq_false, not_false_eq_true, eq_self, iI_z, al1, al2, al3, al4, al90, al91, al92, al93, al95, Int.cast_ofNat_Int, Nat.reduceAdd, Int.reduceNeg, Int.reduceAdd, Int.reduceSub, Int.reduceMul, Int.reduceLT, Int.reduceLE, Int.reduceGT, Int.reduceGE, Int.reduceEq, Int.reduceNe, Nat.reduceEqDiff, Int.zero_add, Int.add_zero, p_ty0, p_ty1, p_ty2, p_ty3, p_ty4, p_ty5, p_ty6, p_ty7, p_ty8, p_ty9, p_ty10, p_ty11, ty127, ty128, fy1, ty129, fy4, ty130, fy5, ty131, fy6, ty132, fy7, ty133, fy8, ty136, fy15, ty137, fy16, ty138, fy17, ty139, fy18, ty140, fy19, ty141, fy20, ty142, fy21, ty143, fy22, tybd, fy9, tylg, fy13, hx1, iI_div, ior_1, ior_2, ior_3, ior_4, gd_t, B_t, B_f]
      · simp (disch := omega) only [x_X8_go_50, x_X8_go_51, x_X8_go_54, x_X8_go_56, x_X8_go_57, x_X8_go_60, x_X8_go_62, x_X8_go_63, x_X8_go_65, x_X8_go_66, x_X8_go_67, x_X8_go_70, x_X8_go_71, x_X8_go_74, x_X8_go_75, x_X8_go_76, x_X8_go_78, x_X8_go_81, List.length_cons, List.length_nil, Nat.reduceLeDiff, Nat.zero_add, iI_add, iI_sub, iI_mul, iI_neg, iI_lt, iI_le, iI_eq, jI_iI, B_True, B_False, B_t, B_f, ck_True, gd_True, cb_v, cb_n, p_mv_rw, p_fv_rw, p_rv_some, pA_1, pA_90, pA_92, pA_3, pA_2, pA_93, pA_4, pA_91, pA_95, pS_i, pW_i, pZ_0, pZ_1, pZ_b, bI_e0, u1_s, u1_n, uA_s, uA_n, true_and, and_true, not_true_eq_false, not_false_eq_true, eq_self, iI_z, al1, al2, al3, al4, al90, al91, al92, al93, al95, Int.cast_ofNat_Int, Nat.reduceAdd, Int.reduceNeg, Int.reduceAdd, Int.reduceSub, Int.reduceMul, Int.reduceLT, Int.reduceLE, Int.reduceGT, Int.reduceGE, Int.reduceEq, Int.reduceNe, Nat.reduceEqDiff, Int.zero_add, Int.add_zero, p_ty0, p_ty1, p_ty2, p_ty3, p_ty4, p_ty5, p_ty6, p_ty7, p_ty8, p_ty9, p_ty10, p_ty11, ty127, ty128, fy1, ty129, fy4, ty130, fy5, ty131, fy6, ty132, fy7, ty133, fy8, ty136, fy15, ty137, fy16, ty138, fy17, ty139, fy18, ty140, fy19, ty141, fy20, ty142, fy21, ty143, fy22, tybd, fy9, tylg, fy13, hx1, iI_div, ior_1, ior_2, ior_3, ior_4, gd_t, B_t, B_f]
noncomputable def inL (acc x : Int) (Q : List Int) : Int := @ite _ (acc = 1 ∨ x ∈ Q) (Classical.propDecidable _) 1 0
theorem go_to {l4 : Slot} (hY : YT T F bd lg N) (hL : LMy M 137 L) (hl : L.length ≤ 840) (hx : ∀ x ∈ L, 0 ≤ x ∧ x < 8281) (hi : 0 ≤ its ∧ its < 91) (ho : 0 ≤ to ∧ to < 91) : ∀ (Q P : List Int) (acc : Int), P ++ Q = L → (acc = 0 ∨ acc = 1) → ∀ e, R e m_X8_go 128 [.val (.ref 127), .val (.int (iI (i : Int))), .val (.int (iI (L.length : Int))), .val (.int (iI its)), l4, .val (.int (iI to)), .val (.int (iI acc)), .val (.int (iI (P.length : Int)))] [] T M F = R e m_X8_go 167 [.val (.ref 127), .val (.int (iI (i : Int))), .val (.int (iI (L.length : Int))), .val (.int (iI its)), l4, .val (.int (iI to)), .val (.int (iI (inL acc (91 * its + to) Q))), .val (.int (iI (L.length : Int)))] [] T M F := by
  obtain ⟨ty127, ty128, fy1, ty129, fy4, ty130, fy5, ty131, fy6, ty132, fy7, ty133, fy8, ty136, fy15, ty137, fy16, ty138, fy17, ty139, fy18, ty140, fy19, ty141, fy20, ty142, fy21, ty143, fy22, hbd, tybd, fy9, hlg, tylg, fy13, hN⟩ := hY
  intro Q
  induction Q with
  | nil =>
    intro P acc hP ha e
    rw [List.append_nil] at hP
    subst hP
    have e1 : inL acc (91 * its + to) [] = acc := by
      unfold inL
      rcases ha with rfl | rfl
      · exact if_neg (by rintro (z | z); omega; exact absurd z List.not_mem_nil)
      · exact if_pos (Or.inl rfl)
    rw [e1]
    clear hL hx
    simp (disch := omega) only [x_X8_go_128, x_X8_go_130, x_X8_go_131, List.length_cons, List.length_nil, Nat.reduceLeDiff, Nat.zero_add, iI_add, iI_sub, iI_mul, iI_neg, iI_lt, iI_le, iI_eq, jI_iI, B_True, B_False, B_t, B_f, ck_True, gd_True, cb_v, cb_n, p_mv_rw, p_fv_rw, p_rv_some, pA_1, pA_90, pA_92, pA_3, pA_2, pA_93, pA_4, pA_91, pA_95, pS_i, pW_i, pZ_0, pZ_1, pZ_b, bI_e0, u1_s, u1_n, uA_s, uA_n, true_and, and_true, not_true_eq_false, not_false_eq_true, eq_self, iI_z, al1, al2, al3, al4, al90, al91, al92, al93, al95, Int.cast_ofNat_Int, Nat.reduceAdd, Int.reduceNeg, Int.reduceAdd, Int.reduceSub, Int.reduceMul, Int.reduceLT, Int.reduceLE, Int.reduceGT, Int.reduceGE, Int.reduceEq, Int.reduceNe, Nat.reduceEqDiff, Int.zero_add, Int.add_zero, p_ty0, p_ty1, p_ty2, p_ty3, p_ty4, p_ty5, p_ty6, p_ty7, p_ty8, p_ty9, p_ty10, p_ty11, B_t, B_f]
  | cons x Q ih =>
    intro P acc hP ha e
    have hPl : P.length + 1 + Q.length = L.length := by rw [← hP]; simp; omega
    have hxr := hx x (by rw [← hP]; simp)
    have hx1 : M 137 (P.length : Int) = x := by rw [hL P.length (by omega), ← hP, getD_mid]
    by_cases c : x = 91 * its + to
    · have ih := ih (P ++ [x]) 1 (by rw [List.append_assoc]; exact hP) (Or.inr rfl) e
      rw [List.length_append, List.length_singleton, Int.natCast_add_one] at ih
      rw [show inL 1 (91 * its + to) Q = 1 from if_pos (Or.inl rfl)] at ih
      rw [show inL acc (91 * its + to) (x :: Q) = 1 from if_pos (Or.inr (by rw [c]; exact List.mem_cons_self)), ← ih, x_X8_go_128]
      clear hL hx ih hP
      rcases ha with rfl | rfl
      · simp (disch := omega) only [x_X8_go_130, x_X8_go_131, x_X8_go_134, x_X8_go_136, x_X8_go_137, x_X8_go_140, x_X8_go_142, x_X8_go_143, x_X8_go_145, x_X8_go_146, x_X8_go_147, x_X8_go_149, x_X8_go_150, x_X8_go_153, x_X8_go_154, x_X8_go_157, x_X8_go_158, x_X8_go_159, x_X8_go_161, x_X8_go_164, List.length_cons, List.length_nil, Nat.reduceLeDiff, Nat.zero_add, iI_add, iI_sub, iI_mul, iI_neg, iI_lt, iI_le, iI_eq, jI_iI, B_True, B_False, B_t, B_f, ck_True, gd_True, cb_v, cb_n, p_mv_rw, p_fv_rw, p_rv_some, pA_1, pA_90, pA_92, pA_3, pA_2, pA_93, pA_4, pA_91, pA_95, pS_i, pW_i, pZ_0, pZ_1, pZ_b, bI_e0, u1_s, u1_n, uA_s, uA_n, true_and, and_true, not_true_eq_false, not_false_eq_true, eq_self, iI_z, al1, al2, al3, al4, al90, al91, al92, al93, al95, Int.cast_ofNat_Int, Nat.reduceAdd, Int.reduceNeg, Int.reduceAdd, Int.reduceSub, Int.reduceMul, Int.reduceLT, Int.reduceLE, Int.reduceGT, Int.reduceGE, Int.reduceEq, Int.reduceNe, Nat.reduceEqDiff, Int.zero_add, Int.add_zero, p_ty0, p_ty1, p_ty2, p_ty3, p_ty4, p_ty5, p_ty6, p_ty7, p_ty8, p_ty9, p_ty10, p_ty11, ty127, ty128, fy1, ty129, fy4, ty130, fy5, ty131, fy6, ty132, fy7, ty133, fy8, ty136, fy15, ty137, fy16, ty138, fy17, ty139, fy18, ty140, fy19, ty141, fy20, ty142, fy21, ty143, fy22, tybd, fy9, tylg, fy13, hx1, c, ior_1, ior_2, ior_3, ior_4, gd_t, B_t, B_f]
      · simp (disch := omega) only [x_X8_go_130, x_X8_go_131, x_X8_go_134, x_X8_go_136, x_X8_go_137, x_X8_go_140, x_X8_go_142, x_X8_go_143, x_X8_go_145, x_X8_go_146, x_X8_go_147, x_X8_go_149, x_X8_go_150, x_X8_go_153, x_X8_go_154, x_X8_go_157, x_X8_go_158, x_X8_go_159, x_X8_go_161, x_X8_go_164, List.length_cons, List.length_nil, Nat.reduceLeDiff, Nat.zero_add, iI_add, iI_sub, iI_mul, iI_neg, iI_lt, iI_le, iI_eq, jI_iI, B_True, B_False, B_t, B_f, ck_True, gd_True, cb_v, cb_n, p_mv_rw, p_fv_rw, p_rv_some, pA_1, pA_90, pA_92, pA_3, pA_2, pA_93, pA_4, pA_91, pA_95, pS_i, pW_i, pZ_0, pZ_1, pZ_b, bI_e0, u1_s, u1_n, uA_s, uA_n, true_and, and_true, not_true_eq_false, not_false_eq_true, eq_self, iI_z, al1, al2, al3, al4, al90, al91, al92, al93, al95, Int.cast_ofNat_Int, Nat.reduceAdd, Int.reduceNeg, Int.reduceAdd, Int.reduceSub, Int.reduceMul, Int.reduceLT, Int.reduceLE, Int.reduceGT, Int.reduceGE, Int.reduceEq, Int.reduceNe, Nat.reduceEqDiff, Int.zero_add, Int.add_zero, p_ty0, p_ty1, p_ty2, p_ty3, p_ty4, p_ty5, p_ty6, p_ty7, p_ty8, p_ty9, p_ty10, p_ty11, ty127, ty128, fy1, ty129, fy4, ty130, fy5, ty131, fy6, ty132, fy7, ty133, fy8, ty136, fy15, ty137, fy16, ty138, fy17, ty139, fy18, ty140, fy19, ty141, fy20, ty142, fy21, ty143, fy22, tybd, fy9, tylg, fy13, hx1, c, ior_1, ior_2, ior_3, ior_4, gd_t, B_t, B_f]
    · have ih := ih (P ++ [x]) acc (by rw [List.append_assoc]; exact hP) ha e
      rw [List.length_append, List.length_singleton, Int.natCast_add_one] at ih
      have e2 : inL acc (91 * its + to) (x :: Q) = inL acc (91 * its + to) Q := by
        unfold inL
        by_cases z : acc = 1 ∨ 91 * its + to ∈ Q
        · rw [if_pos z, if_pos (z.elim Or.inl (fun y => Or.inr (List.mem_cons_of_mem _ y)))]
        · rw [if_neg z, if_neg]
          rintro (y | y)
          · exact z (Or.inl y)
          · rcases List.mem_cons.mp y with y | y
            · exact c y.symm
            · exact z (Or.inr y)
      rw [e2, ← ih, x_X8_go_128]
      clear hL hx ih hP e2
      rcases ha with rfl | rfl
      · simp (disch := omega) only [x_X8_go_130, x_X8_go_131, x_X8_go_134, x_X8_go_136, x_X8_go_137, x_X8_go_140, x_X8_go_142, x_X8_go_143, x_X8_go_145, x_X8_go_146, x_X8_go_147, x_X8_go_149, x_X8_go_150, x_X8_go_153, x_X8_go_154, x_X8_go_157, x_X8_go_158, x_X8_go_159, x_X8_go_161, x_X8_go_164, List.length_cons, List.length_nil, Nat.reduceLeDiff, Nat.zero_add, iI_add, iI_sub, iI_mul, iI_neg, iI_lt, iI_le, iI_eq, jI_iI, B_True, B_False, B_t, B_f, ck_True, gd_True, cb_v, cb_n, p_mv_rw, p_fv_rw, p_rv_some, pA_1, pA_90, pA_92, pA_3, pA_2, pA_93, pA_4, pA_91, pA_95, pS_i, pW_i, pZ_0, pZ_1, pZ_b, bI_e0, u1_s, u1_n, uA_s, uA_n, true_and, and_true, not_true_eq_false, not_false_eq_true, eq_self, iI_z, al1, al2, al3, al4, al90, al91, al92, al93, al95, Int.cast_ofNat_Int, Nat.reduceAdd, Int.reduceNeg, Int.reduceAdd, Int.reduceSub, Int.reduceMul, Int.reduceLT, Int.reduceLE, Int.reduceGT, Int.reduceGE, Int.reduceEq, Int.reduceNe, Nat.reduceEqDiff, Int.zero_add, Int.add_zero, p_ty0, p_ty1, p_ty2, p_ty3, p_ty4, p_ty5, p_ty6, p_ty7, p_ty8, p_ty9, p_ty10, p_ty11, ty127, ty128, fy1, ty129, fy4, ty130, fy5, ty131, fy6, ty132, fy7, ty133, fy8, ty136, fy15, ty137, fy16, ty138, fy17, ty139, fy18, ty140, fy19, ty141, fy20, ty142, fy21, ty143, fy22, tybd, fy9, tylg, fy13, hx1, ior_1, ior_2, ior_3, ior_4, gd_t, B_t, B_f]
      · simp (disch := omega) only [x_X8_go_130, x_X8_go_131, x_X8_go_134, x_X8_go_136, x_X8_go_137, x_X8_go_140, x_X8_go_142, x_X8_go_143, x_X8_go_145, x_X8_go_146, x_X8_go_147, x_X8_go_149, x_X8_go_150, x_X8_go_153, x_X8_go_154, x_X8_go_157, x_X8_go_158, x_X8_go_159, x_X8_go_161, x_X8_go_164, List.length_cons, List.length_nil, Nat.reduceLeDiff, Nat.zero_add, iI_add, iI_sub, iI_mul, iI_neg, iI_lt, iI_le, iI_eq, jI_iI, B_True, B_False, B_t, B_f, ck_True, gd_True, cb_v, cb_n, p_mv_rw, p_fv_rw, p_rv_some, pA_1, pA_90, pA_92, pA_3, pA_2, pA_93, pA_4, pA_91, pA_95, pS_i, pW_i, pZ_0, pZ_1, pZ_b, bI_e0, u1_s, u1_n, uA_s, uA_n, true_and, and_true, not_true_eq_false, not_false_eq_true, eq_self, iI_z, al1, al2, al3, al4, al90, al91, al92, al93, al95, Int.cast_ofNat_Int, Nat.reduceAdd, Int.reduceNeg, Int.reduceAdd, Int.reduceSub, Int.reduceMul, Int.reduceLT, Int.reduceLE, Int.reduceGT, Int.reduceGE, Int.reduceEq, Int.reduceNe, Nat.reduceEqDiff, Int.zero_add, Int.add_zero, p_ty0, p_ty1, p_ty2, p_ty3, p_ty4, p_ty5, p_ty6, p_ty7, p_ty8, p_ty9, p_ty10, p_ty11, ty127, ty128, fy1, ty129, fy4, ty130, fy5, ty131, fy6, ty132, fy7, ty133, fy8, ty136, fy15, ty137, fy16, ty138, fy17, ty139, fy18, ty140, fy19, ty141, fy20, ty142, fy21, ty143, fy22, tybd, fy9, tylg, fy13, hx1, ior_1, ior_2, ior_3, ior_4, gd_t, B_t, B_f]
theorem name_at (hK : TKM M bs z m) (hT : YTp M bs z) (hj : j < m) (h14 : (tkn bs z j).2.1 = 14) (hY : YT T F bd lg N) (hG : YG M) (hd : 3 ≤ d) : callD d m_X8_namedBy [.ref 127, .int (iI (j : Int))] T M F = some (.inl (some (.int (iI (tkn bs z j).2.2))), T, M, F) := by
  have sp := (kcn_lt (hK.2.2.1 j hj)).1
  have z0 := spn_rg (bs := bs) hT.2.2.1 j
  have hE := t_end_rg (bs := bs) (p := spn bs z j) (z := z) ⟨z0, sp⟩
  have hL : t_L (t_b bs z (spn bs z j)) := by
    have hc := kd_code (bs := bs) (p := spn bs z j) (z := z) ⟨z0, sp⟩
    have h14' : t_kd bs z (spn bs z j) (t_end bs z (spn bs z j)) = 14 := h14
    rw [h14'] at hc
    refine Classical.byContradiction (fun q => ?_)
    rw [if_neg q] at hc
    have : mcd 14 = 20 := rfl
    rw [this] at hc
    split at hc <;> omega
  exact y_named (d := d) (j := j) hY hG hT z0 hE hL (by have := hK.1; omega) (hK.2.2.2.1 j (by omega)).1 (hK.2.2.2.2 j hj) hd
theorem XTc.xl : ∀ a, XL bd 137 a → XTc bd a := by
  intro a h
  unfold XL at h
  unfold XTc
  omega
theorem TKM.fr (h : TKM M bs z m) (f1 : M1 141 = M 141) (f2 : M1 142 = M 142) (f3 : M1 143 = M 143) : TKM M1 bs z m := by
  unfold TKM at *; rw [f1, f2, f3]; exact h
theorem y_go {x0 x1 x2 x3 : TKn} (hQ : YQ T M F bd lg N S) (hP : SPx S) (hK : TKM M bs z m) (hT : YTp M bs z) (hi : i + 4 ≤ m) (hH : S.2.2.2.2.length ≤ 100) (e0 : x0 = tkn bs z i) (e1 : x1 = tkn bs z (i + 1)) (e2 : x2 = tkn bs z (i + 2)) (e3 : x3 = tkn bs z (i + 3)) (k1 : x1.2.1 = 14) (k2 : x2.2.1 = 14) (k3 : x3.2.1 = 4 ∨ x3.2.1 = 13) (k4 : x3.2.1 = 4 → i + 5 ≤ m ∧ (7 ≤ (R'.getD 0 tk0).2.1 ∧ (R'.getD 0 tk0).2.1 ≤ 12) ∧ R'.getD 0 tk0 = tkn bs z (i + 4)) :
    YPR T M F bd lg N m_X8_go [.ref 127, .int (iI (i : Int))] 9 0 0 (d_go x0 (x1 :: x2 :: x3 :: R') S) := by
  obtain ⟨hV, hS⟩ := hQ
  have hm := hK.1
  obtain ⟨d0, d0', d1, d2, d3, d4⟩ := id hV.2.1
  obtain ⟨T1, M1, F1, lg1, N1, r1, L1, G1, R1⟩ := y_list (io := 137) (Or.inl rfl) hV hS hP.1 (by omega)
  have hl := lgQ_le hP.1
  have R1' := R1.wk (Y := XTc bd) (XTc.xl (bd := bd))
  obtain ⟨V1, S1, j1, C1⟩ := id R1
  have mm : ∀ a, a = 128 ∨ a = 141 ∨ a = 142 ∨ a = 143 → M1 a = M a := fun a ha => C1.2.1 a (by omega) (by unfold XL; omega) (by omega)
  have K1 : TKM M1 bs z m := hK.fr (mm 141 (by omega)) (mm 142 (by omega)) (mm 143 (by omega))
  have T1p : YTp M1 bs z := ⟨by rw [mm 128 (by omega)]; exact hT.1, by rw [j1 2 (by omega) (by omega) (by omega) (by omega)]; exact hT.2.1, hT.2.2⟩
  have hY1 := V1.1
  have hG1 := S1.1
  have s1 := S1.2.1
  have g0 := (K1.2.2.2.1 i (by omega)).1
  have g1 := (K1.2.2.2.1 (i + 1) (by omega)).1
  have g2 := (K1.2.2.2.1 (i + 2) (by omega)).1
  have a3 := (K1.2.2.2.1 (i + 3) (by omega)).2
  have c3 := kd_kc (K1.2.2.1 (i + 3) (by omega))
  rw [← e3] at c3
  have z0 := fun j => spn_rg (bs := bs) hT.2.2.1 j
  have hz2 := hT.2.2.1
  have sp0 := (kcn_lt (K1.2.2.1 i (by omega))).1
  have sp1 := (kcn_lt (K1.2.2.1 (i + 1) (by omega))).1
  have sp2 := (kcn_lt (K1.2.2.1 (i + 2) (by omega))).1
  have n1 := fun e (he : 3 ≤ e) => name_at (d := e) (j := i + 1) K1 T1p (by omega) (by rw [← e1]; exact k1) hY1 hG1 he
  have n2 := fun e (he : 3 ≤ e) => name_at (d := e) (j := i + 2) K1 T1p (by omega) (by rw [← e2]; exact k2) hY1 hG1 he
  rw [← e1] at n1
  rw [← e2] at n2
  have o1 : -1 ≤ x1.2.2 ∧ x1.2.2 < 91 := by rw [e1]; exact t_cs_rg hT.2.2.2
  have o2 : -1 ≤ x2.2.2 ∧ x2.2.2 < 91 := by rw [e2]; exact t_cs_rg hT.2.2.2
  have b0 := fun er (he : 0 ≤ er ∧ er ≤ 10) e (h2 : 3 ≤ e) => y_wrong (d := e) (er := er) (j := i) hY1 (by omega) g0 (by have := z0 i; omega) he (by omega)
  have b1 := fun er (he : 0 ≤ er ∧ er ≤ 10) e (h2 : 3 ≤ e) => y_wrong (d := e) (er := er) (j := i + 1) hY1 (by omega) g1 (by have := z0 (i + 1); omega) he (by omega)
  have b2 := fun er (he : 0 ≤ er ∧ er ≤ 10) e (h2 : 3 ≤ e) => y_wrong (d := e) (er := er) (j := i + 2) hY1 (by omega) g2 (by have := z0 (i + 2); omega) he (by omega)
  rw [show spn bs z i = x0.1 by rw [e0]; rfl] at b0
  rw [show spn bs z (i + 1) = x1.1 by rw [e1]; rfl] at b1
  rw [show spn bs z (i + 2) = x2.1 by rw [e2]; rfl] at b2
  have i1 : (i : Int) + 1 = ((i + 1 : Nat) : Int) := by omega
  have i2 : (i : Int) + 2 = ((i + 2 : Nat) : Int) := by omega
  have i3 : (i : Int) + 3 = ((i + 3 : Nat) : Int) := by omega
  have i4 : (i : Int) + 4 = ((i + 4 : Nat) : Int) := by omega
  have hxr : ∀ x ∈ lgQ S.1 S.2.1 S.2.2.1 S.2.2.2.1, 0 ≤ x ∧ x < 8281 := fun x hx => lgQ_rg hx
  obtain ⟨v127, -, -, -, -, -, -, -, -, -, -, -, -, -, -, v137, v16, -⟩ := hV.1
  have ty1 := hY1
  obtain ⟨ty127, ty128, fy1, ty129, fy4, ty130, fy5, ty131, fy6, ty132, fy7, ty133, fy8, ty136, fy15, ty137, fy16, ty138, fy17, ty139, fy18, ty140, fy19, ty141, fy20, ty142, fy21, ty143, fy22, hbd, tybd, fy9, hlg, tylg, fy13, hN⟩ := ty1
  have dd0 : (x1 :: x2 :: x3 :: R').getD 0 tk0 = x1 := rfl
  have dd1 : (x1 :: x2 :: x3 :: R').getD 1 tk0 = x2 := rfl
  have dd2 : (x1 :: x2 :: x3 :: R').getD 2 tk0 = x3 := rfl
  have dd3 : (x1 :: x2 :: x3 :: R').getD 3 tk0 = R'.getD 0 tk0 := rfl
  unfold d_go
  rw [dd0, dd1, dd2, dd3]
  by_cases c1 : (lgQ S.1 S.2.1 S.2.2.1 S.2.2.2.1).length = 0
  · rw [if_pos c1]
    refine YPR.bad R1' (G1.gd hH) (by omega) (fun d hd => ?_)
    refine callD_go 8 hd rfl (fun e he => ?_)
    show R e m_X8_go 0 [.val (.ref 127), .val (.int (iI (i : Int))), .unset, .unset, .unset, .unset, .unset, .unset] [] T M F = _
    have r1 := r1 e (by omega)
    have b0 := b0 4 (by omega) e (by omega)
    rw [c1] at r1
    clear hV hS hP hK hT R1 R1' V1 S1 C1 K1 T1p L1 hY1 hG1 n1 n2 b1 b2 hxr mm j1 z0
    simp (disch := omega) only [x_X8_go_0, x_X8_go_1, x_X8_go_2, x_X8_go_5, x_X8_go_8, x_X8_go_9, x_X8_go_10, x_X8_go_13, x_X8_go_14, x_X8_go_15, x_X8_go_16, x_X8_go_19, List.length_cons, List.length_nil, Nat.reduceLeDiff, Nat.zero_add, iI_add, iI_sub, iI_mul, iI_neg, iI_lt, iI_le, iI_eq, jI_iI, B_True, B_False, B_t, B_f, ck_True, gd_True, cb_v, cb_n, p_mv_rw, p_fv_rw, p_rv_some, pA_1, pA_90, pA_92, pA_3, pA_2, pA_93, pA_4, pA_91, pA_95, pS_i, pW_i, pZ_0, pZ_1, pZ_b, bI_e0, u1_s, u1_n, uA_s, uA_n, true_and, and_true, not_true_eq_false, not_false_eq_true, eq_self, iI_z, al1, al2, al3, al4, al90, al91, al92, al93, al95, Int.cast_ofNat_Int, Nat.reduceAdd, Int.reduceNeg, Int.reduceAdd, Int.reduceSub, Int.reduceMul, Int.reduceLT, Int.reduceLE, Int.reduceGT, Int.reduceGE, Int.reduceEq, Int.reduceNe, Nat.reduceEqDiff, Int.zero_add, Int.add_zero, p_ty0, p_ty1, p_ty2, p_ty3, p_ty4, p_ty5, p_ty6, p_ty7, p_ty8, p_ty9, p_ty10, p_ty11, v127, v137, v16, ty127, r1, b0, Int.natCast_zero, gd_t, B_t, B_f]
  rw [if_neg c1]
  have pre1 : ∀ e, 8 ≤ e → R e m_X8_go 0 [.val (.ref 127), .val (.int (iI (i : Int))), .unset, .unset, .unset, .unset, .unset, .unset] [] T M F = R e m_X8_go 28 [.val (.ref 127), .val (.int (iI (i : Int))), .val (.int (iI ((lgQ S.1 S.2.1 S.2.2.1 S.2.2.2.1).length : Int))), .val (.int (iI x1.2.2)), .unset, .unset, .unset, .unset] [] T1 M1 F1 := by
    intro e he
    have r1 := r1 e (by omega)
    have n1 := n1 e (by omega)
    clear hV hS hP hK hT R1 R1' V1 S1 C1 K1 T1p L1 hY1 hG1 n2 b0 b1 b2 hxr mm j1 z0
    simp (disch := omega) only [x_X8_go_0, x_X8_go_1, x_X8_go_2, x_X8_go_5, x_X8_go_8, x_X8_go_9, x_X8_go_10, x_X8_go_13, x_X8_go_14, x_X8_go_15, x_X8_go_16, x_X8_go_19, x_X8_go_20, x_X8_go_21, x_X8_go_22, x_X8_go_23, x_X8_go_24, x_X8_go_27, List.length_cons, List.length_nil, Nat.reduceLeDiff, Nat.zero_add, iI_add, iI_sub, iI_mul, iI_neg, iI_lt, iI_le, iI_eq, jI_iI, B_True, B_False, B_t, B_f, ck_True, gd_True, cb_v, cb_n, p_mv_rw, p_fv_rw, p_rv_some, pA_1, pA_90, pA_92, pA_3, pA_2, pA_93, pA_4, pA_91, pA_95, pS_i, pW_i, pZ_0, pZ_1, pZ_b, bI_e0, u1_s, u1_n, uA_s, uA_n, true_and, and_true, not_true_eq_false, not_false_eq_true, eq_self, iI_z, al1, al2, al3, al4, al90, al91, al92, al93, al95, Int.cast_ofNat_Int, Nat.reduceAdd, Int.reduceNeg, Int.reduceAdd, Int.reduceSub, Int.reduceMul, Int.reduceLT, Int.reduceLE, Int.reduceGT, Int.reduceGE, Int.reduceEq, Int.reduceNe, Nat.reduceEqDiff, Int.zero_add, Int.add_zero, p_ty0, p_ty1, p_ty2, p_ty3, p_ty4, p_ty5, p_ty6, p_ty7, p_ty8, p_ty9, p_ty10, p_ty11, v127, v137, v16, ty127, r1, n1, i1, gd_t, B_t, B_f]
  by_cases c2 : x1.2.2 = -1
  · rw [if_pos c2]
    refine YPR.bad R1' (G1.gd hH) (by omega) (fun d hd => ?_)
    refine callD_go 8 hd rfl (fun e he => ?_)
    show R e m_X8_go 0 [.val (.ref 127), .val (.int (iI (i : Int))), .unset, .unset, .unset, .unset, .unset, .unset] [] T M F = _
    rw [pre1 e he, c2]
    have b1 := b1 2 (by omega) e (by omega)
    clear hV hS hP hK hT R1 R1' V1 S1 C1 K1 T1p L1 hY1 hG1 n1 n2 b0 b2 hxr mm j1 z0 pre1 r1
    simp (disch := omega) only [x_X8_go_28, x_X8_go_29, x_X8_go_30, x_X8_go_33, x_X8_go_34, x_X8_go_35, x_X8_go_36, x_X8_go_37, x_X8_go_38, x_X8_go_41, List.length_cons, List.length_nil, Nat.reduceLeDiff, Nat.zero_add, iI_add, iI_sub, iI_mul, iI_neg, iI_lt, iI_le, iI_eq, jI_iI, B_True, B_False, B_t, B_f, ck_True, gd_True, cb_v, cb_n, p_mv_rw, p_fv_rw, p_rv_some, pA_1, pA_90, pA_92, pA_3, pA_2, pA_93, pA_4, pA_91, pA_95, pS_i, pW_i, pZ_0, pZ_1, pZ_b, bI_e0, u1_s, u1_n, uA_s, uA_n, true_and, and_true, not_true_eq_false, not_false_eq_true, eq_self, iI_z, al1, al2, al3, al4, al90, al91, al92, al93, al95, Int.cast_ofNat_Int, Nat.reduceAdd, Int.reduceNeg, Int.reduceAdd, Int.reduceSub, Int.reduceMul, Int.reduceLT, Int.reduceLE, Int.reduceGT, Int.reduceGE, Int.reduceEq, Int.reduceNe, Nat.reduceEqDiff, Int.zero_add, Int.add_zero, p_ty0, p_ty1, p_ty2, p_ty3, p_ty4, p_ty5, p_ty6, p_ty7, p_ty8, p_ty9, p_ty10, p_ty11, ty127, b1, i1, gd_t, B_t, B_f]
  rw [if_neg c2]
  have fr := fun l6 l7 e => go_fr (i := i) (l6 := l6) (l7 := l7) hY1 L1 hl hxr (its := x1.2.2) (by omega) (lgQ S.1 S.2.1 S.2.2.1 S.2.2.2.1) [] 0 (List.nil_append _) (Or.inl rfl) e
  have pre2 : ∀ e, 8 ≤ e → R e m_X8_go 0 [.val (.ref 127), .val (.int (iI (i : Int))), .unset, .unset, .unset, .unset, .unset, .unset] [] T M F = R e m_X8_go 84 [.val (.ref 127), .val (.int (iI (i : Int))), .val (.int (iI ((lgQ S.1 S.2.1 S.2.2.1 S.2.2.2.1).length : Int))), .val (.int (iI x1.2.2)), .val (.int (iI (if (0 : Int) = 1 ∨ cntF x1.2.2 (lgQ S.1 S.2.1 S.2.2.1 S.2.2.2.1) ≠ 0 then 1 else 0))), .val (.int (iI ((lgQ S.1 S.2.1 S.2.2.1 S.2.2.2.1).length : Int))), .unset, .unset] [] T1 M1 F1 := by
    intro e he
    rw [pre1 e he, ← fr .unset .unset e, List.length_nil, Int.natCast_zero]
    clear hV hS hP hK hT R1 R1' V1 S1 C1 K1 T1p L1 hY1 hG1 n1 n2 b0 b1 b2 hxr mm j1 z0 pre1 r1 fr
    simp (disch := omega) only [x_X8_go_28, x_X8_go_29, x_X8_go_30, x_X8_go_33, x_X8_go_34, x_X8_go_35, x_X8_go_36, x_X8_go_37, x_X8_go_38, x_X8_go_41, x_X8_go_42, x_X8_go_43, x_X8_go_45, x_X8_go_46, List.length_cons, List.length_nil, Nat.reduceLeDiff, Nat.zero_add, iI_add, iI_sub, iI_mul, iI_neg, iI_lt, iI_le, iI_eq, jI_iI, B_True, B_False, B_t, B_f, ck_True, gd_True, cb_v, cb_n, p_mv_rw, p_fv_rw, p_rv_some, pA_1, pA_90, pA_92, pA_3, pA_2, pA_93, pA_4, pA_91, pA_95, pS_i, pW_i, pZ_0, pZ_1, pZ_b, bI_e0, u1_s, u1_n, uA_s, uA_n, true_and, and_true, not_true_eq_false, not_false_eq_true, eq_self, iI_z, al1, al2, al3, al4, al90, al91, al92, al93, al95, Int.cast_ofNat_Int, Nat.reduceAdd, Int.reduceNeg, Int.reduceAdd, Int.reduceSub, Int.reduceMul, Int.reduceLT, Int.reduceLE, Int.reduceGT, Int.reduceGE, Int.reduceEq, Int.reduceNe, Nat.reduceEqDiff, Int.zero_add, Int.add_zero, p_ty0, p_ty1, p_ty2, p_ty3, p_ty4, p_ty5, p_ty6, p_ty7, p_ty8, p_ty9, p_ty10, p_ty11, B_t, B_f]
  clear fr pre1
  by_cases c4 : cntF x1.2.2 (lgQ S.1 S.2.1 S.2.2.1 S.2.2.2.1) = 0
  · rw [if_pos c4]
    refine YPR.bad R1' (G1.gd hH) (by omega) (fun d hd => ?_)
    refine callD_go 8 hd rfl (fun e he => ?_)
    show R e m_X8_go 0 [.val (.ref 127), .val (.int (iI (i : Int))), .unset, .unset, .unset, .unset, .unset, .unset] [] T M F = _
    rw [pre2 e he, if_neg (by rintro (q | q); omega; exact q c4)]
    have b1 := b1 4 (by omega) e (by omega)
    clear hV hS hP hK hT R1 R1' V1 S1 C1 K1 T1p L1 hY1 hG1 n1 n2 b0 b2 hxr mm j1 z0 pre2 r1
    simp (disch := omega) only [x_X8_go_84, x_X8_go_86, x_X8_go_89, x_X8_go_90, x_X8_go_91, x_X8_go_92, x_X8_go_93, x_X8_go_94, x_X8_go_97, List.length_cons, List.length_nil, Nat.reduceLeDiff, Nat.zero_add, iI_add, iI_sub, iI_mul, iI_neg, iI_lt, iI_le, iI_eq, jI_iI, B_True, B_False, B_t, B_f, ck_True, gd_True, cb_v, cb_n, p_mv_rw, p_fv_rw, p_rv_some, pA_1, pA_90, pA_92, pA_3, pA_2, pA_93, pA_4, pA_91, pA_95, pS_i, pW_i, pZ_0, pZ_1, pZ_b, bI_e0, u1_s, u1_n, uA_s, uA_n, true_and, and_true, not_true_eq_false, not_false_eq_true, eq_self, iI_z, al1, al2, al3, al4, al90, al91, al92, al93, al95, Int.cast_ofNat_Int, Nat.reduceAdd, Int.reduceNeg, Int.reduceAdd, Int.reduceSub, Int.reduceMul, Int.reduceLT, Int.reduceLE, Int.reduceGT, Int.reduceGE, Int.reduceEq, Int.reduceNe, Nat.reduceEqDiff, Int.zero_add, Int.add_zero, p_ty0, p_ty1, p_ty2, p_ty3, p_ty4, p_ty5, p_ty6, p_ty7, p_ty8, p_ty9, p_ty10, p_ty11, ty127, b1, i1, gd_t, B_t, B_f]
  rw [if_neg c4]
  have pre3 : ∀ e, 8 ≤ e → R e m_X8_go 0 [.val (.ref 127), .val (.int (iI (i : Int))), .unset, .unset, .unset, .unset, .unset, .unset] [] T M F = R e m_X8_go 107 [.val (.ref 127), .val (.int (iI (i : Int))), .val (.int (iI ((lgQ S.1 S.2.1 S.2.2.1 S.2.2.2.1).length : Int))), .val (.int (iI x1.2.2)), .val (.int (iI 1)), .val (.int (iI x2.2.2)), .unset, .unset] [] T1 M1 F1 := by
    intro e he
    rw [pre2 e he, if_pos (Or.inr c4)]
    have n2 := n2 e (by omega)
    clear hV hS hP hK hT R1 R1' V1 S1 C1 K1 T1p L1 hY1 hG1 n1 b0 b1 b2 hxr mm j1 z0 pre2 r1
    simp (disch := omega) only [x_X8_go_84, x_X8_go_86, x_X8_go_89, x_X8_go_90, x_X8_go_91, x_X8_go_92, x_X8_go_93, x_X8_go_94, x_X8_go_97, x_X8_go_98, x_X8_go_99, x_X8_go_100, x_X8_go_101, x_X8_go_102, x_X8_go_105, List.length_cons, List.length_nil, Nat.reduceLeDiff, Nat.zero_add, iI_add, iI_sub, iI_mul, iI_neg, iI_lt, iI_le, iI_eq, jI_iI, B_True, B_False, B_t, B_f, ck_True, gd_True, cb_v, cb_n, p_mv_rw, p_fv_rw, p_rv_some, pA_1, pA_90, pA_92, pA_3, pA_2, pA_93, pA_4, pA_91, pA_95, pS_i, pW_i, pZ_0, pZ_1, pZ_b, bI_e0, u1_s, u1_n, uA_s, uA_n, true_and, and_true, not_true_eq_false, not_false_eq_true, eq_self, iI_z, al1, al2, al3, al4, al90, al91, al92, al93, al95, Int.cast_ofNat_Int, Nat.reduceAdd, Int.reduceNeg, Int.reduceAdd, Int.reduceSub, Int.reduceMul, Int.reduceLT, Int.reduceLE, Int.reduceGT, Int.reduceGE, Int.reduceEq, Int.reduceNe, Nat.reduceEqDiff, Int.zero_add, Int.add_zero, p_ty0, p_ty1, p_ty2, p_ty3, p_ty4, p_ty5, p_ty6, p_ty7, p_ty8, p_ty9, p_ty10, p_ty11, ty127, n2, i2, gd_t, B_t, B_f]
  clear pre2
  by_cases c5 : x2.2.2 = -1
  · rw [if_pos c5]
    refine YPR.bad R1' (G1.gd hH) (by omega) (fun d hd => ?_)
    refine callD_go 8 hd rfl (fun e he => ?_)
    show R e m_X8_go 0 [.val (.ref 127), .val (.int (iI (i : Int))), .unset, .unset, .unset, .unset, .unset, .unset] [] T M F = _
    rw [pre3 e he, c5]
    have b2 := b2 2 (by omega) e (by omega)
    clear hV hS hP hK hT R1 R1' V1 S1 C1 K1 T1p L1 hY1 hG1 n1 n2 b0 b1 hxr mm j1 z0 pre3 r1
    simp (disch := omega) only [x_X8_go_107, x_X8_go_109, x_X8_go_110, x_X8_go_113, x_X8_go_114, x_X8_go_115, x_X8_go_116, x_X8_go_117, x_X8_go_118, x_X8_go_121, List.length_cons, List.length_nil, Nat.reduceLeDiff, Nat.zero_add, iI_add, iI_sub, iI_mul, iI_neg, iI_lt, iI_le, iI_eq, jI_iI, B_True, B_False, B_t, B_f, ck_True, gd_True, cb_v, cb_n, p_mv_rw, p_fv_rw, p_rv_some, pA_1, pA_90, pA_92, pA_3, pA_2, pA_93, pA_4, pA_91, pA_95, pS_i, pW_i, pZ_0, pZ_1, pZ_b, bI_e0, u1_s, u1_n, uA_s, uA_n, true_and, and_true, not_true_eq_false, not_false_eq_true, eq_self, iI_z, al1, al2, al3, al4, al90, al91, al92, al93, al95, Int.cast_ofNat_Int, Nat.reduceAdd, Int.reduceNeg, Int.reduceAdd, Int.reduceSub, Int.reduceMul, Int.reduceLT, Int.reduceLE, Int.reduceGT, Int.reduceGE, Int.reduceEq, Int.reduceNe, Nat.reduceEqDiff, Int.zero_add, Int.add_zero, p_ty0, p_ty1, p_ty2, p_ty3, p_ty4, p_ty5, p_ty6, p_ty7, p_ty8, p_ty9, p_ty10, p_ty11, ty127, b2, i2, gd_t, B_t, B_f]
  rw [if_neg c5]
  have to1 := fun l4 e => go_to (i := i) (l4 := l4) hY1 L1 hl hxr (its := x1.2.2) (to := x2.2.2) (by omega) (by omega) (lgQ S.1 S.2.1 S.2.2.1 S.2.2.2.1) [] 0 (List.nil_append _) (Or.inl rfl) e
  have pre4 : ∀ e, 8 ≤ e → R e m_X8_go 0 [.val (.ref 127), .val (.int (iI (i : Int))), .unset, .unset, .unset, .unset, .unset, .unset] [] T M F = R e m_X8_go 167 [.val (.ref 127), .val (.int (iI (i : Int))), .val (.int (iI ((lgQ S.1 S.2.1 S.2.2.1 S.2.2.2.1).length : Int))), .val (.int (iI x1.2.2)), .val (.int (iI 1)), .val (.int (iI x2.2.2)), .val (.int (iI (inL 0 (91 * x1.2.2 + x2.2.2) (lgQ S.1 S.2.1 S.2.2.1 S.2.2.2.1)))), .val (.int (iI ((lgQ S.1 S.2.1 S.2.2.1 S.2.2.2.1).length : Int)))] [] T1 M1 F1 := by
    intro e he
    rw [pre3 e he, ← to1 (.val (.int (iI 1))) e, List.length_nil, Int.natCast_zero]
    clear hV hS hP hK hT R1 R1' V1 S1 C1 K1 T1p L1 hY1 hG1 n1 n2 b0 b1 b2 hxr mm j1 z0 pre3 r1 to1
    simp (disch := omega) only [x_X8_go_107, x_X8_go_109, x_X8_go_110, x_X8_go_113, x_X8_go_114, x_X8_go_115, x_X8_go_116, x_X8_go_117, x_X8_go_118, x_X8_go_121, x_X8_go_122, x_X8_go_123, x_X8_go_125, x_X8_go_126, List.length_cons, List.length_nil, Nat.reduceLeDiff, Nat.zero_add, iI_add, iI_sub, iI_mul, iI_neg, iI_lt, iI_le, iI_eq, jI_iI, B_True, B_False, B_t, B_f, ck_True, gd_True, cb_v, cb_n, p_mv_rw, p_fv_rw, p_rv_some, pA_1, pA_90, pA_92, pA_3, pA_2, pA_93, pA_4, pA_91, pA_95, pS_i, pW_i, pZ_0, pZ_1, pZ_b, bI_e0, u1_s, u1_n, uA_s, uA_n, true_and, and_true, not_true_eq_false, not_false_eq_true, eq_self, iI_z, al1, al2, al3, al4, al90, al91, al92, al93, al95, Int.cast_ofNat_Int, Nat.reduceAdd, Int.reduceNeg, Int.reduceAdd, Int.reduceSub, Int.reduceMul, Int.reduceLT, Int.reduceLE, Int.reduceGT, Int.reduceGE, Int.reduceEq, Int.reduceNe, Nat.reduceEqDiff, Int.zero_add, Int.add_zero, p_ty0, p_ty1, p_ty2, p_ty3, p_ty4, p_ty5, p_ty6, p_ty7, p_ty8, p_ty9, p_ty10, p_ty11, B_t, B_f]
  clear to1 pre3
  by_cases c6 : 91 * x1.2.2 + x2.2.2 ∈ lgQ S.1 S.2.1 S.2.2.1 S.2.2.2.1
  · rw [if_neg (fun q => q c6)]
    have e9 : inL 0 (91 * x1.2.2 + x2.2.2) (lgQ S.1 S.2.1 S.2.2.1 S.2.2.2.1) = 1 := if_pos (Or.inr c6)
    rw [e9] at pre4
    obtain ⟨z1, z2, z3, z4⟩ := lgQ_mv c6 (by omega) (by omega)
    have hbe := fun e (he : 3 ≤ e) => y_becomes (d := e) (its := x1.2.2) (to := x2.2.2) hY1 S1 hP.1.1 (by omega) (by omega) he
    by_cases c7 : x3.2.1 = 4 ∧ (knum (R'.getD 0 tk0).2.1 = 1 ∨ knum (R'.getD 0 tk0).2.1 = 6 ∨ ¬ mk_be S.1 x1.2.2 x2.2.2)
    · rw [if_pos c7]
      obtain ⟨h5, h6, h7⟩ := k4 c7.1
      have g4 := (K1.2.2.2.1 (i + 4) (by omega)).1
      have a4 := (K1.2.2.2.1 (i + 4) (by omega)).2
      have c4' := kd_kc (K1.2.2.1 (i + 4) (by omega))
      rw [← h7] at c4'
      have kn : knum (R'.getD 0 tk0).2.1 = ((R'.getD 0 tk0).2.1 : Int) - 6 := by
        unfold knum; rw [if_neg (by omega), if_neg (by omega), if_pos (by omega)]
      have kc4 : kcn bs z (i + 4) = knum (R'.getD 0 tk0).2.1 + 6 := by
        rw [c4', kn]; unfold mcd; rw [if_pos (by omega)]; omega
      rw [kc4] at a4
      have kr : 1 ≤ knum (R'.getD 0 tk0).2.1 ∧ knum (R'.getD 0 tk0).2.1 ≤ 6 := by omega
      have k34 : kcn bs z (i + 3) = 4 := by rw [c3, c7.1]; rfl
      rw [k34] at a3
      have sp4 := (kcn_lt (K1.2.2.1 (i + 4) (by omega))).1
      have b4 := fun er (he : 0 ≤ er ∧ er ≤ 10) e (h2 : 3 ≤ e) => y_wrong (d := e) (er := er) (j := i + 4) hY1 (by omega) g4 (by have := z0 (i + 4); omega) he (by omega)
      rw [show spn bs z (i + 4) = (R'.getD 0 tk0).1 by rw [h7]; rfl] at b4
      refine YPR.bad R1' (G1.gd hH) (by omega) (fun d hd => ?_)
      refine callD_go 8 hd rfl (fun e he => ?_)
      show R e m_X8_go 0 [.val (.ref 127), .val (.int (iI (i : Int))), .unset, .unset, .unset, .unset, .unset, .unset] [] T M F = _
      rw [pre4 e he]
      have b4 := b4 5 (by omega) e (by omega)
      have hbe := hbe e (by omega)
      have c8 := c7.2
      generalize knum (R'.getD 0 tk0).2.1 = as at a4 kr c8
      have e7 : as + 6 - 7 + 1 = as := by omega
      clear hV hS hP hK hT R1 R1' V1 S1 C1 K1 T1p L1 hY1 hG1 n1 n2 b0 b1 b2 hxr mm j1 z0 pre4 r1 z3 z4 c7 kn kc4 z2 c6 e9
      by_cases c9 : as = 1
      · simp (disch := omega) only [x_X8_go_167, x_X8_go_169, x_X8_go_172, x_X8_go_173, x_X8_go_174, x_X8_go_175, x_X8_go_176, x_X8_go_177, x_X8_go_180, x_X8_go_181, x_X8_go_182, x_X8_go_184, x_X8_go_185, x_X8_go_188, x_X8_go_189, x_X8_go_190, x_X8_go_191, x_X8_go_192, x_X8_go_193, x_X8_go_196, x_X8_go_197, x_X8_go_200, x_X8_go_201, x_X8_go_202, x_X8_go_203, x_X8_go_204, x_X8_go_206, x_X8_go_207, x_X8_go_208, x_X8_go_209, x_X8_go_211, x_X8_go_213, x_X8_go_214, x_X8_go_217, x_X8_go_219, x_X8_go_221, x_X8_go_224, x_X8_go_225, x_X8_go_226, x_X8_go_228, x_X8_go_231, x_X8_go_234, x_X8_go_235, x_X8_go_236, x_X8_go_237, x_X8_go_238, x_X8_go_239, x_X8_go_242, List.length_cons, List.length_nil, Nat.reduceLeDiff, Nat.zero_add, iI_add, iI_sub, iI_mul, iI_neg, iI_lt, iI_le, iI_eq, jI_iI, B_True, B_False, B_t, B_f, ck_True, gd_True, cb_v, cb_n, p_mv_rw, p_fv_rw, p_rv_some, pA_1, pA_90, pA_92, pA_3, pA_2, pA_93, pA_4, pA_91, pA_95, pS_i, pW_i, pZ_0, pZ_1, pZ_b, bI_e0, u1_s, u1_n, uA_s, uA_n, true_and, and_true, not_true_eq_false, not_false_eq_true, eq_self, iI_z, al1, al2, al3, al4, al90, al91, al92, al93, al95, Int.cast_ofNat_Int, Nat.reduceAdd, Int.reduceNeg, Int.reduceAdd, Int.reduceSub, Int.reduceMul, Int.reduceLT, Int.reduceLE, Int.reduceGT, Int.reduceGE, Int.reduceEq, Int.reduceNe, Nat.reduceEqDiff, Int.zero_add, Int.add_zero, p_ty0, p_ty1, p_ty2, p_ty3, p_ty4, p_ty5, p_ty6, p_ty7, p_ty8, p_ty9, p_ty10, p_ty11, ty127, ty128, fy1, ty129, fy4, ty130, fy5, ty131, fy6, ty132, fy7, ty133, fy8, ty136, fy15, ty137, fy16, ty138, fy17, ty139, fy18, ty140, fy19, ty141, fy20, ty142, fy21, ty143, fy22, tybd, fy9, tylg, fy13, a3, a4, i3, i4, e7, b4, c9, gd_t, B_t, B_f]
      · by_cases c10 : as = 6
        · simp (disch := omega) only [x_X8_go_167, x_X8_go_169, x_X8_go_172, x_X8_go_173, x_X8_go_174, x_X8_go_175, x_X8_go_176, x_X8_go_177, x_X8_go_180, x_X8_go_181, x_X8_go_182, x_X8_go_184, x_X8_go_185, x_X8_go_188, x_X8_go_189, x_X8_go_190, x_X8_go_191, x_X8_go_192, x_X8_go_193, x_X8_go_196, x_X8_go_197, x_X8_go_200, x_X8_go_201, x_X8_go_202, x_X8_go_203, x_X8_go_204, x_X8_go_206, x_X8_go_207, x_X8_go_208, x_X8_go_209, x_X8_go_211, x_X8_go_213, x_X8_go_214, x_X8_go_217, x_X8_go_219, x_X8_go_221, x_X8_go_224, x_X8_go_225, x_X8_go_226, x_X8_go_228, x_X8_go_231, x_X8_go_234, x_X8_go_235, x_X8_go_236, x_X8_go_237, x_X8_go_238, x_X8_go_239, x_X8_go_242, List.length_cons, List.length_nil, Nat.reduceLeDiff, Nat.zero_add, iI_add, iI_sub, iI_mul, iI_neg, iI_lt, iI_le, iI_eq, jI_iI, B_True, B_False, B_t, B_f, ck_True, gd_True, cb_v, cb_n, p_mv_rw, p_fv_rw, p_rv_some, pA_1, pA_90, pA_92, pA_3, pA_2, pA_93, pA_4, pA_91, pA_95, pS_i, pW_i, pZ_0, pZ_1, pZ_b, bI_e0, u1_s, u1_n, uA_s, uA_n, true_and, and_true, not_true_eq_false, not_false_eq_true, eq_self, iI_z, al1, al2, al3, al4, al90, al91, al92, al93, al95, Int.cast_ofNat_Int, Nat.reduceAdd, Int.reduceNeg, Int.reduceAdd, Int.reduceSub, Int.reduceMul, Int.reduceLT, Int.reduceLE, Int.reduceGT, Int.reduceGE, Int.reduceEq, Int.reduceNe, Nat.reduceEqDiff, Int.zero_add, Int.add_zero, p_ty0, p_ty1, p_ty2, p_ty3, p_ty4, p_ty5, p_ty6, p_ty7, p_ty8, p_ty9, p_ty10, p_ty11, ty127, ty128, fy1, ty129, fy4, ty130, fy5, ty131, fy6, ty132, fy7, ty133, fy8, ty136, fy15, ty137, fy16, ty138, fy17, ty139, fy18, ty140, fy19, ty141, fy20, ty142, fy21, ty143, fy22, tybd, fy9, tylg, fy13, a3, a4, i3, i4, e7, b4, c10, gd_t, B_t, B_f]
        · have c11 := (c8.resolve_left c9).resolve_left c10
          rw [bI_f c11] at hbe
          simp (disch := omega) only [x_X8_go_167, x_X8_go_169, x_X8_go_172, x_X8_go_173, x_X8_go_174, x_X8_go_175, x_X8_go_176, x_X8_go_177, x_X8_go_180, x_X8_go_181, x_X8_go_182, x_X8_go_184, x_X8_go_185, x_X8_go_188, x_X8_go_189, x_X8_go_190, x_X8_go_191, x_X8_go_192, x_X8_go_193, x_X8_go_196, x_X8_go_197, x_X8_go_200, x_X8_go_201, x_X8_go_202, x_X8_go_203, x_X8_go_204, x_X8_go_206, x_X8_go_207, x_X8_go_208, x_X8_go_209, x_X8_go_211, x_X8_go_213, x_X8_go_214, x_X8_go_217, x_X8_go_219, x_X8_go_221, x_X8_go_224, x_X8_go_225, x_X8_go_226, x_X8_go_228, x_X8_go_231, x_X8_go_234, x_X8_go_235, x_X8_go_236, x_X8_go_237, x_X8_go_238, x_X8_go_239, x_X8_go_242, List.length_cons, List.length_nil, Nat.reduceLeDiff, Nat.zero_add, iI_add, iI_sub, iI_mul, iI_neg, iI_lt, iI_le, iI_eq, jI_iI, B_True, B_False, B_t, B_f, ck_True, gd_True, cb_v, cb_n, p_mv_rw, p_fv_rw, p_rv_some, pA_1, pA_90, pA_92, pA_3, pA_2, pA_93, pA_4, pA_91, pA_95, pS_i, pW_i, pZ_0, pZ_1, pZ_b, bI_e0, u1_s, u1_n, uA_s, uA_n, true_and, and_true, not_true_eq_false, not_false_eq_true, eq_self, iI_z, al1, al2, al3, al4, al90, al91, al92, al93, al95, Int.cast_ofNat_Int, Nat.reduceAdd, Int.reduceNeg, Int.reduceAdd, Int.reduceSub, Int.reduceMul, Int.reduceLT, Int.reduceLE, Int.reduceGT, Int.reduceGE, Int.reduceEq, Int.reduceNe, Nat.reduceEqDiff, Int.zero_add, Int.add_zero, p_ty0, p_ty1, p_ty2, p_ty3, p_ty4, p_ty5, p_ty6, p_ty7, p_ty8, p_ty9, p_ty10, p_ty11, ty127, ty128, fy1, ty129, fy4, ty130, fy5, ty131, fy6, ty132, fy7, ty133, fy8, ty136, fy15, ty137, fy16, ty138, fy17, ty139, fy18, ty140, fy19, ty141, fy20, ty142, fy21, ty143, fy22, tybd, fy9, tylg, fy13, a3, a4, i3, i4, e7, b4, hbe, gd_t, B_t, B_f]
    · rw [if_neg c7]
      have hasr : 2 ≤ (if x3.2.1 = 4 then knum (R'.getD 0 tk0).2.1 else 2) ∧ (if x3.2.1 = 4 then knum (R'.getD 0 tk0).2.1 else 2) ≤ 5 := by
        by_cases c : x3.2.1 = 4
        · obtain ⟨h5, h6, h7⟩ := k4 c
          rw [if_pos c]
          have q1 : knum (R'.getD 0 tk0).2.1 ≠ 1 := fun q => c7 ⟨c, Or.inl q⟩
          have q2 : knum (R'.getD 0 tk0).2.1 ≠ 6 := fun q => c7 ⟨c, Or.inr (Or.inl q)⟩
          have kn : knum (R'.getD 0 tk0).2.1 = ((R'.getD 0 tk0).2.1 : Int) - 6 := by
            unfold knum; rw [if_neg (by omega), if_neg (by omega), if_pos (by omega)]
          omega
        · rw [if_neg c]; omega
      obtain ⟨T2, M2, F2, lg2, N2, r2, V2, S2, j2, G2, C2⟩ := y_make V1 S1 hP.1 (by omega) z3 hasr
      have hbp := hP.1.1 (mk_pl S.1 S.2.2.1 x1.2.2 x2.2.2)
      refine ⟨T2, M2, F2, lg2, N2, fun d hd => ?_, ⟨V2, S2⟩, ⟨Int.le_refl _, by show (0 : Int) ≤ 5; omega⟩, fun q => absurd rfl q, fun _ => ?_, fun j a3 a10 a11 a12 a14 => (j2 j a10 a11 a12 a14).trans (j1 j a10 a11 a12 a14), ?_⟩
      · refine callD_go 8 hd rfl (fun e he => ?_)
        show R e m_X8_go 0 [.val (.ref 127), .val (.int (iI (i : Int))), .unset, .unset, .unset, .unset, .unset, .unset] [] T M F = _
        rw [pre4 e he]
        have r2 := r2 e (by omega)
        have hbe := hbe e (by omega)
        show _ = (some (.inl (some (.int (iI 0))), T2, M2, F2) : Option pR)
        by_cases c : x3.2.1 = 4
        · obtain ⟨h5, h6, h7⟩ := k4 c
          have a4 := (K1.2.2.2.1 (i + 4) (by omega)).2
          have c4' := kd_kc (K1.2.2.1 (i + 4) (by omega))
          rw [← h7] at c4'
          have kn : knum (R'.getD 0 tk0).2.1 = ((R'.getD 0 tk0).2.1 : Int) - 6 := by
            unfold knum; rw [if_neg (by omega), if_neg (by omega), if_pos (by omega)]
          have kc4 : kcn bs z (i + 4) = knum (R'.getD 0 tk0).2.1 + 6 := by
            rw [c4', kn]; unfold mcd; rw [if_pos (by omega)]; omega
          rw [kc4] at a4
          have k34 : kcn bs z (i + 3) = 4 := by rw [c3, c]; rfl
          rw [k34] at a3
          have hb1 : mk_be S.1 x1.2.2 x2.2.2 := Classical.byContradiction (fun q => c7 ⟨c, Or.inr (Or.inr q)⟩)
          rw [bI_t hb1] at hbe
          rw [if_pos c] at r2 hasr
          generalize knum (R'.getD 0 tk0).2.1 = as at a4 r2 hasr
          have e7 : as + 6 - 7 + 1 = as := by omega
          clear hV hS hP hK hT R1 R1' V1 S1 C1 K1 T1p L1 hY1 hG1 n1 n2 b0 b1 b2 hxr mm j1 z0 pre4 r1 z3 z4 c7 kn kc4 z2 c6 e9 V2 S2 j2 C2 hb1
          simp (disch := omega) only [x_X8_go_167, x_X8_go_169, x_X8_go_172, x_X8_go_173, x_X8_go_174, x_X8_go_175, x_X8_go_176, x_X8_go_177, x_X8_go_180, x_X8_go_181, x_X8_go_182, x_X8_go_184, x_X8_go_185, x_X8_go_188, x_X8_go_189, x_X8_go_190, x_X8_go_191, x_X8_go_192, x_X8_go_193, x_X8_go_196, x_X8_go_197, x_X8_go_200, x_X8_go_201, x_X8_go_202, x_X8_go_203, x_X8_go_204, x_X8_go_206, x_X8_go_207, x_X8_go_208, x_X8_go_209, x_X8_go_211, x_X8_go_213, x_X8_go_214, x_X8_go_217, x_X8_go_219, x_X8_go_221, x_X8_go_224, x_X8_go_225, x_X8_go_226, x_X8_go_228, x_X8_go_231, x_X8_go_234, x_X8_go_235, x_X8_go_236, x_X8_go_237, x_X8_go_238, x_X8_go_239, x_X8_go_242, x_X8_go_243, x_X8_go_244, x_X8_go_245, x_X8_go_247, x_X8_go_249, x_X8_go_252, x_X8_go_253, x_X8_go_254, List.length_cons, List.length_nil, Nat.reduceLeDiff, Nat.zero_add, iI_add, iI_sub, iI_mul, iI_neg, iI_lt, iI_le, iI_eq, jI_iI, B_True, B_False, B_t, B_f, ck_True, gd_True, cb_v, cb_n, p_mv_rw, p_fv_rw, p_rv_some, pA_1, pA_90, pA_92, pA_3, pA_2, pA_93, pA_4, pA_91, pA_95, pS_i, pW_i, pZ_0, pZ_1, pZ_b, bI_e0, u1_s, u1_n, uA_s, uA_n, true_and, and_true, not_true_eq_false, not_false_eq_true, eq_self, iI_z, al1, al2, al3, al4, al90, al91, al92, al93, al95, Int.cast_ofNat_Int, Nat.reduceAdd, Int.reduceNeg, Int.reduceAdd, Int.reduceSub, Int.reduceMul, Int.reduceLT, Int.reduceLE, Int.reduceGT, Int.reduceGE, Int.reduceEq, Int.reduceNe, Nat.reduceEqDiff, Int.zero_add, Int.add_zero, p_ty0, p_ty1, p_ty2, p_ty3, p_ty4, p_ty5, p_ty6, p_ty7, p_ty8, p_ty9, p_ty10, p_ty11, ty127, ty128, fy1, ty129, fy4, ty130, fy5, ty131, fy6, ty132, fy7, ty133, fy8, ty136, fy15, ty137, fy16, ty138, fy17, ty139, fy18, ty140, fy19, ty141, fy20, ty142, fy21, ty143, fy22, tybd, fy9, tylg, fy13, a3, a4, i3, i4, e7, hbe, r2, gd_t, B_t, B_f]
        · have k13 := k3.resolve_left c
          have k34 : kcn bs z (i + 3) = 21 := by rw [c3, k13]; rfl
          rw [k34] at a3
          rw [if_neg c] at r2
          clear hV hS hP hK hT R1 R1' V1 S1 C1 K1 T1p L1 hY1 hG1 n1 n2 b0 b1 b2 hxr mm j1 z0 pre4 r1 z3 z4 c7 z2 c6 e9 V2 S2 j2 C2 hbe
          simp (disch := omega) only [x_X8_go_167, x_X8_go_169, x_X8_go_172, x_X8_go_173, x_X8_go_174, x_X8_go_175, x_X8_go_176, x_X8_go_177, x_X8_go_180, x_X8_go_181, x_X8_go_182, x_X8_go_184, x_X8_go_185, x_X8_go_188, x_X8_go_189, x_X8_go_190, x_X8_go_191, x_X8_go_192, x_X8_go_193, x_X8_go_196, x_X8_go_197, x_X8_go_200, x_X8_go_201, x_X8_go_202, x_X8_go_203, x_X8_go_204, x_X8_go_206, x_X8_go_207, x_X8_go_208, x_X8_go_209, x_X8_go_211, x_X8_go_213, x_X8_go_214, x_X8_go_217, x_X8_go_219, x_X8_go_221, x_X8_go_224, x_X8_go_225, x_X8_go_226, x_X8_go_228, x_X8_go_231, x_X8_go_234, x_X8_go_235, x_X8_go_236, x_X8_go_237, x_X8_go_238, x_X8_go_239, x_X8_go_242, x_X8_go_243, x_X8_go_244, x_X8_go_245, x_X8_go_247, x_X8_go_249, x_X8_go_252, x_X8_go_253, x_X8_go_254, List.length_cons, List.length_nil, Nat.reduceLeDiff, Nat.zero_add, iI_add, iI_sub, iI_mul, iI_neg, iI_lt, iI_le, iI_eq, jI_iI, B_True, B_False, B_t, B_f, ck_True, gd_True, cb_v, cb_n, p_mv_rw, p_fv_rw, p_rv_some, pA_1, pA_90, pA_92, pA_3, pA_2, pA_93, pA_4, pA_91, pA_95, pS_i, pW_i, pZ_0, pZ_1, pZ_b, bI_e0, u1_s, u1_n, uA_s, uA_n, true_and, and_true, not_true_eq_false, not_false_eq_true, eq_self, iI_z, al1, al2, al3, al4, al90, al91, al92, al93, al95, Int.cast_ofNat_Int, Nat.reduceAdd, Int.reduceNeg, Int.reduceAdd, Int.reduceSub, Int.reduceMul, Int.reduceLT, Int.reduceLE, Int.reduceGT, Int.reduceGE, Int.reduceEq, Int.reduceNe, Nat.reduceEqDiff, Int.zero_add, Int.add_zero, p_ty0, p_ty1, p_ty2, p_ty3, p_ty4, p_ty5, p_ty6, p_ty7, p_ty8, p_ty9, p_ty10, p_ty11, ty127, ty128, fy1, ty129, fy4, ty130, fy5, ty131, fy6, ty132, fy7, ty133, fy8, ty136, fy15, ty137, fy16, ty138, fy17, ty139, fy18, ty140, fy19, ty141, fy20, ty142, fy21, ty143, fy22, tybd, fy9, tylg, fy13, a3, i3, r2, gd_t, B_t, B_f]
      · rw [j2 3 (by omega) (by omega) (by omega) (by omega)]; exact j1 3 (by omega) (by omega) (by omega) (by omega)
      · refine ((C1.wk XTc.xl).tr (C2.wk (fun a h => ?_))).sl ((G1.gd hH).tr (G2.gd hH))
        rcases h with h | h
        · exact Or.inl h
        · exact Or.inr (Or.inl h)
  · rw [if_pos c6]
    have e9 : inL 0 (91 * x1.2.2 + x2.2.2) (lgQ S.1 S.2.1 S.2.2.1 S.2.2.2.1) = 0 := if_neg (by rintro (q | q); omega; exact c6 q)
    rw [e9] at pre4
    refine YPR.bad R1' (G1.gd hH) (by omega) (fun d hd => ?_)
    refine callD_go 8 hd rfl (fun e he => ?_)
    show R e m_X8_go 0 [.val (.ref 127), .val (.int (iI (i : Int))), .unset, .unset, .unset, .unset, .unset, .unset] [] T M F = _
    rw [pre4 e he]
    have b2 := b2 4 (by omega) e (by omega)
    clear hV hS hP hK hT R1 R1' V1 S1 C1 K1 T1p L1 hY1 hG1 n1 n2 b0 b1 hxr mm j1 z0 pre4 r1 c6 e9
    simp (disch := omega) only [x_X8_go_167, x_X8_go_169, x_X8_go_172, x_X8_go_173, x_X8_go_174, x_X8_go_175, x_X8_go_176, x_X8_go_177, x_X8_go_180, List.length_cons, List.length_nil, Nat.reduceLeDiff, Nat.zero_add, iI_add, iI_sub, iI_mul, iI_neg, iI_lt, iI_le, iI_eq, jI_iI, B_True, B_False, B_t, B_f, ck_True, gd_True, cb_v, cb_n, p_mv_rw, p_fv_rw, p_rv_some, pA_1, pA_90, pA_92, pA_3, pA_2, pA_93, pA_4, pA_91, pA_95, pS_i, pW_i, pZ_0, pZ_1, pZ_b, bI_e0, u1_s, u1_n, uA_s, uA_n, true_and, and_true, not_true_eq_false, not_false_eq_true, eq_self, iI_z, al1, al2, al3, al4, al90, al91, al92, al93, al95, Int.cast_ofNat_Int, Nat.reduceAdd, Int.reduceNeg, Int.reduceAdd, Int.reduceSub, Int.reduceMul, Int.reduceLT, Int.reduceLE, Int.reduceGT, Int.reduceGE, Int.reduceEq, Int.reduceNe, Nat.reduceEqDiff, Int.zero_add, Int.add_zero, p_ty0, p_ty1, p_ty2, p_ty3, p_ty4, p_ty5, p_ty6, p_ty7, p_ty8, p_ty9, p_ty10, p_ty11, ty127, b2, i2, gd_t, B_t, B_f]
end PYGO
