section PMRK
variable {d bd lg N : Nat} {T : pT} {M M0 M1 M2 : pM} {F : pF} {bb v w : Int → Int} {t pas q its to as p n i c s x k a b lw up : Int} {H : List HE} {P Q : Int → Prop}
/-- the marks of more cells -/
noncomputable def mkS (v : Int → Int) (P : Int → Prop) : Int → Int := fun k => @ite _ (P k) (Classical.propDecidable _) 1 (v k)
theorem mkS_1 : u1 v c 1 = mkS v (fun k => k = c) := by
  funext k
  unfold u1 mkS
  by_cases e : k = c
  · rw [if_pos e, if_pos e]
  · rw [if_neg e, if_neg e]
theorem mkS_2 : mkS (mkS v P) Q = mkS v (fun k => P k ∨ Q k) := by
  funext k
  unfold mkS
  by_cases e : Q k
  · rw [if_pos e, if_pos (Or.inr e)]
  · rw [if_neg e]
    by_cases e2 : P k
    · rw [if_pos e2, if_pos (Or.inl e2)]
    · rw [if_neg e2, if_neg (by rintro (z | z) <;> contradiction)]
theorem mkS_0 (h : ∀ k, ¬ P k) : mkS v P = v := by
  funext k
  unfold mkS
  rw [if_neg (h k)]
theorem mkS_c (h : ∀ k, P k ↔ Q k) : mkS v P = mkS v Q := by
  have : P = Q := funext fun k => propext (h k)
  rw [this]
theorem YG.fr (hG : YG M) (f : ∀ a, a ≠ 136 → M1 a = M a) : YG M1 := by
  unfold YG at *
  rw [f 129 (by omega), f 130 (by omega), f 131 (by omega), f 132 (by omega), f 133 (by omega)]
  exact hG
/-- the cells that must not be the marks -/
def YB (bd : Nat) : Prop := bd = 134 ∨ 145 ≤ bd
theorem ms_in (hY : YT T F bd lg N) (hB : YB bd) (hi12 : 0 ≤ i ∧ i < 12) (hi : 0 ≤ its ∧ its < 91) (hlo : 0 ≤ lw ∧ lw ≤ 12) (hhi : 0 ≤ up ∧ up ≤ 12) : ∀ (n : Nat) (c : Int) (M : pM), (-1 ≤ c ∧ c < 91) → rayO i n c = true → YG M → M bd = bb → MB bb →
    ∃ M' c', (∀ e, 1 ≤ e → R e m_X8_markSlides 18 [.val (.ref 127), .val (.int (iI its)), .val (.int (iI lw)), .val (.int (iI up)), .val (.int (iI i)), .val (.int (iI c))] [] T M F = R e m_X8_markSlides 69 [.val (.ref 127), .val (.int (iI its)), .val (.int (iI lw)), .val (.int (iI up)), .val (.int (iI i)), .val (.int (iI c'))] [] T M' F) ∧ M' 136 = mkS (M 136) (onRay bb i (n + 1) c) ∧ ∀ a, a ≠ 136 → M' a = M a := by
  have hY' := hY
  obtain ⟨ty127, ty128, fy1, ty129, fy4, ty130, fy5, ty131, fy6, ty132, fy7, ty133, fy8, ty136, fy15, ty137, fy16, ty138, fy17, ty139, fy18, ty140, fy19, ty141, fy20, ty142, fy21, ty143, fy22, hbd, tybd, fy9, hlg, tylg, fy13, hN⟩ := hY
  unfold YB at hB
  intro n
  induction n with
  | zero =>
    intro c M hc ho hG s1 hb
    obtain rfl : c = -1 := of_decide_eq_true ho
    refine ⟨M, -1, fun e he => ?_, (mkS_0 (fun k h => h.1 rfl)).symm, fun _ _ => rfl⟩
    clear hG hb
    simp (disch := omega) only [x_X8_markSlides_18, x_X8_markSlides_20, x_X8_markSlides_21, x_X8_markSlides_24, x_X8_markSlides_25, x_X8_markSlides_28, x_X8_markSlides_30, x_X8_markSlides_31, x_X8_markSlides_34, x_X8_markSlides_35, x_X8_markSlides_38, x_X8_markSlides_40, x_X8_markSlides_41, x_X8_markSlides_42, x_X8_markSlides_43, x_X8_markSlides_45, x_X8_markSlides_47, x_X8_markSlides_50, x_X8_markSlides_52, x_X8_markSlides_55, x_X8_markSlides_57, x_X8_markSlides_58, List.length_cons, List.length_nil, Nat.reduceLeDiff, Nat.zero_add, iI_add, iI_sub, iI_mul, iI_neg, iI_lt, iI_le, iI_eq, jI_iI, B_True, B_False, B_t, B_f, ck_True, gd_True, cb_v, cb_n, p_mv_rw, p_fv_rw, p_rv_some, pA_1, pA_90, pA_92, pA_3, pA_2, pA_93, pA_4, pA_91, pA_95, pS_i, pW_i, pZ_0, pZ_1, pZ_b, bI_e0, u1_s, u1_n, uA_s, uA_n, true_and, and_true, not_true_eq_false, not_false_eq_true, eq_self, iI_z, al1, al2, al3, al4, al90, al91, al92, al93, al95, Int.cast_ofNat_Int, Nat.reduceAdd, Int.reduceNeg, Int.reduceAdd, Int.reduceSub, Int.reduceMul, Int.reduceLT, Int.reduceLE, Int.reduceGT, Int.reduceGE, Int.reduceEq, Int.reduceNe, Nat.reduceEqDiff, Int.zero_add, Int.add_zero, p_ty0, p_ty1, p_ty2, p_ty3, p_ty4, p_ty5, p_ty6, p_ty7, p_ty8, p_ty9, p_ty10, p_ty11, ty127, ty128, fy1, ty129, fy4, ty130, fy5, ty131, fy6, ty132, fy7, ty133, fy8, ty136, fy15, ty137, fy16, ty138, fy17, ty139, fy18, ty140, fy19, ty141, fy20, ty142, fy21, ty143, fy22, tybd, fy9, tylg, fy13, B_t, B_f]
  | succ n ih =>
    intro c M hc ho hG s1 hb
    rw [rayO, Bool.or_eq_true] at ho
    by_cases e1 : c = -1
    · subst e1
      refine ⟨M, -1, fun e he => ?_, (mkS_0 (fun k h => h.1 rfl)).symm, fun _ _ => rfl⟩
      clear hG hb ih
      simp (disch := omega) only [x_X8_markSlides_18, x_X8_markSlides_20, x_X8_markSlides_21, x_X8_markSlides_24, x_X8_markSlides_25, x_X8_markSlides_28, x_X8_markSlides_30, x_X8_markSlides_31, x_X8_markSlides_34, x_X8_markSlides_35, x_X8_markSlides_38, x_X8_markSlides_40, x_X8_markSlides_41, x_X8_markSlides_42, x_X8_markSlides_43, x_X8_markSlides_45, x_X8_markSlides_47, x_X8_markSlides_50, x_X8_markSlides_52, x_X8_markSlides_55, x_X8_markSlides_57, x_X8_markSlides_58, List.length_cons, List.length_nil, Nat.reduceLeDiff, Nat.zero_add, iI_add, iI_sub, iI_mul, iI_neg, iI_lt, iI_le, iI_eq, jI_iI, B_True, B_False, B_t, B_f, ck_True, gd_True, cb_v, cb_n, p_mv_rw, p_fv_rw, p_rv_some, pA_1, pA_90, pA_92, pA_3, pA_2, pA_93, pA_4, pA_91, pA_95, pS_i, pW_i, pZ_0, pZ_1, pZ_b, bI_e0, u1_s, u1_n, uA_s, uA_n, true_and, and_true, not_true_eq_false, not_false_eq_true, eq_self, iI_z, al1, al2, al3, al4, al90, al91, al92, al93, al95, Int.cast_ofNat_Int, Nat.reduceAdd, Int.reduceNeg, Int.reduceAdd, Int.reduceSub, Int.reduceMul, Int.reduceLT, Int.reduceLE, Int.reduceGT, Int.reduceGE, Int.reduceEq, Int.reduceNe, Nat.reduceEqDiff, Int.zero_add, Int.add_zero, p_ty0, p_ty1, p_ty2, p_ty3, p_ty4, p_ty5, p_ty6, p_ty7, p_ty8, p_ty9, p_ty10, p_ty11, ty127, ty128, fy1, ty129, fy4, ty130, fy5, ty131, fy6, ty132, fy7, ty133, fy8, ty136, fy15, ty137, fy16, ty138, fy17, ty139, fy18, ty140, fy19, ty141, fy20, ty142, fy21, ty143, fy22, tybd, fy9, tylg, fy13, B_t, B_f]
    · have ho2 : rayO i n (gn c i) = true := by
        rcases ho with ho | ho
        · exact absurd (of_decide_eq_true ho) e1
        · exact ho
      have hbc := hb c
      have hg := gn_rg (k := c) (i := i) (by omega) hi12
      obtain ⟨M1, hM1⟩ : ∃ M1 : pM, M1 = uA M 136 (u1 (M 136) c 1) := ⟨_, rfl⟩
      have m1 : ∀ a, a ≠ 136 → M1 a = M a := fun a ha => by rw [hM1, uA_n ha]
      by_cases e2 : bb c = 0
      · obtain ⟨M2, c2, r2, k2, f2⟩ := ih (gn c i) M1 hg ho2 (hG.fr m1) ((m1 bd (by omega)).trans s1) hb
        refine ⟨M2, c2, fun e he => ?_, ?_, fun a ha => (f2 a ha).trans (m1 a ha)⟩
        · have r2 := r2 e he
          have hst := y_step (d := e) (k := c) (i := i) hY' (hG.fr m1) he hc hi12
          rw [show m_st c i = gn c i from if_neg e1, hM1] at hst
          rw [hM1] at r2
          rw [← r2]
          clear hG hb ih r2 k2 f2 m1 hM1 hY'
          rw [x_X8_markSlides_18]
          simp (disch := omega) only [x_X8_markSlides_20, x_X8_markSlides_21, x_X8_markSlides_24, x_X8_markSlides_25, x_X8_markSlides_28, x_X8_markSlides_30, x_X8_markSlides_31, x_X8_markSlides_34, x_X8_markSlides_35, x_X8_markSlides_38, x_X8_markSlides_40, x_X8_markSlides_41, x_X8_markSlides_42, x_X8_markSlides_43, x_X8_markSlides_45, x_X8_markSlides_47, x_X8_markSlides_50, x_X8_markSlides_52, List.length_cons, List.length_nil, Nat.reduceLeDiff, Nat.zero_add, iI_add, iI_sub, iI_mul, iI_neg, iI_lt, iI_le, iI_eq, jI_iI, B_True, B_False, B_t, B_f, ck_True, gd_True, cb_v, cb_n, p_mv_rw, p_fv_rw, p_rv_some, pA_1, pA_90, pA_92, pA_3, pA_2, pA_93, pA_4, pA_91, pA_95, pS_i, pW_i, pZ_0, pZ_1, pZ_b, bI_e0, u1_s, u1_n, uA_s, uA_n, true_and, and_true, not_true_eq_false, not_false_eq_true, eq_self, iI_z, al1, al2, al3, al4, al90, al91, al92, al93, al95, Int.cast_ofNat_Int, Nat.reduceAdd, Int.reduceNeg, Int.reduceAdd, Int.reduceSub, Int.reduceMul, Int.reduceLT, Int.reduceLE, Int.reduceGT, Int.reduceGE, Int.reduceEq, Int.reduceNe, Nat.reduceEqDiff, Int.zero_add, Int.add_zero, p_ty0, p_ty1, p_ty2, p_ty3, p_ty4, p_ty5, p_ty6, p_ty7, p_ty8, p_ty9, p_ty10, p_ty11, ty127, ty128, fy1, ty129, fy4, ty130, fy5, ty131, fy6, ty132, fy7, ty133, fy8, ty136, fy15, ty137, fy16, ty138, fy17, ty139, fy18, ty140, fy19, ty141, fy20, ty142, fy21, ty143, fy22, tybd, fy9, tylg, fy13, s1, e2, hst, gd_t, B_t, B_f]
        · rw [k2, hM1, uA_s, mkS_1, mkS_2]
          refine mkS_c (fun k => ?_)
          constructor
          · rintro (z | z)
            · exact ⟨e1, Or.inl z⟩
            · exact ⟨e1, Or.inr ⟨e2, z⟩⟩
          · rintro ⟨-, z | z⟩
            · exact Or.inl z
            · exact Or.inr z.2
      · refine ⟨M1, c, fun e he => ?_, ?_, m1⟩
        · rw [hM1]
          clear hG hb ih m1 hM1 hY'
          rw [x_X8_markSlides_18]
          simp (disch := omega) only [x_X8_markSlides_20, x_X8_markSlides_21, x_X8_markSlides_24, x_X8_markSlides_25, x_X8_markSlides_28, x_X8_markSlides_30, x_X8_markSlides_31, x_X8_markSlides_34, x_X8_markSlides_35, x_X8_markSlides_38, x_X8_markSlides_40, x_X8_markSlides_41, x_X8_markSlides_42, x_X8_markSlides_43, x_X8_markSlides_45, x_X8_markSlides_47, x_X8_markSlides_50, x_X8_markSlides_52, x_X8_markSlides_55, x_X8_markSlides_57, x_X8_markSlides_58, x_X8_markSlides_61, x_X8_markSlides_62, x_X8_markSlides_65, x_X8_markSlides_67, x_X8_markSlides_68, List.length_cons, List.length_nil, Nat.reduceLeDiff, Nat.zero_add, iI_add, iI_sub, iI_mul, iI_neg, iI_lt, iI_le, iI_eq, jI_iI, B_True, B_False, B_t, B_f, ck_True, gd_True, cb_v, cb_n, p_mv_rw, p_fv_rw, p_rv_some, pA_1, pA_90, pA_92, pA_3, pA_2, pA_93, pA_4, pA_91, pA_95, pS_i, pW_i, pZ_0, pZ_1, pZ_b, bI_e0, u1_s, u1_n, uA_s, uA_n, true_and, and_true, not_true_eq_false, not_false_eq_true, eq_self, iI_z, al1, al2, al3, al4, al90, al91, al92, al93, al95, Int.cast_ofNat_Int, Nat.reduceAdd, Int.reduceNeg, Int.reduceAdd, Int.reduceSub, Int.reduceMul, Int.reduceLT, Int.reduceLE, Int.reduceGT, Int.reduceGE, Int.reduceEq, Int.reduceNe, Nat.reduceEqDiff, Int.zero_add, Int.add_zero, p_ty0, p_ty1, p_ty2, p_ty3, p_ty4, p_ty5, p_ty6, p_ty7, p_ty8, p_ty9, p_ty10, p_ty11, ty127, ty128, fy1, ty129, fy4, ty130, fy5, ty131, fy6, ty132, fy7, ty133, fy8, ty136, fy15, ty137, fy16, ty138, fy17, ty139, fy18, ty140, fy19, ty141, fy20, ty142, fy21, ty143, fy22, tybd, fy9, tylg, fy13, s1, gd_t, B_t, B_f]
        · rw [hM1, uA_s, mkS_1]
          refine mkS_c (fun k => ?_)
          constructor
          · intro z; exact ⟨e1, Or.inl z⟩
          · rintro ⟨-, z | z⟩
            · exact z
            · exact absurd z.1 e2
theorem ms_out (hY : YT T F bd lg N) (hB : YB bd) (hi : 0 ≤ its ∧ its < 91) (hlo : 0 ≤ lw ∧ lw ≤ 12) (hhi : 0 ≤ up ∧ up ≤ 12) (hb : MB bb) : ∀ (n : Nat) (i : Int) (M : pM), i + n = up → 0 ≤ i → YG M → M bd = bb →
    ∃ M', (∀ e l5, 1 ≤ e → R e m_X8_markSlides 3 [.val (.ref 127), .val (.int (iI its)), .val (.int (iI lw)), .val (.int (iI up)), .val (.int (iI i)), l5] [] T M F = some (.inl none, T, M', F)) ∧ M' 136 = mkS (M 136) (fun k => ∃ j, i ≤ j ∧ j < up ∧ onRay bb j 17 (gn its j) k) ∧ ∀ a, a ≠ 136 → M' a = M a := by
  intro n
  induction n with
  | zero =>
    intro i M hn h0 hG s1
    refine ⟨M, fun e l5 he => ?_, (mkS_0 (fun k h => by obtain ⟨j, h1, h2, -⟩ := h; omega)).symm, fun _ _ => rfl⟩
    clear hG hb hY
    simp (disch := omega) only [x_X8_markSlides_3, x_X8_markSlides_5, x_X8_markSlides_6, x_X8_markSlides_75, List.length_cons, List.length_nil, Nat.reduceLeDiff, Nat.zero_add, iI_add, iI_sub, iI_mul, iI_neg, iI_lt, iI_le, iI_eq, jI_iI, B_True, B_False, B_t, B_f, ck_True, gd_True, cb_v, cb_n, p_mv_rw, p_fv_rw, p_rv_some, pA_1, pA_90, pA_92, pA_3, pA_2, pA_93, pA_4, pA_91, pA_95, pS_i, pW_i, pZ_0, pZ_1, pZ_b, bI_e0, u1_s, u1_n, uA_s, uA_n, true_and, and_true, not_true_eq_false, not_false_eq_true, eq_self, iI_z, al1, al2, al3, al4, al90, al91, al92, al93, al95, Int.cast_ofNat_Int, Nat.reduceAdd, Int.reduceNeg, Int.reduceAdd, Int.reduceSub, Int.reduceMul, Int.reduceLT, Int.reduceLE, Int.reduceGT, Int.reduceGE, Int.reduceEq, Int.reduceNe, Nat.reduceEqDiff, Int.zero_add, Int.add_zero, p_ty0, p_ty1, p_ty2, p_ty3, p_ty4, p_ty5, p_ty6, p_ty7, p_ty8, p_ty9, p_ty10, p_ty11, B_t, B_f]
  | succ n ih =>
    intro i M hn h0 hG s1
    have hi12 : 0 ≤ i ∧ i < 12 := by omega
    have hg := gn_rg hi hi12
    obtain ⟨M1, c1, r1, k1, f1⟩ := ms_in (lw := lw) (up := up) hY hB hi12 hi hlo hhi 16 (gn its i) M hg (rayO_ok hi hi12) hG s1 hb
    have hb2 : bd ≠ 136 := by unfold YB at hB; omega
    obtain ⟨M2, r2, k2, f2⟩ := ih (i + 1) M1 (by omega) (by omega) (hG.fr f1) ((f1 bd hb2).trans s1)
    refine ⟨M2, fun e l5 he => ?_, ?_, fun a ha => (f2 a ha).trans (f1 a ha)⟩
    · have r1 := r1 e he
      have r2 := fun l5 => r2 e l5 he
      have hst := y_step (d := e) (k := its) (i := i) hY hG he (by omega) hi12
      rw [show m_st its i = gn its i from if_neg (by omega)] at hst
      have t0 := hY.1
      clear hG hb ih k1 k2 f1 f2 hY
      rw [x_X8_markSlides_3]
      simp (disch := omega) only [x_X8_markSlides_5, x_X8_markSlides_6, x_X8_markSlides_9, x_X8_markSlides_10, x_X8_markSlides_11, x_X8_markSlides_13, x_X8_markSlides_16, List.length_cons, List.length_nil, Nat.reduceLeDiff, Nat.zero_add, iI_add, iI_sub, iI_mul, iI_neg, iI_lt, iI_le, iI_eq, jI_iI, B_True, B_False, B_t, B_f, ck_True, gd_True, cb_v, cb_n, p_mv_rw, p_fv_rw, p_rv_some, pA_1, pA_90, pA_92, pA_3, pA_2, pA_93, pA_4, pA_91, pA_95, pS_i, pW_i, pZ_0, pZ_1, pZ_b, bI_e0, u1_s, u1_n, uA_s, uA_n, true_and, and_true, not_true_eq_false, not_false_eq_true, eq_self, iI_z, al1, al2, al3, al4, al90, al91, al92, al93, al95, Int.cast_ofNat_Int, Nat.reduceAdd, Int.reduceNeg, Int.reduceAdd, Int.reduceSub, Int.reduceMul, Int.reduceLT, Int.reduceLE, Int.reduceGT, Int.reduceGE, Int.reduceEq, Int.reduceNe, Nat.reduceEqDiff, Int.zero_add, Int.add_zero, p_ty0, p_ty1, p_ty2, p_ty3, p_ty4, p_ty5, p_ty6, p_ty7, p_ty8, p_ty9, p_ty10, p_ty11, t0, hst, gd_t, B_t, B_f]
      rw [r1]
      simp (disch := omega) only [x_X8_markSlides_69, x_X8_markSlides_72, List.length_cons, List.length_nil, Nat.reduceLeDiff, Nat.zero_add, iI_add, iI_sub, iI_mul, iI_neg, iI_lt, iI_le, iI_eq, jI_iI, B_True, B_False, B_t, B_f, ck_True, gd_True, cb_v, cb_n, p_mv_rw, p_fv_rw, p_rv_some, pA_1, pA_90, pA_92, pA_3, pA_2, pA_93, pA_4, pA_91, pA_95, pS_i, pW_i, pZ_0, pZ_1, pZ_b, bI_e0, u1_s, u1_n, uA_s, uA_n, true_and, and_true, not_true_eq_false, not_false_eq_true, eq_self, iI_z, al1, al2, al3, al4, al90, al91, al92, al93, al95, Int.cast_ofNat_Int, Nat.reduceAdd, Int.reduceNeg, Int.reduceAdd, Int.reduceSub, Int.reduceMul, Int.reduceLT, Int.reduceLE, Int.reduceGT, Int.reduceGE, Int.reduceEq, Int.reduceNe, Nat.reduceEqDiff, Int.zero_add, Int.add_zero, p_ty0, p_ty1, p_ty2, p_ty3, p_ty4, p_ty5, p_ty6, p_ty7, p_ty8, p_ty9, p_ty10, p_ty11, r2]
    · rw [k2, k1, mkS_2]
      refine mkS_c (fun k => ?_)
      constructor
      · rintro (z | ⟨j, j1, j2, z⟩)
        · exact ⟨i, by omega, by omega, z⟩
        · exact ⟨j, by omega, j2, z⟩
      · rintro ⟨j, j1, j2, z⟩
        by_cases e : j = i
        · rw [e] at z; exact Or.inl z
        · exact Or.inr ⟨j, by omega, j2, z⟩
theorem y_slides (hY : YT T F bd lg N) (hB : YB bd) (hi : 0 ≤ its ∧ its < 91) (hlo : 0 ≤ lw ∧ lw ≤ up) (hhi : 0 ≤ up ∧ up ≤ 12) (hb : MB bb) (hG : YG M) (s1 : M bd = bb) :
    ∃ M', (∀ d, 2 ≤ d → callD d m_X8_markSlides [.ref 127, .int (iI its), .int (iI lw), .int (iI up)] T M F = some (.inl none, T, M', F)) ∧ M' 136 = mkS (M 136) (fun k => ∃ j, lw ≤ j ∧ j < up ∧ onRay bb j 17 (gn its j) k) ∧ ∀ a, a ≠ 136 → M' a = M a := by
  obtain ⟨M1, r1, k1, f1⟩ := ms_out (lw := lw) (up := up) hY hB hi (by omega) hhi hb (up - lw).toNat lw M (by omega) hlo.1 hG s1
  refine ⟨M1, fun d hd => ?_, k1, f1⟩
  refine callD_go 1 hd rfl (fun e he => ?_)
  show R e m_X8_markSlides 0 [.val (.ref 127), .val (.int (iI its)), .val (.int (iI lw)), .val (.int (iI up)), .unset, .unset] [] T M F = _
  have r1 := fun l5 => r1 e l5 he
  clear hG hb k1 f1 hY
  simp (disch := omega) only [x_X8_markSlides_0, x_X8_markSlides_1, List.length_cons, List.length_nil, Nat.reduceLeDiff, Nat.zero_add, iI_add, iI_sub, iI_mul, iI_neg, iI_lt, iI_le, iI_eq, jI_iI, B_True, B_False, B_t, B_f, ck_True, gd_True, cb_v, cb_n, p_mv_rw, p_fv_rw, p_rv_some, pA_1, pA_90, pA_92, pA_3, pA_2, pA_93, pA_4, pA_91, pA_95, pS_i, pW_i, pZ_0, pZ_1, pZ_b, bI_e0, u1_s, u1_n, uA_s, uA_n, true_and, and_true, not_true_eq_false, not_false_eq_true, eq_self, iI_z, al1, al2, al3, al4, al90, al91, al92, al93, al95, Int.cast_ofNat_Int, Nat.reduceAdd, Int.reduceNeg, Int.reduceAdd, Int.reduceSub, Int.reduceMul, Int.reduceLT, Int.reduceLE, Int.reduceGT, Int.reduceGE, Int.reduceEq, Int.reduceNe, Nat.reduceEqDiff, Int.zero_add, Int.add_zero, p_ty0, p_ty1, p_ty2, p_ty3, p_ty4, p_ty5, p_ty6, p_ty7, p_ty8, p_ty9, p_ty10, p_ty11, r1]
end PMRK
