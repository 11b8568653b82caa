section PMRP
variable {d bd lg N : Nat} {T : pT} {M M0 M1 M2 : pM} {F : pF} {bb v w : Int → Int} {t pas q its to as p n i c s x k a b lo hi : Int} {H : List HE} {P Q : Int → Prop}
theorem mp_tk {l3 : Slot} (hY : YT T F bd lg N) (hB : YB bd) (hi : 0 ≤ its ∧ its < 91) (hb : MB bb) (ht : t = 0 ∨ t = 1) (hp : -1 ≤ pas ∧ pas < 91) (hk : k = 0 ∨ k = 1) (hG : YG M) (s1 : M bd = bb) (s3 : M 127 11 = pas) :
    ∃ M', (∀ e l5, 2 ≤ e → ∃ l5', R e m_X8_markPawn 65 [.val (.ref 127), .val (.int (iI its)), .val (.int (iI t)), l3, .val (.int (iI k)), l5] [] T M F = R e m_X8_markPawn 65 [.val (.ref 127), .val (.int (iI its)), .val (.int (iI t)), l3, .val (.int (iI (k + 1))), l5'] [] T M' F) ∧ M' 136 = mkS (M 136) (fun c => c = gn its (m_tk t k) ∧ c ≠ -1 ∧ (bb c ≠ 0 ∨ c = pas)) ∧ ∀ a, a ≠ 136 → M' a = M a := by
  obtain ⟨u1', u2, -⟩ := tk_fwd ht hk
  have hg := gn_rg hi u2
  have hst := fun e (he : 2 ≤ e) => y_step (d := e) (k := its) (i := m_tk t k) hY hG (by omega) (by omega) u2
  rw [show m_st its (m_tk t k) = gn its (m_tk t k) from if_neg (by omega)] at hst
  have htk := fun e (he : 2 ≤ e) => y_taking (d := e) (T := T) (M := M) (F := F) (s := t) (k := k) (by omega) ht hk
  have hbc := hb (gn its (m_tk t k))
  have hbd : bd ≠ 136 := by unfold YB at hB; omega
  by_cases c1 : gn its (m_tk t k) ≠ -1 ∧ (bb (gn its (m_tk t k)) ≠ 0 ∨ gn its (m_tk t k) = pas)
  · obtain ⟨M1, hM1⟩ : ∃ M1 : pM, M1 = uA M 136 (u1 (M 136) (gn its (m_tk t k)) 1) := ⟨_, rfl⟩
    refine ⟨M1, fun e l5 he => ⟨.val (.int (iI (gn its (m_tk t k)))), ?_⟩, ?_, fun a ha => by rw [hM1, uA_n ha]⟩
    · have hst := hst e he
      have htk := htk e he
      obtain ⟨ty127, ty128, fy1, ty129, fy4, ty130, fy5, ty131, fy6, ty132, fy7, ty133, fy8, ty136, fy15, ty137, fy16, ty138, fy17, ty139, fy18, ty140, fy19, ty141, fy20, ty142, fy21, ty143, fy22, hbd, tybd, fy9, hlg, tylg, fy13, hN⟩ := hY
      rw [hM1]
      obtain ⟨c1, c2⟩ := c1
      clear hG hb hM1
      conv => lhs; rw [x_X8_markPawn_65]
      by_cases c3 : bb (gn its (m_tk t k)) = 0
      · have c4 := c2.resolve_left (fun z => z c3)
        rw [c4] at hst c3 hg ⊢
        simp (disch := omega) only [x_X8_markPawn_67, x_X8_markPawn_68, x_X8_markPawn_71, x_X8_markPawn_72, x_X8_markPawn_73, x_X8_markPawn_74, x_X8_markPawn_76, x_X8_markPawn_79, x_X8_markPawn_82, x_X8_markPawn_84, x_X8_markPawn_86, x_X8_markPawn_87, x_X8_markPawn_90, x_X8_markPawn_91, x_X8_markPawn_94, x_X8_markPawn_96, x_X8_markPawn_97, x_X8_markPawn_100, x_X8_markPawn_102, x_X8_markPawn_103, x_X8_markPawn_106, x_X8_markPawn_109, x_X8_markPawn_110, x_X8_markPawn_113, x_X8_markPawn_115, x_X8_markPawn_116, x_X8_markPawn_117, x_X8_markPawn_120, List.length_cons, List.length_nil, Nat.reduceLeDiff, Nat.zero_add, iI_add, iI_sub, iI_mul, iI_neg, iI_lt, iI_le, iI_eq, jI_iI, B_True, B_False, B_t, B_f, ck_True, gd_True, cb_v, cb_n, p_mv_rw, p_fv_rw, p_rv_some, pA_1, pA_90, pA_92, pA_3, pA_2, pA_93, pA_4, pA_91, pA_95, pS_i, pW_i, pZ_0, pZ_1, pZ_b, bI_e0, u1_s, u1_n, uA_s, uA_n, true_and, and_true, not_true_eq_false, not_false_eq_true, eq_self, iI_z, al1, al2, al3, al4, al90, al91, al92, al93, al95, Int.cast_ofNat_Int, Nat.reduceAdd, Int.reduceNeg, Int.reduceAdd, Int.reduceSub, Int.reduceMul, Int.reduceLT, Int.reduceLE, Int.reduceGT, Int.reduceGE, Int.reduceEq, Int.reduceNe, Nat.reduceEqDiff, Int.zero_add, Int.add_zero, p_ty0, p_ty1, p_ty2, p_ty3, p_ty4, p_ty5, p_ty6, p_ty7, p_ty8, p_ty9, p_ty10, p_ty11, ty127, ty128, fy1, ty129, fy4, ty130, fy5, ty131, fy6, ty132, fy7, ty133, fy8, ty136, fy15, ty137, fy16, ty138, fy17, ty139, fy18, ty140, fy19, ty141, fy20, ty142, fy21, ty143, fy22, tybd, fy9, tylg, fy13, s1, s3, hst, htk, c3, gd_t, B_t, B_f]
      · simp (disch := omega) only [x_X8_markPawn_67, x_X8_markPawn_68, x_X8_markPawn_71, x_X8_markPawn_72, x_X8_markPawn_73, x_X8_markPawn_74, x_X8_markPawn_76, x_X8_markPawn_79, x_X8_markPawn_82, x_X8_markPawn_84, x_X8_markPawn_86, x_X8_markPawn_87, x_X8_markPawn_90, x_X8_markPawn_91, x_X8_markPawn_94, x_X8_markPawn_96, x_X8_markPawn_97, x_X8_markPawn_100, x_X8_markPawn_102, x_X8_markPawn_103, x_X8_markPawn_106, x_X8_markPawn_109, x_X8_markPawn_110, x_X8_markPawn_113, x_X8_markPawn_115, x_X8_markPawn_116, x_X8_markPawn_117, x_X8_markPawn_120, List.length_cons, List.length_nil, Nat.reduceLeDiff, Nat.zero_add, iI_add, iI_sub, iI_mul, iI_neg, iI_lt, iI_le, iI_eq, jI_iI, B_True, B_False, B_t, B_f, ck_True, gd_True, cb_v, cb_n, p_mv_rw, p_fv_rw, p_rv_some, pA_1, pA_90, pA_92, pA_3, pA_2, pA_93, pA_4, pA_91, pA_95, pS_i, pW_i, pZ_0, pZ_1, pZ_b, bI_e0, u1_s, u1_n, uA_s, uA_n, true_and, and_true, not_true_eq_false, not_false_eq_true, eq_self, iI_z, al1, al2, al3, al4, al90, al91, al92, al93, al95, Int.cast_ofNat_Int, Nat.reduceAdd, Int.reduceNeg, Int.reduceAdd, Int.reduceSub, Int.reduceMul, Int.reduceLT, Int.reduceLE, Int.reduceGT, Int.reduceGE, Int.reduceEq, Int.reduceNe, Nat.reduceEqDiff, Int.zero_add, Int.add_zero, p_ty0, p_ty1, p_ty2, p_ty3, p_ty4, p_ty5, p_ty6, p_ty7, p_ty8, p_ty9, p_ty10, p_ty11, ty127, ty128, fy1, ty129, fy4, ty130, fy5, ty131, fy6, ty132, fy7, ty133, fy8, ty136, fy15, ty137, fy16, ty138, fy17, ty139, fy18, ty140, fy19, ty141, fy20, ty142, fy21, ty143, fy22, tybd, fy9, tylg, fy13, s1, s3, hst, htk, gd_t, B_t, B_f]
    · rw [hM1, uA_s, mkS_1]
      refine mkS_c (fun y => ?_)
      constructor
      · intro z; rw [z]; exact ⟨rfl, c1⟩
      · rintro ⟨z, -⟩; exact z
  · refine ⟨M, fun e l5 he => ⟨.val (.int (iI (gn its (m_tk t k)))), ?_⟩, ?_, fun _ _ => rfl⟩
    · have hst := hst e he
      have htk := htk e he
      obtain ⟨ty127, ty128, fy1, ty129, fy4, ty130, fy5, ty131, fy6, ty132, fy7, ty133, fy8, ty136, fy15, ty137, fy16, ty138, fy17, ty139, fy18, ty140, fy19, ty141, fy20, ty142, fy21, ty143, fy22, hbd, tybd, fy9, hlg, tylg, fy13, hN⟩ := hY
      clear hG hb
      conv => lhs; rw [x_X8_markPawn_65]
      by_cases c2 : gn its (m_tk t k) = -1
      · simp (disch := omega) only [x_X8_markPawn_67, x_X8_markPawn_68, x_X8_markPawn_71, x_X8_markPawn_72, x_X8_markPawn_73, x_X8_markPawn_74, x_X8_markPawn_76, x_X8_markPawn_79, x_X8_markPawn_82, x_X8_markPawn_84, x_X8_markPawn_86, x_X8_markPawn_87, x_X8_markPawn_90, x_X8_markPawn_91, x_X8_markPawn_94, x_X8_markPawn_96, x_X8_markPawn_97, x_X8_markPawn_100, x_X8_markPawn_102, x_X8_markPawn_103, x_X8_markPawn_106, x_X8_markPawn_109, x_X8_markPawn_110, x_X8_markPawn_113, x_X8_markPawn_115, x_X8_markPawn_116, x_X8_markPawn_117, x_X8_markPawn_120, List.length_cons, List.length_nil, Nat.reduceLeDiff, Nat.zero_add, iI_add, iI_sub, iI_mul, iI_neg, iI_lt, iI_le, iI_eq, jI_iI, B_True, B_False, B_t, B_f, ck_True, gd_True, cb_v, cb_n, p_mv_rw, p_fv_rw, p_rv_some, pA_1, pA_90, pA_92, pA_3, pA_2, pA_93, pA_4, pA_91, pA_95, pS_i, pW_i, pZ_0, pZ_1, pZ_b, bI_e0, u1_s, u1_n, uA_s, uA_n, true_and, and_true, not_true_eq_false, not_false_eq_true, eq_self, iI_z, al1, al2, al3, al4, al90, al91, al92, al93, al95, Int.cast_ofNat_Int, Nat.reduceAdd, Int.reduceNeg, Int.reduceAdd, Int.reduceSub, Int.reduceMul, Int.reduceLT, Int.reduceLE, Int.reduceGT, Int.reduceGE, Int.reduceEq, Int.reduceNe, Nat.reduceEqDiff, Int.zero_add, Int.add_zero, p_ty0, p_ty1, p_ty2, p_ty3, p_ty4, p_ty5, p_ty6, p_ty7, p_ty8, p_ty9, p_ty10, p_ty11, ty127, ty128, fy1, ty129, fy4, ty130, fy5, ty131, fy6, ty132, fy7, ty133, fy8, ty136, fy15, ty137, fy16, ty138, fy17, ty139, fy18, ty140, fy19, ty141, fy20, ty142, fy21, ty143, fy22, tybd, fy9, tylg, fy13, s1, s3, hst, htk, c2, gd_t, B_t, B_f]
      · have c3 : bb (gn its (m_tk t k)) = 0 := by
          refine Classical.byContradiction (fun z => c1 ⟨c2, Or.inl z⟩)
        have c4 : gn its (m_tk t k) ≠ pas := fun z => c1 ⟨c2, Or.inr z⟩
        simp (disch := omega) only [x_X8_markPawn_67, x_X8_markPawn_68, x_X8_markPawn_71, x_X8_markPawn_72, x_X8_markPawn_73, x_X8_markPawn_74, x_X8_markPawn_76, x_X8_markPawn_79, x_X8_markPawn_82, x_X8_markPawn_84, x_X8_markPawn_86, x_X8_markPawn_87, x_X8_markPawn_90, x_X8_markPawn_91, x_X8_markPawn_94, x_X8_markPawn_96, x_X8_markPawn_97, x_X8_markPawn_100, x_X8_markPawn_102, x_X8_markPawn_103, x_X8_markPawn_106, x_X8_markPawn_109, x_X8_markPawn_110, x_X8_markPawn_113, x_X8_markPawn_115, x_X8_markPawn_116, x_X8_markPawn_117, x_X8_markPawn_120, List.length_cons, List.length_nil, Nat.reduceLeDiff, Nat.zero_add, iI_add, iI_sub, iI_mul, iI_neg, iI_lt, iI_le, iI_eq, jI_iI, B_True, B_False, B_t, B_f, ck_True, gd_True, cb_v, cb_n, p_mv_rw, p_fv_rw, p_rv_some, pA_1, pA_90, pA_92, pA_3, pA_2, pA_93, pA_4, pA_91, pA_95, pS_i, pW_i, pZ_0, pZ_1, pZ_b, bI_e0, u1_s, u1_n, uA_s, uA_n, true_and, and_true, not_true_eq_false, not_false_eq_true, eq_self, iI_z, al1, al2, al3, al4, al90, al91, al92, al93, al95, Int.cast_ofNat_Int, Nat.reduceAdd, Int.reduceNeg, Int.reduceAdd, Int.reduceSub, Int.reduceMul, Int.reduceLT, Int.reduceLE, Int.reduceGT, Int.reduceGE, Int.reduceEq, Int.reduceNe, Nat.reduceEqDiff, Int.zero_add, Int.add_zero, p_ty0, p_ty1, p_ty2, p_ty3, p_ty4, p_ty5, p_ty6, p_ty7, p_ty8, p_ty9, p_ty10, p_ty11, ty127, ty128, fy1, ty129, fy4, ty130, fy5, ty131, fy6, ty132, fy7, ty133, fy8, ty136, fy15, ty137, fy16, ty138, fy17, ty139, fy18, ty140, fy19, ty141, fy20, ty142, fy21, ty143, fy22, tybd, fy9, tylg, fy13, s1, s3, hst, htk, c3, gd_t, B_t, B_f]
    · refine (mkS_0 (fun y h => ?_)).symm
      obtain ⟨z1, z2, z3⟩ := h
      rw [z1] at z2 z3
      exact c1 ⟨z2, z3⟩
theorem y_pawn (hY : YT T F bd lg N) (hB : YB bd) (hi : 0 ≤ its ∧ its < 91) (hb : MB bb) (ht : t = 0 ∨ t = 1) (hp : -1 ≤ pas ∧ pas < 91) (hG : YG M) (s1 : M bd = bb) (s3 : M 127 11 = pas) :
    ∃ M', (∀ d, 3 ≤ d → callD d m_X8_markPawn [.ref 127, .int (iI its), .int (iI t)] T M F = some (.inl none, T, M', F)) ∧ M' 136 = mkS (M 136) (fun c => MKp bb pas its c t) ∧ ∀ a, a ≠ 136 → M' a = M a := by
  have hbd : bd ≠ 136 := by unfold YB at hB; omega
  have ah := (ah_fwd ht).2.1
  have hg := gn_rg hi ah
  have t0 := hY.1
  obtain ⟨one, h1⟩ : ∃ one, one = gn its (m_ah t) := ⟨_, rfl⟩
  have hst := fun e (he : 2 ≤ e) => y_step (d := e) (k := its) (i := m_ah t) hY hG (by omega) (by omega) ah
  rw [show m_st its (m_ah t) = gn its (m_ah t) from if_neg (by omega), ← h1] at hst
  rw [← h1] at hg
  have hah := fun e (he : 2 ≤ e) => fun M => y_ahead (d := e) (T := T) (M := M) (F := F) (s := t) (by omega) ht
  have hon := fun e (he : 2 ≤ e) => y_on (d := e) (M := M) hY (by omega) hg
  rw [s1] at hon
  have hf := fun e (he : 2 ≤ e) => fun M (hG : YG M) => y_fst (d := e) (M := M) hY hG (by omega) hi ht
  -- the first part
  have part1 : ∃ M1 l4, (∀ e, 2 ≤ e → R e m_X8_markPawn 0 [.val (.ref 127), .val (.int (iI its)), .val (.int (iI t)), .unset, .unset, .unset] [] T M F = R e m_X8_markPawn 62 [.val (.ref 127), .val (.int (iI its)), .val (.int (iI t)), .val (.int (iI one)), l4, .unset] [] T M1 F) ∧ M1 136 = mkS (M 136) (fun c => (c = one ∧ c ≠ -1 ∧ bb c = 0) ∨ (one ≠ -1 ∧ bb one = 0 ∧ m_fst its t ∧ c = gn one (m_ah t) ∧ c ≠ -1 ∧ bb c = 0)) ∧ ∀ a, a ≠ 136 → M1 a = M a := by
    by_cases c1 : one ≠ -1 ∧ bb one = 0
    · obtain ⟨c1, c2⟩ := c1
      have hon1 : m_on bb one = 0 := by unfold m_on; rw [if_neg c1]; exact c2
      rw [hon1] at hon
      have hg2 := gn_rg (k := one) (i := m_ah t) (by omega) ah
      obtain ⟨M1, hM1⟩ : ∃ M1 : pM, M1 = uA M 136 (u1 (M 136) one 1) := ⟨_, rfl⟩
      have m1 : ∀ a, a ≠ 136 → M1 a = M a := fun a ha => by rw [hM1, uA_n ha]
      have hG1 := hG.fr m1
      have hst2 := fun e (he : 2 ≤ e) => y_step (d := e) (M := M1) (k := one) (i := m_ah t) hY hG1 (by omega) (by omega) ah
      rw [show m_st one (m_ah t) = gn one (m_ah t) from if_neg c1] at hst2
      have hon2 := fun e (he : 2 ≤ e) => y_on (d := e) (M := M1) hY (by omega) hg2
      rw [m1 bd hbd, s1] at hon2
      have hf1 := fun e (he : 2 ≤ e) => hf e he M1 hG1
      have hr2 := m_on_rg hb (gn one (m_ah t))
      by_cases c3 : m_fst its t ∧ m_on bb (gn one (m_ah t)) = 0
      · obtain ⟨c3, c4⟩ := c3
        have c5 : gn one (m_ah t) ≠ -1 := by
          intro z; unfold m_on at c4; rw [if_pos z] at c4; omega
        have c6 : bb (gn one (m_ah t)) = 0 := by unfold m_on at c4; rwa [if_neg c5] at c4
        refine ⟨uA M1 136 (u1 (M1 136) (gn one (m_ah t)) 1), .val (.int (iI (gn one (m_ah t)))), fun e he => ?_, ?_, fun a ha => by rw [uA_n ha, m1 a ha]⟩
        · have v1 := hst e he
          have v2 := hah e he
          have v3 := hon e he
          have v4 := hst2 e he
          have v5 := hon2 e he
          have v6 := hf1 e he
          rw [bI_t c3] at v6
          rw [c4] at v5
          rw [hM1] at v4 v5 v6 ⊢
          have ty136 := hY.2.2.2.2.2.2.2.2.2.2.2.2.2.1
          have fy15 := hY.2.2.2.2.2.2.2.2.2.2.2.2.2.2.1
          clear hG hb hst hah hon hst2 hon2 hf1 hf hG1 m1 hM1 hY h1 c3 c4
          simp (disch := omega) only [x_X8_markPawn_0, x_X8_markPawn_1, x_X8_markPawn_2, x_X8_markPawn_3, x_X8_markPawn_6, x_X8_markPawn_9, x_X8_markPawn_10, x_X8_markPawn_11, x_X8_markPawn_12, x_X8_markPawn_15, x_X8_markPawn_18, x_X8_markPawn_19, x_X8_markPawn_22, x_X8_markPawn_23, x_X8_markPawn_24, x_X8_markPawn_25, x_X8_markPawn_26, x_X8_markPawn_27, x_X8_markPawn_28, x_X8_markPawn_31, x_X8_markPawn_34, x_X8_markPawn_36, x_X8_markPawn_37, x_X8_markPawn_38, x_X8_markPawn_39, x_X8_markPawn_42, x_X8_markPawn_45, x_X8_markPawn_46, x_X8_markPawn_48, x_X8_markPawn_51, x_X8_markPawn_54, x_X8_markPawn_55, x_X8_markPawn_58, x_X8_markPawn_60, x_X8_markPawn_61, List.length_cons, List.length_nil, Nat.reduceLeDiff, Nat.zero_add, iI_add, iI_sub, iI_mul, iI_neg, iI_lt, iI_le, iI_eq, jI_iI, B_True, B_False, B_t, B_f, ck_True, gd_True, cb_v, cb_n, p_mv_rw, p_fv_rw, p_rv_some, pA_1, pA_90, pA_92, pA_3, pA_2, pA_93, pA_4, pA_91, pA_95, pS_i, pW_i, pZ_0, pZ_1, pZ_b, bI_e0, u1_s, u1_n, uA_s, uA_n, true_and, and_true, not_true_eq_false, not_false_eq_true, eq_self, iI_z, al1, al2, al3, al4, al90, al91, al92, al93, al95, Int.cast_ofNat_Int, Nat.reduceAdd, Int.reduceNeg, Int.reduceAdd, Int.reduceSub, Int.reduceMul, Int.reduceLT, Int.reduceLE, Int.reduceGT, Int.reduceGE, Int.reduceEq, Int.reduceNe, Nat.reduceEqDiff, Int.zero_add, Int.add_zero, p_ty0, p_ty1, p_ty2, p_ty3, p_ty4, p_ty5, p_ty6, p_ty7, p_ty8, p_ty9, p_ty10, p_ty11, t0, ty136, fy15, v1, v2, v3, v4, v5, v6, uA_uA, gd_t, B_t, B_f]
        · rw [uA_s, mkS_1, hM1, uA_s, mkS_1, mkS_2]
          refine mkS_c (fun y => ?_)
          constructor
          · rintro (z | z)
            · rw [z]; exact Or.inl ⟨rfl, c1, c2⟩
            · rw [z]; exact Or.inr ⟨c1, c2, c3, rfl, c5, c6⟩
          · rintro (⟨z, -⟩ | ⟨-, -, -, z, -⟩)
            · exact Or.inl z
            · exact Or.inr z
      · refine ⟨M1, .val (.int (iI (gn one (m_ah t)))), fun e he => ?_, ?_, m1⟩
        · have v1 := hst e he
          have v2 := hah e he
          have v3 := hon e he
          have v4 := hst2 e he
          have v5 := hon2 e he
          have v6 := hf1 e he
          have ty136 := hY.2.2.2.2.2.2.2.2.2.2.2.2.2.1
          have fy15 := hY.2.2.2.2.2.2.2.2.2.2.2.2.2.2.1
          by_cases c4 : m_fst its t
          · rw [bI_t c4] at v6
            have c5 : m_on bb (gn one (m_ah t)) ≠ 0 := fun z => c3 ⟨c4, z⟩
            rw [hM1] at v4 v5 v6 ⊢
            clear hG hb hst hah hon hst2 hon2 hf1 hf hG1 m1 hM1 hY h1 c3 c4
            simp (disch := omega) only [x_X8_markPawn_0, x_X8_markPawn_1, x_X8_markPawn_2, x_X8_markPawn_3, x_X8_markPawn_6, x_X8_markPawn_9, x_X8_markPawn_10, x_X8_markPawn_11, x_X8_markPawn_12, x_X8_markPawn_15, x_X8_markPawn_18, x_X8_markPawn_19, x_X8_markPawn_22, x_X8_markPawn_23, x_X8_markPawn_24, x_X8_markPawn_25, x_X8_markPawn_26, x_X8_markPawn_27, x_X8_markPawn_28, x_X8_markPawn_31, x_X8_markPawn_34, x_X8_markPawn_36, x_X8_markPawn_37, x_X8_markPawn_38, x_X8_markPawn_39, x_X8_markPawn_42, x_X8_markPawn_45, x_X8_markPawn_46, x_X8_markPawn_48, x_X8_markPawn_51, x_X8_markPawn_54, x_X8_markPawn_55, x_X8_markPawn_58, x_X8_markPawn_60, x_X8_markPawn_61, List.length_cons, List.length_nil, Nat.reduceLeDiff, Nat.zero_add, iI_add, iI_sub, iI_mul, iI_neg, iI_lt, iI_le, iI_eq, jI_iI, B_True, B_False, B_t, B_f, ck_True, gd_True, cb_v, cb_n, p_mv_rw, p_fv_rw, p_rv_some, pA_1, pA_90, pA_92, pA_3, pA_2, pA_93, pA_4, pA_91, pA_95, pS_i, pW_i, pZ_0, pZ_1, pZ_b, bI_e0, u1_s, u1_n, uA_s, uA_n, true_and, and_true, not_true_eq_false, not_false_eq_true, eq_self, iI_z, al1, al2, al3, al4, al90, al91, al92, al93, al95, Int.cast_ofNat_Int, Nat.reduceAdd, Int.reduceNeg, Int.reduceAdd, Int.reduceSub, Int.reduceMul, Int.reduceLT, Int.reduceLE, Int.reduceGT, Int.reduceGE, Int.reduceEq, Int.reduceNe, Nat.reduceEqDiff, Int.zero_add, Int.add_zero, p_ty0, p_ty1, p_ty2, p_ty3, p_ty4, p_ty5, p_ty6, p_ty7, p_ty8, p_ty9, p_ty10, p_ty11, t0, ty136, fy15, v1, v2, v3, v4, v5, v6, uA_uA, gd_t, B_t, B_f]
          · rw [bI_f c4] at v6
            rw [hM1] at v4 v5 v6 ⊢
            clear hG hb hst hah hon hst2 hon2 hf1 hf hG1 m1 hM1 hY h1 c3 c4
            simp (disch := omega) only [x_X8_markPawn_0, x_X8_markPawn_1, x_X8_markPawn_2, x_X8_markPawn_3, x_X8_markPawn_6, x_X8_markPawn_9, x_X8_markPawn_10, x_X8_markPawn_11, x_X8_markPawn_12, x_X8_markPawn_15, x_X8_markPawn_18, x_X8_markPawn_19, x_X8_markPawn_22, x_X8_markPawn_23, x_X8_markPawn_24, x_X8_markPawn_25, x_X8_markPawn_26, x_X8_markPawn_27, x_X8_markPawn_28, x_X8_markPawn_31, x_X8_markPawn_34, x_X8_markPawn_36, x_X8_markPawn_37, x_X8_markPawn_38, x_X8_markPawn_39, x_X8_markPawn_42, x_X8_markPawn_45, x_X8_markPawn_46, x_X8_markPawn_48, x_X8_markPawn_51, x_X8_markPawn_54, x_X8_markPawn_55, x_X8_markPawn_58, x_X8_markPawn_60, x_X8_markPawn_61, List.length_cons, List.length_nil, Nat.reduceLeDiff, Nat.zero_add, iI_add, iI_sub, iI_mul, iI_neg, iI_lt, iI_le, iI_eq, jI_iI, B_True, B_False, B_t, B_f, ck_True, gd_True, cb_v, cb_n, p_mv_rw, p_fv_rw, p_rv_some, pA_1, pA_90, pA_92, pA_3, pA_2, pA_93, pA_4, pA_91, pA_95, pS_i, pW_i, pZ_0, pZ_1, pZ_b, bI_e0, u1_s, u1_n, uA_s, uA_n, true_and, and_true, not_true_eq_false, not_false_eq_true, eq_self, iI_z, al1, al2, al3, al4, al90, al91, al92, al93, al95, Int.cast_ofNat_Int, Nat.reduceAdd, Int.reduceNeg, Int.reduceAdd, Int.reduceSub, Int.reduceMul, Int.reduceLT, Int.reduceLE, Int.reduceGT, Int.reduceGE, Int.reduceEq, Int.reduceNe, Nat.reduceEqDiff, Int.zero_add, Int.add_zero, p_ty0, p_ty1, p_ty2, p_ty3, p_ty4, p_ty5, p_ty6, p_ty7, p_ty8, p_ty9, p_ty10, p_ty11, t0, ty136, fy15, v1, v2, v3, v4, v5, v6, uA_uA, gd_t, B_t, B_f]
        · rw [hM1, uA_s, mkS_1]
          refine mkS_c (fun y => ?_)
          constructor
          · intro z; rw [z]; exact Or.inl ⟨rfl, c1, c2⟩
          · rintro (⟨z, -⟩ | ⟨-, -, z1, z2, z3, z4⟩)
            · exact z
            · exfalso
              refine c3 ⟨z1, ?_⟩
              rw [← z2]; unfold m_on; rw [if_neg z3]; exact z4
    · refine ⟨M, .unset, fun e he => ?_, (mkS_0 (fun y h => ?_)).symm, fun _ _ => rfl⟩
      · have v1 := hst e he
        have v2 := hah e he
        have v3 := hon e he
        have hr := m_on_rg hb one
        have c2 : m_on bb one ≠ 0 := by
          intro z
          unfold m_on at z
          split at z
          · omega
          · rename_i z1; exact c1 ⟨z1, z⟩
        clear hG hb hst hah hon hf hY h1 c1
        simp (disch := omega) only [x_X8_markPawn_0, x_X8_markPawn_1, x_X8_markPawn_2, x_X8_markPawn_3, x_X8_markPawn_6, x_X8_markPawn_9, x_X8_markPawn_10, x_X8_markPawn_11, x_X8_markPawn_12, x_X8_markPawn_15, List.length_cons, List.length_nil, Nat.reduceLeDiff, Nat.zero_add, iI_add, iI_sub, iI_mul, iI_neg, iI_lt, iI_le, iI_eq, jI_iI, B_True, B_False, B_t, B_f, ck_True, gd_True, cb_v, cb_n, p_mv_rw, p_fv_rw, p_rv_some, pA_1, pA_90, pA_92, pA_3, pA_2, pA_93, pA_4, pA_91, pA_95, pS_i, pW_i, pZ_0, pZ_1, pZ_b, bI_e0, u1_s, u1_n, uA_s, uA_n, true_and, and_true, not_true_eq_false, not_false_eq_true, eq_self, iI_z, al1, al2, al3, al4, al90, al91, al92, al93, al95, Int.cast_ofNat_Int, Nat.reduceAdd, Int.reduceNeg, Int.reduceAdd, Int.reduceSub, Int.reduceMul, Int.reduceLT, Int.reduceLE, Int.reduceGT, Int.reduceGE, Int.reduceEq, Int.reduceNe, Nat.reduceEqDiff, Int.zero_add, Int.add_zero, p_ty0, p_ty1, p_ty2, p_ty3, p_ty4, p_ty5, p_ty6, p_ty7, p_ty8, p_ty9, p_ty10, p_ty11, t0, v1, v2, v3, gd_t, B_t, B_f]
      · rcases h with ⟨z1, z2, z3⟩ | ⟨z1, z2, -⟩
        · rw [z1] at z2 z3; exact c1 ⟨z2, z3⟩
        · exact c1 ⟨z1, z2⟩
  obtain ⟨M1, l4, r1, k1, f1⟩ := part1
  obtain ⟨M2, r2, k2, f2⟩ := mp_tk (l3 := .val (.int (iI one))) (k := 0) (M := M1) hY hB hi hb ht hp (Or.inl rfl) (hG.fr f1) ((f1 bd hbd).trans s1) (by rw [f1 127 (by omega)]; exact s3)
  have f12 : ∀ a, a ≠ 136 → M2 a = M a := fun a ha => (f2 a ha).trans (f1 a ha)
  obtain ⟨M3, r3, k3, f3⟩ := mp_tk (l3 := .val (.int (iI one))) (k := 1) (M := M2) hY hB hi hb ht hp (Or.inr rfl) (hG.fr f12) ((f12 bd hbd).trans s1) (by rw [f12 127 (by omega)]; exact s3)
  refine ⟨M3, fun d hd => ?_, ?_, fun a ha => (f3 a ha).trans (f12 a ha)⟩
  · refine callD_go 2 hd rfl (fun e he => ?_)
    show R e m_X8_markPawn 0 [.val (.ref 127), .val (.int (iI its)), .val (.int (iI t)), .unset, .unset, .unset] [] T M F = _
    rw [r1 e he]
    obtain ⟨l5, r2⟩ := r2 e .unset he
    obtain ⟨l6, r3⟩ := r3 e l5 he
    clear hG hb hst hah hon hf hY h1 k1 f1 k2 f2 k3 f3 f12 r1
    simp (disch := omega) only [x_X8_markPawn_62, x_X8_markPawn_63, List.length_cons, List.length_nil, Nat.reduceLeDiff, Nat.zero_add, iI_add, iI_sub, iI_mul, iI_neg, iI_lt, iI_le, iI_eq, jI_iI, B_True, B_False, B_t, B_f, ck_True, gd_True, cb_v, cb_n, p_mv_rw, p_fv_rw, p_rv_some, pA_1, pA_90, pA_92, pA_3, pA_2, pA_93, pA_4, pA_91, pA_95, pS_i, pW_i, pZ_0, pZ_1, pZ_b, bI_e0, u1_s, u1_n, uA_s, uA_n, true_and, and_true, not_true_eq_false, not_false_eq_true, eq_self, iI_z, al1, al2, al3, al4, al90, al91, al92, al93, al95, Int.cast_ofNat_Int, Nat.reduceAdd, Int.reduceNeg, Int.reduceAdd, Int.reduceSub, Int.reduceMul, Int.reduceLT, Int.reduceLE, Int.reduceGT, Int.reduceGE, Int.reduceEq, Int.reduceNe, Nat.reduceEqDiff, Int.zero_add, Int.add_zero, p_ty0, p_ty1, p_ty2, p_ty3, p_ty4, p_ty5, p_ty6, p_ty7, p_ty8, p_ty9, p_ty10, p_ty11]
    rw [r2, show (0 : Int) + 1 = 1 from rfl, r3]
    simp (disch := omega) only [x_X8_markPawn_65, x_X8_markPawn_67, x_X8_markPawn_68, x_X8_markPawn_123, List.length_cons, List.length_nil, Nat.reduceLeDiff, Nat.zero_add, iI_add, iI_sub, iI_mul, iI_neg, iI_lt, iI_le, iI_eq, jI_iI, B_True, B_False, B_t, B_f, ck_True, gd_True, cb_v, cb_n, p_mv_rw, p_fv_rw, p_rv_some, pA_1, pA_90, pA_92, pA_3, pA_2, pA_93, pA_4, pA_91, pA_95, pS_i, pW_i, pZ_0, pZ_1, pZ_b, bI_e0, u1_s, u1_n, uA_s, uA_n, true_and, and_true, not_true_eq_false, not_false_eq_true, eq_self, iI_z, al1, al2, al3, al4, al90, al91, al92, al93, al95, Int.cast_ofNat_Int, Nat.reduceAdd, Int.reduceNeg, Int.reduceAdd, Int.reduceSub, Int.reduceMul, Int.reduceLT, Int.reduceLE, Int.reduceGT, Int.reduceGE, Int.reduceEq, Int.reduceNe, Nat.reduceEqDiff, Int.zero_add, Int.add_zero, p_ty0, p_ty1, p_ty2, p_ty3, p_ty4, p_ty5, p_ty6, p_ty7, p_ty8, p_ty9, p_ty10, p_ty11, B_t, B_f]
  · rw [k3, k2, k1, mkS_2, mkS_2]
    refine mkS_c (fun y => ?_)
    unfold MKp
    rw [← h1]
    constructor
    · rintro ((z | z) | z | z)
      · exact Or.inl z
      · exact Or.inr (Or.inl z)
      · exact Or.inr (Or.inr ⟨0, Or.inl rfl, z⟩)
      · exact Or.inr (Or.inr ⟨1, Or.inr rfl, z⟩)
    · rintro (z | z | ⟨i, rfl | rfl, z⟩)
      · exact Or.inl (Or.inl z)
      · exact Or.inl (Or.inr z)
      · exact Or.inr (Or.inl z)
      · exact Or.inr (Or.inr z)
end PMRP
