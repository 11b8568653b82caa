section PWOR
variable {d s b n s1 b1 : Nat} {T : pT} {M : pM} {F : pF} {bb : Int → Int} {k t pas q its to as i c p x y X Y mv side f g u : Int}
theorem z_legal (h100 : 100 ≤ T.1.1) (hI : SI T F s b) (hs : s < T.1.1) (hb : b < T.1.1) (hS : SM M s b bb t pas q mv) (hPS : PS bb t pas) (h20 : P20 bb) (hl : (lgA bb t pas).length ≤ 840) (hq9 : q ≤ 900) (hm9 : mv ≤ 900) :
    ∃ T' M' F', ∃ r : Nat, (∀ d, 7 ≤ d → callD d m_X8_legal [.ref s] T M F = some (.inl (some (.ref r)), T', M', F')) ∧ LBs 1 T T' ∧ IX T.1.1 T M F T' M' F' ∧ AR T' M' r (lgQ bb t pas q) ∧ T.1.1 ≤ r ∧ r < T'.1.1 := by
  obtain ⟨hB, s1, s2, s3, s4, hst, hp, hq, hmv⟩ := id hS
  have i1 := hI.2.1
  have i0 := hI.1
  unfold lgQ
  by_cases hq6 : 60 ≤ q
  · rw [if_pos hq6]
    have X0 : IX T.1.1 T M F (p_new T 1 0) (uA M T.1.1 (fun _ => 0)) (uA F T.1.1 (fun _ => none)) := ⟨s_mono.new, fun a ha => ⟨uA_n (by omega), uA_n (by omega)⟩⟩
    have tn : p_ty (p_new T 1 0) T.1.1 = (1, 0) := p_ty_nw h100
    have A0 : AR (p_new T 1 0) (uA M T.1.1 (fun _ => 0)) T.1.1 [] := ⟨h100, tn, fun j hj => absurd hj (by simp)⟩
    refine ⟨p_new T 1 0, _, _, T.1.1, fun d hd => ?_, ⟨by rw [p_nn]; omega, Nat.le_add_right T.1.2 _⟩, X0, A0, Nat.le_refl _, Nat.lt_succ_self _⟩
    refine callD_go 6 hd rfl (fun e he => ?_)
    show R e m_X8_legal 0 [.val (.ref s)] [] T M F = _
    have y0 : (0 : Int).toNat = 0 := rfl
    clear hB hS
    simp (disch := omega) only [x_X8_legal_0, x_X8_legal_1, x_X8_legal_4, x_X8_legal_6, x_X8_legal_9, x_X8_legal_10, x_X8_legal_12, x_X8_legal_15, x_X8_legal_16, x_X8_legal_19, List.length_cons, List.length_nil, Nat.reduceLeDiff, Nat.zero_add, iI_add, iI_sub, iI_mul, iI_neg, iI_lt, iI_le, iI_eq, jI_iI, B_True, B_False, B_t, B_f, ck_True, gd_True, cb_v, cb_n, p_mv_rw, p_fv_rw, p_rv_some, pA_1, pA_90, pA_92, pA_3, pA_5, pA_93, pA_4, pA_91, pA_6, pS_i, pB_i, pW_i, pZ_0, pZ_1, pZ_b, bI_e0, u1_s, u1_n, uA_s, uA_n, true_and, and_true, not_true_eq_false, not_false_eq_true, eq_self, iI_z, al1, al5, al3, al4, al90, al91, al92, al93, al6, Int.cast_ofNat_Int, Nat.reduceAdd, Int.reduceNeg, Int.reduceAdd, Int.reduceSub, Int.reduceMul, Int.reduceLT, Int.reduceLE, Int.reduceGT, Int.reduceGE, Int.reduceEq, Int.reduceNe, Nat.reduceEqDiff, Int.zero_add, Int.add_zero, p_ty0, p_ty1, p_ty2, p_ty3, p_ty4, p_ty5, p_ty8, p_ty9, p_ty10, i1, i0, s3, tn, y0, gd_t, ck_t, B_t, B_f]
  · rw [if_neg hq6]
    obtain ⟨T', M', F', r, c1, c2, c3, c4, c5, c6⟩ := z_all h100 hI hs hb hS hPS h20 hl hq9 hm9
    refine ⟨T', M', F', r, fun d hd => ?_, c2, c3, c4, c5, c6⟩
    refine callD_go 6 hd rfl (fun e he => ?_)
    show R e m_X8_legal 0 [.val (.ref s)] [] T M F = _
    have c1 := c1 e he
    have tn := c4.2.1
    have r100 := c4.1
    clear hB hS c3 c4
    simp (disch := omega) only [x_X8_legal_0, x_X8_legal_1, x_X8_legal_4, x_X8_legal_6, x_X8_legal_9, x_X8_legal_10, x_X8_legal_12, x_X8_legal_15, x_X8_legal_16, x_X8_legal_19, List.length_cons, List.length_nil, Nat.reduceLeDiff, Nat.zero_add, iI_add, iI_sub, iI_mul, iI_neg, iI_lt, iI_le, iI_eq, jI_iI, B_True, B_False, B_t, B_f, ck_True, gd_True, cb_v, cb_n, p_mv_rw, p_fv_rw, p_rv_some, pA_1, pA_90, pA_92, pA_3, pA_5, pA_93, pA_4, pA_91, pA_6, pS_i, pB_i, pW_i, pZ_0, pZ_1, pZ_b, bI_e0, u1_s, u1_n, uA_s, uA_n, true_and, and_true, not_true_eq_false, not_false_eq_true, eq_self, iI_z, al1, al5, al3, al4, al90, al91, al92, al93, al6, Int.cast_ofNat_Int, Nat.reduceAdd, Int.reduceNeg, Int.reduceAdd, Int.reduceSub, Int.reduceMul, Int.reduceLT, Int.reduceLE, Int.reduceGT, Int.reduceGE, Int.reduceEq, Int.reduceNe, Nat.reduceEqDiff, Int.zero_add, Int.add_zero, p_ty0, p_ty1, p_ty2, p_ty3, p_ty4, p_ty5, p_ty8, p_ty9, p_ty10, i1, i0, s3, c1, tn, gd_t, ck_t, B_t, B_f]
theorem z_how (h100 : 100 ≤ T.1.1) (hI : SI T F s b) (hs : s < T.1.1) (hb : b < T.1.1) (hS : SM M s b bb t pas q mv) (hPS : PS bb t pas) (h20 : P20 bb) (hl : (lgA bb t pas).length ≤ 840) (hq9 : q ≤ 900) (hm9 : mv ≤ 900) :
    ∃ T' M' F', (∀ d, 7 ≤ d → callD d m_X8_how [.ref s] T M F = some (.inl (some (.int (iI (hw bb t pas q)))), T', M', F')) ∧ LBs 1 T T' ∧ IX T.1.1 T M F T' M' F' := by
  obtain ⟨hB, s1, s2, s3, s4, hst, hp, hq, hmv⟩ := id hS
  have i1 := hI.2.1
  have i0 := hI.1
  have pl := fun e (he : 6 ≤ e) => z_isPlayed (d := e) hI hS (by omega)
  unfold hw
  by_cases hy : m_ply bb t
  · rw [if_pos hy]
    have hkg : m_king bb t ≠ -1 := by rcases hst with rfl | rfl; exact hy.1; exact hy.2.1
    obtain ⟨kr0, kr1, kr2⟩ := (m_king_rg bb t).resolve_left hkg
    have k3 := fun e (he : 6 ≤ e) => z_king (d := e) (T := T) (M := M) (F := F) hI hB hst (by omega)
    have hpk : pp1 (m_king bb t) = pl1 (m_king bb t) := by unfold pp1; rw [if_neg (by omega)]
    rw [hpk] at k3
    have a3 := fun e (he : 6 ≤ e) => z_attackers (d := e) (T := T) (M := M) (F := F) hI hB (to := m_king bb t) ⟨kr0, kr1⟩ (side := 1 - t) (by omega) (by omega)
    have hr := m_att_rg bb (m_king bb t) (1 - t)
    obtain ⟨T', M', F', r, c1, c2, c3, c4, c5, c6⟩ := z_all h100 hI hs hb hS hPS h20 hl hq9 hm9
    refine ⟨T', M', F', fun d hd => ?_, c2, c3⟩
    refine callD_go 6 hd rfl (fun e he => ?_)
    show R e m_X8_how 0 [.val (.ref s), .unset] [] T M F = _
    have c1 := c1 e he
    have k3 := k3 e he
    have a3 := a3 e he
    have pl := pl e he
    rw [bI_t hy] at pl
    have tn := c4.2.1
    have r100 := c4.1
    have s3' : M' s 3 = q := by rw [(c3.2 s hs).1]; exact s3
    have i1' : p_ty T' s = (18, 5) := (c3.1.2.2 s hs).trans i1
    have hck : m_chk bb t ↔ 0 < m_att bb (m_king bb t) (1 - t) := Iff.rfl
    rw [bI_iff hck]
    clear hB hS c3 c4 hck
    generalize m_att bb (m_king bb t) (1 - t) = z1 at *
    generalize pl1 (m_king bb t) = z2 at *
    generalize (lgA bb t pas).length = n at *
    by_cases cn : n = 0
    · subst cn
      rw [if_pos rfl]
      by_cases cz : 0 < z1
      · rw [bI_t cz]
        simp (disch := omega) only [x_X8_how_0, x_X8_how_1, x_X8_how_4, x_X8_how_7, x_X8_how_8, x_X8_how_9, x_X8_how_10, x_X8_how_11, x_X8_how_12, x_X8_how_15, x_X8_how_18, x_X8_how_19, x_X8_how_20, x_X8_how_23, x_X8_how_24, x_X8_how_27, x_X8_how_30, x_X8_how_31, x_X8_how_34, x_X8_how_35, x_X8_how_36, x_X8_how_37, x_X8_how_40, x_X8_how_41, x_X8_how_44, x_X8_how_45, x_X8_how_48, x_X8_how_49, x_X8_how_52, x_X8_how_53, x_X8_how_54, x_X8_how_55, x_X8_how_58, x_X8_how_60, x_X8_how_63, x_X8_how_64, x_X8_how_67, x_X8_how_68, x_X8_how_71, x_X8_how_72, x_X8_how_75, x_X8_how_76, List.length_cons, List.length_nil, Nat.reduceLeDiff, Nat.zero_add, iI_add, iI_sub, iI_mul, iI_neg, iI_lt, iI_le, iI_eq, jI_iI, B_True, B_False, B_t, B_f, ck_True, gd_True, cb_v, cb_n, p_mv_rw, p_fv_rw, p_rv_some, pA_1, pA_90, pA_92, pA_3, pA_5, pA_93, pA_4, pA_91, pA_6, pS_i, pB_i, pW_i, pZ_0, pZ_1, pZ_b, bI_e0, u1_s, u1_n, uA_s, uA_n, true_and, and_true, not_true_eq_false, not_false_eq_true, eq_self, iI_z, al1, al5, al3, al4, al90, al91, al92, al93, al6, Int.cast_ofNat_Int, Nat.reduceAdd, Int.reduceNeg, Int.reduceAdd, Int.reduceSub, Int.reduceMul, Int.reduceLT, Int.reduceLE, Int.reduceGT, Int.reduceGE, Int.reduceEq, Int.reduceNe, Nat.reduceEqDiff, Int.zero_add, Int.add_zero, p_ty0, p_ty1, p_ty2, p_ty3, p_ty4, p_ty5, p_ty8, p_ty9, p_ty10, i1, i0, s1, c1, k3, a3, pl, tn, gd_t, ck_t, B_t, B_f]
      · rw [bI_f cz]
        simp (disch := omega) only [x_X8_how_0, x_X8_how_1, x_X8_how_4, x_X8_how_7, x_X8_how_8, x_X8_how_9, x_X8_how_10, x_X8_how_11, x_X8_how_12, x_X8_how_15, x_X8_how_18, x_X8_how_19, x_X8_how_20, x_X8_how_23, x_X8_how_24, x_X8_how_27, x_X8_how_30, x_X8_how_31, x_X8_how_34, x_X8_how_35, x_X8_how_36, x_X8_how_37, x_X8_how_40, x_X8_how_41, x_X8_how_44, x_X8_how_45, x_X8_how_48, x_X8_how_49, x_X8_how_52, x_X8_how_53, x_X8_how_54, x_X8_how_55, x_X8_how_58, x_X8_how_60, x_X8_how_63, x_X8_how_64, x_X8_how_67, x_X8_how_68, x_X8_how_71, x_X8_how_72, x_X8_how_75, x_X8_how_76, List.length_cons, List.length_nil, Nat.reduceLeDiff, Nat.zero_add, iI_add, iI_sub, iI_mul, iI_neg, iI_lt, iI_le, iI_eq, jI_iI, B_True, B_False, B_t, B_f, ck_True, gd_True, cb_v, cb_n, p_mv_rw, p_fv_rw, p_rv_some, pA_1, pA_90, pA_92, pA_3, pA_5, pA_93, pA_4, pA_91, pA_6, pS_i, pB_i, pW_i, pZ_0, pZ_1, pZ_b, bI_e0, u1_s, u1_n, uA_s, uA_n, true_and, and_true, not_true_eq_false, not_false_eq_true, eq_self, iI_z, al1, al5, al3, al4, al90, al91, al92, al93, al6, Int.cast_ofNat_Int, Nat.reduceAdd, Int.reduceNeg, Int.reduceAdd, Int.reduceSub, Int.reduceMul, Int.reduceLT, Int.reduceLE, Int.reduceGT, Int.reduceGE, Int.reduceEq, Int.reduceNe, Nat.reduceEqDiff, Int.zero_add, Int.add_zero, p_ty0, p_ty1, p_ty2, p_ty3, p_ty4, p_ty5, p_ty8, p_ty9, p_ty10, i1, i0, s1, c1, k3, a3, pl, tn, gd_t, ck_t, B_t, B_f]
    · rw [if_neg cn]
      by_cases cq : 60 ≤ q
      · rw [if_pos cq]
        by_cases cz : 0 < z1
        · simp (disch := omega) only [x_X8_how_0, x_X8_how_1, x_X8_how_4, x_X8_how_7, x_X8_how_8, x_X8_how_9, x_X8_how_10, x_X8_how_11, x_X8_how_12, x_X8_how_15, x_X8_how_18, x_X8_how_19, x_X8_how_20, x_X8_how_23, x_X8_how_24, x_X8_how_27, x_X8_how_30, x_X8_how_31, x_X8_how_34, x_X8_how_35, x_X8_how_36, x_X8_how_37, x_X8_how_40, x_X8_how_41, x_X8_how_44, x_X8_how_45, x_X8_how_48, x_X8_how_49, x_X8_how_52, x_X8_how_53, x_X8_how_54, x_X8_how_55, x_X8_how_58, x_X8_how_60, x_X8_how_63, x_X8_how_64, x_X8_how_67, x_X8_how_68, x_X8_how_71, x_X8_how_72, x_X8_how_75, x_X8_how_76, List.length_cons, List.length_nil, Nat.reduceLeDiff, Nat.zero_add, iI_add, iI_sub, iI_mul, iI_neg, iI_lt, iI_le, iI_eq, jI_iI, B_True, B_False, B_t, B_f, ck_True, gd_True, cb_v, cb_n, p_mv_rw, p_fv_rw, p_rv_some, pA_1, pA_90, pA_92, pA_3, pA_5, pA_93, pA_4, pA_91, pA_6, pS_i, pB_i, pW_i, pZ_0, pZ_1, pZ_b, bI_e0, u1_s, u1_n, uA_s, uA_n, true_and, and_true, not_true_eq_false, not_false_eq_true, eq_self, iI_z, al1, al5, al3, al4, al90, al91, al92, al93, al6, Int.cast_ofNat_Int, Nat.reduceAdd, Int.reduceNeg, Int.reduceAdd, Int.reduceSub, Int.reduceMul, Int.reduceLT, Int.reduceLE, Int.reduceGT, Int.reduceGE, Int.reduceEq, Int.reduceNe, Nat.reduceEqDiff, Int.zero_add, Int.add_zero, p_ty0, p_ty1, p_ty2, p_ty3, p_ty4, p_ty5, p_ty8, p_ty9, p_ty10, i1, i0, i1', s1, s3', c1, k3, a3, pl, tn, gd_t, ck_t, B_t, B_f]
        · simp (disch := omega) only [x_X8_how_0, x_X8_how_1, x_X8_how_4, x_X8_how_7, x_X8_how_8, x_X8_how_9, x_X8_how_10, x_X8_how_11, x_X8_how_12, x_X8_how_15, x_X8_how_18, x_X8_how_19, x_X8_how_20, x_X8_how_23, x_X8_how_24, x_X8_how_27, x_X8_how_30, x_X8_how_31, x_X8_how_34, x_X8_how_35, x_X8_how_36, x_X8_how_37, x_X8_how_40, x_X8_how_41, x_X8_how_44, x_X8_how_45, x_X8_how_48, x_X8_how_49, x_X8_how_52, x_X8_how_53, x_X8_how_54, x_X8_how_55, x_X8_how_58, x_X8_how_60, x_X8_how_63, x_X8_how_64, x_X8_how_67, x_X8_how_68, x_X8_how_71, x_X8_how_72, x_X8_how_75, x_X8_how_76, List.length_cons, List.length_nil, Nat.reduceLeDiff, Nat.zero_add, iI_add, iI_sub, iI_mul, iI_neg, iI_lt, iI_le, iI_eq, jI_iI, B_True, B_False, B_t, B_f, ck_True, gd_True, cb_v, cb_n, p_mv_rw, p_fv_rw, p_rv_some, pA_1, pA_90, pA_92, pA_3, pA_5, pA_93, pA_4, pA_91, pA_6, pS_i, pB_i, pW_i, pZ_0, pZ_1, pZ_b, bI_e0, u1_s, u1_n, uA_s, uA_n, true_and, and_true, not_true_eq_false, not_false_eq_true, eq_self, iI_z, al1, al5, al3, al4, al90, al91, al92, al93, al6, Int.cast_ofNat_Int, Nat.reduceAdd, Int.reduceNeg, Int.reduceAdd, Int.reduceSub, Int.reduceMul, Int.reduceLT, Int.reduceLE, Int.reduceGT, Int.reduceGE, Int.reduceEq, Int.reduceNe, Nat.reduceEqDiff, Int.zero_add, Int.add_zero, p_ty0, p_ty1, p_ty2, p_ty3, p_ty4, p_ty5, p_ty8, p_ty9, p_ty10, i1, i0, i1', s1, s3', c1, k3, a3, pl, tn, gd_t, ck_t, B_t, B_f]
      · rw [if_neg cq]
        by_cases cz : 0 < z1
        · rw [bI_t cz]
          simp (disch := omega) only [x_X8_how_0, x_X8_how_1, x_X8_how_4, x_X8_how_7, x_X8_how_8, x_X8_how_9, x_X8_how_10, x_X8_how_11, x_X8_how_12, x_X8_how_15, x_X8_how_18, x_X8_how_19, x_X8_how_20, x_X8_how_23, x_X8_how_24, x_X8_how_27, x_X8_how_30, x_X8_how_31, x_X8_how_34, x_X8_how_35, x_X8_how_36, x_X8_how_37, x_X8_how_40, x_X8_how_41, x_X8_how_44, x_X8_how_45, x_X8_how_48, x_X8_how_49, x_X8_how_52, x_X8_how_53, x_X8_how_54, x_X8_how_55, x_X8_how_58, x_X8_how_60, x_X8_how_63, x_X8_how_64, x_X8_how_67, x_X8_how_68, x_X8_how_71, x_X8_how_72, x_X8_how_75, x_X8_how_76, List.length_cons, List.length_nil, Nat.reduceLeDiff, Nat.zero_add, iI_add, iI_sub, iI_mul, iI_neg, iI_lt, iI_le, iI_eq, jI_iI, B_True, B_False, B_t, B_f, ck_True, gd_True, cb_v, cb_n, p_mv_rw, p_fv_rw, p_rv_some, pA_1, pA_90, pA_92, pA_3, pA_5, pA_93, pA_4, pA_91, pA_6, pS_i, pB_i, pW_i, pZ_0, pZ_1, pZ_b, bI_e0, u1_s, u1_n, uA_s, uA_n, true_and, and_true, not_true_eq_false, not_false_eq_true, eq_self, iI_z, al1, al5, al3, al4, al90, al91, al92, al93, al6, Int.cast_ofNat_Int, Nat.reduceAdd, Int.reduceNeg, Int.reduceAdd, Int.reduceSub, Int.reduceMul, Int.reduceLT, Int.reduceLE, Int.reduceGT, Int.reduceGE, Int.reduceEq, Int.reduceNe, Nat.reduceEqDiff, Int.zero_add, Int.add_zero, p_ty0, p_ty1, p_ty2, p_ty3, p_ty4, p_ty5, p_ty8, p_ty9, p_ty10, i1, i0, i1', s1, s3', c1, k3, a3, pl, tn, gd_t, ck_t, B_t, B_f]
        · rw [bI_f cz]
          simp (disch := omega) only [x_X8_how_0, x_X8_how_1, x_X8_how_4, x_X8_how_7, x_X8_how_8, x_X8_how_9, x_X8_how_10, x_X8_how_11, x_X8_how_12, x_X8_how_15, x_X8_how_18, x_X8_how_19, x_X8_how_20, x_X8_how_23, x_X8_how_24, x_X8_how_27, x_X8_how_30, x_X8_how_31, x_X8_how_34, x_X8_how_35, x_X8_how_36, x_X8_how_37, x_X8_how_40, x_X8_how_41, x_X8_how_44, x_X8_how_45, x_X8_how_48, x_X8_how_49, x_X8_how_52, x_X8_how_53, x_X8_how_54, x_X8_how_55, x_X8_how_58, x_X8_how_60, x_X8_how_63, x_X8_how_64, x_X8_how_67, x_X8_how_68, x_X8_how_71, x_X8_how_72, x_X8_how_75, x_X8_how_76, List.length_cons, List.length_nil, Nat.reduceLeDiff, Nat.zero_add, iI_add, iI_sub, iI_mul, iI_neg, iI_lt, iI_le, iI_eq, jI_iI, B_True, B_False, B_t, B_f, ck_True, gd_True, cb_v, cb_n, p_mv_rw, p_fv_rw, p_rv_some, pA_1, pA_90, pA_92, pA_3, pA_5, pA_93, pA_4, pA_91, pA_6, pS_i, pB_i, pW_i, pZ_0, pZ_1, pZ_b, bI_e0, u1_s, u1_n, uA_s, uA_n, true_and, and_true, not_true_eq_false, not_false_eq_true, eq_self, iI_z, al1, al5, al3, al4, al90, al91, al92, al93, al6, Int.cast_ofNat_Int, Nat.reduceAdd, Int.reduceNeg, Int.reduceAdd, Int.reduceSub, Int.reduceMul, Int.reduceLT, Int.reduceLE, Int.reduceGT, Int.reduceGE, Int.reduceEq, Int.reduceNe, Nat.reduceEqDiff, Int.zero_add, Int.add_zero, p_ty0, p_ty1, p_ty2, p_ty3, p_ty4, p_ty5, p_ty8, p_ty9, p_ty10, i1, i0, i1', s1, s3', c1, k3, a3, pl, tn, gd_t, ck_t, B_t, B_f]
  · rw [if_neg hy]
    refine ⟨T, M, F, fun d hd => ?_, ⟨by omega, by omega⟩, IX.rf h100⟩
    refine callD_go 6 hd rfl (fun e he => ?_)
    show R e m_X8_how 0 [.val (.ref s), .unset] [] T M F = _
    have pl := pl e he
    rw [bI_f hy] at pl
    clear hB hS
    simp (disch := omega) only [x_X8_how_0, x_X8_how_1, x_X8_how_4, x_X8_how_7, x_X8_how_8, x_X8_how_9, x_X8_how_10, x_X8_how_11, x_X8_how_12, x_X8_how_15, x_X8_how_18, x_X8_how_19, x_X8_how_20, x_X8_how_23, x_X8_how_24, x_X8_how_27, x_X8_how_30, x_X8_how_31, x_X8_how_34, x_X8_how_35, x_X8_how_36, x_X8_how_37, x_X8_how_40, x_X8_how_41, x_X8_how_44, x_X8_how_45, x_X8_how_48, x_X8_how_49, x_X8_how_52, x_X8_how_53, x_X8_how_54, x_X8_how_55, x_X8_how_58, x_X8_how_60, x_X8_how_63, x_X8_how_64, x_X8_how_67, x_X8_how_68, x_X8_how_71, x_X8_how_72, x_X8_how_75, x_X8_how_76, List.length_cons, List.length_nil, Nat.reduceLeDiff, Nat.zero_add, iI_add, iI_sub, iI_mul, iI_neg, iI_lt, iI_le, iI_eq, jI_iI, B_True, B_False, B_t, B_f, ck_True, gd_True, cb_v, cb_n, p_mv_rw, p_fv_rw, p_rv_some, pA_1, pA_90, pA_92, pA_3, pA_5, pA_93, pA_4, pA_91, pA_6, pS_i, pB_i, pW_i, pZ_0, pZ_1, pZ_b, bI_e0, u1_s, u1_n, uA_s, uA_n, true_and, and_true, not_true_eq_false, not_false_eq_true, eq_self, iI_z, al1, al5, al3, al4, al90, al91, al92, al93, al6, Int.cast_ofNat_Int, Nat.reduceAdd, Int.reduceNeg, Int.reduceAdd, Int.reduceSub, Int.reduceMul, Int.reduceLT, Int.reduceLE, Int.reduceGT, Int.reduceGE, Int.reduceEq, Int.reduceNe, Nat.reduceEqDiff, Int.zero_add, Int.add_zero, p_ty0, p_ty1, p_ty2, p_ty3, p_ty4, p_ty5, p_ty8, p_ty9, p_ty10, i1, i0, pl, gd_t, ck_t, B_t, B_f]
theorem z_points (hI : SI T F s b) (hS : SM M s b bb t pas q mv) (hh : 0 ≤ c ∧ c ≤ 5) (hs : side = 0 ∨ side = 1) (hd : 1 ≤ d) : callD d m_X8_points [.ref s, .int (iI side), .int (iI c)] T M F = some (.inl (some (.int (iI (pt c t side)))), T, M, F) := by
  refine callD_go 0 hd rfl (fun e he => ?_)
  show R e m_X8_points 0 [.val (.ref s), .val (.int (iI side)), .val (.int (iI c))] [] T M F = _
  obtain ⟨hB, s1, s2, s3, s4, hst, hp, hq, hmv⟩ := hS
  have i1 := hI.2.1
  have i0 := hI.1
  clear hB
  unfold pt
  by_cases c2 : c = 2
  · rw [if_pos c2]
    by_cases cs : side = t
    · rw [if_pos cs]
      simp (disch := omega) only [x_X8_points_0, x_X8_points_1, x_X8_points_2, x_X8_points_5, x_X8_points_6, x_X8_points_7, x_X8_points_10, x_X8_points_13, x_X8_points_14, x_X8_points_17, x_X8_points_18, x_X8_points_21, x_X8_points_22, x_X8_points_23, x_X8_points_26, x_X8_points_27, x_X8_points_28, x_X8_points_31, x_X8_points_34, x_X8_points_35, x_X8_points_38, x_X8_points_39, x_X8_points_42, x_X8_points_43, x_X8_points_44, x_X8_points_47, x_X8_points_48, x_X8_points_51, x_X8_points_52, List.length_cons, List.length_nil, Nat.reduceLeDiff, Nat.zero_add, iI_add, iI_sub, iI_mul, iI_neg, iI_lt, iI_le, iI_eq, jI_iI, B_True, B_False, B_t, B_f, ck_True, gd_True, cb_v, cb_n, p_mv_rw, p_fv_rw, p_rv_some, pA_1, pA_90, pA_92, pA_3, pA_5, pA_93, pA_4, pA_91, pA_6, pS_i, pB_i, pW_i, pZ_0, pZ_1, pZ_b, bI_e0, u1_s, u1_n, uA_s, uA_n, true_and, and_true, not_true_eq_false, not_false_eq_true, eq_self, iI_z, al1, al5, al3, al4, al90, al91, al92, al93, al6, Int.cast_ofNat_Int, Nat.reduceAdd, Int.reduceNeg, Int.reduceAdd, Int.reduceSub, Int.reduceMul, Int.reduceLT, Int.reduceLE, Int.reduceGT, Int.reduceGE, Int.reduceEq, Int.reduceNe, Nat.reduceEqDiff, Int.zero_add, Int.add_zero, p_ty0, p_ty1, p_ty2, p_ty3, p_ty4, p_ty5, p_ty8, p_ty9, p_ty10, i1, i0, s1, gd_t, ck_t, B_t, B_f]
    · rw [if_neg cs]
      simp (disch := omega) only [x_X8_points_0, x_X8_points_1, x_X8_points_2, x_X8_points_5, x_X8_points_6, x_X8_points_7, x_X8_points_10, x_X8_points_13, x_X8_points_14, x_X8_points_17, x_X8_points_18, x_X8_points_21, x_X8_points_22, x_X8_points_23, x_X8_points_26, x_X8_points_27, x_X8_points_28, x_X8_points_31, x_X8_points_34, x_X8_points_35, x_X8_points_38, x_X8_points_39, x_X8_points_42, x_X8_points_43, x_X8_points_44, x_X8_points_47, x_X8_points_48, x_X8_points_51, x_X8_points_52, List.length_cons, List.length_nil, Nat.reduceLeDiff, Nat.zero_add, iI_add, iI_sub, iI_mul, iI_neg, iI_lt, iI_le, iI_eq, jI_iI, B_True, B_False, B_t, B_f, ck_True, gd_True, cb_v, cb_n, p_mv_rw, p_fv_rw, p_rv_some, pA_1, pA_90, pA_92, pA_3, pA_5, pA_93, pA_4, pA_91, pA_6, pS_i, pB_i, pW_i, pZ_0, pZ_1, pZ_b, bI_e0, u1_s, u1_n, uA_s, uA_n, true_and, and_true, not_true_eq_false, not_false_eq_true, eq_self, iI_z, al1, al5, al3, al4, al90, al91, al92, al93, al6, Int.cast_ofNat_Int, Nat.reduceAdd, Int.reduceNeg, Int.reduceAdd, Int.reduceSub, Int.reduceMul, Int.reduceLT, Int.reduceLE, Int.reduceGT, Int.reduceGE, Int.reduceEq, Int.reduceNe, Nat.reduceEqDiff, Int.zero_add, Int.add_zero, p_ty0, p_ty1, p_ty2, p_ty3, p_ty4, p_ty5, p_ty8, p_ty9, p_ty10, i1, i0, s1, gd_t, ck_t, B_t, B_f]
  · rw [if_neg c2]
    by_cases c3 : c = 3
    · rw [if_pos c3]
      by_cases cs : side = t
      · rw [if_pos cs]
        simp (disch := omega) only [x_X8_points_0, x_X8_points_1, x_X8_points_2, x_X8_points_5, x_X8_points_6, x_X8_points_7, x_X8_points_10, x_X8_points_13, x_X8_points_14, x_X8_points_17, x_X8_points_18, x_X8_points_21, x_X8_points_22, x_X8_points_23, x_X8_points_26, x_X8_points_27, x_X8_points_28, x_X8_points_31, x_X8_points_34, x_X8_points_35, x_X8_points_38, x_X8_points_39, x_X8_points_42, x_X8_points_43, x_X8_points_44, x_X8_points_47, x_X8_points_48, x_X8_points_51, x_X8_points_52, List.length_cons, List.length_nil, Nat.reduceLeDiff, Nat.zero_add, iI_add, iI_sub, iI_mul, iI_neg, iI_lt, iI_le, iI_eq, jI_iI, B_True, B_False, B_t, B_f, ck_True, gd_True, cb_v, cb_n, p_mv_rw, p_fv_rw, p_rv_some, pA_1, pA_90, pA_92, pA_3, pA_5, pA_93, pA_4, pA_91, pA_6, pS_i, pB_i, pW_i, pZ_0, pZ_1, pZ_b, bI_e0, u1_s, u1_n, uA_s, uA_n, true_and, and_true, not_true_eq_false, not_false_eq_true, eq_self, iI_z, al1, al5, al3, al4, al90, al91, al92, al93, al6, Int.cast_ofNat_Int, Nat.reduceAdd, Int.reduceNeg, Int.reduceAdd, Int.reduceSub, Int.reduceMul, Int.reduceLT, Int.reduceLE, Int.reduceGT, Int.reduceGE, Int.reduceEq, Int.reduceNe, Nat.reduceEqDiff, Int.zero_add, Int.add_zero, p_ty0, p_ty1, p_ty2, p_ty3, p_ty4, p_ty5, p_ty8, p_ty9, p_ty10, i1, i0, s1, gd_t, ck_t, B_t, B_f]
      · rw [if_neg cs]
        simp (disch := omega) only [x_X8_points_0, x_X8_points_1, x_X8_points_2, x_X8_points_5, x_X8_points_6, x_X8_points_7, x_X8_points_10, x_X8_points_13, x_X8_points_14, x_X8_points_17, x_X8_points_18, x_X8_points_21, x_X8_points_22, x_X8_points_23, x_X8_points_26, x_X8_points_27, x_X8_points_28, x_X8_points_31, x_X8_points_34, x_X8_points_35, x_X8_points_38, x_X8_points_39, x_X8_points_42, x_X8_points_43, x_X8_points_44, x_X8_points_47, x_X8_points_48, x_X8_points_51, x_X8_points_52, List.length_cons, List.length_nil, Nat.reduceLeDiff, Nat.zero_add, iI_add, iI_sub, iI_mul, iI_neg, iI_lt, iI_le, iI_eq, jI_iI, B_True, B_False, B_t, B_f, ck_True, gd_True, cb_v, cb_n, p_mv_rw, p_fv_rw, p_rv_some, pA_1, pA_90, pA_92, pA_3, pA_5, pA_93, pA_4, pA_91, pA_6, pS_i, pB_i, pW_i, pZ_0, pZ_1, pZ_b, bI_e0, u1_s, u1_n, uA_s, uA_n, true_and, and_true, not_true_eq_false, not_false_eq_true, eq_self, iI_z, al1, al5, al3, al4, al90, al91, al92, al93, al6, Int.cast_ofNat_Int, Nat.reduceAdd, Int.reduceNeg, Int.reduceAdd, Int.reduceSub, Int.reduceMul, Int.reduceLT, Int.reduceLE, Int.reduceGT, Int.reduceGE, Int.reduceEq, Int.reduceNe, Nat.reduceEqDiff, Int.zero_add, Int.add_zero, p_ty0, p_ty1, p_ty2, p_ty3, p_ty4, p_ty5, p_ty8, p_ty9, p_ty10, i1, i0, s1, gd_t, ck_t, B_t, B_f]
    · rw [if_neg c3]
      by_cases c4 : c = 4
      · rw [if_pos c4]
        simp (disch := omega) only [x_X8_points_0, x_X8_points_1, x_X8_points_2, x_X8_points_5, x_X8_points_6, x_X8_points_7, x_X8_points_10, x_X8_points_13, x_X8_points_14, x_X8_points_17, x_X8_points_18, x_X8_points_21, x_X8_points_22, x_X8_points_23, x_X8_points_26, x_X8_points_27, x_X8_points_28, x_X8_points_31, x_X8_points_34, x_X8_points_35, x_X8_points_38, x_X8_points_39, x_X8_points_42, x_X8_points_43, x_X8_points_44, x_X8_points_47, x_X8_points_48, x_X8_points_51, x_X8_points_52, List.length_cons, List.length_nil, Nat.reduceLeDiff, Nat.zero_add, iI_add, iI_sub, iI_mul, iI_neg, iI_lt, iI_le, iI_eq, jI_iI, B_True, B_False, B_t, B_f, ck_True, gd_True, cb_v, cb_n, p_mv_rw, p_fv_rw, p_rv_some, pA_1, pA_90, pA_92, pA_3, pA_5, pA_93, pA_4, pA_91, pA_6, pS_i, pB_i, pW_i, pZ_0, pZ_1, pZ_b, bI_e0, u1_s, u1_n, uA_s, uA_n, true_and, and_true, not_true_eq_false, not_false_eq_true, eq_self, iI_z, al1, al5, al3, al4, al90, al91, al92, al93, al6, Int.cast_ofNat_Int, Nat.reduceAdd, Int.reduceNeg, Int.reduceAdd, Int.reduceSub, Int.reduceMul, Int.reduceLT, Int.reduceLE, Int.reduceGT, Int.reduceGE, Int.reduceEq, Int.reduceNe, Nat.reduceEqDiff, Int.zero_add, Int.add_zero, p_ty0, p_ty1, p_ty2, p_ty3, p_ty4, p_ty5, p_ty8, p_ty9, p_ty10, i1, i0, s1, gd_t, ck_t, B_t, B_f]
      · rw [if_neg c4]
        simp (disch := omega) only [x_X8_points_0, x_X8_points_1, x_X8_points_2, x_X8_points_5, x_X8_points_6, x_X8_points_7, x_X8_points_10, x_X8_points_13, x_X8_points_14, x_X8_points_17, x_X8_points_18, x_X8_points_21, x_X8_points_22, x_X8_points_23, x_X8_points_26, x_X8_points_27, x_X8_points_28, x_X8_points_31, x_X8_points_34, x_X8_points_35, x_X8_points_38, x_X8_points_39, x_X8_points_42, x_X8_points_43, x_X8_points_44, x_X8_points_47, x_X8_points_48, x_X8_points_51, x_X8_points_52, List.length_cons, List.length_nil, Nat.reduceLeDiff, Nat.zero_add, iI_add, iI_sub, iI_mul, iI_neg, iI_lt, iI_le, iI_eq, jI_iI, B_True, B_False, B_t, B_f, ck_True, gd_True, cb_v, cb_n, p_mv_rw, p_fv_rw, p_rv_some, pA_1, pA_90, pA_92, pA_3, pA_5, pA_93, pA_4, pA_91, pA_6, pS_i, pB_i, pW_i, pZ_0, pZ_1, pZ_b, bI_e0, u1_s, u1_n, uA_s, uA_n, true_and, and_true, not_true_eq_false, not_false_eq_true, eq_self, iI_z, al1, al5, al3, al4, al90, al91, al92, al93, al6, Int.cast_ofNat_Int, Nat.reduceAdd, Int.reduceNeg, Int.reduceAdd, Int.reduceSub, Int.reduceMul, Int.reduceLT, Int.reduceLE, Int.reduceGT, Int.reduceGE, Int.reduceEq, Int.reduceNe, Nat.reduceEqDiff, Int.zero_add, Int.add_zero, p_ty0, p_ty1, p_ty2, p_ty3, p_ty4, p_ty5, p_ty8, p_ty9, p_ty10, i1, i0, s1, gd_t, ck_t, B_t, B_f]
noncomputable def fp (bb : Int → Int) (side p : Int) : Int := bI (isw bb p side)
theorem fp_sum : sm (fp bb side) 121 = sm (a_pc bb side) 91 := by
  rw [← sm_pl]
  refine sm_eq 121 (fun p p0 p1 => ?_)
  unfold fp isw a_pc
  by_cases c : c1 p = -1
  · rw [if_pos c, bI_f (fun z => z.1 c)]
  · rw [if_neg c]
    exact bI_iff ⟨fun z => z.2, fun z => ⟨c, z⟩⟩
theorem z_pieces (hI : SI T F s b) (hS : SB1 (M b) bb ∧ MB bb) (hs : side = 0 ∨ side = 1) (hd : 2 ≤ d) : callD d m_X8_pieces [.ref s, .int (iI side)] T M F = some (.inl (some (.int (iI (sm (a_pc bb side) 91)))), T, M, F) := by
  refine callD_go 1 hd rfl (fun e he => ?_)
  show R e m_X8_pieces 0 [.val (.ref s), .val (.int (iI side)), .unset, .unset] [] T M F = _
  have hL : ∀ (m : Nat) (p : Int), 0 ≤ p → p + m = 121 → R e m_X8_pieces 4 [.val (.ref s), .val (.int (iI side)), .val (.int (iI (sm (fp bb side) p.toNat))), .val (.int (iI p))] [] T M F = some (.inl (some (.int (iI (sm (fp bb side) 121)))), T, M, F) := by
    intro m
    induction m with
    | zero =>
      intro p hp hm
      obtain rfl : p = 121 := by omega
      rw [show (121 : Int).toNat = 121 from rfl]
      generalize sm (fp bb side) 121 = z
      simp (disch := omega) only [x_X8_pieces_0, x_X8_pieces_1, x_X8_pieces_2, x_X8_pieces_3, x_X8_pieces_4, x_X8_pieces_5, x_X8_pieces_7, x_X8_pieces_10, x_X8_pieces_11, x_X8_pieces_12, x_X8_pieces_13, x_X8_pieces_14, x_X8_pieces_17, x_X8_pieces_20, x_X8_pieces_21, x_X8_pieces_24, x_X8_pieces_25, x_X8_pieces_26, x_X8_pieces_27, x_X8_pieces_30, x_X8_pieces_33, x_X8_pieces_34, List.length_cons, List.length_nil, Nat.reduceLeDiff, Nat.zero_add, iI_add, iI_sub, iI_mul, iI_neg, iI_lt, iI_le, iI_eq, jI_iI, B_True, B_False, B_t, B_f, ck_True, gd_True, cb_v, cb_n, p_mv_rw, p_fv_rw, p_rv_some, pA_1, pA_90, pA_92, pA_3, pA_5, pA_93, pA_4, pA_91, pA_6, pS_i, pB_i, pW_i, pZ_0, pZ_1, pZ_b, bI_e0, u1_s, u1_n, uA_s, uA_n, true_and, and_true, not_true_eq_false, not_false_eq_true, eq_self, iI_z, al1, al5, al3, al4, al90, al91, al92, al93, al6, Int.cast_ofNat_Int, Nat.reduceAdd, Int.reduceNeg, Int.reduceAdd, Int.reduceSub, Int.reduceMul, Int.reduceLT, Int.reduceLE, Int.reduceGT, Int.reduceGE, Int.reduceEq, Int.reduceNe, Nat.reduceEqDiff, Int.zero_add, Int.add_zero, p_ty0, p_ty1, p_ty2, p_ty3, p_ty4, p_ty5, p_ty8, p_ty9, p_ty10, B_t, B_f]
    | succ m ih =>
      intro p hp hm
      have ih := ih (p + 1) (by omega) (by omega)
      rw [sm_s hp] at ih
      have o1 := z_isOwn (d := e) hI hS (p := p) ⟨hp, by omega⟩ hs (by omega)
      have t0 := hI.2.1
      generalize sm (fp bb side) p.toNat = z at *
      by_cases c : isw bb p side
      · rw [bI_t c] at o1
        rw [show fp bb side p = 1 from bI_t c] at ih
        rw [← ih]
        clear hS ih
        rw [x_X8_pieces_4]
        simp (disch := omega) only [x_X8_pieces_5, x_X8_pieces_7, x_X8_pieces_10, x_X8_pieces_11, x_X8_pieces_12, x_X8_pieces_13, x_X8_pieces_14, x_X8_pieces_17, x_X8_pieces_20, x_X8_pieces_21, x_X8_pieces_24, x_X8_pieces_25, x_X8_pieces_26, x_X8_pieces_27, x_X8_pieces_30, x_X8_pieces_33, x_X8_pieces_34, List.length_cons, List.length_nil, Nat.reduceLeDiff, Nat.zero_add, iI_add, iI_sub, iI_mul, iI_neg, iI_lt, iI_le, iI_eq, jI_iI, B_True, B_False, B_t, B_f, ck_True, gd_True, cb_v, cb_n, p_mv_rw, p_fv_rw, p_rv_some, pA_1, pA_90, pA_92, pA_3, pA_5, pA_93, pA_4, pA_91, pA_6, pS_i, pB_i, pW_i, pZ_0, pZ_1, pZ_b, bI_e0, u1_s, u1_n, uA_s, uA_n, true_and, and_true, not_true_eq_false, not_false_eq_true, eq_self, iI_z, al1, al5, al3, al4, al90, al91, al92, al93, al6, Int.cast_ofNat_Int, Nat.reduceAdd, Int.reduceNeg, Int.reduceAdd, Int.reduceSub, Int.reduceMul, Int.reduceLT, Int.reduceLE, Int.reduceGT, Int.reduceGE, Int.reduceEq, Int.reduceNe, Nat.reduceEqDiff, Int.zero_add, Int.add_zero, p_ty0, p_ty1, p_ty2, p_ty3, p_ty4, p_ty5, p_ty8, p_ty9, p_ty10, o1, t0, gd_t, B_t, B_f]
      · rw [bI_f c] at o1
        rw [show fp bb side p = 0 from bI_f c] at ih
        rw [← ih]
        clear hS ih
        rw [x_X8_pieces_4]
        simp (disch := omega) only [x_X8_pieces_5, x_X8_pieces_7, x_X8_pieces_10, x_X8_pieces_11, x_X8_pieces_12, x_X8_pieces_13, x_X8_pieces_14, x_X8_pieces_17, x_X8_pieces_20, x_X8_pieces_21, x_X8_pieces_24, x_X8_pieces_25, x_X8_pieces_26, x_X8_pieces_27, x_X8_pieces_30, x_X8_pieces_33, x_X8_pieces_34, List.length_cons, List.length_nil, Nat.reduceLeDiff, Nat.zero_add, iI_add, iI_sub, iI_mul, iI_neg, iI_lt, iI_le, iI_eq, jI_iI, B_True, B_False, B_t, B_f, ck_True, gd_True, cb_v, cb_n, p_mv_rw, p_fv_rw, p_rv_some, pA_1, pA_90, pA_92, pA_3, pA_5, pA_93, pA_4, pA_91, pA_6, pS_i, pB_i, pW_i, pZ_0, pZ_1, pZ_b, bI_e0, u1_s, u1_n, uA_s, uA_n, true_and, and_true, not_true_eq_false, not_false_eq_true, eq_self, iI_z, al1, al5, al3, al4, al90, al91, al92, al93, al6, Int.cast_ofNat_Int, Nat.reduceAdd, Int.reduceNeg, Int.reduceAdd, Int.reduceSub, Int.reduceMul, Int.reduceLT, Int.reduceLE, Int.reduceGT, Int.reduceGE, Int.reduceEq, Int.reduceNe, Nat.reduceEqDiff, Int.zero_add, Int.add_zero, p_ty0, p_ty1, p_ty2, p_ty3, p_ty4, p_ty5, p_ty8, p_ty9, p_ty10, o1, t0, gd_t, B_t, B_f]
  have h1 := hL 121 0 (by omega) (by omega)
  rw [fp_sum] at h1
  rw [← h1]
  show _ = R e m_X8_pieces 4 [.val (.ref s), .val (.int (iI side)), .val (.int (iI 0)), .val (.int (iI 0))] [] T M F
  simp (disch := omega) only [x_X8_pieces_0, x_X8_pieces_1, x_X8_pieces_2, x_X8_pieces_3, List.length_cons, List.length_nil, Nat.reduceLeDiff, Nat.zero_add, iI_add, iI_sub, iI_mul, iI_neg, iI_lt, iI_le, iI_eq, jI_iI, B_True, B_False, B_t, B_f, ck_True, gd_True, cb_v, cb_n, p_mv_rw, p_fv_rw, p_rv_some, pA_1, pA_90, pA_92, pA_3, pA_5, pA_93, pA_4, pA_91, pA_6, pS_i, pB_i, pW_i, pZ_0, pZ_1, pZ_b, bI_e0, u1_s, u1_n, uA_s, uA_n, true_and, and_true, not_true_eq_false, not_false_eq_true, eq_self, iI_z, al1, al5, al3, al4, al90, al91, al92, al93, al6, Int.cast_ofNat_Int, Nat.reduceAdd, Int.reduceNeg, Int.reduceAdd, Int.reduceSub, Int.reduceMul, Int.reduceLT, Int.reduceLE, Int.reduceGT, Int.reduceGE, Int.reduceEq, Int.reduceNe, Nat.reduceEqDiff, Int.zero_add, Int.add_zero, p_ty0, p_ty1, p_ty2, p_ty3, p_ty4, p_ty5, p_ty8, p_ty9, p_ty10]
theorem z_worth (h100 : 100 ≤ T.1.1) (hx : -6 ≤ x ∧ x ≤ 6) : ∃ M', (∀ d, 2 ≤ d → callD d m_X8_worth [.int (iI x)] T M F = some (.inl (some (.int (iI (m_wor (ab x))))), p_new T 1 7, M', uA F T.1.1 (fun _ => none))) ∧ ∀ a, a < T.1.1 → M' a = M a := by
  refine ⟨uA M T.1.1 (u1 (u1 (u1 (u1 (u1 (u1 (u1 (fun _ => 0) 0 0) 1 0) 2 10) 3 5) 4 3) 5 4) 6 1), fun d hd => ?_, ?_⟩
  · refine callD_go 1 hd rfl (fun e he => ?_)
    show R e m_X8_worth 0 [.val (.int (iI x)), .unset] [] T M F = _
    have tn : p_ty (p_new T 1 7) T.1.1 = (1, 7) := p_ty_nw h100
    have y7 : (7 : Int).toNat = 7 := rfl
    have a1 := fun T M F => z_abs (d := e) (T := T) (M := M) (F := F) (n := x) he (by omega)
    have hv : u1 (u1 (u1 (u1 (u1 (u1 (u1 (fun _ => (0 : Int)) 0 0) 1 0) 2 10) 3 5) 4 3) 5 4) 6 1 (ab x) = m_wor (ab x) := by
      have : ab x = 0 ∨ ab x = 1 ∨ ab x = 2 ∨ ab x = 3 ∨ ab x = 4 ∨ ab x = 5 ∨ ab x = 6 := by unfold ab; split <;> omega
      rcases this with h | h | h | h | h | h | h <;> rw [h] <;> decide
    have hr : 0 ≤ ab x ∧ ab x ≤ 6 := by unfold ab; split <;> omega
    generalize ab x = w at *
    simp (disch := omega) only [x_X8_worth_0, x_X8_worth_2, x_X8_worth_4, x_X8_worth_5, x_X8_worth_6, x_X8_worth_7, x_X8_worth_8, x_X8_worth_9, x_X8_worth_10, x_X8_worth_11, x_X8_worth_12, x_X8_worth_13, x_X8_worth_14, x_X8_worth_16, x_X8_worth_17, x_X8_worth_18, x_X8_worth_19, x_X8_worth_20, x_X8_worth_21, x_X8_worth_22, x_X8_worth_23, x_X8_worth_24, x_X8_worth_25, x_X8_worth_26, x_X8_worth_27, x_X8_worth_28, x_X8_worth_29, x_X8_worth_30, x_X8_worth_32, x_X8_worth_33, x_X8_worth_34, x_X8_worth_35, x_X8_worth_36, x_X8_worth_37, x_X8_worth_40, x_X8_worth_41, List.length_cons, List.length_nil, Nat.reduceLeDiff, Nat.zero_add, iI_add, iI_sub, iI_mul, iI_neg, iI_lt, iI_le, iI_eq, jI_iI, B_True, B_False, B_t, B_f, ck_True, gd_True, cb_v, cb_n, p_mv_rw, p_fv_rw, p_rv_some, pA_1, pA_90, pA_92, pA_3, pA_5, pA_93, pA_4, pA_91, pA_6, pS_i, pB_i, pW_i, pZ_0, pZ_1, pZ_b, bI_e0, u1_s, u1_n, uA_s, uA_n, true_and, and_true, not_true_eq_false, not_false_eq_true, eq_self, iI_z, al1, al5, al3, al4, al90, al91, al92, al93, al6, Int.cast_ofNat_Int, Nat.reduceAdd, Int.reduceNeg, Int.reduceAdd, Int.reduceSub, Int.reduceMul, Int.reduceLT, Int.reduceLE, Int.reduceGT, Int.reduceGE, Int.reduceEq, Int.reduceNe, Nat.reduceEqDiff, Int.zero_add, Int.add_zero, p_ty0, p_ty1, p_ty2, p_ty3, p_ty4, p_ty5, p_ty8, p_ty9, p_ty10, tn, y7, a1, uA_uA, hv, gd_t, ck_t, B_t, B_f]
  · intro a ha
    exact uA_n (by omega)
noncomputable def fw (bb : Int → Int) (side p : Int) : Int := @ite _ (isw bb p side) (Classical.propDecidable _) (m_wor (bb (c1 p) % 10)) 0
theorem fw_sum : sm (fw bb side) 121 = sm (a_wo bb side) 91 := by
  rw [← sm_pl]
  refine sm_eq 121 (fun p p0 p1 => ?_)
  unfold fw isw a_wo
  by_cases c : c1 p = -1
  · rw [if_pos c, if_neg (fun z => z.1 c)]
  · rw [if_neg c]
    by_cases c2 : m_side (bb (c1 p)) = side
    · rw [if_pos ⟨c, c2⟩, if_pos c2]
    · rw [if_neg (fun z => c2 z.2), if_neg c2]
theorem SB1.eqv {v v' : Int → Int} (h : SB1 v bb) (e : v' = v) : SB1 v' bb := by rw [e]; exact h
theorem z_wsL (hs : side = 0 ∨ side = 1) {b0 : Nat} (hb0 : 100 ≤ b0) (hsb : s < b0) (hbb : b < b0) : ∀ (m : Nat) (p : Int) (T : pT) (M : pM) (F : pF), b0 ≤ T.1.1 → SI T F s b → (SB1 (M b) bb ∧ MB bb) → 0 ≤ p → p + m = 121 → ∃ T' M' F', (∀ e, 2 ≤ e → R e m_X8_worths 4 [.val (.ref s), .val (.int (iI side)), .val (.int (iI (sm (fw bb side) p.toNat))), .val (.int (iI p))] [] T M F = some (.inl (some (.int (iI (sm (fw bb side) 121)))), T', M', F')) ∧ (T'.1.1 ≤ T.1.1 + m ∧ T'.1.2 ≤ T.1.2 + 7 * m) ∧ IX b0 T M F T' M' F'
  | 0, p, T, M, F, hT, hI, hS, hp, hm => by
    obtain rfl : p = 121 := by omega
    refine ⟨T, M, F, fun e he => ?_, by omega, s_mono.rf, fun a _ => ⟨rfl, rfl⟩⟩
    rw [show (121 : Int).toNat = 121 from rfl]
    generalize sm (fw bb side) 121 = z
    simp (disch := omega) only [x_X8_worths_0, x_X8_worths_1, x_X8_worths_2, x_X8_worths_3, x_X8_worths_4, x_X8_worths_5, x_X8_worths_7, x_X8_worths_10, x_X8_worths_11, x_X8_worths_12, x_X8_worths_13, x_X8_worths_14, x_X8_worths_17, x_X8_worths_20, x_X8_worths_21, x_X8_worths_24, x_X8_worths_25, x_X8_worths_26, x_X8_worths_29, x_X8_worths_32, x_X8_worths_33, x_X8_worths_34, x_X8_worths_35, x_X8_worths_38, x_X8_worths_41, x_X8_worths_42, List.length_cons, List.length_nil, Nat.reduceLeDiff, Nat.zero_add, iI_add, iI_sub, iI_mul, iI_neg, iI_lt, iI_le, iI_eq, jI_iI, B_True, B_False, B_t, B_f, ck_True, gd_True, cb_v, cb_n, p_mv_rw, p_fv_rw, p_rv_some, pA_1, pA_90, pA_92, pA_3, pA_5, pA_93, pA_4, pA_91, pA_6, pS_i, pB_i, pW_i, pZ_0, pZ_1, pZ_b, bI_e0, u1_s, u1_n, uA_s, uA_n, true_and, and_true, not_true_eq_false, not_false_eq_true, eq_self, iI_z, al1, al5, al3, al4, al90, al91, al92, al93, al6, Int.cast_ofNat_Int, Nat.reduceAdd, Int.reduceNeg, Int.reduceAdd, Int.reduceSub, Int.reduceMul, Int.reduceLT, Int.reduceLE, Int.reduceGT, Int.reduceGE, Int.reduceEq, Int.reduceNe, Nat.reduceEqDiff, Int.zero_add, Int.add_zero, p_ty0, p_ty1, p_ty2, p_ty3, p_ty4, p_ty5, p_ty8, p_ty9, p_ty10, B_t, B_f]
  | m + 1, p, T, M, F, hT, hI, hS, hp, hm => by
    have o1 := fun e (he : 2 ≤ e) => z_isOwn (d := e) hI hS (p := p) ⟨hp, by omega⟩ hs (by omega)
    obtain ⟨w1, w2, w3, w4⟩ := hS.1.own hS.2 (p := p) ⟨hp, by omega⟩ hs
    have hpp : 0 ≤ p ∧ p < 121 := ⟨hp, by omega⟩
    by_cases c : isw bb p side
    · obtain ⟨w5, w6, w7⟩ := w4 c
      have sk := sv_f hS.2 (c1 p)
      have h0 : bb (c1 p) ≠ 0 := by have := c.2; unfold m_side at this; intro z; rw [if_pos z] at this; omega
      obtain ⟨M1, r1, f1⟩ := z_worth (T := T) (M := M) (F := F) (x := sv (bb (c1 p))) (by omega) (by omega)
      have X1 : IX b0 T M F (p_new T 1 7) M1 (uA F T.1.1 (fun _ => none)) := ⟨s_mono.new, fun a ha => ⟨f1 a (by omega), uA_n (by omega)⟩⟩
      have I1 := hI.ixb X1 hsb hbb hT
      obtain ⟨T3, M3, F3, q3, c3, x3⟩ := z_wsL hs hb0 hsb hbb m (p + 1) (p_new T 1 7) M1 (uA F T.1.1 (fun _ => none)) (by rw [p_nn]; omega) I1 ⟨hS.1.eqv (f1 b (by omega)), hS.2⟩ (by omega) (by omega)
      refine ⟨T3, M3, F3, fun e he => ?_, ⟨by have := c3.1; rw [p_nn] at this; omega, by have := c3.2; have h2 : (p_new T 1 7).1.2 = T.1.2 + 7 := rfl; rw [h2] at this; omega⟩, X1.tr x3 (Nat.le_refl _)⟩
      rw [← q3 e he]
      rw [sm_s hp]
      have o1 := o1 e he
      rw [bI_t c] at o1
      have r1 := r1 e he
      have ek : ab (sv (bb (c1 p))) = bb (c1 p) % 10 := sk.2.2.2.2
      rw [ek] at r1
      rw [show fw bb side p = m_wor (bb (c1 p) % 10) by unfold fw; rw [if_pos c]]
      have i1 := hI.2.1
      have i0 := hI.1
      have i2 := hI.2.2.1
      have i3 := hI.2.2.2.1
      have i4 := hI.2.2.2.2.1
      clear q3 x3 hS I1 X1 f1 w1
      generalize m_wor (bb (c1 p) % 10) = z1 at *
      generalize sv (bb (c1 p)) = z2 at *
      generalize sm (fw bb side) p.toNat = z3 at *
      rw [x_X8_worths_4]
      simp (disch := omega) only [x_X8_worths_5, x_X8_worths_7, x_X8_worths_10, x_X8_worths_11, x_X8_worths_12, x_X8_worths_13, x_X8_worths_14, x_X8_worths_17, x_X8_worths_20, x_X8_worths_21, x_X8_worths_24, x_X8_worths_25, x_X8_worths_26, x_X8_worths_29, x_X8_worths_32, x_X8_worths_33, x_X8_worths_34, x_X8_worths_35, x_X8_worths_38, List.length_cons, List.length_nil, Nat.reduceLeDiff, Nat.zero_add, iI_add, iI_sub, iI_mul, iI_neg, iI_lt, iI_le, iI_eq, jI_iI, B_True, B_False, B_t, B_f, ck_True, gd_True, cb_v, cb_n, p_mv_rw, p_fv_rw, p_rv_some, pA_1, pA_90, pA_92, pA_3, pA_5, pA_93, pA_4, pA_91, pA_6, pS_i, pB_i, pW_i, pZ_0, pZ_1, pZ_b, bI_e0, u1_s, u1_n, uA_s, uA_n, true_and, and_true, not_true_eq_false, not_false_eq_true, eq_self, iI_z, al1, al5, al3, al4, al90, al91, al92, al93, al6, Int.cast_ofNat_Int, Nat.reduceAdd, Int.reduceNeg, Int.reduceAdd, Int.reduceSub, Int.reduceMul, Int.reduceLT, Int.reduceLE, Int.reduceGT, Int.reduceGE, Int.reduceEq, Int.reduceNe, Nat.reduceEqDiff, Int.zero_add, Int.add_zero, p_ty0, p_ty1, p_ty2, p_ty3, p_ty4, p_ty5, p_ty8, p_ty9, p_ty10, o1, r1, i0, i1, i2, i3, i4, w5, gd_t, ck_t, B_t, B_f]
    · obtain ⟨T3, M3, F3, q3, c3, x3⟩ := z_wsL hs hb0 hsb hbb m (p + 1) T M F hT hI hS (by omega) (by omega)
      refine ⟨T3, M3, F3, fun e he => ?_, by omega, x3⟩
      rw [← q3 e he]
      rw [sm_s hp]
      have o1 := o1 e he
      rw [bI_f c] at o1
      rw [show fw bb side p = 0 by unfold fw; rw [if_neg c], Int.add_zero]
      have i1 := hI.2.1
      clear q3 x3 hS w1
      generalize sm (fw bb side) p.toNat = z3 at *
      rw [x_X8_worths_4]
      simp (disch := omega) only [x_X8_worths_5, x_X8_worths_7, x_X8_worths_10, x_X8_worths_11, x_X8_worths_12, x_X8_worths_13, x_X8_worths_14, x_X8_worths_17, x_X8_worths_20, x_X8_worths_21, x_X8_worths_24, x_X8_worths_25, x_X8_worths_26, x_X8_worths_29, x_X8_worths_32, x_X8_worths_33, x_X8_worths_34, x_X8_worths_35, x_X8_worths_38, List.length_cons, List.length_nil, Nat.reduceLeDiff, Nat.zero_add, iI_add, iI_sub, iI_mul, iI_neg, iI_lt, iI_le, iI_eq, jI_iI, B_True, B_False, B_t, B_f, ck_True, gd_True, cb_v, cb_n, p_mv_rw, p_fv_rw, p_rv_some, pA_1, pA_90, pA_92, pA_3, pA_5, pA_93, pA_4, pA_91, pA_6, pS_i, pB_i, pW_i, pZ_0, pZ_1, pZ_b, bI_e0, u1_s, u1_n, uA_s, uA_n, true_and, and_true, not_true_eq_false, not_false_eq_true, eq_self, iI_z, al1, al5, al3, al4, al90, al91, al92, al93, al6, Int.cast_ofNat_Int, Nat.reduceAdd, Int.reduceNeg, Int.reduceAdd, Int.reduceSub, Int.reduceMul, Int.reduceLT, Int.reduceLE, Int.reduceGT, Int.reduceGE, Int.reduceEq, Int.reduceNe, Nat.reduceEqDiff, Int.zero_add, Int.add_zero, p_ty0, p_ty1, p_ty2, p_ty3, p_ty4, p_ty5, p_ty8, p_ty9, p_ty10, o1, i1, gd_t, ck_t, B_t, B_f]
theorem z_worths (h100 : 100 ≤ T.1.1) (hI : SI T F s b) (hsb : s < T.1.1) (hbb : b < T.1.1) (hS : SB1 (M b) bb ∧ MB bb) (hs : side = 0 ∨ side = 1) : ∃ T' M' F', (∀ d, 3 ≤ d → callD d m_X8_worths [.ref s, .int (iI side)] T M F = some (.inl (some (.int (iI (sm (a_wo bb side) 91)))), T', M', F')) ∧ (T'.1.1 ≤ T.1.1 + 121 ∧ T'.1.2 ≤ T.1.2 + 847) ∧ IX T.1.1 T M F T' M' F' := by
  obtain ⟨T3, M3, F3, q3, c3, x3⟩ := z_wsL hs h100 hsb hbb 121 0 T M F (Nat.le_refl _) hI hS (by omega) (by omega)
  rw [fw_sum] at q3
  refine ⟨T3, M3, F3, fun d hd => ?_, ⟨by omega, by omega⟩, x3⟩
  refine callD_go 2 hd rfl (fun e he => ?_)
  show R e m_X8_worths 0 [.val (.ref s), .val (.int (iI side)), .unset, .unset] [] T M F = _
  rw [← q3 e he]
  show _ = R e m_X8_worths 4 [.val (.ref s), .val (.int (iI side)), .val (.int (iI 0)), .val (.int (iI 0))] [] T M F
  simp (disch := omega) only [x_X8_worths_0, x_X8_worths_1, x_X8_worths_2, x_X8_worths_3, List.length_cons, List.length_nil, Nat.reduceLeDiff, Nat.zero_add, iI_add, iI_sub, iI_mul, iI_neg, iI_lt, iI_le, iI_eq, jI_iI, B_True, B_False, B_t, B_f, ck_True, gd_True, cb_v, cb_n, p_mv_rw, p_fv_rw, p_rv_some, pA_1, pA_90, pA_92, pA_3, pA_5, pA_93, pA_4, pA_91, pA_6, pS_i, pB_i, pW_i, pZ_0, pZ_1, pZ_b, bI_e0, u1_s, u1_n, uA_s, uA_n, true_and, and_true, not_true_eq_false, not_false_eq_true, eq_self, iI_z, al1, al5, al3, al4, al90, al91, al92, al93, al6, Int.cast_ofNat_Int, Nat.reduceAdd, Int.reduceNeg, Int.reduceAdd, Int.reduceSub, Int.reduceMul, Int.reduceLT, Int.reduceLE, Int.reduceGT, Int.reduceGE, Int.reduceEq, Int.reduceNe, Nat.reduceEqDiff, Int.zero_add, Int.add_zero, p_ty0, p_ty1, p_ty2, p_ty3, p_ty4, p_ty5, p_ty8, p_ty9, p_ty10]
end PWOR
