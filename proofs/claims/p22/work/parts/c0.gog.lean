section PGOG
variable {d s b n : Nat} {T T1 : pT} {M M1 : pM} {F F1 : pF} {bb : Int → Int} {k t pas q its to as i c p x y X Y mv side f g u : Int}
theorem go_geo (hb : MB bb) (hs : t = 0 ∨ t = 1) (hV : MV bb t pas its to) (h6 : bb its % 10 = 6) : ((gx its = gx to ∧ (gy to - gy its = 2 ∨ gy to - gy its = -2)) ↔ pl1 to = pl1 its + 2 * up1 t) ∧ (pl1 to = pl1 its + 2 * up1 t → gx to = gx its ∧ gy to = gy its + 2 * up1 t) := by
  obtain ⟨hk, ht, ho, hm, hn⟩ := hV
  rw [MK_p h6, ho, MKp_x hk ht hs, AT_p hk ht hs] at hm
  have q1 : pl1 its = 11 * (gx its + 5) + (gy its + 5) := rfl
  have q2 : pl1 to = 11 * (gx to + 5) + (gy to + 5) := rfl
  rw [q1, q2]
  rcases hs with rfl | rfl
  · rw [show up1 0 = 1 from rfl] at *
    rw [if_pos rfl] at hm
    omega
  · rw [show up1 1 = -1 from rfl] at *
    rw [if_neg (by decide)] at hm
    omega
theorem go_at (hb : MB bb) (hs : t = 0 ∨ t = 1) (hp : PS bb t pas) (hV : MV bb t pas its to) (h6 : bb its % 10 = 6) (hpas : to = pas) : gx its ≠ gx to ∧ mk_pl bb pas its to = gn to (m_ah (1 - t)) ∧ pl1 (mk_pl bb pas its to) = pl1 to - up1 t := by
  obtain ⟨h1, h2⟩ := mk_pl_iff hb hs hp hV hpas h6
  have e : mk_pl bb pas its to = gn to (m_ah (1 - t)) := by
    unfold mk_pl
    rw [if_pos ⟨h6, hpas, h1, h2⟩, hV.2.2.1]
  have hr := (mk_pl_rg hb hs hp hV).1
  refine ⟨h2, e, ?_⟩
  rw [e] at hr ⊢
  rw [gn_ah hV.2.1 (by omega)] at hr ⊢
  obtain ⟨g1, ⟨g2, g3⟩, -⟩ := cA_ok (x := gx to) (y := gy to + up1 (1 - t)) (by omega)
  unfold pl1
  rw [g2, g3]
  rcases hs with rfl | rfl
  · rw [show up1 (1 - 0) = -1 from rfl, show up1 0 = 1 from rfl]; omega
  · rw [show up1 (1 - 1) = 1 from rfl, show up1 1 = -1 from rfl]; omega
theorem z_go (hI : SI T F s b) (hS : SM M s b bb t pas q mv) (hp : PS bb t pas) (hV : MV bb t pas its to) (has : 2 ≤ as ∧ as ≤ 5) (hq9 : q ≤ 900) (hm9 : mv ≤ 900) :
    ∃ M', (∀ d, 4 ≤ d → callD d m_X8_go [.ref s, .int (iI (pl1 its)), .int (iI (pl1 to)), .int (iI as)] T M F = some (.inl (some (.int (iI (bb (mk_pl bb pas its to) % 10)))), T, M', F)) ∧ SM M' s b (mk_bb bb pas its to as) (1 - t) (mk_ps bb its to) (mk_q bb pas q its to) (mv + 1) ∧ ∀ a, a ≠ s → a ≠ b → M' a = M a := by
  obtain ⟨hB, s1, s2, s3, s4, hs, hpr, hq, hm⟩ := hS
  obtain ⟨hk, ht, ho, hmk, hno⟩ := id hV
  have hst := m_side_t hB.2 hs ho
  have hPl := mk_pl_rg hB.2 hs hp hV
  have hne : to ≠ its := by intro z; rw [z] at hno; exact hno ho
  generalize hP : mk_pl bb pas its to = P at *
  have kP := (c1_pl1 hPl.1).2.1
  have k1 := (c1_pl1 hk).2.1
  have k2 := (c1_pl1 ht).2.1
  have hth := mk_th_v hB.2 hs hV has
  have vP := hB.1.at hPl.1
  have vk := hB.1.at hk
  have sP := sv_f hB.2 P
  have sk := sv_f hB.2 its
  have hbP : 0 ≤ bb P % 10 ∧ bb P % 10 ≤ 6 := by have := hB.2 P; omega
  have hbk : 1 ≤ bb its % 10 ∧ bb its % 10 ≤ 6 := MB.pi hB.2 (by omega)
  have eP : ab (sv (bb P)) = bb P % 10 := sP.2.2.2.2
  have ek : ab (sv (bb its)) = bb its % 10 := sk.2.2.2.2
  have hI' := hI
  obtain ⟨h100, t0, f0, hb, t1, hsb⟩ := hI
  refine ⟨goM M s b (pl1 P) (pl1 to) (pl1 its) (sv (mk_th bb its to as)) (pp1 (mk_ps bb its to)) (mk_q bb pas q its to) (1 - t) (mv + 1), ?_, ?_, fun a a1 a2 => goM_o a1 a2⟩
  · intro d hd
    refine callD_go 3 hd rfl (fun e he => ?_)
    show R e m_X8_go 0 [.val (.ref s), .val (.int (iI (pl1 its))), .val (.int (iI (pl1 to))), .val (.int (iI as)), .unset, .unset, .unset, .unset] [] T M F = _
    have a1 := fun M => z_abs (d := e) (T := T) (M := M) (F := F) (n := sv (bb its)) (by omega) (by omega)
    have a2 := fun M => z_abs (d := e) (T := T) (M := M) (F := F) (n := sv (bb P)) (by omega) (by omega)
    rw [ek] at a1
    rw [eP] at a2
    have r1 := gxy_rg hk
    have r2 := gxy_rg ht
    have p1 := pl1_xy hk
    have p2 := pl1_xy ht
    have d1 : iI (pl1 to) / iI 11 = iI (gx to + 5) := by rw [(idv11 (by omega)).1, p2.1]
    have d2 : iI (pl1 its) / iI 11 = iI (gx its + 5) := by rw [(idv11 (by omega)).1, p1.1]
    have hpp := pp1_eq ht hpr
    have hpq := (pp1_lt hpr).2
    have hu := (up1_f hs).1
    -- up to 61
    have hA : R e m_X8_go 0 [.val (.ref s), .val (.int (iI (pl1 its))), .val (.int (iI (pl1 to))), .val (.int (iI as)), .unset, .unset, .unset, .unset] [] T M F =
        R e m_X8_go 61 [.val (.ref s), .val (.int (iI (pl1 its))), .val (.int (iI (pl1 to))), .val (.int (iI as)), .val (.int (iI (bb its % 10))), .val (.int (iI (up1 t))), .val (.int (iI (pl1 P))), .unset] [] T M F := by
      have a1 := a1 M
      by_cases c6 : bb its % 10 = 6
      · by_cases cp : to = pas
        · obtain ⟨g1, g2, g3⟩ := go_at hB.2 hs hp hV c6 cp
          rw [hP] at g3
          have cp2 := hpp.mpr cp
          have g1' : gx its + 5 ≠ gx to + 5 := by omega
          rw [g3]
          rw [c6] at a1 ⊢
          clear hV hB hp hmk
          generalize sv (bb its) = w at *
          generalize gx to + 5 = X at *
          generalize gx its + 5 = Y at *
          generalize pl1 to = pt at *
          generalize pl1 its = pk at *
          subst cp2
          rcases hs with rfl | rfl
          · rw [show up1 0 = 1 from rfl] at *
            simp (disch := omega) only [x_X8_go_0, x_X8_go_1, x_X8_go_4, x_X8_go_5, x_X8_go_6, x_X8_go_9, x_X8_go_11, x_X8_go_12, x_X8_go_15, x_X8_go_18, x_X8_go_19, x_X8_go_22, x_X8_go_23, x_X8_go_25, x_X8_go_27, x_X8_go_29, x_X8_go_32, x_X8_go_33, x_X8_go_34, x_X8_go_37, x_X8_go_40, x_X8_go_41, x_X8_go_43, x_X8_go_44, x_X8_go_45, x_X8_go_47, x_X8_go_48, x_X8_go_51, x_X8_go_52, x_X8_go_54, x_X8_go_55, x_X8_go_58, x_X8_go_59, List.length_cons, List.length_nil, Nat.reduceLeDiff, Nat.zero_add, iI_add, iI_sub, iI_mul, iI_neg, iI_lt, iI_le, iI_eq, jI_iI, B_True, B_False, B_t, B_f, ck_True, gd_True, cb_v, cb_n, p_mv_rw, p_fv_rw, p_rv_some, pA_1, pA_90, pA_92, pA_3, pA_5, pA_93, pA_4, pA_91, pA_6, pS_i, pB_i, pW_i, pZ_0, pZ_1, pZ_b, bI_e0, u1_s, u1_n, uA_s, uA_n, true_and, and_true, not_true_eq_false, not_false_eq_true, eq_self, iI_z, al1, al5, al3, al4, al90, al91, al92, al93, al6, Int.cast_ofNat_Int, Nat.reduceAdd, Int.reduceNeg, Int.reduceAdd, Int.reduceSub, Int.reduceMul, Int.reduceLT, Int.reduceLE, Int.reduceGT, Int.reduceGE, Int.reduceEq, Int.reduceNe, Nat.reduceEqDiff, Int.zero_add, Int.add_zero, p_ty0, p_ty1, p_ty2, p_ty3, p_ty4, p_ty5, p_ty8, p_ty9, p_ty10, t0, f0, t1, s1, s2, vk, a1, d1, d2, gd_t, ck_t, B_t, B_f]
          · rw [show up1 1 = -1 from rfl] at *
            simp (disch := omega) only [x_X8_go_0, x_X8_go_1, x_X8_go_4, x_X8_go_5, x_X8_go_6, x_X8_go_9, x_X8_go_11, x_X8_go_12, x_X8_go_15, x_X8_go_18, x_X8_go_19, x_X8_go_22, x_X8_go_23, x_X8_go_25, x_X8_go_27, x_X8_go_29, x_X8_go_32, x_X8_go_33, x_X8_go_34, x_X8_go_37, x_X8_go_40, x_X8_go_41, x_X8_go_43, x_X8_go_44, x_X8_go_45, x_X8_go_47, x_X8_go_48, x_X8_go_51, x_X8_go_52, x_X8_go_54, x_X8_go_55, x_X8_go_58, x_X8_go_59, List.length_cons, List.length_nil, Nat.reduceLeDiff, Nat.zero_add, iI_add, iI_sub, iI_mul, iI_neg, iI_lt, iI_le, iI_eq, jI_iI, B_True, B_False, B_t, B_f, ck_True, gd_True, cb_v, cb_n, p_mv_rw, p_fv_rw, p_rv_some, pA_1, pA_90, pA_92, pA_3, pA_5, pA_93, pA_4, pA_91, pA_6, pS_i, pB_i, pW_i, pZ_0, pZ_1, pZ_b, bI_e0, u1_s, u1_n, uA_s, uA_n, true_and, and_true, not_true_eq_false, not_false_eq_true, eq_self, iI_z, al1, al5, al3, al4, al90, al91, al92, al93, al6, Int.cast_ofNat_Int, Nat.reduceAdd, Int.reduceNeg, Int.reduceAdd, Int.reduceSub, Int.reduceMul, Int.reduceLT, Int.reduceLE, Int.reduceGT, Int.reduceGE, Int.reduceEq, Int.reduceNe, Nat.reduceEqDiff, Int.zero_add, Int.add_zero, p_ty0, p_ty1, p_ty2, p_ty3, p_ty4, p_ty5, p_ty8, p_ty9, p_ty10, t0, f0, t1, s1, s2, vk, a1, d1, d2, gd_t, ck_t, B_t, B_f]
        · have hPt : P = to := by
            rw [← hP]; unfold mk_pl; rw [if_neg (fun z => cp z.2.1)]
          have cp2 : ¬ pl1 to = pp1 pas := fun z => cp (hpp.mp z)
          rw [hPt]
          rw [c6] at a1 ⊢
          clear hV hB hp hmk
          generalize sv (bb its) = w at *
          generalize pl1 to = pt at *
          generalize pl1 its = pk at *
          generalize pp1 pas = pz at *
          rcases hs with rfl | rfl
          · rw [show up1 0 = 1 from rfl] at *
            simp (disch := omega) only [x_X8_go_0, x_X8_go_1, x_X8_go_4, x_X8_go_5, x_X8_go_6, x_X8_go_9, x_X8_go_11, x_X8_go_12, x_X8_go_15, x_X8_go_18, x_X8_go_19, x_X8_go_22, x_X8_go_23, x_X8_go_25, x_X8_go_27, x_X8_go_29, x_X8_go_32, x_X8_go_33, x_X8_go_34, x_X8_go_37, x_X8_go_40, x_X8_go_41, x_X8_go_43, x_X8_go_44, x_X8_go_45, x_X8_go_47, x_X8_go_48, x_X8_go_51, x_X8_go_52, x_X8_go_54, x_X8_go_55, x_X8_go_58, x_X8_go_59, List.length_cons, List.length_nil, Nat.reduceLeDiff, Nat.zero_add, iI_add, iI_sub, iI_mul, iI_neg, iI_lt, iI_le, iI_eq, jI_iI, B_True, B_False, B_t, B_f, ck_True, gd_True, cb_v, cb_n, p_mv_rw, p_fv_rw, p_rv_some, pA_1, pA_90, pA_92, pA_3, pA_5, pA_93, pA_4, pA_91, pA_6, pS_i, pB_i, pW_i, pZ_0, pZ_1, pZ_b, bI_e0, u1_s, u1_n, uA_s, uA_n, true_and, and_true, not_true_eq_false, not_false_eq_true, eq_self, iI_z, al1, al5, al3, al4, al90, al91, al92, al93, al6, Int.cast_ofNat_Int, Nat.reduceAdd, Int.reduceNeg, Int.reduceAdd, Int.reduceSub, Int.reduceMul, Int.reduceLT, Int.reduceLE, Int.reduceGT, Int.reduceGE, Int.reduceEq, Int.reduceNe, Nat.reduceEqDiff, Int.zero_add, Int.add_zero, p_ty0, p_ty1, p_ty2, p_ty3, p_ty4, p_ty5, p_ty8, p_ty9, p_ty10, t0, f0, t1, s1, s2, vk, a1, gd_t, ck_t, B_t, B_f]
          · rw [show up1 1 = -1 from rfl] at *
            simp (disch := omega) only [x_X8_go_0, x_X8_go_1, x_X8_go_4, x_X8_go_5, x_X8_go_6, x_X8_go_9, x_X8_go_11, x_X8_go_12, x_X8_go_15, x_X8_go_18, x_X8_go_19, x_X8_go_22, x_X8_go_23, x_X8_go_25, x_X8_go_27, x_X8_go_29, x_X8_go_32, x_X8_go_33, x_X8_go_34, x_X8_go_37, x_X8_go_40, x_X8_go_41, x_X8_go_43, x_X8_go_44, x_X8_go_45, x_X8_go_47, x_X8_go_48, x_X8_go_51, x_X8_go_52, x_X8_go_54, x_X8_go_55, x_X8_go_58, x_X8_go_59, List.length_cons, List.length_nil, Nat.reduceLeDiff, Nat.zero_add, iI_add, iI_sub, iI_mul, iI_neg, iI_lt, iI_le, iI_eq, jI_iI, B_True, B_False, B_t, B_f, ck_True, gd_True, cb_v, cb_n, p_mv_rw, p_fv_rw, p_rv_some, pA_1, pA_90, pA_92, pA_3, pA_5, pA_93, pA_4, pA_91, pA_6, pS_i, pB_i, pW_i, pZ_0, pZ_1, pZ_b, bI_e0, u1_s, u1_n, uA_s, uA_n, true_and, and_true, not_true_eq_false, not_false_eq_true, eq_self, iI_z, al1, al5, al3, al4, al90, al91, al92, al93, al6, Int.cast_ofNat_Int, Nat.reduceAdd, Int.reduceNeg, Int.reduceAdd, Int.reduceSub, Int.reduceMul, Int.reduceLT, Int.reduceLE, Int.reduceGT, Int.reduceGE, Int.reduceEq, Int.reduceNe, Nat.reduceEqDiff, Int.zero_add, Int.add_zero, p_ty0, p_ty1, p_ty2, p_ty3, p_ty4, p_ty5, p_ty8, p_ty9, p_ty10, t0, f0, t1, s1, s2, vk, a1, gd_t, ck_t, B_t, B_f]
      · have hPt : P = to := by
          rw [← hP]; unfold mk_pl; rw [if_neg (fun z => c6 z.1)]
        rw [hPt]
        clear hV hB hp hmk
        generalize sv (bb its) = w at *
        generalize bb its % 10 = pi at *
        rcases hs with rfl | rfl
        · rw [show up1 0 = 1 from rfl] at *
          simp (disch := omega) only [x_X8_go_0, x_X8_go_1, x_X8_go_4, x_X8_go_5, x_X8_go_6, x_X8_go_9, x_X8_go_11, x_X8_go_12, x_X8_go_15, x_X8_go_18, x_X8_go_19, x_X8_go_22, x_X8_go_23, x_X8_go_25, x_X8_go_27, x_X8_go_29, x_X8_go_32, x_X8_go_33, x_X8_go_34, x_X8_go_37, x_X8_go_40, x_X8_go_41, x_X8_go_43, x_X8_go_44, x_X8_go_45, x_X8_go_47, x_X8_go_48, x_X8_go_51, x_X8_go_52, x_X8_go_54, x_X8_go_55, x_X8_go_58, x_X8_go_59, List.length_cons, List.length_nil, Nat.reduceLeDiff, Nat.zero_add, iI_add, iI_sub, iI_mul, iI_neg, iI_lt, iI_le, iI_eq, jI_iI, B_True, B_False, B_t, B_f, ck_True, gd_True, cb_v, cb_n, p_mv_rw, p_fv_rw, p_rv_some, pA_1, pA_90, pA_92, pA_3, pA_5, pA_93, pA_4, pA_91, pA_6, pS_i, pB_i, pW_i, pZ_0, pZ_1, pZ_b, bI_e0, u1_s, u1_n, uA_s, uA_n, true_and, and_true, not_true_eq_false, not_false_eq_true, eq_self, iI_z, al1, al5, al3, al4, al90, al91, al92, al93, al6, Int.cast_ofNat_Int, Nat.reduceAdd, Int.reduceNeg, Int.reduceAdd, Int.reduceSub, Int.reduceMul, Int.reduceLT, Int.reduceLE, Int.reduceGT, Int.reduceGE, Int.reduceEq, Int.reduceNe, Nat.reduceEqDiff, Int.zero_add, Int.add_zero, p_ty0, p_ty1, p_ty2, p_ty3, p_ty4, p_ty5, p_ty8, p_ty9, p_ty10, t0, f0, t1, s1, s2, vk, a1, gd_t, ck_t, B_t, B_f]
        · rw [show up1 1 = -1 from rfl] at *
          simp (disch := omega) only [x_X8_go_0, x_X8_go_1, x_X8_go_4, x_X8_go_5, x_X8_go_6, x_X8_go_9, x_X8_go_11, x_X8_go_12, x_X8_go_15, x_X8_go_18, x_X8_go_19, x_X8_go_22, x_X8_go_23, x_X8_go_25, x_X8_go_27, x_X8_go_29, x_X8_go_32, x_X8_go_33, x_X8_go_34, x_X8_go_37, x_X8_go_40, x_X8_go_41, x_X8_go_43, x_X8_go_44, x_X8_go_45, x_X8_go_47, x_X8_go_48, x_X8_go_51, x_X8_go_52, x_X8_go_54, x_X8_go_55, x_X8_go_58, x_X8_go_59, List.length_cons, List.length_nil, Nat.reduceLeDiff, Nat.zero_add, iI_add, iI_sub, iI_mul, iI_neg, iI_lt, iI_le, iI_eq, jI_iI, B_True, B_False, B_t, B_f, ck_True, gd_True, cb_v, cb_n, p_mv_rw, p_fv_rw, p_rv_some, pA_1, pA_90, pA_92, pA_3, pA_5, pA_93, pA_4, pA_91, pA_6, pS_i, pB_i, pW_i, pZ_0, pZ_1, pZ_b, bI_e0, u1_s, u1_n, uA_s, uA_n, true_and, and_true, not_true_eq_false, not_false_eq_true, eq_self, iI_z, al1, al5, al3, al4, al90, al91, al92, al93, al6, Int.cast_ofNat_Int, Nat.reduceAdd, Int.reduceNeg, Int.reduceAdd, Int.reduceSub, Int.reduceMul, Int.reduceLT, Int.reduceLE, Int.reduceGT, Int.reduceGE, Int.reduceEq, Int.reduceNe, Nat.reduceEqDiff, Int.zero_add, Int.add_zero, p_ty0, p_ty1, p_ty2, p_ty3, p_ty4, p_ty5, p_ty8, p_ty9, p_ty10, t0, f0, t1, s1, s2, vk, a1, gd_t, ck_t, B_t, B_f]
    rw [hA]
    clear hA
    -- the board
    have hBd : R e m_X8_go 61 [.val (.ref s), .val (.int (iI (pl1 its))), .val (.int (iI (pl1 to))), .val (.int (iI as)), .val (.int (iI (bb its % 10))), .val (.int (iI (up1 t))), .val (.int (iI (pl1 P))), .unset] [] T M F =
        R e m_X8_go 126 [.val (.ref s), .val (.int (iI (pl1 its))), .val (.int (iI (pl1 to))), .val (.int (iI as)), .val (.int (iI (bb its % 10))), .val (.int (iI (up1 t))), .val (.int (iI (pl1 P))), .val (.int (iI (bb P % 10)))] [] T (uA M b (u1 (u1 (u1 (M b) (pl1 P) 0) (pl1 to) (sv (mk_th bb its to as))) (pl1 its) 0)) F := by
      have a2 := a2 M
      have hnP : pl1 its ≠ pl1 P := fun z => hPl.2.1 (pl1_inj hk hPl.1 z).symm
      have hr3 := hth.2.1
      by_cases c6 : bb its % 10 = 6 ∧ gn to (m_ah t) = -1
      · have il := fun M => z_isLast (d := e) (M := M) hI' ht hs he
        have il := il (uA M b (u1 (M b) (pl1 P) 0))
        rw [bI_t c6.2] at il
        have hw : sv (mk_th bb its to as) = as * up1 t := by
          unfold mk_th
          rw [ho, if_pos c6]
          unfold sv
          rcases hs with rfl | rfl
          · rw [show up1 0 = 1 from rfl]; split <;> omega
          · rw [show up1 1 = -1 from rfl]; split <;> omega
        have hwr : -10 ≤ as * up1 t ∧ as * up1 t ≤ 10 := by
          rcases hs with rfl | rfl
          · rw [show up1 0 = 1 from rfl]; omega
          · rw [show up1 1 = -1 from rfl]; omega
        rw [hw, c6.1]
        clear hV hB hp hmk hth
        generalize hz : as * up1 t = w at *
        generalize sv (bb its) = w1 at *
        generalize sv (bb P) = w2 at *
        generalize bb P % 10 = w3 at *
        generalize pl1 to = pt at *
        generalize pl1 its = pk at *
        generalize pl1 P = pP at *
        simp (disch := omega) only [x_X8_go_61, x_X8_go_62, x_X8_go_65, x_X8_go_67, x_X8_go_68, x_X8_go_71, x_X8_go_73, x_X8_go_74, x_X8_go_77, x_X8_go_79, x_X8_go_80, x_X8_go_81, x_X8_go_82, x_X8_go_85, x_X8_go_86, x_X8_go_88, x_X8_go_90, x_X8_go_93, x_X8_go_94, x_X8_go_95, x_X8_go_96, x_X8_go_99, x_X8_go_102, x_X8_go_105, x_X8_go_106, x_X8_go_108, x_X8_go_109, x_X8_go_112, x_X8_go_113, x_X8_go_116, x_X8_go_117, x_X8_go_118, x_X8_go_119, x_X8_go_120, x_X8_go_123, x_X8_go_124, x_X8_go_125, List.length_cons, List.length_nil, Nat.reduceLeDiff, Nat.zero_add, iI_add, iI_sub, iI_mul, iI_neg, iI_lt, iI_le, iI_eq, jI_iI, B_True, B_False, B_t, B_f, ck_True, gd_True, cb_v, cb_n, p_mv_rw, p_fv_rw, p_rv_some, pA_1, pA_90, pA_92, pA_3, pA_5, pA_93, pA_4, pA_91, pA_6, pS_i, pB_i, pW_i, pZ_0, pZ_1, pZ_b, bI_e0, u1_s, u1_n, uA_s, uA_n, true_and, and_true, not_true_eq_false, not_false_eq_true, eq_self, iI_z, al1, al5, al3, al4, al90, al91, al92, al93, al6, Int.cast_ofNat_Int, Nat.reduceAdd, Int.reduceNeg, Int.reduceAdd, Int.reduceSub, Int.reduceMul, Int.reduceLT, Int.reduceLE, Int.reduceGT, Int.reduceGE, Int.reduceEq, Int.reduceNe, Nat.reduceEqDiff, Int.zero_add, Int.add_zero, p_ty0, p_ty1, p_ty2, p_ty3, p_ty4, p_ty5, p_ty8, p_ty9, p_ty10, t0, f0, t1, s1, s2, vk, vP, a2, il, uA_uA, hz, gd_t, ck_t, B_t, B_f]
      · have hw : mk_th bb its to as = bb its := by
          unfold mk_th
          rw [ho, if_neg c6]
        rw [hw]
        by_cases c7 : bb its % 10 = 6
        · have il := fun M => z_isLast (d := e) (M := M) hI' ht hs he
          have il := il (uA M b (u1 (M b) (pl1 P) 0))
          rw [bI_f (fun z => c6 ⟨c7, z⟩)] at il
          rw [c7]
          clear hV hB hp hmk hth
          generalize sv (bb its) = w1 at *
          generalize sv (bb P) = w2 at *
          generalize bb P % 10 = w3 at *
          generalize pl1 to = pt at *
          generalize pl1 its = pk at *
          generalize pl1 P = pP at *
          simp (disch := omega) only [x_X8_go_61, x_X8_go_62, x_X8_go_65, x_X8_go_67, x_X8_go_68, x_X8_go_71, x_X8_go_73, x_X8_go_74, x_X8_go_77, x_X8_go_79, x_X8_go_80, x_X8_go_81, x_X8_go_82, x_X8_go_85, x_X8_go_86, x_X8_go_88, x_X8_go_90, x_X8_go_93, x_X8_go_94, x_X8_go_95, x_X8_go_96, x_X8_go_99, x_X8_go_102, x_X8_go_105, x_X8_go_106, x_X8_go_108, x_X8_go_109, x_X8_go_112, x_X8_go_113, x_X8_go_116, x_X8_go_117, x_X8_go_118, x_X8_go_119, x_X8_go_120, x_X8_go_123, x_X8_go_124, x_X8_go_125, List.length_cons, List.length_nil, Nat.reduceLeDiff, Nat.zero_add, iI_add, iI_sub, iI_mul, iI_neg, iI_lt, iI_le, iI_eq, jI_iI, B_True, B_False, B_t, B_f, ck_True, gd_True, cb_v, cb_n, p_mv_rw, p_fv_rw, p_rv_some, pA_1, pA_90, pA_92, pA_3, pA_5, pA_93, pA_4, pA_91, pA_6, pS_i, pB_i, pW_i, pZ_0, pZ_1, pZ_b, bI_e0, u1_s, u1_n, uA_s, uA_n, true_and, and_true, not_true_eq_false, not_false_eq_true, eq_self, iI_z, al1, al5, al3, al4, al90, al91, al92, al93, al6, Int.cast_ofNat_Int, Nat.reduceAdd, Int.reduceNeg, Int.reduceAdd, Int.reduceSub, Int.reduceMul, Int.reduceLT, Int.reduceLE, Int.reduceGT, Int.reduceGE, Int.reduceEq, Int.reduceNe, Nat.reduceEqDiff, Int.zero_add, Int.add_zero, p_ty0, p_ty1, p_ty2, p_ty3, p_ty4, p_ty5, p_ty8, p_ty9, p_ty10, t0, f0, t1, s1, s2, vk, vP, a2, il, uA_uA, gd_t, ck_t, B_t, B_f]
        · clear hV hB hp hmk hth
          generalize sv (bb its) = w1 at *
          generalize sv (bb P) = w2 at *
          generalize bb P % 10 = w3 at *
          generalize bb its % 10 = w4 at *
          generalize pl1 to = pt at *
          generalize pl1 its = pk at *
          generalize pl1 P = pP at *
          simp (disch := omega) only [x_X8_go_61, x_X8_go_62, x_X8_go_65, x_X8_go_67, x_X8_go_68, x_X8_go_71, x_X8_go_73, x_X8_go_74, x_X8_go_77, x_X8_go_79, x_X8_go_80, x_X8_go_81, x_X8_go_82, x_X8_go_85, x_X8_go_86, x_X8_go_88, x_X8_go_90, x_X8_go_93, x_X8_go_94, x_X8_go_95, x_X8_go_96, x_X8_go_99, x_X8_go_102, x_X8_go_105, x_X8_go_106, x_X8_go_108, x_X8_go_109, x_X8_go_112, x_X8_go_113, x_X8_go_116, x_X8_go_117, x_X8_go_118, x_X8_go_119, x_X8_go_120, x_X8_go_123, x_X8_go_124, x_X8_go_125, List.length_cons, List.length_nil, Nat.reduceLeDiff, Nat.zero_add, iI_add, iI_sub, iI_mul, iI_neg, iI_lt, iI_le, iI_eq, jI_iI, B_True, B_False, B_t, B_f, ck_True, gd_True, cb_v, cb_n, p_mv_rw, p_fv_rw, p_rv_some, pA_1, pA_90, pA_92, pA_3, pA_5, pA_93, pA_4, pA_91, pA_6, pS_i, pB_i, pW_i, pZ_0, pZ_1, pZ_b, bI_e0, u1_s, u1_n, uA_s, uA_n, true_and, and_true, not_true_eq_false, not_false_eq_true, eq_self, iI_z, al1, al5, al3, al4, al90, al91, al92, al93, al6, Int.cast_ofNat_Int, Nat.reduceAdd, Int.reduceNeg, Int.reduceAdd, Int.reduceSub, Int.reduceMul, Int.reduceLT, Int.reduceLE, Int.reduceGT, Int.reduceGE, Int.reduceEq, Int.reduceNe, Nat.reduceEqDiff, Int.zero_add, Int.add_zero, p_ty0, p_ty1, p_ty2, p_ty3, p_ty4, p_ty5, p_ty8, p_ty9, p_ty10, t0, f0, t1, s1, s2, vk, vP, a2, uA_uA, gd_t, ck_t, B_t, B_f]
    rw [hBd]
    clear hBd
    have hz : pp1 (mk_ps bb its to) = if bb its % 10 = 6 ∧ pl1 to = pl1 its + 2 * up1 t then pl1 its + up1 t else -1 := by
      unfold mk_ps
      by_cases c6 : bb its % 10 = 6
      · obtain ⟨g1, g2⟩ := go_geo hB.2 hs hV c6
        by_cases cl : pl1 to = pl1 its + 2 * up1 t
        · rw [if_pos ⟨c6, g1.mpr cl⟩, if_pos ⟨c6, cl⟩, ho]
          obtain ⟨m1, m2, m3⟩ := ah_mid hk ht hs (g2 cl).1 (g2 cl).2
          unfold m_st
          rw [if_neg (by omega)]
          unfold pp1
          rw [if_neg m1, m2]
        · rw [if_neg (fun z => cl (g1.mp z.2)), if_neg (fun z => cl z.2)]
          rfl
      · rw [if_neg (fun z => c6 z.1), if_neg (fun z => c6 z.1)]
        rfl
    have hzq : mk_q bb pas q its to = if bb its % 10 = 6 ∨ 0 < bb P % 10 then 0 else q + 1 := by
      unfold mk_q
      rw [hP]
      have : bb P ≠ 0 ↔ 0 < bb P % 10 := by have := hB.2 P; omega
      by_cases c : bb its % 10 = 6 ∨ bb P ≠ 0
      · rw [if_pos c, if_pos (c.imp id this.mp)]
      · rw [if_neg c, if_neg (fun z => c (z.imp id this.mpr))]
    have gD := goD (F := F) (e := e) (l3 := .val (.int (iI as))) (l6 := .val (.int (iI (pl1 P)))) (M2 := uA M b (u1 (u1 (u1 (M b) (pl1 P) 0) (pl1 to) (sv (mk_th bb its to as))) (pl1 its) 0)) (t0 := 0) hI' (t := t) (q := q) (mv := mv) (by rw [uA_n hsb]; exact s1) (by rw [uA_n hsb]; exact s3) (by rw [uA_n hsb]; exact s4) hs hq hm ⟨by omega, hbk.2⟩ hbP k1 k2 hz hzq
    rw [gD]
    unfold goM
    rw [uA_n hsb]
  · have hb9 := hB.2.mk hs hV has
    have hps := mk_PS (as := as) hB.2 hs hp hV
    refine ⟨⟨?_, hb9⟩, ?_, ?_, ?_, ?_, by omega, ?_, ?_, by omega⟩
    · rw [goM_b hsb]
      have h1 := ((hB.1.set (x := 0) hPl.1).set (x := mk_th bb its to as) ht).set (x := 0) hk
      rw [show sv 0 = 0 from rfl] at h1
      have e : u1 (u1 (u1 bb P 0) to (mk_th bb its to as)) its 0 = mk_bb bb pas its to as := by
        funext j
        unfold mk_bb u1
        rw [hP]
        by_cases j1 : j = its
        · rw [if_pos j1, if_neg (by omega), if_pos j1]
        · rw [if_neg j1, if_neg j1]
      rw [← e]
      exact h1
    · rw [goM_s, u1_n (by decide), u1_s]
    · rw [goM_s, u1_n (by decide), u1_n (by decide), u1_n (by decide), u1_s]
    · rw [goM_s, u1_n (by decide), u1_n (by decide), u1_s]
    · rw [goM_s, u1_s]
    · exact hps.imp id (fun z => ⟨z.1, z.2.1⟩)
    · unfold mk_q; split <;> omega
end PGOG
