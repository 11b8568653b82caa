section PEND
variable {L : Nat} {xs : Nat → Int32}
theorem g_lawRun (hL : L ≤ 260) : ∃ (T' : pT) (M' : pM) (F' : pF), callD 13 m_L_law [.ref 29] (g_T0 L) (g_M0 xs) g_F0 = some (.inl (some (.int (iI 1))), T', M', F') ∧ T'.1.1 ≤ 100000 ∧ T'.1.2 ≤ 6500000 := by
  have t29 : p_ty (g_T0 L) 29 = (92, L) := by rw [g_ty0, if_pos rfl]
  have n0 : (g_T0 L).1.1 = 100 := rfl
  have s0 : (g_T0 L).1.2 = 0 := rfl
  generalize g_T0 L = T0 at *
  generalize hM0 : g_M0 xs = M0
  generalize hF0 : g_F0 = F0
  -- the builder
  obtain ⟨Ta, hTa⟩ : ∃ Ta : pT, Ta = p_new T0 19 4 := ⟨_, rfl⟩
  have ya : s_mono T0 Ta := by rw [hTa]; exact s_mono.new
  have na : Ta.1.1 = 101 := by rw [hTa, p_nn, n0]
  have sa : Ta.1.2 = 4 := by rw [hTa]; show T0.1.2 + 4 = 4; omega
  have ta : p_ty Ta 100 = (19, 4) := by rw [hTa, ← n0]; exact p_ty_nw (by omega)
  obtain ⟨M1, F1, e1, B1, f1⟩ := jd_init (a := 100) (T := Ta) (M := uA M0 100 (fun _ => 0)) (F := uA F0 100 (fun _ => none)) ⟨by omega, by omega⟩ ta uA_s uA_s
  obtain ⟨Tb, hTb⟩ : ∃ Tb : pT, Tb = p_new Ta 5 16 := ⟨_, rfl⟩
  have yb : s_mono Ta Tb := by rw [hTb]; exact s_mono.new
  have nb : Tb.1.1 = 102 := by rw [hTb, p_nn, na]
  have sb : Tb.1.2 = 20 := by rw [hTb]; show Ta.1.2 + 16 = 20; omega
  rw [← hTb] at B1 e1
  have t29b : p_ty Tb 29 = (92, L) := ((ya.tr yb).2.2 29 (by omega)).trans t29
  -- the game's text
  obtain ⟨T2, M2, F2, s, bs, tx, bb, t, e2, b2, m2, mm, B2, ⟨I2, S2⟩, ⟨q1, q2, q3, q4⟩, hTQ, ⟨hm, hl⟩, hch, hhd, t292, K2, c2, d2⟩ := z_list (T := Tb) (M := M1) (F := F1) (by omega) B1 t29b (by omega) (e := 11) (by omega)
  -- the cabinet
  obtain ⟨k, hk⟩ : ∃ k : Nat, T2.1.1 = 100 + k := ⟨T2.1.1 - 100, by omega⟩
  obtain ⟨T3, M3, F3, e3, W3, ⟨n3, s3⟩, y3, f3⟩ := LW.new (T := T2) (M := M2) (F := F2) (d := 12) hk (by omega)
  have y2' : s_mono T2 T3 := s_mono.new.tr y3
  have p2 := B2.pl
  have B3 : SBo T3 M3 F3 100 b2 m2 tx := B2.kp y2' (f3 _ (by omega)).1 (f3 _ (by omega)).1 (f3 _ (by omega)).2
  have hn3 := W3.cnt
  -- the text
  obtain ⟨T4, M4, F4, e4, X4, y4, f4, n4, s4⟩ := jd_toS B3 hch (by omega)
  have e4 := e4 12 (by omega)
  have W4 := W3.up y4 (fun b b1 b2 => f4 b (by omega))
  -- taught
  obtain ⟨T5, M5, F5, ea, bs5, e5, W5, K5, n5, s5⟩ := z_taught (e := 11) (by omega) W4 X4 ⟨⟨by omega, by omega⟩, ⟨by omega, by omega⟩⟩ hch hl (by omega) hTQ (by omega) hhd
  have hn4 := W4.cnt
  have kM : M5 s = M2 s ∧ M5 bs = M2 bs ∧ F5 s = F2 s := by
    have a1 := K5.2 s (by omega) (Or.inl (by omega))
    have a2 := K5.2 bs (by omega) (Or.inl (by omega))
    have a3 := f4 s (by omega)
    have a4 := f4 bs (by omega)
    have a5 := f3 s (by omega)
    have a6 := f3 bs (by omega)
    exact ⟨by rw [a1.1, a3.1, a5.1], by rw [a2.1, a4.1, a6.1], by rw [a1.2, a3.2, a5.2]⟩
  have yy : s_mono T2 T5 := y2'.tr (y4.tr K5.1)
  have Q : LQ k s bs T5 M5 F5 (bb, t, -1, 0, []) 0 := ⟨⟨by omega, by omega⟩, ⟨I2.1, (yy.2.2 s (by omega)).trans I2.2.1, by rw [kM.2.2]; exact I2.2.2.1, I2.2.2.2.1, (yy.2.2 bs (by omega)).trans I2.2.2.2.2.1, I2.2.2.2.2.2⟩, S2.eq kM.1 kM.2.1, ea, bs5, W5⟩
  have t295 : p_ty T5 29 = (92, L) := (yy.2.2 29 (by omega)).trans t292
  obtain ⟨T6, M6, F6, e6, c6, d6⟩ := lh_3 (e := 11) (by omega) (l1 := .val (.ref 100)) (by omega) 8 0 (List.replicate 20 .unset) T5 M5 F5 (bb, t, -1, 0, []) 0 rfl Q rfl (by omega) t295 (by omega) (by omega)
  rw [show cB 12000 5010 8 = 52080 from rfl] at c6
  rw [show cB 1300000 600050 8 = 6100400 from rfl] at d6
  refine ⟨T6, M6, F6, ?_, by omega, by omega⟩
  rw [callD_succ 12 m_L_law [.ref 29] _ _ _ (by decide)]
  show R 12 m_L_law 0 [.val (.ref 29), .unset, .unset, .unset, .unset, .unset, .unset, .unset, .unset, .unset, .unset, .unset, .unset, .unset, .unset, .unset, .unset, .unset, .unset, .unset, .unset, .unset, .unset, .unset, .unset] [] T0 M0 F0 = _
  rw [← e6]
  show _ = R 12 m_L_law 38 [.val (.ref 29), .val (.ref 100), .val (.ref s), .val (.ref (100 + k)), .val (.int (iI 0)), .unset, .unset, .unset, .unset, .unset, .unset, .unset, .unset, .unset, .unset, .unset, .unset, .unset, .unset, .unset, .unset, .unset, .unset, .unset, .unset] [] T5 M5 F5
  have e1 := e1 12 (by omega)
  have ty3 := W3.ty
  have tyn : p_ty (p_new T2 17 7) (100 + k) = (17, 7) := by rw [← hk]; exact p_ty_nw (by omega)
  have t33 := B3.pl.2.2.2
  clear e6 Q W3 W4 W5 K5 kM X4 B1 B2 B3 I2 S2 K2 hTQ hch hhd f1 f3 f4 yy y2' y3 y4
  have g1 : R 12 m_L_law 0 [.val (.ref 29), .unset, .unset, .unset, .unset, .unset, .unset, .unset, .unset, .unset, .unset, .unset, .unset, .unset, .unset, .unset, .unset, .unset, .unset, .unset, .unset, .unset, .unset, .unset, .unset] [] T0 M0 F0 = R 12 m_L_law 14 [.val (.ref 29), .val (.ref 100), .val (.ref s), .unset, .unset, .unset, .unset, .unset, .unset, .unset, .unset, .unset, .unset, .unset, .unset, .unset, .unset, .unset, .unset, .unset, .unset, .unset, .unset, .unset, .unset] [] T2 M2 F2 := by
    rw [hTa] at e1 ta
    simp (disch := omega) only [x_L_law_0, x_L_law_3, x_L_law_4, x_L_law_7, x_L_law_8, x_L_law_9, x_L_law_10, x_L_law_13, List.length_cons, List.length_nil, Nat.reduceLeDiff, Nat.zero_add, iI_add, iI_sub, iI_mul, iI_neg, iI_lt, iI_le, iI_eq, jI_iI, B_True, B_False, B_t, B_f, ck_True, gd_True, cb_v, cb_n, p_mv_rw, p_fv_rw, p_rv_some, pA_1, pA_90, pA_92, pA_3, pA_5, pA_93, pA_4, pA_91, pA_6, pS_i, pB_i, pW_i, pZ_0, pZ_1, pZ_b, bI_e0, u1_s, u1_n, uA_s, uA_n, true_and, and_true, not_true_eq_false, not_false_eq_true, eq_self, iI_z, al1, al5, al3, al4, al90, al91, al92, al93, al6, Int.cast_ofNat_Int, Nat.reduceAdd, Int.reduceNeg, Int.reduceAdd, Int.reduceSub, Int.reduceMul, Int.reduceLT, Int.reduceLE, Int.reduceGT, Int.reduceGE, Int.reduceEq, Int.reduceNe, Nat.reduceEqDiff, Int.zero_add, Int.add_zero, p_ty0, p_ty1, p_ty2, p_ty3, p_ty4, p_ty5, p_ty8, p_ty9, p_ty10, n0, e1, e2, ta, gd_t, ck_t, B_t, B_f]
  rw [g1]
  clear g1 e1 e2
  simp (disch := omega) only [x_L_law_14, x_L_law_17, x_L_law_18, x_L_law_21, x_L_law_22, x_L_law_23, x_L_law_24, x_L_law_27, x_L_law_30, x_L_law_33, x_L_law_34, x_L_law_35, x_L_law_36, List.length_cons, List.length_nil, Nat.reduceLeDiff, Nat.zero_add, iI_add, iI_sub, iI_mul, iI_neg, iI_lt, iI_le, iI_eq, jI_iI, B_True, B_False, B_t, B_f, ck_True, gd_True, cb_v, cb_n, p_mv_rw, p_fv_rw, p_rv_some, pA_1, pA_90, pA_92, pA_3, pA_5, pA_93, pA_4, pA_91, pA_6, pS_i, pB_i, pW_i, pZ_0, pZ_1, pZ_b, bI_e0, u1_s, u1_n, uA_s, uA_n, true_and, and_true, not_true_eq_false, not_false_eq_true, eq_self, iI_z, al1, al5, al3, al4, al90, al91, al92, al93, al6, Int.cast_ofNat_Int, Nat.reduceAdd, Int.reduceNeg, Int.reduceAdd, Int.reduceSub, Int.reduceMul, Int.reduceLT, Int.reduceLE, Int.reduceGT, Int.reduceGE, Int.reduceEq, Int.reduceNe, Nat.reduceEqDiff, Int.zero_add, Int.add_zero, p_ty0, p_ty1, p_ty2, p_ty3, p_ty4, p_ty5, p_ty8, p_ty9, p_ty10, hk, e3, e4, e5, ty3, tyn, t33, gd_t, ck_t, B_t, B_f]
/-- the goal -/
theorem g_isGoal : g_goal := fun L xs hL => g_lawRun hL
theorem i_vc : Claimed_1_1 ∧ Claimed_1_2 := g_vc g_isGoal
end PEND
