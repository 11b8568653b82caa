section PSTP
variable {d bd lg N h Ln : Nat} {T T1 T2 : pT} {M M1 M2 : pM} {F F1 F2 : pF} {S0 S : GSx} {ea0 z0 ea z a b c n k r i : Int} {bs0 bs : Int → Int} {m mL mX : pC} {v vL vX : List Value} {rv : Value} {l5 l6 l7 l8 : Slot} {o : Option pR}
theorem p_legal (hW : CW T M F S ea bs z) (h5 : 145 ≤ T.1.1) (t144 : p_ty T 144 = (3, 1)) (hH : S.2.2.2.2.length < 613) (ha : -2147483648 ≤ a ∧ a < 2147483648) (hb : -2147483648 ≤ b ∧ b < 2147483648) : ∃ k, ∃ p : Prop, (0 ≤ k ∧ k ≤ 3) ∧ HC T M F m_L_legal [.ref 100, .int (iI a), .int (iI b), .ref 144] k (jL (iL (bI p))) S ea bs z ∧ HY S ea bs z m_X8_legal [.ref 127, .int (iI a), .int (iI b)] (.int (iI (bI p))) k S ea bs z := by
  have hP := hW.spx
  by_cases q : (0 ≤ a ∧ a < 91) ∧ 0 ≤ b ∧ b < 91
  · exact ⟨0, _, by omega, h_legal hW h5 t144 ((x_legal hW ha hb).1 q.1 q.2), HY.of (fun h => (y_legal h hP (by omega) ha hb).1 q.1 q.2)⟩
  · refine ⟨1, False, by omega, h_legal_1 hW h5 ((x_legal hW ha hb).2 q), HY.of (fun h => ?_)⟩
    rw [bI_f not_false]
    exact (y_legal h hP (by omega) ha hb).2 q
theorem p_teach (hW : CW T M F S ea bs z) (h5 : 145 ≤ T.1.1) (hH : S.2.2.2.2.length < 613) : ∃ r, PB T M F S ea bs z m_X7_teach [.ref 100] m_X8_teach [.ref 127] (.int (iI r)) := by
  obtain ⟨⟨-, -, -, ht, hps, hq⟩, -⟩ := hW.spx
  have hpr := PS_rg hps
  have hz := hW.zz
  obtain ⟨M1, F1, r1, W1, f1, l1, -⟩ := x_teach hW
  refine ⟨(z_tea S bs z).1, (z_tea S bs z).2.2, (z_tea S bs z).2.1, bs, 0, ⟨T, M1, F1, fun d hd => r1 d (by omega), W1, s_mono.rf, by omega, by omega, fun a h1 _ _ => f1 a h1⟩, ?_, ?_⟩
  · intro T M F bd lg N hM
    obtain ⟨T2, M2, F2, bd2, lg2, N2, r2, W2, e2, m2, o2, o3, o4, o5⟩ := y_teach hM hz.1 hz.2 ⟨by omega, by omega, hq, by omega⟩
    exact ⟨T2, M2, F2, bd2, lg2, N2, r2, W2, e2, m2, o2, o3, by omega, by omega⟩
  · by_cases c : (z_tea S bs z).1 = 0
    · exact Or.inr (l1 c)
    · refine Or.inl ?_
      rw [tea_rdr] at c ⊢
      by_cases c1 : (z_rdr bs z).1 = 0
      · rw [if_pos c1] at c; exact absurd rfl c
      · rw [if_neg c1]; exact Nat.le_succ _
/-- a call of the script is done: what stands behind it -/
def ST (i : Int) (T : pT) (M : pM) (h : Nat) (o : Option pR) : Prop := ∃ l5 l6 l7 l8 T2 M2 F2, o = R 12 m_L_law 1094 [.val (.ref 29), .val (.ref 100), .val (.ref 127), .val (.ref 144), .val (.int (iI i)), l5, l6, l7, l8] [] T2 M2 F2 ∧ LW T2 M2 F2 (h + 1) ∧ LB T T2 ∧ M2 29 = M 29
theorem st_C {rr : Int} (hM : MW T M F bd lg N S0 ea0 bs0 z0) (t144 : p_ty T 144 = (3, 1)) (hC : HC T M F mL vL k rr S ea bs z) (hY : HY S0 ea0 bs0 z0 mX vX rv k S ea bs z) (hl : S.2.2.2.2.length ≤ h) :
    ∃ T1 M1 F1 T2 M2 F2, callD 12 mL vL T M F = some (.inl (some (.int (iI k))), T1, M1, F1) ∧ M1 29 = M 29 ∧ s_mono T T1 ∧ p_ty T1 127 = (18, 24) ∧ callD 12 mX vX T1 M1 F1 = some (.inl (some rv), T2, M2, F2) ∧ p_ty T2 127 = (18, 24) ∧ callD 12 m_X8_thrown [.ref 127] T2 M2 F2 = some (.inl (some (.int (iI k))), T2, M2, F2) ∧ p_ty T2 144 = (3, 1) ∧ (k = 0 → M2 144 0 = rr) ∧ LW T2 M2 F2 h ∧ LB T T2 ∧ M2 29 = M 29 := by
  obtain ⟨T1, M1, F1, T2, M2, F2, a1, a2, a3, a4, a5, a6, a7, a8, a9, a10, a11, a12⟩ := two hM t144 hC.hb hY hl
  obtain ⟨Ta, Ma, Fa, ra, -, -, -, -, -, rk⟩ := hC
  have e := Option.some.inj ((ra 12 (by omega)).symm.trans a1)
  have eM : Ma = M1 := congrArg (fun q : pR => q.2.2.1) e
  subst eM
  exact ⟨T1, Ma, F1, T2, M2, F2, a1, a2, a3, a4, a5, a6, a7, a8, fun q => by rw [a9]; exact rk q, a10, a11, a12⟩
theorem st_A (hM : MW T M F bd lg N S0 ea0 bs0 z0) (t144 : p_ty T 144 = (3, 1)) (hp : PA T M F S0 ea0 bs0 z0 mL vL mX vX) (hh : S0.2.2.2.2.length ≤ h) (h1 : 100 ≤ h) :
    ∃ k r T1 M1 F1 T2 M2 F2, (0 ≤ k ∧ k ≤ 3) ∧ callD 12 mL vL T M F = some (.inl (some (.int (iI k))), T1, M1, F1) ∧ M1 29 = M 29 ∧ s_mono T T1 ∧ p_ty T1 127 = (18, 24) ∧ callD 12 mX vX T1 M1 F1 = some (.inl (some (.int (iI r))), T2, M2, F2) ∧ p_ty T2 127 = (18, 24) ∧ callD 12 m_X8_thrown [.ref 127] T2 M2 F2 = some (.inl (some (.int (iI k))), T2, M2, F2) ∧ p_ty T2 144 = (3, 1) ∧ (k = 0 → M2 144 0 = jL (iI r).toInt64) ∧ LW T2 M2 F2 (h + 1) ∧ LB T T2 ∧ M2 29 = M 29 := by
  obtain ⟨k, r, S, ea, bs, z, hk, hC, hY, hl⟩ := hp
  obtain ⟨T1, M1, F1, T2, M2, F2, a⟩ := st_C (h := h + 1) hM t144 hC hY (by omega)
  exact ⟨k, r, T1, M1, F1, T2, M2, F2, hk, a⟩
theorem st_B (hM : MW T M F bd lg N S0 ea0 bs0 z0) (t144 : p_ty T 144 = (3, 1)) (hp : PB T M F S0 ea0 bs0 z0 mL vL mX vX rv) (hh : S0.2.2.2.2.length ≤ h) (h1 : 100 ≤ h) :
    ∃ T1 M1 F1 T2 M2 F2, callD 12 mL vL T M F = some (.inl (some rv), T1, M1, F1) ∧ p_ty T1 127 = (18, 24) ∧ callD 12 mX vX T1 M1 F1 = some (.inl (some rv), T2, M2, F2) ∧ LW T2 M2 F2 (h + 1) ∧ LB T T2 ∧ M2 29 = M 29 := by
  obtain ⟨S, ea, bs, z, hC, hY, hl⟩ := hp
  obtain ⟨T1, M1, F1, T2, M2, F2, a1, a2, a3, a4, a5, a6, a7, a8, a9, a10, a11, a12⟩ := two (h := h + 1) hM t144 hC hY (by omega)
  exact ⟨T1, M1, F1, T2, M2, F2, a1, a4, a5, a10, a11, a12⟩
theorem s_op_feed (hW : LW T M F h) (h1 : 100 ≤ h) (h2 : h < 613) (t29 : p_ty T 29 = (92, Ln)) (hi : 0 ≤ i ∧ i + 6 ≤ (Ln : Int)) (hL : Ln ≤ 3072) (hx : ∀ j, -2147483648 ≤ M 29 j ∧ M 29 j < 2147483648) : ST i T M h (R 12 m_L_law 132 [.val (.ref 29), .val (.ref 100), .val (.ref 127), .val (.ref 144), .val (.int (iI i)), l5, l6, l7, l8] [] T M F) := by
  obtain ⟨S, ea, bs, z, bd, lg, N, hC, hM, hl, t144⟩ := hW
  have h5 := hM.sz
  have hH : S.2.2.2.2.length < 613 := by omega
  obtain ⟨k, r, T1, M1, F1, T2, M2, F2, hk, a1, a2, a3, a4, a5, a6, a7, a8, a9, a10, a11, a12⟩ := st_A hM t144 (p_feed hC h5 t144 (iI (M 29 (i + 1))) (iI (M 29 (i + 2))) (iI (M 29 (i + 3))) (iI (M 29 (i + 4))) (iI (M 29 (i + 5)))) hl h1
  exact ⟨_, _, _, _, T2, M2, F2, b_feed t29 hi hL hk a1 a2 ((a3.2.2 29 (by omega)).trans t29) a4 a5 a6 a7 a8 a9, a10, a11, a12⟩
theorem s_op_trim (hW : LW T M F h) (h1 : 100 ≤ h) (h2 : h < 613) (t29 : p_ty T 29 = (92, Ln)) (hi : 0 ≤ i ∧ i + 6 ≤ (Ln : Int)) (hL : Ln ≤ 3072) (hx : ∀ j, -2147483648 ≤ M 29 j ∧ M 29 j < 2147483648) : ST i T M h (R 12 m_L_law 236 [.val (.ref 29), .val (.ref 100), .val (.ref 127), .val (.ref 144), .val (.int (iI i)), l5, l6, l7, l8] [] T M F) := by
  obtain ⟨S, ea, bs, z, bd, lg, N, hC, hM, hl, t144⟩ := hW
  have h5 := hM.sz
  have hH : S.2.2.2.2.length < 613 := by omega
  obtain ⟨k, r, T1, M1, F1, T2, M2, F2, hk, a1, a2, a3, a4, a5, a6, a7, a8, a9, a10, a11, a12⟩ := st_A hM t144 (p_trim hC h5 t144 (hx (i + 1))) hl h1
  exact ⟨_, _, _, _, T2, M2, F2, b_trim t29 hi hL hk a1 a2 ((a3.2.2 29 (by omega)).trans t29) a4 a5 a6 a7 a8 a9, a10, a11, a12⟩
theorem s_op_teach (hW : LW T M F h) (h1 : 100 ≤ h) (h2 : h < 613) (t29 : p_ty T 29 = (92, Ln)) (hi : 0 ≤ i ∧ i + 6 ≤ (Ln : Int)) (hL : Ln ≤ 3072) (hx : ∀ j, -2147483648 ≤ M 29 j ∧ M 29 j < 2147483648) : ST i T M h (R 12 m_L_law 292 [.val (.ref 29), .val (.ref 100), .val (.ref 127), .val (.ref 144), .val (.int (iI i)), l5, l6, l7, l8] [] T M F) := by
  obtain ⟨S, ea, bs, z, bd, lg, N, hC, hM, hl, t144⟩ := hW
  have h5 := hM.sz
  have hH : S.2.2.2.2.length < 613 := by omega
  obtain ⟨r, hp⟩ := p_teach hC h5 hH
  obtain ⟨T1, M1, F1, T2, M2, F2, a1, a4, a5, a10, a11, a12⟩ := st_B hM t144 hp hl h1
  exact ⟨_, _, _, _, T2, M2, F2, b_teach hC.t100 a1 a4 a5, a10, a11, a12⟩
theorem s_op_errorAt (hW : LW T M F h) (h1 : 100 ≤ h) (h2 : h < 613) (t29 : p_ty T 29 = (92, Ln)) (hi : 0 ≤ i ∧ i + 6 ≤ (Ln : Int)) (hL : Ln ≤ 3072) (hx : ∀ j, -2147483648 ≤ M 29 j ∧ M 29 j < 2147483648) : ST i T M h (R 12 m_L_law 305 [.val (.ref 29), .val (.ref 100), .val (.ref 127), .val (.ref 144), .val (.int (iI i)), l5, l6, l7, l8] [] T M F) := by
  obtain ⟨S, ea, bs, z, bd, lg, N, hC, hM, hl, t144⟩ := hW
  have h5 := hM.sz
  have hH : S.2.2.2.2.length < 613 := by omega
  obtain ⟨T1, M1, F1, T2, M2, F2, a1, a4, a5, a10, a11, a12⟩ := st_B hM t144 (p_errorAt hC) hl h1
  exact ⟨_, _, _, _, T2, M2, F2, b_errorAt hC.t100 a1 a4 a5, a10, a11, a12⟩
theorem s_op_count (hW : LW T M F h) (h1 : 100 ≤ h) (h2 : h < 613) (t29 : p_ty T 29 = (92, Ln)) (hi : 0 ≤ i ∧ i + 6 ≤ (Ln : Int)) (hL : Ln ≤ 3072) (hx : ∀ j, -2147483648 ≤ M 29 j ∧ M 29 j < 2147483648) : ST i T M h (R 12 m_L_law 318 [.val (.ref 29), .val (.ref 100), .val (.ref 127), .val (.ref 144), .val (.int (iI i)), l5, l6, l7, l8] [] T M F) := by
  obtain ⟨S, ea, bs, z, bd, lg, N, hC, hM, hl, t144⟩ := hW
  have h5 := hM.sz
  have hH : S.2.2.2.2.length < 613 := by omega
  obtain ⟨k, r, T1, M1, F1, T2, M2, F2, hk, a1, a2, a3, a4, a5, a6, a7, a8, a9, a10, a11, a12⟩ := st_A hM t144 (p_count hC h5 t144 hH (hx (i + 1))) hl h1
  exact ⟨_, _, _, _, T2, M2, F2, b_count t29 hi hL hk a1 a2 ((a3.2.2 29 (by omega)).trans t29) a4 a5 a6 a7 a8 a9, a10, a11, a12⟩
theorem s_op_cell (hW : LW T M F h) (h1 : 100 ≤ h) (h2 : h < 613) (t29 : p_ty T 29 = (92, Ln)) (hi : 0 ≤ i ∧ i + 6 ≤ (Ln : Int)) (hL : Ln ≤ 3072) (hx : ∀ j, -2147483648 ≤ M 29 j ∧ M 29 j < 2147483648) : ST i T M h (R 12 m_L_law 374 [.val (.ref 29), .val (.ref 100), .val (.ref 127), .val (.ref 144), .val (.int (iI i)), l5, l6, l7, l8] [] T M F) := by
  obtain ⟨S, ea, bs, z, bd, lg, N, hC, hM, hl, t144⟩ := hW
  have h5 := hM.sz
  have hH : S.2.2.2.2.length < 613 := by omega
  obtain ⟨k, r, T1, M1, F1, T2, M2, F2, hk, a1, a2, a3, a4, a5, a6, a7, a8, a9, a10, a11, a12⟩ := st_A hM t144 (p_cell hC h5 t144 hH (hx (i + 1)) (hx (i + 2))) hl h1
  exact ⟨_, _, _, _, T2, M2, F2, b_cell t29 hi hL hk a1 a2 ((a3.2.2 29 (by omega)).trans t29) a4 a5 a6 a7 a8 a9, a10, a11, a12⟩
theorem s_op_at (hW : LW T M F h) (h1 : 100 ≤ h) (h2 : h < 613) (t29 : p_ty T 29 = (92, Ln)) (hi : 0 ≤ i ∧ i + 6 ≤ (Ln : Int)) (hL : Ln ≤ 3072) (hx : ∀ j, -2147483648 ≤ M 29 j ∧ M 29 j < 2147483648) : ST i T M h (R 12 m_L_law 442 [.val (.ref 29), .val (.ref 100), .val (.ref 127), .val (.ref 144), .val (.int (iI i)), l5, l6, l7, l8] [] T M F) := by
  obtain ⟨S, ea, bs, z, bd, lg, N, hC, hM, hl, t144⟩ := hW
  have h5 := hM.sz
  have hH : S.2.2.2.2.length < 613 := by omega
  obtain ⟨k, r, T1, M1, F1, T2, M2, F2, hk, a1, a2, a3, a4, a5, a6, a7, a8, a9, a10, a11, a12⟩ := st_A hM t144 (p_at' hC h5 t144 (hx (i + 1)) (hx (i + 2))) hl h1
  exact ⟨_, _, _, _, T2, M2, F2, b_at t29 hi hL hk a1 a2 ((a3.2.2 29 (by omega)).trans t29) a4 a5 a6 a7 a8 a9, a10, a11, a12⟩
theorem s_op_name (hW : LW T M F h) (h1 : 100 ≤ h) (h2 : h < 613) (t29 : p_ty T 29 = (92, Ln)) (hi : 0 ≤ i ∧ i + 6 ≤ (Ln : Int)) (hL : Ln ≤ 3072) (hx : ∀ j, -2147483648 ≤ M 29 j ∧ M 29 j < 2147483648) : ST i T M h (R 12 m_L_law 510 [.val (.ref 29), .val (.ref 100), .val (.ref 127), .val (.ref 144), .val (.int (iI i)), l5, l6, l7, l8] [] T M F) := by
  obtain ⟨S, ea, bs, z, bd, lg, N, hC, hM, hl, t144⟩ := hW
  have h5 := hM.sz
  have hH : S.2.2.2.2.length < 613 := by omega
  obtain ⟨k, r, T1, M1, F1, T2, M2, F2, hk, a1, a2, a3, a4, a5, a6, a7, a8, a9, a10, a11, a12⟩ := st_A hM t144 (p_name hC h5 t144 (hx (i + 1))) hl h1
  exact ⟨_, _, _, _, T2, M2, F2, b_name t29 hi hL hk a1 a2 ((a3.2.2 29 (by omega)).trans t29) a4 a5 a6 a7 a8 a9, a10, a11, a12⟩
theorem s_op_far (hW : LW T M F h) (h1 : 100 ≤ h) (h2 : h < 613) (t29 : p_ty T 29 = (92, Ln)) (hi : 0 ≤ i ∧ i + 6 ≤ (Ln : Int)) (hL : Ln ≤ 3072) (hx : ∀ j, -2147483648 ≤ M 29 j ∧ M 29 j < 2147483648) : ST i T M h (R 12 m_L_law 566 [.val (.ref 29), .val (.ref 100), .val (.ref 127), .val (.ref 144), .val (.int (iI i)), l5, l6, l7, l8] [] T M F) := by
  obtain ⟨S, ea, bs, z, bd, lg, N, hC, hM, hl, t144⟩ := hW
  have h5 := hM.sz
  have hH : S.2.2.2.2.length < 613 := by omega
  obtain ⟨k, r, T1, M1, F1, T2, M2, F2, hk, a1, a2, a3, a4, a5, a6, a7, a8, a9, a10, a11, a12⟩ := st_A hM t144 (p_far hC h5 t144 (hx (i + 1)) (hx (i + 2)) (hx (i + 3))) hl h1
  exact ⟨_, _, _, _, T2, M2, F2, b_far t29 hi hL hk a1 a2 ((a3.2.2 29 (by omega)).trans t29) a4 a5 a6 a7 a8 a9, a10, a11, a12⟩
theorem s_op_legal (hW : LW T M F h) (h1 : 100 ≤ h) (h2 : h < 613) (t29 : p_ty T 29 = (92, Ln)) (hi : 0 ≤ i ∧ i + 6 ≤ (Ln : Int)) (hL : Ln ≤ 3072) (hx : ∀ j, -2147483648 ≤ M 29 j ∧ M 29 j < 2147483648) : ST i T M h (R 12 m_L_law 646 [.val (.ref 29), .val (.ref 100), .val (.ref 127), .val (.ref 144), .val (.int (iI i)), l5, l6, l7, l8] [] T M F) := by
  obtain ⟨S, ea, bs, z, bd, lg, N, hC, hM, hl, t144⟩ := hW
  have h5 := hM.sz
  have hH : S.2.2.2.2.length < 613 := by omega
  obtain ⟨k, p, hk, hA, hB⟩ := p_legal hC h5 t144 hH (hx (i + 1)) (hx (i + 2))
  obtain ⟨T1, M1, F1, T2, M2, F2, a1, a2, a3, a4, a5, a6, a7, a8, a9, a10, a11, a12⟩ := st_C (h := h + 1) hM t144 hA hB (by omega)
  exact ⟨_, _, _, _, T2, M2, F2, b_legal t29 hi hL hk a1 a2 ((a3.2.2 29 (by omega)).trans t29) a4 a5 a6 a7 a8 a9, a10, a11, a12⟩
theorem s_op_nth (hW : LW T M F h) (h1 : 100 ≤ h) (h2 : h < 613) (t29 : p_ty T 29 = (92, Ln)) (hi : 0 ≤ i ∧ i + 6 ≤ (Ln : Int)) (hL : Ln ≤ 3072) (hx : ∀ j, -2147483648 ≤ M 29 j ∧ M 29 j < 2147483648) : ST i T M h (R 12 m_L_law 721 [.val (.ref 29), .val (.ref 100), .val (.ref 127), .val (.ref 144), .val (.int (iI i)), l5, l6, l7, l8] [] T M F) := by
  obtain ⟨S, ea, bs, z, bd, lg, N, hC, hM, hl, t144⟩ := hW
  have h5 := hM.sz
  have hH : S.2.2.2.2.length < 613 := by omega
  obtain ⟨k, r, T1, M1, F1, T2, M2, F2, hk, a1, a2, a3, a4, a5, a6, a7, a8, a9, a10, a11, a12⟩ := st_A hM t144 (p_nth hC h5 t144 hH (hx (i + 1))) hl h1
  exact ⟨_, _, _, _, T2, M2, F2, b_nth t29 hi hL hk a1 a2 ((a3.2.2 29 (by omega)).trans t29) a4 a5 a6 a7 a8 a9, a10, a11, a12⟩
theorem s_op_move (hW : LW T M F h) (h1 : 100 ≤ h) (h2 : h < 613) (t29 : p_ty T 29 = (92, Ln)) (hi : 0 ≤ i ∧ i + 6 ≤ (Ln : Int)) (hL : Ln ≤ 3072) (hx : ∀ j, -2147483648 ≤ M 29 j ∧ M 29 j < 2147483648) : ST i T M h (R 12 m_L_law 777 [.val (.ref 29), .val (.ref 100), .val (.ref 127), .val (.ref 144), .val (.int (iI i)), l5, l6, l7, l8] [] T M F) := by
  obtain ⟨S, ea, bs, z, bd, lg, N, hC, hM, hl, t144⟩ := hW
  have h5 := hM.sz
  have hH : S.2.2.2.2.length < 613 := by omega
  obtain ⟨k, r, T1, M1, F1, T2, M2, F2, hk, a1, a2, a3, a4, a5, a6, a7, a8, a9, a10, a11, a12⟩ := st_A hM t144 (p_move hC h5 t144 hH (hx (i + 1)) (hx (i + 2)) (hx (i + 3))) hl h1
  exact ⟨_, _, _, _, T2, M2, F2, b_move t29 hi hL hk a1 a2 ((a3.2.2 29 (by omega)).trans t29) a4 a5 a6 a7 a8 a9, a10, a11, a12⟩
theorem s_op_back (hW : LW T M F h) (h1 : 100 ≤ h) (h2 : h < 613) (t29 : p_ty T 29 = (92, Ln)) (hi : 0 ≤ i ∧ i + 6 ≤ (Ln : Int)) (hL : Ln ≤ 3072) (hx : ∀ j, -2147483648 ≤ M 29 j ∧ M 29 j < 2147483648) : ST i T M h (R 12 m_L_law 857 [.val (.ref 29), .val (.ref 100), .val (.ref 127), .val (.ref 144), .val (.int (iI i)), l5, l6, l7, l8] [] T M F) := by
  obtain ⟨S, ea, bs, z, bd, lg, N, hC, hM, hl, t144⟩ := hW
  have h5 := hM.sz
  have hH : S.2.2.2.2.length < 613 := by omega
  obtain ⟨k, r, T1, M1, F1, T2, M2, F2, hk, a1, a2, a3, a4, a5, a6, a7, a8, a9, a10, a11, a12⟩ := st_A hM t144 (p_back hC h5 t144 hH) hl h1
  exact ⟨_, _, _, _, T2, M2, F2, b_back t29 hi hL hk a1 a2 ((a3.2.2 29 (by omega)).trans t29) a4 a5 a6 a7 a8 a9, a10, a11, a12⟩
theorem s_op_lines (hW : LW T M F h) (h1 : 100 ≤ h) (h2 : h < 613) (t29 : p_ty T 29 = (92, Ln)) (hi : 0 ≤ i ∧ i + 6 ≤ (Ln : Int)) (hL : Ln ≤ 3072) (hx : ∀ j, -2147483648 ≤ M 29 j ∧ M 29 j < 2147483648) : ST i T M h (R 12 m_L_law 901 [.val (.ref 29), .val (.ref 100), .val (.ref 127), .val (.ref 144), .val (.int (iI i)), l5, l6, l7, l8] [] T M F) := by
  obtain ⟨S, ea, bs, z, bd, lg, N, hC, hM, hl, t144⟩ := hW
  have h5 := hM.sz
  have hH : S.2.2.2.2.length < 613 := by omega
  obtain ⟨k, r, T1, M1, F1, T2, M2, F2, hk, a1, a2, a3, a4, a5, a6, a7, a8, a9, a10, a11, a12⟩ := st_A hM t144 (p_lines hC h5 t144 hH (hx (i + 1))) hl h1
  exact ⟨_, _, _, _, T2, M2, F2, b_lines t29 hi hL hk a1 a2 ((a3.2.2 29 (by omega)).trans t29) a4 a5 a6 a7 a8 a9, a10, a11, a12⟩
theorem s_op_mate (hW : LW T M F h) (h1 : 100 ≤ h) (h2 : h < 613) (t29 : p_ty T 29 = (92, Ln)) (hi : 0 ≤ i ∧ i + 6 ≤ (Ln : Int)) (hL : Ln ≤ 3072) (hx : ∀ j, -2147483648 ≤ M 29 j ∧ M 29 j < 2147483648) : ST i T M h (R 12 m_L_law 957 [.val (.ref 29), .val (.ref 100), .val (.ref 127), .val (.ref 144), .val (.int (iI i)), l5, l6, l7, l8] [] T M F) := by
  obtain ⟨S, ea, bs, z, bd, lg, N, hC, hM, hl, t144⟩ := hW
  have h5 := hM.sz
  have hH : S.2.2.2.2.length < 613 := by omega
  obtain ⟨r, hp⟩ := p_mate hC hH
  obtain ⟨T1, M1, F1, T2, M2, F2, a1, a4, a5, a10, a11, a12⟩ := st_B hM t144 hp hl h1
  exact ⟨_, _, _, _, T2, M2, F2, b_mate hC.t100 a1 a4 a5, a10, a11, a12⟩
theorem s_op_greed (hW : LW T M F h) (h1 : 100 ≤ h) (h2 : h < 613) (t29 : p_ty T 29 = (92, Ln)) (hi : 0 ≤ i ∧ i + 6 ≤ (Ln : Int)) (hL : Ln ≤ 3072) (hx : ∀ j, -2147483648 ≤ M 29 j ∧ M 29 j < 2147483648) : ST i T M h (R 12 m_L_law 970 [.val (.ref 29), .val (.ref 100), .val (.ref 127), .val (.ref 144), .val (.int (iI i)), l5, l6, l7, l8] [] T M F) := by
  obtain ⟨S, ea, bs, z, bd, lg, N, hC, hM, hl, t144⟩ := hW
  have h5 := hM.sz
  have hH : S.2.2.2.2.length < 613 := by omega
  obtain ⟨r, hp⟩ := p_greed hC hH
  obtain ⟨T1, M1, F1, T2, M2, F2, a1, a4, a5, a10, a11, a12⟩ := st_B hM t144 hp hl h1
  exact ⟨_, _, _, _, T2, M2, F2, b_greed hC.t100 a1 a4 a5, a10, a11, a12⟩
theorem s_op_hanging (hW : LW T M F h) (h1 : 100 ≤ h) (h2 : h < 613) (t29 : p_ty T 29 = (92, Ln)) (hi : 0 ≤ i ∧ i + 6 ≤ (Ln : Int)) (hL : Ln ≤ 3072) (hx : ∀ j, -2147483648 ≤ M 29 j ∧ M 29 j < 2147483648) : ST i T M h (R 12 m_L_law 983 [.val (.ref 29), .val (.ref 100), .val (.ref 127), .val (.ref 144), .val (.int (iI i)), l5, l6, l7, l8] [] T M F) := by
  obtain ⟨S, ea, bs, z, bd, lg, N, hC, hM, hl, t144⟩ := hW
  have h5 := hM.sz
  have hH : S.2.2.2.2.length < 613 := by omega
  obtain ⟨k, r, T1, M1, F1, T2, M2, F2, hk, a1, a2, a3, a4, a5, a6, a7, a8, a9, a10, a11, a12⟩ := st_A hM t144 (p_hanging hC h5 t144 (hx (i + 1))) hl h1
  exact ⟨_, _, _, _, T2, M2, F2, b_hanging t29 hi hL hk a1 a2 ((a3.2.2 29 (by omega)).trans t29) a4 a5 a6 a7 a8 a9, a10, a11, a12⟩
theorem s_op_mean (hW : LW T M F h) (h1 : 100 ≤ h) (h2 : h < 613) (t29 : p_ty T 29 = (92, Ln)) (hi : 0 ≤ i ∧ i + 6 ≤ (Ln : Int)) (hL : Ln ≤ 3072) (hx : ∀ j, -2147483648 ≤ M 29 j ∧ M 29 j < 2147483648) : ST i T M h (R 12 m_L_law 1039 [.val (.ref 29), .val (.ref 100), .val (.ref 127), .val (.ref 144), .val (.int (iI i)), l5, l6, l7, l8] [] T M F) := by
  obtain ⟨S, ea, bs, z, bd, lg, N, hC, hM, hl, t144⟩ := hW
  have h5 := hM.sz
  have hH : S.2.2.2.2.length < 613 := by omega
  obtain ⟨r, hp⟩ := p_mean hC hH
  obtain ⟨T1, M1, F1, T2, M2, F2, a1, a4, a5, a10, a11, a12⟩ := st_B hM t144 hp hl h1
  exact ⟨_, _, _, _, T2, M2, F2, b_mean hC.t100 a1 a4 a5, a10, a11, a12⟩
theorem s_op_digest (hW : LW T M F h) (h1 : 100 ≤ h) (h2 : h < 613) (t29 : p_ty T 29 = (92, Ln)) (hi : 0 ≤ i ∧ i + 6 ≤ (Ln : Int)) (hL : Ln ≤ 3072) (hx : ∀ j, -2147483648 ≤ M 29 j ∧ M 29 j < 2147483648) : ST i T M h (R 12 m_L_law 1080 [.val (.ref 29), .val (.ref 100), .val (.ref 127), .val (.ref 144), .val (.int (iI i)), l5, l6, l7, l8] [] T M F) := by
  obtain ⟨S, ea, bs, z, bd, lg, N, hC, hM, hl, t144⟩ := hW
  have h5 := hM.sz
  have hH : S.2.2.2.2.length < 613 := by omega
  obtain ⟨r, hp⟩ := p_digest hC hH
  obtain ⟨T1, M1, F1, T2, M2, F2, a1, a4, a5, a10, a11, a12⟩ := st_B hM t144 hp hl h1
  exact ⟨_, _, _, _, T2, M2, F2, b_digest hC.t100 a1 a4 a5, a10, a11, a12⟩
theorem s_op {x : Int} (hW : LW T M F h) (h1 : 100 ≤ h) (h2 : h < 613) (t29 : p_ty T 29 = (92, Ln)) (hi : 0 ≤ i ∧ i + 6 ≤ (Ln : Int)) (hL : Ln ≤ 3072) (hx : ∀ j, -2147483648 ≤ M 29 j ∧ M 29 j < 2147483648) : ST i T M h (R 12 m_L_law (if 0 ≤ x ∧ x ≤ 18 then [132, 236, 292, 305, 318, 374, 442, 510, 566, 646, 721, 777, 857, 901, 957, 970, 983, 1039, 1080].getD (x - 0).toNat 0 else 1094) [.val (.ref 29), .val (.ref 100), .val (.ref 127), .val (.ref 144), .val (.int (iI i)), l5, l6, l7, l8] [] T M F) := by
  by_cases c : 0 ≤ x ∧ x ≤ 18
  · rw [if_pos c]
    have hc : x = 0 ∨ x = 1 ∨ x = 2 ∨ x = 3 ∨ x = 4 ∨ x = 5 ∨ x = 6 ∨ x = 7 ∨ x = 8 ∨ x = 9 ∨ x = 10 ∨ x = 11 ∨ x = 12 ∨ x = 13 ∨ x = 14 ∨ x = 15 ∨ x = 16 ∨ x = 17 ∨ x = 18 := by omega
    rcases hc with rfl | rfl | rfl | rfl | rfl | rfl | rfl | rfl | rfl | rfl | rfl | rfl | rfl | rfl | rfl | rfl | rfl | rfl | rfl
    · exact s_op_feed hW h1 h2 t29 hi hL hx
    · exact s_op_trim hW h1 h2 t29 hi hL hx
    · exact s_op_teach hW h1 h2 t29 hi hL hx
    · exact s_op_errorAt hW h1 h2 t29 hi hL hx
    · exact s_op_count hW h1 h2 t29 hi hL hx
    · exact s_op_cell hW h1 h2 t29 hi hL hx
    · exact s_op_at hW h1 h2 t29 hi hL hx
    · exact s_op_name hW h1 h2 t29 hi hL hx
    · exact s_op_far hW h1 h2 t29 hi hL hx
    · exact s_op_legal hW h1 h2 t29 hi hL hx
    · exact s_op_nth hW h1 h2 t29 hi hL hx
    · exact s_op_move hW h1 h2 t29 hi hL hx
    · exact s_op_back hW h1 h2 t29 hi hL hx
    · exact s_op_lines hW h1 h2 t29 hi hL hx
    · exact s_op_mate hW h1 h2 t29 hi hL hx
    · exact s_op_greed hW h1 h2 t29 hi hL hx
    · exact s_op_hanging hW h1 h2 t29 hi hL hx
    · exact s_op_mean hW h1 h2 t29 hi hL hx
    · exact s_op_digest hW h1 h2 t29 hi hL hx
  · rw [if_neg c]
    obtain ⟨S, ea, bs, z, bd, lg, N, hC, hM, hl, t144⟩ := hW
    exact ⟨_, _, _, _, T, M, F, rfl, ⟨S, ea, bs, z, bd, lg, N, hC, hM, by omega, t144⟩, ⟨s_mono.rf, by omega, by omega⟩, rfl⟩
end PSTP
