section PYRE
variable {d bd lg N lg1 N1 cs ss cs1 ss1 : Nat} {T T1 T2 : pT} {M M0 M1 M2 : pM} {F F1 F2 : pF} {bs bb : Int → Int} {z c x n1 w s t pas q er p its to acc st : Int} {k i m n j l : Nat} {S : GSx} {R0 R' : List TKn} {y : TKn}
theorem tks_cons (h : i < m) : tks bs z (m - i) i = tkn bs z i :: tks bs z (m - (i + 1)) (i + 1) := by
  rw [show m - i = (m - (i + 1)) + 1 by omega, tks]
theorem tks_lt {R1 : List TKn} (h : tks bs z (m - i) i = y :: R1) : i < m ∧ y = tkn bs z i ∧ R1 = tks bs z (m - (i + 1)) (i + 1) := by
  by_cases c : i < m
  · rw [tks_cons c] at h
    injection h with h1 h2
    exact ⟨c, h1.symm, h2.symm⟩
  · rw [show m - i = 0 by omega, tks] at h
    exact absurd h.symm (List.cons_ne_nil _ _)
/-- the next token of an accepted row -/
theorem acc_at (hi : g_run st (tks bs z (m - i) i) = 0) (h0 : st ≠ 0) : i < m ∧ g_b st (tkn bs z i).2.1 ≠ 10 ∧ g_run (g_b st (tkn bs z i).2.1) (tks bs z (m - (i + 1)) (i + 1)) = 0 := by
  obtain ⟨x, R1, e1, b1, u1⟩ := acc_cons hi h0
  obtain ⟨h1, h2, h3⟩ := tks_lt e1
  rw [h2] at b1 u1
  rw [h3] at u1
  exact ⟨h1, b1, u1⟩
theorem mc21 (hk : k < 16) : mcd k = 21 ↔ k = 13 := by
  unfold mcd
  constructor
  · intro h
    split at h
    · omega
    · split at h
      · assumption
      · split at h <;> omega
  · intro h
    rw [if_neg (by omega), if_pos h]
theorem tk_k16 : (tkn bs z i).2.1 < 16 := kd16
theorem sb_N : ∀ k : Nat, k < 91 → ((q_sb (k : Int) = 0 ∨ (1 ≤ q_sb (k : Int) ∧ q_sb (k : Int) ≤ 6) ∨ (11 ≤ q_sb (k : Int) ∧ q_sb (k : Int) ≤ 16)) ∧ (q_sb (k : Int) = 1 → (k : Int) = q_nam 6 1) ∧ (q_sb (k : Int) = 11 → (k : Int) = q_nam 6 10)) := by decide +kernel
theorem sb_MB : MB q_sb := fun k => by
  by_cases c : 0 ≤ k ∧ k < 91
  · have h := (sb_N k.toNat (by omega)).1
    rwa [Int.toNat_of_nonneg c.1] at h
  · exact Or.inl (ZB.sbZ k c)
theorem sb_UK : UK q_sb := fun s hs k c k0 k1 c0 c1 e1 e2 => by
  have h := (sb_N k.toNat (by omega)).2
  have h' := (sb_N c.toNat (by omega)).2
  rw [Int.toNat_of_nonneg k0] at h
  rw [Int.toNat_of_nonneg c0] at h'
  rcases hs with rfl | rfl
  · rw [h.1 e1, h'.1 e2]
  · rw [h.2 e1, h'.2 e2]
/-- the lines of an accepted text are carried out -/
theorem rl_all (hm : m ≤ 400) : ∀ (w i : Nat) (S : GSx) (T : pT) (M : pM) (F : pF) (lg N : Nat), m - i ≤ w → i ≤ m → g_run 0 (tks bs z (m - i) i) = 0 → YQ T M F bd lg N S → SPx S → ZB S.1 → TKM M bs z m → YTp M bs z → 4 * S.2.2.2.2.length ≤ i → YLR T M F bd lg N m i (m - i) (6 * (m - i)) (d_run (tks bs z (m - i) i) S) := by
  intro w
  induction w with
  | zero =>
    intro i S T M F lg N hw hi hr hQ hP hz hK hT hH
    obtain rfl : i = m := by omega
    rw [Nat.sub_self, tks, d_run]
    refine ⟨T, M, F, lg, N, fun e l4 he => ?_, hQ, ⟨Int.le_refl _, by show (0 : Int) ≤ 5; omega⟩, fun q => absurd rfl q, fun _ => rfl, fun _ _ _ _ _ _ => rfl, YC.rf.sl GD.rf⟩
    clear hQ hP hz hK hT hr
    simp (disch := omega) only [x_X8_read_30, x_X8_read_31, x_X8_read_32, x_X8_read_74, x_X8_read_75, List.length_cons, List.length_nil, Nat.reduceLeDiff, Nat.zero_add, iI_add, iI_sub, iI_mul, iI_neg, iI_lt, iI_le, iI_eq, jI_iI, B_True, B_False, B_t, B_f, ck_True, gd_True, cb_v, cb_n, p_mv_rw, p_fv_rw, p_rv_some, pA_1, pA_90, pA_92, pA_3, pA_2, pA_93, pA_4, pA_91, pA_95, pS_i, pW_i, pZ_0, pZ_1, pZ_b, bI_e0, u1_s, u1_n, uA_s, uA_n, true_and, and_true, not_true_eq_false, not_false_eq_true, eq_self, iI_z, al1, al2, al3, al4, al90, al91, al92, al93, al95, Int.cast_ofNat_Int, Nat.reduceAdd, Int.reduceNeg, Int.reduceAdd, Int.reduceSub, Int.reduceMul, Int.reduceLT, Int.reduceLE, Int.reduceGT, Int.reduceGE, Int.reduceEq, Int.reduceNe, Nat.reduceEqDiff, Int.zero_add, Int.add_zero, p_ty0, p_ty1, p_ty2, p_ty3, p_ty4, p_ty5, p_ty6, p_ty7, p_ty8, p_ty9, p_ty10, p_ty11, B_t, B_f]
  | succ w ih =>
    intro i S T M F lg N hw hi hr hQ hP hz hK hT hH
    by_cases him : i = m
    · subst him
      rw [Nat.sub_self, tks, d_run]
      refine ⟨T, M, F, lg, N, fun e l4 he => ?_, hQ, ⟨Int.le_refl _, by show (0 : Int) ≤ 5; omega⟩, fun q => absurd rfl q, fun _ => rfl, fun _ _ _ _ _ _ => rfl, YC.rf.sl GD.rf⟩
      clear hQ hP hz hK hT hr ih
      simp (disch := omega) only [x_X8_read_30, x_X8_read_31, x_X8_read_32, x_X8_read_74, x_X8_read_75, List.length_cons, List.length_nil, Nat.reduceLeDiff, Nat.zero_add, iI_add, iI_sub, iI_mul, iI_neg, iI_lt, iI_le, iI_eq, jI_iI, B_True, B_False, B_t, B_f, ck_True, gd_True, cb_v, cb_n, p_mv_rw, p_fv_rw, p_rv_some, pA_1, pA_90, pA_92, pA_3, pA_2, pA_93, pA_4, pA_91, pA_95, pS_i, pW_i, pZ_0, pZ_1, pZ_b, bI_e0, u1_s, u1_n, uA_s, uA_n, true_and, and_true, not_true_eq_false, not_false_eq_true, eq_self, iI_z, al1, al2, al3, al4, al90, al91, al92, al93, al95, Int.cast_ofNat_Int, Nat.reduceAdd, Int.reduceNeg, Int.reduceAdd, Int.reduceSub, Int.reduceMul, Int.reduceLT, Int.reduceLE, Int.reduceGT, Int.reduceGE, Int.reduceEq, Int.reduceNe, Nat.reduceEqDiff, Int.zero_add, Int.add_zero, p_ty0, p_ty1, p_ty2, p_ty3, p_ty4, p_ty5, p_ty6, p_ty7, p_ty8, p_ty9, p_ty10, p_ty11, B_t, B_f]
    have hi1 : i < m := by omega
    have hlt := hK.2.2.1
    have hY := hQ.1.1
    have t0 := hY.1
    obtain ⟨d0, d0', d1, d2, d3, d4⟩ := id hQ.1.2.1
    -- what is kept
    have keep : ∀ {T1 : pT} {M1 : pM} {F1 : pF} {lg1 N1 cs ss : Nat}, YCs (XTc bd) cs ss T M F lg N T1 M1 F1 lg1 N1 → (∀ j, j ≠ 3 → j ≠ 10 → j ≠ 11 → j ≠ 12 → j ≠ 14 → M1 127 j = M 127 j) → TKM M1 bs z m ∧ YTp M1 bs z := by
      intro T1 M1 F1 lg1 N1 cs ss C1 j1
      have mm : ∀ a, a = 128 ∨ a = 141 ∨ a = 142 ∨ a = 143 → M1 a = M a := fun a ha => C1.2.1 a (by omega) (by unfold XTc; omega) (by omega)
      exact ⟨hK.fr (mm 141 (by omega)) (mm 142 (by omega)) (mm 143 (by omega)), by rw [mm 128 (by omega)]; exact hT.1, by rw [j1 2 (by omega) (by omega) (by omega) (by omega) (by omega)]; exact hT.2.1, hT.2.2⟩
    have kc := fun j (hj : j < m) => kd_kc (hlt j hj)
    have n21 : ∀ j, j < m → (tkn bs z j).2.1 ≠ 13 → kcn bs z j ≠ 21 := fun j hj h => by
      rw [kc j hj]; exact fun q => h ((mc21 tk_k16).mp q)
    have y21 : ∀ j, j < m → (tkn bs z j).2.1 = 13 → kcn bs z j = 21 := fun j hj h => by
      rw [kc j hj]; exact (mc21 tk_k16).mpr h
    have csr : ∀ j, -1 ≤ (tkn bs z j).2.2 ∧ (tkn bs z j).2.2 < 91 := fun j => t_cs_rg hT.2.2.2
    rw [tks_cons hi1] at hr ⊢
    rw [g_run] at hr
    have hb10 : g_b 0 (tkn bs z i).2.1 ≠ 10 := by
      intro q; rw [if_pos q] at hr; exact absurd hr (by decide)
    rw [if_neg hb10] at hr
    have hgf : g_b 0 (tkn bs z i).2.1 = g_f (tkn bs z i).2.1 := rfl
    have kci := kc i hi1
    have hk3 : (tkn bs z i).2.1 = 0 ∨ (tkn bs z i).2.1 = 1 ∨ (tkn bs z i).2.1 = 2 ∨ (tkn bs z i).2.1 = 3 := by
      rw [hgf] at hb10
      unfold g_f at hb10
      by_cases a0 : (tkn bs z i).2.1 = 0
      · exact Or.inl a0
      rw [if_neg a0] at hb10
      by_cases a1 : (tkn bs z i).2.1 = 1
      · exact Or.inr (Or.inl a1)
      rw [if_neg a1] at hb10
      by_cases a2 : (tkn bs z i).2.1 = 2
      · exact Or.inr (Or.inr (Or.inl a2))
      rw [if_neg a2] at hb10
      by_cases a3 : (tkn bs z i).2.1 = 3
      · exact Or.inr (Or.inr (Or.inr a3))
      rw [if_neg a3] at hb10
      exact absurd rfl hb10
    have s1 := fun (l4 : Slot) (e : Nat) => rl_skip (T := T) (F := F) (i := i) (l4 := l4) (e := e) hY hK hi1 (n21 i hi1 (by omega))
    rcases hk3 with k0 | k0 | k0 | k0
    · -- start
      rw [k0] at hr kci
      obtain ⟨h1, b1, u1⟩ := acc_at (st := 9) hr (by decide)
      obtain ⟨k1, w1⟩ := g_9 b1
      rw [w1] at u1
      have hst := y_start hQ hz hK hi1 (by rw [kci]; rfl)
      have hln := rl_line (R0 := tks bs z (m - (i + 1 + 1)) (i + 1 + 1)) (cs1 := m - (i + 1 + 1)) (ss1 := 6 * (m - (i + 1 + 1))) (by omega) h1 hm hst (fun e l4 => by rw [s1 l4 e]; exact rl_semi hY hK h1 (y21 _ h1 k1)) t0 (fun T1 M1 F1 lg1 N1 _ Q1 C1 j1 => by
        obtain ⟨K1, T1p⟩ := keep C1 j1
        exact ih (i + 1 + 1) _ T1 M1 F1 lg1 N1 (by omega) (by omega) u1 Q1 ⟨⟨sb_MB, sb_UK, p20_sb, Or.inl rfl, Or.inl rfl, by show (0 : Int) ≤ 0 ∧ (0 : Int) ≤ 60; omega⟩, trivial⟩ ZB.sbZ K1 T1p (Nat.zero_le _))
      have e1 : d_run (tkn bs z i :: tks bs z (m - (i + 1)) (i + 1)) S = d_run (tks bs z (m - (i + 1 + 1)) (i + 1 + 1)) (q_sb, 0, -1, 0, []) := by
        rw [d_run, if_pos k0, tks_cons h1, d_skip (by omega)]
      rw [if_pos rfl] at hln
      rw [e1]
      obtain ⟨T1, M1, F1, lg1, N1, a1, a2, a3, a4, a5, a6, a7⟩ := hln
      exact ⟨T1, M1, F1, lg1, N1, a1, a2, a3, a4, a5, a6, a7.wk (fun _ h => h) (by omega) (by omega)⟩
    · -- put
      rw [k0] at hr kci
      obtain ⟨h1, b1, u1⟩ := acc_at (st := 1) hr (by decide)
      obtain ⟨k1, w1⟩ := g_1 b1
      rw [w1] at u1
      obtain ⟨h2, b2, u2⟩ := acc_at u1 (by decide)
      obtain ⟨k2, w2⟩ := g_2 b2
      rw [w2] at u2
      obtain ⟨h3, b3, u3⟩ := acc_at u2 (by decide)
      obtain ⟨k3, w3⟩ := g_3 b3
      rw [w3] at u3
      obtain ⟨h4, b4, u4⟩ := acc_at u3 (by decide)
      obtain ⟨k4, w4⟩ := g_9 b4
      rw [w4] at u4
      have eR : tks bs z (m - (i + 1)) (i + 1) = tkn bs z (i + 1) :: tkn bs z (i + 1 + 1) :: tkn bs z (i + 1 + 1 + 1) :: tkn bs z (i + 1 + 1 + 1 + 1) :: tks bs z (m - (i + 1 + 1 + 1 + 1 + 1)) (i + 1 + 1 + 1 + 1 + 1) := by
        rw [tks_cons h1, tks_cons h2, tks_cons h3, tks_cons h4]
      have hpu := y_cput hY hK hi1 (by rw [kci]; rfl) (y_put (i := i) (R' := tkn bs z (i + 1 + 1 + 1 + 1) :: tks bs z (m - (i + 1 + 1 + 1 + 1 + 1)) (i + 1 + 1 + 1 + 1 + 1)) hQ hP hz hK hT (by omega) rfl rfl rfl k1 k2 k3)
      rw [← eR] at hpu
      have g0 : (tks bs z (m - (i + 1)) (i + 1)).getD 0 tk0 = tkn bs z (i + 1) := by rw [eR]; rfl
      have g1 : (tks bs z (m - (i + 1)) (i + 1)).getD 1 tk0 = tkn bs z (i + 1 + 1) := by rw [eR]; rfl
      have g2 : (tks bs z (m - (i + 1)) (i + 1)).getD 2 tk0 = tkn bs z (i + 1 + 1 + 1) := by rw [eR]; rfl
      have hsp := dput_sp (R0 := tks bs z (m - (i + 1)) (i + 1)) hP hz (by
        rw [g0]
        rcases k1 with e | e <;> rw [e]
        · exact Or.inl rfl
        · exact Or.inr rfl) (by
        rw [g1]
        unfold knum
        rw [if_neg (by omega), if_neg (by omega), if_pos (by omega)]
        omega) (by rw [g2]; exact csr _)
      have hle := d_put_len (R := tks bs z (m - (i + 1)) (i + 1)) (S := S)
      have hln := rl_line (R0 := tks bs z (m - (i + 1 + 1 + 1 + 1 + 1)) (i + 1 + 1 + 1 + 1 + 1)) (cs1 := m - (i + 1 + 1 + 1 + 1 + 1)) (ss1 := 6 * (m - (i + 1 + 1 + 1 + 1 + 1))) (by omega) h4 hm hpu (fun e l4 => by
        rw [s1 l4 e, rl_skip hY hK h1 (n21 _ h1 (by omega)), rl_skip hY hK h2 (n21 _ h2 (by omega)), rl_skip hY hK h3 (n21 _ h3 (by omega))]
        exact rl_semi hY hK h4 (y21 _ h4 k4)) t0 (fun T1 M1 F1 lg1 N1 _ Q1 C1 j1 => by
        obtain ⟨K1, T1p⟩ := keep C1 j1
        exact ih (i + 1 + 1 + 1 + 1 + 1) _ T1 M1 F1 lg1 N1 (by omega) (by omega) u4 Q1 hsp.1 hsp.2 K1 T1p (by omega))
      have e1 : d_run (tkn bs z i :: tks bs z (m - (i + 1)) (i + 1)) S = if (d_put (tks bs z (m - (i + 1)) (i + 1)) S).1 = 0 then d_run (tks bs z (m - (i + 1 + 1 + 1 + 1 + 1)) (i + 1 + 1 + 1 + 1 + 1)) (d_put (tks bs z (m - (i + 1)) (i + 1)) S).2.2 else d_put (tks bs z (m - (i + 1)) (i + 1)) S := by
        rw [d_run, if_neg (by omega), if_pos k0]
        by_cases cz : (d_put (tks bs z (m - (i + 1)) (i + 1)) S).1 = 0
        · rw [if_pos cz, if_pos cz]
          conv => lhs; arg 1; rw [eR]
          rw [d_skip (by omega), d_skip (by omega), d_skip (by omega), d_skip (by omega)]
        · rw [if_neg cz, if_neg cz]
      rw [e1]
      obtain ⟨T1, M1, F1, lg1, N1, a1, a2, a3, a4, a5, a6, a7⟩ := hln
      exact ⟨T1, M1, F1, lg1, N1, a1, a2, a3, a4, a5, a6, a7.wk (fun _ h => h) (by omega) (by omega)⟩
    · -- turn
      rw [k0] at hr kci
      obtain ⟨h1, b1, u1⟩ := acc_at (st := 4) hr (by decide)
      obtain ⟨k1, w1⟩ := g_4 b1
      rw [w1] at u1
      obtain ⟨h2, b2, u2⟩ := acc_at u1 (by decide)
      obtain ⟨k2, w2⟩ := g_9 b2
      rw [w2] at u2
      have hs : knum (tkn bs z (i + 1)).2.1 = 0 ∨ knum (tkn bs z (i + 1)).2.1 = 1 := by
        rcases k1 with e | e <;> rw [e]
        · exact Or.inl rfl
        · exact Or.inr rfl
      have hk5 : kcn bs z (i + 1) = knum (tkn bs z (i + 1)).2.1 + 5 := by
        rw [kc _ h1]; rcases k1 with e | e <;> rw [e] <;> rfl
      have htu := y_turn hQ hK h1 (by rw [kci]; rfl) hs hk5
      have hln := rl_line (R0 := tks bs z (m - (i + 1 + 1 + 1)) (i + 1 + 1 + 1)) (cs1 := m - (i + 1 + 1 + 1)) (ss1 := 6 * (m - (i + 1 + 1 + 1))) (by omega) h2 hm htu (fun e l4 => by
        rw [s1 l4 e, rl_skip hY hK h1 (n21 _ h1 (by omega))]
        exact rl_semi hY hK h2 (y21 _ h2 k2)) t0 (fun T1 M1 F1 lg1 N1 _ Q1 C1 j1 => by
        obtain ⟨K1, T1p⟩ := keep C1 j1
        exact ih (i + 1 + 1 + 1) _ T1 M1 F1 lg1 N1 (by omega) (by omega) u2 Q1 ⟨⟨hP.1.1, hP.1.2.1, hP.1.2.2.1, hs, Or.inl rfl, by show (0 : Int) ≤ 0 ∧ (0 : Int) ≤ 60; omega⟩, trivial⟩ hz K1 T1p (Nat.zero_le _))
      have e1 : d_run (tkn bs z i :: tks bs z (m - (i + 1)) (i + 1)) S = d_run (tks bs z (m - (i + 1 + 1 + 1)) (i + 1 + 1 + 1)) (S.1, knum (tkn bs z (i + 1)).2.1, -1, 0, []) := by
        rw [d_run, if_neg (by omega), if_neg (by omega), if_pos k0, tks_cons h1, tks_cons h2]
        rw [d_skip (by omega), d_skip (by omega)]
        rfl
      rw [if_pos rfl] at hln
      rw [e1]
      obtain ⟨T1, M1, F1, lg1, N1, a1, a2, a3, a4, a5, a6, a7⟩ := hln
      exact ⟨T1, M1, F1, lg1, N1, a1, a2, a3, a4, a5, a6, a7.wk (fun _ h => h) (by omega) (by omega)⟩
    · -- go
      rw [k0] at hr kci
      obtain ⟨h1, b1, u1⟩ := acc_at (st := 5) hr (by decide)
      obtain ⟨k1, w1⟩ := g_5 b1
      rw [w1] at u1
      obtain ⟨h2, b2, u2⟩ := acc_at u1 (by decide)
      obtain ⟨k2, w2⟩ := g_6 b2
      rw [w2] at u2
      obtain ⟨h3, b3, u3⟩ := acc_at u2 (by decide)
      have hle := d_go_len (x := tkn bs z i) (R := tks bs z (m - (i + 1)) (i + 1)) (S := S)
      have eR : tks bs z (m - (i + 1)) (i + 1) = tkn bs z (i + 1) :: tkn bs z (i + 1 + 1) :: tkn bs z (i + 1 + 1 + 1) :: tks bs z (m - (i + 1 + 1 + 1 + 1)) (i + 1 + 1 + 1 + 1) := by
        rw [tks_cons h1, tks_cons h2, tks_cons h3]
      have g0 : (tks bs z (m - (i + 1)) (i + 1)).getD 0 tk0 = tkn bs z (i + 1) := by rw [eR]; rfl
      have g1 : (tks bs z (m - (i + 1)) (i + 1)).getD 1 tk0 = tkn bs z (i + 1 + 1) := by rw [eR]; rfl
      have g2 : (tks bs z (m - (i + 1)) (i + 1)).getD 2 tk0 = tkn bs z (i + 1 + 1 + 1) := by rw [eR]; rfl
      have g3 : (tks bs z (m - (i + 1)) (i + 1)).getD 3 tk0 = (tks bs z (m - (i + 1 + 1 + 1 + 1)) (i + 1 + 1 + 1 + 1)).getD 0 tk0 := by rw [eR]; rfl
      rcases g_7 b3 with ⟨k3, w3⟩ | ⟨k3, w3⟩
      · rw [w3] at u3
        obtain ⟨h4, b4, u4⟩ := acc_at u3 (by decide)
        obtain ⟨k4, w4⟩ := g_8 b4
        rw [w4] at u4
        obtain ⟨h5, b5, u5⟩ := acc_at u4 (by decide)
        obtain ⟨k5, w5⟩ := g_9 b5
        rw [w5] at u5
        have g4 : (tks bs z (m - (i + 1 + 1 + 1 + 1)) (i + 1 + 1 + 1 + 1)).getD 0 tk0 = tkn bs z (i + 1 + 1 + 1 + 1) := by rw [tks_cons h4]; rfl
        have hgo := y_cgo hY hK hi1 (by rw [kci]; rfl) (y_go (i := i) (R' := tks bs z (m - (i + 1 + 1 + 1 + 1)) (i + 1 + 1 + 1 + 1)) hQ hP hK hT (by omega) (by omega) rfl rfl rfl rfl k1 k2 (Or.inl k3) (fun _ => ⟨by omega, by rw [g4]; exact k4, g4⟩))
        rw [show tkn bs z (i + 2) = tkn bs z (i + 1 + 1) from rfl, show tkn bs z (i + 3) = tkn bs z (i + 1 + 1 + 1) from rfl, ← eR] at hgo
        have hsp := dgo_sp (R0 := tks bs z (m - (i + 1)) (i + 1)) (y := tkn bs z i) hP hz (by rw [g0]; exact csr _) (by rw [g1]; exact csr _) (fun _ => by rw [g3, g4]; exact k4)
        have hln := rl_line (R0 := tks bs z (m - (i + 1 + 1 + 1 + 1 + 1 + 1)) (i + 1 + 1 + 1 + 1 + 1 + 1)) (cs1 := m - (i + 1 + 1 + 1 + 1 + 1 + 1)) (ss1 := 6 * (m - (i + 1 + 1 + 1 + 1 + 1 + 1))) (by omega) h5 hm hgo (fun e l4 => by
          rw [s1 l4 e, rl_skip hY hK h1 (n21 _ h1 (by omega)), rl_skip hY hK h2 (n21 _ h2 (by omega)), rl_skip hY hK h3 (n21 _ h3 (by omega)), rl_skip hY hK h4 (n21 _ h4 (by omega))]
          exact rl_semi hY hK h5 (y21 _ h5 k5)) t0 (fun T1 M1 F1 lg1 N1 _ Q1 C1 j1 => by
          obtain ⟨K1, T1p⟩ := keep C1 j1
          exact ih (i + 1 + 1 + 1 + 1 + 1 + 1) _ T1 M1 F1 lg1 N1 (by omega) (by omega) u5 Q1 hsp.1 hsp.2 K1 T1p (by omega))
        have e1 : d_run (tkn bs z i :: tks bs z (m - (i + 1)) (i + 1)) S = if (d_go (tkn bs z i) (tks bs z (m - (i + 1)) (i + 1)) S).1 = 0 then d_run (tks bs z (m - (i + 1 + 1 + 1 + 1 + 1 + 1)) (i + 1 + 1 + 1 + 1 + 1 + 1)) (d_go (tkn bs z i) (tks bs z (m - (i + 1)) (i + 1)) S).2.2 else d_go (tkn bs z i) (tks bs z (m - (i + 1)) (i + 1)) S := by
          rw [d_run, if_neg (by omega), if_neg (by omega), if_neg (by omega), if_pos k0]
          by_cases cz : (d_go (tkn bs z i) (tks bs z (m - (i + 1)) (i + 1)) S).1 = 0
          · rw [if_pos cz, if_pos cz]
            conv => lhs; arg 1; rw [eR, tks_cons h4, tks_cons h5]
            rw [d_skip (by omega), d_skip (by omega), d_skip (by omega), d_skip (by omega), d_skip (by omega)]
          · rw [if_neg cz, if_neg cz]
        rw [e1]
        obtain ⟨T1, M1, F1, lg1, N1, a1, a2, a3, a4, a5, a6, a7⟩ := hln
        exact ⟨T1, M1, F1, lg1, N1, a1, a2, a3, a4, a5, a6, a7.wk (fun _ h => h) (by omega) (by omega)⟩
      · rw [w3] at u3
        have hgo := y_cgo hY hK hi1 (by rw [kci]; rfl) (y_go (i := i) (R' := tks bs z (m - (i + 1 + 1 + 1 + 1)) (i + 1 + 1 + 1 + 1)) hQ hP hK hT (by omega) (by omega) rfl rfl rfl rfl k1 k2 (Or.inr k3) (fun q => by
          have k3' : (tkn bs z (i + 3)).2.1 = 13 := k3
          omega))
        rw [show tkn bs z (i + 2) = tkn bs z (i + 1 + 1) from rfl, show tkn bs z (i + 3) = tkn bs z (i + 1 + 1 + 1) from rfl, ← eR] at hgo
        have hsp := dgo_sp (R0 := tks bs z (m - (i + 1)) (i + 1)) (y := tkn bs z i) hP hz (by rw [g0]; exact csr _) (by rw [g1]; exact csr _) (fun q => by rw [g2] at q; omega)
        have hln := rl_line (R0 := tks bs z (m - (i + 1 + 1 + 1 + 1)) (i + 1 + 1 + 1 + 1)) (cs1 := m - (i + 1 + 1 + 1 + 1)) (ss1 := 6 * (m - (i + 1 + 1 + 1 + 1))) (by omega) h3 hm hgo (fun e l4 => by
          rw [s1 l4 e, rl_skip hY hK h1 (n21 _ h1 (by omega)), rl_skip hY hK h2 (n21 _ h2 (by omega))]
          exact rl_semi hY hK h3 (y21 _ h3 k3)) t0 (fun T1 M1 F1 lg1 N1 _ Q1 C1 j1 => by
          obtain ⟨K1, T1p⟩ := keep C1 j1
          exact ih (i + 1 + 1 + 1 + 1) _ T1 M1 F1 lg1 N1 (by omega) (by omega) u3 Q1 hsp.1 hsp.2 K1 T1p (by omega))
        have e1 : d_run (tkn bs z i :: tks bs z (m - (i + 1)) (i + 1)) S = if (d_go (tkn bs z i) (tks bs z (m - (i + 1)) (i + 1)) S).1 = 0 then d_run (tks bs z (m - (i + 1 + 1 + 1 + 1)) (i + 1 + 1 + 1 + 1)) (d_go (tkn bs z i) (tks bs z (m - (i + 1)) (i + 1)) S).2.2 else d_go (tkn bs z i) (tks bs z (m - (i + 1)) (i + 1)) S := by
          rw [d_run, if_neg (by omega), if_neg (by omega), if_neg (by omega), if_pos k0]
          by_cases cz : (d_go (tkn bs z i) (tks bs z (m - (i + 1)) (i + 1)) S).1 = 0
          · rw [if_pos cz, if_pos cz]
            conv => lhs; arg 1; rw [eR]
            rw [d_skip (by omega), d_skip (by omega), d_skip (by omega)]
          · rw [if_neg cz, if_neg cz]
        rw [e1]
        obtain ⟨T1, M1, F1, lg1, N1, a1, a2, a3, a4, a5, a6, a7⟩ := hln
        exact ⟨T1, M1, F1, lg1, N1, a1, a2, a3, a4, a5, a6, a7.wk (fun _ h => h) (by omega) (by omega)⟩
end PYRE
