section PPLA
variable {d : Nat} {T : pT} {M : pM} {F : pF} {b g : Nat} {bb : Int → Int} {k s t pas q its to as c x n : Int}
theorem q_set_v {M : pM} {b : Nat} {bb : Int → Int} (h : RB M b bb) (hc : 0 ≤ c ∧ c < 91) : q_set M b (q_pl c) (cv x) (b + 1) = u1 (M (b + 1)) (q_pl c) (cv x) := by
  have hq := q_pl_nn hc
  have hvc := h.2.1 (q_pl c) (by omega)
  have hbc := h.2.2.1 c
  rw [geo1 hc, if_neg (by omega)] at hvc
  have hon : M (b + 1) (q_pl c) ≠ -1 := by rw [hvc]; unfold cv; split <;> omega
  unfold q_set
  rw [if_pos ⟨by omega, by omega, hon⟩]
  unfold uA
  rw [if_neg (by omega), if_pos rfl]
theorem c_setX (hB : BT T F b) (hR : RB M b bb) (hc : 0 ≤ c ∧ c < 91) (hx : VX x) (hu : ∀ s, s = 0 ∨ s = 1 → x = 10 * s + 1 → ∀ k, 0 ≤ k → k < 91 → k ≠ c → bb k ≠ 10 * s + 1) :
    ∃ M', (∀ d, 1 ≤ d → callD d m_X0_set [.ref b, .int (iI (q_pl c)), .int (iI (cv x))] T M F = some (.inl none, T, M', F)) ∧ RB M' b (u1 bb c x) ∧ (∀ a, a ≠ b → a ≠ b + 1 → M' a = M a) ∧ M' (b + 1) = u1 (M (b + 1)) (q_pl c) (cv x) ∧ (∀ j, j ≠ 1 → j ≠ 2 → M' b j = M b j) := by
  have hq := q_pl_nn hc
  have hcx : 0 ≤ cv x ∧ cv x ≤ 14 := by unfold cv; unfold VX at hx; split <;> omega
  exact ⟨_, fun d hd => c_set hB hR.1 hR.K hd (by omega) (by omega), hR.set hc hx hu, fun a h1 h2 => q_set_n h1 h2, q_set_v hR hc, fun j h1 h2 => q_set_f h1 h2⟩
theorem KR.uniq {kp : Int} (h : KR kp bb s) (hk : 0 ≤ k ∧ k < 91) (hc : 0 ≤ c ∧ c < 91) (h1 : bb k = 10 * s + 1) (h2 : bb c = 10 * s + 1) : k = c :=
  q_inj hk hc (((h.2 k hk.1 hk.2).mp h1).symm.trans ((h.2 c hc.1 hc.2).mp h2))
theorem RB.uniq (h : RB M b bb) (hs : s = 0 ∨ s = 1) (hk : 0 ≤ k ∧ k < 91) (hc : 0 ≤ c ∧ c < 91) (h1 : bb k = 10 * s + 1) (h2 : bb c = 10 * s + 1) : k = c := by
  rcases hs with rfl | rfl
  · exact h.2.2.2.1.uniq hk hc h1 h2
  · exact h.2.2.2.2.uniq hk hc h1 h2
theorem GS.PS (h : GS M g bb t pas q) : PS bb t pas := h.2.2.2.2.2.2
theorem mk_th_v (hb : MB bb) (ht : t = 0 ∨ t = 1) (h : MV bb t pas its to) (has : 2 ≤ as ∧ as ≤ 5) : VX (mk_th bb its to as) ∧ (10 * t + 1 ≤ mk_th bb its to as ∧ mk_th bb its to as ≤ 10 * t + 6) ∧ (∀ s, s = 0 ∨ s = 1 → mk_th bb its to as = 10 * s + 1 → bb its = 10 * s + 1) := by
  obtain ⟨h1, h2, h3, h4, h5⟩ := h
  have hst := m_side_t hb ht h3
  unfold mk_th
  rw [h3]
  split
  · refine ⟨by unfold VX; omega, by omega, fun s hs hx => by omega⟩
  · exact ⟨hb its, hst, fun s hs hx => hx⟩
/-- the three cells that a move sets -/
theorem c_set3 (hB : BT T F b) (hR : RB M b bb) (ht : t = 0 ∨ t = 1) (hp : PS bb t pas) (h : MV bb t pas its to) (has : 2 ≤ as ∧ as ≤ 5) :
    ∃ M1 M2 M3, (∀ d, 1 ≤ d → callD d m_X0_set [.ref b, .int (iI (q_pl (mk_pl bb pas its to))), .int (iI 0)] T M F = some (.inl none, T, M1, F)) ∧
      (∀ d, 1 ≤ d → callD d m_X0_set [.ref b, .int (iI (q_pl its)), .int (iI 0)] T M1 F = some (.inl none, T, M2, F)) ∧
      (∀ d, 1 ≤ d → callD d m_X0_set [.ref b, .int (iI (q_pl to)), .int (iI (cv (mk_th bb its to as)))] T M2 F = some (.inl none, T, M3, F)) ∧
      RB M3 b (mk_bb bb pas its to as) ∧ (∀ a, a ≠ b → a ≠ b + 1 → M1 a = M a ∧ M2 a = M a ∧ M3 a = M a) ∧ M3 (b + 1) = u1 (u1 (u1 (M (b + 1)) (q_pl (mk_pl bb pas its to)) 0) (q_pl its) 0) (q_pl to) (cv (mk_th bb its to as)) ∧ (∀ j, j ≠ 1 → j ≠ 2 → M3 b j = M b j) := by
  have hb := hR.2.2.1
  obtain ⟨z1, z2, z3⟩ := mk_pl_rg hb ht hp h
  obtain ⟨v1, v2, v3⟩ := mk_th_v hb ht h has
  obtain ⟨h1, h2, h3, h4, h5⟩ := h
  obtain ⟨M1, e1, R1, F1, V1, B1⟩ := c_setX (x := 0) hB hR z1 (Or.inl rfl) (fun s hs hx => by omega)
  obtain ⟨M2, e2, R2, F2, V2, B2⟩ := c_setX (x := 0) hB R1 h1 (Or.inl rfl) (fun s hs hx => by omega)
  obtain ⟨M3, e3, R3, F3, V3, B3⟩ := c_setX (x := mk_th bb its to as) hB R2 h2 v1 (fun s hs hx k h0 h9 hk hbk => by
    have hi := v3 s hs hx
    unfold u1 at hbk
    split at hbk
    · omega
    · split at hbk
      · omega
      · have := hR.uniq hs ⟨h0, h9⟩ h1 hbk hi
        contradiction)
  refine ⟨M1, M2, M3, e1, e2, e3, R3, fun a a1 a2 => ⟨F1 a a1 a2, (F2 a a1 a2).trans (F1 a a1 a2), (F3 a a1 a2).trans ((F2 a a1 a2).trans (F1 a a1 a2))⟩, ?_, fun j j1 j2 => (B3 j j1 j2).trans ((B2 j j1 j2).trans (B1 j j1 j2))⟩
  rw [V3, V2, V1]
  rfl
/-- the pawn's two steps never end on a last cell -/
theorem two_N : ∀ k : Nat, k < 91 → ∀ s : Nat, s < 2 → pwB (q_pl (k : Int)) (s : Int) = true → gn (gn (gn (k : Int) (m_ah (s : Int))) (m_ah (s : Int))) (m_ah (s : Int)) ≠ -1 := by decide +kernel
theorem two_ok (hk : 0 ≤ k ∧ k < 91) (hs : s = 0 ∨ s = 1) (h : m_fst k s) : gn (gn (gn k (m_ah s)) (m_ah s)) (m_ah s) ≠ -1 := by
  have h1 := (pwB_iff _ _).mp ((fst_eq hk hs).mpr h)
  have h2 := two_N k.toNat (by omega) s.toNat (by omega)
  rw [Int.toNat_of_nonneg hk.1, Int.toNat_of_nonneg (by omega)] at h2
  exact h2 h1
theorem mk_long (hb : MB bb) (ht : t = 0 ∨ t = 1) (h : MV bb t pas its to) (h6 : bb its % 10 = 6) : (gx its = gx to ∧ (gy to - gy its = 2 ∨ gy to - gy its = -2)) ↔ (gn its (m_ah t) ≠ -1 ∧ bb (gn its (m_ah t)) = 0 ∧ m_fst its t ∧ to = gn (gn its (m_ah t)) (m_ah t) ∧ bb to = 0) := by
  obtain ⟨h1, h2, h3, h4, h5⟩ := h
  have hm : MKp bb pas its to t := by
    rcases h4 with ⟨-, h4⟩ | ⟨z, -⟩ | ⟨z, -⟩ | ⟨z, -⟩ | ⟨z, -⟩
    · rw [h3] at h4; exact h4
    all_goals omega
  have hf := (ah_fwd ht).2.2.2
  constructor
  · rintro ⟨q1, q2⟩
    rcases hm with ⟨m1, m2, m3⟩ | ⟨m1, m2, m3, m4, m5, m6⟩ | ⟨i, hi, m1, m2, m3⟩
    · exfalso
      have := gxy_ah h1 ht (by rw [← m1]; exact m2)
      rw [← m1] at this
      omega
    · exact ⟨m1, m2, m3, m4, m6⟩
    · exfalso
      have := gxy_tk h1 ht hi (by rw [← m1]; exact m2)
      rw [← m1] at this
      exact this q1.symm
  · rintro ⟨m1, m2, m3, m4, m6⟩
    have g1 := gxy_ah h1 ht m1
    have g2 := gxy_ah (gn_pl h1 (ah_fwd ht).2.1 m1).2 ht (by rw [← m4]; omega)
    rw [← m4] at g2
    omega
theorem mk_PS (hb : MB bb) (ht : t = 0 ∨ t = 1) (hp : PS bb t pas) (h : MV bb t pas its to) : PS (mk_bb bb pas its to as) (1 - t) (mk_ps bb its to) := by
  have hh := h
  obtain ⟨h1, h2, h3, h4, h5⟩ := h
  unfold mk_ps
  by_cases c : bb its % 10 = 6 ∧ gx its = gx to ∧ (gy to - gy its = 2 ∨ gy to - gy its = -2)
  · rw [if_pos c]
    obtain ⟨m1, m2, m3, m4, m6⟩ := (mk_long hb ht hh c.1).mp c.2
    rw [h3]
    have a2 := (ah_fwd ht).2.1
    have g1 := gn_pl h1 a2 m1
    have g2 := gn_pl g1.2 a2 (by rw [← m4]; omega)
    have hst : m_st its (m_ah t) = gn its (m_ah t) := by unfold m_st; rw [if_neg (by omega)]
    rw [hst]
    have e11 : 1 - (1 - t) = t := by omega
    have hw := two_ok h1 ht m3
    have hno : gn its (m_ah t) ≠ its := by intro z; have := gxy_ah h1 ht m1; rw [z] at this; have := (ah_fwd ht).2.2.2; omega
    have hnt : gn its (m_ah t) ≠ to := by
      intro z
      have := gxy_ah g1.2 ht (by rw [← m4]; omega)
      rw [← m4, z] at this
      have := (ah_fwd ht).2.2.2; omega
    refine Or.inr ⟨g1.2.1, g1.2.2, ?_, ?_, ?_⟩
    · unfold mk_bb u1
      rw [if_neg hnt, if_neg hno]
      split
      · rfl
      · exact m2
    · rw [e11, ← m4]; omega
    · rw [e11, ← m4]
      have hst := m_side_t hb ht h3
      unfold mk_bb mk_th u1
      rw [if_pos rfl, h3, if_neg (by rw [← m4] at hw; exact fun z => hw z.2)]
      omega
  · rw [if_neg c]; exact Or.inl rfl
end PPLA
