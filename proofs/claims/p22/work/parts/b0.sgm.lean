section PSGM
/-! the simulation's board: places of eleven a column, black pieces less than 0 -/
def pl1 (c : Int) : Int := 11 * (gx c + 5) + (gy c + 5)
def cA (x y : Int) : Int := if (-5 ≤ x ∧ x ≤ 5) ∧ (-5 ≤ y ∧ y ≤ 5) then q_cel (17 * (x + 8) + (y + 8)) else -1
def c1 (p : Int) : Int := cA (p / 11 - 5) (p % 11 - 5)
variable {bb : Int → Int} {k s t pas q its to as i c p x y j : Int}
theorem c1N : ∀ k : Nat, k < 91 → (c1 (pl1 (k : Int)) = k ∧ cA (gx k) (gy k) = k) ∧ (0 ≤ pl1 k ∧ pl1 k < 121) ∧ -5 ≤ gx k + gy k ∧ gx k + gy k ≤ 5 := by decide +kernel
theorem c1_pl1 (hk : 0 ≤ k ∧ k < 91) : (c1 (pl1 k) = k ∧ cA (gx k) (gy k) = k) ∧ (0 ≤ pl1 k ∧ pl1 k < 121) ∧ -5 ≤ gx k + gy k ∧ gx k + gy k ≤ 5 := by
  have := c1N k.toNat (by omega)
  rwa [Int.toNat_of_nonneg hk.1] at this
theorem pl1N : ∀ p : Nat, p < 121 → c1 (p : Int) = -1 ∨ ((0 ≤ c1 p ∧ c1 p < 91) ∧ pl1 (c1 p) = p) := by decide +kernel
theorem pl1_c1 (hp : 0 ≤ p ∧ p < 121) : c1 p = -1 ∨ ((0 ≤ c1 p ∧ c1 p < 91) ∧ pl1 (c1 p) = p) := by
  have := pl1N p.toNat (by omega)
  rwa [Int.toNat_of_nonneg hp.1] at this
theorem pl1_inj (hk : 0 ≤ k ∧ k < 91) (hc : 0 ≤ c ∧ c < 91) (h : pl1 k = pl1 c) : k = c := by
  rw [← (c1_pl1 hk).1.1, h, (c1_pl1 hc).1.1]
theorem pl1_xy (hk : 0 ≤ k ∧ k < 91) : pl1 k / 11 = gx k + 5 ∧ pl1 k % 11 = gy k + 5 := by
  have := gxy_rg hk
  unfold pl1
  omega
def cAc (a b : Nat) : Bool := (cA ((a : Int) - 5) ((b : Int) - 5) == -1) != (decide (-5 ≤ ((a : Int) - 5) + ((b : Int) - 5)) && decide (((a : Int) - 5) + ((b : Int) - 5) ≤ 5)) && (cA ((a : Int) - 5) ((b : Int) - 5) == -1 || (decide (0 ≤ cA ((a : Int) - 5) ((b : Int) - 5)) && decide (cA ((a : Int) - 5) ((b : Int) - 5) < 91) && (gx (cA ((a : Int) - 5) ((b : Int) - 5)) == (a : Int) - 5) && (gy (cA ((a : Int) - 5) ((b : Int) - 5)) == (b : Int) - 5)))
theorem cAN : ∀ a : Nat, a < 11 → ∀ b : Nat, b < 11 → cAc a b = true := by decide +kernel
theorem cA_on (hx : -5 ≤ x ∧ x ≤ 5) (hy : -5 ≤ y ∧ y ≤ 5) : (cA x y ≠ -1 ↔ (-5 ≤ x + y ∧ x + y ≤ 5)) ∧ (cA x y ≠ -1 → (0 ≤ cA x y ∧ cA x y < 91) ∧ gx (cA x y) = x ∧ gy (cA x y) = y) := by
  have h := cAN (x + 5).toNat (by omega) (y + 5).toNat (by omega)
  unfold cAc at h
  rw [Int.toNat_of_nonneg (by omega), Int.toNat_of_nonneg (by omega), show x + 5 - 5 = x by omega, show y + 5 - 5 = y by omega] at h
  simp only [Bool.and_eq_true, bne_iff_ne, Bool.or_eq_true, beq_iff_eq, decide_eq_true_eq] at h
  obtain ⟨h1, h2⟩ := h
  have h3 : (decide (-5 ≤ x + y) && decide (x + y ≤ 5)) = true ↔ (-5 ≤ x + y ∧ x + y ≤ 5) := by rw [Bool.and_eq_true, decide_eq_true_eq, decide_eq_true_eq]
  refine ⟨?_, fun z => ?_⟩
  · rw [← h3]
    by_cases c : cA x y = -1
    · rw [c] at h1
      constructor
      · intro z; exact absurd c z
      · intro z; rw [z] at h1; exact absurd rfl h1
    · constructor
      · intro _
        cases hb : (decide (-5 ≤ x + y) && decide (x + y ≤ 5)) with
        | true => rfl
        | false =>
          rw [hb] at h1
          have : (cA x y == -1) = false := by simp [c]
          rw [this] at h1
          exact absurd rfl h1
      · intro _; exact c
  · rcases h2 with h2 | h2
    · exact absurd h2 z
    · exact ⟨⟨h2.1.1.1, h2.1.1.2⟩, h2.1.2, h2.2⟩
theorem cA_out (h : cA x y ≠ -1) : (-5 ≤ x ∧ x ≤ 5) ∧ (-5 ≤ y ∧ y ≤ 5) := by
  unfold cA at h
  by_cases c : (-5 ≤ x ∧ x ≤ 5) ∧ (-5 ≤ y ∧ y ≤ 5)
  · exact c
  · rw [if_neg c] at h; exact absurd rfl h
theorem cA_ok (h : cA x y ≠ -1) : (0 ≤ cA x y ∧ cA x y < 91) ∧ (gx (cA x y) = x ∧ gy (cA x y) = y) ∧ (-5 ≤ x ∧ x ≤ 5) ∧ (-5 ≤ y ∧ y ≤ 5) ∧ -5 ≤ x + y ∧ x + y ≤ 5 := by
  obtain ⟨h1, h2⟩ := cA_out h
  have := cA_on h1 h2
  exact ⟨(this.2 h).1, (this.2 h).2, h1, h2, this.1.mp h⟩
theorem cA_of (hx : -5 ≤ x ∧ x ≤ 5) (hy : -5 ≤ y ∧ y ≤ 5) (hs : -5 ≤ x + y ∧ x + y ≤ 5) : cA x y ≠ -1 := (cA_on hx hy).1.mpr hs
def dX (i : Int) : Int := ([0, 1, 1, 0, -1, -1, 1, 2, 1, -1, -2, -1] : List Int).getD i.toNat 0
def dY (i : Int) : Int := ([1, 0, -1, -1, 0, 1, 1, -1, -2, -1, 1, 2] : List Int).getD i.toNat 0
def jX (i : Int) : Int := ([1, 2, 3, 3, 2, 1, -1, -2, -3, -3, -2, -1] : List Int).getD i.toNat 0
def jY (i : Int) : Int := ([2, 1, -1, -2, -3, -3, -2, -1, 1, 2, 3, 3] : List Int).getD i.toNat 0
set_option maxRecDepth 20000 in
theorem gnxyN : ∀ k : Nat, k < 91 → ∀ i : Nat, i < 12 → gn (k : Int) (i : Int) = cA (gx k + dX i) (gy k + dY i) ∧ gj (k : Int) (i : Int) = cA (gx k + jX i) (gy k + jY i) := by decide +kernel
theorem gn_xy (hk : 0 ≤ k ∧ k < 91) (hi : 0 ≤ i ∧ i < 12) : gn k i = cA (gx k + dX i) (gy k + dY i) ∧ gj k i = cA (gx k + jX i) (gy k + jY i) := by
  have := gnxyN k.toNat (by omega) i.toNat (by omega)
  rwa [Int.toNat_of_nonneg hk.1, Int.toNat_of_nonneg hi.1] at this
/-- n steps on -/
def wk (k i : Int) (n : Nat) : Int := cA (gx k + n * dX i) (gy k + n * dY i)
theorem wk1 (hk : 0 ≤ k ∧ k < 91) (hi : 0 ≤ i ∧ i < 12) : wk k i 1 = gn k i := by
  rw [(gn_xy hk hi).1]
  unfold wk
  rw [show ((1 : Nat) : Int) = 1 from rfl, Int.one_mul, Int.one_mul]
theorem wk_s (hk : 0 ≤ k ∧ k < 91) (hi : 0 ≤ i ∧ i < 12) (h : gn k i ≠ -1) (n : Nat) : wk (gn k i) i n = wk k i (n + 1) := by
  have e := (gn_xy hk hi).1
  rw [e] at h
  obtain ⟨h1, ⟨h2, h3⟩, -⟩ := cA_ok h
  unfold wk
  rw [e, h2, h3]
  have e1 : gx k + dX i + (n : Int) * dX i = gx k + ((n + 1 : Nat) : Int) * dX i := by rw [Int.natCast_add_one, Int.add_mul, Int.one_mul]; omega
  have e2 : gy k + dY i + (n : Int) * dY i = gy k + ((n + 1 : Nat) : Int) * dY i := by rw [Int.natCast_add_one, Int.add_mul, Int.one_mul]; omega
  rw [e1, e2]
theorem onRay_wk (hi : 0 ≤ i ∧ i < 12) : ∀ (m : Nat) (k : Int), (0 ≤ k ∧ k < 91) → (onRay bb i m (gn k i) to ↔ ∃ n : Nat, 1 ≤ n ∧ n ≤ m ∧ to = wk k i n ∧ to ≠ -1 ∧ ∀ j : Nat, 1 ≤ j → j < n → wk k i j ≠ -1 ∧ bb (wk k i j) = 0)
  | 0, k, hk => by
    rw [onRay]
    constructor
    · exact False.elim
    · rintro ⟨n, h1, h2, -⟩; omega
  | m + 1, k, hk => by
    rw [onRay]
    have hw := wk1 hk hi
    constructor
    · rintro ⟨h1, h2⟩
      rcases h2 with h2 | ⟨h2, h3⟩
      · exact ⟨1, Nat.le_refl _, by omega, by rw [h2, hw], by rw [h2]; exact h1, fun j j1 j2 => by omega⟩
      · obtain ⟨n, n1, n2, n3, n4, n5⟩ := (onRay_wk hi m (gn k i) (by have := gn_rg hk hi; omega)).mp h3
        refine ⟨n + 1, by omega, by omega, by rw [n3, wk_s hk hi h1], n4, fun j j1 j2 => ?_⟩
        by_cases c : j = 1
        · rw [c, hw]; exact ⟨h1, h2⟩
        · have := n5 (j - 1) (by omega) (by omega)
          rw [wk_s hk hi h1, show j - 1 + 1 = j by omega] at this
          exact this
    · rintro ⟨n, n1, n2, n3, n4, n5⟩
      by_cases c : n = 1
      · rw [c, hw] at n3
        exact ⟨by rw [← n3]; exact n4, Or.inl n3⟩
      · have h1 := n5 1 (by omega) (by omega)
        rw [hw] at h1
        refine ⟨h1.1, Or.inr ⟨h1.2, (onRay_wk hi m (gn k i) (by have := gn_rg hk hi; omega)).mpr ⟨n - 1, by omega, by omega, by rw [wk_s hk hi h1.1, show n - 1 + 1 = n by omega]; exact n3, n4, fun j j1 j2 => ?_⟩⟩⟩
        rw [wk_s hk hi h1.1]
        exact n5 (j + 1) (by omega) (by omega)
/-- a piece's sign -/
def sv (x : Int) : Int := if 10 ≤ x then 10 - x else x
def SB1 (v bb : Int → Int) : Prop := ∀ p, 0 ≤ p ∧ p < 121 → v p = if c1 p = -1 then 99 else sv (bb (c1 p))
theorem SB1.at {v : Int → Int} (h : SB1 v bb) (hk : 0 ≤ k ∧ k < 91) : v (pl1 k) = sv (bb k) := by
  obtain ⟨⟨h1, -⟩, h2, -⟩ := c1_pl1 hk
  rw [h _ h2, h1, if_neg (by omega)]
theorem sv_f (hb : MB bb) (k : Int) : (sv (bb k) = 0 ↔ bb k = 0) ∧ (-6 ≤ sv (bb k) ∧ sv (bb k) ≤ 6) ∧ (0 < sv (bb k) ↔ m_side (bb k) = 0) ∧ (sv (bb k) < 0 ↔ m_side (bb k) = 1) ∧ (if sv (bb k) < 0 then - sv (bb k) else sv (bb k)) = bb k % 10 := by
  have := hb k
  unfold sv m_side
  refine ⟨?_, ?_, ?_, ?_, ?_⟩ <;> (repeat' split) <;> omega
end PSGM
