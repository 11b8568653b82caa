section PSAT
/-! what attacks what: the simulation's geometry is that of rays -/
variable {d s b n : Nat} {T T1 : pT} {M M1 : pM} {F F1 : pF} {bb : Int → Int} {k t pas q its to as i c p x y X Y mv side f g : Int}
/-- the piece on k could take on to -/
def AT (bb : Int → Int) (k to : Int) : Prop :=
  (bb k % 10 = 6 ∧ ∃ i, (i = 0 ∨ i = 1) ∧ to = gn k (m_tk (m_side (bb k)) i)) ∨
  ((bb k % 10 = 2 ∨ bb k % 10 = 3) ∧ ∃ i, 0 ≤ i ∧ i < 6 ∧ onRay bb i 17 (gn k i) to) ∨
  ((bb k % 10 = 2 ∨ bb k % 10 = 4) ∧ ∃ i, 6 ≤ i ∧ i < 12 ∧ onRay bb i 17 (gn k i) to) ∨
  (bb k % 10 = 1 ∧ ∃ i, 0 ≤ i ∧ i < 12 ∧ to = gn k i) ∨
  (bb k % 10 = 5 ∧ ∃ i, 0 ≤ i ∧ i < 12 ∧ to = gj k i)
def frA (X Y : Int) : Int := if (if ab X < ab Y then ab Y else ab X) < ab (X + Y) then ab (X + Y) else (if ab X < ab Y then ab Y else ab X)
def nrA (X Y : Int) : Int := if ab (X + Y) < (if ab Y < ab X then ab Y else ab X) then ab (X + Y) else (if ab Y < ab X then ab Y else ab X)
theorem to_cA (ht : 0 ≤ to ∧ to < 91) : to = cA x y ↔ gx to = x ∧ gy to = y := by
  constructor
  · intro h
    have h2 : cA x y ≠ -1 := by rw [← h]; omega
    rw [h]; exact (cA_ok h2).2.1
  · rintro ⟨h1, h2⟩
    rw [← h1, ← h2]; exact (c1_pl1 ht).1.2.symm
/-- tables of steps -/
def tb1 (a b : Nat) : Bool := (decide (nrA (a - 10) (b - 10) = 0 ∧ frA (a - 10) (b - 10) = 1 ∨ frA (a - 10) (b - 10) = 2 * nrA (a - 10) (b - 10) ∧ frA (a - 10) (b - 10) = 2)) == (List.range 12).any (fun i => decide ((a : Int) - 10 = dX (i : Nat) ∧ (b : Int) - 10 = dY (i : Nat)))
def tb2 (a b : Nat) : Bool := (decide (frA (a - 10) (b - 10) = 3 ∧ nrA (a - 10) (b - 10) = 1)) == (List.range 12).any (fun i => decide ((a : Int) - 10 = jX (i : Nat) ∧ (b : Int) - 10 = jY (i : Nat)))
def tb3 (a b : Nat) : Bool := !(decide (frA (a - 10) (b - 10) ≠ 0 ∧ nrA (a - 10) (b - 10) = 0)) || (List.range 6).any (fun i => decide ((a : Int) - 10 = frA (a - 10) (b - 10) * dX (i : Nat) ∧ (b : Int) - 10 = frA (a - 10) (b - 10) * dY (i : Nat)))
def tb4 (a b : Nat) : Bool := !(decide (frA (a - 10) (b - 10) ≠ 0 ∧ frA (a - 10) (b - 10) = 2 * nrA (a - 10) (b - 10))) || (List.range 6).any (fun i => decide ((a : Int) - 10 = nrA (a - 10) (b - 10) * dX (i + 6 : Nat) ∧ (b : Int) - 10 = nrA (a - 10) (b - 10) * dY (i + 6 : Nat)))
set_option maxRecDepth 20000 in
theorem tbN : ∀ a : Nat, a < 21 → ∀ b : Nat, b < 21 → (tb1 a b && tb2 a b && tb3 a b && tb4 a b) = true := by decide +kernel
def tb5 (i n : Nat) : Bool := (!(decide (i < 6)) || (decide (nrA (n * dX i) (n * dY i) = 0) && decide (frA (n * dX i) (n * dY i) = n))) && (decide (i < 6) || (decide (nrA (n * dX i) (n * dY i) = n) && decide (frA (n * dX i) (n * dY i) = 2 * n)))
theorem tb5N : ∀ i : Nat, i < 12 → ∀ n : Nat, n < 11 → tb5 i n = true := by decide +kernel
theorem tb_of (hX : -10 ≤ X ∧ X ≤ 10) (hY : -10 ≤ Y ∧ Y ≤ 10) :
    ((nrA X Y = 0 ∧ frA X Y = 1 ∨ frA X Y = 2 * nrA X Y ∧ frA X Y = 2) ↔ ∃ i : Nat, i < 12 ∧ X = dX i ∧ Y = dY i) ∧ ((frA X Y = 3 ∧ nrA X Y = 1) ↔ ∃ i : Nat, i < 12 ∧ X = jX i ∧ Y = jY i) ∧
    (frA X Y ≠ 0 ∧ nrA X Y = 0 → ∃ i : Nat, i < 6 ∧ X = frA X Y * dX i ∧ Y = frA X Y * dY i) ∧ (frA X Y ≠ 0 ∧ frA X Y = 2 * nrA X Y → ∃ i : Nat, i < 6 ∧ X = nrA X Y * dX (i + 6 : Nat) ∧ Y = nrA X Y * dY (i + 6 : Nat)) := by
  have h := tbN (X + 10).toNat (by omega) (Y + 10).toNat (by omega)
  simp only [Bool.and_eq_true] at h
  obtain ⟨⟨⟨h1, h2⟩, h3⟩, h4⟩ := h
  unfold tb1 at h1
  unfold tb2 at h2
  unfold tb3 at h3
  unfold tb4 at h4
  rw [Int.toNat_of_nonneg (by omega), Int.toNat_of_nonneg (by omega), show X + 10 - 10 = X by omega, show Y + 10 - 10 = Y by omega] at h1 h2 h3 h4
  have any : ∀ (m : Nat) (P : Nat → Bool), (List.range m).any P = true ↔ ∃ i : Nat, i < m ∧ P i = true := fun m P => by
    rw [List.any_eq_true]
    exact ⟨fun ⟨i, h1, h2⟩ => ⟨i, List.mem_range.mp h1, h2⟩, fun ⟨i, h1, h2⟩ => ⟨i, List.mem_range.mpr h1, h2⟩⟩
  have beq : ∀ {c : Prop} [Decidable c] {z : Bool}, (decide c == z) = true → (c ↔ z = true) := fun {c} _ {z} h => by
    rw [beq_iff_eq] at h
    rw [← h, decide_eq_true_eq]
  refine ⟨?_, ?_, fun hc => ?_, fun hc => ?_⟩
  · rw [beq h1, any]
    simp only [decide_eq_true_eq]
  · rw [beq h2, any]
    simp only [decide_eq_true_eq]
  · rw [decide_eq_true hc, Bool.not_true, Bool.false_or, any] at h3
    simpa only [decide_eq_true_eq] using h3
  · rw [decide_eq_true hc, Bool.not_true, Bool.false_or, any] at h4
    simpa only [decide_eq_true_eq] using h4
theorem tb5_of {i n : Nat} (hi : i < 12) (hn : n < 11) : (i < 6 → nrA (n * dX i) (n * dY i) = 0 ∧ frA (n * dX i) (n * dY i) = n) ∧ (6 ≤ i → nrA (n * dX i) (n * dY i) = n ∧ frA (n * dX i) (n * dY i) = 2 * n) := by
  have h := tb5N i hi n hn
  unfold tb5 at h
  simp only [Bool.and_eq_true, Bool.or_eq_true, Bool.not_eq_true', decide_eq_false_iff_not, decide_eq_true_eq] at h
  refine ⟨fun c => ?_, fun c => ?_⟩
  · rcases h.1 with h | h
    · exact absurd c h
    · exact h
  · rcases h.2 with h | h
    · omega
    · exact h
theorem dXY : ∀ i : Nat, i < 12 → (-2 ≤ dX i ∧ dX i ≤ 2) ∧ (-2 ≤ dY i ∧ dY i ≤ 2) ∧ (dX i ≠ 0 ∨ dY i ≠ 0) := by decide +kernel
/-- between two cells of a line there are cells -/
theorem wk_mid (hk : 0 ≤ k ∧ k < 91) {i n j : Nat} (hi : i < 12) (h : wk k i n ≠ -1) (hj : j ≤ n) : wk k i j ≠ -1 ∧ c1 (pl1 k + j * (11 * dX i + dY i)) = wk k i j ∧ (0 ≤ pl1 k + j * (11 * dX i + dY i) ∧ pl1 k + j * (11 * dX i + dY i) < 121) := by
  have hg := gxy_rg hk
  have hs := (c1_pl1 hk).2.2
  obtain ⟨-, -, h1, h2, h3⟩ := cA_ok h
  have key : (-5 ≤ gx k + j * dX i ∧ gx k + j * dX i ≤ 5) ∧ (-5 ≤ gy k + j * dY i ∧ gy k + j * dY i ≤ 5) ∧ -5 ≤ (gx k + j * dX i) + (gy k + j * dY i) ∧ (gx k + j * dX i) + (gy k + j * dY i) ≤ 5 := by
    have hj' : (j : Int) ≤ n := by omega
    have hcs : i = 0 ∨ i = 1 ∨ i = 2 ∨ i = 3 ∨ i = 4 ∨ i = 5 ∨ i = 6 ∨ i = 7 ∨ i = 8 ∨ i = 9 ∨ i = 10 ∨ i = 11 := by omega
    rcases hcs with rfl | rfl | rfl | rfl | rfl | rfl | rfl | rfl | rfl | rfl | rfl | rfl <;> (simp only [dX, dY] at *; simp at *; omega)
  have hw := cA_of key.1 key.2.1 key.2.2
  refine ⟨hw, ?_, ?_⟩
  · have e : pl1 k + j * (11 * dX i + dY i) = 11 * (gx k + j * dX i + 5) + (gy k + j * dY i + 5) := by
      unfold pl1
      rw [Int.mul_add (j : Int) (11 * dX i) (dY i), Int.mul_left_comm (j : Int) 11 (dX i)]
      omega
    rw [e]
    unfold c1 wk
    generalize gx k + j * dX i = u at *
    generalize gy k + j * dY i = w at *
    rw [show (11 * (u + 5) + (w + 5)) / 11 - 5 = u by omega, show (11 * (u + 5) + (w + 5)) % 11 - 5 = w by omega]
  · have e : pl1 k + j * (11 * dX i + dY i) = 11 * (gx k + j * dX i + 5) + (gy k + j * dY i + 5) := by
      unfold pl1
      rw [Int.mul_add (j : Int) (11 * dX i) (dY i), Int.mul_left_comm (j : Int) 11 (dX i)]
      omega
    rw [e]
    generalize gx k + j * dX i = u at *
    generalize gy k + j * dY i = w at *
    omega
/-- along a line: free is free -/
theorem ray_free {v : Int → Int} (h : SB1 v bb) (hb : MB bb) (hk : 0 ≤ k ∧ k < 91) (ht : 0 ≤ to ∧ to < 91) {i n : Nat} (hi : i < 12) (hn : 1 ≤ n) (hX : gx to - gx k = n * dX i) (hY : gy to - gy k = n * dY i) :
    (to = wk k i n) ∧ ((∀ j : Int, 1 ≤ j → j < n → v (pl1 k + j * (11 * dX i + dY i)) = 0) ↔ ∀ j : Nat, 1 ≤ j → j < n → wk k i j ≠ -1 ∧ bb (wk k i j) = 0) ∧ ∀ j : Int, 1 ≤ j → j < n → 0 ≤ pl1 k + j * (11 * dX i + dY i) ∧ pl1 k + j * (11 * dX i + dY i) < 121 := by
  have e1 : to = wk k i n := (to_cA ht).mpr ⟨by omega, by omega⟩
  have hw : wk k i n ≠ -1 := by rw [← e1]; omega
  have hj : ∀ j : Nat, 1 ≤ j → j < n → wk k i j ≠ -1 ∧ (v (pl1 k + j * (11 * dX i + dY i)) = 0 ↔ bb (wk k i j) = 0) ∧ (0 ≤ pl1 k + j * (11 * dX i + dY i) ∧ pl1 k + j * (11 * dX i + dY i) < 121) := by
    intro j j1 j2
    obtain ⟨w1, w2, w3⟩ := wk_mid hk hi hw (j := j) (by omega)
    refine ⟨w1, ?_, w3⟩
    rw [h _ w3, w2, if_neg w1]
    exact (sv_f hb _).1
  refine ⟨e1, ⟨fun z j j1 j2 => ⟨(hj j j1 j2).1, (hj j j1 j2).2.1.mp (z j (by omega) (by omega))⟩, fun z j j1 j2 => ?_⟩, fun j j1 j2 => ?_⟩
  · have := (hj j.toNat (by omega) (by omega)).2.1.mpr (z j.toNat (by omega) (by omega)).2
    rwa [Int.toNat_of_nonneg (by omega)] at this
  · have := (hj j.toNat (by omega) (by omega)).2.2
    rwa [Int.toNat_of_nonneg (by omega)] at this
end PSAT
