section PPLY
variable {bb : Int → Int} {k s t pas q its to as c x p i z : Int}
def inv (i : Int) : Int := (if i < 6 then 0 else 6) + (i + 3) % 6
def invB (k i : Int) : Bool := (gn k i == -1 || gn (gn k i) (inv i) == k) && (gj k i == -1 || gj (gj k i) ((i + 6) % 12) == k)
set_option maxRecDepth 20000 in
theorem inv_N : ∀ k : Nat, k < 91 → ∀ i : Nat, i < 12 → invB (k : Int) (i : Int) = true := by decide +kernel
theorem inv_ok (hk : 0 ≤ k ∧ k < 91) (hi : 0 ≤ i ∧ i < 12) : (gn k i ≠ -1 → gn (gn k i) (inv i) = k) ∧ (gj k i ≠ -1 → gj (gj k i) ((i + 6) % 12) = k) := by
  have h := inv_N k.toNat (by omega) i.toNat (by omega)
  rw [Int.toNat_of_nonneg hk.1, Int.toNat_of_nonneg hi.1] at h
  unfold invB at h
  simp only [Bool.and_eq_true, Bool.or_eq_true, beq_iff_eq] at h
  exact ⟨fun z => h.1.resolve_left z, fun z => h.2.resolve_left z⟩
theorem inv_rg (hi : 0 ≤ i ∧ i < 12) : (0 ≤ inv i ∧ inv i < 12) ∧ (inv i < 6 ↔ i < 6) := by unfold inv; split <;> omega
theorem onRay_rev (hi : 0 ≤ i ∧ i < 12) : ∀ (n : Nat) (z : Int), 0 ≤ z ∧ z < 91 → onRay bb i n (gn z i) to → ∃ m, m < n ∧ ∀ r, rayC bb (inv i) (m + r) (gn to (inv i)) = rayC bb (inv i) r z
  | 0, z, _, h => absurd h (fun h => h)
  | n + 1, z, hz, h => by
    rw [onRay] at h
    obtain ⟨h1, h2⟩ := h
    have hc := gn_rg hz hi
    have hb := (inv_ok hz hi).1 h1
    rcases h2 with h2 | ⟨h2, h3⟩
    · refine ⟨0, by omega, fun r => ?_⟩
      rw [h2, hb, Nat.zero_add]
    · obtain ⟨m, m1, m2⟩ := onRay_rev hi n (gn z i) (by omega) h3
      refine ⟨m + 1, by omega, fun r => ?_⟩
      have e : rayC bb (inv i) (r + 1) (gn z i) = rayC bb (inv i) r z := by
        rw [rayC, if_neg (fun y => y.elim h1 (fun y => y h2)), hb]
      have := m2 (r + 1)
      rw [e] at this
      rw [show m + 1 + r = m + (r + 1) by omega]
      exact this
theorem ray_back (hi : 0 ≤ i ∧ i < 12) (hk : 0 ≤ its ∧ its < 91) (h0 : bb its ≠ 0) (h : onRay bb i 17 (gn its i) to) : rayC bb (inv i) 16 (gn to (inv i)) = its := by
  obtain ⟨m, m1, m2⟩ := onRay_rev hi 17 its hk h
  have h1 := m2 0
  rw [rayC] at h1
  exact rayC_more m _ h1 (Or.inr h0) 16 (by omega)
/-- a move to a piece is an attack on it -/
theorem mv_att (ht : t = 0 ∨ t = 1) (hb : MB bb) (hp : PS bb t pas) (h : MV bb t pas its to) (h0 : bb to ≠ 0) : m_att bb to t ≠ 0 := by
  intro ha
  obtain ⟨z1, z2, z3⟩ := att_zero.mp ha
  obtain ⟨hk, ho, hs, hm, hn⟩ := h
  have hst := m_side_t hb ht hs
  have hne : bb its ≠ 0 := by omega
  have on : m_on bb its = bb its := by unfold m_on; rw [if_neg (by omega)]
  rcases hm with ⟨k6, hm⟩ | ⟨kk, i, i0, i1, hr⟩ | ⟨kk, i, i0, i1, hr⟩ | ⟨kk, i, i0, i1, hr, hr1⟩ | ⟨kk, i, i0, i1, hr, hr1⟩
  · rw [hs] at hm
    rcases hm with ⟨-, -, y⟩ | ⟨-, -, -, -, -, y⟩ | ⟨i, hi, y1, y2, -⟩
    · exact h0 y
    · exact h0 y
    · have t1 := tk_fwd ht hi
      have e := (inv_ok hk t1.2.1).1 (by rw [← y1]; exact y2)
      have ei : inv (m_tk t i) = m_tk (1 - t) i := by
        rcases ht with rfl | rfl <;> rcases hi with rfl | rfl <;> decide
      rw [ei, ← y1] at e
      have := z3 i (by omega) (by omega)
      unfold m_st at this
      rw [if_neg (by omega), e, on] at this
      omega
  · have hi : 0 ≤ i ∧ i < 12 := ⟨i0, by omega⟩
    have hv := inv_rg hi
    have := z1 (inv i) hv.1.1 hv.1.2
    rw [ray_back hi hk hne hr, on] at this
    refine this ?_
    unfold slv
    rw [if_pos (hv.2.mpr i1)]
    omega
  · have hi : 0 ≤ i ∧ i < 12 := ⟨by omega, i1⟩
    have hv := inv_rg hi
    have := z1 (inv i) hv.1.1 hv.1.2
    rw [ray_back hi hk hne hr, on] at this
    refine this ?_
    unfold slv
    rw [if_neg (fun y => by have := hv.2.mp y; omega)]
    omega
  · have hv := inv_rg ⟨i0, i1⟩
    have e := (inv_ok hk ⟨i0, i1⟩).1 (by rw [← hr]; exact hr1)
    have := (z2 (inv i) hv.1.1 hv.1.2).1
    rw [hr, e, on] at this
    omega
  · have e := (inv_ok hk ⟨i0, i1⟩).2 (by rw [← hr]; exact hr1)
    have := (z2 ((i + 6) % 12) (by omega) (by omega)).2
    rw [hr, e, on] at this
    omega
end PPLY
