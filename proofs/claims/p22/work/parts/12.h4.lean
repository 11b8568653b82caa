section PH4
variable {d : Nat} {T : pT} {M : pM} {F : pF} {bd lg N : Nat} {p s k : Int}
theorem m_kg_rg {b : Int → Int} {s : Int} : ∀ (n : Nat) (k : Int), 0 ≤ k → k + n ≤ 91 → m_kg b s n k = -1 ∨ (k ≤ m_kg b s n k ∧ m_kg b s n k < k + n ∧ b (m_kg b s n k) = 10 * s + 1)
  | 0, k, h0, h => Or.inl rfl
  | n + 1, k, h0, h => by
    unfold m_kg
    by_cases e : b k = 10 * s + 1
    · rw [if_pos e]; exact Or.inr ⟨by omega, by omega, e⟩
    · rw [if_neg e]
      rcases m_kg_rg (b := b) (s := s) n (k + 1) (by omega) (by omega) with h1 | h1
      · exact Or.inl h1
      · exact Or.inr ⟨by omega, by omega, h1.2.2⟩
theorem m_king_rg (b : Int → Int) (s : Int) : m_king b s = -1 ∨ (0 ≤ m_king b s ∧ m_king b s < 91 ∧ b (m_king b s) = 10 * s + 1) := by
  have h := m_kg_rg (b := b) (s := s) 91 0 (by omega) (by omega)
  simpa [m_king] using h
end PH4
