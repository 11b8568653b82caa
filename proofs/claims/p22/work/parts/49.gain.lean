section PGAIN
variable {d : Nat} {T : pT} {M M0 M1 M2 : pM} {F : pF} {b g : Nat} {bb v w : Int → Int} {k s t pas q its to as c x p kc i acc en : Int} {A Z P L Q : List Int} {n : Nat}
/-- behind play, something and undo the state is as before -/
theorem c_again (hG : GT T F g) (h : GKL M g bb t pas q) (hV : MV bb t pas its to) (has : 2 ≤ as ∧ as ≤ 5)
    (hS1 : GS M1 g (mk_bb bb pas its to as) (1 - t) (mk_ps bb its to) (mk_q bb pas q its to)) (n1 : ∀ j, j ≠ 1 → j ≠ 2 → j ≠ 3 → j ≠ 10 → j ≠ 12 → j ≠ 13 → M1 g j = M g j) (n2 : ∀ a, a ≠ g → a ≠ g + 1 → a ≠ g + 1 + 1 → a ≠ g + 5 → a ≠ g + 6 → M1 a = M a) :
    ∃ M', (∀ d, 2 ≤ d → callD d m_X1_undo [.ref g, .long (iL (q_pk bb pas q its to))] T M1 F = some (.inl none, T, M', F)) ∧ GKL M' g bb t pas q ∧ (∀ j, j ≠ 1 → j ≠ 2 → j ≠ 3 → j ≠ 10 → j ≠ 12 → j ≠ 13 → M' g j = M g j) ∧ (∀ a, a ≠ g → a ≠ g + 1 → a ≠ g + 1 + 1 → a ≠ g + 5 → a ≠ g + 6 → M' a = M a) := by
  obtain ⟨hS, h8, ⟨hl1, hl2⟩, h20, hq⟩ := h
  have hq0 := hS.2.2.2.2.2.1
  obtain ⟨M', e1, S', f1, f2⟩ := c_undoG (T := T) (F := F) hG hS.1.2.2.1 hS.1.UK hS.2.2.2.2.1 hS.PS hq0 hV has hS1
  have g1 : ∀ j, j ≠ 1 → j ≠ 2 → j ≠ 3 → j ≠ 10 → j ≠ 12 → j ≠ 13 → M' g j = M g j := fun j j1 j2 j3 j4 j5 j6 => (f1 j j1 j2 j3).trans (n1 j j1 j2 j3 j4 j5 j6)
  have g2 : ∀ a, a ≠ g → a ≠ g + 1 → a ≠ g + 1 + 1 → a ≠ g + 5 → a ≠ g + 6 → M' a = M a := fun a a1 a2 a3 a4 a5 => (f2 a a1 a2 a3).trans (n2 a a1 a2 a3 a4 a5)
  refine ⟨M', e1, ⟨S', ?_, ⟨?_, ?_⟩, h20, hq⟩, g1, g2⟩
  · rw [g1 8 (by omega) (by omega) (by omega) (by omega) (by omega) (by omega)]; exact h8
  · rw [g1 7 (by omega) (by omega) (by omega) (by omega) (by omega) (by omega)]; exact hl1
  · rw [g2 (g + 4) (by omega) (by omega) (by omega) (by omega) (by omega)]; exact hl2
end PGAIN
