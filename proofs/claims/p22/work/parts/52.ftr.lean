section PFTR
/-- what trying moves leaves alone -/
def FTr (M M' : pM) (g : Nat) : Prop := (∀ j, j ≠ 1 → j ≠ 2 → j ≠ 3 → j ≠ 10 → j ≠ 12 → j ≠ 13 → M' g j = M g j) ∧ (∀ a, a ≠ g → a ≠ g + 1 → a ≠ g + 1 + 1 → a ≠ g + 5 → a ≠ g + 6 → M' a = M a)
end PFTR
