section PWCL
variable {d : Nat} {T : pT} {M M0 M1 M2 : pM} {F : pF} {w n : Nat} {k c m kd a i p : Int} {S : WSt}
/-- the class's walk: its cells, its state -/
def WT (T : pT) (F : pF) (w : Nat) : Prop := 100 ≤ w ∧ p_ty T w = (16, 4) ∧ F w 0 = some (w + 1) ∧ BT T F (w + 1) ∧ p_ty T (w + 3) = (1, 289) ∧ F w 1 = some (w + 3) ∧ p_ty T (w + 4) = (1, 91) ∧ F w 2 = some (w + 4)
def WS (M : pM) (w : Nat) (S : WSt) : Prop := (∀ c, 0 ≤ c → c < 91 → M (w + 3) (q_pl c) = S.1 c) ∧ M w 3 = S.2.length ∧ ∀ j : Nat, j < S.2.length → M (w + 4) (j : Int) = q_pl (S.2.getD j 0)
def FW (M M' : pM) (w : Nat) : Prop := ∀ a, a ≠ w → a ≠ w + 3 → a ≠ w + 4 → M' a = M a
theorem FW.rf : FW M M w := fun _ _ _ _ => rfl
theorem FW.tr (h1 : FW M M1 w) (h2 : FW M1 M2 w) : FW M M2 w := fun a a1 a2 a3 => (h2 a a1 a2 a3).trans (h1 a a1 a2 a3)
end PWCL
