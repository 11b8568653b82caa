section PH5
variable {d : Nat} {T : pT} {M : pM} {F : pF} {bd lg N : Nat} {p s k : Int}
theorem sm_rg {f : Int → Int} {a b : Int} (h : ∀ i, a ≤ f i ∧ f i ≤ b) : ∀ n : Nat, a * n ≤ sm f n ∧ sm f n ≤ b * n
  | 0 => by simp [sm]
  | n + 1 => by
    have h1 := sm_rg h n
    have h2 := h (n : Int)
    have e1 : a * ((n + 1 : Nat) : Int) = a * n + a := by rw [Int.natCast_add, Int.mul_add]; simp
    have e2 : b * ((n + 1 : Nat) : Int) = b * n + b := by rw [Int.natCast_add, Int.mul_add]; simp
    unfold sm
    omega
theorem bI_rg (c : Prop) : 0 ≤ bI c ∧ bI c ≤ 1 := by rcases bI_cases c with h | h <;> omega
theorem m_att_rg (b : Int → Int) (k s : Int) : 0 ≤ m_att b k s ∧ m_att b k s ≤ 100 := by
  have h1 := sm_rg (f := m_sl b k s) (a := 0) (b := 1) (fun i => bI_rg _) 12
  have h2 := sm_rg (f := m_kk b k s) (a := 0) (b := 2) (fun i => by
    have h3 := bI_rg (m_on b (gn k i) = 10 * s + 1)
    have h4 := bI_rg (m_on b (gj k i) = 10 * s + 5)
    unfold m_kk; omega) 12
  have h3 := sm_rg (f := m_pn b k s) (a := 0) (b := 1) (fun i => bI_rg _) 2
  unfold m_att
  omega
def m_chk (b : Int → Int) (s : Int) : Prop := 0 < m_att b (m_king b s) (1 - s)
def m_ply (b : Int → Int) (t : Int) : Prop := m_king b 0 ≠ -1 ∧ m_king b 1 ≠ -1 ∧ ¬ m_chk b (1 - t)
end PH5
