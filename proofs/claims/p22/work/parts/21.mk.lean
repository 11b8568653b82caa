section PMK
/-! making a move -/
variable {bb : Int → Int} {k s t pas q its to as i c : Int}
theorem gn_pl (hk : 0 ≤ k ∧ k < 91) (hi : 0 ≤ i ∧ i < 12) (h : gn k i ≠ -1) : q_pl (gn k i) = q_pl k + p_roM 2 i ∧ 0 ≤ gn k i ∧ gn k i < 91 := by
  have hq := q_pl_nn hk
  have hr := ro2 hi
  have h1 := geo2 (p := q_pl k + p_roM 2 i) (by omega)
  unfold gn at h ⊢
  rcases h1 with h1 | ⟨h1, h2, h3⟩
  · exact absurd h1 h
  · exact ⟨h3, h1, h2⟩
theorem gn_of (hk : 0 ≤ k ∧ k < 91) (hc : 0 ≤ c ∧ c < 91) (h : q_pl c = q_pl k + p_roM 2 i) : gn k i = c := by
  unfold gn; rw [← h, geo1 hc]
theorem ah_fwd (hs : s = 0 ∨ s = 1) : p_roM 2 (m_ah s) = q_fwd s ∧ (0 ≤ m_ah s ∧ m_ah s < 12) ∧ q_fwd (1 - s) = - q_fwd s ∧ (q_fwd s = 1 ∨ q_fwd s = -1) := by
  rcases hs with rfl | rfl <;> decide +kernel
theorem tk_fwd (hs : s = 0 ∨ s = 1) (hi : i = 0 ∨ i = 1) : p_roM 2 (m_tk s i) = p_roM 4 i * q_fwd s ∧ (0 ≤ m_tk s i ∧ m_tk s i < 12) ∧ (p_roM 4 i * q_fwd s = 17 ∨ p_roM 4 i * q_fwd s = -16 ∨ p_roM 4 i * q_fwd s = -17 ∨ p_roM 4 i * q_fwd s = 16) := by
  rcases hs with rfl | rfl <;> rcases hi with rfl | rfl <;> decide +kernel
/-- the coordinates of a cell one step on -/
theorem gxy_ah (hk : 0 ≤ k ∧ k < 91) (hs : s = 0 ∨ s = 1) (h : gn k (m_ah s) ≠ -1) : gx (gn k (m_ah s)) = gx k ∧ gy (gn k (m_ah s)) = gy k + q_fwd s := by
  obtain ⟨a1, a2, a3, a4⟩ := ah_fwd hs
  obtain ⟨h1, h2⟩ := gn_pl hk a2 h
  have g1 := (gxy_rg hk).2
  unfold gx gy at *
  rw [h1, a1]
  omega
theorem gxy_tk (hk : 0 ≤ k ∧ k < 91) (hs : s = 0 ∨ s = 1) (hi : i = 0 ∨ i = 1) (h : gn k (m_tk s i) ≠ -1) : gx (gn k (m_tk s i)) ≠ gx k := by
  obtain ⟨a1, a2, a3⟩ := tk_fwd hs hi
  obtain ⟨h1, h2⟩ := gn_pl hk a2 h
  have g1 := (gxy_rg hk).2
  unfold gx gy at *
  rw [h1, a1]
  omega
theorem gn_back (hk : 0 ≤ k ∧ k < 91) (hs : s = 0 ∨ s = 1) (h : gn k (m_ah s) ≠ -1) : gn (gn k (m_ah s)) (m_ah (1 - s)) = k := by
  obtain ⟨a1, a2, a3, a4⟩ := ah_fwd hs
  obtain ⟨h1, h2⟩ := gn_pl hk a2 h
  obtain ⟨b1, -⟩ := ah_fwd (s := 1 - s) (by omega)
  exact gn_of h2 hk (by rw [h1, a1, b1, a3]; omega)
theorem fst_eq (hk : 0 ≤ k ∧ k < 91) (hs : s = 0 ∨ s = 1) : q_fst (q_pl k) s ↔ m_fst k s := by
  have g := gxy_rg hk
  unfold q_fst m_fst
  have e1 : q_pl k / 17 - 8 = gx k := rfl
  have e2 : q_pl k % 17 - 8 = gy k := rfl
  rw [e1, e2]
  rcases hs with rfl | rfl
  · rw [show q_fwd 0 = 1 from rfl, if_pos rfl, Int.mul_one, Int.mul_one]
  · rw [show q_fwd 1 = -1 from rfl, if_neg (show ¬ (1 : Int) = 0 by decide)]
    constructor
    · rintro ⟨z1, z2, z3⟩
      refine ⟨by omega, by omega, ?_⟩
      split at z3 <;> split <;> omega
    · rintro ⟨z1, z2, z3⟩
      refine ⟨by omega, by omega, ?_⟩
      split at z3 <;> split <;> omega
/-- where the pawns may go, by the marks -/
def MKp (bb : Int → Int) (pas its to s : Int) : Prop :=
  (to = gn its (m_ah s) ∧ to ≠ -1 ∧ bb to = 0) ∨
  (gn its (m_ah s) ≠ -1 ∧ bb (gn its (m_ah s)) = 0 ∧ m_fst its s ∧ to = gn (gn its (m_ah s)) (m_ah s) ∧ to ≠ -1 ∧ bb to = 0) ∨
  (∃ i, (i = 0 ∨ i = 1) ∧ to = gn its (m_tk s i) ∧ to ≠ -1 ∧ (bb to ≠ 0 ∨ to = pas))
/-- cells on a way, up to the first that is taken -/
def onRay (bb : Int → Int) (i : Int) : Nat → Int → Int → Prop
  | 0, _, _ => False
  | n + 1, c, to => c ≠ -1 ∧ (to = c ∨ (bb c = 0 ∧ onRay bb i n (gn c i) to))
/-- the marks of the piece on its -/
def MK (bb : Int → Int) (pas its to : Int) : Prop :=
  (bb its % 10 = 6 ∧ MKp bb pas its to (m_side (bb its))) ∨
  ((bb its % 10 = 2 ∨ bb its % 10 = 3) ∧ ∃ i, 0 ≤ i ∧ i < 6 ∧ onRay bb i 17 (gn its i) to) ∨
  ((bb its % 10 = 2 ∨ bb its % 10 = 4) ∧ ∃ i, 6 ≤ i ∧ i < 12 ∧ onRay bb i 17 (gn its i) to) ∨
  (bb its % 10 = 1 ∧ ∃ i, 0 ≤ i ∧ i < 12 ∧ to = gn its i ∧ to ≠ -1) ∨
  (bb its % 10 = 5 ∧ ∃ i, 0 ≤ i ∧ i < 12 ∧ to = gj its i ∧ to ≠ -1)
def mk_pl (bb : Int → Int) (pas its to : Int) : Int := if bb its % 10 = 6 ∧ to = pas ∧ bb to = 0 ∧ gx its ≠ gx to then gn to (m_ah (1 - m_side (bb its))) else to
def mk_be (bb : Int → Int) (its to : Int) : Prop := bb its % 10 = 6 ∧ gn to (m_ah (m_side (bb its))) = -1
def mk_th (bb : Int → Int) (its to as : Int) : Int := if bb its % 10 = 6 ∧ gn to (m_ah (m_side (bb its))) = -1 then 10 * m_side (bb its) + as else bb its
def mk_bb (bb : Int → Int) (pas its to as : Int) : Int → Int := u1 (u1 (u1 bb (mk_pl bb pas its to) 0) its 0) to (mk_th bb its to as)
def mk_ps (bb : Int → Int) (its to : Int) : Int := if bb its % 10 = 6 ∧ gx its = gx to ∧ (gy to - gy its = 2 ∨ gy to - gy its = -2) then m_st its (m_ah (m_side (bb its))) else -1
def mk_q (bb : Int → Int) (pas q its to : Int) : Int := if bb its % 10 = 6 ∨ bb (mk_pl bb pas its to) ≠ 0 then 0 else q + 1
def PS (bb : Int → Int) (t pas : Int) : Prop := pas = -1 ∨ (0 ≤ pas ∧ pas < 91 ∧ bb pas = 0 ∧ 0 ≤ gn pas (m_ah (1 - t)) ∧ bb (gn pas (m_ah (1 - t))) = 10 * (1 - t) + 6)
/-- a move's cells -/
def MV (bb : Int → Int) (t pas its to : Int) : Prop := (0 ≤ its ∧ its < 91) ∧ (0 ≤ to ∧ to < 91) ∧ m_side (bb its) = t ∧ MK bb pas its to ∧ m_side (bb to) ≠ t
theorem m_side_t (hb : MB bb) (ht : t = 0 ∨ t = 1) (h : m_side (bb k) = t) : 10 * t + 1 ≤ bb k ∧ bb k ≤ 10 * t + 6 := by
  have := hb k
  unfold m_side at h
  split at h <;> omega
/-- a pawn that goes to the passing cell takes there -/
theorem mk_pl_iff (hb : MB bb) (ht : t = 0 ∨ t = 1) (hp : PS bb t pas) (h : MV bb t pas its to) (hpas : to = pas) (h6 : bb its % 10 = 6) : bb to = 0 ∧ gx its ≠ gx to := by
  obtain ⟨h1, h2, h3, h4, h5⟩ := h
  have hst := m_side_t hb ht h3
  subst hpas
  rcases hp with hp | ⟨p1, p2, p3, p4, p5⟩
  · omega
  refine ⟨p3, ?_⟩
  have hm : MKp bb to its to t := by
    rcases h4 with ⟨-, h4⟩ | ⟨z, -⟩ | ⟨z, -⟩ | ⟨z, -⟩ | ⟨z, -⟩
    · rw [h3] at h4; exact h4
    all_goals omega
  obtain ⟨a1, a2, a3, a4⟩ := ah_fwd ht
  rcases hm with ⟨m1, m2, m3⟩ | ⟨m1, m2, m3, m4, m5, m6⟩ | ⟨i, hi, m1, m2, m3⟩
  · exfalso
    have := gn_back h1 ht (by rw [← m1]; exact m2)
    rw [← m1] at this
    rw [this] at p5
    omega
  · exfalso
    have g := gn_pl h1 a2 m1
    have := gn_back (k := gn its (m_ah t)) g.2 ht (by rw [← m4]; exact m5)
    rw [← m4] at this
    rw [this, m2] at p5
    omega
  · have := gxy_tk h1 ht hi (by rw [← m1]; exact m2)
    rw [← m1] at this
    exact fun z => this z.symm
theorem mk_pl_rg (hb : MB bb) (ht : t = 0 ∨ t = 1) (hp : PS bb t pas) (h : MV bb t pas its to) : (0 ≤ mk_pl bb pas its to ∧ mk_pl bb pas its to < 91) ∧ mk_pl bb pas its to ≠ its ∧ (mk_pl bb pas its to ≠ to → bb to = 0 ∧ bb (mk_pl bb pas its to) = 10 * (1 - t) + 6) := by
  have hh := h
  obtain ⟨h1, h2, h3, h4, h5⟩ := h
  have hst := m_side_t hb ht h3
  have hne : to ≠ its := by intro z; rw [z] at h5; exact h5 h3
  unfold mk_pl
  by_cases c : bb its % 10 = 6 ∧ to = pas ∧ bb to = 0 ∧ gx its ≠ gx to
  · rw [if_pos c]
    obtain ⟨c1, c2, c3, c4⟩ := c
    subst c2
    rcases hp with hp | ⟨p1, p2, p3, p4, p5⟩
    · omega
    rw [h3]
    have g := gn_pl h2 (ah_fwd (s := 1 - t) (by omega)).2.1 (by omega : gn to (m_ah (1 - t)) ≠ -1)
    refine ⟨g.2, ?_, fun _ => ⟨c3, p5⟩⟩
    intro z
    rw [z] at p5
    omega
  · rw [if_neg c]
    exact ⟨h2, hne, fun z => absurd rfl z⟩
end PMK
