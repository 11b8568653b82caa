section PTL
/-! the targets are the marks -/
variable {bb v : Int → Int} {k s t pas q its to as c x p kc i w y : Int}
theorem sl_cel (h : VB v bb) (hb : MB bb) (hp : 0 ≤ p ∧ p < 289) (ht : t = 0 ∨ t = 1) : (q_on v p = -1 ↔ q_cel p = -1) ∧ (q_on v p = 0 ↔ (q_cel p ≠ -1 ∧ bb (q_cel p) = 0)) ∧ (q_cel p ≠ -1 → (q_side (q_on v p) = t ↔ m_side (bb (q_cel p)) = t)) := by
  have hon := h.on hb hp
  have hbc := hb (q_cel p)
  have hcs := cm_side hb (q_cel p) ht
  rw [← hon] at hcs
  refine ⟨?_, ?_, fun e => ?_⟩
  · rw [hon]; unfold cm m_on cv
    constructor
    · intro z; (repeat' split at z) <;> first | assumption | omega
    · intro z; rw [if_pos z]; rfl
  · rw [hon]; unfold cm m_on cv
    constructor
    · intro z; (repeat' split at z) <;> first | (refine ⟨by assumption, ?_⟩; omega) | omega
    · rintro ⟨z1, z2⟩; rw [if_neg z1, z2]; rfl
  · rw [hcs]
    have : m_on bb (q_cel p) = bb (q_cel p) := if_neg e
    rw [this]
    exact ⟨fun z => z.2, fun z => ⟨e, z⟩⟩
theorem offL_mem (h : VB v bb) (hb : MB bb) (hp : 0 ≤ p ∧ p < 289) (ht : t = 0 ∨ t = 1) : x ∈ offL v t p ↔ (x = p ∧ q_cel p ≠ -1 ∧ m_side (bb (q_cel p)) ≠ t) := by
  obtain ⟨e1, e2, e3⟩ := sl_cel h hb hp ht
  unfold offL
  by_cases c : q_cel p = -1
  · rw [if_neg (fun z => z.1 (e1.mpr c))]
    simp [c]
  · have e3 := e3 c
    by_cases d : m_side (bb (q_cel p)) = t
    · rw [if_neg (fun z => z.2 (e3.mpr d))]
      simp [d]
    · rw [if_pos ⟨fun z => c (e1.mp z), fun z => d (e3.mp z)⟩]
      simp [c, d]
theorem slP_mem (h : VB v bb) (hb : MB bb) (ht : t = 0 ∨ t = 1) (hi : 0 ≤ i ∧ i < 12) : ∀ (n : Nat) (p : Int), 0 ≤ p ∧ p < 289 → (x ∈ slP v t (p_roM 2 i) n p ↔ ∃ c, 0 ≤ c ∧ c < 91 ∧ x = q_pl c ∧ onRay bb i n (q_cel p) c ∧ m_side (bb c) ≠ t)
  | 0, p, hp => by
    unfold slP onRay
    simp
  | n + 1, p, hp => by
    obtain ⟨e1, e2, e3⟩ := sl_cel h hb hp ht
    have hr := ro2 hi
    rw [slP, List.mem_append, offL_mem h hb hp ht]
    by_cases c : q_cel p = -1
    · have e0 : ¬ q_on v p = 0 := fun z => (e2.mp z).1 c
      rw [if_neg e0]
      constructor
      · rintro (⟨-, z, -⟩ | z)
        · exact absurd c z
        · exact absurd z List.not_mem_nil
      · rintro ⟨c', c1, c2, c3, c4, c5⟩
        rw [onRay] at c4
        exact absurd c c4.1
    · obtain ⟨g1, g2, g3⟩ := (geo2 hp).resolve_left c
      have hq := q_pl_nn ⟨g1, g2⟩
      have ih := slP_mem h hb ht hi n (p + p_roM 2 i) (by omega)
      have e9 : q_cel (p + p_roM 2 i) = gn (q_cel p) i := by unfold gn; rw [g3]
      rw [e9] at ih
      constructor
      · rintro (⟨z1, z2, z3⟩ | z)
        · exact ⟨q_cel p, g1, g2, by rw [z1, g3], by rw [onRay]; exact ⟨c, Or.inl rfl⟩, z3⟩
        · by_cases d : q_on v p = 0
          · rw [if_pos d] at z
            obtain ⟨c', c1, c2, c3, c4, c5⟩ := ih.mp z
            exact ⟨c', c1, c2, c3, by rw [onRay]; exact ⟨c, Or.inr ⟨(e2.mp d).2, c4⟩⟩, c5⟩
          · rw [if_neg d] at z; exact absurd z List.not_mem_nil
      · rintro ⟨c', c1, c2, c3, c4, c5⟩
        rw [onRay] at c4
        rcases c4.2 with z | ⟨z1, z2⟩
        · left; rw [z] at c3 c5; exact ⟨by rw [c3, g3], c, c5⟩
        · right
          rw [if_pos (e2.mpr ⟨c, z1⟩)]
          exact ih.mpr ⟨c', c1, c2, c3, z2, c5⟩
theorem gaP_mem {A rc : Nat} : ∀ (n : Nat) (i : Int), x ∈ gaP v t A rc p n i ↔ ∃ j, i ≤ j ∧ j < i + n ∧ x ∈ slP v t (p_roM A j) rc (p + p_roM A j)
  | 0, i => by
    unfold gaP
    constructor
    · intro z; exact absurd z List.not_mem_nil
    · rintro ⟨j, j1, j2, -⟩; omega
  | n + 1, i => by
    rw [gaP, List.mem_append, gaP_mem n (i + 1)]
    constructor
    · rintro (z | ⟨j, j1, j2, j3⟩)
      · exact ⟨i, by omega, by omega, z⟩
      · exact ⟨j, by omega, by omega, j3⟩
    · rintro ⟨j, j1, j2, j3⟩
      by_cases e : j = i
      · left; rw [← e]; exact j3
      · right; exact ⟨j, by omega, by omega, j3⟩
theorem onRay1 : onRay bb i 1 c to ↔ (c ≠ -1 ∧ to = c) := by
  unfold onRay onRay
  simp
theorem jmp_mem (h : VB v bb) (hb : MB bb) (ht : t = 0 ∨ t = 1) (hk : 0 ≤ its ∧ its < 91) (hi : 0 ≤ i ∧ i < 12) : x ∈ slP v t (p_roM 3 i) 1 (q_pl its + p_roM 3 i) ↔ (x = q_pl (gj its i) ∧ gj its i ≠ -1 ∧ m_side (bb (gj its i)) ≠ t) := by
  have hq := q_pl_nn hk
  have hr := ro3 hi
  have hp : 0 ≤ q_pl its + p_roM 3 i ∧ q_pl its + p_roM 3 i < 289 := by omega
  rw [slP, slP]
  have e : (if q_on v (q_pl its + p_roM 3 i) = 0 then ([] : List Int) else []) = [] := by split <;> rfl
  rw [e, List.append_nil, offL_mem h hb hp ht]
  have e1 : q_cel (q_pl its + p_roM 3 i) = gj its i := rfl
  rw [e1]
  constructor
  · rintro ⟨z1, z2, z3⟩
    have := (geo2 hp).resolve_left (by rw [e1]; exact z2)
    rw [e1] at this
    exact ⟨by rw [z1, this.2.2], z2, z3⟩
  · rintro ⟨z1, z2, z3⟩
    have := (geo2 hp).resolve_left (by rw [e1]; exact z2)
    rw [e1] at this
    exact ⟨by rw [z1, this.2.2], z2, z3⟩
end PTL
