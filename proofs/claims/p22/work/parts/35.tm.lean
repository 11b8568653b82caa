section PTM
variable {bb v : Int → Int} {k s t pas q its to as c x p kc i w y : Int}
theorem tk_mem (h : VB v bb) (hb : MB bb) (ht : t = 0 ∨ t = 1) (hp : PS bb t pas) (hk : 0 ≤ its ∧ its < 91) (hi : i = 0 ∨ i = 1) : (x ∈ (if q_pl its + p_roM 4 i * q_fwd t = q_pp pas ∨ q_side (q_on v (q_pl its + p_roM 4 i * q_fwd t)) = 1 - t then [q_pl its + p_roM 4 i * q_fwd t] else [])) ↔ (x = q_pl (gn its (m_tk t i)) ∧ gn its (m_tk t i) ≠ -1 ∧ (bb (gn its (m_tk t i)) ≠ 0 ∨ gn its (m_tk t i) = pas) ∧ m_side (bb (gn its (m_tk t i))) ≠ t) := by
  obtain ⟨a1, a2, a3⟩ := tk_fwd ht hi
  have hq := q_pl_nn hk
  have hr := ro2 a2
  rw [← a1]
  have hpl : 0 ≤ q_pl its + p_roM 2 (m_tk t i) ∧ q_pl its + p_roM 2 (m_tk t i) < 289 := by omega
  have e1 : q_cel (q_pl its + p_roM 2 (m_tk t i)) = gn its (m_tk t i) := rfl
  obtain ⟨s1, s2, -⟩ := sl_cel h hb hpl ht
  obtain ⟨-, -, s3⟩ := sl_cel h hb hpl (t := 1 - t) (by omega)
  rw [e1] at s1 s2 s3
  have hpr := PS_rg hp
  by_cases c : gn its (m_tk t i) = -1
  · have hon := s1.mpr c
    have hns : q_side (q_on v (q_pl its + p_roM 2 (m_tk t i))) ≠ 1 - t := by rw [hon]; unfold q_side; simp; omega
    have hnp : q_pl its + p_roM 2 (m_tk t i) ≠ q_pp pas := by
      intro z
      have := q_pp_cel hpr
      rw [← z, e1, c] at this
      unfold q_pp at z
      rw [if_pos this.symm] at z
      omega
    rw [if_neg (fun z => z.elim hnp hns)]
    simp [c]
  · have g := gn_pl hk a2 c
    rw [← g.1]
    have s3 := s3 c
    rw [← g.1] at s3
    have hpp : q_pl (gn its (m_tk t i)) = q_pp pas ↔ gn its (m_tk t i) = pas := by
      constructor
      · intro z
        have := q_pp_cel hpr
        rw [← z, geo1 g.2] at this
        exact this
      · intro z
        unfold q_pp
        rw [if_neg (by rw [← z]; exact c), z]
    have hbc := hb (gn its (m_tk t i))
    have hcond : (q_pl (gn its (m_tk t i)) = q_pp pas ∨ q_side (q_on v (q_pl (gn its (m_tk t i)))) = 1 - t) ↔ ((bb (gn its (m_tk t i)) ≠ 0 ∨ gn its (m_tk t i) = pas) ∧ m_side (bb (gn its (m_tk t i))) ≠ t) := by
      rw [hpp, s3]
      constructor
      · rintro (z | z)
        · refine ⟨Or.inr z, ?_⟩
          rcases hp with hp | ⟨p1, p2, p3, -⟩
          · omega
          · rw [z, p3]; unfold m_side; rw [if_pos rfl]; omega
        · refine ⟨Or.inl ?_, by omega⟩
          intro z2; rw [z2] at z; unfold m_side at z; rw [if_pos rfl] at z; omega
      · rintro ⟨z1 | z1, z2⟩
        · right; unfold m_side at z2 ⊢; rw [if_neg z1] at z2 ⊢; omega
        · exact Or.inl z1
    by_cases d : q_pl (gn its (m_tk t i)) = q_pp pas ∨ q_side (q_on v (q_pl (gn its (m_tk t i)))) = 1 - t
    · rw [if_pos d, List.mem_singleton]
      exact ⟨fun z => ⟨z, c, hcond.mp d⟩, fun z => z.1⟩
    · rw [if_neg d]
      exact ⟨fun z => absurd z List.not_mem_nil, fun z => absurd (hcond.mpr z.2.2) d⟩
theorem pwP_mem (h : VB v bb) (hb : MB bb) (ht : t = 0 ∨ t = 1) (hp : PS bb t pas) (hk : 0 ≤ its ∧ its < 91) : x ∈ pwP v t (q_pp pas) (q_pl its) ↔ ∃ c, 0 ≤ c ∧ c < 91 ∧ x = q_pl c ∧ MKp bb pas its c t ∧ m_side (bb c) ≠ t := by
  obtain ⟨a1, a2, a3, a4⟩ := ah_fwd ht
  have hq := q_pl_nn hk
  have hp1 : 0 ≤ q_pl its + q_fwd t ∧ q_pl its + q_fwd t < 289 := by omega
  have e1 : q_cel (q_pl its + q_fwd t) = gn its (m_ah t) := by unfold gn; rw [a1]
  obtain ⟨-, s2, -⟩ := sl_cel h hb hp1 ht
  rw [e1] at s2
  have hf := (pwB_iff (q_pl its) t).symm.trans (fst_eq hk ht)
  have m0 : ∀ {z : Int}, z = 0 → m_side z ≠ t := by intro z hz; rw [hz]; unfold m_side; rw [if_pos rfl]; omega
  unfold pwP
  rw [List.mem_append, List.mem_append, tk_mem h hb ht hp hk (Or.inl rfl), tk_mem h hb ht hp hk (Or.inr rfl)]
  have ahead : (x ∈ (if q_on v (q_pl its + q_fwd t) = 0 then (q_pl its + q_fwd t) :: (if pwB (q_pl its) t = true ∧ q_on v (q_pl its + q_fwd t + q_fwd t) = 0 then [q_pl its + q_fwd t + q_fwd t] else []) else [])) ↔ ((x = q_pl (gn its (m_ah t)) ∧ gn its (m_ah t) ≠ -1 ∧ bb (gn its (m_ah t)) = 0) ∨ (gn its (m_ah t) ≠ -1 ∧ bb (gn its (m_ah t)) = 0 ∧ m_fst its t ∧ x = q_pl (gn (gn its (m_ah t)) (m_ah t)) ∧ gn (gn its (m_ah t)) (m_ah t) ≠ -1 ∧ bb (gn (gn its (m_ah t)) (m_ah t)) = 0)) := by
    by_cases c1 : q_on v (q_pl its + q_fwd t) = 0
    · rw [if_pos c1]
      obtain ⟨d1, d2⟩ := s2.mp c1
      have g := gn_pl hk a2 d1
      rw [a1] at g
      have hq2 := q_pl_nn g.2
      have hp2 : 0 ≤ q_pl its + q_fwd t + q_fwd t ∧ q_pl its + q_fwd t + q_fwd t < 289 := by omega
      have e2 : q_cel (q_pl its + q_fwd t + q_fwd t) = gn (gn its (m_ah t)) (m_ah t) := by
        conv => rhs; unfold gn
        rw [show q_cel (q_pl its + p_roM 2 (m_ah t)) = gn its (m_ah t) from rfl, g.1, a1]
      obtain ⟨-, u2, -⟩ := sl_cel h hb hp2 ht
      rw [e2] at u2
      rw [List.mem_cons, ← g.1]
      constructor
      · rintro (z | z)
        · exact Or.inl ⟨z, d1, d2⟩
        · by_cases c2 : pwB (q_pl its) t = true ∧ q_on v (q_pl (gn its (m_ah t)) + q_fwd t) = 0
          · rw [if_pos c2, List.mem_singleton] at z
            obtain ⟨w1, w2⟩ := u2.mp (by rw [← g.1]; exact c2.2)
            have g2 := gn_pl g.2 a2 w1
            exact Or.inr ⟨d1, d2, hf.mp c2.1, by rw [z, g2.1, a1], w1, w2⟩
          · rw [if_neg c2] at z; exact absurd z List.not_mem_nil
      · rintro (z | ⟨-, -, z3, z4, z5, z6⟩)
        · exact Or.inl z.1
        · right
          have w := u2.mpr ⟨z5, z6⟩
          rw [← g.1] at w
          rw [if_pos ⟨hf.mpr z3, w⟩, List.mem_singleton, z4, (gn_pl g.2 a2 z5).1, a1]
    · rw [if_neg c1]
      constructor
      · intro z; exact absurd z List.not_mem_nil
      · rintro (z | z)
        · exact absurd (s2.mpr z.2) c1
        · exact absurd (s2.mpr ⟨z.1, z.2.1⟩) c1
  rw [ahead]
  constructor
  · rintro ((z | z) | z | z)
    · have g := gn_pl hk a2 z.2.1
      exact ⟨_, g.2.1, g.2.2, z.1, Or.inl ⟨rfl, z.2.1, z.2.2⟩, m0 z.2.2⟩
    · obtain ⟨z1, z2, z3, z4, z5, z6⟩ := z
      have g := gn_pl (gn_pl hk a2 z1).2 a2 z5
      exact ⟨_, g.2.1, g.2.2, z4, Or.inr (Or.inl ⟨z1, z2, z3, rfl, z5, z6⟩), m0 z6⟩
    · have g := gn_pl hk (tk_fwd ht (Or.inl rfl)).2.1 z.2.1
      exact ⟨_, g.2.1, g.2.2, z.1, Or.inr (Or.inr ⟨0, Or.inl rfl, rfl, z.2.1, z.2.2.1⟩), z.2.2.2⟩
    · have g := gn_pl hk (tk_fwd ht (Or.inr rfl)).2.1 z.2.1
      exact ⟨_, g.2.1, g.2.2, z.1, Or.inr (Or.inr ⟨1, Or.inr rfl, rfl, z.2.1, z.2.2.1⟩), z.2.2.2⟩
  · rintro ⟨c, c0, c1, c2, c3, c4⟩
    rcases c3 with ⟨z1, z2, z3⟩ | ⟨z1, z2, z3, z4, z5, z6⟩ | ⟨j, hj, z1, z2, z3⟩
    · subst z1; exact Or.inl (Or.inl ⟨c2, z2, z3⟩)
    · subst z4; exact Or.inl (Or.inr ⟨z1, z2, z3, c2, z5, z6⟩)
    · subst z1
      rcases hj with rfl | rfl
      · exact Or.inr (Or.inl ⟨c2, z2, z3, c4⟩)
      · exact Or.inr (Or.inr ⟨c2, z2, z3, c4⟩)
theorem gaL_mem (h : VB v bb) (hb : MB bb) (ht : t = 0 ∨ t = 1) (hp : PS bb t pas) (hk : 0 ≤ its ∧ its < 91) : x ∈ gaL v bb t pas its ↔ ∃ c, x = q_pl c ∧ MV bb t pas its c := by
  have hq := q_pl_nn hk
  have hbi := hb its
  unfold gaL
  by_cases c0 : m_side (bb its) = t
  · rw [if_neg (fun z => z c0)]
    have hmv : ∀ c, MV bb t pas its c ↔ (0 ≤ c ∧ c < 91) ∧ MK bb pas its c ∧ m_side (bb c) ≠ t := fun c => ⟨fun z => ⟨z.2.1, z.2.2.2⟩, fun z => ⟨hk, z.1, c0, z.2⟩⟩
    have hst := m_side_t hb ht c0
    have sl17 : ∀ j, 0 ≤ j → j < 12 → (x ∈ slP v t (p_roM 2 j) 17 (q_pl its + p_roM 2 j) ↔ ∃ c, 0 ≤ c ∧ c < 91 ∧ x = q_pl c ∧ onRay bb j 17 (gn its j) c ∧ m_side (bb c) ≠ t) := fun j h0 h1 => slP_mem h hb ht ⟨h0, h1⟩ 17 _ (by have := ro2 (i := j) ⟨h0, h1⟩; omega)
    have sl1 : ∀ j, 0 ≤ j → j < 12 → (x ∈ slP v t (p_roM 2 j) 1 (q_pl its + p_roM 2 j) ↔ ∃ c, 0 ≤ c ∧ c < 91 ∧ x = q_pl c ∧ onRay bb j 1 (gn its j) c ∧ m_side (bb c) ≠ t) := fun j h0 h1 => slP_mem h hb ht ⟨h0, h1⟩ 1 _ (by have := ro2 (i := j) ⟨h0, h1⟩; omega)
    by_cases c6 : bb its % 10 = 6
    · rw [if_pos c6, pwP_mem h hb ht hp hk]
      constructor
      · rintro ⟨c, z1, z2, z3, z4, z5⟩
        exact ⟨c, z3, (hmv c).mpr ⟨⟨z1, z2⟩, Or.inl ⟨c6, by rw [c0]; exact z4⟩, z5⟩⟩
      · rintro ⟨c, z3, z⟩
        obtain ⟨⟨z1, z2⟩, z4, z5⟩ := (hmv c).mp z
        refine ⟨c, z1, z2, z3, ?_, z5⟩
        rcases z4 with ⟨-, z4⟩ | ⟨y, -⟩ | ⟨y, -⟩ | ⟨y, -⟩ | ⟨y, -⟩
        · rw [c0] at z4; exact z4
        all_goals omega
    rw [if_neg c6]
    by_cases k1 : bb its % 10 = 1
    · rw [if_pos k1, gaP_mem]
      constructor
      · rintro ⟨j, j1, j2, z⟩
        obtain ⟨c, z1, z2, z3, z4, z5⟩ := (sl1 j j1 (by omega)).mp z
        obtain ⟨y1, y2⟩ := onRay1.mp z4
        exact ⟨c, z3, (hmv c).mpr ⟨⟨z1, z2⟩, Or.inr (Or.inr (Or.inr (Or.inl ⟨k1, j, j1, by omega, y2, by omega⟩))), z5⟩⟩
      · rintro ⟨c, z3, z⟩
        obtain ⟨⟨z1, z2⟩, z4, z5⟩ := (hmv c).mp z
        rcases z4 with ⟨y, -⟩ | ⟨y, -⟩ | ⟨y, -⟩ | ⟨-, j, j1, j2, j3, j4⟩ | ⟨y, -⟩
        · omega
        · omega
        · omega
        · exact ⟨j, j1, by omega, (sl1 j j1 j2).mpr ⟨c, z1, z2, z3, onRay1.mpr ⟨by rw [← j3]; exact j4, j3⟩, z5⟩⟩
        · omega
    rw [if_neg k1]
    by_cases k2 : bb its % 10 = 2
    · rw [if_pos k2, gaP_mem]
      constructor
      · rintro ⟨j, j1, j2, z⟩
        obtain ⟨c, z1, z2, z3, z4, z5⟩ := (sl17 j j1 (by omega)).mp z
        refine ⟨c, z3, (hmv c).mpr ⟨⟨z1, z2⟩, ?_, z5⟩⟩
        by_cases j6 : j < 6
        · exact Or.inr (Or.inl ⟨Or.inl k2, j, j1, j6, z4⟩)
        · exact Or.inr (Or.inr (Or.inl ⟨Or.inl k2, j, by omega, by omega, z4⟩))
      · rintro ⟨c, z3, z⟩
        obtain ⟨⟨z1, z2⟩, z4, z5⟩ := (hmv c).mp z
        rcases z4 with ⟨y, -⟩ | ⟨-, j, j1, j2, j3⟩ | ⟨-, j, j1, j2, j3⟩ | ⟨y, -⟩ | ⟨y, -⟩
        · omega
        · exact ⟨j, j1, by omega, (sl17 j j1 (by omega)).mpr ⟨c, z1, z2, z3, j3, z5⟩⟩
        · exact ⟨j, by omega, by omega, (sl17 j (by omega) j2).mpr ⟨c, z1, z2, z3, j3, z5⟩⟩
        · omega
        · omega
    rw [if_neg k2]
    by_cases k3 : bb its % 10 = 3
    · rw [if_pos k3, gaP_mem]
      constructor
      · rintro ⟨j, j1, j2, z⟩
        obtain ⟨c, z1, z2, z3, z4, z5⟩ := (sl17 j j1 (by omega)).mp z
        exact ⟨c, z3, (hmv c).mpr ⟨⟨z1, z2⟩, Or.inr (Or.inl ⟨Or.inr k3, j, j1, by omega, z4⟩), z5⟩⟩
      · rintro ⟨c, z3, z⟩
        obtain ⟨⟨z1, z2⟩, z4, z5⟩ := (hmv c).mp z
        rcases z4 with ⟨y, -⟩ | ⟨-, j, j1, j2, j3⟩ | ⟨y, -⟩ | ⟨y, -⟩ | ⟨y, -⟩
        · omega
        · exact ⟨j, j1, by omega, (sl17 j j1 (by omega)).mpr ⟨c, z1, z2, z3, j3, z5⟩⟩
        all_goals omega
    rw [if_neg k3]
    by_cases k4 : bb its % 10 = 4
    · rw [if_pos k4, gaP_mem]
      constructor
      · rintro ⟨j, j1, j2, z⟩
        obtain ⟨c, z1, z2, z3, z4, z5⟩ := (sl17 j (by omega) (by omega)).mp z
        exact ⟨c, z3, (hmv c).mpr ⟨⟨z1, z2⟩, Or.inr (Or.inr (Or.inl ⟨Or.inr k4, j, j1, by omega, z4⟩)), z5⟩⟩
      · rintro ⟨c, z3, z⟩
        obtain ⟨⟨z1, z2⟩, z4, z5⟩ := (hmv c).mp z
        rcases z4 with ⟨y, -⟩ | ⟨y, -⟩ | ⟨-, j, j1, j2, j3⟩ | ⟨y, -⟩ | ⟨y, -⟩
        · omega
        · omega
        · exact ⟨j, j1, by omega, (sl17 j (by omega) j2).mpr ⟨c, z1, z2, z3, j3, z5⟩⟩
        all_goals omega
    rw [if_neg k4, gaP_mem]
    have k5 : bb its % 10 = 5 := by omega
    constructor
    · rintro ⟨j, j1, j2, z⟩
      obtain ⟨z1, z2, z3⟩ := (jmp_mem h hb ht hk ⟨j1, by omega⟩).mp z
      have hgj := gj_rg hk (i := j) ⟨j1, by omega⟩
      exact ⟨_, z1, (hmv _).mpr ⟨by omega, Or.inr (Or.inr (Or.inr (Or.inr ⟨k5, j, j1, by omega, rfl, z2⟩))), z3⟩⟩
    · rintro ⟨c, z3, z⟩
      obtain ⟨⟨z1, z2⟩, z4, z5⟩ := (hmv c).mp z
      rcases z4 with ⟨y, -⟩ | ⟨y, -⟩ | ⟨y, -⟩ | ⟨y, -⟩ | ⟨-, j, j1, j2, j3, j4⟩
      · omega
      · omega
      · omega
      · omega
      · subst j3
        exact ⟨j, j1, by omega, (jmp_mem h hb ht hk ⟨j1, j2⟩).mpr ⟨z3, j4, z5⟩⟩
  · rw [if_pos c0]
    constructor
    · intro z; exact absurd z List.not_mem_nil
    · rintro ⟨c, -, z⟩; exact absurd z.2.2.1 c0
end PTM
