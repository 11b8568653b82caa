section PGN
variable {bb v : Int → Int} {k s t pas q its to as c x p kc i w y : Int}
theorem nd_map {f : Int → Int} {L : List Int} (h : (L.map f).Nodup) : L.Nodup := (List.pairwise_map.mp h).imp (fun hab e => hab (congrArg f e))
theorem pwP_sub (h : VB v bb) (hb : MB bb) (ht : t = 0 ∨ t = 1) {pp : Int} (hk : 0 ≤ its ∧ its < 91) : List.Sublist ((pwP v t pp (q_pl its)).map q_cel) (pr4 its t) := by
  obtain ⟨a1, a2, a3, a4⟩ := ah_fwd ht
  have hq := q_pl_nn hk
  have hp1 : 0 ≤ q_pl its + q_fwd t ∧ q_pl its + q_fwd t < 289 := by omega
  have e1 : q_cel (q_pl its + q_fwd t) = gn its (m_ah t) := by unfold gn; rw [a1]
  obtain ⟨-, s2, -⟩ := sl_cel h hb hp1 ht
  rw [e1] at s2
  have t1 : ∀ j : Int, (j = 0 ∨ j = 1) → q_cel (q_pl its + p_roM 4 j * q_fwd t) = gn its (m_tk t j) := by
    intro j hj; rw [← (tk_fwd ht hj).1]; rfl
  have tk : ∀ j : Int, (j = 0 ∨ j = 1) → List.Sublist ((if q_pl its + p_roM 4 j * q_fwd t = pp ∨ q_side (q_on v (q_pl its + p_roM 4 j * q_fwd t)) = 1 - t then [q_pl its + p_roM 4 j * q_fwd t] else []).map q_cel) [gn its (m_tk t j)] := by
    intro j hj
    split
    · rw [List.map_singleton, t1 j hj]; exact List.Sublist.refl _
    · exact List.nil_sublist _
  unfold pwP pr4
  rw [List.map_append, List.map_append, show [gn its (m_ah t), gn (gn its (m_ah t)) (m_ah t), gn its (m_tk t 0), gn its (m_tk t 1)] = [gn its (m_ah t), gn (gn its (m_ah t)) (m_ah t)] ++ ([gn its (m_tk t 0)] ++ [gn its (m_tk t 1)]) from rfl]
  refine List.Sublist.append ?_ (List.Sublist.append (tk 0 (Or.inl rfl)) (tk 1 (Or.inr rfl)))
  by_cases c1 : q_on v (q_pl its + q_fwd t) = 0
  · rw [if_pos c1, List.map_cons, e1]
    refine List.Sublist.cons_cons _ ?_
    have g := gn_pl hk a2 (s2.mp c1).1
    rw [a1] at g
    split
    · rw [List.map_singleton, ← g.1]
      have : q_cel (q_pl (gn its (m_ah t)) + q_fwd t) = gn (gn its (m_ah t)) (m_ah t) := by
        conv => rhs; rw [gn]
        rw [a1]
      rw [this]; exact List.Sublist.refl _
    · exact List.nil_sublist _
  · rw [if_neg c1]; exact List.nil_sublist _
theorem gaL_ok (h : VB v bb) (hb : MB bb) (ht : t = 0 ∨ t = 1) (hp : PS bb t pas) (hk : 0 ≤ its ∧ its < 91) : (gaL v bb t pas its).Nodup ∧ (gaL v bb t pas its).length ≤ 42 := by
  obtain ⟨f1, f2, f3⟩ := FR_ok hk
  have fin : ∀ L R : List Int, List.Sublist (L.map q_cel) R → R.Nodup → R.length ≤ 42 → L.Nodup ∧ L.length ≤ 42 := by
    intro L R h1 h2 h3
    refine ⟨nd_map (h2.sublist h1), ?_⟩
    have := h1.length_le
    rw [List.length_map] at this
    omega
  have jl : ∀ (n : Nat) (i : Int), (JR its n i).length ≤ n := by
    intro n
    induction n with
    | zero => intro i; exact Nat.le_refl _
    | succ n ih =>
      intro i
      have := ih (i + 1)
      rw [JR, List.length_append]
      split
      · rw [List.length_nil]; omega
      · rw [List.length_singleton]; omega
  have hmem := fun (x : Int) => gaL_mem (x := x) h hb ht hp hk
  revert hmem
  unfold gaL
  split
  · intro _; exact ⟨List.nodup_nil, Nat.zero_le _⟩
  split
  · intro hmem
    have hs := pwP_sub h hb ht (pp := q_pp pas) hk
    have hpw : ((pwP v t (q_pp pas) (q_pl its)).map q_cel).Pairwise (fun a b => a = -1 ∨ a ≠ b) := by
      refine List.Pairwise.sublist hs (pr4_ok _ ?_)
      have := pr4_N its.toNat (by omega) t.toNat (by omega)
      rw [Int.toNat_of_nonneg hk.1, Int.toNat_of_nonneg (by omega)] at this
      exact this
    have hnn : ((pwP v t (q_pp pas) (q_pl its)).map q_cel).Nodup := by
      refine List.Pairwise.imp_of_mem ?_ hpw
      intro a b ha _ hab
      refine hab.resolve_left ?_
      obtain ⟨x, hx, rfl⟩ := List.mem_map.mp ha
      obtain ⟨c, hc, hm⟩ := (hmem x).mp hx
      have := hm.2.1
      rw [hc, geo1 this]
      omega
    refine ⟨nd_map hnn, ?_⟩
    have := hs.length_le
    rw [List.length_map, pr4] at this
    simp only [List.length_cons, List.length_nil] at this
    omega
  split
  · intro _; exact fin _ _ (gaP_sub h hb ht hk (by omega) 12 0 (by omega) (by omega)) f1 f2
  split
  · intro _; exact fin _ _ (gaP_sub h hb ht hk (by omega) 12 0 (by omega) (by omega)) f1 f2
  split
  · intro _; exact fin _ _ ((gaP_sub h hb ht hk (by omega) 6 0 (by omega) (by omega)).trans (FR_mid its 6 6 0).2) f1 f2
  split
  · intro _; exact fin _ _ ((gaP_sub h hb ht hk (by omega) 6 6 (by omega) (by omega)).trans (FR_mid its 6 6 0).1) f1 f2
  · intro _
    have := jl 12 0
    exact fin _ _ (gaJ_sub h hb ht hk 12 0 (by omega) (by omega)) f3 (by omega)
/-- the cells of a predicate, in their order -/
noncomputable def flt (P : Int → Prop) : Nat → Int → List Int
  | 0, _ => []
  | n + 1, i => @ite _ (P i) (Classical.propDecidable (P i)) [i] [] ++ flt P n (i + 1)
theorem flt_mem (P : Int → Prop) : ∀ (n : Nat) (i : Int), x ∈ flt P n i ↔ (i ≤ x ∧ x < i + n ∧ P x)
  | 0, i => by rw [flt]; exact ⟨fun h => absurd h List.not_mem_nil, fun h => by omega⟩
  | n + 1, i => by
    rw [flt, List.mem_append, flt_mem P n (i + 1)]
    by_cases c : P i
    · rw [if_pos c, List.mem_singleton]
      constructor
      · rintro (z | z)
        · subst z; exact ⟨by omega, by omega, c⟩
        · exact ⟨by omega, by omega, z.2.2⟩
      · intro z
        by_cases d : x = i
        · exact Or.inl d
        · exact Or.inr ⟨by omega, by omega, z.2.2⟩
    · rw [if_neg c]
      constructor
      · rintro (z | z)
        · exact absurd z List.not_mem_nil
        · exact ⟨by omega, by omega, z.2.2⟩
      · intro z
        refine Or.inr ⟨?_, by omega, z.2.2⟩
        have : x ≠ i := by intro e; rw [e] at z; exact c z.2.2
        omega
theorem flt_lt (P : Int → Prop) : ∀ (n : Nat) (i : Int), (flt P n i).Pairwise (· < ·)
  | 0, _ => List.Pairwise.nil
  | n + 1, i => by
    rw [flt]
    refine List.pairwise_append.mpr ⟨?_, flt_lt P n (i + 1), ?_⟩
    · split
      · exact List.pairwise_singleton ..
      · exact List.Pairwise.nil
    · intro a ha b hb
      have := (flt_mem P n (i + 1)).mp hb
      split at ha
      · rw [List.mem_singleton] at ha; omega
      · exact absurd ha List.not_mem_nil
theorem lt_uniq : ∀ (A B : List Int), A.Pairwise (· < ·) → B.Pairwise (· < ·) → (∀ x, x ∈ A ↔ x ∈ B) → A = B
  | [], [], _, _, _ => rfl
  | [], b :: B, _, _, h => absurd ((h b).mpr List.mem_cons_self) List.not_mem_nil
  | a :: A, [], _, _, h => absurd ((h a).mp List.mem_cons_self) List.not_mem_nil
  | a :: A, b :: B, hA, hB, h => by
    rw [List.pairwise_cons] at hA hB
    have e : a = b := by
      have h1 := (h a).mp List.mem_cons_self
      have h2 := (h b).mpr List.mem_cons_self
      rcases List.mem_cons.mp h1 with h1 | h1
      · exact h1
      · rcases List.mem_cons.mp h2 with h2 | h2
        · exact h2.symm
        · have := hA.1 b h2; have := hB.1 a h1; omega
    subst e
    refine congrArg (a :: ·) (lt_uniq A B hA.2 hB.2 (fun x => ?_))
    constructor
    · intro hx
      rcases List.mem_cons.mp ((h x).mp (List.mem_cons_of_mem _ hx)) with e | e
      · have := hA.1 x hx; omega
      · exact e
    · intro hx
      rcases List.mem_cons.mp ((h x).mpr (List.mem_cons_of_mem _ hx)) with e | e
      · have := hB.1 x hx; omega
      · exact e
theorem q_monoN : ∀ k : Nat, k < 90 → q_pl (k : Int) < q_pl ((k : Int) + 1) := by decide +kernel
theorem q_mono : ∀ (n : Nat) (c : Int), 0 ≤ c → c + 1 + n < 91 → q_pl c < q_pl (c + 1 + n)
  | 0, c, h0, h1 => by
    have := q_monoN c.toNat (by omega)
    rw [Int.toNat_of_nonneg h0] at this
    rw [show c + 1 + ((0 : Nat) : Int) = c + 1 by omega]; exact this
  | n + 1, c, h0, h1 => by
    have h2 := q_mono n c h0 (by omega)
    have := q_monoN (c + 1 + n).toNat (by omega)
    rw [Int.toNat_of_nonneg (by omega)] at this
    rw [show c + 1 + ((n + 1 : Nat) : Int) = c + 1 + n + 1 by omega]
    omega
theorem q_lt (hc : 0 ≤ c ∧ c < 91) (hx : 0 ≤ x ∧ x < 91) : q_pl c < q_pl x ↔ c < x := by
  constructor
  · intro h
    by_cases e : c < x
    · exact e
    by_cases e2 : c = x
    · subst e2; omega
    have := q_mono (c - x - 1).toNat x hx.1 (by omega)
    rw [show x + 1 + ((c - x - 1).toNat : Int) = c by omega] at this
    omega
  · intro h
    have := q_mono (x - c - 1).toNat c hc.1 (by omega)
    rw [show c + 1 + ((x - c - 1).toNat : Int) = x by omega] at this
    exact this
/-- the sorted targets as cells -/
theorem sorted_eq {L' : List Int} (h : VB v bb) (hb : MB bb) (ht : t = 0 ∨ t = 1) (hp : PS bb t pas) (hk : 0 ≤ its ∧ its < 91) (hs : L'.Pairwise (· ≤ ·)) (hpm : L'.Perm (gaL v bb t pas its)) : L' = (flt (MV bb t pas its) 91 0).map q_pl := by
  obtain ⟨g1, g2⟩ := gaL_ok h hb ht hp hk
  have n1 : L'.Nodup := (hpm.nodup_iff).mpr g1
  have p1 : L'.Pairwise (· < ·) := by
    refine List.Pairwise.imp ?_ (List.Pairwise.and hs n1)
    intro a b hab; have := hab.1; have := hab.2; omega
  refine lt_uniq _ _ p1 ?_ ?_
  · refine List.pairwise_map.mpr (List.Pairwise.imp_of_mem ?_ (flt_lt _ 91 0))
    intro a b ha hb hab
    have ha := (flt_mem _ 91 0).mp ha
    have hb := (flt_mem _ 91 0).mp hb
    exact (q_lt (by omega) (by omega)).mpr hab
  · intro x
    rw [hpm.mem_iff, gaL_mem h hb ht hp hk, List.mem_map]
    constructor
    · rintro ⟨c, h1, h2⟩
      have := h2.2.1
      exact ⟨c, (flt_mem _ 91 0).mpr ⟨by omega, by omega, h2⟩, h1.symm⟩
    · rintro ⟨c, h1, h2⟩
      exact ⟨c, h2.symm, ((flt_mem _ 91 0).mp h1).2.2⟩
end PGN
