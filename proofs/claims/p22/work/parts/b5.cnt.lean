section PCNT
/-! how many attack: over cells, and over rays -/
variable {d b n : Nat} {bb : Int → Int} {k t pas q its to as i c p x y X Y mv side f g s : Int}
/-- sums -/
theorem sm_bI1 {P : Int → Prop} : ∀ n : Nat, (∀ i j : Int, 0 ≤ i → i < n → 0 ≤ j → j < n → P i → P j → i = j) → sm (fun i => bI (P i)) n = bI (∃ i : Int, 0 ≤ i ∧ i < n ∧ P i)
  | 0, _ => by
    rw [bI_f (by rintro ⟨i, h1, h2, -⟩; omega)]
    rfl
  | n + 1, hu => by
    rw [show sm (fun i => bI (P i)) (n + 1) = sm (fun i => bI (P i)) n + bI (P n) from rfl, sm_bI1 n (fun i j i0 i1 j0 j1 => hu i j i0 (by omega) j0 (by omega))]
    by_cases c : P n
    · rw [bI_t c, bI_f (by rintro ⟨i, h1, h2, h3⟩; have := hu _ _ h1 (by omega) (by omega) (by omega) h3 c; omega), bI_t ⟨(n : Int), by omega, by omega, c⟩]; rfl
    · rw [bI_f c, Int.add_zero]
      refine bI_iff ⟨?_, ?_⟩
      · rintro ⟨i, h1, h2, h3⟩; exact ⟨i, h1, by omega, h3⟩
      · rintro ⟨i, h1, h2, h3⟩
        refine ⟨i, h1, ?_, h3⟩
        have : i ≠ n := fun z => c (z ▸ h3)
        omega
theorem sm_swap {f : Int → Int → Int} (m : Nat) : ∀ n : Nat, sm (fun i => sm (f i) m) n = sm (fun k => sm (fun i => f i k) n) m
  | 0 => (sm_zero (f := fun _ => 0) m (fun _ _ _ => rfl)).symm
  | n + 1 => by
    rw [show sm (fun i => sm (f i) m) (n + 1) = sm (fun i => sm (f i) m) n + sm (f n) m from rfl, sm_swap m n]
    exact (sm_add m (fun i _ _ => rfl)).symm
theorem sm_at {P : Int → Prop} (n : Nat) (hc : 0 ≤ c ∧ c < n) : sm (fun k => bI (c = k ∧ P k)) n = bI (P c) := by
  rw [sm_bI1 n (fun i j _ _ _ _ h1 h2 => by rw [← h1.1, ← h2.1])]
  refine bI_iff ⟨?_, fun h => ⟨c, hc.1, hc.2, rfl, h⟩⟩
  rintro ⟨i, -, -, rfl, h⟩; exact h
theorem sm_no {P : Int → Prop} (n : Nat) (hc : c = -1) : sm (fun k => bI (c = k ∧ P k)) n = 0 :=
  sm_zero n (fun i h0 _ => bI_f (fun z => by omega))
/-- by places, by cells -/
theorem sm_list {g : Int → Int} : ∀ n : Nat, sm g n = ((List.range n).map (fun k : Nat => g k)).sum
  | 0 => rfl
  | n + 1 => by
    rw [show sm g (n + 1) = sm g n + g n from rfl, sm_list n, List.range_succ, List.map_append, List.sum_append]
    simp
theorem sm_pl {g : Int → Int} : sm (fun p => if c1 p = -1 then 0 else g (c1 p)) 121 = sm g 91 := by
  have h1 : ∀ l : List Nat, (l.map (fun p : Nat => if c1 (p : Int) = -1 then 0 else g (c1 (p : Int)))).sum = ((l.filterMap (fun p : Nat => if c1 (p : Int) = -1 then none else some (c1 (p : Int)))).map g).sum := by
    intro l
    induction l with
    | nil => rfl
    | cons p l ih =>
      rw [List.map_cons, List.sum_cons, ih, List.filterMap_cons]
      by_cases c : c1 (p : Int) = -1
      · rw [if_pos c, if_pos c, Int.zero_add]
      · rw [if_neg c, if_neg c, List.map_cons, List.sum_cons]
  have h2 : (List.range 121).filterMap (fun p : Nat => if c1 (p : Int) = -1 then none else some (c1 (p : Int))) = (List.range 91).map (fun k : Nat => (k : Int)) := by decide +kernel
  rw [sm_list, sm_list, h1, h2, List.map_map]
  rfl
/-- rays, the other way -/
theorem inv_d : ∀ i : Nat, i < 12 → (dX (inv i) = - dX i ∧ dY (inv i) = - dY i) ∧ inv (inv i) = i := by decide +kernel
theorem inv_dd (hi : 0 ≤ i ∧ i < 12) : (dX (inv i) = - dX i ∧ dY (inv i) = - dY i) ∧ inv (inv i) = i := by
  have := inv_d i.toNat (by omega)
  rwa [Int.toNat_of_nonneg hi.1] at this
theorem ray_sym (hk : 0 ≤ k ∧ k < 91) (ht : 0 ≤ to ∧ to < 91) (hi : 0 ≤ i ∧ i < 12) (h : onRay bb i 17 (gn to i) k) : onRay bb (inv i) 17 (gn k (inv i)) to := by
  obtain ⟨n, n1, n2, n3, n4⟩ := ray_xy ht hk hi h
  obtain ⟨⟨v1, v2⟩, -⟩ := inv_dd hi
  have hv := (inv_rg hi).1
  refine ray_is hk ht hv n1 ?_ ?_ (fun j j1 j2 => ?_)
  · rw [v1, Int.mul_neg]; omega
  · rw [v2, Int.mul_neg]; omega
  · have e : wk k (inv i) j = wk to i (n - j) := by
      unfold wk
      rw [v1, v2, Int.mul_neg, Int.mul_neg, show ((n - j : Nat) : Int) = (n : Int) - j by omega, Int.sub_mul, Int.sub_mul]
      rw [show gx k + -((j : Int) * dX i) = gx to + (n * dX i - j * dX i) by omega, show gy k + -((j : Int) * dY i) = gy to + (n * dY i - j * dY i) by omega]
    rw [e]
    exact n4 (n - j) (by omega) (by omega)
theorem rayC_on : ∀ (n : Nat) (c : Int), rayC bb i n c = k → k ≠ -1 → onRay bb i (n + 1) c k
  | 0, c, h, hk => ⟨by rw [show c = k from h]; exact hk, Or.inl (show k = c from (show c = k from h).symm)⟩
  | n + 1, c, h, hk => by
    rw [rayC] at h
    rw [onRay]
    by_cases e : c = -1 ∨ bb c ≠ 0
    · rw [if_pos e] at h
      exact ⟨by rw [h]; exact hk, Or.inl h.symm⟩
    · rw [if_neg e] at h
      exact ⟨fun z => e (Or.inl z), Or.inr ⟨Classical.byContradiction fun z => e (Or.inr z), rayC_on n _ h hk⟩⟩
theorem rayC_iff (hk : 0 ≤ k ∧ k < 91) (ht : 0 ≤ to ∧ to < 91) (hi : 0 ≤ i ∧ i < 12) (h0 : bb k ≠ 0) : rayC bb i 16 (gn to i) = k ↔ onRay bb (inv i) 17 (gn k (inv i)) to := by
  have hv := inv_dd hi
  constructor
  · intro h
    exact ray_sym hk ht hi (rayC_on 16 _ h (by omega))
  · intro h
    have := ray_back (inv_rg hi).1 hk h0 h
    rwa [hv.2] at this
theorem ray_uni (hk : 0 ≤ k ∧ k < 91) (ht : 0 ≤ to ∧ to < 91) {i j : Int} (hi : 0 ≤ i ∧ i < 12) (hj : 0 ≤ j ∧ j < 12) (h1 : onRay bb i 17 (gn k i) to) (h2 : onRay bb j 17 (gn k j) to) : i = j := by
  obtain ⟨n, n1, n2, n3, -⟩ := ray_xy hk ht hi h1
  obtain ⟨m, m1, m2, m3, -⟩ := ray_xy hk ht hj h2
  obtain ⟨i, rfl⟩ : ∃ u : Nat, i = u := ⟨i.toNat, (Int.toNat_of_nonneg hi.1).symm⟩
  obtain ⟨j, rfl⟩ : ∃ u : Nat, j = u := ⟨j.toNat, (Int.toNat_of_nonneg hj.1).symm⟩
  have t1 := tb5_of (i := i) (n := n) (by omega) (by omega)
  have t2 := tb5_of (i := j) (n := m) (by omega) (by omega)
  rw [← n2, ← n3] at t1
  rw [← m2, ← m3] at t2
  have h6 : j < 6 ↔ i < 6 := by
    by_cases c1 : i < 6
    · by_cases c2 : j < 6
      · exact ⟨fun _ => c1, fun _ => c2⟩
      · have := t1.1 c1; have := t2.2 (by omega); omega
    · by_cases c2 : j < 6
      · have := t2.1 c2; have := t1.2 (by omega); omega
      · exact ⟨fun z => absurd z c2, fun z => absurd z c1⟩
  exact (ray_one hk ht (i := j) (by omega) m1 m2 m3 hi (by omega) h1).1
theorem gn_inv (hk : 0 ≤ k ∧ k < 91) (ht : 0 ≤ to ∧ to < 91) (hi : 0 ≤ i ∧ i < 12) : gn to i = k ↔ gn k (inv i) = to := by
  constructor
  · intro h
    rw [← h]; exact (inv_ok ht hi).1 (by omega)
  · intro h
    have := (inv_ok hk (inv_rg hi).1).1 (by omega)
    rwa [(inv_dd hi).2, h] at this
theorem gj_inv (hk : 0 ≤ k ∧ k < 91) (ht : 0 ≤ to ∧ to < 91) (hi : 0 ≤ i ∧ i < 12) : gj to i = k ↔ gj k ((i + 6) % 12) = to := by
  constructor
  · intro h
    rw [← h]; exact (inv_ok ht hi).2 (by omega)
  · intro h
    have := (inv_ok hk (i := (i + 6) % 12) (by omega)).2 (by omega)
    rwa [show ((i + 6) % 12 + 6) % 12 = i by omega, h] at this
theorem gn_uni (hk : 0 ≤ k ∧ k < 91) (ht : 0 ≤ to ∧ to < 91) {i j : Int} (hi : 0 ≤ i ∧ i < 12) (hj : 0 ≤ j ∧ j < 12) (h1 : gn k i = to) (h2 : gn k j = to) : i = j := by
  have e1 := (to_cA ht).mp (h1.symm.trans (gn_xy hk hi).1)
  have e2 := (to_cA ht).mp (h2.symm.trans (gn_xy hk hj).1)
  have := dXY_inj (n := 0) (i := i.toNat) (j := j.toNat) (by omega) (by omega) (by rw [Int.toNat_of_nonneg hi.1, Int.toNat_of_nonneg hj.1]; omega) (by rw [Int.toNat_of_nonneg hi.1, Int.toNat_of_nonneg hj.1]; omega)
  omega
theorem jXY_inj {i j : Nat} (hi : i < 12) (hj : j < 12) (h1 : jX i = jX j) (h2 : jY i = jY j) : i = j := by
  have h : ∀ i : Nat, i < 12 → ∀ j : Nat, j < 12 → jX i = jX j → jY i = jY j → i = j := by decide +kernel
  exact h i hi j hj h1 h2
theorem gj_uni (hk : 0 ≤ k ∧ k < 91) (ht : 0 ≤ to ∧ to < 91) {i j : Int} (hi : 0 ≤ i ∧ i < 12) (hj : 0 ≤ j ∧ j < 12) (h1 : gj k i = to) (h2 : gj k j = to) : i = j := by
  have e1 := (to_cA ht).mp (h1.symm.trans (gn_xy hk hi).2)
  have e2 := (to_cA ht).mp (h2.symm.trans (gn_xy hk hj).2)
  have := jXY_inj (i := i.toNat) (j := j.toNat) (by omega) (by omega) (by rw [Int.toNat_of_nonneg hi.1, Int.toNat_of_nonneg hj.1]; omega) (by rw [Int.toNat_of_nonneg hi.1, Int.toNat_of_nonneg hj.1]; omega)
  omega
/-- one cell's share -/
noncomputable def shA (bb : Int → Int) (to s i k : Int) : Int := bI (rayC bb i 16 (gn to i) = k ∧ (bb k = 10 * s + 2 ∨ bb k = 10 * s + (if i < 6 then 3 else 4)))
noncomputable def shB (bb : Int → Int) (to s i k : Int) : Int := bI (gn to i = k ∧ bb k = 10 * s + 1) + bI (gj to i = k ∧ bb k = 10 * s + 5)
noncomputable def shC (bb : Int → Int) (to s i k : Int) : Int := bI (m_st to (m_tk (1 - s) i) = k ∧ bb k = 10 * s + 6)
theorem m_att_sh (hb : MB bb) (ht : 0 ≤ to ∧ to < 91) (hs : s = 0 ∨ s = 1) : m_att bb to s = sm (fun k => sm (fun i => shA bb to s i k) 12 + sm (fun i => shB bb to s i k) 12 + sm (fun i => shC bb to s i k) 2) 91 := by
  have h1 : ∀ i, 0 ≤ i → i < ((12 : Nat) : Int) → m_sl bb to s i = sm (shA bb to s i) 91 := by
    intro i i0 i1
    unfold m_sl
    have hr := rayC_rg (b := bb) (i := i) ⟨i0, by omega⟩ 16 (gn to i) (gn_rg ht ⟨i0, by omega⟩)
    unfold m_on shA
    generalize rayC bb i 16 (gn to i) = c at *
    by_cases hc : c = -1
    · rw [if_pos hc, sm_no 91 hc (P := fun k => (bb k = 10 * s + 2 ∨ bb k = 10 * s + (if i < 6 then 3 else 4))), bI_f (by split <;> omega)]
    · rw [if_neg hc, sm_at 91 (c := c) (P := fun k => (bb k = 10 * s + 2 ∨ bb k = 10 * s + (if i < 6 then 3 else 4))) ⟨by omega, by omega⟩]
  have h2 : ∀ i, 0 ≤ i → i < ((12 : Nat) : Int) → m_kk bb to s i = sm (shB bb to s i) 91 := by
    intro i i0 i1
    unfold m_kk
    have hr1 := gn_rg ht (i := i) ⟨i0, by omega⟩
    have hr2 := gj_rg ht (i := i) ⟨i0, by omega⟩
    rw [show sm (shB bb to s i) 91 = sm (fun k => bI (gn to i = k ∧ bb k = 10 * s + 1)) 91 + sm (fun k => bI (gj to i = k ∧ bb k = 10 * s + 5)) 91 from sm_add 91 (fun k _ _ => rfl)]
    unfold m_on
    generalize gn to i = c at *
    generalize gj to i = c' at *
    by_cases hc : c = -1
    · rw [if_pos hc, sm_no 91 hc (P := fun k => bb k = 10 * s + 1), bI_f (c := -1 = 10 * s + 1) (by omega)]
      by_cases hc' : c' = -1
      · rw [if_pos hc', sm_no 91 hc' (P := fun k => bb k = 10 * s + 5), bI_f (c := -1 = 10 * s + 5) (by omega)]
      · rw [if_neg hc', sm_at 91 (c := c') (P := fun k => bb k = 10 * s + 5) ⟨by omega, by omega⟩]
    · rw [if_neg hc, sm_at 91 (c := c) (P := fun k => bb k = 10 * s + 1) ⟨by omega, by omega⟩]
      by_cases hc' : c' = -1
      · rw [if_pos hc', sm_no 91 hc' (P := fun k => bb k = 10 * s + 5), bI_f (c := -1 = 10 * s + 5) (by omega)]
      · rw [if_neg hc', sm_at 91 (c := c') (P := fun k => bb k = 10 * s + 5) ⟨by omega, by omega⟩]
  have h3 : ∀ i, 0 ≤ i → i < ((2 : Nat) : Int) → m_pn bb to s i = sm (shC bb to s i) 91 := by
    intro i i0 i1
    have hr := gn_rg ht (tk_fwd (s := 1 - s) (i := i) (by omega) (by omega)).2.1
    have hm : m_st to (m_tk (1 - s) i) = gn to (m_tk (1 - s) i) := by unfold m_st; rw [if_neg (by omega)]
    unfold m_pn shC
    rw [hm]
    unfold m_on
    generalize gn to (m_tk (1 - s) i) = c at *
    by_cases hc : c = -1
    · rw [if_pos hc, sm_no 91 hc (P := fun k => bb k = 10 * s + 6), bI_f (by omega)]
    · rw [if_neg hc, sm_at 91 (c := c) (P := fun k => bb k = 10 * s + 6) ⟨by omega, by omega⟩]
  unfold m_att
  rw [sm_eq 12 h1, sm_eq 12 h2, sm_eq 2 h3, sm_swap (f := shA bb to s) 91 12, sm_swap (f := shB bb to s) 91 12, sm_swap (f := shC bb to s) 91 2]
  rw [sm_add (g := fun k => sm (fun i => shA bb to s i k) 12 + sm (fun i => shB bb to s i k) 12) (h := fun k => sm (fun i => shC bb to s i k) 2) 91 (fun k _ _ => rfl), sm_add (g := fun k => sm (fun i => shA bb to s i k) 12) (h := fun k => sm (fun i => shB bb to s i k) 12) 91 (fun k _ _ => rfl)]
theorem bI_or {a b : Prop} (h : a → ¬ b) : bI (a ∨ b) = bI a + bI b := by
  by_cases c1 : a
  · rw [bI_t c1, bI_f (h c1), bI_t (Or.inl c1)]; rfl
  · rw [bI_f c1, Int.zero_add]
    exact bI_iff ⟨fun z => z.resolve_left c1, Or.inr⟩
theorem sh_A (hk : 0 ≤ k ∧ k < 91) (ht : 0 ≤ to ∧ to < 91) (hs : s = 0 ∨ s = 1) : sm (fun i => shA bb to s i k) 12 = bI (((bb k = 10 * s + 2 ∨ bb k = 10 * s + 3) ∧ ∃ i, 0 ≤ i ∧ i < 6 ∧ onRay bb i 17 (gn k i) to) ∨ ((bb k = 10 * s + 2 ∨ bb k = 10 * s + 4) ∧ ∃ i, 6 ≤ i ∧ i < 12 ∧ onRay bb i 17 (gn k i) to)) := by
  unfold shA
  rw [sm_bI1 (P := fun i => rayC bb i 16 (gn to i) = k ∧ (bb k = 10 * s + 2 ∨ bb k = 10 * s + (if i < 6 then 3 else 4))) 12]
  · refine bI_iff ⟨?_, ?_⟩
    · rintro ⟨i, i0, i1, h1, h2⟩
      have h0 : bb k ≠ 0 := by split at h2 <;> omega
      have hi : 0 ≤ i ∧ i < 12 := ⟨i0, by omega⟩
      have hv := inv_rg hi
      have h3 := (rayC_iff hk ht hi h0).mp h1
      by_cases c : i < 6
      · rw [if_pos c] at h2
        exact Or.inl ⟨h2, inv i, by omega, by omega, h3⟩
      · rw [if_neg c] at h2
        exact Or.inr ⟨h2, inv i, by omega, by omega, h3⟩
    · rintro (⟨h1, i, i0, i1, h2⟩ | ⟨h1, i, i0, i1, h2⟩)
      · have hi : 0 ≤ i ∧ i < 12 := ⟨i0, by omega⟩
        have hv := inv_rg hi
        refine ⟨inv i, by omega, by omega, ray_back hi hk (by omega) h2, ?_⟩
        rw [if_pos (by omega)]; exact h1
      · have hi : 0 ≤ i ∧ i < 12 := ⟨by omega, i1⟩
        have hv := inv_rg hi
        refine ⟨inv i, by omega, by omega, ray_back hi hk (by omega) h2, ?_⟩
        rw [if_neg (by omega)]; exact h1
  · rintro i j i0 i1 j0 j1 ⟨h1, h2⟩ ⟨h3, -⟩
    have h0 : bb k ≠ 0 := by split at h2 <;> omega
    have hi : 0 ≤ i ∧ i < 12 := ⟨i0, by omega⟩
    have hj : 0 ≤ j ∧ j < 12 := ⟨j0, by omega⟩
    have := ray_uni hk ht (inv_rg hi).1 (inv_rg hj).1 ((rayC_iff hk ht hi h0).mp h1) ((rayC_iff hk ht hj h0).mp h3)
    rw [← (inv_dd hi).2, this, (inv_dd hj).2]
theorem sh_B (hk : 0 ≤ k ∧ k < 91) (ht : 0 ≤ to ∧ to < 91) : sm (fun i => shB bb to s i k) 12 = bI (bb k = 10 * s + 1 ∧ ∃ i, 0 ≤ i ∧ i < 12 ∧ to = gn k i) + bI (bb k = 10 * s + 5 ∧ ∃ i, 0 ≤ i ∧ i < 12 ∧ to = gj k i) := by
  unfold shB
  rw [sm_add (g := fun i => bI (gn to i = k ∧ bb k = 10 * s + 1)) (h := fun i => bI (gj to i = k ∧ bb k = 10 * s + 5)) 12 (fun _ _ _ => rfl)]
  rw [sm_bI1 (P := fun i => gn to i = k ∧ bb k = 10 * s + 1) 12 (by
    rintro i j i0 i1 j0 j1 ⟨h1, -⟩ ⟨h2, -⟩
    exact gn_uni ht hk ⟨i0, by omega⟩ ⟨j0, by omega⟩ h1 h2), sm_bI1 (P := fun i => gj to i = k ∧ bb k = 10 * s + 5) 12 (by
    rintro i j i0 i1 j0 j1 ⟨h1, -⟩ ⟨h2, -⟩
    exact gj_uni ht hk ⟨i0, by omega⟩ ⟨j0, by omega⟩ h1 h2)]
  congr 1
  · refine bI_iff ⟨?_, ?_⟩
    · rintro ⟨i, i0, i1, h1, h2⟩
      have hi : 0 ≤ i ∧ i < 12 := ⟨i0, by omega⟩
      have hv := inv_rg hi
      exact ⟨h2, inv i, by omega, by omega, ((gn_inv hk ht hi).mp h1).symm⟩
    · rintro ⟨h2, i, i0, i1, h1⟩
      have hi : 0 ≤ i ∧ i < 12 := ⟨i0, by omega⟩
      have hv := inv_rg hi
      exact ⟨inv i, by omega, by omega, (gn_inv ht hk hi).mp h1.symm, h2⟩
  · refine bI_iff ⟨?_, ?_⟩
    · rintro ⟨i, i0, i1, h1, h2⟩
      have hi : 0 ≤ i ∧ i < 12 := ⟨i0, by omega⟩
      exact ⟨h2, (i + 6) % 12, by omega, by omega, ((gj_inv hk ht hi).mp h1).symm⟩
    · rintro ⟨h2, i, i0, i1, h1⟩
      have hi : 0 ≤ i ∧ i < 12 := ⟨i0, by omega⟩
      exact ⟨(i + 6) % 12, by omega, by omega, (gj_inv ht hk hi).mp h1.symm, h2⟩
theorem tk_inv (hs : s = 0 ∨ s = 1) (hi : i = 0 ∨ i = 1) : inv (m_tk (1 - s) i) = m_tk s i ∧ (m_tk s 0 ≠ m_tk s 1) ∧ (0 ≤ m_tk s i ∧ m_tk s i < 12) := by
  rcases hs with rfl | rfl <;> rcases hi with rfl | rfl <;> decide
theorem sh_C (hk : 0 ≤ k ∧ k < 91) (ht : 0 ≤ to ∧ to < 91) (hs : s = 0 ∨ s = 1) : sm (fun i => shC bb to s i k) 2 = bI (bb k = 10 * s + 6 ∧ ∃ i, (i = 0 ∨ i = 1) ∧ to = gn k (m_tk s i)) := by
  unfold shC
  have hm : ∀ i, m_st to i = gn to i := fun i => by unfold m_st; rw [if_neg (by omega)]
  rw [sm_bI1 (P := fun i => m_st to (m_tk (1 - s) i) = k ∧ bb k = 10 * s + 6) 2]
  · refine bI_iff ⟨?_, ?_⟩
    · rintro ⟨i, i0, i1, h1, h2⟩
      have hi : i = 0 ∨ i = 1 := by omega
      have t1 := tk_inv (s := 1 - s) (i := i) (by omega) hi
      have t2 := tk_inv (s := s) (i := i) hs hi
      rw [hm] at h1
      have := (gn_inv hk ht t1.2.2).mp h1
      rw [t2.1] at this
      exact ⟨h2, i, hi, this.symm⟩
    · rintro ⟨h2, i, hi, h1⟩
      have t1 := tk_inv (s := 1 - s) (i := i) (by omega) hi
      have t2 := tk_inv (s := s) (i := i) hs hi
      refine ⟨i, by omega, by omega, ?_, h2⟩
      rw [hm]
      have e := (gn_inv ht hk t2.2.2).mp h1.symm
      rw [show (1 : Int) - (1 - s) = s by omega] at t1
      rw [t1.1] at e
      exact e
  · rintro i j i0 i1 j0 j1 ⟨h1, -⟩ ⟨h2, -⟩
    have hi : i = 0 ∨ i = 1 := by omega
    have hj : j = 0 ∨ j = 1 := by omega
    have t1 := tk_inv (s := 1 - s) (i := i) (by omega) hi
    have t2 := tk_inv (s := 1 - s) (i := j) (by omega) hj
    rw [hm] at h1 h2
    have := gn_uni ht hk t1.2.2 t2.2.2 h1 h2
    have t3 := t1.2.1
    rcases hi with rfl | rfl <;> rcases hj with rfl | rfl
    · rfl
    · exact absurd this t3
    · exact absurd this.symm t3
    · rfl
theorem sh_AT (hb : MB bb) (hk : 0 ≤ k ∧ k < 91) (ht : 0 ≤ to ∧ to < 91) (hs : s = 0 ∨ s = 1) : sm (fun i => shA bb to s i k) 12 + sm (fun i => shB bb to s i k) 12 + sm (fun i => shC bb to s i k) 2 = bI (m_side (bb k) = s ∧ AT bb k to) := by
  have hp : ∀ p, 1 ≤ p → p ≤ 6 → (m_side (bb k) = s ∧ bb k % 10 = p ↔ bb k = 10 * s + p) := by
    intro p p0 p1
    have := hb k
    unfold m_side
    split <;> omega
  rw [sh_A hk ht hs, sh_B hk ht, sh_C hk ht hs]
  unfold AT
  rw [← hp 1 (by omega) (by omega), ← hp 2 (by omega) (by omega), ← hp 3 (by omega) (by omega), ← hp 4 (by omega) (by omega), ← hp 5 (by omega) (by omega), ← hp 6 (by omega) (by omega)]
  generalize (∃ i, 0 ≤ i ∧ i < 6 ∧ onRay bb i 17 (gn k i) to) = R1
  generalize (∃ i, 6 ≤ i ∧ i < 12 ∧ onRay bb i 17 (gn k i) to) = R2
  generalize (∃ i, 0 ≤ i ∧ i < 12 ∧ to = gn k i) = R3
  generalize (∃ i, 0 ≤ i ∧ i < 12 ∧ to = gj k i) = R4
  by_cases c : m_side (bb k) = s
  · rw [c]
    generalize hR5 : (∃ i, (i = 0 ∨ i = 1) ∧ to = gn k (m_tk s i)) = R5
    clear hR5 hp
    generalize bb k % 10 = p
    rw [← bI_or, ← bI_or, ← bI_or]
    · refine bI_iff ?_
      simp only [true_and]
      constructor
      · rintro ((h | h | h) | h)
        · rcases h with h | h
          · exact Or.inr (Or.inl h)
          · exact Or.inr (Or.inr (Or.inl h))
        · exact Or.inr (Or.inr (Or.inr (Or.inl h)))
        · exact Or.inr (Or.inr (Or.inr (Or.inr h)))
        · exact Or.inl h
      · rintro (h | h | h | h | h)
        · exact Or.inr h
        · exact Or.inl (Or.inl (Or.inl h))
        · exact Or.inl (Or.inl (Or.inr h))
        · exact Or.inl (Or.inr (Or.inl h))
        · exact Or.inl (Or.inr (Or.inr h))
    · rintro ((⟨h, -⟩ | ⟨h, -⟩) | ⟨h, -⟩ | ⟨h, -⟩) ⟨h', -⟩ <;> omega
    · rintro (⟨h, -⟩ | ⟨h, -⟩) (⟨h', -⟩ | ⟨h', -⟩) <;> omega
    · rintro ⟨h, -⟩ ⟨h', -⟩; omega
  · have hz : ∀ {P : Prop}, (P → m_side (bb k) = s) → bI P = 0 := fun h => bI_f (fun z => c (h z))
    rw [hz (P := _ ∧ _) (fun z => z.1)]
    rw [hz (P := _ ∨ _) (by rintro (⟨h | h, -⟩ | ⟨h | h, -⟩) <;> exact h.1), hz (P := (_ ∧ _) ∧ R3) (by rintro ⟨h, -⟩; exact h.1), hz (P := (_ ∧ _) ∧ R4) (by rintro ⟨h, -⟩; exact h.1)]
    have := hz (P := (m_side (bb k) = s ∧ bb k % 10 = 6) ∧ ∃ i, (i = 0 ∨ i = 1) ∧ to = gn k (m_tk s i)) (by rintro ⟨h, -⟩; exact h.1)
    rw [this]
    rfl
/-- attackers, by cells -/
theorem m_att_AT (hb : MB bb) (ht : 0 ≤ to ∧ to < 91) (hs : s = 0 ∨ s = 1) : sm (fun k => bI (m_side (bb k) = s ∧ AT bb k to)) 91 = m_att bb to s := by
  rw [m_att_sh hb ht hs]
  exact sm_eq 91 (fun k k0 k1 => (sh_AT hb ⟨k0, by omega⟩ ht hs).symm)
end PCNT
