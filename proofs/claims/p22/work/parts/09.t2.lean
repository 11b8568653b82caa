section PT2
/-! the world as the law finds it -/
variable {args : Array Value} {s : State}
def g_ad (args : Array Value) (s : State) (a : Nat) : Nat := match (g_tm a).eval args s none [] s with
  | some (.ref q) => q
  | _ => 0
def g_at (args : Array Value) (s : State) (a : Nat) : Prop := (g_tm a).eval args s none [] s = some (.ref (g_ad args s a))
theorem g_ad_of {a q : Nat} (h : (g_tm a).eval args s none [] s = some (.ref q)) : g_ad args s a = q := by unfold g_ad; rw [h]
theorem g_at_of {a q : Nat} (h : (g_tm a).eval args s none [] s = some (.ref q)) : g_at args s a := by unfold g_at; rw [g_ad_of h]; exact h
theorem g_eqr {t u : Term} {q : Nat} (h : (Cond.eq t u).before args s = true) (hu : u.eval args s none [] s = some (.ref q)) : t.eval args s none [] s = some (.ref q) := by
  cases hv : t.eval args s none [] s with
  | none => simp [Cond.before, Cond.holds, Cond.value, hv] at h
  | some w =>
    simp only [Cond.before, Cond.holds, Cond.value, hv, hu] at h
    cases w <;> simp_all
def g_pre (args : Array Value) (s : State) : Prop := ∀ w ∈ g_fl, w.before args s = true
theorem g_arrA {a : Nat} {ty : FieldType} (hg : g_pre args s) (hin : ∀ w ∈ g_arr a ty, w ∈ g_fl) (hN : (p_roT a).2 < 2 ^ 31) : g_at args s a ∧ s_A ty (p_roT a).2 (fun j => .int (iI (p_roM a j))) (g_ad args s a) s s.heap := by
  obtain ⟨t, ht, cell, h1, h2, h3, h4, h5, h6, -⟩ := va_Tof (f := fun j => .int (iI (p_roM a j))) (A := fun _ => False) hN (hg _ (hin _ List.mem_cons_self)) (va_eqt (hg _ (hin _ (List.mem_cons_of_mem _ List.mem_cons_self)))) (fun j hj => va_eqt (hg _ (hin _ (List.mem_cons_of_mem _ (List.mem_cons_of_mem _ (List.mem_map.mpr ⟨j, List.mem_range.mpr hj, rfl⟩)))))) (fun _ _ h => h)
  refine ⟨g_at_of ht, ?_⟩
  rw [g_ad_of ht]
  exact ⟨cell, h1, h2, h3, h4, h5, h6⟩
theorem g_rowA {a : Nat} {C : String} (hg : g_pre args s) (hin : ∀ w ∈ g_row a C, w ∈ g_fl) (hN : (p_roT a).2 < 2 ^ 31) (hr : ∀ j, j < (p_roT a).2 → g_at args s (g_rf a j)) : g_at args s a ∧ s_A (.object C) (p_roT a).2 (fun j => .ref (g_ad args s (g_rf a j))) (g_ad args s a) s s.heap := by
  obtain ⟨t, ht, cell, h1, h2, h3, h4, h5, h6, -⟩ := va_Tof (f := fun j => .ref (g_ad args s (g_rf a j))) (A := fun _ => False) hN (hg _ (hin _ List.mem_cons_self)) (va_eqt (hg _ (hin _ (List.mem_cons_of_mem _ List.mem_cons_self)))) (fun j hj => g_eqr (hg _ (hin _ (List.mem_cons_of_mem _ (List.mem_cons_of_mem _ (List.mem_map.mpr ⟨j, List.mem_range.mpr hj, rfl⟩))))) (hr j hj)) (fun _ _ h => h)
  refine ⟨g_at_of ht, ?_⟩
  rw [g_ad_of ht]
  exact ⟨cell, h1, h2, h3, h4, h5, h6⟩
theorem g_exA {a : Nat} {C : String} (h : (Cond.exactly (g_tm a) C).before args s = true) : g_at args s a ∧ s_O C (g_ad args s a) s s.heap := by
  obtain ⟨q, c, cA, kA, q1, q2, q3, q4, q5, q6, -⟩ := Cond.exactly_spec (args := args) (first := s) (o := none) (s := s) (idx := []) h
  refine ⟨g_at_of q1, ?_⟩
  rw [g_ad_of q1]
  exact ⟨cA, q3, q5, by rw [q6]; exact q2⟩
theorem g_fF {a : Nat} {o n d : String} {v : Value} (ha : g_at args s a) (h : (Term.field (g_tm a) o n d).eval args s none [] s = some v) : s_F o n d v (g_ad args s a) s s.heap := by
  obtain ⟨cf, k, fi, f, cell, h1, h2, h3, h4, h5, -⟩ := vk_OFof (A := fun _ => False) ha h (fun _ _ h => h)
  exact ⟨cf, k, fi, f, cell, h1, h2, h3, h4, h5⟩
/-- numbers of read-only cells: what kinds there are -/
theorem g_tags : ∀ a, a < 100 → (p_roT a).1 ∈ [0, 90, 91, 93, 95, 12, 21] ∧ (p_roT a).2 ≤ 100 := by decide +kernel
def g_rchk (a j : Nat) : Bool := !(decide ((p_roT a).1 = 91) || decide ((p_roT a).1 = 95)) || decide ((p_roT a).2 ≤ j) || (decide (p_roF a ((j : Nat) : Int) = some (g_rf a j)) && decide (g_rf a j < 100) && decide (g_rf a j ≠ 29) && decide (g_rf a j ≠ 28) && (decide ((p_roT (g_rf a j)).1 = 12) || decide ((p_roT (g_rf a j)).1 = 21)))
theorem g_rall : ∀ a, a < 100 → ∀ j, j < 16 → g_rchk a j = true := by decide +kernel
theorem g_refs (a : Nat) (ha : a < 100) (j : Nat) (hj : j < 16) (h : (p_roT a).1 = 91 ∨ (p_roT a).1 = 95) (hs : j < (p_roT a).2) : p_roF a ((j : Nat) : Int) = some (g_rf a j) ∧ g_rf a j < 100 ∧ g_rf a j ≠ 29 ∧ g_rf a j ≠ 28 ∧ ((p_roT (g_rf a j)).1 = 12 ∨ (p_roT (g_rf a j)).1 = 21) := by
  have h1 := g_rall a ha j hj
  unfold g_rchk at h1
  simp only [Bool.or_eq_true, Bool.and_eq_true, decide_eq_true_eq, Bool.not_eq_true', Bool.or_eq_false_iff, decide_eq_false_iff_not] at h1
  rcases h1 with (h1 | h1) | h1
  · omega
  · omega
  · exact ⟨h1.1.1.1.1, h1.1.1.1.2, h1.1.1.2, h1.1.2, h1.2⟩
theorem g_rsz : ∀ a, a < 100 → ((p_roT a).1 = 91 ∨ (p_roT a).1 = 95) → (p_roT a).2 ≤ 16 := by decide +kernel
theorem g_kref : ∀ a, a < 100 → (p_roT a).1 = 12 → p_roF a 0 = some (g_rf a 0) ∧ g_rf a 0 < 100 ∧ g_rf a 0 ≠ 29 ∧ g_rf a 0 ≠ 28 ∧ (p_roT (g_rf a 0)).1 = 21 ∧ 12 ≤ a ∧ a < 28 := by decide +kernel
theorem g_sref : ∀ a, a < 100 → (p_roT a).1 = 21 → p_roF a 0 = some (g_rf a 0) ∧ g_rf a 0 < 100 ∧ g_rf a 0 ≠ 29 ∧ g_rf a 0 ≠ 28 ∧ (p_roT (g_rf a 0)).1 = 93 ∧ g_tm (g_rf a 0) = .field (g_tm a) s_SC "value" "[B" := by decide +kernel
theorem g_rfs : ∀ a, a < 100 → (p_roG a).all (fun x => x.all (fun r => decide (r < 100))) = true := by decide +kernel
theorem g_t12 {a : Nat} (h1 : a < 100) (h2 : a ≠ 29) (h : (p_roT a).1 = 12 ∨ (p_roT a).1 = 21) (hg : g_pre args s) : g_at args s a := by
  have hin := g_in h1 h2 (by omega)
  unfold g_need at hin
  rcases h with h | h
  · rw [if_neg (by omega), if_neg (by omega), if_neg (by omega), if_neg (by omega), if_pos h] at hin
    exact (g_exA (hg _ (hin _ List.mem_cons_self))).1
  · rw [if_neg (by omega), if_neg (by omega), if_neg (by omega), if_neg (by omega), if_neg (by omega), if_pos h] at hin
    exact (g_exA (hg _ (hin _ List.mem_cons_self))).1
theorem g_T90 {a : Nat} (h1 : a < 100) (h2 : a ≠ 29) (h : (p_roT a).1 = 90) (hg : g_pre args s) : g_at args s a ∧ s_A .int (p_roT a).2 (fun j => .int (iI (p_roM a j))) (g_ad args s a) s s.heap := by
  have hin := g_in h1 h2 (by omega)
  unfold g_need at hin
  rw [if_pos h] at hin
  exact g_arrA hg hin (Nat.lt_of_le_of_lt (g_tags a h1).2 (by decide))
theorem g_T93 {a : Nat} (h1 : a < 100) (h2 : a ≠ 29) (h : (p_roT a).1 = 93) (hg : g_pre args s) : g_at args s a ∧ s_A .byte (p_roT a).2 (fun j => .int (iI (p_roM a j))) (g_ad args s a) s s.heap := by
  have hin := g_in h1 h2 (by omega)
  unfold g_need at hin
  rw [if_neg (by omega), if_pos h] at hin
  exact g_arrA hg hin (Nat.lt_of_le_of_lt (g_tags a h1).2 (by decide))
theorem g_T91 {a : Nat} (h1 : a < 100) (h2 : a ≠ 29) (h : (p_roT a).1 = 91) (hg : g_pre args s) : g_at args s a ∧ s_A (.object s_KC) (p_roT a).2 (fun j => .ref (g_ad args s (g_rf a j))) (g_ad args s a) s s.heap := by
  have hin := g_in h1 h2 (by omega)
  unfold g_need at hin
  rw [if_neg (by omega), if_neg (by omega), if_pos h] at hin
  exact g_rowA hg hin (Nat.lt_of_le_of_lt (g_tags a h1).2 (by decide)) (fun j hj => by
    obtain ⟨-, r1, r2, -, r4⟩ := g_refs a h1 j (Nat.lt_of_lt_of_le hj (g_rsz a h1 (Or.inl h))) (Or.inl h) hj
    exact g_t12 r1 r2 r4 hg)
theorem g_T95 {a : Nat} (h1 : a < 100) (h2 : a ≠ 29) (h : (p_roT a).1 = 95) (hg : g_pre args s) : g_at args s a ∧ s_A (.object s_SC) (p_roT a).2 (fun j => .ref (g_ad args s (g_rf a j))) (g_ad args s a) s s.heap := by
  have hin := g_in h1 h2 (by omega)
  unfold g_need at hin
  rw [if_neg (by omega), if_neg (by omega), if_neg (by omega), if_pos h] at hin
  exact g_rowA hg hin (Nat.lt_of_le_of_lt (g_tags a h1).2 (by decide)) (fun j hj => by
    obtain ⟨-, r1, r2, -, r4⟩ := g_refs a h1 j (Nat.lt_of_lt_of_le hj (g_rsz a h1 (Or.inr h))) (Or.inr h) hj
    exact g_t12 r1 r2 r4 hg)
theorem g_T12 {a : Nat} (h1 : a < 100) (h2 : a ≠ 29) (h : (p_roT a).1 = 12) (hg : g_pre args s) : g_at args s a ∧ s_O s_KC (g_ad args s a) s s.heap ∧ s_F s_KC "text" "Ljava/lang/String;" (.ref (g_ad args s (g_rf a 0))) (g_ad args s a) s s.heap ∧ s_F s_KC "number" "I" (.int (iI (p_roM a 1))) (g_ad args s a) s s.heap := by
  have hin := g_in h1 h2 (by omega)
  unfold g_need at hin
  rw [if_neg (by omega), if_neg (by omega), if_neg (by omega), if_neg (by omega), if_pos h] at hin
  obtain ⟨e1, e2⟩ := g_exA (hg _ (hin _ List.mem_cons_self))
  obtain ⟨-, r1, r2, -, r4, -⟩ := g_kref a h1 h
  exact ⟨e1, e2, g_fF e1 (g_eqr (hg _ (hin _ (List.mem_cons_of_mem _ List.mem_cons_self))) (g_t12 r1 r2 (Or.inr r4) hg)), g_fF e1 (va_eqt (hg _ (hin _ (List.mem_cons_of_mem _ (List.mem_cons_of_mem _ List.mem_cons_self)))))⟩
theorem g_T21 {a : Nat} (h1 : a < 100) (h2 : a ≠ 29) (h : (p_roT a).1 = 21) (hg : g_pre args s) : g_at args s a ∧ s_O s_SC (g_ad args s a) s s.heap ∧ s_F s_SC "value" "[B" (.ref (g_ad args s (g_rf a 0))) (g_ad args s a) s s.heap ∧ s_F s_SC "coder" "B" (.int (iI (p_roM a 1))) (g_ad args s a) s s.heap := by
  have hin := g_in h1 h2 (by omega)
  unfold g_need at hin
  rw [if_neg (by omega), if_neg (by omega), if_neg (by omega), if_neg (by omega), if_neg (by omega), if_pos h] at hin
  obtain ⟨e1, e2⟩ := g_exA (hg _ (hin _ List.mem_cons_self))
  obtain ⟨-, r1, r2, -, r4, r5⟩ := g_sref a h1 h
  have hv := (g_T93 r1 r2 r4 hg).1
  unfold g_at at hv
  rw [r5] at hv
  exact ⟨e1, e2, g_fF e1 hv, g_fF e1 (va_eqt (hg _ (hin _ (List.mem_cons_of_mem _ List.mem_cons_self))))⟩
/-- the maps at the law's entry: the script alone -/
def g_T0 (L : Nat) : pT := ((100, 0), fun a => if a = 29 then (92, L) else (0, 0))
def g_M0 (xs : Nat → Int32) : pM := fun a i => if a = 29 then (xs i.toNat).toInt else 0
def g_F0 : pF := fun _ _ => none
def g_fv (args : Array Value) (s : State) : Value := ((g_tm 28).eval args s none [] s).getD .null
theorem g_ty0 {L a : Nat} : p_ty (g_T0 L) a = if a = 29 then (92, L) else if a < 100 then p_roT a else (0, 0) := by
  unfold p_ty g_T0
  by_cases e : a = 29
  · subst e; rw [if_neg (by decide), if_pos rfl]; rfl
  · rw [if_neg e]
    by_cases l : a < 100
    · rw [if_pos ⟨l, e⟩, if_pos l]
    · rw [if_neg (by omega), if_neg l]
      exact if_neg e
theorem g_mv0 {xs : Nat → Int32} {a : Nat} (h1 : a < 100) (h2 : a ≠ 29) (i : Int) : p_mv (g_M0 xs) a i = p_roM a i := by
  unfold p_mv; rw [if_pos ⟨h1, h2⟩]
theorem g_fv0 {a : Nat} (h1 : a < 100) (h2 : a ≠ 29) (i : Int) : p_fv g_F0 a i = p_roF a i := by
  unfold p_fv; rw [if_pos ⟨h1, h2⟩]
theorem g_vr {fv : Value} {σ : Nat → Nat} {r : Nat} (h : r ≠ 28) : s_vm σ fv (p_rv (some r)) = .ref (σ r) := if_neg h
theorem g_c {D : va_G} {fv : Value} {b L : Nat} {xs : Nat → Int32} (hg : g_pre #[.ref b] s) (hX : va_X b L xs s s.heap) (hL : L ≤ 260) : ∀ a, s_c D (s_vm (g_ad #[.ref b] s) fv) (g_M0 xs) g_F0 (p_ty (g_T0 L) a) a (g_ad #[.ref b] s a) s s.heap := by
  intro a
  rw [g_ty0]
  by_cases e : a = 29
  · subst e
    rw [if_pos rfl]
    have hb : g_ad #[.ref b] s 29 = b := rfl
    rw [hb]
    unfold s_c
    dsimp only
    rw [if_neg (by decide), if_pos (by decide)]
    obtain ⟨cell, x1, x2, x3, x4, x5⟩ := hX
    refine ⟨cell, x1, x2, x3, by omega, by rw [x4], fun j hj => ?_⟩
    rw [x5 j hj]
    have e1 : p_mv (g_M0 xs) 29 ((j : Nat) : Int) = (xs j).toInt := by
      unfold p_mv
      rw [if_neg (by decide)]
      exact if_pos rfl
    dsimp only
    rw [e1]
    exact congrArg some (congrArg Value.int (iI_jI' (xs j)).symm)
  · rw [if_neg e]
    by_cases l : a < 100
    · rw [if_pos l]
      have htag := (g_tags a l).1
      simp only [List.mem_cons, List.not_mem_nil, or_false] at htag
      unfold s_c
      rcases htag with t | t | t | t | t | t | t
      · rw [if_pos t]; trivial
      · rw [if_neg (by omega), if_pos (by omega)]
        simp only [g_mv0 l e]
        exact (g_T90 l e t hg).2
      · rw [if_neg (by omega), if_neg (by omega), if_neg (by omega), if_neg (by omega), if_neg (by omega), if_neg (by omega), if_neg (by omega), if_neg (by omega), if_pos t]
        obtain ⟨cell, c1, c2, c3, c4, c5, c6⟩ := (g_T91 l e t hg).2
        refine ⟨cell, c1, c2, c3, c4, c5, fun j hj => ?_⟩
        obtain ⟨r0, r1, r2, r3, r4⟩ := g_refs a l j (Nat.lt_of_lt_of_le hj (g_rsz a l (Or.inl t))) (Or.inl t) hj
        rw [c6 j hj]
        dsimp only
        rw [g_fv0 l e, r0, g_vr r3]
      · rw [if_neg (by omega), if_neg (by omega), if_neg (by omega), if_pos t]
        simp only [g_mv0 l e]
        exact (g_T93 l e t hg).2
      · rw [if_neg (by omega), if_neg (by omega), if_neg (by omega), if_neg (by omega), if_neg (by omega), if_neg (by omega), if_neg (by omega), if_neg (by omega), if_neg (by omega), if_pos t]
        obtain ⟨cell, c1, c2, c3, c4, c5, c6⟩ := (g_T95 l e t hg).2
        refine ⟨cell, c1, c2, c3, c4, c5, fun j hj => ?_⟩
        obtain ⟨r0, r1, r2, r3, r4⟩ := g_refs a l j (Nat.lt_of_lt_of_le hj (g_rsz a l (Or.inr t))) (Or.inr t) hj
        rw [c6 j hj]
        dsimp only
        rw [g_fv0 l e, r0, g_vr r3]
      · rw [if_neg (by omega), if_neg (by omega), if_neg (by omega), if_neg (by omega), if_neg (by omega), if_neg (by omega), if_neg (by omega), if_neg (by omega), if_neg (by omega), if_neg (by omega), if_pos t]
        obtain ⟨r0, r1, r2, r3, r4, -⟩ := g_kref a l t
        rw [g_fv0 l e, r0, g_vr r3, g_mv0 l e]
        exact (g_T12 l e t hg).2
      · rw [if_neg (by omega), if_neg (by omega), if_neg (by omega), if_neg (by omega), if_neg (by omega), if_neg (by omega), if_neg (by omega), if_neg (by omega), if_neg (by omega), if_neg (by omega), if_neg (by omega), if_pos ⟨t, l⟩]
        obtain ⟨r0, r1, r2, r3, r4, -⟩ := g_sref a l t
        rw [g_fv0 l e, r0, g_vr r3, g_mv0 l e]
        exact (g_T21 l e t hg).2
    · rw [if_neg l]
      unfold s_c
      rw [if_pos rfl]
      trivial
theorem g_fvr (hg : g_pre args s) : ((g_tm 28).eval args s none [] s = some (g_fv args s)) ∧ (g_fv args s = .null ∨ ∃ x, g_fv args s = .ref x) := by
  have h := hg _ (g_isr _ List.mem_cons_self)
  unfold g_fv
  show ((Term.static "jdk/internal/util/Preconditions" "SIOOBE_FORMATTER" "Ljava/util/function/BiFunction;").eval args s none [] s = some (((Term.static "jdk/internal/util/Preconditions" "SIOOBE_FORMATTER" "Ljava/util/function/BiFunction;").eval args s none [] s).getD .null)) ∧ (((Term.static "jdk/internal/util/Preconditions" "SIOOBE_FORMATTER" "Ljava/util/function/BiFunction;").eval args s none [] s).getD .null = .null ∨ ∃ x, ((Term.static "jdk/internal/util/Preconditions" "SIOOBE_FORMATTER" "Ljava/util/function/BiFunction;").eval args s none [] s).getD .null = .ref x)
  cases hv : (Term.static "jdk/internal/util/Preconditions" "SIOOBE_FORMATTER" "Ljava/util/function/BiFunction;").eval args s none [] s with
  | none => simp [Cond.before, Cond.holds, Cond.value, hv] at h
  | some w =>
    simp only [Cond.before, Cond.holds, Cond.value, hv] at h
    refine ⟨rfl, ?_⟩
    cases w with
    | null => exact Or.inl rfl
    | ref t => exact Or.inr ⟨t, rfl⟩
    | _ => simp at h
theorem g_W {D : va_G} {b L : Nat} {xs : Nat → Int32} (hg : g_pre #[.ref b] s) (hX : va_X b L xs s s.heap) (hL : L ≤ 260) : s_W D (g_ad #[.ref b] s) (g_fv #[.ref b] s) (g_T0 L) (g_M0 xs) g_F0 s s.heap := by
  have ty : ∀ a, 100 ≤ a → (p_ty (g_T0 L) a).1 = 0 := fun a ha => by rw [g_ty0, if_neg (by omega), if_neg (by omega)]
  refine ⟨Nat.le_refl _, ty, g_c hg hX hL, fun a x ha ta _ _ => absurd (ty a ha) ta, fun a x ta tx h => ?_, (g_fvr hg).2, fun a i r h => ?_⟩
  · have k : ∀ a, (p_ty (g_T0 L) a).1 = 12 → a < 100 ∧ a ≠ 29 ∧ (p_roT a).1 = 12 := fun a ta => by
      rw [g_ty0] at ta
      by_cases e : a = 29
      · rw [if_pos e] at ta; exact absurd ta (by dsimp only; decide)
      · rw [if_neg e] at ta
        by_cases l : a < 100
        · rw [if_pos l] at ta; exact ⟨l, e, ta⟩
        · rw [if_neg l] at ta; exact absurd ta (by decide)
    obtain ⟨a1, a2, a3⟩ := k a ta
    obtain ⟨x1, x2, x3⟩ := k x tx
    obtain ⟨-, -, -, -, -, a4, a5⟩ := g_kref a a1 a3
    obtain ⟨-, -, -, -, -, x4, x5⟩ := g_kref x x1 x3
    have ga := (g_T12 a1 a2 a3 hg).1
    have gx := (g_T12 x1 x2 x3 hg).1
    by_cases e : a = x
    · exact e
    · obtain ⟨i, rfl⟩ : ∃ i, a = 12 + i := ⟨a - 12, by omega⟩
      obtain ⟨j, rfl⟩ : ∃ j, x = 12 + j := ⟨x - 12, by omega⟩
      rcases g_neq i (by omega) j (by omega) (by omega) with w | w
      · exact absurd h (va_neR (hg _ w) ga gx)
      · exact absurd h.symm (va_neR (hg _ w) gx ga)
  · show r < 100
    by_cases c : a < 100 ∧ a ≠ 29
    · rw [g_fv0 c.1 c.2] at h
      unfold p_roF at h
      rw [List.getD_eq_getElem?_getD] at h
      cases hz : (p_roG a)[i.toNat]? with
      | none => rw [hz] at h; cases h
      | some z =>
        rw [hz] at h
        have hz' : z = some r := h
        have := List.all_eq_true.mp (g_rfs a c.1) z (List.mem_of_getElem? hz)
        rw [hz'] at this
        exact of_decide_eq_true this
    · unfold p_fv at h
      rw [if_neg c] at h
      cases h
end PT2
