section PS6
variable {p : Program} {l : Launch} {e : Env} {Rm : Room} {s : State} {m : MethodId} {args : Array Value} {below : List Frame} {meth : Method} {c : Code} {Q : State → Prop} {D : va_G} {fv : Value} {A : Nat → Prop} {n : Nat} {σ : Nat → Nat} {T : pT} {M M' : pM} {F F' : pF} {H H' : Heap} {locs : List Loc} {L : List Slot} {ls : Array Slot} {cells slots : Nat} {st st' : List Value} {pc : Nat} {o : pG ⊕ pR} {a : Nat} {y : pC}
def s_lchk (q : vw_C) : Bool := (u_ws q.1 q.2.1 q.2.2).all (fun w => lw_tbl.any (fun z => decide (z = w)) && s_mv w)
set_option maxRecDepth 20000 in
theorem s_lay0 : s_lchk (RX0, TX0, 3) = true := by decide +kernel
set_option maxRecDepth 20000 in
theorem s_lay1 : s_lchk (RX1, TX1, 14) = true := by decide +kernel
set_option maxRecDepth 20000 in
theorem s_lay3 : s_lchk (RX3, TX3, 4) = true := by decide +kernel
set_option maxRecDepth 20000 in
theorem s_lay4 : s_lchk (RX4, TX4, 2) = true := by decide +kernel
set_option maxRecDepth 20000 in
theorem s_lay5 : s_lchk (RX5, TX5, 1) = true := by decide +kernel
set_option maxRecDepth 20000 in
theorem s_lay6 : s_lchk (RX6, TX6, 4) = true := by decide +kernel
set_option maxRecDepth 20000 in
theorem s_lay7 : s_lchk (RX7, TX7, 7) = true := by decide +kernel
set_option maxRecDepth 20000 in
theorem s_lay8 : s_lchk (RX8, TX8, 5) = true := by decide +kernel
set_option maxRecDepth 20000 in
theorem s_lay9 : s_lchk (RJ4, TJ4, 4) = true := by decide +kernel
set_option maxRecDepth 20000 in
theorem s_lay11 : s_lchk (RJ0, TJ0, 4) = true := by decide +kernel
theorem s_lchk_in {q : vw_C} (h : s_lchk q = true) : ∀ w ∈ u_ws q.1 q.2.1 q.2.2, w ∈ s_tbl := by
  intro w hw
  have h1 := List.all_eq_true.mp h w hw
  rw [Bool.and_eq_true] at h1
  obtain ⟨z, hz, e1⟩ := List.any_eq_true.mp h1.1
  have : z = w := of_decide_eq_true e1
  subst this
  exact List.mem_filter.mpr ⟨hz, h1.2⟩
/-- what the names say of an own class -/
theorem s_own {k : Nat} {q : vw_C} (hc : vcl k = some q) : (∀ w ∈ u_ws q.1 q.2.1 q.2.2, w ∈ s_tbl) ∧ (∀ j, j < q.2.2 → parseFieldDescriptor (q.2.1 j).2.2.1 = some (s_ty k j)) ∧ (∀ a, a < q.2.2 → ∀ b, b < q.2.2 → a ≠ b → (q.2.1 a).2.1 ≠ (q.2.1 b).2.1) := by
  match k, hc with
  | 0, hc => cases hc; exact ⟨s_lchk_in s_lay0, tyX0_ok, nmX0⟩
  | 1, hc => cases hc; exact ⟨s_lchk_in s_lay1, tyX1_ok, nmX1⟩
  | 2, hc => cases hc; exact ⟨fun w hw => by simp [u_ws] at hw, fun j hj => absurd hj (Nat.not_lt_zero _), nmX2⟩
  | 3, hc => cases hc; exact ⟨s_lchk_in s_lay3, tyX3_ok, nmX3⟩
  | 4, hc => cases hc; exact ⟨s_lchk_in s_lay4, tyX4_ok, nmX4⟩
  | 5, hc => cases hc; exact ⟨s_lchk_in s_lay5, tyX5_ok, nmX5⟩
  | 6, hc => cases hc; exact ⟨s_lchk_in s_lay6, tyX6_ok, nmX6⟩
  | 7, hc => cases hc; exact ⟨s_lchk_in s_lay7, tyX7_ok, nmX7⟩
  | 8, hc => cases hc; exact ⟨s_lchk_in s_lay8, tyX8_ok, nmX8⟩
  | 9, hc => cases hc; exact ⟨s_lchk_in s_lay9, tyJ4_ok, nmJ4⟩
  | 10, hc => cases hc
  | 11, hc => cases hc; exact ⟨s_lchk_in s_lay11, tyJ0_ok, nmJ0⟩
  | k + 12, hc => cases hc
theorem s_X.hts (hX : s_X p l s m meth c D y) : ∀ w ∈ s_tbl, w.before args s = true := fun w hw => hX.2.2.2.2.2.2.2.2.1.1 w hw args
theorem s_X.hK (hX : s_X p l s m meth c D y) : va_K D vwCl [] s := ⟨hX.2.2.2.2.2.2.2.2.1.2.1, fun k q h => by simp at h⟩
/-- a field is read, by its own class or a nest mate -/
theorem s_Wgetf (hX : s_X p l s m meth c D y) {idx nest : Nat} {t : String × String × String} (hin : s_lk (p_cn y.1) idx t nest ∈ s_tbl) {cf i : Nat} {k : Class} {f : Field} (hi : s.fieldFound? t.1 t.2.1 t.2.2 = some (cf, k, i, f)) (hst : f.isStatic = false) {b : Addr} {cell : Cell} {v : Value} (hcell : H[b]? = some cell) (hknown : cell.vm ≠ .unknown) (hslot : cell.slots[f.slot]? = some v) {rest : List Value} (hdg : decode y.2.2.1 pc = .ok (.getfield idx, 3))
    (kk : W p l e Rm s m args below meth c H locs cells slots Q (F0 m (pc + 3) ls (v :: rest))) : W p l e Rm s m args below meth c H locs cells slots Q (F0 m pc ls (.ref b :: rest)) := by
  have hl := hX.hts (args := args) _ hin
  unfold s_lk at hl
  by_cases hn : nest = 0
  · rw [if_pos hn] at hl
    exact W.getf hX.1 hX.2.1 hX.2.2.2.1 hl hi hst hcell hknown hslot rfl rfl hdg kk
  · rw [if_neg hn] at hl
    exact va_Wgetf hX.1 hX.2.1 hX.2.2.2.1 hl hi hst hcell hknown hslot rfl rfl hdg kk
theorem s_getfield (hX : s_X p l s m meth c D y) {idx : Nat} (hI : s_I D fv A s n σ T M F H locs L ls (.ref a :: st)) (hdg : decode y.2.2.1 pc = .ok (.getfield idx, 3)) {K j kd q nest : Nat} {fin : Bool} (hl : (p_f y.1).lookup idx = some (K, j, kd, q, nest, fin))
    (h : p_if ((p_ty T a).1 = K) (p_nx (pc + 3) L ((if kd = 2 then p_rv (p_fv F a j) else .int (iI (p_mv M a j))) :: st) T M F) none = some o) (k : ∀ g, o = .inl g → s_K p l e Rm s m args below meth c Q D fv A n σ T cells slots g) :
    W p l e Rm s m args below meth c H locs cells slots Q (F0 m pc ls ((.ref a :: st).map (s_vm σ fv))) := by
  obtain ⟨ht, h⟩ := s_pifn h
  have hchk := s_all s_fOK hl
  unfold s_fchk at hchk
  dsimp only at hchk
  rw [Bool.and_eq_true] at hchk
  obtain ⟨hlk, hchk⟩ := hchk
  have hlk := s_in_tbl hlk
  have hv : s_lt T.1.1 (if kd = 2 then p_rv (p_fv F a j) else .int (iI (p_mv M a j))) := by
    by_cases e : kd = 2
    · rw [if_pos e]; exact s_rv_lt hI
    · rw [if_neg e]; exact .int
  have hk := s_nx h k (hI.pop.push hv)
  show W p l e Rm s m args below meth c H locs cells slots Q (F0 m pc ls (s_vm σ fv (.ref a) :: st.map (s_vm σ fv)))
  have hcell := hI.1.2.2.1 a
  by_cases h12 : K = 12
  · rw [if_pos h12, Bool.and_eq_true] at hchk
    have hj : j < 2 := of_decide_eq_true hchk.1
    have h0 : (p_ty T a).1 ≠ 0 := by omega
    rw [s_vm_ref h0]
    have hkd : (kd = 2) ↔ (j = 0) := by
      have := hchk.2
      rw [beq_iff_eq] at this
      exact decide_eq_decide.mp this
    obtain ⟨-, f0, f1⟩ := hcell.kind (by omega)
    rcases (show j = 0 ∨ j = 1 by omega) with rfl | rfl
    · obtain ⟨cf, k9, i, f, cell, g1, g2, g3, g4, g5⟩ := f0
      rw [if_pos (hkd.mpr rfl)] at hk
      unfold s_fi at hlk
      rw [if_pos h12, if_pos rfl] at hlk
      exact s_Wgetf hX hlk g1 g2 g3 g4 g5 hdg hk
    · obtain ⟨cf, k9, i, f, cell, g1, g2, g3, g4, g5⟩ := f1
      rw [if_neg (fun z => absurd (hkd.mp z) (by omega))] at hk
      unfold s_fi at hlk
      rw [if_pos h12, if_neg (by omega)] at hlk
      exact s_Wgetf hX hlk g1 g2 g3 g4 g5 hdg hk
  · rw [if_neg h12, Bool.and_eq_true] at hchk
    have hK10 : 10 ≤ K := of_decide_eq_true hchk.1
    have hchk := hchk.2
    unfold s_fi at hlk
    rw [if_neg h12] at hlk
    cases hr : vcl (K - 10) with
    | none => rw [hr] at hchk; cases hchk
    | some r =>
      rw [hr] at hchk hlk
      dsimp only at hchk hlk
      simp only [Bool.and_eq_true, beq_iff_eq] at hchk
      obtain ⟨⟨⟨⟨⟨⟨hj, hC⟩, hfin⟩, hkd⟩, hkd0⟩, hkd1⟩, -⟩ := hchk
      obtain ⟨hj, hj2⟩ := of_decide_eq_true hj
      by_cases h21 : K = 21 ∧ a < 100
      · obtain ⟨rfl, ha⟩ := h21
        have h0 : (p_ty T a).1 ≠ 0 := by omega
        rw [s_vm_ref h0]
        obtain ⟨-, f0, f1⟩ := hcell.str ht ha
        cases hr
        rcases (show j = 0 ∨ j = 1 by have := hj2 rfl; omega) with rfl | rfl
        · obtain ⟨cf, k9, i, f, cell, g1, g2, g3, g4, g5⟩ := f0
          have hk2 : kd = 2 := of_decide_eq_true hkd
          rw [if_pos hk2] at hk
          exact s_Wgetf hX (t := (s_SC, "value", "[B")) hlk g1 g2 g3 g4 g5 hdg hk
        · obtain ⟨cf, k9, i, f, cell, g1, g2, g3, g4, g5⟩ := f1
          have hk2 : ¬ kd = 2 := of_decide_eq_false hkd
          rw [if_neg hk2] at hk
          exact s_Wgetf hX (t := (s_SC, "coder", "B")) hlk g1 g2 g3 g4 g5 hdg hk
      have h0 : (p_ty T a).1 ≠ 0 := by omega
      rw [s_vm_ref h0]
      obtain ⟨cell, q1, q2, q3, q4⟩ := (s_c_obj (k := K - 10) (q := r) (by omega) (by omega) (fun _ => by omega) hr).mp hcell
      obtain ⟨hS, hfc, kC, hkC, hkind⟩ := hX.hK.1 _ _ (vcl_ix hr)
      obtain ⟨cf, kf, fi, f, hi, hsl⟩ := hS j hj
      obtain ⟨hin, -, -⟩ := s_own hr
      refine s_Wgetf hX hlk hi (u_facts hfc hkC (u_lays (hX.hts (args := args)) hin hj) hi).1 q1 (by rw [q3]; exact fun z => by cases z) (v := s_fv (s_vm σ fv) M F (K - 10) a j) (by rw [hsl]; exact q4 j hj) hdg ?_
      have e9 : s_fv (s_vm σ fv) M F (K - 10) a j = s_vm σ fv (if kd = 2 then p_rv (p_fv F a j) else .int (iI (p_mv M a j))) := by
        unfold s_fv
        rw [← hkd]
        by_cases e : kd = 2
        · rw [if_pos e, decide_eq_true e, if_pos rfl]
        · rw [if_neg e, decide_eq_false e, if_neg (by decide)]; rfl
      rw [e9]
      exact hk
end PS6
