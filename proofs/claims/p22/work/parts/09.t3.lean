section PT3
variable {args : Array Value} {s : State}
def g_hts (args : Array Value) (s : State) : Prop := ∀ w ∈ lw_tbl, w.before args s = true
def g_slchk (q : Nat × Nat × Nat) : Bool := match p_sN[q.1]? with
  | some t => lw_tbl.any (fun w => decide (w = .laysStatic t.1 t.2.1 t.2.2)) && lw_tbl.any (fun w => decide (w = .initialized t.1)) && (if q.2.1 = 0 then decide (g_tm q.2.2 = .static t.1 t.2.1 t.2.2) && (decide (q.2.2 = 28) || (decide (q.2.2 < 100) && decide (q.2.2 ≠ 29) && decide ((p_roT q.2.2).1 ≠ 0))) else g_msw.any (fun w => decide (w = .eq (.static t.1 t.2.1 t.2.2) (.int (iI q.2.2)))))
  | none => true
set_option maxRecDepth 20000 in
theorem g_slok : p_sl.all g_slchk = true := by decide +kernel
theorem g_anyof {l : List Cond} {w : Cond} (h : l.any (fun z => decide (z = w)) = true) : w ∈ l := by
  obtain ⟨z, hz, e⟩ := List.any_eq_true.mp h
  rw [← of_decide_eq_true e]; exact hz
theorem g_ats {a : Nat} (h1 : a < 100) (h2 : a ≠ 29) (h0 : (p_roT a).1 ≠ 0) (hg : g_pre args s) : g_at args s a := by
  have htag := (g_tags a h1).1
  simp only [List.mem_cons, List.not_mem_nil, or_false] at htag
  rcases htag with t | t | t | t | t | t | t
  · exact absurd t h0
  · exact (g_T90 h1 h2 t hg).1
  · exact (g_T91 h1 h2 t hg).1
  · exact (g_T93 h1 h2 t hg).1
  · exact (g_T95 h1 h2 t hg).1
  · exact (g_T12 h1 h2 t hg).1
  · exact (g_T21 h1 h2 t hg).1
set_option maxRecDepth 20000 in
theorem g_two : Cond.laysStatic Bundle.tN "UNASSIGNED_STACK" Bundle.steD ∈ lw_tbl ∧ Cond.laysStatic Bundle.tN "SUPPRESSED_SENTINEL" Bundle.listD ∈ lw_tbl ∧ Cond.initialized Bundle.tN ∈ lw_tbl := ⟨g_anyof (by decide +kernel), g_anyof (by decide +kernel), g_anyof (by decide +kernel)⟩
def g_lqw (q : Nat × String × Nat) : Bool := lw_tbl.any (fun w => decide (w = .stringRef "HexCabinetLaw" q.1 q.2.1))
set_option maxRecDepth 20000 in
theorem g_lqwok : p_lq.all g_lqw = true := by decide +kernel
theorem g_lqR (hg : g_pre args s) (ht : g_hts args s) (q : Nat × String × Nat) (hq : q ∈ p_lq) : vk_R "HexCabinetLaw" q.1 q.2.1 (g_ad args s q.2.2) s := by
  have h1 := List.all_eq_true.mp g_lqall q hq
  simp only [Bool.and_eq_true] at h1
  obtain ⟨⟨⟨h2, h3⟩, h4⟩, h5⟩ := h1
  have hat := g_ats (of_decide_eq_true h3) (of_decide_eq_true h4) (of_decide_eq_true h5) hg
  refine vk_R.of (A := args) (ht _ (g_anyof (List.all_eq_true.mp g_lqwok q hq))) ?_
  rw [Bool.or_eq_true] at h2
  rcases h2 with h2 | h2
  · rw [← of_decide_eq_true h2]; exact hat
  · obtain ⟨z, hz, hz2⟩ := List.any_eq_true.mp h2
    rw [Bool.and_eq_true] at hz2
    have e1 : z.2.1 = q.1 := of_decide_eq_true hz2.1
    have e2 : z.2.2 = q.2.2 := of_decide_eq_true hz2.2
    have h9 := hg _ (g_eat1 g_lqok _ (List.mem_map.mpr ⟨z, hz, rfl⟩))
    rw [e1, e2] at h9
    exact g_eqr h9 hat
theorem g_Z {A : Nat → Prop} (hg : g_pre args s) (ht : g_hts args s) (hA : ∀ a : Nat, a < s.heap.size → ¬ A a) : s_Z (g_ad args s) (g_fv args s) A s s.heap := by
  refine ⟨fun q hq t htq => ?_, vx_Zqof (ht _ g_two.1) (ht _ g_two.2.2) (hg _ (g_isr _ (List.mem_cons_of_mem _ List.mem_cons_self))) hA, vx_Zqof (ht _ g_two.2.1) (ht _ g_two.2.2) (hg _ (g_isr _ (List.mem_cons_of_mem _ (List.mem_cons_of_mem _ List.mem_cons_self)))) hA, fun q hq => g_lqR hg ht q hq⟩
  have h1 := List.all_eq_true.mp g_slok q hq
  unfold g_slchk at h1
  rw [htq] at h1
  simp only [Bool.and_eq_true] at h1
  obtain ⟨⟨h2, h3⟩, h4⟩ := h1
  refine va_Zof (ht _ (g_anyof h2)) (ht _ (g_anyof h3)) ?_ hA
  unfold s_sv
  by_cases e : q.2.1 = 0
  · rw [if_pos e] at h4 ⊢
    rw [Bool.and_eq_true] at h4
    have h5 := of_decide_eq_true h4.1
    rw [← h5]
    rcases Bool.or_eq_true _ _ ▸ h4.2 with h6 | h6
    · have h7 := of_decide_eq_true h6
      rw [h7]
      exact (g_fvr hg).1
    · simp only [Bool.and_eq_true] at h6
      have h9 := g_ats (of_decide_eq_true h6.1.1) (of_decide_eq_true h6.1.2) (of_decide_eq_true h6.2) hg
      have h28 : q.2.2 ≠ 28 := fun z => (by
        have := of_decide_eq_true h6.2
        rw [z] at this
        exact this rfl)
      rw [show s_vm (g_ad args s) (g_fv args s) (.ref q.2.2) = .ref (g_ad args s q.2.2) from if_neg h28]
      exact h9
  · rw [if_neg e] at h4 ⊢
    exact va_eqi (hg _ (g_eat1 g_msok _ (g_anyof h4)))
/-- classes can be made -/
def g_inst (C : String) : Bool := lw_tbl.any (fun w => match w with
  | .instantiable c _ => decide (c = C)
  | _ => false)
set_option maxRecDepth 20000 in
theorem g_instok : vwCl.all (fun q => g_inst q.1) = true := by decide +kernel
def vjx (k : Nat) : Nat := if k = 0 then 11 else if k = 1 then 9 else k - 2
theorem vcl_of' : ∀ {k : Nat} {q : vw_C}, vwCl[k]? = some q → vcl (vjx k) = some q
  | 0, _, h => by cases h; rfl
  | 1, _, h => by cases h; rfl
  | 2, _, h => by cases h; rfl
  | 3, _, h => by cases h; rfl
  | 4, _, h => by cases h; rfl
  | 5, _, h => by cases h; rfl
  | 6, _, h => by cases h; rfl
  | 7, _, h => by cases h; rfl
  | 8, _, h => by cases h; rfl
  | 9, _, h => by cases h; rfl
  | 10, _, h => by cases h; rfl
  | k + 11, _, h => by simp [vwCl] at h
theorem g_inst_of {C : String} (h : g_inst C = true) : ∃ n, Cond.instantiable C n ∈ lw_tbl := by
  obtain ⟨w, hw, e⟩ := List.any_eq_true.mp h
  cases w <;> try cases e
  have e' := of_decide_eq_true e
  subst e'
  exact ⟨_, hw⟩
def g_strchk (q : String × Nat × String) : Bool := lw_tbl.any (fun w => decide (w = .stringRef q.1 q.2.1 q.2.2))
set_option maxRecDepth 20000 in
theorem g_strok : p_str.all g_strchk = true := by decide +kernel
set_option maxRecDepth 20000 in
theorem g_ao2 : Cond.arrayOver (.object s_SC) ∈ lw_tbl := g_anyof (by decide +kernel)
set_option maxRecDepth 20000 in
theorem g_ao : Cond.arrayOver (.object s_KC) ∈ lw_tbl := g_anyof (by decide +kernel)
set_option maxRecDepth 20000 in
theorem g_cb : ∀ i, i < 3 → lw_tbl.any (fun z => decide (z = .castable (p_en i) (p_en i))) = true := by decide +kernel
theorem g_V (hg : g_pre args s) (ht : g_hts args s) (hs : ∀ q ∈ p_str, ∃ a, (Term.string q.1 q.2.1).eval args s none [] s = some (.ref a)) : ∃ D, s_V D s := by
  have hk : ∀ k : Nat, ∃ d : ClassId × (Nat → Nat), ∀ q : vw_C, vwCl[k]? = some q → u_Kn s q.1 q.2.1 q.2.2 d.1 d.2 := by
    intro k
    cases hc : vwCl[k]? with
    | none => exact ⟨(0, fun _ => 0), fun q h => by cases h⟩
    | some q =>
      obtain ⟨n, hn⟩ := g_inst_of (List.all_eq_true.mp g_instok q (List.mem_of_getElem? hc))
      obtain ⟨cC, iS, h⟩ := u_known (ws := lw_tbl) (C := q.1) (T := q.2.1) (N := q.2.2) ht (fun w hw => (List.mem_filter.mp ((s_own (vcl_of' hc)).1 w hw)).1) (ht _ hn)
      exact ⟨(cC, iS), fun q' h => by cases h; exact h⟩
  obtain ⟨Df, hD⟩ := Classical.axiomOfChoice hk
  refine ⟨(fun k => (Df k).1, fun k => (Df k).2), fun w hw a => s_mv_at (State.WarmedH.refl s) (List.mem_filter.mp hw).2 (ht w (List.mem_filter.mp hw).1), fun k q h => hD k q h, fun q hq => ?_, ⟨va_AO.of (ht _ g_ao), va_AO.of (ht _ g_ao2)⟩, fun i hi => va_Nw.of rfl (ht _ (g_anyof (g_cb i hi)))⟩
  obtain ⟨a, ha⟩ := hs q hq
  exact ⟨a, vk_R.of (ht _ (g_anyof (List.all_eq_true.mp g_strok q hq))) ha⟩
end PT3
