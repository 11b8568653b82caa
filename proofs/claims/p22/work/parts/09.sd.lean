section PSD
variable {p : Program} {l : Launch} {e : Env} {Rm : Room} {s : State} {m : MethodId} {args : Array Value} {below : List Frame} {meth : Method} {c : Code} {Q : State → Prop} {D : va_G} {fv : Value} {A : Nat → Prop} {n : Nat} {σ σ0 : Nat → Nat} {T T0 : pT} {M M' : pM} {F F' : pF} {H H' : Heap} {locs : List Loc} {L : List Slot} {ls : Array Slot} {cells slots : Nat} {st st' : List Value} {pc : Nat} {o : pG ⊕ pR} {a : Nat} {y : pC}
def s_nm : List String := ["java/lang/RuntimeException", "java/lang/Exception"]
def s_atC (q : Nat × Nat × Nat) : Bool := decide (q.2.2 < 3) && (vx_atS (p_cn q.1) q.2.1 (p_en q.2.2) s_nm).all (fun w => (decide (w = .castable (p_en q.2.2) (p_en q.2.2)) || (decide (w ∈ lw_tbl) && s_mv w)) && vx_ot w) && decide (.initialized (p_en q.2.2) ∈ lw_tbl) && Bundle.fit (p_en q.2.2)
set_option maxRecDepth 20000 in
theorem s_atOK : p_at.all s_atC = true := by decide +kernel
theorem s_nmfit : ∀ n ∈ s_nm, Bundle.fit n = true := by decide +kernel
/-- a cell of which nothing is known comes to the world -/
theorem s_W.new0 {U : State} (hW : s_W D σ fv T M F s H) (hal : s.vm.Alike U.vm) (oq : ∀ q : Nat, q < H.size → H'[q]? = H[q]?) : s_W D σ fv (p_new T 0 6) (uA M T.1.1 (fun _ => 0)) (uA F T.1.1 (fun _ => none)) U H' := by
  obtain ⟨h1, h2, h3, h4, h5, h6, h7⟩ := hW
  have h0 : ∀ b, (p_ty (p_new T 0 6) b).1 ≠ 0 → b ≠ T.1.1 ∧ p_ty (p_new T 0 6) b = p_ty T b := fun b hb => by
    by_cases e : b = T.1.1
    · subst e; rw [p_ty_newS h1] at hb; exact absurd rfl hb
    · exact ⟨e, p_ty_new e⟩
  refine ⟨Nat.le_succ_of_le h1, fun b hb => ?_, fun b => ?_, fun x z hx tx tz ez => ?_, fun x z tx tz ez => ?_, h6, fun b i r hb => ?_⟩
  · have hb : T.1.1 + 1 ≤ b := hb
    rw [p_ty_new (by omega)]
    exact h2 b (by omega)
  · by_cases e0 : (p_ty (p_new T 0 6) b).1 = 0
    · unfold s_c; rw [if_pos e0]; trivial
    · obtain ⟨e, e2⟩ := h0 b e0
      rw [e2] at e0 ⊢
      refine s_c.same (M := M) (F := F) (vm := s_vm σ fv) (fun i => ?_) (fun i => ?_) (((h3 b).kept (oq _ ((h3 b).lt e0))).moved hal)
      · unfold p_mv; rw [show uA M T.1.1 (fun _ => 0) b = M b from if_neg e]
      · have e2 : p_fv (uA F T.1.1 (fun _ => none)) b i = p_fv F b i := by unfold p_fv; rw [show uA F T.1.1 (fun _ => none) b = F b from if_neg e]
        rw [e2]
  · obtain ⟨-, e1⟩ := h0 x tx
    obtain ⟨-, e2⟩ := h0 z tz
    rw [e1] at tx
    rw [e2] at tz
    exact h4 x z hx tx tz ez
  · obtain ⟨-, e1⟩ := h0 x (by rw [tx]; decide)
    obtain ⟨-, e2⟩ := h0 z (by rw [tz]; decide)
    rw [e1] at tx
    rw [e2] at tz
    exact h5 x z tx tz ez
  · by_cases e : b = T.1.1
    · subst e
      unfold p_fv at hb
      rw [if_neg (by omega), show uA F T.1.1 (fun _ => none) T.1.1 = (fun _ => none) from if_pos rfl] at hb
      cases hb
    · have : p_fv F b i = some r := by unfold p_fv at hb ⊢; rwa [show uA F T.1.1 (fun _ => none) b = F b from if_neg e] at hb
      exact Nat.lt_succ_of_lt (h7 b i r this)
theorem s_throw {d idx E mc ms : Nat} {r9 : Nat × Nat × Nat × Nat} (hX : s_X p l s m meth c D y) (hn : n = y.2.2.2.1) (hRf : d + 1 ≤ Rm.frames) (hRl : 40 * (d + 1) ≤ Rm.locals) (hA : A = s_fr σ0 T0 s.heap.size) (hσ : ∀ a, a < T0.1.1 → σ a = σ0 a) (hT0 : T0.1.1 ≤ T.1.1) (hI : s_I D fv A s n σ T M F H locs L ls st) (hdg : decode y.2.2.1 pc = .ok (.new idx, 3)) (hl : (p_c y.1).lookup idx = some (1, E, r9))
    (h : 6 ≤ d ∧ st.length ≤ 4 ∧ p_thr y y.2.2.1 pc E = true) (hmc : cells + 1 ≤ mc) (hms : slots + 6 ≤ ms) (hRc : cells + 1 ≤ Rm.cells) (hRs : slots + 6 ≤ Rm.slots) {Qc : Array Value → State → Outcome → State → Prop} :
    W p l e Rm s m args below meth c H locs cells slots (vx_MQ below Qc (s_XC D fv σ0 T0 s.heap.size (.inr E, p_new T 0 6, uA M T.1.1 (fun _ => 0), uA F T.1.1 (fun _ => none))) args s mc ms A) (F0 m pc ls (st.map (s_vm σ fv))) := by
  obtain ⟨h6, h4, ht⟩ := h
  have h100 : 100 ≤ T.1.1 := hI.1.1
  have hts := hX.hts (args := args)
  have hV := hX.2.2.2.2.2.2.2.2.1
  have hchk := s_all s_cOK hl
  obtain ⟨z1, z2, z3, z4⟩ := r9
  unfold s_cchk at hchk
  simp only [Bool.and_eq_true] at hchk
  unfold p_thr at ht
  split at ht
  · rename_i i j d3 d4 d6 d9
    unfold p_thx at ht
    simp only [Bool.and_eq_true] at ht
    obtain ⟨⟨t1, t2⟩, t3⟩ := ht
    have t2 : (y.1, j, E) ∈ p_at := of_decide_eq_true t2
    obtain ⟨q, hq, hq1⟩ := List.any_eq_true.mp t1
    simp only [Bool.and_eq_true] at hq1
    have hq2 : q.1 = p_cn y.1 := of_decide_eq_true hq1.1
    have hq3 : q.2.1 = i := of_decide_eq_true hq1.2
    obtain ⟨sa, hsa⟩ := hV.2.2.1 q hq
    rw [hq2, hq3] at hsa
    have hat := List.all_eq_true.mp s_atOK _ t2
    unfold s_atC at hat
    simp only [Bool.and_eq_true] at hat
    obtain ⟨⟨⟨a1, a2⟩, a3⟩, a4⟩ := hat
    have a1 : E < 3 := of_decide_eq_true a1
    have a2 := List.all_eq_true.mp a2
    have hini : (.initialized (p_en E)) ∈ s_tbl := List.mem_filter.mpr ⟨of_decide_eq_true a3, rfl⟩
    have hcat := s_cat (st.map (s_vm σ fv))
    rw [List.length_map] at hcat
    refine vx_throwS (A := A) (names := s_nm) (cls := p_en E) hX.1 hX.2.1 (by unfold Launch.stackTraces; rw [hX.2.2.2.2.2.2.2.1]; decide +kernel) hX.2.2.2.1 a4 s_nmfit (hts _ (s_in_tbl hchk.1)) (hts _ hini) hsa (fun w hw => ?_) (fun w hw => ?_) hI.2.1.2.1 hI.2.1.2.2.1 hI.2.2.1 (by rw [hX.2.2.1, ← hn]; exact s_lsz hI.2.2.2.2.2.2.1) hdg d3 d4 d6 d9 (fun x hx => ?_) (show 2 + 3 < Rm.frames by omega) (show (((st.map (s_vm σ fv))).map fun v => v.category).sum + (13 * (2 + 1) + 43) ≤ Rm.locals by omega) hRc hRs hX.2.2.2.2.2.1 (fun t hal hz hk => ?_) hI.2.2.1.2.2 hmc hms
    · have h1 := a2 w hw
      simp only [Bool.and_eq_true, Bool.or_eq_true] at h1
      rcases h1.1 with h1 | h1
      · rw [of_decide_eq_true h1]
        exact (hV.2.2.2.2 E a1).use rfl
      · exact hts w (List.mem_filter.mpr ⟨of_decide_eq_true h1.1, h1.2⟩)
    · rcases List.mem_cons.mp hw with rfl | hw
      · rfl
      · rcases List.mem_cons.mp hw with rfl | hw
        · rfl
        · have h1 := a2 w hw
          simp only [Bool.and_eq_true] at h1
          exact h1.2
    · rw [hX.2.2.2.2.2.2.2.2.2] at hx
      obtain ⟨z0, hz0, rfl⟩ := List.mem_map.mp hx
      have := List.all_eq_true.mp t3 z0 hz0
      unfold covers
      dsimp only
      cases hb : (decide (z0.1 ≤ pc + 9) && decide (pc + 9 < z0.2.1))
      · rfl
      · rw [hb] at this; cases this
    · have hW := hI.1.new0 (U := t) (H' := t.heap) hal hk
      have hkF : va_F A s t := by
        refine ⟨Nat.le_trans hI.2.2.1.1 hz, fun q g1 g2 => (hk q (Nat.lt_of_lt_of_le g1 hI.2.2.1.1)).trans (hI.2.2.1.2.1 q g1 g2)⟩
      subst hA
      refine ⟨⟨E, _, _, _, σ, rfl, a1, rfl, ⟨hσ, hW, fun b hb tb => ?_⟩, Nat.lt_succ_of_le hT0, ?_, fun b i x hb => ?_⟩, hkF⟩
      · have hne : b ≠ T.1.1 := by rintro rfl; rw [p_ty_newS h100] at tb; exact tb rfl
        rw [p_ty_new hne] at tb
        exact hI.2.2.2.2.1 b hb tb
      · show (p_ty (p_new T 0 6) (T.1.1 + 1 - 1)).1 = 0
        rw [Nat.add_sub_cancel, p_ty_newS h100]
      · show x + 1 < T.1.1 + 1
        by_cases e : b = T.1.1
        · subst e
          unfold p_fv at hb
          rw [if_neg (by omega), show uA F T.1.1 (fun _ => none) T.1.1 = (fun _ => none) from if_pos rfl] at hb
          cases hb
        · have : p_fv F b i = some x := by unfold p_fv at hb ⊢; rwa [show uA F T.1.1 (fun _ => none) b = F b from if_neg e] at hb
          exact Nat.succ_lt_succ (hI.1.2.2.2.2.2.2 b i x this)
  · cases ht
end PSD
