section PSI
variable {p : Program} {l : Launch} {e : Env} {Rm : Room} {s : State} {m : MethodId} {args : Array Value} {below : List Frame} {meth : Method} {c : Code} {D : va_G} {fv : Value} {A : Nat → Prop} {n : Nat} {σ0 : Nat → Nat} {T0 : pT} {y : pC} {call : pK} {d mc ms : Nat} {r : pR}
theorem s_run (hX : s_X p l s m meth c D y) (hh : s_hchk y = true) (hn : n = y.2.2.2.1) (hcall : s_call_ok l fv Rm call) (hcm : ∀ y as T M F r, call y as T M F = some r → s_mono T r.2.1) (hRf : d + 1 ≤ Rm.frames) (hRl : 40 * (d + 1) ≤ Rm.locals) (hA : A = s_fr σ0 T0 s.heap.size) (hmc : mc ≤ Rm.cells) (hms : ms ≤ Rm.slots) :
    ∀ (N : Nat) (pc : Nat) (L : List Slot) (st : List Value) (T : pT) (M : pM) (F : pF) (σ : Nat → Nat) (H : Heap) (locs : List Loc) (ls : Array Slot) (cells slots : Nat), (∀ a, a < T0.1.1 → σ a = σ0 a) → T0.1.1 ≤ T.1.1 → s_I D fv A s n σ T M F H locs L ls st → p_run d y call N (pc, L, st, T, M, F) = some r → cells + (r.2.1.1.1 - T.1.1) = mc → slots + (r.2.1.1.2 - T.1.2) = ms →
      W p l e Rm s m args below meth c H locs cells slots (s_MQ below D fv σ0 T0 r args s mc ms A) (F0 m pc ls (st.map (s_vm σ fv)))
  | 0, pc, L, st, T, M, F, σ, H, locs, ls, cells, slots, hσ, hT0, hI, h, hc, hs => by cases h
  | N + 1, pc, L, st, T, M, F, σ, H, locs, ls, cells, slots, hσ, hT0, hI, h, hc, hs => by
    rw [p_run] at h
    cases ho : p_step d y call (pc, L, st, T, M, F) with
    | none => rw [ho] at h; cases h
    | some o =>
      rw [ho] at h
      have ho' := ho
      unfold p_step at ho'
      dsimp only at ho'
      cases hdg : decode y.2.2.1 pc with
      | error er => rw [hdg] at ho'; cases ho'
      | ok il =>
        obtain ⟨ins, len⟩ := il
        rw [hdg] at ho'
        dsimp only at ho'
        have hm1 := p_one_mono hcm ho'
        refine s_one hX hh hn hcall hRf hRl hA hσ hT0 hI hdg ho' (fun g hg => ?_) (fun g hg => ?_) (fun r' hr => ?_) hmc hms
        · subst hg
          have hm1' : s_mono T g.2.2.2.1 := hm1
          have h' : p_run d y call N g = some r := h
          have hm2 := p_run_T hcm N g h'
          intro σ' H' locs' ls' hI' hσ' hT1 hT2
          have m1 := hm1'.1
          have m2 := hm1'.2.1
          have m3 := hm2.1
          have m4 := hm2.2.1
          exact s_run hX hh hn hcall hcm hRf hRl hA hmc hms N g.1 g.2.1 g.2.2.1 g.2.2.2.1 g.2.2.2.2.1 g.2.2.2.2.2 σ' H' locs' ls' _ _ (fun a ha => (hσ' a (Nat.lt_of_lt_of_le ha hT0)).trans (hσ a ha)) (Nat.le_trans hT0 m1) hI' h' (by omega) (by omega)
        · subst hg
          have hm1' : s_mono T g.2.2.2.1 := hm1
          have h' : p_run d y call N g = some r := h
          have hm2 := p_run_T hcm N g h'
          have m1 := hm1'.1
          have m2 := hm1'.2.1
          have m3 := hm2.1
          have m4 := hm2.2.1
          exact ⟨by omega, by omega⟩
        · subst hr
          cases h
          exact ⟨rfl, hc, hs⟩
theorem s_args (vm : Value → Value) (hc : ∀ v, (vm v).category = v.category) (tl : Nat) : ∀ (as : List Value) (k i : Nat) (v : Value), (lg_sl as ++ List.replicate tl Slot.unset)[i]? = some (.val v) → (i + k, vm v) ∈ lv_args k (as.map vm)
  | [], k, i, v, h => by
    rw [show lg_sl [] = [] from rfl, List.nil_append] at h
    have h2 := List.eq_of_mem_replicate (List.mem_of_getElem? h)
    cases h2
  | a :: as, k, i, v, h => by
    rw [List.map_cons]
    show _ ∈ (k, vm a) :: lv_args (if (vm a).category = 2 then k + 2 else k + 1) (as.map vm)
    rw [hc a]
    have e : lg_sl (a :: as) = (if a.category = 2 then [.val a, .second] else [.val a]) ++ lg_sl as := rfl
    rw [e] at h
    by_cases c2 : a.category = 2
    · rw [if_pos c2] at h ⊢
      match i, h with
      | 0, h =>
        have h' : some (Slot.val a) = some (.val v) := h
        cases h'
        rw [Nat.zero_add]
        exact List.mem_cons_self
      | 1, h =>
        have h' : some Slot.second = some (.val v) := h
        cases h'
      | i + 2, h =>
        refine List.mem_cons_of_mem _ ?_
        have h3 := s_args vm hc tl as (k + 2) i v h
        rw [show i + 2 + k = i + (k + 2) by omega]
        exact h3
    · rw [if_neg c2] at h ⊢
      match i, h with
      | 0, h =>
        have h' : some (Slot.val a) = some (.val v) := h
        cases h'
        rw [Nat.zero_add]
        exact List.mem_cons_self
      | i + 1, h =>
        refine List.mem_cons_of_mem _ ?_
        have h3 := s_args vm hc tl as (k + 1) i v h
        rw [show i + 1 + k = i + (k + 1) by omega]
        exact h3
theorem s_argm (tl : Nat) : ∀ (as : List Value) (i : Nat) (v : Value), (lg_sl as ++ List.replicate tl Slot.unset)[i]? = some (.val v) → v ∈ as
  | [], i, v, h => by
    rw [show lg_sl [] = [] from rfl, List.nil_append] at h
    have h2 := List.eq_of_mem_replicate (List.mem_of_getElem? h)
    cases h2
  | a :: as, i, v, h => by
    have e : lg_sl (a :: as) = (if a.category = 2 then [.val a, .second] else [.val a]) ++ lg_sl as := rfl
    rw [e] at h
    by_cases c2 : a.category = 2
    · rw [if_pos c2] at h
      match i, h with
      | 0, h =>
        have h' : some (Slot.val a) = some (.val v) := h
        cases h'
        exact List.mem_cons_self
      | 1, h =>
        have h' : some Slot.second = some (.val v) := h
        cases h'
      | i + 2, h => exact List.mem_cons_of_mem _ (s_argm tl as i v h)
    · rw [if_neg c2] at h
      match i, h with
      | 0, h =>
        have h' : some (Slot.val a) = some (.val v) := h
        cases h'
        exact List.mem_cons_self
      | i + 1, h => exact List.mem_cons_of_mem _ (s_argm tl as i v h)
theorem s_sllen (vm : Value → Value) (hc : ∀ v, (vm v).category = v.category) : ∀ as : List Value, (lg_sl (as.map vm)).length = (lg_sl as).length
  | [] => rfl
  | a :: as => by
    have e : lg_sl (a :: as) = (if a.category = 2 then [.val a, .second] else [.val a]) ++ lg_sl as := rfl
    have e' : lg_sl ((a :: as).map vm) = (if (vm a).category = 2 then [.val (vm a), .second] else [.val (vm a)]) ++ lg_sl (as.map vm) := rfl
    rw [e, e', List.length_append, List.length_append, s_sllen vm hc as, hc a]
    by_cases c2 : a.category = 2
    · rw [if_pos c2, if_pos c2]; rfl
    · rw [if_neg c2, if_neg c2]; rfl
theorem s_ofW {l : Launch} {y : MethodName} {ws ws' : List Cond} {rm : Room} {Pc : Array Value → State → Prop} {Qc : Array Value → State → Outcome → State → Prop} {XC : String → State → State → Prop} {mc ms : Nat} {free : Addr → Prop} {cc : ByteArray} {maxL : Nat} {ret : Option FieldType}
    (hy : plainFor y = true) (hw : ws = Cond.code y cc maxL ret :: ws')
    (body : ∀ (p : Program) (e : Env) (s : State) (m : MethodId) (args : Array Value) (below : List Frame) (meth : Method) (c : Code) (s₁ : State), BodyLoose p l y (headSpec ws rm) cc maxL ret e s m args below meth c s₁ → c.maxLocals = maxL → (∀ x ∈ c.exceptionTable.toList, False) → Pc args s →
      W p l e (headSpec ws rm).room s m args below meth c s.heap [] 0 0 (vx_MQ below Qc XC args s mc ms free) (entryFrame m args maxL)) : vx_Met l y ws rm Pc Qc XC mc ms free := by
  refine MetFree.of_bodySF (code := cc) (maxLocals := maxL) (ret := ret) hy (fun args s m h hn => ?_) (fun p e s m args below meth c s₁ B hml hP _ => ?_)
  · obtain ⟨meth, c, h1, h2, h3, h4, h5, h6, -, -⟩ := Cond.code_spec hn (atoms_spec (ws := ws) h _ (by rw [hw]; exact List.mem_cons_self))
    exact ⟨meth, c, h1, h2, h3, h4, h5, h6⟩
  · have hh0 : s₁.heap = s.heap := by rw [B.state]; rfl
    obtain ⟨t, a1, o, b1, b2, b3⟩ := body p e s m args below meth c s₁ B hml (fun x hx => by
      obtain ⟨meth9, c9, h1, h2, -, -, -, -, h7, -⟩ := Cond.code_spec B.named (atoms_spec (ws := ws) B.pre _ (by rw [hw]; exact List.mem_cons_self))
      cases Option.some.inj (h1.symm.trans B.method)
      cases Option.some.inj (h2.symm.trans (Stand.of_body B).code)
      rw [Array.isEmpty_iff.mp h7] at hx
      cases hx) hP s₁ hh0 (Stand.of_body B)
    exact ⟨t, o, a1, b1, b2, b3⟩
theorem s_ofWH {l : Launch} {y : MethodName} {ws ws' : List Cond} {rm : Room} {Pc : Array Value → State → Prop} {Qc : Array Value → State → Outcome → State → Prop} {XC : String → State → State → Prop} {mc ms : Nat} {free : Addr → Prop} {cc : ByteArray} {maxL : Nat} {ret : Option FieldType} {hh : List (Nat × Nat × Nat × Nat)}
    (hy : plainFor y = true) (hw : ws = Cond.codeWith y cc maxL ret hh :: ws')
    (body : ∀ (p : Program) (e : Env) (s : State) (m : MethodId) (args : Array Value) (below : List Frame) (meth : Method) (c : Code) (s₁ : State), BodyLoose p l y (headSpec ws rm) cc maxL ret e s m args below meth c s₁ → c.maxLocals = maxL → Pc args s →
      W p l e (headSpec ws rm).room s m args below meth c s.heap [] 0 0 (vx_MQ below Qc XC args s mc ms free) (entryFrame m args maxL)) : vx_Met l y ws rm Pc Qc XC mc ms free := by
  refine MetFree.of_bodySF (code := cc) (maxLocals := maxL) (ret := ret) hy (fun args s m h hn => ?_) (fun p e s m args below meth c s₁ B hml hP _ => ?_)
  · obtain ⟨m9, meth, c, hn9, h1, h2, h3, h4, -, h5, h6, -⟩ := Cond.codeWith_spec (atoms_spec (ws := ws) h _ (by rw [hw]; exact List.mem_cons_self))
    cases hn.symm.trans hn9
    exact ⟨meth, c, h1, h2, h3, h4, h5, h6⟩
  · have hh0 : s₁.heap = s.heap := by rw [B.state]; rfl
    obtain ⟨t, a1, o, b1, b2, b3⟩ := body p e s m args below meth c s₁ B hml hP s₁ hh0 (Stand.of_body B)
    exact ⟨t, o, a1, b1, b2, b3⟩
theorem s_snd {l : Launch} (hl : l.flags = flags0) (fv : Value) : ∀ (d : Nat) (y : pC), s_good y → ∀ (as : List Value) (T : pT) (M : pM) (F : pF) (r : pR), (∀ v ∈ as, s_lt T.1.1 v) → callD d y as T M F = some r → ∀ (D : va_G) (σ : Nat → Nat) (sz : Nat), s_Met l d y as T M F r D fv σ sz
  | 0, y, hg, as, T, M, F, r, hb, h, D, σ, sz => by cases h
  | d + 1, y, hg, as, T, M, F, r, hb, h, D, σ, sz => by
    rw [callD] at h
    dsimp only at h
    by_cases hlen : (lg_sl as).length ≤ y.2.2.2.1
    · rw [if_pos hlen] at h
      obtain ⟨N, hN⟩ := p_lim_ex h
      obtain ⟨g1, g2, g3, g4⟩ := hg
      have hcall : ∀ mc ms, s_call_ok l fv (s_rm (d + 1) mc ms) (callD d) := fun mc ms y' hy' as' T' M' F' r' hb' h' => ⟨callD_T d y' as' T' M' F' r' h', d, Nat.le_refl _, Nat.le_refl _, fun D' σ' sz' => s_snd hl fv d y' hy' as' T' M' F' r' hb' h' D' σ' sz'⟩
      have hbody : ∀ (p : Program) (e : Env) (s : State) (m : MethodId) (args : Array Value) (below : List Frame) (meth : Method) (c : Code) (s₁ : State), BodyLoose p l y.2.1 (headSpec [s_cw y] (s_rm (d + 1) (r.2.1.1.1 - T.1.1) (r.2.1.1.2 - T.1.2))) y.2.2.1 y.2.2.2.1 y.2.2.2.2.1 e s m args below meth c s₁ → c.maxLocals = y.2.2.2.1 → c.exceptionTable.toList = tableOf y.2.2.2.2.2 → s_Pc D fv σ T M F sz as args s →
          W p l e (s_rm (d + 1) (r.2.1.1.1 - T.1.1) (r.2.1.1.2 - T.1.2)) s m args below meth c s.heap [] 0 0 (vx_MQ below (s_Qc D fv σ T sz r) (s_XC D fv σ T sz r) args s (r.2.1.1.1 - T.1.1) (r.2.1.1.2 - T.1.2) (s_fr σ T sz)) (entryFrame m args y.2.2.2.1) := by
        intro p e s m args below meth c s₁ B hml htab hP
        obtain ⟨hav, hsz, hW, hZ, hV⟩ := hP
        subst hsz
        have hcat : ∀ v, (s_vm σ fv v).category = v.category := s_vm_cat hW.2.2.2.2.2.1
        have he : entryFrame m args y.2.2.2.1 = F0 m 0 ((lg_sl (as.map (s_vm σ fv)) ++ List.replicate (y.2.2.2.1 - (lg_sl (as.map (s_vm σ fv))).length) Slot.unset).toArray) [] := by
          rw [hav]
          exact lg_entry_eq ..
        rw [he]
        have hX : s_X p l s m meth c D y := ⟨B.exec, B.bytes, hml, by rw [← g1]; exact findClass_of_methodNamed B.named, B.returns, B.notSynchronized, (name_of_methodNamed B.named B.method).1, hl, hV, htab⟩
        have hI : s_I D fv (s_fr σ T s.heap.size) s y.2.2.2.1 σ T M F s.heap [] (p_ent y as) ((lg_sl (as.map (s_vm σ fv)) ++ List.replicate (y.2.2.2.1 - (lg_sl (as.map (s_vm σ fv))).length) Slot.unset).toArray) [] := by
          refine ⟨hW, hZ, va_S.rf, fun q hq => Or.inr hq, fun a ha ht => Or.inl ⟨a, ha, ht, rfl⟩, fun a ha ht => ?_, ⟨?_, lv_args 0 (as.map (s_vm σ fv)), lv_entry _ (by rw [s_sllen _ hcat]; exact hlen), fun i v hi _ => ?_⟩, (fun v hv => by cases hv), fun i v hi => hb v (s_argm _ as i v hi)⟩
          · rintro (⟨b, hb1, hb2, hb3⟩ | hq)
            · have e1 := hW.2.2.2.1 b a hb1 hb2 ht hb3.symm
              omega
            · have := (hW.2.2.1 a).lt ht
              omega
          · unfold p_ent
            rw [List.length_append, List.length_replicate]
            omega
          · have h2 := s_args (s_vm σ fv) hcat _ as 0 i v hi
            rwa [Nat.add_zero] at h2
        exact s_run hX g2 rfl (hcall _ _) (callD_T d) (Nat.le_refl _) (Nat.le_refl _) rfl (Nat.le_refl _) (Nat.le_refl _) N 0 (p_ent y as) [] T M F σ s.heap [] _ 0 0 (fun _ _ => rfl) (Nat.le_refl _) hI hN (Nat.zero_add _) (Nat.zero_add _)
      have hpl := g3.2
      unfold s_Met
      by_cases ht : y.2.2.2.2.2 = []
      · refine s_ofW (cc := y.2.2.1) (maxL := y.2.2.2.1) (ret := y.2.2.2.2.1) (ws' := []) hpl (by unfold s_cw; rw [if_pos ht]) (fun p e s m args below meth c s₁ B hml htab hP => hbody p e s m args below meth c s₁ B hml ?_ hP)
        rw [ht]
        exact List.eq_nil_iff_forall_not_mem.mpr htab
      · have hcw : s_cw y = .codeWith y.2.1 y.2.2.1 y.2.2.2.1 y.2.2.2.2.1 y.2.2.2.2.2 := by unfold s_cw; rw [if_neg ht]
        refine s_ofWH (cc := y.2.2.1) (maxL := y.2.2.2.1) (ret := y.2.2.2.2.1) (hh := y.2.2.2.2.2) (ws' := []) hpl (by rw [hcw]) (fun p e s m args below meth c s₁ B hml hP => hbody p e s m args below meth c s₁ B hml ?_ hP)
        exact vx_table (x := y.2.1) (y := y.2.1) B (atoms_spec (ws := [s_cw y]) B.pre _ (by rw [hcw]; exact List.mem_cons_self))
    · rw [if_neg hlen] at h
      cases h
end PSI
