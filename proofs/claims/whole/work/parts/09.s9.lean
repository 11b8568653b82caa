section PS9
def s_rm (d mc ms : Nat) : Room := { frames := d, cells := mc, slots := ms, locals := 40 * d }
def s_Pc (D : va_G) (fv : Value) (σ : Nat → Nat) (T : pT) (M : pM) (F : pF) (sz : Nat) (as : List Value) : Array Value → State → Prop := va_Pc (as.map (s_vm σ fv)) (fun U => U.heap.size = sz ∧ s_W D σ fv T M F U U.heap ∧ s_Z σ fv (s_fr σ T sz) U U.heap ∧ s_V D U)
def s_ok (D : va_G) (fv : Value) (σ : Nat → Nat) (T : pT) (sz : Nat) (σ' : Nat → Nat) (T' : pT) (M' : pM) (F' : pF) (t : State) : Prop := (∀ a, a < T.1.1 → σ' a = σ a) ∧ s_W D σ' fv T' M' F' t t.heap ∧ (∀ a, 100 ≤ a → (p_ty T' a).1 ≠ 0 → s_fr σ T sz (σ' a))
def s_Qc (D : va_G) (fv : Value) (σ : Nat → Nat) (T : pT) (sz : Nat) (r : pR) : Array Value → State → Outcome → State → Prop := fun _ st o t => (∃ (v : Option Value) (T' : pT) (M' : pM) (F' : pF) (σ' : Nat → Nat), r = (.inl v, T', M', F') ∧ o = .returned (v.map (s_vm σ' fv)) ∧ s_ok D fv σ T sz σ' T' M' F' t ∧ ∀ w, v = some w → s_lt T'.1.1 w) ∧ va_F (s_fr σ T sz) st t
def s_XC (D : va_G) (fv : Value) (σ : Nat → Nat) (T : pT) (sz : Nat) (r : pR) : String → State → State → Prop := fun E st t => (∃ (ec : Nat) (T' : pT) (M' : pM) (F' : pF) (σ' : Nat → Nat), r = (.inr ec, T', M', F') ∧ ec < 3 ∧ E = p_en ec ∧ s_ok D fv σ T sz σ' T' M' F' t ∧ T.1.1 < T'.1.1 ∧ (p_ty T' (T'.1.1 - 1)).1 = 0 ∧ ∀ a i x, p_fv F' a i = some x → x + 1 < T'.1.1) ∧ va_F (s_fr σ T sz) st t
def s_Met (l : Launch) (d : Nat) (y : pC) (as : List Value) (T : pT) (M : pM) (F : pF) (r : pR) (D : va_G) (fv : Value) (σ : Nat → Nat) (sz : Nat) : Prop :=
  vx_Met l y.2.1 [s_cw y] (s_rm d (r.2.1.1.1 - T.1.1) (r.2.1.1.2 - T.1.2)) (s_Pc D fv σ T M F sz as) (s_Qc D fv σ T sz r) (s_XC D fv σ T sz r) (r.2.1.1.1 - T.1.1) (r.2.1.1.2 - T.1.2) (s_fr σ T sz)
def s_mono (T T' : pT) : Prop := T.1.1 ≤ T'.1.1 ∧ T.1.2 ≤ T'.1.2 ∧ ∀ a, a < T.1.1 → p_ty T' a = p_ty T a
theorem s_mono.rf {T : pT} : s_mono T T := ⟨Nat.le_refl _, Nat.le_refl _, fun _ _ => rfl⟩
theorem s_mono.tr {T T' T'' : pT} (h : s_mono T T') (h' : s_mono T' T'') : s_mono T T'' := ⟨Nat.le_trans h.1 h'.1, Nat.le_trans h.2.1 h'.2.1, fun a ha => (h'.2.2 a (Nat.lt_of_lt_of_le ha h.1)).trans (h.2.2 a ha)⟩
theorem s_mono.new {T : pT} {tag N : Nat} : s_mono T (p_new T tag N) := ⟨Nat.le_succ _, Nat.le_add_right _ _, fun a ha => p_ty_new (Nat.ne_of_lt ha)⟩
variable {p : Program} {l : Launch} {e : Env} {Rm : Room} {s : State} {m : MethodId} {args : Array Value} {below : List Frame} {meth : Method} {c : Code} {Q : State → Prop} {D : va_G} {fv : Value} {A : Nat → Prop} {n : Nat} {σ : Nat → Nat} {T : pT} {M M' : pM} {F F' : pF} {H H' : Heap} {locs : List Loc} {L : List Slot} {ls : Array Slot} {cells slots : Nat} {st st' : List Value} {pc : Nat} {o : pG ⊕ pR} {a : Nat} {y : pC}
theorem s_frA (hI : s_I D fv A s n σ T M F H locs L ls st) : ∀ q, s_fr σ T H.size q → A q := by
  rintro q (⟨b, hb, tb, rfl⟩ | hq)
  · exact hI.2.2.2.2.1 b hb tb
  · exact hI.2.2.2.1 q (Nat.le_trans hI.2.2.1.1 hq)
/-- the frame goes on behind a call -/
theorem s_behind {σ' : Nat → Nat} {T' : pT} {t : State} {H' : Heap} {L1 : List Loc} {st' : List Value} (hI : s_I D fv A s n σ T M F H locs L ls st) (hal : s.vm.Alike t.vm) (hH : H' = t.heap) (hok : s_ok D fv σ T H.size σ' T' M' F' t) (hm : s_mono T T') (hz : H.size ≤ H'.size) (hk : ∀ q : Nat, q < H.size → ¬ s_fr σ T H.size q → H'[q]? = H[q]?) (hL : ∀ q ∈ L1, s_fr σ T H.size q.base) (hst : ∀ v ∈ st', s_lt T'.1.1 v) :
    s_I D fv A s n σ' T' M' F' H' (locs ++ L1) L ls st' := by
  obtain ⟨h1, h2, h3, h4, h5, h6, h7, h8, h9⟩ := id hI
  have h100 : 100 ≤ T.1.1 := h1.1
  subst hH
  refine ⟨hok.2.1.moved hal.symm, h2.sig (fun a ha => hok.1 a (by omega)), ⟨Nat.le_trans h3.1 hz, fun q g1 g2 => (hk q (Nat.lt_of_lt_of_le g1 h3.1) (fun z => g2 (s_frA hI q z))).trans (h3.2.1 q g1 g2), fun q hq => ?_⟩, h4, fun b hb tb => s_frA hI _ (hok.2.2 b hb tb), fun b hb tb => ?_, h7.ext (fun i v hi => s_vm_ext (n := T.1.1) hok.1 (h9 i v hi)), hst, fun i v hi a ha => Nat.lt_of_lt_of_le (h9 i v hi a ha) hm.1⟩
  · rcases List.mem_append.mp hq with h | h
    · exact h3.2.2 q h
    · exact s_frA hI _ (hL q h)
  · rw [hm.2.2 b (by omega)] at tb
    rw [hok.1 b (by omega)]
    exact h6 b hb tb
theorem s_I.name {q k : Nat} (hI : s_I D fv A s n σ T M F H locs L ls st) (hk : k + 1 = T.1.1) (h0 : (p_ty T k).1 = 0) (h100 : 100 ≤ k) (hf : ∀ a i x, p_fv F a i = some x → x + 1 < T.1.1) (hL : ∀ (i : Nat) (v : Value), L[i]? = some (.val v) → s_lt k v) : s_I D fv A s n (s_sn σ k q) T M F H locs L ls [.ref k] := by
  obtain ⟨h1, h2, h3, h4, h5, h6, h7, h8, h9⟩ := id hI
  obtain ⟨w1, w2, w3, w4, w5, w6, w7⟩ := h1
  have hne : ∀ b, (p_ty T b).1 ≠ 0 → s_sn σ k q b = σ b := fun b hb => if_neg (fun e => hb (by rw [e]; exact h0))
  have hlt : ∀ b, b < k → s_sn σ k q b = σ b := fun b hb => if_neg (Nat.ne_of_lt hb)
  refine ⟨⟨w1, w2, fun b => ?_, fun x z hx tx tz ez => ?_, fun x z tx tz ez => ?_, w6, w7⟩, h2.sig (fun a ha => hlt a (by omega)), h3, h4, fun b hb tb => ?_, fun b hb tb => ?_, h7.ext (fun i v hi => s_vm_ext (n := k) hlt (hL i v hi)), fun v hv => ?_, h9⟩
  · by_cases e0 : (p_ty T b).1 = 0
    · unfold s_c; rw [if_pos e0]; trivial
    · rw [hne b e0]
      refine s_c.same (M := M) (F := F) (vm := s_vm σ fv) (fun i => rfl) (fun i => ?_) (w3 b)
      refine s_vm_ext (n := k) hlt (fun r hr => ?_)
      cases hf' : p_fv F b i with
      | none => rw [hf'] at hr; cases hr
      | some x => rw [hf'] at hr; cases hr; exact Nat.lt_of_succ_lt_succ (Nat.lt_of_lt_of_eq (hf b i _ hf') hk.symm)
  · rw [hne x tx, hne z tz] at ez
    exact w4 x z hx tx tz ez
  · rw [hne x (by rw [tx]; decide), hne z (by rw [tz]; decide)] at ez
    exact w5 x z tx tz ez
  · rw [hne b tb]
    exact h5 b hb tb
  · rw [hne b tb]
    exact h6 b hb tb
  · rw [List.mem_singleton.mp hv]
    intro a ha
    cases ha
    exact Nat.lt_of_lt_of_eq (Nat.lt_succ_self k) hk
theorem s_hcl (hh : s_hchk y = true) {z : Nat × Nat × Nat × Nat} (hz : z ∈ y.2.2.2.2.2) : z.2.2.2 ≠ 0 ∧ ∃ (E : Nat) (w : Nat × Nat × Nat × Nat), (p_c y.1).lookup z.2.2.2 = some (1, E, w) ∧ E < 3 ∧ (.classLink (p_cn y.1) z.2.2.2 (p_en E)) ∈ s_tbl := by
  have h1 := List.all_eq_true.mp hh z hz
  rw [Bool.and_eq_true] at h1
  refine ⟨of_decide_eq_true h1.1, ?_⟩
  have h2 := h1.2
  cases hlu : (p_c y.1).lookup z.2.2.2 with
  | none => rw [hlu] at h2; cases h2
  | some w =>
    rw [hlu] at h2
    obtain ⟨k0, E, w⟩ := w
    have hk0 : k0 = 1 := of_decide_eq_true h2
    subst hk0
    have hchk := s_all s_cOK hlu
    unfold s_cchk at hchk
    simp only [Bool.and_eq_true] at hchk
    exact ⟨E, w, rfl, of_decide_eq_true hchk.2, s_in_tbl hchk.1⟩
theorem s_call {mc ms : Nat} {st0 : List Value} {as : Array Value} {r : pR} (hX : s_X p l s m meth c D y) (hrun : vx_Run p l e Rm s m args below meth c H locs cells slots mc ms (F0 m pc ls st0) (st.map (s_vm σ fv)) (s_Qc D fv σ T H.size r as) (s_XC D fv σ T H.size r) (s_fr σ T H.size)) (hmc : mc = r.2.1.1.1 - T.1.1) (hms : ms = r.2.1.1.2 - T.1.2) (hm : s_mono T r.2.1)
    (hI : s_I D fv A s n σ T M F H locs L ls st) (hh : s_hchk y = true) (h : p_cb (some r) y pc L st = some o) (k : ∀ g, o = .inl g → s_K p l e Rm s m args below meth c Q D fv A n σ T cells slots g) : W p l e Rm s m args below meth c H locs cells slots Q (F0 m pc ls st0) := by
  intro T0 hT X
  rcases hrun T0 hT X with ⟨v, st₀, t, T', L1, h0, X', hL, e1, e2, hq, stp⟩ | ⟨q, st₀, t, T', L1, E, ce, h0, X', hL, e1, e2, hx, hce, hcv, hcl, stp⟩
  · obtain ⟨⟨v', T2, M2, F2, σ', rfl, hv, hok, hvl⟩, hz, hk⟩ := hq
    rw [h0] at hz hk
    have hal : s.vm.Alike t.vm := by rw [← e2]; exact X'.warmed.alike
    have hv : v = v'.map (s_vm σ' fv) := Outcome.returned.inj hv
    have hst : ∀ w ∈ v'.toList ++ st, s_lt T2.1.1 w := by
      intro w hw
      rcases List.mem_append.mp hw with hw | hw
      · cases v' with
        | none => cases hw
        | some x => exact hvl w (by rw [List.mem_singleton.mp hw])
      · exact fun a ha => Nat.lt_of_lt_of_le (hI.bnd w hw a ha) hm.1
    have hK := k _ (Option.some.inj h).symm σ' T'.heap (locs ++ L1) ls (s_behind hI hal e1 hok hm (by rw [e1]; exact hz) (fun q g1 g2 => by rw [e1]; exact hk q g1 g2) hL hst) hok.1 hm.1 hm.2.1
    subst hmc; subst hms
    obtain ⟨t2, a1, b1⟩ := hK T' rfl X'
    refine ⟨t2, stp t2 ?_, b1⟩
    have e9 : (v'.toList ++ st).map (s_vm σ' fv) = v.toList ++ st.map (s_vm σ fv) := by
      rw [List.map_append, s_vm_map hok.1 hI.bnd, hv]
      cases v' <;> rfl
    dsimp only at a1
    rw [e9] at a1
    exact a1
  · obtain ⟨⟨ec, T2, M2, F2, σ', rfl, hec, hE, hok, hlt, ht0, hrf⟩, hz, hk⟩ := hx
    rw [h0] at hz hk
    have hal : s.vm.Alike t.vm := by rw [← e2]; exact X'.warmed.alike
    unfold p_cb at h
    dsimp only at h hm hlt hmc hms
    cases hp : p_hnd y pc ec with
    | none => rw [hp] at h; cases h
    | some h9 =>
      rw [hp] at h
      dsimp only at h
      unfold p_hnd at hp
      obtain ⟨hd, hf, hd9⟩ := Option.map_eq_some_iff.mp hp
      obtain ⟨hpd, pre, suf, hsp, hpre⟩ := List.find?_eq_some_iff_append.mp hf
      simp only [Bool.and_eq_true, decide_eq_true_eq] at hpd
      have hfi : hd ∈ y.2.2.2.2.2 := by rw [hsp]; exact List.mem_append_right _ List.mem_cons_self
      obtain ⟨hz0, E1, w1, hlu1, hE1, hin1⟩ := s_hcl hh hfi
      have hee : E1 = ec := by
        have h2 := hpd.2
        rw [hlu1] at h2
        exact (Prod.mk.inj (Option.some.inj h2)).2
      subst hee
      have hts := hX.hts (args := args)
      have hV := hX.2.2.2.2.2.2.2.2.1
      have hb1 : s_I D fv A s n σ' T2 M2 F2 t.heap (locs ++ L1) L ls [] := s_behind hI hal rfl hok hm (by exact hz) (fun q g1 g2 => hk q g1 g2) hL (fun v hv => by cases hv)
      have h100 : 100 ≤ T.1.1 := hI.1.1
      have hb2 := hb1.name (q := q) (k := T2.1.1 - 1) (by omega) ht0 (by omega) hrf (fun i v hi a ha => Nat.lt_of_lt_of_le (hI.2.2.2.2.2.2.2.2 i v hi a ha) (by omega))
      have hK := k _ (Option.some.inj h).symm (s_sn σ' (T2.1.1 - 1) q) t.heap (locs ++ L1) ls hb2 (fun a ha => by rw [show s_sn σ' (T2.1.1 - 1) q a = σ' a from if_neg (by omega)]; exact hok.1 a ha) hm.1 hm.2.1
      have e9 : s_vm (s_sn σ' (T2.1.1 - 1) q) fv (.ref (T2.1.1 - 1)) = .ref q := by
        unfold s_vm
        dsimp only
        rw [if_neg (by intro e; have e' : (T2.1.1 - 1 : Nat) = 28 := e; omega), show s_sn σ' (T2.1.1 - 1) q (T2.1.1 - 1) = q from if_pos rfl]
      have e8 : List.map (s_vm (s_sn σ' (T2.1.1 - 1) q) fv) [.ref (T2.1.1 - 1)] = [.ref q] := by rw [List.map_cons, List.map_nil, e9]
      dsimp only at hK
      rw [e8] at hK
      subst hmc; subst hms
      subst hd9
      subst hE
      have hres := vx_catch (H := t.heap) (rest := st.map (s_vm σ fv)) (pc := pc) hX.2.2.2.1 (tableOf pre) ⟨hd.1, hd.2.1, hd.2.2.1, hd.2.2.2⟩ (tableOf suf) (by rw [hX.2.2.2.2.2.2.2.2.2, hsp]; unfold tableOf; rw [List.map_append, List.map_cons]) (fun z hz9 => ?_) (by unfold covers; dsimp only; rw [decide_eq_true hpd.1.1, decide_eq_true hpd.1.2]; rfl) hz0 (hts _ hin1) ((hV.2.2.2.2.1 _ hE1).use rfl) (by rw [← e1]; rw [e1]; exact hce) hcv hcl hK
      · obtain ⟨t2, a1, b1⟩ := hres T' e1 X'
        exact ⟨t2, stp.trans a1, b1⟩
      · obtain ⟨z0, hz0m, rfl⟩ := List.mem_map.mp hz9
        have hno := hpre z0 hz0m
        by_cases hcov : z0.1 ≤ pc ∧ pc < z0.2.1
        · refine Or.inr ?_
          obtain ⟨g0, E2, w2, hlu2, hE2, hin2⟩ := s_hcl hh (by rw [hsp]; exact List.mem_append_left _ hz0m)
          refine ⟨g0, _, hts _ hin2, hV.2.2.2.2.2 _ _ hE1 hE2 (fun e => ?_)⟩
          subst e
          rw [hlu2, decide_eq_true hcov.1, decide_eq_true hcov.2] at hno
          simp at hno
        · refine Or.inl ?_
          unfold covers
          dsimp only
          rw [← Bool.decide_and]
          exact decide_eq_false hcov
end PS9
