section PS9
def s_rm (d mc ms : Nat) : Room := { frames := d, cells := mc, slots := ms, locals := 40 * d }
def s_Pc (D : va_G) (fv : Value) (σ : Nat → Nat) (T : pT) (M : pM) (F : pF) (sz : Nat) (as : List Value) : Array Value → State → Prop := va_Pc (as.map (s_vm σ fv)) (fun U => U.heap.size = sz ∧ s_W D σ fv T M F U U.heap ∧ s_Z σ fv (s_fr σ T sz) U U.heap ∧ s_V D U)
def s_ok (D : va_G) (fv : Value) (σ : Nat → Nat) (T : pT) (sz : Nat) (σ' : Nat → Nat) (T' : pT) (M' : pM) (F' : pF) (t : State) : Prop := (∀ a, a < T.1.1 → σ' a = σ a) ∧ s_W D σ' fv T' M' F' t t.heap ∧ (∀ a, 100 ≤ a → (p_ty T' a).1 ≠ 0 → s_fr σ T sz (σ' a))
def s_Qc (D : va_G) (fv : Value) (σ : Nat → Nat) (T : pT) (sz : Nat) (r : pR) : Array Value → State → Outcome → State → Prop := fun _ st o t => (∃ (v : Option Value) (T' : pT) (M' : pM) (F' : pF) (σ' : Nat → Nat), r = (.inl v, T', M', F') ∧ o = .returned (v.map (s_vm σ' fv)) ∧ s_ok D fv σ T sz σ' T' M' F' t ∧ ∀ w, v = some w → s_lt T'.1.1 w) ∧ va_F (s_fr σ T sz) st t
def s_XC (D : va_G) (fv : Value) (σ : Nat → Nat) (T : pT) (sz : Nat) (r : pR) : String → State → State → Prop := fun E st t => (∃ (ec : Nat) (T' : pT) (M' : pM) (F' : pF) (σ' : Nat → Nat), r = (.inr ec, T', M', F') ∧ ec < 3 ∧ E = p_en ec ∧ s_ok D fv σ T sz σ' T' M' F' t ∧ T.1.1 < T'.1.1 ∧ (p_ty T' (T'.1.1 - 1)).1 = 0 ∧ ∀ a i x, p_fv F' a i = some x → x + 1 < T'.1.1) ∧ va_F (s_fr σ T sz) st t
def s_Met (l : Launch) (d : Nat) (y : pC) (as : List Value) (T : pT) (M : pM) (F : pF) (r : pR) (D : va_G) (fv : Value) (σ : Nat → Nat) (sz : Nat) : Prop :=
  vx_Met l y.2.1 [s_cw y] (s_rm d (r.2.1.1.1 - T.1.1) (r.2.1.1.2 - T.1.2)) (s_Pc D fv σ T M F sz as) (s_Qc D fv σ T sz r) (s_XC D fv σ T sz r) (r.2.1.1.1 - T.1.1) (r.2.1.1.2 - T.1.2) (s_fr σ T sz)
def s_mono (T T' : pT) : Prop := T.1.1 ≤ T'.1.1 ∧ T.1.2 ≤ T'.1.2 ∧ ∀ a, a < T.1.1 → p_ty T' a = p_ty T a
theorem s_mono.rf {T : pT} : s_mono T T := ⟨Nat.le_refl _, Nat.le_refl _, fun _ _ => rfl⟩
theorem s_mono.tr {T T' T'' : pT} (h : s_mono T T') (h' : s_mono T' T'') : s_mono T T'' := ⟨Nat.le_trans h.1 h'.1, Nat.le_trans h.2.1 h'.2.1, fun a ha => (h'.2.2 a (Nat.lt_of_lt_of_le ha h.1)).trans (h.2.2 a ha)⟩
theorem s_mono.new {T : pT} {tag N : Nat} : s_mono T (p_new T tag N) := ⟨Nat.le_succ _, Nat.le_add_right _ _, fun a ha => p_ty_new (Nat.ne_of_lt ha)⟩
variable {p : Program} {l : Launch} {e : Env} {Rm : Room} {s : State} {m : MethodId} {args : Array Value} {below : List Frame} {meth : Method} {c : Code} {Q : State → Prop} {D : va_G} {fv : Value} {A : Nat → Prop} {n : Nat} {σ : Nat → Nat} {T : pT} {M M' : pM} {F F' : pF} {H H' : Heap} {locs : List Loc} {L : List Slot} {ls : Array Slot} {cells slots : Nat} {st st' : List Value} {pc : Nat} {o : pG ⊕ pR} {a : Nat} {y : pC}
theorem s_frA (hI : s_I D fv A s n σ T M F H locs L ls st) : ∀ q, s_fr σ T H.size q → A q := by
  rintro q (⟨b, hb, tb, rfl⟩ | hq)
  · exact hI.2.2.2.2.1 b hb tb
  · exact hI.2.2.2.1 q (Nat.le_trans hI.2.2.1.1 hq)
/-- the frame goes on behind a call -/
theorem s_behind {σ' : Nat → Nat} {T' : pT} {t : State} {H' : Heap} {L1 : List Loc} {st' : List Value} (hI : s_I D fv A s n σ T M F H locs L ls st) (hal : s.vm.Alike t.vm) (hH : H' = t.heap) (hok : s_ok D fv σ T H.size σ' T' M' F' t) (hm : s_mono T T') (hz : H.size ≤ H'.size) (hk : ∀ q : Nat, q < H.size → ¬ s_fr σ T H.size q → H'[q]? = H[q]?) (hL : ∀ q ∈ L1, s_fr σ T H.size q.base) (hst : ∀ v ∈ st', s_lt T'.1.1 v) :
    s_I D fv A s n σ' T' M' F' H' (locs ++ L1) L ls st' := by
  obtain ⟨h1, h2, h3, h4, h5, h6, h7, h8, h9⟩ := id hI
  have h100 : 100 ≤ T.1.1 := h1.1
  subst hH
  refine ⟨hok.2.1.moved hal.symm, h2.sig (fun a ha => hok.1 a (by omega)), ⟨Nat.le_trans h3.1 hz, fun q g1 g2 => (hk q (Nat.lt_of_lt_of_le g1 h3.1) (fun z => g2 (s_frA hI q z))).trans (h3.2.1 q g1 g2), fun q hq => ?_⟩, h4, fun b hb tb => s_frA hI _ (hok.2.2 b hb tb), fun b hb tb => ?_, h7.ext (fun i v hi => s_vm_ext (n := T.1.1) hok.1 (h9 i v hi)), hst, fun i v hi a ha => Nat.lt_of_lt_of_le (h9 i v hi a ha) hm.1⟩
  · rcases List.mem_append.mp hq with h | h
    · exact h3.2.2 q h
    · exact s_frA hI _ (hL q h)
  · rw [hm.2.2 b (by omega)] at tb
    rw [hok.1 b (by omega)]
    exact h6 b hb tb
theorem s_I.name {q k : Nat} (hI : s_I D fv A s n σ T M F H locs L ls st) (hk : k + 1 = T.1.1) (h0 : (p_ty T k).1 = 0) (h100 : 100 ≤ k) (hf : ∀ a i x, p_fv F a i = some x → x + 1 < T.1.1) (hL : ∀ (i : Nat) (v : Value), L[i]? = some (.val v) → s_lt k v) : s_I D fv A s n (s_sn σ k q) T M F H locs L ls [.ref k] := by
  obtain ⟨h1, h2, h3, h4, h5, h6, h7, h8, h9⟩ := id hI
  obtain ⟨w1, w2, w3, w4, w5, w6, w7⟩ := h1
  have hne : ∀ b, (p_ty T b).1 ≠ 0 → s_sn σ k q b = σ b := fun b hb => if_neg (fun e => hb (by rw [e]; exact h0))
  have hlt : ∀ b, b < k → s_sn σ k q b = σ b := fun b hb => if_neg (Nat.ne_of_lt hb)
  refine ⟨⟨w1, w2, fun b => ?_, fun x z hx tx tz ez => ?_, fun x z tx tz ez => ?_, w6, w7⟩, h2.sig (fun a ha => hlt a (by omega)), h3, h4, fun b hb tb => ?_, fun b hb tb => ?_, h7.ext (fun i v hi => s_vm_ext (n := k) hlt (hL i v hi)), fun v hv => ?_, h9⟩
  · by_cases e0 : (p_ty T b).1 = 0
    · unfold s_c; rw [if_pos e0]; trivial
    · rw [hne b e0]
      refine s_c.same (M := M) (F := F) (vm := s_vm σ fv) (fun i => rfl) (fun i => ?_) (w3 b)
      refine s_vm_ext (n := k) hlt (fun r hr => ?_)
      cases hf' : p_fv F b i with
      | none => rw [hf'] at hr; cases hr
      | some x => rw [hf'] at hr; cases hr; exact Nat.lt_of_succ_lt_succ (Nat.lt_of_lt_of_eq (hf b i _ hf') hk.symm)
  · rw [hne x tx, hne z tz] at ez
    exact w4 x z hx tx tz ez
  · rw [hne x (by rw [tx]; decide), hne z (by rw [tz]; decide)] at ez
    exact w5 x z tx tz ez
  · rw [hne b tb]
    exact h5 b hb tb
  · rw [hne b tb]
    exact h6 b hb tb
  · rw [List.mem_singleton.mp hv]
    intro a ha
    cases ha
    exact Nat.lt_of_lt_of_eq (Nat.lt_succ_self k) hk
theorem s_call {mc ms : Nat} {st0 : List Value} {as : Array Value} {r : pR} (hX : s_X p l s m meth c D y) (hrun : vx_Run p l e Rm s m args below meth c H locs cells slots mc ms (F0 m pc ls st0) (st.map (s_vm σ fv)) (s_Qc D fv σ T H.size r as) (s_XC D fv σ T H.size r) (s_fr σ T H.size)) (hmc : mc = r.2.1.1.1 - T.1.1) (hms : ms = r.2.1.1.2 - T.1.2) (hm : s_mono T r.2.1)
    (hI : s_I D fv A s n σ T M F H locs L ls st) (hh : s_hchk y = true) (h : p_cb (some r) y pc L st = some o) (k : ∀ g, o = .inl g → s_K p l e Rm s m args below meth c Q D fv A n σ T cells slots g) : W p l e Rm s m args below meth c H locs cells slots Q (F0 m pc ls st0) := by
  intro T0 hT X
  rcases hrun T0 hT X with ⟨v, st₀, t, T', L1, h0, X', hL, e1, e2, hq, stp⟩ | ⟨q, st₀, t, T', L1, E, ce, h0, X', hL, e1, e2, hx, hce, hcv, hcl, stp⟩
  · obtain ⟨⟨v', T2, M2, F2, σ', rfl, hv, hok, hvl⟩, hz, hk⟩ := hq
    rw [h0] at hz hk
    have hal : s.vm.Alike t.vm := by rw [← e2]; exact X'.warmed.alike
    have hv : v = v'.map (s_vm σ' fv) := Outcome.returned.inj hv
    have hst : ∀ w ∈ v'.toList ++ st, s_lt T2.1.1 w := by
      intro w hw
      rcases List.mem_append.mp hw with hw | hw
      · cases v' with
        | none => cases hw
        | some x => exact hvl w (by rw [List.mem_singleton.mp hw])
      · exact fun a ha => Nat.lt_of_lt_of_le (hI.bnd w hw a ha) hm.1
    have hK := k _ (Option.some.inj h).symm σ' T'.heap (locs ++ L1) ls (s_behind hI hal e1 hok hm (by rw [e1]; exact hz) (fun q g1 g2 => by rw [e1]; exact hk q g1 g2) hL hst) hok.1 hm.1 hm.2.1
    subst hmc; subst hms
    obtain ⟨t2, a1, b1⟩ := hK T' rfl X'
    refine ⟨t2, stp t2 ?_, b1⟩
    have e9 : (v'.toList ++ st).map (s_vm σ' fv) = v.toList ++ st.map (s_vm σ fv) := by
      rw [List.map_append, s_vm_map hok.1 hI.bnd, hv]
      cases v' <;> rfl
    dsimp only at a1
    rw [e9] at a1
    exact a1
  · obtain ⟨⟨ec, T2, M2, F2, σ', rfl, hec, hE, hok, hlt, ht0, hrf⟩, hz, hk⟩ := hx
    rw [h0] at hz hk
    have hal : s.vm.Alike t.vm := by rw [← e2]; exact X'.warmed.alike
    unfold p_cb at h
    dsimp only at h hm hlt hmc hms
    have he : y.2.2.2.2.2 = [] := List.isEmpty_iff.mp hh
    have hp : p_hnd y pc ec = none := by unfold p_hnd; rw [he]; rfl
    rw [hp] at h
    cases h
end PS9
