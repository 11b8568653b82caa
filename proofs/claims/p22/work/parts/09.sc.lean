section PSC
variable {p : Program} {l : Launch} {e : Env} {Rm : Room} {s : State} {m : MethodId} {args : Array Value} {below : List Frame} {meth : Method} {c : Code} {Q : State → Prop} {D : va_G} {fv : Value} {A : Nat → Prop} {n : Nat} {σ σ0 : Nat → Nat} {T T0 : pT} {M M' : pM} {F F' : pF} {H H' : Heap} {locs : List Loc} {L : List Slot} {ls : Array Slot} {cells slots : Nat} {st st' : List Value} {pc : Nat} {o : pG ⊕ pR} {a : Nat} {y : pC}
theorem s_narC {x : Int32} (h0 : 0 ≤ x.toInt) (h1 : x.toInt < 65536) : x.toUInt32.toUInt16.toUInt32.toInt32 = x := by
  have e : x.toUInt32.toUInt16.toUInt32 = x.toUInt32 := by
    apply UInt32.toNat_inj.mp
    have h3 : x.toInt = x.toUInt32.toBitVec.toInt := rfl
    have h5 := x.toUInt32.toNat_lt
    have h4 : x.toUInt32.toBitVec.toNat = x.toUInt32.toNat := rfl
    rw [BitVec.toInt_eq_toNat_cond, h4] at h3
    have h2 : x.toInt = (x.toUInt32.toNat : Int) := by
      by_cases h6 : 2 * x.toUInt32.toNat < 2 ^ 32
      · rw [if_pos h6] at h3; exact h3
      · rw [if_neg h6] at h3; omega
    simp only [UInt16.toNat_toUInt32, UInt32.toNat_toUInt16]
    omega
  rw [e]
  rfl
theorem s_narB {x : Int32} (h0 : -128 ≤ x.toInt) (h1 : x.toInt < 128) : x.toInt8.toInt32 = x := by
  apply Int32.toInt_inj.mp
  rw [Int8.toInt_toInt32, Int32.toInt_toInt8, Int.bmod_def]
  omega
theorem s_cO {idx n0 q : Nat} {y' : pC} {r9 : Nat × Nat × Nat × Nat × Nat} (hX : s_X p l s m meth c D y) (hn : n = y.2.2.2.1) (hRf : 1 ≤ Rm.frames) (hRl : 40 ≤ Rm.locals) (hI : s_I D fv A s n σ T M F H locs L ls (.ref a :: st)) (hdg : decode y.2.2.1 pc = .ok (.invokespecial idx, 3)) (hl : (p_m y.1).lookup idx = some (3, y', n0, q, r9))
    (h : p_if (pW (p_tag y.1) a (p_ty T a) ∧ st.length ≤ 4) (p_nx (pc + 3) L st T M F) none = some o) (k : ∀ g, o = .inl g → s_K p l e Rm s m args below meth c Q D fv A n σ T cells slots g) :
    W p l e Rm s m args below meth c H locs cells slots Q (F0 m pc ls ((.ref a :: st).map (s_vm σ fv))) := by
  obtain ⟨⟨⟨h100, hty⟩, h4⟩, h⟩ := s_pifn h
  obtain ⟨nest, r9⟩ := r9
  have hchk := s_all s_mOK hl
  unfold s_mchk at hchk
  simp only [Bool.and_eq_true] at hchk
  have hts := hX.hts (args := args)
  have hk := s_nx h k hI.pop
  have hvr : s_vm σ fv (.ref a) = .ref (σ a) := s_vm_ref (T := T) (by rw [hty]; exact s_tag0 _)
  refine W.objInit hX.1 hX.2.1 hX.2.2.2.1 (hts _ (s_in_tbl hchk.1)) (hts (.instanceMethod objectInit) (by decide +kernel)) (hts (.code objectInit ⟨#[0xb1]⟩ 1 none) (by decide +kernel)) (g := F0 m pc ls ((.ref a :: st).map (s_vm σ fv))) rfl (by rw [hX.2.2.1, ← hn]; exact s_lsz hI.2.2.2.2.2.2.1) (a := σ a) (rest := st.map (s_vm σ fv)) (by rw [← hvr]; rfl) hdg hRf ?_ hk
  have h1 := s_cat (st.map (s_vm σ fv))
  rw [List.length_map] at h1
  have h2 : (F0 m pc ls ((Value.ref a :: st).map (s_vm σ fv))).monitorRoom = 0 := rfl
  omega
/-- what a body's end gives -/
theorem s_fin (hA : A = s_fr σ0 T0 s.heap.size) (hσ : ∀ a, a < T0.1.1 → σ a = σ0 a) (hI : s_I D fv A s n σ T M F H locs L ls st) {v : Option Value} (hv : ∀ w, v = some w → s_lt T.1.1 w) {aa : Array Value} : ∀ t : State, t.heap = H → s.WarmedH t.vm → s_Qc D fv σ0 T0 s.heap.size (.inl v, T, M, F) aa s (.returned (v.map (s_vm σ fv))) t := by
  intro t ht hW
  subst hA; subst ht
  exact ⟨⟨v, T, M, F, σ, rfl, rfl, ⟨hσ, hI.1.moved hW.alike, hI.2.2.2.2.1⟩, hv⟩, hI.2.2.1.F rfl⟩
theorem s_iret {x : Int32} {XC : String → State → State → Prop} (hX : s_X p l s m meth c D y) (hA : A = s_fr σ0 T0 s.heap.size) (hσ : ∀ a, a < T0.1.1 → σ a = σ0 a) (hI : s_I D fv A s n σ T M F H locs L ls [.int x]) (hdg : decode y.2.2.1 pc = .ok (.ireturn, 1)) (hz : p_rz y.2.2.2.2.1 x) : W p l e Rm s m args below meth c H locs cells slots (vx_MQ below (s_Qc D fv σ0 T0 s.heap.size (.inl (some (.int x)), T, M, F)) XC args s cells slots A) (F0 m pc ls (([.int x] : List Value).map (s_vm σ fv))) := by
  have hfin := s_fin hA hσ hI (v := some (.int x)) (fun w hw => by cases hw; exact .int) (aa := args)
  have hf : ∀ q ∈ locs, A q.base := hI.2.2.1.2.2
  cases hr : y.2.2.2.2.1 with
  | none => rw [hr] at hz; exact hz.elim
  | some ty =>
    have hrt : meth.sig.returnType = some ty := by rw [hX.2.2.2.2.1, hr]
    refine vx_ret (W.zret hX.1 hX.2.1 hrt ?_ hfin hf hdg hX.2.2.2.2.2.1)
    rw [hr] at hz
    cases ty with
    | int => rfl
    | boolean => rcases hz with rfl | rfl <;> rfl
    | char => exact congrArg Value.int (s_narC hz.1 hz.2)
    | byte => exact congrArg Value.int (s_narB hz.1 hz.2)
    | _ => exact hz.elim
theorem s_lret {x : Int64} {XC : String → State → State → Prop} (hX : s_X p l s m meth c D y) (hA : A = s_fr σ0 T0 s.heap.size) (hσ : ∀ a, a < T0.1.1 → σ a = σ0 a) (hI : s_I D fv A s n σ T M F H locs L ls [.long x]) (hdg : decode y.2.2.1 pc = .ok (.lreturn, 1)) (hr : y.2.2.2.2.1 = some .long) : W p l e Rm s m args below meth c H locs cells slots (vx_MQ below (s_Qc D fv σ0 T0 s.heap.size (.inl (some (.long x)), T, M, F)) XC args s cells slots A) (F0 m pc ls (([.long x] : List Value).map (s_vm σ fv))) :=
  vx_ret (W.lret hX.1 hX.2.1 (by rw [hX.2.2.2.2.1, hr]) (s_fin hA hσ hI (v := some (.long x)) (fun w hw => by cases hw; exact .long) (aa := args)) hI.2.2.1.2.2 hdg hX.2.2.2.2.2.1)
theorem s_dret {x : UInt64} {XC : String → State → State → Prop} (hX : s_X p l s m meth c D y) (hA : A = s_fr σ0 T0 s.heap.size) (hσ : ∀ a, a < T0.1.1 → σ a = σ0 a) (hI : s_I D fv A s n σ T M F H locs L ls [.double x]) (hdg : decode y.2.2.1 pc = .ok (.dreturn, 1)) (hr : y.2.2.2.2.1 = some .double) : W p l e Rm s m args below meth c H locs cells slots (vx_MQ below (s_Qc D fv σ0 T0 s.heap.size (.inl (some (.double x)), T, M, F)) XC args s cells slots A) (F0 m pc ls (([.double x] : List Value).map (s_vm σ fv))) :=
  vx_ret (W.dret hX.1 hX.2.1 (by rw [hX.2.2.2.2.1, hr]) (s_fin hA hσ hI (v := some (.double x)) (fun w hw => by cases hw; exact .double) (aa := args)) hI.2.2.1.2.2 hdg hX.2.2.2.2.2.1)
theorem s_vret {XC : String → State → State → Prop} (hX : s_X p l s m meth c D y) (hA : A = s_fr σ0 T0 s.heap.size) (hσ : ∀ a, a < T0.1.1 → σ a = σ0 a) (hI : s_I D fv A s n σ T M F H locs L ls []) (hdg : decode y.2.2.1 pc = .ok (.return_, 1)) (hr : y.2.2.2.2.1 = none) : W p l e Rm s m args below meth c H locs cells slots (vx_MQ below (s_Qc D fv σ0 T0 s.heap.size (.inl none, T, M, F)) XC args s cells slots A) (F0 m pc ls (([] : List Value).map (s_vm σ fv))) :=
  vx_ret (W.vret hX.1 hX.2.1 (by rw [hX.2.2.2.2.1, hr]) (s_fin hA hσ hI (v := none) (fun w hw => by cases hw) (aa := args)) hI.2.2.1.2.2 hdg hX.2.2.2.2.2.1)
theorem s_aret {x : Nat} {rt : FieldType} {XC : String → State → State → Prop} (hX : s_X p l s m meth c D y) (hA : A = s_fr σ0 T0 s.heap.size) (hσ : ∀ a, a < T0.1.1 → σ a = σ0 a) (hI : s_I D fv A s n σ T M F H locs L ls [.ref x]) (hdg : decode y.2.2.1 pc = .ok (.areturn, 1)) (hr : y.2.2.2.2.1 = some rt) (hrt : (∃ n, rt = .object n) ∨ ∃ t, rt = .array t) (h0 : (p_ty T x).1 ≠ 0) : W p l e Rm s m args below meth c H locs cells slots (vx_MQ below (s_Qc D fv σ0 T0 s.heap.size (.inl (some (.ref x)), T, M, F)) XC args s cells slots A) (F0 m pc ls (([.ref x] : List Value).map (s_vm σ fv))) := by
  have hfin := s_fin hA hσ hI (v := some (.ref x)) (fun w hw => by cases hw; exact hI.bnd _ List.mem_cons_self) (aa := args)
  have hvr : s_vm σ fv (.ref x) = .ref (σ x) := s_vm_ref h0
  exact vx_ret (W.aret hX.1 hX.2.1 (by rw [hX.2.2.2.2.1, hr]) hrt (Or.inr ⟨_, hvr⟩) hfin hI.2.2.1.2.2 hdg hX.2.2.2.2.2.1)
end PSC
