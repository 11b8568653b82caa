section PSH
variable {p : Program} {l : Launch} {e : Env} {Rm : Room} {s : State} {m : MethodId} {args : Array Value} {below : List Frame} {meth : Method} {c : Code} {D : va_G} {fv : Value} {A : Nat → Prop} {n : Nat} {σ σ0 : Nat → Nat} {T T0 : pT} {M M' : pM} {F F' : pF} {H H' : Heap} {locs : List Loc} {L : List Slot} {ls : Array Slot} {cells slots : Nat} {st st' : List Value} {pc : Nat} {o : pG ⊕ pR} {a b : Nat} {y : pC} {cc : ByteArray} {call : pK} {d mc ms : Nat} {r : pR}
section
variable {Q : State → Prop}
theorem s_acmpE {x0 y0 : Nat} {off : Int} (hx : p.tables.exec = Jvm.exec) (hb : c.code = cc) (hI : s_I D fv A s n σ T M F H locs L ls (.ref y0 :: .ref x0 :: st)) (hdg : decode cc pc = .ok (.if_acmp .eq off, 3)) (t1 : (p_ty T x0).1 = 12) (t2 : (p_ty T y0).1 = 12) (h : p_br (x0 = y0) pc off L st T M F = some o) (k : ∀ g, o = .inl g → s_K p l e Rm s m args below meth c Q D fv A n σ T cells slots g) :
    W p l e Rm s m args below meth c H locs cells slots Q (F0 m pc ls ((.ref y0 :: .ref x0 :: st).map (s_vm σ fv))) := by
  show W p l e Rm s m args below meth c H locs cells slots Q (F0 m pc ls (s_vm σ fv (.ref y0) :: s_vm σ fv (.ref x0) :: st.map (s_vm σ fv)))
  rw [s_vm_ref (T := T) (a := y0) (by rw [t2]; decide), s_vm_ref (T := T) (a := x0) (by rw [t1]; decide)]
  exact s_br (tgt := fun _ => True) hI.pop.pop h k (fun q w1 w2 => lv_acmp_eq hx hb (rx := some (σ x0)) (ry := some (σ y0)) hdg q (fun z => w1 (hI.1.2.2.2.2.1 x0 y0 t1 t2 (Option.some.inj z))) (fun z => w2 (fun z2 => z (by rw [z2]))))
theorem s_acmpN {x0 y0 : Nat} {off : Int} (hx : p.tables.exec = Jvm.exec) (hb : c.code = cc) (hI : s_I D fv A s n σ T M F H locs L ls (.ref y0 :: .ref x0 :: st)) (hdg : decode cc pc = .ok (.if_acmp .ne off, 3)) (t1 : (p_ty T x0).1 = 12) (t2 : (p_ty T y0).1 = 12) (h : p_br (¬ x0 = y0) pc off L st T M F = some o) (k : ∀ g, o = .inl g → s_K p l e Rm s m args below meth c Q D fv A n σ T cells slots g) :
    W p l e Rm s m args below meth c H locs cells slots Q (F0 m pc ls ((.ref y0 :: .ref x0 :: st).map (s_vm σ fv))) := by
  show W p l e Rm s m args below meth c H locs cells slots Q (F0 m pc ls (s_vm σ fv (.ref y0) :: s_vm σ fv (.ref x0) :: st.map (s_vm σ fv)))
  rw [s_vm_ref (T := T) (a := y0) (by rw [t2]; decide), s_vm_ref (T := T) (a := x0) (by rw [t1]; decide)]
  exact s_br (tgt := fun _ => True) hI.pop.pop h k (fun q w1 w2 => lv_acmp_ne hx hb (rx := some (σ x0)) (ry := some (σ y0)) hdg q (fun z => w1 (fun z2 => z (by rw [z2]))) (fun z => w2 (fun z2 => z2 (hI.1.2.2.2.2.1 x0 y0 t1 t2 (Option.some.inj z)))))
theorem s_isn {x0 : Nat} {off : Int} (hx : p.tables.exec = Jvm.exec) (hb : c.code = cc) (hI : s_I D fv A s n σ T M F H locs L ls (.ref x0 :: st)) (hdg : decode cc pc = .ok (.ifnull off, 3)) (q : ¬ (p_ty T x0).1 = 0) (h : p_nx (pc + 3) L st T M F = some o) (k : ∀ g, o = .inl g → s_K p l e Rm s m args below meth c Q D fv A n σ T cells slots g) :
    W p l e Rm s m args below meth c H locs cells slots Q (F0 m pc ls ((.ref x0 :: st).map (s_vm σ fv))) := by
  show W p l e Rm s m args below meth c H locs cells slots Q (F0 m pc ls (s_vm σ fv (.ref x0) :: st.map (s_vm σ fv)))
  rw [s_vm_ref (T := T) q]
  exact lv_ifnull hx hb hdg (s_nx h k hI.pop)
theorem s_isnn {x0 : Nat} {off : Int} (hx : p.tables.exec = Jvm.exec) (hb : c.code = cc) (hI : s_I D fv A s n σ T M F H locs L ls (.ref x0 :: st)) (hdg : decode cc pc = .ok (.ifnonnull off, 3)) (g0 : 0 ≤ (pc : Int) + off) (q : ¬ (p_ty T x0).1 = 0) (h : p_nx (p_jmp pc off) L st T M F = some o) (k : ∀ g, o = .inl g → s_K p l e Rm s m args below meth c Q D fv A n σ T cells slots g) :
    W p l e Rm s m args below meth c H locs cells slots Q (F0 m pc ls ((.ref x0 :: st).map (s_vm σ fv))) := by
  show W p l e Rm s m args below meth c H locs cells slots Q (F0 m pc ls (s_vm σ fv (.ref x0) :: st.map (s_vm σ fv)))
  rw [s_vm_ref (T := T) q]
  exact lv_ifnonnull hx hb hdg (by unfold p_jmp; omega) (s_nx h k hI.pop)
/-- the statics' own cells are read-only ones -/
theorem s_statlt : ∀ k, k < 20 → (p_s k).all (fun q => decide (q.2.1 ≠ 0 ∨ q.2.2.1 < 100)) = true := by decide +kernel
theorem s_statlt' (k : Nat) : (p_s k).all (fun q => decide (q.2.1 ≠ 0 ∨ q.2.2.1 < 100)) = true := by
  by_cases h : k < 20
  · exact s_statlt k h
  · obtain ⟨j, rfl⟩ : ∃ j, k = j + 20 := ⟨k - 20, by omega⟩
    rfl
theorem s_stat0 {idx v : Nat} {z : Nat × Nat × Nat} (hI : s_I D fv A s n σ T M F H locs L ls st) (hl : (p_s y.1).lookup idx = some (0, v, z)) : s_lt T.1.1 (.ref v) := by
  have h1 := of_decide_eq_true (List.all_eq_true.mp (s_statlt' y.1) _ (lookup_mem _ hl))
  rcases h1 with h1 | h1
  · exact absurd rfl h1
  · exact .ref (Nat.lt_of_lt_of_le h1 hI.1.1)
theorem s_null (hx : p.tables.exec = Jvm.exec) (hb : c.code = cc) (hI : s_I D fv A s n σ T M F H locs L ls st) (hdg : decode cc pc = .ok (.aconst_null, 1)) (h : p_nx (pc + 1) L (.null :: st) T M F = some o) (k : ∀ g, o = .inl g → s_K p l e Rm s m args below meth c Q D fv A n σ T cells slots g) :
    W p l e Rm s m args below meth c H locs cells slots Q (F0 m pc ls (st.map (s_vm σ fv))) := lv_null hx hb hdg (s_nx h k (hI.push .null))
theorem s_I.push3 {v w : Value} (hI : s_I D fv A s n σ T M F H locs L ls st) (hv : s_lt T.1.1 v) (hw : s_lt T.1.1 w) : s_I D fv A s n σ T M F H locs L ls (v :: w :: v :: st) := ((hI.push hv).push hw).push hv
/-- a text of the law's own -/
theorem s_ldcS {idx : Nat} {v : Int} {z : Nat} (hX : s_X p l s m meth c D y) (hI : s_I D fv A s n σ T M F H locs L ls st) (hdg : decode y.2.2.1 pc = .ok (.ldc idx, 2)) (hl : (p_q y.1).lookup idx = some (1, v, z)) (h : p_nx (pc + 2) L (.ref v.toNat :: st) T M F = some o) (k : ∀ g, o = .inl g → s_K p l e Rm s m args below meth c Q D fv A n σ T cells slots g) :
    W p l e Rm s m args below meth c H locs cells slots Q (F0 m pc ls (st.map (s_vm σ fv))) := by
  have hchk := s_all s_qOK hl
  unfold s_qchk at hchk
  simp only [Bool.and_eq_true] at hchk
  obtain ⟨⟨⟨⟨⟨h1, h2⟩, h3⟩, h4⟩, h5⟩, h6⟩ := hchk
  have h1 : y.1 = 10 := of_decide_eq_true h1
  obtain ⟨q, hq, hq2⟩ := List.any_eq_true.mp h2
  rw [Bool.and_eq_true] at hq2
  have e1 : q.1 = idx := of_decide_eq_true hq2.1
  have e2 : q.2.2 = v.toNat := of_decide_eq_true hq2.2
  have h3 : v.toNat < 64 := of_decide_eq_true h3
  have hR := hI.2.1.2.2.2 q hq
  rw [e1, e2] at hR
  have hcn : p_cn y.1 = "HexCabinetLaw" := by rw [h1]; rfl
  have h28 : v.toNat ≠ 28 := of_decide_eq_true h5
  have hk := s_nx (st' := .ref v.toNat :: st) h k (hI.push (.ref (Nat.lt_of_lt_of_le (show v.toNat < 100 by omega) hI.1.1)))
  rw [List.map_cons, show s_vm σ fv (.ref v.toNat) = .ref (σ v.toNat) from if_neg h28] at hk
  exact va_ldcS hX.1 hX.2.1 (by rw [← hcn]; exact hX.2.2.2.1) hR hdg hk
theorem s_castB {idx : Nat} {a : Nat} {z : Nat × Nat × Nat × Nat × Nat} (hX : s_X p l s m meth c D y) (hI : s_I D fv A s n σ T M F H locs L ls (.ref a :: st)) (hdg : decode y.2.2.1 pc = .ok (.checkcast idx, 3)) (hl : (p_c y.1).lookup idx = some (3, z)) (h : p_if ((p_ty T a).1 = 5) (p_nx (pc + 3) L (.ref a :: st) T M F) none = some o) (k : ∀ g, o = .inl g → s_K p l e Rm s m args below meth c Q D fv A n σ T cells slots g) :
    W p l e Rm s m args below meth c H locs cells slots Q (F0 m pc ls ((.ref a :: st).map (s_vm σ fv))) := by
  obtain ⟨ta, h⟩ := s_pifn h
  obtain ⟨z1, z2, z3, z4, z5⟩ := z
  have hchk := s_all s_cOK hl
  unfold s_cchk at hchk
  obtain ⟨cs, a1, a2, a3, -⟩ := (hI.1.2.2.1 a).arrY ta
  have hva : s_vm σ fv (.ref a) = .ref (σ a) := s_vm_ref (T := T) (by omega)
  have hk := s_nx h k hI
  rw [List.map_cons, hva] at hk ⊢
  have hnm : s.vm.findClass "[B" = some cs.cls := a3
  intro T1 hT X
  obtain ⟨vm', X', st⟩ := X.checkcastYes hX.1 hX.2.2.2.1 (hX.hts (args := args) _ (s_in_tbl hchk)) (by rw [hT]; exact a1) (by rw [a2]; rfl) hnm (va_asg _ _) (g := F0 m pc ls (.ref (σ a) :: st.map (s_vm σ fv))) rfl rfl (by rw [hX.2.1]; exact hdg)
  obtain ⟨t, a9, b9⟩ := hk (T1.setVm vm') hT X'
  exact ⟨t, st t a9, b9⟩
end
abbrev s_MQ (below : List Frame) (D : va_G) (fv : Value) (σ0 : Nat → Nat) (T0 : pT) (r : pR) (args : Array Value) (s : State) (mc ms : Nat) (A : Nat → Prop) : State → Prop := vx_MQ below (s_Qc D fv σ0 T0 s.heap.size r) (s_XC D fv σ0 T0 s.heap.size r) args s mc ms A
set_option maxHeartbeats 4000000 in
theorem s_one {ins : Instr} {len : Nat} (hX : s_X p l s m meth c D y) (hh : s_hchk y = true) (hn : n = y.2.2.2.1) (hcall : s_call_ok l fv Rm call) (hRf : d + 1 ≤ Rm.frames) (hRl : 40 * (d + 1) ≤ Rm.locals) (hA : A = s_fr σ0 T0 s.heap.size) (hσ : ∀ a, a < T0.1.1 → σ a = σ0 a) (hT0 : T0.1.1 ≤ T.1.1) (hI : s_I D fv A s n σ T M F H locs L ls st) (hdg : decode y.2.2.1 pc = .ok (ins, len))
    (h : p_one d y call pc ins len L st T M F = some o) (k : ∀ g, o = .inl g → s_K p l e Rm s m args below meth c (s_MQ below D fv σ0 T0 r args s mc ms A) D fv A n σ T cells slots g) (hroom : ∀ g, o = .inl g → cells + (g.2.2.2.1.1.1 - T.1.1) ≤ Rm.cells ∧ slots + (g.2.2.2.1.1.2 - T.1.2) ≤ Rm.slots)
    (hend : ∀ r', o = .inr r' → r' = r ∧ cells + (r.2.1.1.1 - T.1.1) = mc ∧ slots + (r.2.1.1.2 - T.1.2) = ms) (hmc : mc ≤ Rm.cells) (hms : ms ≤ Rm.slots) :
    W p l e Rm s m args below meth c H locs cells slots (s_MQ below D fv σ0 T0 r args s mc ms A) (F0 m pc ls (st.map (s_vm σ fv))) := by
  have hx := hX.1
  have hb := hX.2.1
  have hR1 : 1 ≤ Rm.frames := by omega
  have hR2 : 40 ≤ Rm.locals := by omega
  unfold p_one at h
  split at h
  · exact lv_iconst hx hb hdg rfl (s_nx h k (hI.push .int))
  · split at h
    · rename_i q
      exact lv_bipush hx hb hdg (s_i8 q.1 q.2) (s_nx h k (hI.push .int))
    · cases h
  · split at h
    · rename_i q
      exact lv_sipush hx hb hdg (s_i16 q.1 q.2) (s_nx h k (hI.push .int))
    · cases h
  · rename_i n0
    exact lv_lconst hx hb hdg (by match n0 with
      | 0 => rfl
      | 1 => rfl) (s_nx h k (hI.push .long))
  · rename_i n0
    split at h
    · rename_i q
      have q' : n0 = 0 := Fin.ext q
      subst q'
      exact lv_dconst0 hx hb hdg (s_nx h k (hI.push .double))
    · cases h
  · split at h
    · rename_i v z hl
      exact lv_ldc hx hb hX.2.2.2.1 (hX.hts _ (s_in_tbl (s_all s_qOK hl))) hdg (s_nx h k (hI.push .int))
    · rename_i v z hl
      exact s_ldcS hX hI hdg hl h k
    · cases h
  · exact s_null hx hb hI hdg h k
  · split at h
    · rename_i v z hl
      have hchk := s_all s_kOK hl
      unfold s_kchk at hchk
      exact W.ldc2 hx hb hX.2.2.2.1 (hX.hts _ (s_in_tbl hchk)) rfl hdg (s_nx h k (hI.push .long))
    · cases h
  · exact s_ldI hI h k (fun _ q w => lv_iload hx hb hdg q w)
  · exact s_ldI hI h k (fun _ q w => lv_iload_n hx hb hdg rfl q w)
  · exact s_ldA hI h k (fun _ q w => lv_aload hx hb hdg q w) (fun q w => lv_aloadN hx hb hdg q w)
  · exact s_ldA hI h k (fun _ q w => lv_aload_n hx hb hdg rfl q w) (fun q w => lv_aload_nN hx hb hdg rfl q w)
  · exact s_ldL hI h k (fun _ q w => lv_lload hx hb hdg q w)
  · exact s_ldL hI h k (fun _ q w => lv_lload_n hx hb hdg rfl q w)
  · exact s_ldD hI h k (fun _ q w => lv_dload hx hb hdg q w)
  · exact s_ldD hI h k (fun _ q w => lv_dload_n hx hb hdg rfl q w)
  · exact s_st1 rfl hI h k (fun q1 q2 q3 q4 => lv_istore hx hb hdg q1 q2 q3 q4)
  · exact s_st1 rfl hI h k (fun q1 q2 q3 q4 => lv_istore_n hx hb hdg rfl q1 q2 q3 q4)
  · rename_i x st
    refine s_st1 rfl hI h k (fun q1 q2 q3 q4 => ?_)
    rcases hI.ref x with e1 | ⟨z, e1⟩
    · rw [e1] at q3 ⊢
      exact lv_astoreN hx hb hdg q1 q2 q3 q4
    · rw [e1] at q3 ⊢
      exact lv_astore hx hb hdg q1 q2 q3 q4
  · rename_i x st
    refine s_st1 rfl hI h k (fun q1 q2 q3 q4 => ?_)
    rcases hI.ref x with e1 | ⟨z, e1⟩
    · rw [e1] at q3 ⊢
      exact lv_astore_nN hx hb hdg rfl q1 q2 q3 q4
    · rw [e1] at q3 ⊢
      exact lv_astore_n hx hb hdg rfl q1 q2 q3 q4
  · exact s_st2 rfl hI h k (fun q1 q2 q3 q4 => lv_lstore hx hb hdg q1 q2 q3 q4)
  · exact s_st2 rfl hI h k (fun q1 q2 q3 q4 => lv_lstore_n hx hb hdg rfl q1 q2 q3 q4)
  · exact s_st2 rfl hI h k (fun q1 q2 q3 q4 => lv_dstore hx hb hdg q1 q2 q3 q4)
  · exact s_st2 rfl hI h k (fun q1 q2 q3 q4 => lv_dstore_n hx hb hdg rfl q1 q2 q3 q4)
  · split at h
    · rename_i x hl
      exact s_iinc hx hb hI hdg hl h k
    · cases h
  · split at h
    · rename_i q
      exact lv_dup hx hb hdg ((hI.cat _).trans q) (s_nx h k (hI.push hI.top))
    · cases h
  · split at h
    · rename_i q
      exact lv_dup_x1 hx hb hdg ((hI.cat _).trans q.1) ((hI.cat _).trans q.2) (s_nx h k (hI.pop.pop.push3 hI.top hI.pop.top))
    · cases h
  · split at h
    · rename_i q
      exact lv_pop hx hb hdg ((hI.cat _).trans q) (s_nx h k hI.pop)
    · cases h
  · exact lv_iadd hx hb hdg (s_nx h k (hI.pop.pop.push .int))
  · exact lv_isub hx hb hdg (s_nx h k (hI.pop.pop.push .int))
  · exact lv_imul hx hb hdg (s_nx h k (hI.pop.pop.push .int))
  · exact lv_iand hx hb hdg (s_nx h k (hI.pop.pop.push .int))
  · exact lv_ior hx hb hdg (s_nx h k (hI.pop.pop.push .int))
  · exact lv_ineg hx hb hdg (s_nx h k (hI.pop.push .int))
  · rcases s_pif h with ⟨-, h⟩ | ⟨q, h⟩
    · cases h
    · exact lv_idiv hx hb hdg q (s_nx h k (hI.pop.pop.push .int))
  · rcases s_pif h with ⟨-, h⟩ | ⟨q, h⟩
    · cases h
    · exact lv_irem hx hb hdg q (s_nx h k (hI.pop.pop.push .int))
  · exact lv_ishl hx hb hdg (s_nx h k (hI.pop.pop.push .int))
  · exact lv_ishr hx hb hdg (s_nx h k (hI.pop.pop.push .int))
  · exact lv_iushr hx hb hdg rfl (s_nx h k (hI.pop.pop.push .int))
  · exact lv_i2c hx hb hdg rfl (s_nx h k (hI.pop.push .int))
  · exact lv_i2b hx hb hdg rfl (s_nx h k (hI.pop.push .int))
  · exact lv_i2l hx hb hdg rfl (s_nx h k (hI.pop.push .long))
  · exact lv_l2i hx hb hdg rfl (s_nx h k (hI.pop.push .int))
  · exact lv_ladd hx hb hdg (s_nx h k (hI.pop.pop.push .long))
  · exact lv_lmul hx hb hdg (s_nx h k (hI.pop.pop.push .long))
  · exact lv_land hx hb hdg (s_nx h k (hI.pop.pop.push .long))
  · exact lv_lor hx hb hdg (s_nx h k (hI.pop.pop.push .long))
  · exact lv_lshl hx hb hdg rfl (s_nx h k (hI.pop.pop.push .long))
  · exact lv_lshr hx hb hdg rfl (s_nx h k (hI.pop.pop.push .long))
  · exact W.lcmp hx hb hdg (s_nx h k (hI.pop.pop.push .int))
  · exact lv_i2d hx hb hdg (s_nx h k (hI.pop.push .double))
  · obtain ⟨q, h⟩ := s_pifn h
    exact lv_ddiv hx hb hdg q (s_nx h k (hI.pop.pop.push .double))
  · exact lv_dcmp hx hb hdg (s_nx h k (hI.pop.pop.push .int))
  · rename_i c0 off x st
    cases c0
    · exact s_br (tgt := fun _ => True) hI.pop h k (fun q w1 w2 => lv_if_eq hx hb hdg q w1 w2)
    · exact s_br (tgt := fun _ => True) hI.pop h k (fun q w1 w2 => lv_if_ne hx hb hdg q w1 (fun q => w2 (fun z => z q)))
    · exact s_br (tgt := fun _ => True) hI.pop h k (fun q w1 w2 => lv_if_lt hx hb hdg q w1 w2)
    · exact s_br (tgt := fun _ => True) hI.pop h k (fun q w1 w2 => lv_if_ge hx hb hdg q w1 w2)
    · exact s_br (tgt := fun _ => True) hI.pop h k (fun q w1 w2 => lv_if_gt hx hb hdg q w1 w2)
    · exact s_br (tgt := fun _ => True) hI.pop h k (fun q w1 w2 => lv_if_le hx hb hdg q w1 w2)
  · rename_i c0 off x z st
    cases c0
    · exact s_br (tgt := fun _ => True) hI.pop.pop h k (fun q w1 w2 => lv_icmp_eq hx hb hdg q w1 w2)
    · exact s_br (tgt := fun _ => True) hI.pop.pop h k (fun q w1 w2 => lv_icmp_ne hx hb hdg q w1 (fun q => w2 (fun z => z q)))
    · exact s_br (tgt := fun _ => True) hI.pop.pop h k (fun q w1 w2 => lv_icmp_lt hx hb hdg q w1 w2)
    · exact s_br (tgt := fun _ => True) hI.pop.pop h k (fun q w1 w2 => lv_icmp_ge hx hb hdg q w1 w2)
    · exact s_br (tgt := fun _ => True) hI.pop.pop h k (fun q w1 w2 => lv_icmp_gt hx hb hdg q w1 w2)
    · exact s_br (tgt := fun _ => True) hI.pop.pop h k (fun q w1 w2 => lv_icmp_le hx hb hdg q w1 w2)
  · rename_i off y0 x0 st0
    obtain ⟨⟨t1, t2⟩, h⟩ := s_pifn h
    exact s_acmpE hx hb hI hdg t1 t2 h k
  · rename_i off y0 x0 st0
    obtain ⟨⟨t1, t2⟩, h⟩ := s_pifn h
    exact s_acmpN hx hb hI hdg t1 t2 h k
  · rename_i off x0 st0
    rcases s_pif h with ⟨-, h⟩ | ⟨q, h⟩
    · cases h
    · exact s_isn hx hb hI hdg q h k
  · rename_i off x0 st0
    split at h
    · rename_i g0
      rcases s_pif h with ⟨-, h⟩ | ⟨q, h⟩
      · cases h
      · exact s_isnn hx hb hI hdg g0 q h k
    · cases h
  · split at h
    · rename_i q
      exact lv_goto hx hb hdg (by unfold p_jmp; omega) (s_nx h k hI)
    · cases h
  · rcases s_pif h with ⟨q, h⟩ | ⟨q, h⟩
    · split at h
      · rename_i off hl
        split at h
        · rename_i q0
          exact lv_tableIn hx hb hdg (by unfold jI at q; omega) (by unfold jI at q; omega) hl (by unfold p_jmp; omega) (s_nx h k hI.pop)
        · cases h
      · cases h
    · split at h
      · rename_i q0
        exact lv_tableOut hx hb hdg (by unfold jI at q; omega) (by unfold p_jmp; omega) (s_nx h k hI.pop)
      · cases h
  · split at h
    · rename_i K j kd z hl
      obtain ⟨q, nest, fin⟩ := z
      exact s_getfield hX hI hdg hl h k
    · cases h
  · split at h
    · rename_i K j kd q nest fin hl
      split at h
      · cases h
      · rename_i g0
        rw [Bool.not_eq_false, Bool.and_eq_true] at g0
        have g1 : ¬ K = 12 := by
          have g2 := g0.2
          simp only [bne_iff_ne] at g2
          exact g2
        split at h
        · rename_i e0
          obtain ⟨⟨q1, q2⟩, h⟩ := s_pifn h
          exact s_putI hX hI hdg hl g0.1 q1 q2 (Or.inl e0) h k g1
        · split at h
          · rename_i e0
            obtain ⟨⟨q1, q2, q3⟩, h⟩ := s_pifn h
            exact s_putI hX hI hdg hl g0.1 q1 q2 (Or.inr (Or.inl ⟨e0, q3⟩)) h k g1
          · split at h
            · rename_i e0
              obtain ⟨⟨q1, q2, q3, q4⟩, h⟩ := s_pifn h
              exact s_putI hX hI hdg hl g0.1 q1 q2 (Or.inr (Or.inr ⟨e0, q3, q4⟩)) h k g1
            · cases h
    · cases h
  · split at h
    · rename_i K j kd q nest fin hl
      split at h
      · cases h
      · rename_i g0
        rw [Bool.not_eq_false, Bool.and_eq_true] at g0
        have g1 : ¬ K = 12 := by
          have g2 := g0.2
          simp only [bne_iff_ne] at g2
          exact g2
        split at h
        · rename_i e0
          obtain ⟨⟨q1, q2⟩, h⟩ := s_pifn h
          exact s_putR hX hI hdg hl g0.1 q1 q2 e0 h k g1
        · cases h
    · cases h
  · split at h
    · rename_i v z hl
      obtain ⟨row, q, nest⟩ := z
      exact s_getstatic hX hI hdg hl (s_stat0 hI hl) h k
    · rename_i v z hl
      obtain ⟨row, q, nest⟩ := z
      exact s_getstatic hX hI hdg hl .int h k
    · cases h
  · exact s_alen hx hb hI hdg h k
  · exact s_iald hx hb hI hdg h k
  · exact s_bald hx hb hI hdg h k
  · exact s_lald hx hb hI hdg h k
  · exact s_aald hx hb hI hdg h k
  · exact s_iast hx hb hI hdg h k
  · exact s_bast hx hb hI hdg h k
  · exact s_last hx hb hI hdg h k
  · split at h
    · exact s_aastN hX.hK.1 hx hb hI hdg h k
    · exact s_aast hx hb hI hdg h k
  · split at h
    · rename_i tag ht
      refine s_newarr hX hI hdg ?_ h k hroom
      split at ht
      · cases ht; exact Or.inl ⟨rfl, rfl⟩
      · cases ht; exact Or.inr (Or.inl ⟨rfl, rfl⟩)
      · cases ht; exact Or.inr (Or.inr ⟨rfl, rfl⟩)
      · cases ht
    · cases h
  · split at h
    · rename_i z hl
      exact s_anew hX hI hdg hl h k hroom
    · rename_i z hl
      exact s_anewN hX hI hdg hl h k hroom
    · cases h
  · split at h
    · rename_i z hl
      exact s_castB hX hI hdg hl h k
    · cases h
  · split at h
    · rename_i k0 N z hl
      obtain ⟨q, q2, q3⟩ := z
      split at h
      · cases h
      · rename_i g0
        exact s_new hX hI hdg hl g0 h k hroom
    · rename_i E z hl
      split at h
      · rename_i g0
        cases h
        obtain ⟨rfl, g1, g2⟩ := hend _ rfl
        have g3 : cells + (T.1.1 + 1 - T.1.1) = mc := g1
        have g4 : slots + (T.1.2 + 6 - T.1.2) = ms := g2
        exact s_throw hX hn hRf hRl hA hσ hT0 hI hdg hl g0 (by omega) (by omega) (by omega) (by omega)
      · cases h
    · cases h
  · exact s_inv hX hh hn hcall hR1 hR2 hI (fun _ => hdg) (fun q => by cases q) (fun q => by cases q) h k hroom
  · exact s_inv hX hh hn hcall hR1 hR2 hI (fun q => by cases q) (fun _ => hdg) (fun q => by cases q) h k hroom
  · exact s_inv hX hh hn hcall hR1 hR2 hI (fun q => by cases q) (fun q => by cases q) (fun _ => hdg) h k hroom
  · obtain ⟨q, h⟩ := s_pifn h
    cases h
    obtain ⟨rfl, g1, g2⟩ := hend _ rfl
    obtain rfl : cells = mc := by
      have g3 : cells + (T.1.1 - T.1.1) = mc := g1
      omega
    obtain rfl : slots = ms := by
      have g3 : slots + (T.1.2 - T.1.2) = ms := g2
      omega
    exact s_iret hX hA hσ hI hdg q
  · split at h
    · rename_i q
      skip
      cases h
      obtain ⟨rfl, g1, g2⟩ := hend _ rfl
      obtain rfl : cells = mc := by
        have g3 : cells + (T.1.1 - T.1.1) = mc := g1
        omega
      obtain rfl : slots = ms := by
        have g3 : slots + (T.1.2 - T.1.2) = ms := g2
        omega
      exact s_lret hX hA hσ hI hdg q
    · cases h
  · split at h
    · rename_i q
      skip
      cases h
      obtain ⟨rfl, g1, g2⟩ := hend _ rfl
      obtain rfl : cells = mc := by
        have g3 : cells + (T.1.1 - T.1.1) = mc := g1
        omega
      obtain rfl : slots = ms := by
        have g3 : slots + (T.1.2 - T.1.2) = ms := g2
        omega
      exact s_dret hX hA hσ hI hdg q
    · cases h
  · split at h
    · rename_i nm q
      rcases s_pif h with ⟨-, h⟩ | ⟨q0, h⟩
      · cases h
      · skip
        cases h
        obtain ⟨rfl, g1, g2⟩ := hend _ rfl
        obtain rfl : cells = mc := by
          have g3 : cells + (T.1.1 - T.1.1) = mc := g1
          omega
        obtain rfl : slots = ms := by
          have g3 : slots + (T.1.2 - T.1.2) = ms := g2
          omega
        exact s_aret hX hA hσ hI hdg q (Or.inl ⟨_, rfl⟩) q0
    · rename_i nm q
      rcases s_pif h with ⟨-, h⟩ | ⟨q0, h⟩
      · cases h
      · skip
        cases h
        obtain ⟨rfl, g1, g2⟩ := hend _ rfl
        obtain rfl : cells = mc := by
          have g3 : cells + (T.1.1 - T.1.1) = mc := g1
          omega
        obtain rfl : slots = ms := by
          have g3 : slots + (T.1.2 - T.1.2) = ms := g2
          omega
        exact s_aret hX hA hσ hI hdg q (Or.inr ⟨_, rfl⟩) q0
    · cases h
  · split at h
    · rename_i q
      skip
      cases h
      obtain ⟨rfl, g1, g2⟩ := hend _ rfl
      obtain rfl : cells = mc := by
        have g3 : cells + (T.1.1 - T.1.1) = mc := g1
        omega
      obtain rfl : slots = ms := by
        have g3 : slots + (T.1.2 - T.1.2) = ms := g2
        omega
      exact s_vret hX hA hσ hI hdg q
    · cases h
  · cases h
end PSH
