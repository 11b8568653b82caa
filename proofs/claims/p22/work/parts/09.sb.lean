section PSB
variable {p : Program} {l : Launch} {e : Env} {Rm : Room} {s : State} {m : MethodId} {args : Array Value} {below : List Frame} {meth : Method} {c : Code} {Q : State → Prop} {D : va_G} {fv : Value} {A : Nat → Prop} {n : Nat} {σ : Nat → Nat} {T : pT} {M M' : pM} {F F' : pF} {H H' : Heap} {locs : List Loc} {L : List Slot} {ls : Array Slot} {cells slots : Nat} {st st' : List Value} {pc : Nat} {o : pG ⊕ pR} {a : Nat} {y : pC}
theorem s_asb {n0 : Nat} (hI : s_I D fv A s n σ T M F H locs L ls st) (hst : st.drop n0 = .ref a :: st') : ∀ v ∈ (.ref a :: (st.take n0).reverse : List Value), s_lt T.1.1 v := by
  intro v hv
  rcases List.mem_cons.mp hv with rfl | hv
  · exact hI.bnd _ (List.mem_of_mem_drop (by rw [hst]; exact List.mem_cons_self))
  · exact hI.bnd v (List.mem_of_mem_take (List.mem_reverse.mp hv))
theorem s_tag0 (k : Nat) : p_tag k ≠ 0 := by unfold p_tag; split <;> omega
theorem s_tagE {k : Nat} (h : k < 10 ∨ k = 11) : p_tag k = 10 + k := if_neg (by omega)
theorem s_cV {call : pK} {idx n0 q q2 q3 q5 q4 nest : Nat} {y' : pC} (hX : s_X p l s m meth c D y) (hh : s_hchk y = true) (hn : n = y.2.2.2.1) (hcall : s_call_ok l fv Rm call) (hI : s_I D fv A s n σ T M F H locs L ls st) (hdg : decode y.2.2.1 pc = .ok (.invokevirtual idx, 3)) (hl : (p_m y.1).lookup idx = some (1, y', n0, q, nest, q2, q3, q5, q4))
    (hst : st.drop n0 = .ref a :: st') (h : p_if ((p_ty T a).1 = p_tag y'.1 ∧ st'.length ≤ 4) (p_cb (call y' (.ref a :: (st.take n0).reverse) T M F) y pc L st') none = some o) (k : ∀ g, o = .inl g → s_K p l e Rm s m args below meth c Q D fv A n σ T cells slots g) (hroom : ∀ g, o = .inl g → cells + (g.2.2.2.1.1.1 - T.1.1) ≤ Rm.cells ∧ slots + (g.2.2.2.1.1.2 - T.1.2) ≤ Rm.slots) :
    W p l e Rm s m args below meth c H locs cells slots Q (F0 m pc ls (st.map (s_vm σ fv))) := by
  have hn0 : n0 ≤ st.length := by
    have := congrArg List.length hst
    rw [List.length_drop, List.length_cons] at this
    omega
  obtain ⟨⟨hty, h4⟩, h⟩ := s_pifn h
  cases hcl : call y' (.ref a :: (st.take n0).reverse) T M F with
  | none => rw [hcl] at h; cases h
  | some r =>
    rw [hcl] at h
    have hchk := s_all s_mOK hl
    unfold s_mchk at hchk
    simp only [Bool.and_eq_true] at hchk
    obtain ⟨⟨⟨⟨⟨⟨⟨⟨w4, w5⟩, w6⟩, w7⟩, w8⟩, w3⟩, w9⟩, w10⟩, w1, ⟨⟨w2, w12⟩, w13⟩, w14⟩ := hchk
    have hcls : y'.2.1.cls = p_cn y'.1 := of_decide_eq_true w8
    have hg : s_good y' := ⟨hcls, w5, ⟨of_decide_eq_true w10, s_pf hl (by decide)⟩, s_in_tbl w4⟩
    obtain ⟨hmono, d, hd1, hd2, hMet⟩ := hcall y' hg _ _ _ _ _ (s_asb hI hst) hcl
    have hM := hMet D σ H.size
    obtain ⟨g, hg1, hg2⟩ := p_cb_T h
    have hrm := hroom g hg1
    rw [hg2] at hrm
    have hts := hX.hts (args := args)
    have hW8 : 2 * (F0 m pc ls (st.map (s_vm σ fv))).monitorRoom + ((st'.map (s_vm σ fv)).map fun v => v.category).sum ≤ 8 := by
      have h1 := s_cat (st'.map (s_vm σ fv))
      rw [List.length_map] at h1
      have h2 : (F0 m pc ls (st.map (s_vm σ fv))).monitorRoom = 0 := rfl
      omega
    have hR : (s_rm d (r.2.1.1.1 - T.1.1) (r.2.1.1.2 - T.1.2)).frames + 1 ≤ Rm.frames ∧ 8 + (y'.2.2.2.1 + 11) + (s_rm d (r.2.1.1.1 - T.1.1) (r.2.1.1.2 - T.1.2)).locals ≤ Rm.locals := by
      refine ⟨hd1, ?_⟩
      show 8 + (y'.2.2.2.1 + 11) + 40 * d ≤ Rm.locals
      have := hg.2.2.1
      omega
    have hsz : ls.size = y.2.2.2.1 := by rw [← hn]; exact s_lsz hI.2.2.2.2.2.2.1
    have hvr : s_vm σ fv (.ref a) = .ref (σ a) := s_vm_ref (T := T) (by rw [hty]; exact s_tag0 _)
    have hstk : st.map (s_vm σ fv) = (((st.take n0).reverse).map (s_vm σ fv)).reverse ++ .ref (σ a) :: st'.map (s_vm σ fv) := by
      rw [← hvr, ← List.map_cons, ← hst, List.map_reverse, List.reverse_reverse, ← List.map_append, List.take_append_drop]
    have hln : (((st.take n0).reverse).map (s_vm σ fv)).length = n0 := by
      rw [List.length_map, List.length_reverse, List.length_take]; omega
    have hdd : y'.2.1.cls ≠ "java/lang/invoke/MethodHandle" ∧ y'.2.1.cls ≠ "java/lang/invoke/VarHandle" ∧ (parseMethodDescriptor y'.2.1.desc).map (fun d => d.parameters.length) = some n0 := ⟨of_decide_eq_true w6, of_decide_eq_true w7, of_decide_eq_true w9⟩
    have hpc : ∀ U : State, U.heap = H → s.WarmedH U.vm → s_Pc D fv σ T M F H.size (.ref a :: (st.take n0).reverse) (Value.ref (σ a) :: ((st.take n0).reverse).map (s_vm σ fv)).toArray U := fun U hU hW => by
      have h9 := s_preS hX hI (as := .ref a :: (st.take n0).reverse) hU hW
      rw [List.map_cons, hvr] at h9
      exact h9
    have hbnd : ∀ v ∈ st', s_lt T.1.1 v := fun v hv => hI.bnd v (List.mem_of_mem_drop (by rw [hst]; exact List.mem_cons_of_mem _ hv))
    have hI' : s_I D fv A s n σ T M F H locs L ls st' := hI.stk hbnd
    have hhh : y'.2.2.2.2.2 = [] := of_decide_eq_true w13
    have hcw : s_cw y' = .code y'.2.1 y'.2.2.1 y'.2.2.2.1 y'.2.2.2.2.1 := if_pos hhh
    have hpre : PreV s H y'.2.1.cls (σ a) (s_Pc D fv σ T M F H.size (.ref a :: (st.take n0).reverse)) (((st.take n0).reverse).map (s_vm σ fv)) := ⟨s_blind, by rw [hcls]; exact s_recv hX hI (hty.trans (s_tagE (of_decide_eq_true w14))) (of_decide_eq_true w14), hpc⟩
    have hrun : vx_Run p l e Rm s m args below meth c H locs cells slots (r.2.1.1.1 - T.1.1) (r.2.1.1.2 - T.1.2) (F0 m pc ls (st.map (s_vm σ fv))) (st'.map (s_vm σ fv)) (s_Qc D fv σ T H.size r (Value.ref (σ a) :: ((st.take n0).reverse).map (s_vm σ fv)).toArray) (s_XC D fv σ T H.size r) (s_fr σ T H.size) := by
      by_cases hne : nest = 0
      · subst hne
        exact vx_runV (s_fix hX) hM ⟨callB_of n0 hts (s_goodIn hg.2.2.2) (by rw [hcw]) rfl rfl (hts _ (s_in_tbl w3)) (hts _ (s_in_tbl w1)) hdd hR, hts _ (s_in_tbl w2), hts _ (s_in_tbl w12)⟩ hpre rfl hln hsz hstk hW8 hdg hrm
      · have w1' : (Cond.methodLinkNest (p_cn y.1) idx y'.2.1 "HexCabinet") ∈ s_tbl := by
          have := s_in_tbl w1
          unfold s_ml at this
          rw [if_neg hne] at this
          exact this
        exact vx_runVN (s_fix hX) hM ⟨va_cnB n0 hts (s_goodIn hg.2.2.2) (by rw [hcw]) rfl rfl (va_Nw.of rfl (hts _ w1')) (hts _ (s_in_tbl w3)) hdd hR, hts _ (s_in_tbl w2), hts _ (s_in_tbl w12)⟩ hpre rfl hln hsz hstk hW8 hdg hrm
    exact s_call hX hrun rfl rfl hmono hI' hh h k
theorem s_classB (hX : s_X p l s m meth c D y) : ClassAt s s_BC (D.1 (vix 9)) := by
  obtain ⟨hS, hfc, kC, hkC, hkind⟩ := hX.hK.1 _ _ (vcl_ix (k := 9) (q := (RJ4, TJ4, 4)) rfl)
  exact ⟨hfc, kC, hkC, hkind⟩
theorem s_insB : s_inA (.instantiable s_BC 4) = true := by decide +kernel
/-- a private method of the class above is what a call of it runs, on a StringBuilder too -/
theorem s_selP {y : MethodName} {s : State} {args : Array Value} (hins : (Cond.instantiable s_BC 4).before args s = true) (hpriv : (Cond.privateMethod y).before args s = true) (hinst : (Cond.instanceMethod y).before args s = true) (hsame : (Cond.sameMethod y.cls y.cls y.name y.desc).before args s = true) (hy : y.cls ≠ "java/lang/invoke/MethodHandle" ∧ y.cls ≠ "java/lang/invoke/VarHandle") : (Cond.selects s_BC y y).before args s = true := by
  obtain ⟨c, k, hc, hk, -, hniab, -, -⟩ := Cond.instantiable_spec hins
  obtain ⟨mk, methM, hnamed, hmethM, -, -⟩ := Cond.instanceMethod_spec hinst
  have hfound : s.methodFound? y.cls y.name y.desc = some mk := State.methodFound?_of_named hnamed hy
  obtain ⟨cn, ck, r1, hcn, hck, hni, hf, hn1⟩ := Cond.sameMethod_found hsame
  have hsel : selectMethod {} s.vm c mk = .method mk := selectMethod_private hmethM (Cond.privateMethod_at hpriv mk methM hnamed hmethM)
  have hcl : mk.cls = cn := Option.some.inj ((findClass_of_methodNamed hnamed).symm.trans hcn)
  simp only [Cond.before, Cond.holds, Cond.value, hc, hfound, hnamed, hsel, hcl, hck]
  simp; exact hni
theorem va_CU_of' {R : Room} {own C owner : String} {index maxL n : Nat} {x y : MethodName} {bytes : ByteArray} {ret : Option FieldType} {Ts ws : List Cond} {rm : Room} (ht : ∀ w ∈ Ts, w.before args s = true) (hT : GoodIn Ts ws) (hc : Cond.code y bytes maxL ret ∈ ws) (hini : (Cond.initialized y.cls).before args s = true) (hl : (Cond.methodLink own index x).before args s = true) (hsame : (Cond.sameMethod x.cls owner x.name x.desc).before args s = true) (hdec : va_Decl s ⟨owner, x.name, x.desc⟩) (hsel : (Cond.selects C x y).before args s = true) (hinst : (Cond.instanceMethod y).before args s = true)
    (hd : owner ≠ "java/lang/invoke/MethodHandle" ∧ owner ≠ "java/lang/invoke/VarHandle" ∧ (parseMethodDescriptor x.desc).map (fun d => d.parameters.length) = some n) (hR : rm.frames + 1 ≤ R.frames ∧ 8 + (maxL + 11) + rm.locals ≤ R.locals) : va_CU R s args own C owner index x y bytes maxL ret ws rm rm.cells rm.slots n := by
  refine ⟨⟨rfl, rfl, hR.1, hR.2, pay_in ht hT, hc⟩, ht _ (hT _ hc).1, hini, ⟨hd.1, hd.2.1⟩, fun sig h => ?_, hl, hsame, hdec, hsel, hinst⟩
  have h2 := hd.2.2
  rw [h] at h2
  exact (Option.some.inj h2).symm
theorem va_CU_of {R : Room} {own : String} {index maxL n : Nat} {y : MethodName} {bytes : ByteArray} {ret : Option FieldType} {Ts ws : List Cond} {rm : Room} (ht : ∀ w ∈ Ts, w.before args s = true) (hT : GoodIn Ts ws) (hc : Cond.code y bytes maxL ret ∈ ws) (hini : (Cond.initialized y.cls).before args s = true) (hl : (Cond.methodLink own index ⟨s_AC, y.name, y.desc⟩).before args s = true) (hsame : (Cond.sameMethod s_AC s_AC y.name y.desc).before args s = true) (hdec : va_Decl s ⟨s_AC, y.name, y.desc⟩) (hsel : (Cond.selects s_BC ⟨s_AC, y.name, y.desc⟩ y).before args s = true) (hinst : (Cond.instanceMethod y).before args s = true)
    (hd : (parseMethodDescriptor y.desc).map (fun d => d.parameters.length) = some n) (hR : rm.frames + 1 ≤ R.frames ∧ 8 + (maxL + 11) + rm.locals ≤ R.locals) : va_CU R s args own s_BC s_AC index ⟨s_AC, y.name, y.desc⟩ y bytes maxL ret ws rm rm.cells rm.slots n :=
  va_CU_of' (x := ⟨s_AC, y.name, y.desc⟩) ht hT hc hini hl hsame hdec hsel hinst ⟨by decide, by decide, hd⟩ hR
theorem s_cU {call : pK} {idx n0 q q2 q3 q5 q4 nest : Nat} {y' : pC} (hX : s_X p l s m meth c D y) (hh : s_hchk y = true) (hn : n = y.2.2.2.1) (hcall : s_call_ok l fv Rm call) (hI : s_I D fv A s n σ T M F H locs L ls st) (hdg : decode y.2.2.1 pc = .ok (.invokevirtual idx, 3)) (hl : (p_m y.1).lookup idx = some (6, y', n0, q, nest, q2, q3, q5, q4))
    (hst : st.drop n0 = .ref a :: st') (h : p_if ((p_ty T a).1 = p_tag y'.1 ∧ st'.length ≤ 4) (p_cb (call y' (.ref a :: (st.take n0).reverse) T M F) y pc L st') none = some o) (k : ∀ g, o = .inl g → s_K p l e Rm s m args below meth c Q D fv A n σ T cells slots g) (hroom : ∀ g, o = .inl g → cells + (g.2.2.2.1.1.1 - T.1.1) ≤ Rm.cells ∧ slots + (g.2.2.2.1.1.2 - T.1.2) ≤ Rm.slots) :
    W p l e Rm s m args below meth c H locs cells slots Q (F0 m pc ls (st.map (s_vm σ fv))) := by
  have hn0 : n0 ≤ st.length := by
    have := congrArg List.length hst
    rw [List.length_drop, List.length_cons] at this
    omega
  obtain ⟨⟨hty, h4⟩, h⟩ := s_pifn h
  cases hcl : call y' (.ref a :: (st.take n0).reverse) T M F with
  | none => rw [hcl] at h; cases h
  | some r =>
    rw [hcl] at h
    have hchk := s_all s_mOK hl
    unfold s_mchk at hchk
    simp only [Bool.and_eq_true] at hchk
    obtain ⟨⟨⟨⟨⟨⟨⟨⟨w4, w5⟩, w6⟩, w7⟩, w8⟩, w3⟩, w9⟩, w10⟩, w1, ⟨⟨⟨⟨w2, w12⟩, w13⟩, w14⟩, w15⟩, w16⟩ := hchk
    have hcls : y'.2.1.cls = p_cn y'.1 := of_decide_eq_true w8
    have hg : s_good y' := ⟨hcls, w5, ⟨of_decide_eq_true w10, s_pf hl (by decide)⟩, s_in_tbl w4⟩
    obtain ⟨hmono, d, hd1, hd2, hMet⟩ := hcall y' hg _ _ _ _ _ (s_asb hI hst) hcl
    have hM := hMet D σ H.size
    obtain ⟨g, hg1, hg2⟩ := p_cb_T h
    have hrm := hroom g hg1
    rw [hg2] at hrm
    have hts := hX.hts (args := args)
    have hW8 : 2 * (F0 m pc ls (st.map (s_vm σ fv))).monitorRoom + ((st'.map (s_vm σ fv)).map fun v => v.category).sum ≤ 8 := by
      have h1 := s_cat (st'.map (s_vm σ fv))
      rw [List.length_map] at h1
      have h2 : (F0 m pc ls (st.map (s_vm σ fv))).monitorRoom = 0 := rfl
      omega
    have hR : (s_rm d (r.2.1.1.1 - T.1.1) (r.2.1.1.2 - T.1.2)).frames + 1 ≤ Rm.frames ∧ 8 + (y'.2.2.2.1 + 11) + (s_rm d (r.2.1.1.1 - T.1.1) (r.2.1.1.2 - T.1.2)).locals ≤ Rm.locals := by
      refine ⟨hd1, ?_⟩
      show 8 + (y'.2.2.2.1 + 11) + 40 * d ≤ Rm.locals
      have := hg.2.2.1
      omega
    have hsz : ls.size = y.2.2.2.1 := by rw [← hn]; exact s_lsz hI.2.2.2.2.2.2.1
    have hvr : s_vm σ fv (.ref a) = .ref (σ a) := s_vm_ref (T := T) (by rw [hty]; exact s_tag0 _)
    have hstk : st.map (s_vm σ fv) = (((st.take n0).reverse).map (s_vm σ fv)).reverse ++ .ref (σ a) :: st'.map (s_vm σ fv) := by
      rw [← hvr, ← List.map_cons, ← hst, List.map_reverse, List.reverse_reverse, ← List.map_append, List.take_append_drop]
    have hln : (((st.take n0).reverse).map (s_vm σ fv)).length = n0 := by
      rw [List.length_map, List.length_reverse, List.length_take]; omega
    have hdd : y'.2.1.cls ≠ "java/lang/invoke/MethodHandle" ∧ y'.2.1.cls ≠ "java/lang/invoke/VarHandle" ∧ (parseMethodDescriptor y'.2.1.desc).map (fun d => d.parameters.length) = some n0 := ⟨of_decide_eq_true w6, of_decide_eq_true w7, of_decide_eq_true w9⟩
    have hpc : ∀ U : State, U.heap = H → s.WarmedH U.vm → s_Pc D fv σ T M F H.size (.ref a :: (st.take n0).reverse) (Value.ref (σ a) :: ((st.take n0).reverse).map (s_vm σ fv)).toArray U := fun U hU hW => by
      have h9 := s_preS hX hI (as := .ref a :: (st.take n0).reverse) hU hW
      rw [List.map_cons, hvr] at h9
      exact h9
    have hbnd : ∀ v ∈ st', s_lt T.1.1 v := fun v hv => hI.bnd v (List.mem_of_mem_drop (by rw [hst]; exact List.mem_cons_of_mem _ hv))
    have hI' : s_I D fv A s n σ T M F H locs L ls st' := hI.stk hbnd
    have hhh : y'.2.2.2.2.2 = [] := of_decide_eq_true w13
    have hcw : s_cw y' = .code y'.2.1 y'.2.2.1 y'.2.2.2.1 y'.2.2.2.2.1 := if_pos hhh
    have htg : p_tag y'.1 = 10 + 9 := by
      rcases of_decide_eq_true w15 with z | z <;> rw [z] <;> rfl
    have hpre : PreV s H s_BC (σ a) (s_Pc D fv σ T M F H.size (.ref a :: (st.take n0).reverse)) (((st.take n0).reverse).map (s_vm σ fv)) := ⟨s_blind, s_recv hX hI (k0 := 9) (hty.trans htg) (Or.inl (by decide)), hpc⟩
    have hrun : vx_Run p l e Rm s m args below meth c H locs cells slots (r.2.1.1.1 - T.1.1) (r.2.1.1.2 - T.1.2) (F0 m pc ls (st.map (s_vm σ fv))) (st'.map (s_vm σ fv)) (s_Qc D fv σ T H.size r (Value.ref (σ a) :: ((st.take n0).reverse).map (s_vm σ fv)).toArray) (s_XC D fv σ T H.size r) (s_fr σ T H.size) := by
      have hx0 : ∃ b0 m0 r0, (Cond.code ⟨s_AC, y'.2.1.name, y'.2.1.desc⟩ b0 m0 r0) ∈ s_tbl := by
        have h9 := w16
        unfold s_acw at h9
        rw [Bool.and_eq_true] at h9
        obtain ⟨w, hw, h8⟩ := List.any_eq_true.mp h9.2
        cases w <;> try (cases h8; done)
        rename_i y9 b9 m9 r9
        dsimp only at h8
        rw [Bool.and_eq_true] at h8
        have e9 := of_decide_eq_true h8.1
        subst e9
        exact ⟨_, _, _, List.mem_filter.mpr ⟨hw, h8.2⟩⟩
      obtain ⟨b0, m0, r0, hx1⟩ := hx0
      unfold s_acw at w16
      simp only [Bool.and_eq_true] at w16
      exact vx_runU (s_fix hX) hM (va_CU_of hts (s_goodIn hg.2.2.2) (by rw [hcw]; exact List.mem_cons_self) (hts _ (s_in_tbl w3)) (hts _ (s_in_tbl w1)) (hts _ (s_inA_tbl w16.1.1)) (va_Decl.of (hts _ (s_inA_tbl w16.1.2)) (hts _ hx1)) (hts _ (s_in_tbl w12)) (hts _ (s_in_tbl w2)) hdd.2.2 hR) hpre rfl hln hsz hstk hW8 hdg hrm
    exact s_call hX hrun rfl rfl hmono hI' hh h k
theorem s_cP {call : pK} {idx n0 q q2 q3 q5 q4 nest : Nat} {y' : pC} (hX : s_X p l s m meth c D y) (hh : s_hchk y = true) (hn : n = y.2.2.2.1) (hcall : s_call_ok l fv Rm call) (hI : s_I D fv A s n σ T M F H locs L ls st) (hdg : decode y.2.2.1 pc = .ok (.invokevirtual idx, 3)) (hl : (p_m y.1).lookup idx = some (9, y', n0, q, nest, q2, q3, q5, q4))
    (hst : st.drop n0 = .ref a :: st') (h : p_if ((p_ty T a).1 = p_tag y'.1 ∧ st'.length ≤ 4) (p_cb (call y' (.ref a :: (st.take n0).reverse) T M F) y pc L st') none = some o) (k : ∀ g, o = .inl g → s_K p l e Rm s m args below meth c Q D fv A n σ T cells slots g) (hroom : ∀ g, o = .inl g → cells + (g.2.2.2.1.1.1 - T.1.1) ≤ Rm.cells ∧ slots + (g.2.2.2.1.1.2 - T.1.2) ≤ Rm.slots) :
    W p l e Rm s m args below meth c H locs cells slots Q (F0 m pc ls (st.map (s_vm σ fv))) := by
  have hn0 : n0 ≤ st.length := by
    have := congrArg List.length hst
    rw [List.length_drop, List.length_cons] at this
    omega
  obtain ⟨⟨hty, h4⟩, h⟩ := s_pifn h
  cases hcl : call y' (.ref a :: (st.take n0).reverse) T M F with
  | none => rw [hcl] at h; cases h
  | some r =>
    rw [hcl] at h
    have hchk := s_all s_mOK hl
    unfold s_mchk at hchk
    simp only [Bool.and_eq_true] at hchk
    obtain ⟨⟨⟨⟨⟨⟨⟨⟨w4, w5⟩, w6⟩, w7⟩, w8⟩, w3⟩, w9⟩, w10⟩, w1, ⟨⟨⟨⟨w2, w12⟩, w13⟩, w14⟩, w15⟩, w16⟩ := hchk
    have hcls : y'.2.1.cls = p_cn y'.1 := of_decide_eq_true w8
    have hg : s_good y' := ⟨hcls, w5, ⟨of_decide_eq_true w10, s_pf hl (by decide)⟩, s_in_tbl w4⟩
    obtain ⟨hmono, d, hd1, hd2, hMet⟩ := hcall y' hg _ _ _ _ _ (s_asb hI hst) hcl
    have hM := hMet D σ H.size
    obtain ⟨g, hg1, hg2⟩ := p_cb_T h
    have hrm := hroom g hg1
    rw [hg2] at hrm
    have hts := hX.hts (args := args)
    have hW8 : 2 * (F0 m pc ls (st.map (s_vm σ fv))).monitorRoom + ((st'.map (s_vm σ fv)).map fun v => v.category).sum ≤ 8 := by
      have h1 := s_cat (st'.map (s_vm σ fv))
      rw [List.length_map] at h1
      have h2 : (F0 m pc ls (st.map (s_vm σ fv))).monitorRoom = 0 := rfl
      omega
    have hR : (s_rm d (r.2.1.1.1 - T.1.1) (r.2.1.1.2 - T.1.2)).frames + 1 ≤ Rm.frames ∧ 8 + (y'.2.2.2.1 + 11) + (s_rm d (r.2.1.1.1 - T.1.1) (r.2.1.1.2 - T.1.2)).locals ≤ Rm.locals := by
      refine ⟨hd1, ?_⟩
      show 8 + (y'.2.2.2.1 + 11) + 40 * d ≤ Rm.locals
      have := hg.2.2.1
      omega
    have hsz : ls.size = y.2.2.2.1 := by rw [← hn]; exact s_lsz hI.2.2.2.2.2.2.1
    have hvr : s_vm σ fv (.ref a) = .ref (σ a) := s_vm_ref (T := T) (by rw [hty]; exact s_tag0 _)
    have hstk : st.map (s_vm σ fv) = (((st.take n0).reverse).map (s_vm σ fv)).reverse ++ .ref (σ a) :: st'.map (s_vm σ fv) := by
      rw [← hvr, ← List.map_cons, ← hst, List.map_reverse, List.reverse_reverse, ← List.map_append, List.take_append_drop]
    have hln : (((st.take n0).reverse).map (s_vm σ fv)).length = n0 := by
      rw [List.length_map, List.length_reverse, List.length_take]; omega
    have hdd : y'.2.1.cls ≠ "java/lang/invoke/MethodHandle" ∧ y'.2.1.cls ≠ "java/lang/invoke/VarHandle" ∧ (parseMethodDescriptor y'.2.1.desc).map (fun d => d.parameters.length) = some n0 := ⟨of_decide_eq_true w6, of_decide_eq_true w7, of_decide_eq_true w9⟩
    have hpc : ∀ U : State, U.heap = H → s.WarmedH U.vm → s_Pc D fv σ T M F H.size (.ref a :: (st.take n0).reverse) (Value.ref (σ a) :: ((st.take n0).reverse).map (s_vm σ fv)).toArray U := fun U hU hW => by
      have h9 := s_preS hX hI (as := .ref a :: (st.take n0).reverse) hU hW
      rw [List.map_cons, hvr] at h9
      exact h9
    have hbnd : ∀ v ∈ st', s_lt T.1.1 v := fun v hv => hI.bnd v (List.mem_of_mem_drop (by rw [hst]; exact List.mem_cons_of_mem _ hv))
    have hI' : s_I D fv A s n σ T M F H locs L ls st' := hI.stk hbnd
    have hhh : y'.2.2.2.2.2 = [] := of_decide_eq_true w13
    have hcw : s_cw y' = .code y'.2.1 y'.2.2.1 y'.2.2.2.1 y'.2.2.2.2.1 := if_pos hhh
    have hy18 : y'.1 = 18 := of_decide_eq_true w15
    have hac : y'.2.1.cls = s_AC := by rw [hcls, hy18]; rfl
    have htg : p_tag y'.1 = 10 + 9 := by rw [hy18]; rfl
    have hpre : PreV s H s_BC (σ a) (s_Pc D fv σ T M F H.size (.ref a :: (st.take n0).reverse)) (((st.take n0).reverse).map (s_vm σ fv)) := ⟨s_blind, s_recv hX hI (k0 := 9) (hty.trans htg) (Or.inl (by decide)), hpc⟩
    have hrun : vx_Run p l e Rm s m args below meth c H locs cells slots (r.2.1.1.1 - T.1.1) (r.2.1.1.2 - T.1.2) (F0 m pc ls (st.map (s_vm σ fv))) (st'.map (s_vm σ fv)) (s_Qc D fv σ T H.size r (Value.ref (σ a) :: ((st.take n0).reverse).map (s_vm σ fv)).toArray) (s_XC D fv σ T H.size r) (s_fr σ T H.size) := by
      have hex : y'.2.1 = ⟨s_AC, y'.2.1.name, y'.2.1.desc⟩ := by
        obtain ⟨k9, ⟨c9, n9, d9⟩, z9⟩ := y'
        have hac : c9 = s_AC := hac
        subst hac; rfl
      have hsel := s_selP (hts _ (s_inA_tbl s_insB)) (hts _ (s_in_tbl w12)) (hts _ (s_in_tbl w2)) (hts _ (s_inA_tbl w16)) ⟨hdd.1, hdd.2.1⟩
      have hco := hts _ hg.2.2.2
      rw [hcw] at hco
      exact vx_runU (x := y'.2.1) (owner := y'.2.1.cls) (s_fix hX) hM (va_CU_of' hts (s_goodIn hg.2.2.2) (by rw [hcw]; exact List.mem_cons_self) (hts _ (s_in_tbl w3)) (hts _ (s_in_tbl w1)) (hts _ (s_inA_tbl w16)) (va_Decl.of (hts _ (s_in_tbl w2)) hco) hsel (hts _ (s_in_tbl w2)) hdd hR) hpre rfl hln hsz hstk hW8 hdg hrm
    exact s_call hX hrun rfl rfl hmono hI' hh h k
theorem s_cW {call : pK} {idx n0 q q2 q3 q5 q4 nest : Nat} {y' : pC} (hX : s_X p l s m meth c D y) (hh : s_hchk y = true) (hn : n = y.2.2.2.1) (hcall : s_call_ok l fv Rm call) (hI : s_I D fv A s n σ T M F H locs L ls st) (hdg : decode y.2.2.1 pc = .ok (.invokespecial idx, 3)) (hl : (p_m y.1).lookup idx = some (7, y', n0, q, nest, q2, q3, q5, q4))
    (hst : st.drop n0 = .ref a :: st') (h : p_if ((p_ty T a).1 = p_tag y'.1 ∧ st'.length ≤ 4) (p_cb (call y' (.ref a :: (st.take n0).reverse) T M F) y pc L st') none = some o) (k : ∀ g, o = .inl g → s_K p l e Rm s m args below meth c Q D fv A n σ T cells slots g) (hroom : ∀ g, o = .inl g → cells + (g.2.2.2.1.1.1 - T.1.1) ≤ Rm.cells ∧ slots + (g.2.2.2.1.1.2 - T.1.2) ≤ Rm.slots) :
    W p l e Rm s m args below meth c H locs cells slots Q (F0 m pc ls (st.map (s_vm σ fv))) := by
  have hn0 : n0 ≤ st.length := by
    have := congrArg List.length hst
    rw [List.length_drop, List.length_cons] at this
    omega
  obtain ⟨⟨hty, h4⟩, h⟩ := s_pifn h
  cases hcl : call y' (.ref a :: (st.take n0).reverse) T M F with
  | none => rw [hcl] at h; cases h
  | some r =>
    rw [hcl] at h
    have hchk := s_all s_mOK hl
    unfold s_mchk at hchk
    simp only [Bool.and_eq_true] at hchk
    obtain ⟨⟨⟨⟨⟨⟨⟨⟨w4, w5⟩, w6⟩, w7⟩, w8⟩, w3⟩, w9⟩, w10⟩, w1, ⟨⟨⟨⟨⟨⟨w2, w12⟩, w13⟩, w14⟩, w15⟩, w16⟩, w17⟩, w18⟩ := hchk
    have hcls : y'.2.1.cls = p_cn y'.1 := of_decide_eq_true w8
    have hg : s_good y' := ⟨hcls, w5, ⟨of_decide_eq_true w10, s_pf hl (by decide)⟩, s_in_tbl w4⟩
    obtain ⟨hmono, d, hd1, hd2, hMet⟩ := hcall y' hg _ _ _ _ _ (s_asb hI hst) hcl
    have hM := hMet D σ H.size
    obtain ⟨g, hg1, hg2⟩ := p_cb_T h
    have hrm := hroom g hg1
    rw [hg2] at hrm
    have hts := hX.hts (args := args)
    have hW8 : 2 * (F0 m pc ls (st.map (s_vm σ fv))).monitorRoom + ((st'.map (s_vm σ fv)).map fun v => v.category).sum ≤ 8 := by
      have h1 := s_cat (st'.map (s_vm σ fv))
      rw [List.length_map] at h1
      have h2 : (F0 m pc ls (st.map (s_vm σ fv))).monitorRoom = 0 := rfl
      omega
    have hR : (s_rm d (r.2.1.1.1 - T.1.1) (r.2.1.1.2 - T.1.2)).frames + 1 ≤ Rm.frames ∧ 8 + (y'.2.2.2.1 + 11) + (s_rm d (r.2.1.1.1 - T.1.1) (r.2.1.1.2 - T.1.2)).locals ≤ Rm.locals := by
      refine ⟨hd1, ?_⟩
      show 8 + (y'.2.2.2.1 + 11) + 40 * d ≤ Rm.locals
      have := hg.2.2.1
      omega
    have hsz : ls.size = y.2.2.2.1 := by rw [← hn]; exact s_lsz hI.2.2.2.2.2.2.1
    have hvr : s_vm σ fv (.ref a) = .ref (σ a) := s_vm_ref (T := T) (by rw [hty]; exact s_tag0 _)
    have hstk : st.map (s_vm σ fv) = (((st.take n0).reverse).map (s_vm σ fv)).reverse ++ .ref (σ a) :: st'.map (s_vm σ fv) := by
      rw [← hvr, ← List.map_cons, ← hst, List.map_reverse, List.reverse_reverse, ← List.map_append, List.take_append_drop]
    have hln : (((st.take n0).reverse).map (s_vm σ fv)).length = n0 := by
      rw [List.length_map, List.length_reverse, List.length_take]; omega
    have hdd : y'.2.1.cls ≠ "java/lang/invoke/MethodHandle" ∧ y'.2.1.cls ≠ "java/lang/invoke/VarHandle" ∧ (parseMethodDescriptor y'.2.1.desc).map (fun d => d.parameters.length) = some n0 := ⟨of_decide_eq_true w6, of_decide_eq_true w7, of_decide_eq_true w9⟩
    have hpc : ∀ U : State, U.heap = H → s.WarmedH U.vm → s_Pc D fv σ T M F H.size (.ref a :: (st.take n0).reverse) (Value.ref (σ a) :: ((st.take n0).reverse).map (s_vm σ fv)).toArray U := fun U hU hW => by
      have h9 := s_preS hX hI (as := .ref a :: (st.take n0).reverse) hU hW
      rw [List.map_cons, hvr] at h9
      exact h9
    have hbnd : ∀ v ∈ st', s_lt T.1.1 v := fun v hv => hI.bnd v (List.mem_of_mem_drop (by rw [hst]; exact List.mem_cons_of_mem _ hv))
    have hI' : s_I D fv A s n σ T M F H locs L ls st' := hI.stk hbnd
    have hhh : y'.2.2.2.2.2 = [] := of_decide_eq_true w13
    have hcw : s_cw y' = .code y'.2.1 y'.2.2.1 y'.2.2.2.1 y'.2.2.2.2.1 := if_pos hhh
    have hy18 : y'.1 = 18 := of_decide_eq_true w15
    have htg : p_tag y'.1 = 10 + 9 := by rw [hy18]; rfl
    have hpre : PreV s H s_BC (σ a) (s_Pc D fv σ T M F H.size (.ref a :: (st.take n0).reverse)) (((st.take n0).reverse).map (s_vm σ fv)) := ⟨s_blind, s_recv hX hI (k0 := 9) (hty.trans htg) (Or.inl (by decide)), hpc⟩
    have hrun : vx_Run p l e Rm s m args below meth c H locs cells slots (r.2.1.1.1 - T.1.1) (r.2.1.1.2 - T.1.2) (F0 m pc ls (st.map (s_vm σ fv))) (st'.map (s_vm σ fv)) (s_Qc D fv σ T H.size r (Value.ref (σ a) :: ((st.take n0).reverse).map (s_vm σ fv)).toArray) (s_XC D fv σ T H.size r) (s_fr σ T H.size) := by
      exact vx_runSU (C := s_BC) (s_classB hX) (s_fix hX) hM ⟨⟨rfl, rfl, hR.1, hR.2, pay_in hts (s_goodIn hg.2.2.2), by rw [hcw]; exact List.mem_cons_self⟩, hts _ (s_in_tbl w1), hts _ (s_inA_tbl w17), hts _ (s_inA_tbl w18), hts _ (s_in_tbl w2), hts _ (s_in_tbl w3), by rw [← hcw]; exact hts _ hg.2.2.2, of_decide_eq_true w16, fun sig hs => by
        have h2 := hdd.2.2
        rw [hs] at h2
        exact (Option.some.inj h2).symm⟩ hpre rfl hln hsz hstk hW8 hdg hrm
    exact s_call hX hrun rfl rfl hmono hI' hh h k
theorem s_cI {call : pK} {idx n0 q q2 q3 q5 q4 nest : Nat} {y' : pC} (hX : s_X p l s m meth c D y) (hh : s_hchk y = true) (hn : n = y.2.2.2.1) (hcall : s_call_ok l fv Rm call) (hI : s_I D fv A s n σ T M F H locs L ls st) (hdg : decode y.2.2.1 pc = .ok (.invokespecial idx, 3)) (hl : (p_m y.1).lookup idx = some (2, y', n0, q, nest, q2, q3, q5, q4))
    (hst : st.drop n0 = .ref a :: st') (h : p_if ((p_ty T a).1 = p_tag y'.1 ∧ st'.length ≤ 4) (p_cb (call y' (.ref a :: (st.take n0).reverse) T M F) y pc L st') none = some o) (k : ∀ g, o = .inl g → s_K p l e Rm s m args below meth c Q D fv A n σ T cells slots g) (hroom : ∀ g, o = .inl g → cells + (g.2.2.2.1.1.1 - T.1.1) ≤ Rm.cells ∧ slots + (g.2.2.2.1.1.2 - T.1.2) ≤ Rm.slots) :
    W p l e Rm s m args below meth c H locs cells slots Q (F0 m pc ls (st.map (s_vm σ fv))) := by
  have hn0 : n0 ≤ st.length := by
    have := congrArg List.length hst
    rw [List.length_drop, List.length_cons] at this
    omega
  obtain ⟨⟨hty, h4⟩, h⟩ := s_pifn h
  cases hcl : call y' (.ref a :: (st.take n0).reverse) T M F with
  | none => rw [hcl] at h; cases h
  | some r =>
    rw [hcl] at h
    have hchk := s_all s_mOK hl
    unfold s_mchk at hchk
    simp only [Bool.and_eq_true] at hchk
    obtain ⟨⟨⟨⟨⟨⟨⟨⟨w4, w5⟩, w6⟩, w7⟩, w8⟩, w3⟩, w9⟩, w10⟩, w1, ⟨⟨⟨w2, w12⟩, w13⟩, w14⟩, w15⟩ := hchk
    have hcls : y'.2.1.cls = p_cn y'.1 := of_decide_eq_true w8
    have hg : s_good y' := ⟨hcls, w5, ⟨of_decide_eq_true w10, s_pf hl (by decide)⟩, s_in_tbl w4⟩
    obtain ⟨hmono, d, hd1, hd2, hMet⟩ := hcall y' hg _ _ _ _ _ (s_asb hI hst) hcl
    have hM := hMet D σ H.size
    obtain ⟨g, hg1, hg2⟩ := p_cb_T h
    have hrm := hroom g hg1
    rw [hg2] at hrm
    have hts := hX.hts (args := args)
    have hW8 : 2 * (F0 m pc ls (st.map (s_vm σ fv))).monitorRoom + ((st'.map (s_vm σ fv)).map fun v => v.category).sum ≤ 8 := by
      have h1 := s_cat (st'.map (s_vm σ fv))
      rw [List.length_map] at h1
      have h2 : (F0 m pc ls (st.map (s_vm σ fv))).monitorRoom = 0 := rfl
      omega
    have hR : (s_rm d (r.2.1.1.1 - T.1.1) (r.2.1.1.2 - T.1.2)).frames + 1 ≤ Rm.frames ∧ 8 + (y'.2.2.2.1 + 11) + (s_rm d (r.2.1.1.1 - T.1.1) (r.2.1.1.2 - T.1.2)).locals ≤ Rm.locals := by
      refine ⟨hd1, ?_⟩
      show 8 + (y'.2.2.2.1 + 11) + 40 * d ≤ Rm.locals
      have := hg.2.2.1
      omega
    have hsz : ls.size = y.2.2.2.1 := by rw [← hn]; exact s_lsz hI.2.2.2.2.2.2.1
    have hvr : s_vm σ fv (.ref a) = .ref (σ a) := s_vm_ref (T := T) (by rw [hty]; exact s_tag0 _)
    have hstk : st.map (s_vm σ fv) = (((st.take n0).reverse).map (s_vm σ fv)).reverse ++ .ref (σ a) :: st'.map (s_vm σ fv) := by
      rw [← hvr, ← List.map_cons, ← hst, List.map_reverse, List.reverse_reverse, ← List.map_append, List.take_append_drop]
    have hln : (((st.take n0).reverse).map (s_vm σ fv)).length = n0 := by
      rw [List.length_map, List.length_reverse, List.length_take]; omega
    have hdd : y'.2.1.cls ≠ "java/lang/invoke/MethodHandle" ∧ y'.2.1.cls ≠ "java/lang/invoke/VarHandle" ∧ (parseMethodDescriptor y'.2.1.desc).map (fun d => d.parameters.length) = some n0 := ⟨of_decide_eq_true w6, of_decide_eq_true w7, of_decide_eq_true w9⟩
    have hpc : ∀ U : State, U.heap = H → s.WarmedH U.vm → s_Pc D fv σ T M F H.size (.ref a :: (st.take n0).reverse) (Value.ref (σ a) :: ((st.take n0).reverse).map (s_vm σ fv)).toArray U := fun U hU hW => by
      have h9 := s_preS hX hI (as := .ref a :: (st.take n0).reverse) hU hW
      rw [List.map_cons, hvr] at h9
      exact h9
    have hbnd : ∀ v ∈ st', s_lt T.1.1 v := fun v hv => hI.bnd v (List.mem_of_mem_drop (by rw [hst]; exact List.mem_cons_of_mem _ hv))
    have hI' : s_I D fv A s n σ T M F H locs L ls st' := hI.stk hbnd
    have hhh : y'.2.2.2.2.2 = [] := of_decide_eq_true w13
    have hcw : s_cw y' = .code y'.2.1 y'.2.2.1 y'.2.2.2.1 y'.2.2.2.2.1 := if_pos hhh
    have hret : y'.2.2.2.2.1 = none := of_decide_eq_true w14
    rw [hret] at hcw
    have hpre : PreS s H (s_Pc D fv σ T M F H.size (.ref a :: (st.take n0).reverse)) (.ref (σ a) :: ((st.take n0).reverse).map (s_vm σ fv)) := ⟨s_blind, hpc⟩
    have hrun : vx_Run p l e Rm s m args below meth c H locs cells slots (r.2.1.1.1 - T.1.1) (r.2.1.1.2 - T.1.2) (F0 m pc ls (st.map (s_vm σ fv))) (st'.map (s_vm σ fv)) (s_Qc D fv σ T H.size r (Value.ref (σ a) :: ((st.take n0).reverse).map (s_vm σ fv)).toArray) (s_XC D fv σ T H.size r) (s_fr σ T H.size) := by
      by_cases hne : nest = 0
      · subst hne
        exact vx_runI (s_fix hX) hM ⟨callB_of n0 hts (s_goodIn hg.2.2.2) (by rw [hcw]) rfl rfl (hts _ (s_in_tbl w3)) (hts _ (s_in_tbl w1)) hdd hR, of_decide_eq_true w12, hts _ (s_in_tbl w2)⟩ hpre rfl hln hsz hstk hW8 hdg hrm
      · have w1' : (Cond.methodLinkNest (p_cn y.1) idx y'.2.1 "HexCabinet") ∈ s_tbl := by
          have := s_in_tbl w1
          unfold s_ml at this
          rw [if_neg hne] at this
          exact this
        exact vx_runIN (s_fix hX) hM ⟨va_cnB n0 hts (s_goodIn hg.2.2.2) (by rw [hcw]) rfl rfl (va_Nw.of rfl (hts _ w1')) (hts _ (s_in_tbl w3)) hdd hR, of_decide_eq_true w12, hts _ (s_in_tbl w2)⟩ hpre rfl hln hsz hstk hW8 hdg hrm
    exact s_call hX hrun rfl rfl hmono hI' hh h k
end PSB
