section PSB
variable {p : Program} {l : Launch} {e : Env} {Rm : Room} {s : State} {m : MethodId} {args : Array Value} {below : List Frame} {meth : Method} {c : Code} {Q : State → Prop} {D : va_G} {fv : Value} {A : Nat → Prop} {n : Nat} {σ : Nat → Nat} {T : pT} {M M' : pM} {F F' : pF} {H H' : Heap} {locs : List Loc} {L : List Slot} {ls : Array Slot} {cells slots : Nat} {st st' : List Value} {pc : Nat} {o : pG ⊕ pR} {a : Nat} {y : pC}
theorem s_asb {n0 : Nat} (hI : s_I D fv A s n σ T M F H locs L ls st) (hst : st.drop n0 = .ref a :: st') : ∀ v ∈ (.ref a :: (st.take n0).reverse : List Value), s_lt T.1.1 v := by
  intro v hv
  rcases List.mem_cons.mp hv with rfl | hv
  · exact hI.bnd _ (List.mem_of_mem_drop (by rw [hst]; exact List.mem_cons_self))
  · exact hI.bnd v (List.mem_of_mem_take (List.mem_reverse.mp hv))
theorem s_cV {call : pK} {idx n0 q q2 q3 q5 q4 nest : Nat} {y' : pC} (hX : s_X p l s m meth c D y) (hh : s_hchk y = true) (hn : n = y.2.2.2.1) (hcall : s_call_ok l fv Rm call) (hI : s_I D fv A s n σ T M F H locs L ls st) (hdg : decode y.2.2.1 pc = .ok (.invokevirtual idx, 3)) (hl : (p_m y.1).lookup idx = some (1, y', n0, q, nest, q2, q3, q5, q4))
    (hst : st.drop n0 = .ref a :: st') (h : p_if ((p_ty T a).1 = 10 + y'.1 ∧ st'.length ≤ 4) (p_cb (call y' (.ref a :: (st.take n0).reverse) T M F) y pc L st') none = some o) (k : ∀ g, o = .inl g → s_K p l e Rm s m args below meth c Q D fv A n σ T cells slots g) (hroom : ∀ g, o = .inl g → cells + (g.2.2.2.1.1.1 - T.1.1) ≤ Rm.cells ∧ slots + (g.2.2.2.1.1.2 - T.1.2) ≤ Rm.slots) :
    W p l e Rm s m args below meth c H locs cells slots Q (F0 m pc ls (st.map (s_vm σ fv))) := by
  have hn0 : n0 ≤ st.length := by
    have := congrArg List.length hst
    rw [List.length_drop, List.length_cons] at this
    omega
  obtain ⟨⟨hty, h4⟩, h⟩ := s_pifn h
  cases hcl : call y' (.ref a :: (st.take n0).reverse) T M F with
  | none => rw [hcl] at h; cases h
  | some r =>
    rw [hcl] at h
    have hchk := s_all s_mOK hl
    unfold s_mchk at hchk
    simp only [Bool.and_eq_true] at hchk
    obtain ⟨⟨⟨⟨⟨⟨⟨⟨⟨w4, w5⟩, w6⟩, w7⟩, w1⟩, w8⟩, w3⟩, w9⟩, w10⟩, ⟨⟨w2, w12⟩, w13⟩, w14⟩ := hchk
    have hcls : y'.2.1.cls = p_cn y'.1 := of_decide_eq_true w8
    have hg : s_good y' := ⟨hcls, w5, ⟨of_decide_eq_true w10, s_pf hl (by decide)⟩, s_in_tbl w4⟩
    obtain ⟨hmono, d, hd1, hd2, hMet⟩ := hcall y' hg _ _ _ _ _ (s_asb hI hst) hcl
    have hM := hMet D σ H.size
    obtain ⟨g, hg1, hg2⟩ := p_cb_T h
    have hrm := hroom g hg1
    rw [hg2] at hrm
    have hts := hX.hts (args := args)
    have hW8 : 2 * (F0 m pc ls (st.map (s_vm σ fv))).monitorRoom + ((st'.map (s_vm σ fv)).map fun v => v.category).sum ≤ 8 := by
      have h1 := s_cat (st'.map (s_vm σ fv))
      rw [List.length_map] at h1
      have h2 : (F0 m pc ls (st.map (s_vm σ fv))).monitorRoom = 0 := rfl
      omega
    have hR : (s_rm d (r.2.1.1.1 - T.1.1) (r.2.1.1.2 - T.1.2)).frames + 1 ≤ Rm.frames ∧ 8 + (y'.2.2.2.1 + 11) + (s_rm d (r.2.1.1.1 - T.1.1) (r.2.1.1.2 - T.1.2)).locals ≤ Rm.locals := by
      refine ⟨hd1, ?_⟩
      show 8 + (y'.2.2.2.1 + 11) + 40 * d ≤ Rm.locals
      have := hg.2.2.1
      omega
    have hsz : ls.size = y.2.2.2.1 := by rw [← hn]; exact s_lsz hI.2.2.2.2.2.2.1
    have hvr : s_vm σ fv (.ref a) = .ref (σ a) := s_vm_ref (T := T) (by rw [hty]; omega)
    have hstk : st.map (s_vm σ fv) = (((st.take n0).reverse).map (s_vm σ fv)).reverse ++ .ref (σ a) :: st'.map (s_vm σ fv) := by
      rw [← hvr, ← List.map_cons, ← hst, List.map_reverse, List.reverse_reverse, ← List.map_append, List.take_append_drop]
    have hln : (((st.take n0).reverse).map (s_vm σ fv)).length = n0 := by
      rw [List.length_map, List.length_reverse, List.length_take]; omega
    have hdd : y'.2.1.cls ≠ "java/lang/invoke/MethodHandle" ∧ y'.2.1.cls ≠ "java/lang/invoke/VarHandle" ∧ (parseMethodDescriptor y'.2.1.desc).map (fun d => d.parameters.length) = some n0 := ⟨of_decide_eq_true w6, of_decide_eq_true w7, of_decide_eq_true w9⟩
    have hpc : ∀ U : State, U.heap = H → s.WarmedH U.vm → s_Pc D fv σ T M F H.size (.ref a :: (st.take n0).reverse) (Value.ref (σ a) :: ((st.take n0).reverse).map (s_vm σ fv)).toArray U := fun U hU hW => by
      have h9 := s_preS hX hI (as := .ref a :: (st.take n0).reverse) hU hW
      rw [List.map_cons, hvr] at h9
      exact h9
    have hbnd : ∀ v ∈ st', s_lt T.1.1 v := fun v hv => hI.bnd v (List.mem_of_mem_drop (by rw [hst]; exact List.mem_cons_of_mem _ hv))
    have hI' : s_I D fv A s n σ T M F H locs L ls st' := hI.stk hbnd
    have hhh : y'.2.2.2.2.2 = [] := of_decide_eq_true w13
    have hcw : s_cw y' = .code y'.2.1 y'.2.2.1 y'.2.2.2.1 y'.2.2.2.2.1 := if_pos hhh
    have hpre : PreV s H y'.2.1.cls (σ a) (s_Pc D fv σ T M F H.size (.ref a :: (st.take n0).reverse)) (((st.take n0).reverse).map (s_vm σ fv)) := ⟨s_blind, by rw [hcls]; exact s_recv hX hI hty (of_decide_eq_true w14), hpc⟩
    have hrun : vx_Run p l e Rm s m args below meth c H locs cells slots (r.2.1.1.1 - T.1.1) (r.2.1.1.2 - T.1.2) (F0 m pc ls (st.map (s_vm σ fv))) (st'.map (s_vm σ fv)) (s_Qc D fv σ T H.size r (Value.ref (σ a) :: ((st.take n0).reverse).map (s_vm σ fv)).toArray) (s_XC D fv σ T H.size r) (s_fr σ T H.size) := by
      by_cases hne : nest = 0
      · subst hne
        exact vx_runV (s_fix hX) hM ⟨callB_of n0 hts (s_goodIn hg.2.2.2) (by rw [hcw]) rfl rfl (hts _ (s_in_tbl w3)) (hts _ (s_in_tbl w1)) hdd hR, hts _ (s_in_tbl w2), hts _ (s_in_tbl w12)⟩ hpre rfl hln hsz hstk hW8 hdg hrm
      · have w1' : (Cond.methodLinkNest (p_cn y.1) idx y'.2.1 "HexCabinet") ∈ s_tbl := by
          have := s_in_tbl w1
          unfold s_ml at this
          rw [if_neg hne] at this
          exact this
        exact vx_runVN (s_fix hX) hM ⟨va_cnB n0 hts (s_goodIn hg.2.2.2) (by rw [hcw]) rfl rfl (va_Nw.of rfl (hts _ w1')) (hts _ (s_in_tbl w3)) hdd hR, hts _ (s_in_tbl w2), hts _ (s_in_tbl w12)⟩ hpre rfl hln hsz hstk hW8 hdg hrm
    exact s_call hX hrun rfl rfl hmono hI' hh h k
theorem s_cI {call : pK} {idx n0 q q2 q3 q5 q4 nest : Nat} {y' : pC} (hX : s_X p l s m meth c D y) (hh : s_hchk y = true) (hn : n = y.2.2.2.1) (hcall : s_call_ok l fv Rm call) (hI : s_I D fv A s n σ T M F H locs L ls st) (hdg : decode y.2.2.1 pc = .ok (.invokespecial idx, 3)) (hl : (p_m y.1).lookup idx = some (2, y', n0, q, nest, q2, q3, q5, q4))
    (hst : st.drop n0 = .ref a :: st') (h : p_if ((p_ty T a).1 = 10 + y'.1 ∧ st'.length ≤ 4) (p_cb (call y' (.ref a :: (st.take n0).reverse) T M F) y pc L st') none = some o) (k : ∀ g, o = .inl g → s_K p l e Rm s m args below meth c Q D fv A n σ T cells slots g) (hroom : ∀ g, o = .inl g → cells + (g.2.2.2.1.1.1 - T.1.1) ≤ Rm.cells ∧ slots + (g.2.2.2.1.1.2 - T.1.2) ≤ Rm.slots) :
    W p l e Rm s m args below meth c H locs cells slots Q (F0 m pc ls (st.map (s_vm σ fv))) := by
  have hn0 : n0 ≤ st.length := by
    have := congrArg List.length hst
    rw [List.length_drop, List.length_cons] at this
    omega
  obtain ⟨⟨hty, h4⟩, h⟩ := s_pifn h
  cases hcl : call y' (.ref a :: (st.take n0).reverse) T M F with
  | none => rw [hcl] at h; cases h
  | some r =>
    rw [hcl] at h
    have hchk := s_all s_mOK hl
    unfold s_mchk at hchk
    simp only [Bool.and_eq_true] at hchk
    obtain ⟨⟨⟨⟨⟨⟨⟨⟨⟨w4, w5⟩, w6⟩, w7⟩, w1⟩, w8⟩, w3⟩, w9⟩, w10⟩, ⟨⟨⟨w2, w12⟩, w13⟩, w14⟩, w15⟩ := hchk
    have hcls : y'.2.1.cls = p_cn y'.1 := of_decide_eq_true w8
    have hg : s_good y' := ⟨hcls, w5, ⟨of_decide_eq_true w10, s_pf hl (by decide)⟩, s_in_tbl w4⟩
    obtain ⟨hmono, d, hd1, hd2, hMet⟩ := hcall y' hg _ _ _ _ _ (s_asb hI hst) hcl
    have hM := hMet D σ H.size
    obtain ⟨g, hg1, hg2⟩ := p_cb_T h
    have hrm := hroom g hg1
    rw [hg2] at hrm
    have hts := hX.hts (args := args)
    have hW8 : 2 * (F0 m pc ls (st.map (s_vm σ fv))).monitorRoom + ((st'.map (s_vm σ fv)).map fun v => v.category).sum ≤ 8 := by
      have h1 := s_cat (st'.map (s_vm σ fv))
      rw [List.length_map] at h1
      have h2 : (F0 m pc ls (st.map (s_vm σ fv))).monitorRoom = 0 := rfl
      omega
    have hR : (s_rm d (r.2.1.1.1 - T.1.1) (r.2.1.1.2 - T.1.2)).frames + 1 ≤ Rm.frames ∧ 8 + (y'.2.2.2.1 + 11) + (s_rm d (r.2.1.1.1 - T.1.1) (r.2.1.1.2 - T.1.2)).locals ≤ Rm.locals := by
      refine ⟨hd1, ?_⟩
      show 8 + (y'.2.2.2.1 + 11) + 40 * d ≤ Rm.locals
      have := hg.2.2.1
      omega
    have hsz : ls.size = y.2.2.2.1 := by rw [← hn]; exact s_lsz hI.2.2.2.2.2.2.1
    have hvr : s_vm σ fv (.ref a) = .ref (σ a) := s_vm_ref (T := T) (by rw [hty]; omega)
    have hstk : st.map (s_vm σ fv) = (((st.take n0).reverse).map (s_vm σ fv)).reverse ++ .ref (σ a) :: st'.map (s_vm σ fv) := by
      rw [← hvr, ← List.map_cons, ← hst, List.map_reverse, List.reverse_reverse, ← List.map_append, List.take_append_drop]
    have hln : (((st.take n0).reverse).map (s_vm σ fv)).length = n0 := by
      rw [List.length_map, List.length_reverse, List.length_take]; omega
    have hdd : y'.2.1.cls ≠ "java/lang/invoke/MethodHandle" ∧ y'.2.1.cls ≠ "java/lang/invoke/VarHandle" ∧ (parseMethodDescriptor y'.2.1.desc).map (fun d => d.parameters.length) = some n0 := ⟨of_decide_eq_true w6, of_decide_eq_true w7, of_decide_eq_true w9⟩
    have hpc : ∀ U : State, U.heap = H → s.WarmedH U.vm → s_Pc D fv σ T M F H.size (.ref a :: (st.take n0).reverse) (Value.ref (σ a) :: ((st.take n0).reverse).map (s_vm σ fv)).toArray U := fun U hU hW => by
      have h9 := s_preS hX hI (as := .ref a :: (st.take n0).reverse) hU hW
      rw [List.map_cons, hvr] at h9
      exact h9
    have hbnd : ∀ v ∈ st', s_lt T.1.1 v := fun v hv => hI.bnd v (List.mem_of_mem_drop (by rw [hst]; exact List.mem_cons_of_mem _ hv))
    have hI' : s_I D fv A s n σ T M F H locs L ls st' := hI.stk hbnd
    have hhh : y'.2.2.2.2.2 = [] := of_decide_eq_true w13
    have hcw : s_cw y' = .code y'.2.1 y'.2.2.1 y'.2.2.2.1 y'.2.2.2.2.1 := if_pos hhh
    have hret : y'.2.2.2.2.1 = none := of_decide_eq_true w14
    rw [hret] at hcw
    have hpre : PreS s H (s_Pc D fv σ T M F H.size (.ref a :: (st.take n0).reverse)) (.ref (σ a) :: ((st.take n0).reverse).map (s_vm σ fv)) := ⟨s_blind, hpc⟩
    have hrun : vx_Run p l e Rm s m args below meth c H locs cells slots (r.2.1.1.1 - T.1.1) (r.2.1.1.2 - T.1.2) (F0 m pc ls (st.map (s_vm σ fv))) (st'.map (s_vm σ fv)) (s_Qc D fv σ T H.size r (Value.ref (σ a) :: ((st.take n0).reverse).map (s_vm σ fv)).toArray) (s_XC D fv σ T H.size r) (s_fr σ T H.size) := by
      by_cases hne : nest = 0
      · subst hne
        exact vx_runI (s_fix hX) hM ⟨callB_of n0 hts (s_goodIn hg.2.2.2) (by rw [hcw]) rfl rfl (hts _ (s_in_tbl w3)) (hts _ (s_in_tbl w1)) hdd hR, of_decide_eq_true w12, hts _ (s_in_tbl w2)⟩ hpre rfl hln hsz hstk hW8 hdg hrm
      · have w1' : (Cond.methodLinkNest (p_cn y.1) idx y'.2.1 "HexCabinet") ∈ s_tbl := by
          have := s_in_tbl w1
          unfold s_ml at this
          rw [if_neg hne] at this
          exact this
        exact vx_runIN (s_fix hX) hM ⟨va_cnB n0 hts (s_goodIn hg.2.2.2) (by rw [hcw]) rfl rfl (va_Nw.of rfl (hts _ w1')) (hts _ (s_in_tbl w3)) hdd hR, of_decide_eq_true w12, hts _ (s_in_tbl w2)⟩ hpre rfl hln hsz hstk hW8 hdg hrm
    exact s_call hX hrun rfl rfl hmono hI' hh h k
end PSB
