section PSA
variable {p : Program} {l : Launch} {e : Env} {Rm : Room} {s : State} {m : MethodId} {args : Array Value} {below : List Frame} {meth : Method} {c : Code} {Q : State → Prop} {D : va_G} {fv : Value} {A : Nat → Prop} {n : Nat} {σ : Nat → Nat} {T : pT} {M M' : pM} {F F' : pF} {H H' : Heap} {locs : List Loc} {L : List Slot} {ls : Array Slot} {cells slots : Nat} {st st' : List Value} {pc : Nat} {o : pG ⊕ pR} {a : Nat} {y : pC}
theorem s_lsz (h : s_L (s_vm σ fv) L ls n) : ls.size = n := by
  obtain ⟨-, lv, h1, -⟩ := h
  exact h1.1
/-- none of them is run by an entry of the natives instead -/
def s_pfchk (e : Nat × Nat × pC × Nat × Nat × Nat × Nat × Nat × Nat × Nat) : Bool := decide (e.2.1 ∈ [3, 4, 5, 8]) || plainFor e.2.2.1.2.1
set_option maxRecDepth 20000 in
theorem s_pf_0 : (p_m_0).all s_pfchk = true := by decide +kernel
set_option maxRecDepth 20000 in
theorem s_pf_1 : (p_m_1).all s_pfchk = true := by decide +kernel
set_option maxRecDepth 20000 in
theorem s_pf_2 : (p_m_2).all s_pfchk = true := by decide +kernel
set_option maxRecDepth 20000 in
theorem s_pf_3 : (p_m_3).all s_pfchk = true := by decide +kernel
set_option maxRecDepth 20000 in
theorem s_pf_4 : (p_m_4).all s_pfchk = true := by decide +kernel
set_option maxRecDepth 20000 in
theorem s_pf_5 : (p_m_5).all s_pfchk = true := by decide +kernel
set_option maxRecDepth 20000 in
theorem s_pf_6 : (p_m_6).all s_pfchk = true := by decide +kernel
set_option maxRecDepth 20000 in
theorem s_pf_7 : (p_m_7).all s_pfchk = true := by decide +kernel
set_option maxRecDepth 20000 in
theorem s_pf_8 : (p_m_8).all s_pfchk = true := by decide +kernel
set_option maxRecDepth 20000 in
theorem s_pf_9 : (p_m_9).all s_pfchk = true := by decide +kernel
set_option maxRecDepth 20000 in
theorem s_pf_10 : (p_m_10).all s_pfchk = true := by decide +kernel
set_option maxRecDepth 20000 in
theorem s_pf_11 : (p_m_11).all s_pfchk = true := by decide +kernel
set_option maxRecDepth 20000 in
theorem s_pf_13 : (p_m_13).all s_pfchk = true := by decide +kernel
set_option maxRecDepth 20000 in
theorem s_pf_14 : (p_m_14).all s_pfchk = true := by decide +kernel
set_option maxRecDepth 20000 in
theorem s_pf_15 : (p_m_15).all s_pfchk = true := by decide +kernel
set_option maxRecDepth 20000 in
theorem s_pf_18 : (p_m_18).all s_pfchk = true := by decide +kernel
set_option maxRecDepth 20000 in
theorem s_pf_20 : (p_m_20).all s_pfchk = true := by decide +kernel
theorem s_pfOK : ∀ k, (p_m k).all s_pfchk = true := fun k => match k with
  | 0 => s_pf_0
  | 1 => s_pf_1
  | 2 => s_pf_2
  | 3 => s_pf_3
  | 4 => s_pf_4
  | 5 => s_pf_5
  | 6 => s_pf_6
  | 7 => s_pf_7
  | 8 => s_pf_8
  | 9 => s_pf_9
  | 10 => s_pf_10
  | 11 => s_pf_11
  | 12 => rfl
  | 13 => s_pf_13
  | 14 => s_pf_14
  | 15 => s_pf_15
  | 16 => rfl
  | 17 => rfl
  | 18 => s_pf_18
  | 19 => rfl
  | 20 => s_pf_20
  | _ + 21 => rfl
theorem s_pf {k idx kk : Nat} {y' : pC} {z : Nat × Nat × Nat × Nat × Nat × Nat × Nat} (hl : (p_m k).lookup idx = some (kk, y', z)) (hk : kk ∉ [3, 4, 5, 8]) : plainFor y'.2.1 = true := by
  have h := List.all_eq_true.mp (s_pfOK k) _ (lookup_mem _ hl)
  unfold s_pfchk at h
  rw [Bool.or_eq_true] at h
  rcases h with h | h
  · exact absurd (of_decide_eq_true h) hk
  · exact h
def s_good (y : pC) : Prop := y.2.1.cls = p_cn y.1 ∧ s_hchk y = true ∧ (y.2.2.2.1 ≤ 20 ∧ plainFor y.2.1 = true) ∧ s_cw y ∈ s_tbl
/-- what the callees keep -/
def s_call_ok (l : Launch) (fv : Value) (Rm : Room) (call : pK) : Prop := ∀ y', s_good y' → ∀ as T M F r, (∀ v ∈ as, s_lt T.1.1 v) → call y' as T M F = some r → s_mono T r.2.1 ∧ ∃ d, d + 1 ≤ Rm.frames ∧ 40 * (d + 1) ≤ Rm.locals ∧ ∀ D σ sz, s_Met l d y' as T M F r D fv σ sz
theorem s_cat : ∀ l : List Value, (l.map fun v => v.category).sum ≤ 2 * l.length
  | [] => Nat.le_refl _
  | v :: l => by
    rw [List.map_cons, List.sum_cons, List.length_cons]
    have h1 := s_cat l
    have h2 : v.category ≤ 2 := by cases v <;> first | exact (by decide : (1 : Nat) ≤ 2) | exact (by decide : (2 : Nat) ≤ 2)
    omega
theorem s_cn9 : ∀ k, k < 10 → (vcl k).map (fun r => r.1) = some (p_cn k) := by decide
theorem s_recv (hX : s_X p l s m meth c D y) (hI : s_I D fv A s n σ T M F H locs L ls st) {k0 : Nat} (ht : (p_ty T a).1 = 10 + k0) (hk : k0 < 10 ∨ k0 = 11) : ∃ cell : Cell, H[σ a]? = some cell ∧ cell.vm.isStatics = false ∧ s.vm.findClass (p_cn k0) = some cell.cls := by
  have hc := hI.1.2.2.1 a
  by_cases h2 : k0 = 2
  · subst h2
    obtain ⟨cell, h1, h2, h3⟩ := (hc.kind ht).1
    exact ⟨cell, h1, h2, h3⟩
  rcases hk with hk | hk
  · obtain ⟨r, hr, hr1⟩ := Option.map_eq_some_iff.mp (s_cn9 k0 hk)
    obtain ⟨cell, h1, h3, h4, -⟩ := (s_c_obj ht h2 (fun z => by omega) hr).mp hc
    have hKn := hX.hK.1 _ _ (vcl_ix hr)
    exact ⟨cell, h1, by rw [h4]; rfl, by rw [← hr1, h3]; exact hKn.2.1⟩
  · subst hk
    obtain ⟨cell, h1, h2, h3⟩ := s_strO hX.hK.1 hc ht
    exact ⟨cell, h1, h2, h3⟩
theorem s_blind {sz : Nat} {as : List Value} : FrameBlind (s_Pc D fv σ T M F sz as) := by
  intro a U g mk h
  obtain ⟨h1, h2, h3, h4, h5⟩ := h
  have hw : U.WarmedH (U.calling g mk a).vm := State.WarmedH.refl _
  exact ⟨h1, h2, h3.moved hw.alike, h4.moved hw, h5.warm hw⟩
theorem s_preS (hX : s_X p l s m meth c D y) (hI : s_I D fv A s n σ T M F H locs L ls st) {as : List Value} {U : State} (hU : U.heap = H) (hW : s.WarmedH U.vm) : s_Pc D fv σ T M F H.size as (as.map (s_vm σ fv)).toArray U := by
  have hV := hX.2.2.2.2.2.2.2.2.1
  subst hU
  refine ⟨rfl, rfl, hI.1.moved hW.alike, (s_Z.moved hW ((hI.2.1.kept (H1 := U.heap) (fun q g1 g2 => hI.2.2.1.2.1 q g1 g2)).narrow (s_frA hI))), hV.warm hW⟩
theorem s_goodIn (h : s_cw y ∈ s_tbl) : GoodIn s_tbl [s_cw y] := by
  intro w hw
  rw [List.mem_singleton.mp hw]
  refine ⟨h, Or.inl ?_⟩
  unfold s_cw
  by_cases e : y.2.2.2.2.2 = []
  · rw [if_pos e]; rfl
  · rw [if_neg e]; rfl
theorem p_cb_T {r : pR} (h : p_cb (some r) y pc L st = some o) : ∃ g, o = .inl g ∧ g.2.2.2.1 = r.2.1 := by
  obtain ⟨r0, T', M', F'⟩ := r
  cases r0 with
  | inl v => exact ⟨_, (Option.some.inj h).symm, rfl⟩
  | inr E =>
    unfold p_cb at h
    dsimp only at h
    cases hp : p_hnd y pc E with
    | none => rw [hp] at h; cases h
    | some w => rw [hp] at h; exact ⟨_, (Option.some.inj h).symm, rfl⟩
theorem s_fix (hX : s_X p l s m meth c D y) : CallFix p m c y.2.2.1 y.2.2.2.1 s args s_tbl (p_cn y.1) := ⟨hX.1, hX.2.1, hX.2.2.1, hX.2.2.2.1, hX.hts⟩
/-- a static call -/
theorem s_cS {call : pK} {idx n0 q q2 q3 q5 q4 nest : Nat} {y' : pC} (hX : s_X p l s m meth c D y) (hh : s_hchk y = true) (hn : n = y.2.2.2.1) (hcall : s_call_ok l fv Rm call) (hI : s_I D fv A s n σ T M F H locs L ls st) (hdg : decode y.2.2.1 pc = .ok (.invokestatic idx, 3)) (hl : (p_m y.1).lookup idx = some (0, y', n0, q, nest, q2, q3, q5, q4))
    (h : (if n0 ≤ st.length then p_if ((st.drop n0).length ≤ 4) (p_cb (call y' (st.take n0).reverse T M F) y pc L (st.drop n0)) none else none) = some o) (k : ∀ g, o = .inl g → s_K p l e Rm s m args below meth c Q D fv A n σ T cells slots g) (hroom : ∀ g, o = .inl g → cells + (g.2.2.2.1.1.1 - T.1.1) ≤ Rm.cells ∧ slots + (g.2.2.2.1.1.2 - T.1.2) ≤ Rm.slots) :
    W p l e Rm s m args below meth c H locs cells slots Q (F0 m pc ls (st.map (s_vm σ fv))) := by
  have hn0 : n0 ≤ st.length := by
    by_cases e : n0 ≤ st.length
    · exact e
    · rw [if_neg e] at h; cases h
  rw [if_pos hn0] at h
  obtain ⟨h4, h⟩ := s_pifn h
  cases hcl : call y' (st.take n0).reverse T M F with
  | none => rw [hcl] at h; cases h
  | some r =>
    rw [hcl] at h
    have hchk := s_all s_mOK hl
    unfold s_mchk at hchk
    simp only [Bool.and_eq_true] at hchk
    obtain ⟨⟨⟨⟨⟨⟨⟨⟨w4, w5⟩, w6⟩, w7⟩, w8⟩, w3⟩, w9⟩, w10⟩, w1, w2, w11⟩ := hchk
    have hg : s_good y' := ⟨of_decide_eq_true w8, w5, ⟨of_decide_eq_true w10, s_pf hl (by decide)⟩, s_in_tbl w4⟩
    obtain ⟨hmono, d, hd1, hd2, hMet⟩ := hcall y' hg _ _ _ _ _ (fun v hv => hI.bnd v (List.mem_of_mem_take (List.mem_reverse.mp hv))) hcl
    have hM := hMet D σ H.size
    obtain ⟨g, hg1, hg2⟩ := p_cb_T h
    have hrm := hroom g hg1
    rw [hg2] at hrm
    have hts := hX.hts (args := args)
    have hW8 : 2 * (F0 m pc ls (st.map (s_vm σ fv))).monitorRoom + (((st.drop n0).map (s_vm σ fv)).map fun v => v.category).sum ≤ 8 := by
      have h1 := s_cat ((st.drop n0).map (s_vm σ fv))
      rw [List.length_map] at h1
      have h2 : (F0 m pc ls (st.map (s_vm σ fv))).monitorRoom = 0 := rfl
      omega
    have hR : (s_rm d (r.2.1.1.1 - T.1.1) (r.2.1.1.2 - T.1.2)).frames + 1 ≤ Rm.frames ∧ 8 + (y'.2.2.2.1 + 11) + (s_rm d (r.2.1.1.1 - T.1.1) (r.2.1.1.2 - T.1.2)).locals ≤ Rm.locals := by
      refine ⟨hd1, ?_⟩
      show 8 + (y'.2.2.2.1 + 11) + 40 * d ≤ Rm.locals
      have := hg.2.2.1
      omega
    have hsz : ls.size = y.2.2.2.1 := by rw [← hn]; exact s_lsz hI.2.2.2.2.2.2.1
    have hstk : st.map (s_vm σ fv) = (((st.take n0).reverse).map (s_vm σ fv)).reverse ++ (st.drop n0).map (s_vm σ fv) := by
      rw [List.map_reverse, List.reverse_reverse, ← List.map_append, List.take_append_drop]
    have hln : (((st.take n0).reverse).map (s_vm σ fv)).length = n0 := by
      rw [List.length_map, List.length_reverse, List.length_take]; omega
    have hdd : y'.2.1.cls ≠ "java/lang/invoke/MethodHandle" ∧ y'.2.1.cls ≠ "java/lang/invoke/VarHandle" ∧ (parseMethodDescriptor y'.2.1.desc).map (fun d => d.parameters.length) = some n0 := ⟨of_decide_eq_true w6, of_decide_eq_true w7, of_decide_eq_true w9⟩
    have hpre : PreS s H (s_Pc D fv σ T M F H.size (st.take n0).reverse) (((st.take n0).reverse).map (s_vm σ fv)) := ⟨s_blind, fun U hU hW => s_preS hX hI hU hW⟩
    have hI' : s_I D fv A s n σ T M F H locs L ls (st.drop n0) := hI.stk fun v hv => hI.bnd v (List.mem_of_mem_drop hv)
    have hrun : vx_Run p l e Rm s m args below meth c H locs cells slots (r.2.1.1.1 - T.1.1) (r.2.1.1.2 - T.1.2) (F0 m pc ls (st.map (s_vm σ fv))) ((st.drop n0).map (s_vm σ fv)) (s_Qc D fv σ T H.size r (((st.take n0).reverse).map (s_vm σ fv)).toArray) (s_XC D fv σ T H.size r) (s_fr σ T H.size) := by
      by_cases hne : nest = 0
      · subst hne
        by_cases hhh : y'.2.2.2.2.2 = []
        · have hcw : s_cw y' = .code y'.2.1 y'.2.2.1 y'.2.2.2.1 y'.2.2.2.2.1 := if_pos hhh
          exact vx_runS (s_fix hX) hM ⟨callB_of n0 hts (s_goodIn hg.2.2.2) (by rw [hcw]) rfl rfl (hts _ (s_in_tbl w3)) (hts _ (s_in_tbl w1)) hdd hR, hts _ (s_in_tbl w2)⟩ hpre rfl hln hsz hstk hW8 hdg hrm
        · have hcw : s_cw y' = .codeWith y'.2.1 y'.2.2.1 y'.2.2.2.1 y'.2.2.2.2.1 y'.2.2.2.2.2 := if_neg hhh
          have hcs : vx_CSW Rm s args (p_cn y.1) idx y'.2.1 y'.2.2.1 y'.2.2.2.1 y'.2.2.2.2.1 y'.2.2.2.2.2 [s_cw y'] (s_rm d (r.2.1.1.1 - T.1.1) (r.2.1.1.2 - T.1.2)) (r.2.1.1.1 - T.1.1) (r.2.1.1.2 - T.1.2) n0 :=
            ⟨⟨rfl, rfl, hR.1, hR.2, pay_in hts (s_goodIn hg.2.2.2), by rw [hcw]; exact List.mem_cons_self⟩, by rw [← hcw]; exact hts _ hg.2.2.2, hts _ (s_in_tbl w3), ⟨hdd.1, hdd.2.1⟩, fun sig hs => by
              have h2 := hdd.2.2
              rw [hs] at h2
              exact (Option.some.inj h2).symm, hts _ (s_in_tbl w1), hts _ (s_in_tbl w2)⟩
          exact vx_runSX (s_fix hX) hM hcs hpre rfl hln hsz hstk hW8 hdg hrm
      · rw [Bool.or_eq_true] at w11
        have hhh : y'.2.2.2.2.2 = [] := by
          rcases w11 with w | w
          · exact absurd (of_decide_eq_true w) hne
          · exact of_decide_eq_true w
        have hcw : s_cw y' = .code y'.2.1 y'.2.2.1 y'.2.2.2.1 y'.2.2.2.2.1 := if_pos hhh
        have w1' : (Cond.methodLinkNest (p_cn y.1) idx y'.2.1 "HexCabinet") ∈ s_tbl := by
          have := s_in_tbl w1
          unfold s_ml at this
          rw [if_neg hne] at this
          exact this
        exact vx_runSN (s_fix hX) hM ⟨va_cnB n0 hts (s_goodIn hg.2.2.2) (by rw [hcw]) rfl rfl (va_Nw.of rfl (hts _ w1')) (hts _ (s_in_tbl w3)) hdd hR, hts _ (s_in_tbl w2), trivial⟩ hpre rfl hln hsz hstk hW8 hdg hrm
    exact s_call hX hrun rfl rfl hmono hI' hh h k
end PSA
