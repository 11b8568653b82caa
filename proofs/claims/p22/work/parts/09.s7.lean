section PS7
variable {p : Program} {l : Launch} {e : Env} {Rm : Room} {s : State} {m : MethodId} {args : Array Value} {below : List Frame} {meth : Method} {c : Code} {Q : State → Prop} {D : va_G} {fv : Value} {A : Nat → Prop} {n : Nat} {σ : Nat → Nat} {T : pT} {M M' : pM} {F F' : pF} {H H' : Heap} {locs : List Loc} {L : List Slot} {ls : Array Slot} {cells slots : Nat} {st st' : List Value} {pc : Nat} {o : pG ⊕ pR} {a : Nat} {y : pC}
/-- a field of an own object is written -/
theorem s_Wputf (hX : s_X p l s m meth c D y) {idx nest j k : Nat} {fin : Bool} {r : vw_C} {v : Value} (hr : vcl k = some r) (hj : j < r.2.2) (hC : (r.2.1 j).1 = r.1 ∨ fin = false) (hfin : (r.2.1 j).2.2.2 = fin) (hlk : s_lk (p_cn y.1) idx ((r.2.1 j).1, (r.2.1 j).2.1, (r.2.1 j).2.2.1) nest ∈ s_tbl)
    (hok : (!fin || (y.2.1.name == "<init>" && 10 + k == 10 + y.1 && nest == 0)) = true) (hn : narrow (s_ty k j) v = v) (hfit : fits (s_ty k j) v = true) {b : Addr} {V : Nat → Value} (hO : t_OB b (D.1 (vix k)) r.2.2 (D.2 (vix k)) H V) {rest : List Value} (hdg : decode y.2.2.1 pc = .ok (.putfield idx, 3)) (hcn : p_cn y.1 = r.1 ∨ fin = false)
    (kk : ∀ (H' : Heap) (i : Nat), t_OB b (D.1 (vix k)) r.2.2 (D.2 (vix k)) H' (updV V j v) → H'.size = H.size → (∀ q : Nat, q ≠ b → H'[q]? = H[q]?) → W p l e Rm s m args below meth c H' (locs ++ [⟨b, i⟩]) cells slots Q (F0 m (pc + 3) ls rest)) : W p l e Rm s m args below meth c H locs cells slots Q (F0 m pc ls (v :: .ref b :: rest)) := by
  obtain ⟨hin, hty, hnm⟩ := s_own hr
  have hts := hX.hts (args := args)
  have hap := va_apart (own := r.1) hts hin (s_ty k) hty hnm hX.hK (show vwCl[vix k]? = some (r.1, r.2.1, r.2.2) from vcl_ix hr)
  obtain ⟨cell, q1, q2, q3, q4⟩ := hO
  obtain ⟨hS, hfc, kC, hkC, hkind⟩ := hX.hK.1 _ _ (vcl_ix hr)
  obtain ⟨cf, kf, fi, f, hi, hsl⟩ := hS j hj
  have hlay := hts _ (hin _ (u_in_lay hj))
  have hst := (u_facts hfc hkC (u_lays hts hin hj) hi).1
  have hl := hX.hts (args := args) _ hlk
  unfold s_lk at hl
  dsimp only at hl
  have hslot : f.slot < cell.slots.size := by rw [hsl]; exact k2_hasslot (q4 j hj)
  have fin_step : ∀ H' : Heap, H'[b]? = some (cell.setSlot f.slot v) → H'.size = H.size → (∀ q, q ≠ b → H'[q]? = H[q]?) → W p l e Rm s m args below meth c H' (locs ++ [⟨b, f.slot⟩]) cells slots Q (F0 m (pc + 3) ls rest) := by
    intro H' e1 e2 e3
    rw [hsl] at e1 ⊢
    exact kk H' _ ⟨_, e1, q2, q3, t_set q4 hap hj v⟩ e2 e3
  unfold u_lay at hlay
  cases fin with
  | false =>
    rw [if_neg (by rw [hfin]; decide)] at hlay
    have h6 := u_store hfc hkC hkind hlay hi (hty j hj) hn hfit
    by_cases hn0 : nest = 0
    · rw [if_pos hn0] at hl
      exact W.putK hX.1 hX.2.1 (f := f) ⟨hX.2.2.2.1, hl, ⟨_, _, _, hi⟩, hst⟩ (by rw [q2]; exact h6) q1 q3 hslot rfl rfl hdg fin_step
    · rw [if_neg hn0] at hl
      exact va_WputK hX.1 hX.2.1 (f := f) hX.2.2.2.1 hl hi hst (by rw [q2]; exact h6) q1 q3 hslot rfl rfl hdg fin_step
  | true =>
    rw [if_pos hfin] at hlay
    simp only [Bool.not_true, Bool.false_or, Bool.and_eq_true, beq_iff_eq] at hok
    obtain ⟨⟨hnm9, hk9⟩, hn0⟩ := hok
    rw [if_pos hn0] at hl
    have hcf : m.cls = cf := by
      obtain ⟨_, _, c', _, _, _, -, -, hf', -, -, -, hown2, -⟩ := Cond.laysFinal_spec hlay
      have e1 : c' = cf := by have := hi.symm.trans hf'; simp at this; exact this.1.symm
      rcases hcn with hcn | hcn
      · rcases hC with hC | hC
        · have h9 := hX.2.2.2.1
          rw [hcn, ← hC] at h9
          rw [← e1]; exact Option.some.inj (h9.symm.trans hown2)
        · cases hC
      · cases hcn
    have h6 := u_fits hfc hkC hkind (Or.inr hlay) hi (hty j hj) hn hfit
    exact W.putFinK hX.1 hX.2.1 hX.2.2.2.1 hl hi hst hcf (hX.2.2.2.2.2.2.1.trans hnm9) (by rw [q2]; exact h6) q1 q3 hslot rfl rfl hdg fin_step
theorem s_cnk : ∀ k r, vcl k = some r → p_cn k = r.1 := by
  intro k r hr
  match k, hr with
  | 0, hr => cases hr; rfl
  | 1, hr => cases hr; rfl
  | 2, hr => cases hr; rfl
  | 3, hr => cases hr; rfl
  | 4, hr => cases hr; rfl
  | 5, hr => cases hr; rfl
  | 6, hr => cases hr; rfl
  | 7, hr => cases hr; rfl
  | 8, hr => cases hr; rfl
  | 9, hr => cases hr; rfl
  | 10, hr => cases hr
  | 11, hr => cases hr; rfl
  | k + 12, hr => cases hr
/-- what a putfield's entry says, where the object is an own one -/
theorem s_fent {idx K j kd q nest : Nat} {fin : Bool} (hl : (p_f y.1).lookup idx = some (K, j, kd, q, nest, fin)) (h12 : ¬ K = 12) : ∃ r, 10 ≤ K ∧ vcl (K - 10) = some r ∧ j < r.2.2 ∧ ((r.2.1 j).1 = r.1 ∨ fin = false) ∧ (r.2.1 j).2.2.2 = fin ∧ (kd = 2 ↔ s_isR (s_ty (K - 10) j) = true) ∧ (kd = 0 ↔ s_ty (K - 10) j = .int) ∧ (kd = 1 ↔ s_ty (K - 10) j = .boolean) ∧ (kd = 3 ↔ s_ty (K - 10) j = .byte) ∧ s_lk (p_cn y.1) idx ((r.2.1 j).1, (r.2.1 j).2.1, (r.2.1 j).2.2.1) nest ∈ s_tbl := by
  have hchk := s_all s_fOK hl
  unfold s_fchk at hchk
  dsimp only at hchk
  rw [Bool.and_eq_true] at hchk
  obtain ⟨hlk, hchk⟩ := hchk
  have hlk := s_in_tbl hlk
  rw [if_neg h12, Bool.and_eq_true] at hchk
  have hK10 : 10 ≤ K := of_decide_eq_true hchk.1
  have hchk := hchk.2
  unfold s_fi at hlk
  rw [if_neg h12] at hlk
  cases hr : vcl (K - 10) with
  | none => rw [hr] at hchk; cases hchk
  | some r =>
    rw [hr] at hchk hlk
    dsimp only at hchk hlk
    simp only [Bool.and_eq_true, beq_iff_eq] at hchk
    obtain ⟨⟨⟨⟨⟨⟨hj, hC⟩, hfin⟩, hkd⟩, hkd0⟩, hkd1⟩, hkd3⟩ := hchk
    have hC : (r.2.1 j).1 = r.1 ∨ fin = false := by
      rw [Bool.or_eq_true] at hC
      rcases hC with hC | hC
      · exact Or.inl (of_decide_eq_true hC)
      · exact Or.inr (by cases fin <;> first | rfl | cases hC)
    refine ⟨r, hK10, rfl, (of_decide_eq_true hj).1, hC, hfin, ?_, decide_eq_decide.mp hkd0, decide_eq_decide.mp hkd1, decide_eq_decide.mp hkd3, hlk⟩
    rw [← hkd]
    exact decide_eq_true_iff.symm
theorem s_obj_upd {k j : Nat} {r : vw_C} {b : Nat} (hr : vcl k = some r) (hk : k ≠ 2) (hid : k = 11 → 100 ≤ a) (ht : (p_ty T a).1 = 10 + k) {V : Nat → Value} {v : Value} (hO : t_OB b (D.1 (vix k)) r.2.2 (D.2 (vix k)) H' (updV V j v)) (hV : ∀ i, i < r.2.2 → s_fv (s_vm σ fv) M' F' k a i = if i = j then v else V i) : s_c D (s_vm σ fv) M' F' (p_ty T a) a b s H' :=
  (s_c_obj ht hk hid hr).mpr (t_OB.to hO (fun i hi => (hV i hi).symm))
theorem s_putI (hX : s_X p l s m meth c D y) {idx : Nat} {x : Int32} (hI : s_I D fv A s n σ T M F H locs L ls (.int x :: .ref a :: st)) (hdg : decode y.2.2.1 pc = .ok (.putfield idx, 3)) {K j kd q nest : Nat} {fin : Bool} (hl : (p_f y.1).lookup idx = some (K, j, kd, q, nest, fin))
    (hok : (!fin || (y.2.1.name == "<init>" && K == 10 + y.1 && nest == 0)) = true) (ha : 100 ≤ a) (ht : (p_ty T a).1 = K) (hkd : kd = 0 ∨ kd = 1 ∧ (x = 0 ∨ x = 1) ∨ kd = 3 ∧ -128 ≤ jI x ∧ jI x < 128) (h : p_nx (pc + 3) L st T (uA M a (u1 (M a) j (jI x))) F = some o) (k : ∀ g, o = .inl g → s_K p l e Rm s m args below meth c Q D fv A n σ T cells slots g) (h12 : ¬ K = 12) :
    W p l e Rm s m args below meth c H locs cells slots Q (F0 m pc ls ((.int x :: .ref a :: st).map (s_vm σ fv))) := by
  obtain ⟨r, hK, hr, hj, hC, hfin, hk2, hk0, hk1, hk3, hlk⟩ := s_fent hl h12
  have h0 : (p_ty T a).1 ≠ 0 := by omega
  show W p l e Rm s m args below meth c H locs cells slots Q (F0 m pc ls (.int x :: s_vm σ fv (.ref a) :: st.map (s_vm σ fv)))
  rw [s_vm_ref h0]
  have hO := (s_c_obj (k := K - 10) (q := r) (by omega) (by omega) (fun _ => ha) hr).mp (hI.1.2.2.1 a)
  have hnr : s_isR (s_ty (K - 10) j) = false := by
    cases hz : s_isR (s_ty (K - 10) j) with
    | false => rfl
    | true => have := hk2.mpr hz; omega
  have hnf : narrow (s_ty (K - 10) j) (.int x) = .int x ∧ fits (s_ty (K - 10) j) (.int x) = true := by
    rcases hkd with e | ⟨e, hx⟩ | ⟨e, hx0, hx1⟩
    · rw [hk0.mp e]; exact ⟨rfl, rfl⟩
    · rw [hk1.mp e]
      rcases hx with rfl | rfl <;> exact ⟨rfl, rfl⟩
    · rw [hk3.mp e]
      exact ⟨s_nb hx0 hx1, s_fb hx0 hx1⟩
  refine s_Wputf hX hr hj hC hfin hlk (by rw [show 10 + (K - 10) = K by omega]; exact hok) hnf.1 hnf.2 hO hdg ?_ (fun H' i hO' z oq => s_nx h k (hI.put ha h0 (fun b hb => s_u1 M hb) (fun _ _ => rfl) z oq (s_obj_upd hr (by omega) (fun _ => ha) (by omega) hO' (fun i hi => ?_)) (fun i r hr => s_refs hI ha hr) hI.pop.pop.bnd))
  · cases fin with
    | false => exact Or.inr rfl
    | true =>
      simp only [Bool.not_true, Bool.false_or, Bool.and_eq_true, beq_iff_eq] at hok
      exact Or.inl (s_cnk y.1 r (by rw [← hr]; congr 1; omega))
  · unfold s_fv
    by_cases e : i = j
    · subst e
      rw [if_pos rfl, hnr, if_neg (by decide), s_mv_u ha, if_pos rfl, iI_jI']
    · rw [if_neg e]
      by_cases e2 : s_isR (s_ty (K - 10) i) = true
      · rw [if_pos e2, if_pos e2]
      · rw [if_neg e2, if_neg e2, s_mv_u ha, if_neg (by omega)]
theorem s_putR (hX : s_X p l s m meth c D y) {idx : Nat} {x : Nat} (hI : s_I D fv A s n σ T M F H locs L ls (.ref x :: .ref a :: st)) (hdg : decode y.2.2.1 pc = .ok (.putfield idx, 3)) {K j kd q nest : Nat} {fin : Bool} (hl : (p_f y.1).lookup idx = some (K, j, kd, q, nest, fin))
    (hok : (!fin || (y.2.1.name == "<init>" && K == 10 + y.1 && nest == 0)) = true) (ha : 100 ≤ a) (ht : (p_ty T a).1 = K) (hkd : kd = 2) (h : p_nx (pc + 3) L st T M (uA F a (u1 (F a) j (some x))) = some o) (k : ∀ g, o = .inl g → s_K p l e Rm s m args below meth c Q D fv A n σ T cells slots g) (h12 : ¬ K = 12) :
    W p l e Rm s m args below meth c H locs cells slots Q (F0 m pc ls ((.ref x :: .ref a :: st).map (s_vm σ fv))) := by
  obtain ⟨r, hK, hr, hj, hC, hfin, hk2, hk0, hk1, hk3, hlk⟩ := s_fent hl h12
  have h0 : (p_ty T a).1 ≠ 0 := by omega
  show W p l e Rm s m args below meth c H locs cells slots Q (F0 m pc ls (s_vm σ fv (.ref x) :: s_vm σ fv (.ref a) :: st.map (s_vm σ fv)))
  rw [s_vm_ref h0]
  have hO := (s_c_obj (k := K - 10) (q := r) (by omega) (by omega) (fun _ => ha) hr).mp (hI.1.2.2.1 a)
  have hnr : s_isR (s_ty (K - 10) j) = true := hk2.mp hkd
  have hnf : narrow (s_ty (K - 10) j) (s_vm σ fv (.ref x)) = s_vm σ fv (.ref x) ∧ fits (s_ty (K - 10) j) (s_vm σ fv (.ref x)) = true := by
    have hz : (∃ n, s_ty (K - 10) j = .object n) ∨ ∃ t, s_ty (K - 10) j = .array t := by
      cases hq : s_ty (K - 10) j <;> rw [hq] at hnr <;> first | exact Or.inl ⟨_, rfl⟩ | exact Or.inr ⟨_, rfl⟩ | cases hnr
    rcases hz with ⟨n, e⟩ | ⟨t, e⟩ <;> rw [e] <;> rcases hI.ref x with e2 | ⟨z, e2⟩ <;> rw [e2] <;> exact ⟨rfl, rfl⟩
  refine s_Wputf hX hr hj hC hfin hlk (by rw [show 10 + (K - 10) = K by omega]; exact hok) hnf.1 hnf.2 hO hdg ?_ (fun H' i hO' z oq => s_nx h k (hI.put ha h0 (fun _ _ => rfl) (fun b hb => s_u1 F hb) z oq (s_obj_upd hr (by omega) (fun _ => ha) (by omega) hO' (fun i hi => ?_)) (fun i' r' hr' => ?_) hI.pop.pop.bnd))
  · cases fin with
    | false => exact Or.inr rfl
    | true =>
      simp only [Bool.not_true, Bool.false_or, Bool.and_eq_true, beq_iff_eq] at hok
      exact Or.inl (s_cnk y.1 r (by rw [← hr]; congr 1; omega))
  · unfold s_fv
    by_cases e : i = j
    · subst e
      rw [if_pos rfl, hnr, if_pos rfl, s_fv_u ha, if_pos rfl]
      rfl
    · rw [if_neg e]
      by_cases e2 : s_isR (s_ty (K - 10) i) = true
      · rw [if_pos e2, if_pos e2, s_fv_u ha, if_neg (by omega)]
      · rw [if_neg e2, if_neg e2]
  · rw [show uA F a (u1 (F a) j (some x)) a i' = u1 (F a) j (some x) i' from congrFun (if_pos rfl) _] at hr'
    unfold u1 at hr'
    by_cases ei : i' = (j : Int)
    · rw [if_pos ei] at hr'
      cases hr'
      exact hI.top _ rfl
    · rw [if_neg ei] at hr'
      exact s_refs hI ha hr'
/-! statics -/
theorem s_getstatic (hX : s_X p l s m meth c D y) {idx : Nat} (hI : s_I D fv A s n σ T M F H locs L ls st) (hdg : decode y.2.2.1 pc = .ok (.getstatic idx, 3)) {kd v row q nest : Nat} (hl : (p_s y.1).lookup idx = some (kd, v, row, q, nest)) (hv : s_lt T.1.1 (if kd = 0 then .ref v else .int (iI v)))
    (h : p_nx (pc + 3) L ((if kd = 0 then .ref v else .int (iI v)) :: st) T M F = some o) (k : ∀ g, o = .inl g → s_K p l e Rm s m args below meth c Q D fv A n σ T cells slots g) :
    W p l e Rm s m args below meth c H locs cells slots Q (F0 m pc ls (st.map (s_vm σ fv))) := by
  have hchk := s_all s_sOK hl
  unfold s_schk at hchk
  dsimp only at hchk
  rw [Bool.and_eq_true] at hchk
  obtain ⟨hm, hchk⟩ := hchk
  have hm : (row, kd, v) ∈ p_sl := of_decide_eq_true hm
  cases hr : p_sN[row]? with
  | none => rw [hr] at hchk; cases hchk
  | some t =>
    rw [hr] at hchk
    have hlk := hX.hts (args := args) _ (s_in_tbl hchk)
    have hZ := hI.2.1.1 _ hm t hr
    have hk := s_nx h k (hI.push hv)
    have e9 : s_sv σ fv (kd, v) = s_vm σ fv (if kd = 0 then .ref v else .int (iI v)) := by
      unfold s_sv
      by_cases e : kd = 0
      · rw [if_pos e, if_pos e]
      · rw [if_neg e, if_neg e]; rfl
    dsimp only at hZ
    rw [e9] at hZ
    unfold s_lk at hlk
    by_cases hn : nest = 0
    · rw [if_pos hn] at hlk
      exact va_gets hX.1 hX.2.1 hZ hI.2.2.1 hX.2.2.2.1 hlk (fun x hx => hx) hdg hk
    · rw [if_neg hn] at hlk
      exact va_getsN hX.1 hX.2.1 hZ hI.2.2.1 hX.2.2.2.1 hlk (fun x hx => hx) hdg hk
end PS7
