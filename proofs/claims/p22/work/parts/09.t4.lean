section PT4
/-! the claim out of the pure machine (the frame of these rows begins from the kit's skeleton) -/
def lw_P (b : Addr) (xs : List Int32) (args : Array Value) (s : State) : Prop := args = #[.ref b] ∧ s.IntsAt b xs ∧ xs.length ≤ 260 ∧ (Jvm.Cond.and given_1 narrow_1).before args s = true
theorem lw_closed {s t : State} {o : Outcome} {d0 : Drawn} {L : List Loc} {k n : Nat} (hd0 : s.drawn.sameBut d0 lw_cs) (hv : ∃ v, o = .returned v) (hW : (s.setDrawn d0).WarmedH t.vm) (hs : (s.setDrawn d0).sameButNew ({ t with vm := s.vm } : State) L k n) : State.butDraws s t lw_cs (fun t1 => Framed s o t1 L k n) := by
  have h2 : t.drawn = d0 := congrArg State.drawn hs.1
  refine ⟨⟨hv, hW, State.sameButNew.setDrawn hs s.drawn⟩, ?_, by decide⟩
  rw [h2]
  exact hd0
def lw_Q (_ : Array Value) (s : State) (o : Outcome) (t : State) : Prop := o = .returned (some (.int 1)) ∧ State.butDraws s t lw_cs (fun t1 => Framed s o t1 [] room_1.cells room_1.slots)
def lw_Z (below : List Frame) (a : Array Value) (s : State) : State → Prop := fun t => ∃ o, t.status = .running ∧ Ended t below o ∧ lw_Q a s o t
/-- what is left to show: the pure machine's answer on every script, and its room -/
def g_goal : Prop := ∀ (L : Nat) (xs : Nat → Int32), L ≤ 260 → ∃ (T' : pT) (M' : pM) (F' : pF), callD 13 m_L_law [.ref 29] (g_T0 L) (g_M0 xs) g_F0 = some (.inl (some (.int 1)), T', M', F') ∧ T'.1.1 ≤ 100000 ∧ T'.1.2 ≤ 6500000
theorem g_hchk : s_hchk m_L_law = true := by decide +kernel
theorem lw_walk (HG : g_goal) (l : Launch) (hflags : l.flags = flags0) (b : Addr) (xs : List Int32) : MetFree l x (headSpec (Jvm.Cond.code x code maxLocals ret :: tables_1) room_1) (lw_P b xs) (fun _ _ _ _ _ => True) lw_Q := by
  refine MetFree.of_bodyS (code := code) (maxLocals := maxLocals) (ret := ret) (by decide) ?_ ?_
  · intro args s m h hn
    obtain ⟨meth, c, h1, h2, h3, h4, h5, h6, -, -⟩ := Cond.code_spec hn (atoms_spec (ws := Jvm.Cond.code x code maxLocals ret :: tables_1) h _ List.mem_cons_self)
    exact ⟨meth, c, h1, h2, h3, h4, h5, h6⟩
  · intro p e s m args below meth c s₁ B hml0 hP _
    obtain ⟨rfl, hx, hbd, hgv⟩ := hP
    obtain ⟨scr, harrAt, hlist, hof, hsmall⟩ := hx
    obtain ⟨hcb, hkn, -, -⟩ := State.arrayAt?_spec harrAt
    have hts0 : ∀ c ∈ (Jvm.Cond.code x code maxLocals ret :: tables_1), c.before #[Value.ref b] s = true := atoms_spec (ws := Jvm.Cond.code x code maxLocals ret :: tables_1) B.pre
    have hts : g_hts #[Value.ref b] s := k2_hts_sels lw_privs (fun w hw => hts0 w (List.mem_cons_of_mem _ hw)) lw_privs_ok
    have hml : c.maxLocals = 25 := B.maxLocals_eq (hts0 _ List.mem_cons_self)
    have X₀ : Stand p l e room_1 s m #[Value.ref b] below meth c s₁ [] 0 0 := Stand.of_body B
    have hh0 : s₁.heap = s.heap := by rw [B.state]; rfl
    have hsz : scr.slots.size = xs.length := by rw [← Array.length_toList, hlist, List.length_map]
    have hval : ∀ j : Nat, j < xs.length → scr.slots[j]? = some (.int (xs.getD j 0)) := fun j hj => by
      rw [← Array.getElem?_toList, hlist]
      simp [hj]
    have hX : va_X b xs.length (fun j => xs.getD j 0) s s.heap := ⟨scr, hcb, hof, hkn, hsz, hval⟩
    have hg : g_pre #[Value.ref b] s := flat_of_before _ hgv
    have htab : c.exceptionTable.toList = [] := by
      obtain ⟨meth9, c9, h1, h2, -, -, -, -, h7, -⟩ := Cond.code_spec B.named (hts0 _ List.mem_cons_self)
      cases Option.some.inj (h1.symm.trans B.method)
      cases Option.some.inj (h2.symm.trans X₀.code)
      rw [Array.isEmpty_iff.mp h7]
    obtain ⟨D, hV⟩ := g_V hg hts (fun q hq => by
      obtain ⟨a, c, cA, kA, q1, -⟩ := Cond.exactly_spec (args := #[Value.ref b]) (first := s) (o := none) (s := s) (idx := []) (hg _ (g_str1 hq))
      exact ⟨a, q1⟩)
    have hW := g_W (D := D) hg hX hbd
    obtain ⟨T', M', F', hc, hr1, hr2⟩ := HG xs.length (fun j => xs.getD j 0) hbd
    rw [callD] at hc
    dsimp only at hc
    rw [if_pos (by decide)] at hc
    obtain ⟨N, hN⟩ := p_lim_ex hc
    have hA : ∀ q, s_fr (g_ad #[Value.ref b] s) (g_T0 xs.length) s.heap.size q → s.heap.size ≤ q := by
      rintro q (⟨a, ha, ta, -⟩ | hq)
      · exact absurd (hW.2.1 a ha) ta
      · exact hq
    have hcat := s_vm_cat (σ := g_ad #[Value.ref b] s) hW.2.2.2.2.2.1
    have hXs : s_X p l s m meth c D m_L_law := ⟨B.exec, B.bytes, hml, findClass_of_methodNamed B.named, B.returns, B.notSynchronized, (name_of_methodNamed B.named B.method).1, hflags, hV, htab⟩
    have hI : s_I D (g_fv #[Value.ref b] s) (s_fr (g_ad #[Value.ref b] s) (g_T0 xs.length) s.heap.size) s 25 (g_ad #[Value.ref b] s) (g_T0 xs.length) (g_M0 (fun j => xs.getD j 0)) g_F0 s.heap [] (p_ent m_L_law [.ref 29]) ((lg_sl ([.ref 29].map (s_vm (g_ad #[Value.ref b] s) (g_fv #[Value.ref b] s))) ++ List.replicate (25 - (lg_sl ([.ref 29].map (s_vm (g_ad #[Value.ref b] s) (g_fv #[Value.ref b] s)))).length) Slot.unset).toArray) [] := by
      have h29 : ∀ v ∈ ([.ref 29] : List Value), s_lt (g_T0 xs.length).1.1 v := fun v hv => by
        rw [List.mem_singleton.mp hv]
        exact .ref (by decide : 29 < 100)
      refine ⟨hW, g_Z hg hts (fun a ha q => absurd (hA a q) (Nat.not_le.mpr ha)), va_S.rf, fun q hq => Or.inr hq, fun a ha ht => Or.inl ⟨a, ha, ht, rfl⟩, fun a ha ht q => ?_, ⟨rfl, lv_args 0 ([.ref 29].map (s_vm (g_ad #[Value.ref b] s) (g_fv #[Value.ref b] s))), lv_entry _ (by rw [s_sllen _ hcat]; decide), fun i v hi _ => ?_⟩, (fun v hv => by cases hv), fun i v hi => h29 v (s_argm _ _ i v hi)⟩
      · have h3 := (hW.2.2.1 a).lt ht
        have h4 := hA _ q
        omega
      · have h2 := s_args (s_vm (g_ad #[Value.ref b] s) (g_fv #[Value.ref b] s)) hcat _ [.ref 29] 0 i v hi
        rwa [Nat.add_zero] at h2
    have hcall : s_call_ok l (g_fv #[Value.ref b] s) room_1 (callD 12) := fun y' hy' as' T' M' F' r' hb' h' => ⟨callD_T 12 y' as' T' M' F' r' h', 12, by decide, by decide, fun D' σ' sz' => s_snd hflags _ 12 y' hy' as' T' M' F' r' hb' h' D' σ' sz'⟩
    have hr1c : T'.1.1 - 100 ≤ room_1.cells := Nat.le_trans (show T'.1.1 - 100 ≤ 100000 by omega) (by decide)
    have hr2c : T'.1.2 ≤ room_1.slots := Nat.le_trans hr2 (by decide)
    have K := s_run (p := p) (l := l) (e := e) (Rm := room_1) (s := s) (m := m) (args := #[Value.ref b]) (below := below) (meth := meth) (c := c) (σ0 := g_ad #[Value.ref b] s) (T0 := g_T0 xs.length) (mc := T'.1.1 - 100) (ms := T'.1.2) hXs g_hchk rfl hcall (callD_T 12) (d := 12) (by decide) (by decide) rfl hr1c hr2c N 0 (p_ent m_L_law [.ref 29]) [] (g_T0 xs.length) _ _ (g_ad #[Value.ref b] s) s.heap [] _ 0 0 (fun _ _ => rfl) (Nat.le_refl _) hI hN (Nat.zero_add _) (Nat.zero_add _)
    have he : entryFrame m #[Value.ref b] 25 = F0 m 0 ((lg_sl ([.ref 29].map (s_vm (g_ad #[Value.ref b] s) (g_fv #[Value.ref b] s))) ++ List.replicate (25 - (lg_sl ([.ref 29].map (s_vm (g_ad #[Value.ref b] s) (g_fv #[Value.ref b] s)))).length) Slot.unset).toArray) [] := lg_entry_eq m [Value.ref b] 25
    obtain ⟨t, a1, o, b1, b2, b3⟩ := K s₁ hh0 X₀
    refine ⟨t, o, ?_, b1, b2, ?_⟩
    · show Steps p.tables e below (s₁.setTop (entryFrame m #[Value.ref b] 25)) t
      rw [he]
      exact a1
    · rcases b3 with ⟨⟨⟨v, T2, M2, F2, σ2, e1, e2, -, -⟩, -⟩, L1, ⟨f1, f2, f3⟩, f4⟩ | ⟨q, -, E9, ce, L1, ⟨⟨ec, T2, M2, F2, σ2, e1, -⟩, -⟩, -⟩
      · cases e1
        subst e2
        refine ⟨rfl, lw_closed (d0 := s.drawn) (Drawn.sameBut.refl s.drawn lw_cs) ⟨_, rfl⟩ f2 (State.sameButNew.weaken f3 (fun z hz hlt => absurd hlt (Nat.not_lt.mpr (hA _ (f4 z hz)))) hr1c hr2c)⟩
      · cases e1
theorem lw_pre_spec {args : Array Value} {s : State} (h : (Jvm.Cond.and given_1 narrow_1).before args s = true) (hr : rest_1_c.before args s = true) : ∃ (b : Addr) (xs : List Int32), lw_P b xs args s := by
  have hs := flat_of_before _ h
  have hq := flat_of_before _ hr
  have hc : (Cond.count 1).before args s = true := hs _ (by decide +kernel)
  have harr : (Cond.arrayOf (.arg 0) .int).before args s = true := hs _ (by decide +kernel)
  have hle : (Cond.le (.length (.arg 0)) (.int 260)).before args s = true := hs _ (by decide +kernel)
  have hlen : (Cond.isInt (.length (.arg 0))).before args s = true := hq _ (by decide +kernel)
  have hall : (Cond.all (.arg 0) (.isInt (.elem (.arg 0) (.index 0)))).before args s = true := hq _ (by decide +kernel)
  obtain ⟨b, xs, hb, hx⟩ := State.ints_of_pre rfl harr hlen hall
  have hsm : xs.length < 2 ^ 31 := hx.choose_spec.2.2.2
  have hev : (Term.length (.arg 0)).eval args s none [] s = some (.int xs.length.toInt32) := hx.length_eval hb
  have hv := Cond.le_ints hev (show (Term.int 260).eval args s none [] s = some (.int 260) from rfl)
  have hd : xs.length.toInt32 ≤ 260 := by
    simpa [Cond.before, Cond.holds, hv] using hle
  have hN : xs.length ≤ 260 := (Int32.ofNat_le_ofNat hsm (by decide)).mp (show Int32.ofNat xs.length ≤ Int32.ofNat 260 from hd)
  exact ⟨b, xs, Cond.one_arg hc (show args[0]? = some (.ref b) from hb), hx, hN, h⟩
theorem lw_comes (HG : g_goal) (l : Launch) (hflags : l.flags = flags0) : Comes l x (Jvm.Cond.code x code maxLocals ret :: tables_1) room_1 (fun tb e args s => Calls_1 tb e args s ∧ rest_1 tb e args s ∧ Pre_1 tb e args s)
    (fun _ _ args s o t => lw_Q args s o t) := by
  intro p e ha hc hk s m args below hf hfit hheap happ hpre
  obtain ⟨b, xs, hP⟩ := lw_pre_spec hpre.2.2 hpre.2.1
  obtain ⟨k, o, h1, h2, h3, hQ⟩ := lw_walk HG l hflags b xs p e ha hc hk s m args below hf ((Spec.applies_iff_loose hf).mp happ).1 hP trivial
  exact ⟨k, o, h1, h2, h3, hQ⟩
theorem lw_frame {s t : State} {o : Outcome} {args : Array Value} (h : State.butDraws s t lw_cs (fun t1 => Framed s o t1 [] room_1.cells room_1.slots)) :
    State.butDraws s t [Jvm.Choice.named "NaN.bits"] (fun t1 => Framed s o t1 (fieldLocs frame_1_writes args s ++ arrayLocs frame_1_arrays args s ++ staticLocs frame_1_statics s) room_1.cells room_1.slots) := h
theorem lw_limb (HG : g_goal) (L : Cond) (hL : ∀ (args : Array Value) (s t : State), L.after args s (.returned (some (.int 1))) t = true) :
    ArmFor flags0 classFile x code maxLocals ret World_1 tables_1 room_1 Calls_1 rest_1 Pre_1
      (fun tb e a s o t => postC L tb e a s o t ∧ State.butDraws s t [Jvm.Choice.named "NaN.bits"] (fun t1 => Framed s o t1 (fieldLocs frame_1_writes a s ++ arrayLocs frame_1_arrays a s ++ staticLocs frame_1_statics s) room_1.cells room_1.slots)) := by
  intro l hflags _ _ p e ha hc hk s m args below hf hfit hheap happ hpre
  obtain ⟨k, o, h1, h2, h3, rfl, hF⟩ := lw_comes HG l hflags p e ha hc hk s m args below hf hfit hheap happ hpre
  exact ⟨k, _, h1, h2, h3, hL args s _, lw_frame hF⟩
theorem g_vc (HG : g_goal) : Claimed_1_1 ∧ Claimed_1_2 := ⟨lw_limb HG limb_1_1 (fun args s t => by simp [limb_1_1, Cond.after, Cond.holds, Cond.value]), lw_limb HG limb_1_2 (fun args s t => Cond.after_iff.mpr (by
  first | (rw [show limb_1_2 = Cond.eq .result (.int 1) from rfl, Cond.eq_ints (x := 1) (y := 1) rfl rfl]; simp; done) | (simp [limb_1_2, Cond.value, Term.eval]; done)))⟩
end PT4
