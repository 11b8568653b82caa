section PSE
variable {p : Program} {l : Launch} {e : Env} {Rm : Room} {s : State} {m : MethodId} {args : Array Value} {below : List Frame} {meth : Method} {c : Code} {Q : State → Prop} {D : va_G} {fv : Value} {A : Nat → Prop} {n : Nat} {σ σ0 : Nat → Nat} {T T0 : pT} {M M' : pM} {F F' : pF} {H H' : Heap} {locs : List Loc} {L : List Slot} {ls : Array Slot} {cells slots : Nat} {st st' : List Value} {pc : Nat} {o : pG ⊕ pR} {a b : Nat} {y : pC}
theorem s_I.putL {L1 : List Loc} (hI : s_I D fv A s n σ T M F H locs L ls st) (ha : 100 ≤ a) (ht : (p_ty T a).1 ≠ 0) (hM : ∀ b, b ≠ a → M' b = M b) (hF : ∀ b, b ≠ a → F' b = F b) (hz : H'.size = H.size) (oq : ∀ q : Nat, q ≠ σ a → H'[q]? = H[q]?)
    (hc : s_c D (s_vm σ fv) M' F' (p_ty T a) a (σ a) s H') (hlt : ∀ i r, F' a i = some r → r < T.1.1) (hst : ∀ v ∈ st', s_lt T.1.1 v) (hL : ∀ q ∈ L1, q.base = σ a) : s_I D fv A s n σ T M' F' H' (locs ++ L1) L ls st' := by
  obtain ⟨h1, h2, h3, h4, h5, h6, h7, h8, h9⟩ := hI
  refine ⟨h1.put ha ht hM hF oq hc hlt, h2, ⟨by rw [hz]; exact h3.1, fun q g1 g2 => ?_, fun q hq => ?_⟩, h4, h5, h6, h7, hst, h9⟩
  · rw [oq q (fun e => g2 (by rw [e]; exact h5 a ha ht))]
    exact h3.2.1 q g1 g2
  · rcases List.mem_append.mp hq with h | h
    · exact h3.2.2 q h
    · rw [hL q h]
      exact h5 a ha ht
theorem s_nfw : nativeFrameWords "java/lang/System" "arraycopy" 5 ≤ 21 := by decide +kernel
theorem s_copied {cs cd : Cell} {N0 N1 sp dp n : Nat} {f g : Nat → Value} (h0 : N0 ≤ cs.slots.size) (h1 : N1 ≤ cd.slots.size) (hf : ∀ j : Nat, j < N0 → cs.slots[j]? = some (f j)) (hg : ∀ j : Nat, j < N1 → cd.slots[j]? = some (g j)) (hs : sp + n ≤ N0) (hd : dp + n ≤ N1) :
    ∀ j : Nat, j < N1 → (cd.storeRun dp (cs.stretch sp n)).slots[j]? = some (if dp ≤ j ∧ j < dp + n then f (sp + (j - dp)) else g j) := by
  intro j hj
  have hlen : (cs.stretch sp n).length = n := by unfold Cell.stretch; rw [List.length_map, List.length_range]
  rw [Cell.storeRun_get _ _ _ _ (by rw [hlen]; omega), hlen]
  by_cases c : dp ≤ j ∧ j < dp + n
  · rw [if_pos c, if_pos c]
    unfold Cell.stretch
    rw [List.getElem?_map, List.getElem?_range (by omega)]
    show some (cs.slots.getD (sp + (j - dp)) .null) = _
    rw [Array.getD_eq_getD_getElem?, hf _ (by omega)]
    rfl
  · rw [if_neg c, if_neg c]
    exact hg j hj
theorem s_cA {idx n0 q : Nat} {y' : pC} {r9 : Nat × Nat × Nat × Nat × Nat} {sp dp x : Int32} (hX : s_X p l s m meth c D y) (hn : n = y.2.2.2.1) (hRf : 1 ≤ Rm.frames) (hRl : 40 ≤ Rm.locals) (hI : s_I D fv A s n σ T M F H locs L ls (.int x :: .int dp :: .ref b :: .int sp :: .ref a :: st)) (hdg : decode y.2.2.1 pc = .ok (.invokestatic idx, 3)) (hl : (p_m y.1).lookup idx = some (4, y', n0, q, r9))
    (h : p_if (100 ≤ a ∧ 100 ≤ b ∧ a ≠ b ∧ (p_ty T a).1 = 1 ∧ (p_ty T b).1 = 1 ∧ 0 ≤ jI sp ∧ 0 ≤ jI dp ∧ 0 ≤ jI x ∧ jI sp + jI x ≤ (p_ty T a).2 ∧ jI dp + jI x ≤ (p_ty T b).2 ∧ st.length ≤ 4)
            (p_nx (pc + 3) L st T (uA M b (fun j => if jI dp ≤ j ∧ j < jI dp + jI x then M a (jI sp + (j - jI dp)) else M b j)) F) none = some o) (k : ∀ g, o = .inl g → s_K p l e Rm s m args below meth c Q D fv A n σ T cells slots g) :
    W p l e Rm s m args below meth c H locs cells slots Q (F0 m pc ls ((.int x :: .int dp :: .ref b :: .int sp :: .ref a :: st).map (s_vm σ fv))) := by
  obtain ⟨⟨ha, hb, hab, ta, tb, p0, p1, p2, p3, p4, h4⟩, h⟩ := s_pifn h
  obtain ⟨nest, r9⟩ := r9
  have hchk := s_all s_mOK hl
  unfold s_mchk at hchk
  simp only [Bool.and_eq_true] at hchk
  have hts := hX.hts (args := args)
  obtain ⟨cs, a1, a2, a3, a4, a5, a6⟩ := (hI.1.2.2.1 a).arrI (by rw [ta]; simp)
  obtain ⟨cd, b1, b2, b3, b4, b5, b6⟩ := (hI.1.2.2.1 b).arrI (by rw [tb]; simp)
  obtain ⟨a20, ka, a21, ca, a22⟩ := a2
  obtain ⟨b20, kb, b21, cb, b22⟩ := b2
  have nn : ∀ z : Int32, 0 ≤ jI z → ¬ z < 0 ∧ jI z = (z.toNatClampNeg : Int) := by
    intro z hz
    refine ⟨fun q => ?_, (Int.toNat_of_nonneg hz).symm⟩
    rw [Int32.lt_iff_toInt_lt] at q
    have : (0 : Int32).toInt = 0 := rfl
    unfold jI at hz
    omega
  have e1 := nn sp p0
  have e2 := nn dp p1
  have e3 := nn x p2
  have q3 : sp.toNatClampNeg + x.toNatClampNeg ≤ (p_ty T a).2 := by omega
  have q4 : dp.toNatClampNeg + x.toNatClampNeg ≤ (p_ty T b).2 := by omega
  have hva : s_vm σ fv (.ref a) = .ref (σ a) := s_vm_ref (T := T) (by rw [ta]; omega)
  have hvb : s_vm σ fv (.ref b) = .ref (σ b) := s_vm_ref (T := T) (by rw [tb]; omega)
  intro T1 hT X
  subst hT
  have hrd : ∀ i, i < x.toNatClampNeg → cs.slots.getD (sp.toNatClampNeg + i) .null = .int (iI (p_mv M a ((sp.toNatClampNeg + i : Nat) : Int))) := fun i hi => by
    rw [Array.getD_eq_getD_getElem?, a6 _ (by omega)]
    rfl
  obtain ⟨vm', X', step⟩ := X.arraycopy hX.1 hX.2.2.2.1 (hts _ (s_in_tbl hchk.1)) (hts (.native arraycopyName) (by decide +kernel)) (hts (.static arraycopyName) (by decide +kernel)) (hts (.initialized "java/lang/System") (by decide +kernel)) (src := σ a) (dst := σ b) (cs := cs) (cd := cd) (srcPos := sp) (destPos := dp) (n := x) a1 b1
    a20 b20 a3 b3 a21 b21 a22 b22 (by simp [refKind]) e1.1 e2.1 e3.1
    (by have := e1.2; have := e3.2; unfold jI at *; omega) (by have := e2.2; have := e3.2; unfold jI at *; omega)
    (fun vm₁ _ i hi => by rw [hrd i hi]; exact ⟨rfl, trivial⟩)
    (g := F0 m pc ls ((.int x :: .int dp :: .ref b :: .int sp :: .ref a :: st).map (s_vm σ fv))) rfl (by rw [hX.2.2.1, ← hn]; exact s_lsz hI.2.2.2.2.2.2.1) (rest := st.map (s_vm σ fv)) (by rw [← hva, ← hvb]; rfl) (by rw [hX.2.1]; exact hdg) hRf (by
      have h1 := s_cat (st.map (s_vm σ fv))
      rw [List.length_map] at h1
      have h2 : (F0 m pc ls ((Value.int x :: .int dp :: .ref b :: .int sp :: .ref a :: st).map (s_vm σ fv))).monitorRoom = 0 := rfl
      have h3 := s_nfw
      omega)
  have hlb : σ b < T1.heap.size := (Array.getElem?_eq_some_iff.mp b1).1
  have hheap : ((T1.setVm vm').setCell (σ b) (copied cs cd sp dp x)).heap = T1.heap.setIfInBounds (σ b) (copied cs cd sp dp x) := rfl
  have hcp := Cell.storeRun_facts cd dp.toNatClampNeg (cs.stretch sp.toNatClampNeg x.toNatClampNeg)
  have hI' := hI.pop.pop.pop.pop.pop
  have hK := s_nx h k (hI'.putL (L1 := (cs.stretch sp.toNatClampNeg x.toNatClampNeg).zipIdx.map fun q => ⟨σ b, dp.toNatClampNeg + q.2⟩) (H' := T1.heap.setIfInBounds (σ b) (copied cs cd sp dp x)) (M' := uA M b (fun j => if jI dp ≤ j ∧ j < jI dp + jI x then M a (jI sp + (j - jI dp)) else M b j)) hb (by rw [tb]; decide) (fun z hz => if_neg hz) (fun _ _ => rfl) (by rw [Array.size_setIfInBounds]) (fun q hq => by rw [Array.getElem?_setIfInBounds_ne (Ne.symm hq)]) (s_c_arrI tb ⟨copied cs cd sp dp x, by rw [Array.getElem?_setIfInBounds_self_of_lt hlb], ⟨fun z hz => b20 z (hcp.2.1.symm.trans hz), kb, by rw [show (copied cs cd sp dp x).cls = cd.cls from hcp.1]; exact b21, cb, b22⟩, fun z => b3 (hcp.2.1.symm.trans z), by rw [show (copied cs cd sp dp x).slots.size = cd.slots.size from hcp.2.2.1]; exact b4, by rw [show (copied cs cd sp dp x).slots.size = cd.slots.size from hcp.2.2.1]; exact b5, fun j hj => ?_⟩) (fun i r hr => s_refs hI' hb hr) hI'.bnd (fun q hq => by obtain ⟨z, -, hz⟩ := List.mem_map.mp hq; rw [← hz]))
  · obtain ⟨t, g1, g2⟩ := hK _ hheap X'
    exact ⟨t, step t g1, g2⟩
  · refine (s_copied a4 b4 a6 b6 q3 q4 j hj).trans (congrArg some ?_)
    have na : ¬ (a < 100 ∧ a ≠ 29) := by omega
    have nb : ¬ (b < 100 ∧ b ≠ 29) := by omega
    have ee : p_mv (uA M b (fun j => if jI dp ≤ j ∧ j < jI dp + jI x then M a (jI sp + (j - jI dp)) else M b j)) b j = if jI dp ≤ (j : Int) ∧ (j : Int) < jI dp + jI x then p_mv M a (jI sp + ((j : Int) - jI dp)) else p_mv M b j := by
      unfold p_mv
      simp only [if_neg nb, if_neg na]
      unfold uA
      rw [if_pos rfl]
    dsimp only
    rw [ee]
    by_cases c : dp.toNatClampNeg ≤ j ∧ j < dp.toNatClampNeg + x.toNatClampNeg
    · rw [if_pos c, if_pos (by omega), show jI sp + ((j : Int) - jI dp) = ((sp.toNatClampNeg + (j - dp.toNatClampNeg) : Nat) : Int) by omega]
    · rw [if_neg c, if_neg (by omega)]
/-- the bytes that were there are bytes -/
theorem s_rob : ∀ a, a < 100 → (p_roT a).1 = 93 → ∀ j : Nat, j < (p_roT a).2 → fits .byte (.int (iI (p_roM a j))) = true := by
  have h : ∀ a, a < 100 → (p_roT a).1 = 93 → ((List.range (p_roT a).2).all fun j => fits .byte (.int (iI (p_roM a (j : Nat))))) = true := by decide +kernel
  intro a ha ht j hj
  exact List.all_eq_true.mp (h a ha ht) j (List.mem_range.mpr hj)
theorem s_fitC {v : Value} {ty : FieldType} (h : fits ty v = true) : fits ty v = true := h
theorem s_cAB {idx n0 q : Nat} {y' : pC} {r9 : Nat × Nat × Nat × Nat × Nat} {sp dp x : Int32} (hX : s_X p l s m meth c D y) (hn : n = y.2.2.2.1) (hRf : 1 ≤ Rm.frames) (hRl : 40 ≤ Rm.locals) (hI : s_I D fv A s n σ T M F H locs L ls (.int x :: .int dp :: .ref b :: .int sp :: .ref a :: st)) (hdg : decode y.2.2.1 pc = .ok (.invokestatic idx, 3)) (hl : (p_m y.1).lookup idx = some (8, y', n0, q, r9))
    (h : p_if (100 ≤ b ∧ a ≠ b ∧ ((p_ty T a).1 = 5 ∨ (p_ty T a).1 = 93 ∧ a < 100 ∧ a ≠ 29) ∧ (p_ty T b).1 = 5 ∧ 0 ≤ jI sp ∧ 0 ≤ jI dp ∧ 0 ≤ jI x ∧ jI sp + jI x ≤ (p_ty T a).2 ∧ jI dp + jI x ≤ (p_ty T b).2 ∧ st.length ≤ 4)
            (p_nx (pc + 3) L st T (uA M b (fun j => if jI dp ≤ j ∧ j < jI dp + jI x then p_mv M a (jI sp + (j - jI dp)) else M b j)) F) none = some o) (k : ∀ g, o = .inl g → s_K p l e Rm s m args below meth c Q D fv A n σ T cells slots g) :
    W p l e Rm s m args below meth c H locs cells slots Q (F0 m pc ls ((.int x :: .int dp :: .ref b :: .int sp :: .ref a :: st).map (s_vm σ fv))) := by
  obtain ⟨⟨hb, hab, ta, tb, p0, p1, p2, p3, p4, h4⟩, h⟩ := s_pifn h
  obtain ⟨nest, r9⟩ := r9
  have hchk := s_all s_mOK hl
  unfold s_mchk at hchk
  simp only [Bool.and_eq_true] at hchk
  have hts := hX.hts (args := args)
  have hsrc : ∃ cs : Cell, H[σ a]? = some cs ∧ s.isArrayOf cs .byte ∧ cs.vm ≠ .unknown ∧ (p_ty T a).2 ≤ cs.slots.size ∧ cs.slots.size.toInt32 = Int32.ofNat (p_ty T a).2 ∧ (∀ j : Nat, j < (p_ty T a).2 → fits .byte (.int (iI (p_mv M a j))) = true) ∧ ∀ j : Nat, j < (p_ty T a).2 → cs.slots[j]? = some (.int (iI (p_mv M a j))) := by
    rcases ta with ta | ⟨ta, ta1, ta2⟩
    · obtain ⟨cs, a1, a2, a3, a4, a5, a7, a6⟩ := (hI.1.2.2.1 a).arrY ta
      exact ⟨cs, a1, a4, by rw [a2]; exact fun z => (by cases z), Nat.le_of_eq a5, by rw [← a5], fun j hj => a7 j _ (a6 j hj), a6⟩
    · obtain ⟨cs, a1, a2, a3, a4, a5, a6⟩ := (hI.1.2.2.1 a).arrB ta
      refine ⟨cs, a1, a2, a3, a4, a5, fun j hj => ?_, a6⟩
      have e0 : p_ty T a = p_roT a := if_pos ⟨ta1, ta2⟩
      have e1 : p_mv M a j = p_roM a j := if_pos ⟨ta1, ta2⟩
      rw [e0] at ta hj
      rw [e1]
      exact s_rob a ta1 ta j hj
  obtain ⟨cs, a1, a2, a3, a4, a5, a7, a6⟩ := hsrc
  obtain ⟨cd, b1, b30, b31, b2, b40, b7, b6⟩ := (hI.1.2.2.1 b).arrY tb
  have b3 : cd.vm ≠ .unknown := by rw [b30]; exact fun z => (by cases z)
  have b4 := Nat.le_of_eq b40
  obtain ⟨a20, ka, a21, ca, a22⟩ := a2
  obtain ⟨b20, kb, b21, cb, b22⟩ := b2
  have nn : ∀ z : Int32, 0 ≤ jI z → ¬ z < 0 ∧ jI z = (z.toNatClampNeg : Int) := by
    intro z hz
    refine ⟨fun q => ?_, (Int.toNat_of_nonneg hz).symm⟩
    rw [Int32.lt_iff_toInt_lt] at q
    have : (0 : Int32).toInt = 0 := rfl
    unfold jI at hz
    omega
  have e1 := nn sp p0
  have e2 := nn dp p1
  have e3 := nn x p2
  have q3 : sp.toNatClampNeg + x.toNatClampNeg ≤ (p_ty T a).2 := by omega
  have q4 : dp.toNatClampNeg + x.toNatClampNeg ≤ (p_ty T b).2 := by omega
  have hva : s_vm σ fv (.ref a) = .ref (σ a) := s_vm_ref (T := T) (by omega)
  have hvb : s_vm σ fv (.ref b) = .ref (σ b) := s_vm_ref (T := T) (by rw [tb]; omega)
  intro T1 hT X
  subst hT
  have hrd : ∀ i, i < x.toNatClampNeg → cs.slots.getD (sp.toNatClampNeg + i) .null = .int (iI (p_mv M a ((sp.toNatClampNeg + i : Nat) : Int))) := fun i hi => by
    rw [Array.getD_eq_getD_getElem?, a6 _ (by omega)]
    rfl
  obtain ⟨vm', X', step⟩ := X.arraycopy hX.1 hX.2.2.2.1 (hts _ (s_in_tbl hchk.1)) (hts (.native arraycopyName) (by decide +kernel)) (hts (.static arraycopyName) (by decide +kernel)) (hts (.initialized "java/lang/System") (by decide +kernel)) (src := σ a) (dst := σ b) (cs := cs) (cd := cd) (srcPos := sp) (destPos := dp) (n := x) a1 b1
    a20 b20 a3 b3 a21 b21 a22 b22 (by simp [refKind]) e1.1 e2.1 e3.1
    (by have := e1.2; have := e3.2; unfold jI at *; omega) (by have := e2.2; have := e3.2; unfold jI at *; omega)
    (fun vm₁ _ i hi => by rw [hrd i hi]; exact ⟨s_fitC (a7 _ (by omega)), trivial⟩)
    (g := F0 m pc ls ((.int x :: .int dp :: .ref b :: .int sp :: .ref a :: st).map (s_vm σ fv))) rfl (by rw [hX.2.2.1, ← hn]; exact s_lsz hI.2.2.2.2.2.2.1) (rest := st.map (s_vm σ fv)) (by rw [← hva, ← hvb]; rfl) (by rw [hX.2.1]; exact hdg) hRf (by
      have h1 := s_cat (st.map (s_vm σ fv))
      rw [List.length_map] at h1
      have h2 : (F0 m pc ls ((Value.int x :: .int dp :: .ref b :: .int sp :: .ref a :: st).map (s_vm σ fv))).monitorRoom = 0 := rfl
      have h3 := s_nfw
      omega)
  have hlb : σ b < T1.heap.size := (Array.getElem?_eq_some_iff.mp b1).1
  have hheap : ((T1.setVm vm').setCell (σ b) (copied cs cd sp dp x)).heap = T1.heap.setIfInBounds (σ b) (copied cs cd sp dp x) := rfl
  have hcp := Cell.storeRun_facts cd dp.toNatClampNeg (cs.stretch sp.toNatClampNeg x.toNatClampNeg)
  have hI' := hI.pop.pop.pop.pop.pop
  have hK := s_nx h k (hI'.putL (L1 := (cs.stretch sp.toNatClampNeg x.toNatClampNeg).zipIdx.map fun q => ⟨σ b, dp.toNatClampNeg + q.2⟩) (H' := T1.heap.setIfInBounds (σ b) (copied cs cd sp dp x)) (M' := uA M b (fun j => if jI dp ≤ j ∧ j < jI dp + jI x then p_mv M a (jI sp + (j - jI dp)) else M b j)) hb (by rw [tb]; decide) (fun z hz => if_neg hz) (fun _ _ => rfl) (by rw [Array.size_setIfInBounds]) (fun q hq => by rw [Array.getElem?_setIfInBounds_ne (Ne.symm hq)]) (s_c_arrY tb ⟨copied cs cd sp dp x, by rw [Array.getElem?_setIfInBounds_self_of_lt hlb], hcp.2.1.trans b30, by rw [show (copied cs cd sp dp x).cls = cd.cls from hcp.1]; exact b31, ⟨fun z hz => b20 z (hcp.2.1.symm.trans hz), kb, by rw [show (copied cs cd sp dp x).cls = cd.cls from hcp.1]; exact b21, cb, b22⟩, by rw [show (copied cs cd sp dp x).slots.size = cd.slots.size from hcp.2.2.1]; exact b40, fun j v hv => ?_, fun j hj => ?_⟩) (fun i r hr => s_refs hI' hb hr) hI'.bnd (fun q hq => by obtain ⟨z, -, hz⟩ := List.mem_map.mp hq; rw [← hz]))
  · obtain ⟨t, g1, g2⟩ := hK _ hheap X'
    exact ⟨t, step t g1, g2⟩
  · have hj : j < (p_ty T b).2 := by
      have h9 := (Array.getElem?_eq_some_iff.mp hv).1
      rw [show (copied cs cd sp dp x).slots.size = cd.slots.size from hcp.2.2.1, ← b40] at h9
      exact h9
    have h9 := (s_copied a4 b4 a6 b6 q3 q4 j hj).symm.trans hv
    have h9 := Option.some.inj h9
    rw [← h9]
    by_cases c : dp.toNatClampNeg ≤ j ∧ j < dp.toNatClampNeg + x.toNatClampNeg
    · rw [if_pos c]; exact a7 _ (by omega)
    · rw [if_neg c]; exact b7 _ _ (b6 j hj)
  · refine (s_copied a4 b4 a6 b6 q3 q4 j hj).trans (congrArg some ?_)
    have nb : ¬ (b < 100 ∧ b ≠ 29) := by omega
    have ee : p_mv (uA M b (fun j => if jI dp ≤ j ∧ j < jI dp + jI x then p_mv M a (jI sp + (j - jI dp)) else M b j)) b j = if jI dp ≤ (j : Int) ∧ (j : Int) < jI dp + jI x then p_mv M a (jI sp + ((j : Int) - jI dp)) else p_mv M b j := by
      unfold p_mv
      simp only [if_neg nb]
      unfold uA
      rw [if_pos rfl]
    dsimp only
    rw [ee]
    by_cases c : dp.toNatClampNeg ≤ j ∧ j < dp.toNatClampNeg + x.toNatClampNeg
    · rw [if_pos c, if_pos (by omega), show jI sp + ((j : Int) - jI dp) = ((sp.toNatClampNeg + (j - dp.toNatClampNeg) : Nat) : Int) by omega]
    · rw [if_neg c, if_neg (by omega)]
theorem s_cC {idx n0 q : Nat} {y' : pC} {r9 : Nat × Nat × Nat × Nat × Nat} (hX : s_X p l s m meth c D y) (hn : n = y.2.2.2.1) (hRf : 1 ≤ Rm.frames) (hRl : 40 ≤ Rm.locals) (hI : s_I D fv A s n σ T M F H locs L ls (.ref a :: st)) (hdg : decode y.2.2.1 pc = .ok (.invokevirtual idx, 3)) (hl : (p_m y.1).lookup idx = some (5, y', n0, q, r9))
    (h : p_if (100 ≤ a ∧ (p_ty T a).1 = 5 ∧ st.length ≤ 4) (p_nx (pc + 3) L (.ref T.1.1 :: st) (p_new T 5 (p_ty T a).2) (uA M T.1.1 (M a)) (uA F T.1.1 (fun _ => none))) none = some o) (k : ∀ g, o = .inl g → s_K p l e Rm s m args below meth c Q D fv A n σ T cells slots g) (hroom : ∀ g, o = .inl g → cells + (g.2.2.2.1.1.1 - T.1.1) ≤ Rm.cells ∧ slots + (g.2.2.2.1.1.2 - T.1.2) ≤ Rm.slots) :
    W p l e Rm s m args below meth c H locs cells slots Q (F0 m pc ls ((.ref a :: st).map (s_vm σ fv))) := by
  obtain ⟨⟨ha, ta, h4⟩, h⟩ := s_pifn h
  obtain ⟨nest, r9⟩ := r9
  have h100 : 100 ≤ T.1.1 := hI.1.1
  have hchk := s_all s_mOK hl
  unfold s_mchk at hchk
  simp only [Bool.and_eq_true] at hchk
  have hts := hX.hts (args := args)
  have hrm := hroom _ (Option.some.inj h).symm
  have hrm1 : cells + 1 ≤ Rm.cells := by have : cells + (T.1.1 + 1 - T.1.1) ≤ _ := hrm.1; omega
  have hrm2 : slots + (p_ty T a).2 ≤ Rm.slots := by have : slots + (T.1.2 + (p_ty T a).2 - T.1.2) ≤ _ := hrm.2; omega
  obtain ⟨cs, a1, a2, a3, a4, a5, a7, a6⟩ := (hI.1.2.2.1 a).arrY ta
  obtain ⟨a40, ka, hka, comp, hkind⟩ := a4
  have hnm : s.vm.findClass "[B" = some cs.cls := a3
  obtain ⟨c0, t0', f1, f2, f3⟩ := Cond.castable_spec (hts (.castable "[B" "java/lang/Cloneable") (s_inA_tbl (by decide +kernel)))
  cases hnm.symm.trans f1
  have hva : s_vm σ fv (.ref a) = .ref (σ a) := s_vm_ref (T := T) (by omega)
  intro T1 hT X
  subst hT
  obtain ⟨-, kA', hkA', comp', hkind'⟩ := State.isArrayOf_alike X.warmed.alike (show s.isArrayOf cs .byte from ⟨a40, ka, hka, comp, hkind⟩)
  obtain ⟨vm', X', step⟩ := X.cloneArray hX.1 hX.2.2.2.1 (hts _ (s_in_tbl hchk.1)) (hts (.sameMethod "[B" "java/lang/Object" "clone" "()Ljava/lang/Object;") (s_inA_tbl (by decide +kernel))) (hts (.native ⟨"java/lang/Object", "clone", "()Ljava/lang/Object;"⟩) (s_inA_tbl (by decide +kernel))) (hts (.instanceMethod ⟨"java/lang/Object", "clone", "()Ljava/lang/Object;"⟩) (s_inA_tbl (by decide +kernel))) (hts (.selects "[B" ⟨"[B", "clone", "()Ljava/lang/Object;"⟩ ⟨"java/lang/Object", "clone", "()Ljava/lang/Object;"⟩) (s_inA_tbl (by decide +kernel)))
    (a := σ a) (cell := cs) a1 (fun z hz => by rw [a2] at hz; cases hz) (by rw [a2]; exact fun hz => by cases hz) hnm f2 f3
    (fun i v hv => by
      have hk' : T1.vm.classes[cs.cls]? = some kA' := hkA'
      simpa [State.fitsSlot, State.slotType?, hk', hkind'] using a7 i v hv)
    (g := F0 m pc ls ((.ref a :: st).map (s_vm σ fv))) rfl (by rw [hX.2.2.1, ← hn]; exact s_lsz hI.2.2.2.2.2.2.1) (rest := st.map (s_vm σ fv)) (by rw [← hva]; rfl) (by rw [hX.2.1]; exact hdg) hRf (by
      have h1 := s_cat (st.map (s_vm σ fv))
      rw [List.length_map] at h1
      have h2 : (F0 m pc ls ((Value.ref a :: st).map (s_vm σ fv))).monitorRoom = 0 := rfl
      omega) hrm1 (by rw [← a5]; exact hrm2) (hloader := Vm.clonesLoader_of_array hka hkind)
  rw [← a5] at X'
  have hK := s_al (mf := M a) (tag := 5) (N := (p_ty T a).2) (H' := T1.heap.push { cls := cs.cls, slots := cs.slots }) hI.pop hI.pop.bnd (by decide) h k (Array.size_push ..) (fun q hq => by rw [Array.getElem?_push, if_neg (Nat.ne_of_lt hq)]) (s_c_arrY rfl ⟨_, Array.getElem?_push_size, rfl, a3, ⟨fun z hz => (by cases hz), ka, hka, comp, hkind⟩, a5, a7, fun j hj => by
    rw [a6 j hj]
    have na : ¬ (a < 100 ∧ a ≠ 29) := by omega
    have nb : ¬ (T.1.1 < 100 ∧ T.1.1 ≠ 29) := by omega
    unfold p_mv uA
    simp only [if_neg na, if_neg nb, if_true]⟩)
  obtain ⟨t, g1, g2⟩ := hK _ rfl X'
  exact ⟨t, step t g1, g2⟩
end PSE
