section PS5
variable {p : Program} {l : Launch} {e : Env} {Rm : Room} {s : State} {m : MethodId} {args : Array Value} {below : List Frame} {meth : Method} {c : Code} {Q : State → Prop} {D : va_G} {fv : Value} {A : Nat → Prop} {n : Nat} {σ : Nat → Nat} {T : pT} {M M' : pM} {F F' : pF} {H H' : Heap} {locs : List Loc} {L : List Slot} {ls : Array Slot} {cells slots : Nat} {st st' : List Value} {pc : Nat} {o : pG ⊕ pR} {cc : ByteArray} {a : Nat}
theorem s_pif {cnd : Prop} {x y : Option (pG ⊕ pR)} (h : p_if cnd x y = some o) : (cnd ∧ x = some o) ∨ (¬ cnd ∧ y = some o) := by
  unfold p_if at h
  by_cases hc : cnd
  · rw [if_pos hc] at h; exact Or.inl ⟨hc, h⟩
  · rw [if_neg hc] at h; exact Or.inr ⟨hc, h⟩
theorem s_pifn {cnd : Prop} {x : Option (pG ⊕ pR)} (h : p_if cnd x none = some o) : cnd ∧ x = some o := by
  rcases s_pif h with h | ⟨-, h⟩
  · exact h
  · cases h
theorem s_vm_ref (h : (p_ty T a).1 ≠ 0) : s_vm σ fv (.ref a) = .ref (σ a) := by
  refine if_neg (fun e => h ?_)
  subst e
  rfl
theorem s_iald (hx : p.tables.exec = Jvm.exec) (hb : c.code = cc) {i : Int32} (hI : s_I D fv A s n σ T M F H locs L ls (.int i :: .ref a :: st)) (hdg : decode cc pc = .ok (.iaload, 1))
    (h : p_if ((p_ty T a).1 ∈ [1, 90, 92] ∧ p_in i (p_ty T a).2) (p_nx (pc + 1) L (.int (iI (p_mv M a (jI i))) :: st) T M F) none = some o) (k : ∀ g, o = .inl g → s_K p l e Rm s m args below meth c Q D fv A n σ T cells slots g) :
    W p l e Rm s m args below meth c H locs cells slots Q (F0 m pc ls ((.int i :: .ref a :: st).map (s_vm σ fv))) := by
  obtain ⟨⟨ht, hin⟩, h⟩ := s_pifn h
  have h0 : (p_ty T a).1 ≠ 0 := by intro z; rw [z] at ht; simp at ht
  obtain ⟨cell, h1, h2, h3, h4, h5, h6⟩ := (hI.1.2.2.1 a).arrI ht
  obtain ⟨g1, g2, g3⟩ := s_idx hin h4
  have e1 := h6 _ g2
  dsimp only at e1
  rw [g3] at e1
  show W p l e Rm s m args below meth c H locs cells slots Q (F0 m pc ls (.int i :: s_vm σ fv (.ref a) :: st.map (s_vm σ fv)))
  rw [s_vm_ref h0]
  exact W.iald hx hb h1 h2 h3 g1 e1 rfl rfl hdg (s_nx h k (hI.pop.pop.push .int))
theorem s_bald (hx : p.tables.exec = Jvm.exec) (hb : c.code = cc) {i : Int32} (hI : s_I D fv A s n σ T M F H locs L ls (.int i :: .ref a :: st)) (hdg : decode cc pc = .ok (.baload, 1))
    (h : p_if ((p_ty T a).1 ∈ [5, 93] ∧ p_in i (p_ty T a).2) (p_nx (pc + 1) L (.int (iI (p_mv M a (jI i))) :: st) T M F) none = some o) (k : ∀ g, o = .inl g → s_K p l e Rm s m args below meth c Q D fv A n σ T cells slots g) :
    W p l e Rm s m args below meth c H locs cells slots Q (F0 m pc ls ((.int i :: .ref a :: st).map (s_vm σ fv))) := by
  obtain ⟨⟨ht, hin⟩, h⟩ := s_pifn h
  have h0 : (p_ty T a).1 ≠ 0 := by intro z; rw [z] at ht; simp at ht
  have ht : (p_ty T a).1 = 5 ∨ (p_ty T a).1 = 93 := by simpa using ht
  show W p l e Rm s m args below meth c H locs cells slots Q (F0 m pc ls (.int i :: s_vm σ fv (.ref a) :: st.map (s_vm σ fv)))
  rw [s_vm_ref h0]
  rcases ht with ht | ht
  · obtain ⟨cell, h1, h2, h3, h4, h5, h6⟩ := ((hI.1.2.2.1 a).arrY ht).A
    obtain ⟨g1, g2, g3⟩ := s_idx hin h4
    have e1 := h6 _ g2
    dsimp only at e1
    rw [g3] at e1
    exact W.bald hx hb h1 h2 h3 g1 e1 rfl rfl hdg (s_nx h k (hI.pop.pop.push .int))
  · obtain ⟨cell, h1, h2, h3, h4, h5, h6⟩ := (hI.1.2.2.1 a).arrB ht
    obtain ⟨g1, g2, g3⟩ := s_idx hin h4
    have e1 := h6 _ g2
    dsimp only at e1
    rw [g3] at e1
    exact W.bald hx hb h1 h2 h3 g1 e1 rfl rfl hdg (s_nx h k (hI.pop.pop.push .int))
theorem s_lald (hx : p.tables.exec = Jvm.exec) (hb : c.code = cc) {i : Int32} (hI : s_I D fv A s n σ T M F H locs L ls (.int i :: .ref a :: st)) (hdg : decode cc pc = .ok (.laload, 1))
    (h : p_if ((p_ty T a).1 = 3 ∧ p_in i (p_ty T a).2) (p_nx (pc + 1) L (.long (iL (p_mv M a (jI i))) :: st) T M F) none = some o) (k : ∀ g, o = .inl g → s_K p l e Rm s m args below meth c Q D fv A n σ T cells slots g) :
    W p l e Rm s m args below meth c H locs cells slots Q (F0 m pc ls ((.int i :: .ref a :: st).map (s_vm σ fv))) := by
  obtain ⟨⟨ht, hin⟩, h⟩ := s_pifn h
  have h0 : (p_ty T a).1 ≠ 0 := by omega
  obtain ⟨cell, h1, h2, h3, h4, h5, h6⟩ := (hI.1.2.2.1 a).arrL ht
  obtain ⟨g1, g2, g3⟩ := s_idx hin h4
  have e1 := h6 _ g2
  dsimp only at e1
  rw [g3] at e1
  show W p l e Rm s m args below meth c H locs cells slots Q (F0 m pc ls (.int i :: s_vm σ fv (.ref a) :: st.map (s_vm σ fv)))
  rw [s_vm_ref h0]
  exact W.lald hx hb h1 h2 h3 g1 e1 rfl rfl hdg (s_nx h k (hI.pop.pop.push .long))
theorem s_rv_lt (hI : s_I D fv A s n σ T M F H locs L ls st) {i : Int} : s_lt T.1.1 (p_rv (p_fv F a i)) := by
  intro r hr
  cases hf : p_fv F a i with
  | none => rw [hf] at hr; cases hr
  | some x =>
    rw [hf] at hr
    cases hr
    exact hI.1.2.2.2.2.2.2 a i _ hf
theorem s_aald (hx : p.tables.exec = Jvm.exec) (hb : c.code = cc) {i : Int32} (hI : s_I D fv A s n σ T M F H locs L ls (.int i :: .ref a :: st)) (hdg : decode cc pc = .ok (.aaload, 1))
    (h : p_if ((p_ty T a).1 ∈ [4, 6, 91] ∧ p_in i (p_ty T a).2) (p_nx (pc + 1) L (p_rv (p_fv F a (jI i)) :: st) T M F) none = some o) (k : ∀ g, o = .inl g → s_K p l e Rm s m args below meth c Q D fv A n σ T cells slots g) :
    W p l e Rm s m args below meth c H locs cells slots Q (F0 m pc ls ((.int i :: .ref a :: st).map (s_vm σ fv))) := by
  obtain ⟨⟨ht, hin⟩, h⟩ := s_pifn h
  have h0 : (p_ty T a).1 ≠ 0 := by intro z; rw [z] at ht; simp at ht
  have ht : (p_ty T a).1 = 4 ∨ (p_ty T a).1 = 6 ∨ (p_ty T a).1 = 91 := by simpa using ht
  show W p l e Rm s m args below meth c H locs cells slots Q (F0 m pc ls (.int i :: s_vm σ fv (.ref a) :: st.map (s_vm σ fv)))
  rw [s_vm_ref h0]
  have hk := s_nx h k (hI.pop.pop.push (s_rv_lt hI))
  rcases ht with ht | ht | ht
  · obtain ⟨cell, h1, h2, h3, h4, h6⟩ := (hI.1.2.2.1 a).arrQ ht
    obtain ⟨g1, g2, g3⟩ := s_idx hin (Nat.le_of_eq h4)
    have e1 := h6 _ g2
    dsimp only at e1
    rw [g3] at e1
    obtain ⟨kA, comp, r1, r2, r3, r4⟩ := h3
    exact W.aald hx hb h1 (ty := .object s_KC) ⟨fun q z => (by rw [h2] at z; cases z), kA, r1, comp, r2⟩ rfl (by rw [h2]; exact fun z => by cases z) g1 e1 rfl rfl hdg hk
  · obtain ⟨cell, h1, h2, h3, h4, h6⟩ := (hI.1.2.2.1 a).arrN ht
    obtain ⟨g1, g2, g3⟩ := s_idx hin (Nat.le_of_eq h4)
    have e1 := h6 _ g2
    dsimp only at e1
    rw [g3] at e1
    obtain ⟨kA, comp, r1, r2, r3, r4⟩ := h3
    exact W.aald hx hb h1 (ty := .object s_SC) ⟨fun q z => (by rw [h2] at z; cases z), kA, r1, comp, r2⟩ rfl (by rw [h2]; exact fun z => by cases z) g1 e1 rfl rfl hdg hk
  · obtain ⟨cell, h1, h2, h3, h4, h5, h6⟩ := (hI.1.2.2.1 a).arrK ht
    obtain ⟨g1, g2, g3⟩ := s_idx hin h4
    have e1 := h6 _ g2
    dsimp only at e1
    rw [g3] at e1
    exact W.aald hx hb h1 h2 rfl h3 g1 e1 rfl rfl hdg hk
theorem s_i32n (N : Nat) : Int32.ofNat N = iI ((N : Nat) : Int) := rfl
theorem s_alen (hx : p.tables.exec = Jvm.exec) (hb : c.code = cc) (hI : s_I D fv A s n σ T M F H locs L ls (.ref a :: st)) (hdg : decode cc pc = .ok (.arraylength, 1))
    (h : p_if ((p_ty T a).1 ∈ [1, 3, 4, 5, 6, 90, 91, 92, 93]) (p_nx (pc + 1) L (.int (iI (p_ty T a).2) :: st) T M F) none = some o) (k : ∀ g, o = .inl g → s_K p l e Rm s m args below meth c Q D fv A n σ T cells slots g) :
    W p l e Rm s m args below meth c H locs cells slots Q (F0 m pc ls ((.ref a :: st).map (s_vm σ fv))) := by
  obtain ⟨ht, h⟩ := s_pifn h
  have h0 : (p_ty T a).1 ≠ 0 := by intro z; rw [z] at ht; simp at ht
  have hk := s_nx h k (hI.pop.push .int)
  have hc := hI.1.2.2.1 a
  show W p l e Rm s m args below meth c H locs cells slots Q (F0 m pc ls (s_vm σ fv (.ref a) :: st.map (s_vm σ fv)))
  rw [s_vm_ref h0]
  have fin : ∀ {ty : FieldType} {f : Nat → Value}, s_A ty (p_ty T a).2 f (σ a) s H → W p l e Rm s m args below meth c H locs cells slots Q (F0 m pc ls (.ref (σ a) :: st.map (s_vm σ fv))) := by
    rintro ty f ⟨cell, h1, h2, h3, h4, h5, h6⟩
    exact W.alen hx hb h1 h2 (h5.trans (s_i32n _)) rfl rfl hdg hk
  have ht : (p_ty T a).1 = 1 ∨ (p_ty T a).1 = 3 ∨ (p_ty T a).1 = 4 ∨ (p_ty T a).1 = 5 ∨ (p_ty T a).1 = 6 ∨ (p_ty T a).1 = 90 ∨ (p_ty T a).1 = 91 ∨ (p_ty T a).1 = 92 ∨ (p_ty T a).1 = 93 := by simpa using ht
  rcases ht with ht | ht | ht | ht | ht | ht | ht | ht | ht
  · exact fin (hc.arrI (by rw [ht]; simp))
  · exact fin (hc.arrL ht)
  · obtain ⟨cell, h1, h2, h3, h4, h6⟩ := hc.arrQ ht
    obtain ⟨kA, comp, r1, r2, r3, r4⟩ := h3
    exact W.alen hx hb h1 (ty := .object s_KC) ⟨fun q z => (by rw [h2] at z; cases z), kA, r1, comp, r2⟩ (n := iI (p_ty T a).2) (by rw [← h4]; exact s_i32n _) rfl rfl hdg hk
  · exact fin (hc.arrY ht).A
  · obtain ⟨cell, h1, h2, h3, h4, h6⟩ := hc.arrN ht
    obtain ⟨kA, comp, r1, r2, r3, r4⟩ := h3
    exact W.alen hx hb h1 (ty := .object s_SC) ⟨fun q z => (by rw [h2] at z; cases z), kA, r1, comp, r2⟩ (n := iI (p_ty T a).2) (by rw [← h4]; exact s_i32n _) rfl rfl hdg hk
  · exact fin (hc.arrI (by rw [ht]; simp))
  · exact fin (hc.arrK ht)
  · exact fin (hc.arrI (by rw [ht]; simp))
  · exact fin (hc.arrB ht)
theorem s_c_arrI {D : va_G} {vm : Value → Value} {M : pM} {F : pF} {t : Nat × Nat} {id b : Nat} {U : State} {H : Heap} (ht : t.1 = 1) (h : s_A .int t.2 (fun j => .int (iI (p_mv M id j))) b U H) : s_c D vm M F t id b U H := by
  unfold s_c
  rwa [if_neg (by omega), if_pos (by omega)]
theorem s_c_arrZ {D : va_G} {vm : Value → Value} {M : pM} {F : pF} {t : Nat × Nat} {id b : Nat} {U : State} {H : Heap} (ht : t.1 = 2) (h : s_A .boolean t.2 (fun j => .int (iI (p_mv M id j))) b U H) : s_c D vm M F t id b U H := by
  unfold s_c
  rwa [if_neg (by omega), if_neg (by omega), if_pos ht]
theorem s_c_arrL {D : va_G} {vm : Value → Value} {M : pM} {F : pF} {t : Nat × Nat} {id b : Nat} {U : State} {H : Heap} (ht : t.1 = 3) (h : s_A .long t.2 (fun j => .long (iL (p_mv M id j))) b U H) : s_c D vm M F t id b U H := by
  unfold s_c
  rwa [if_neg (by omega), if_neg (by omega), if_neg (by omega), if_neg (by omega), if_pos ht]
theorem s_c_arrQ {D : va_G} {vm : Value → Value} {M : pM} {F : pF} {t : Nat × Nat} {id b : Nat} {U : State} {H : Heap} (ht : t.1 = 4) (h : s_Q s_KC t.2 (fun j => vm (p_rv (p_fv F id j))) b U H) : s_c D vm M F t id b U H := by
  unfold s_c
  rwa [if_neg (by omega), if_neg (by omega), if_neg (by omega), if_neg (by omega), if_neg (by omega), if_pos ht]
theorem s_c_arrY {D : va_G} {vm : Value → Value} {M : pM} {F : pF} {t : Nat × Nat} {id b : Nat} {U : State} {H : Heap} (ht : t.1 = 5) (h : s_B t.2 (fun j => .int (iI (p_mv M id j))) b U H) : s_c D vm M F t id b U H := by
  unfold s_c
  rwa [if_neg (by omega), if_neg (by omega), if_neg (by omega), if_neg (by omega), if_neg (by omega), if_neg (by omega), if_pos ht]
theorem s_c_arrN {D : va_G} {vm : Value → Value} {M : pM} {F : pF} {t : Nat × Nat} {id b : Nat} {U : State} {H : Heap} (ht : t.1 = 6) (h : s_Q s_SC t.2 (fun j => vm (p_rv (p_fv F id j))) b U H) : s_c D vm M F t id b U H := by
  unfold s_c
  rwa [if_neg (by omega), if_neg (by omega), if_neg (by omega), if_neg (by omega), if_neg (by omega), if_neg (by omega), if_neg (by omega), if_pos ht]
theorem s_iast (hx : p.tables.exec = Jvm.exec) (hb : c.code = cc) {i x : Int32} (hI : s_I D fv A s n σ T M F H locs L ls (.int x :: .int i :: .ref a :: st)) (hdg : decode cc pc = .ok (.iastore, 1))
    (h : p_if (100 ≤ a ∧ (p_ty T a).1 = 1 ∧ p_in i (p_ty T a).2) (p_nx (pc + 1) L st T (uA M a (u1 (M a) (jI i) (jI x))) F) none = some o) (k : ∀ g, o = .inl g → s_K p l e Rm s m args below meth c Q D fv A n σ T cells slots g) :
    W p l e Rm s m args below meth c H locs cells slots Q (F0 m pc ls ((.int x :: .int i :: .ref a :: st).map (s_vm σ fv))) := by
  obtain ⟨⟨ha, ht, hin⟩, h⟩ := s_pifn h
  have h0 : (p_ty T a).1 ≠ 0 := by omega
  obtain ⟨cell, h1, h2, h3, h4, h5, h6⟩ := (hI.1.2.2.1 a).arrI (by rw [ht]; simp)
  obtain ⟨g1, g2, g3⟩ := s_idx hin h4
  show W p l e Rm s m args below meth c H locs cells slots Q (F0 m pc ls (.int x :: .int i :: s_vm σ fv (.ref a) :: st.map (s_vm σ fv)))
  rw [s_vm_ref h0]
  refine W.iast hx hb h1 h2 h3 g1 rfl rfl hdg (fun H' e1 z oq => s_nx h k (hI.put ha h0 (fun b hb => s_u1 M hb) (fun _ _ => rfl) z oq (s_c_arrI ht (s_put_arr h2 h3 h4 h5 h6 (by omega) e1 (fun j hj => ?_))) (fun i r hr => s_refs hI ha hr) hI.pop.pop.pop.bnd))
  rw [s_mv_u ha, ← g3]
  by_cases ej : j = i.toNatClampNeg
  · subst ej
    rw [if_pos rfl, if_pos rfl, iI_jI']
  · rw [if_neg ej, if_neg (by omega)]
theorem s_last (hx : p.tables.exec = Jvm.exec) (hb : c.code = cc) {i : Int32} {x : Int64} (hI : s_I D fv A s n σ T M F H locs L ls (.long x :: .int i :: .ref a :: st)) (hdg : decode cc pc = .ok (.lastore, 1))
    (h : p_if (100 ≤ a ∧ (p_ty T a).1 = 3 ∧ p_in i (p_ty T a).2) (p_nx (pc + 1) L st T (uA M a (u1 (M a) (jI i) (jL x))) F) none = some o) (k : ∀ g, o = .inl g → s_K p l e Rm s m args below meth c Q D fv A n σ T cells slots g) :
    W p l e Rm s m args below meth c H locs cells slots Q (F0 m pc ls ((.long x :: .int i :: .ref a :: st).map (s_vm σ fv))) := by
  obtain ⟨⟨ha, ht, hin⟩, h⟩ := s_pifn h
  have h0 : (p_ty T a).1 ≠ 0 := by omega
  obtain ⟨cell, h1, h2, h3, h4, h5, h6⟩ := (hI.1.2.2.1 a).arrL ht
  obtain ⟨g1, g2, g3⟩ := s_idx hin h4
  show W p l e Rm s m args below meth c H locs cells slots Q (F0 m pc ls (.long x :: .int i :: s_vm σ fv (.ref a) :: st.map (s_vm σ fv)))
  rw [s_vm_ref h0]
  refine W.last hx hb h1 h2 h3 g1 rfl rfl hdg (fun H' e1 z oq => s_nx h k (hI.put ha h0 (fun b hb => s_u1 M hb) (fun _ _ => rfl) z oq (s_c_arrL ht (s_put_arr h2 h3 h4 h5 h6 (by omega) e1 (fun j hj => ?_))) (fun i r hr => s_refs hI ha hr) hI.pop.pop.pop.bnd))
  rw [s_mv_u ha, ← g3]
  by_cases ej : j = i.toNatClampNeg
  · subst ej
    rw [if_pos rfl, if_pos rfl, iL_jL']
  · rw [if_neg ej, if_neg (by omega)]
theorem s_nb {x : Int32} (h0 : -128 ≤ jI x) (h1 : jI x < 128) : narrow .byte (.int x) = .int x := by
  have e : x.toInt8.toInt32 = x := by
    apply Int32.toInt_inj.mp
    unfold jI at h0 h1
    rw [Int8.toInt_toInt32, Int32.toInt_toInt8, Int.bmod_def]
    omega
  exact congrArg Value.int e
theorem s_fb {x : Int32} (h0 : -128 ≤ jI x) (h1 : jI x < 128) : fits .byte (.int x) = true := by
  unfold jI at h0 h1
  unfold fits
  have a : (-128 : Int32) ≤ x := by rw [Int32.le_iff_toInt_le]; have : (-128 : Int32).toInt = -128 := rfl; omega
  have b : x ≤ (127 : Int32) := by rw [Int32.le_iff_toInt_le]; have : (127 : Int32).toInt = 127 := rfl; omega
  rw [Bool.and_eq_true]
  exact ⟨decide_eq_true a, decide_eq_true b⟩
theorem s_bast (hx : p.tables.exec = Jvm.exec) (hb : c.code = cc) {i x : Int32} (hI : s_I D fv A s n σ T M F H locs L ls (.int x :: .int i :: .ref a :: st)) (hdg : decode cc pc = .ok (.bastore, 1))
    (h : p_if (100 ≤ a ∧ (p_ty T a).1 = 5 ∧ p_in i (p_ty T a).2 ∧ -128 ≤ jI x ∧ jI x < 128) (p_nx (pc + 1) L st T (uA M a (u1 (M a) (jI i) (jI x))) F) none = some o) (k : ∀ g, o = .inl g → s_K p l e Rm s m args below meth c Q D fv A n σ T cells slots g) :
    W p l e Rm s m args below meth c H locs cells slots Q (F0 m pc ls ((.int x :: .int i :: .ref a :: st).map (s_vm σ fv))) := by
  obtain ⟨⟨ha, ht, hin, hz0, hz1⟩, h⟩ := s_pifn h
  have h0 : (p_ty T a).1 ≠ 0 := by omega
  obtain ⟨cell, h1, h2, h3, h4, h5, h7, h6⟩ := (hI.1.2.2.1 a).arrY ht
  obtain ⟨g1, g2, g3⟩ := s_idx hin (Nat.le_of_eq h5)
  show W p l e Rm s m args below meth c H locs cells slots Q (F0 m pc ls (.int x :: .int i :: s_vm σ fv (.ref a) :: st.map (s_vm σ fv)))
  rw [s_vm_ref h0]
  refine W.bast hx hb h1 h4 (by rw [h2]; exact fun z => by cases z) g1 rfl rfl hdg (fun H' e1 z oq => s_nx h k (hI.put ha h0 (fun b hb => s_u1 M hb) (fun _ _ => rfl) z oq (s_c_arrY ht ⟨_, e1, h2, h3, h4, ?_, fun j v hv => ?_, fun j hj => ?_⟩) (fun i r hr => s_refs hI ha hr) hI.pop.pop.pop.bnd))
  · show _ = (cell.slots.setIfInBounds _ _).size
    rw [Array.size_setIfInBounds]; exact h5
  · have hv : (cell.slots.setIfInBounds i.toNatClampNeg (narrow .byte (.int x)))[j]? = some v := hv
    rw [s_nb hz0 hz1] at hv
    by_cases ej : i.toNatClampNeg = j
    · subst ej
      rw [Array.getElem?_setIfInBounds_self_of_lt (by omega)] at hv
      cases hv
      exact s_fb hz0 hz1
    · rw [Array.getElem?_setIfInBounds_ne ej] at hv
      exact h7 j v hv
  · rw [s_slot h6 (by omega) j hj]
    dsimp only
    rw [s_mv_u ha, ← g3, s_nb hz0 hz1]
    by_cases ej : j = i.toNatClampNeg
    · subst ej
      rw [if_pos rfl, if_pos rfl, iI_jI']
    · rw [if_neg ej, if_neg (by omega)]
theorem s_aast (hx : p.tables.exec = Jvm.exec) (hb : c.code = cc) {i : Int32} {r : Nat} (hI : s_I D fv A s n σ T M F H locs L ls (.ref r :: .int i :: .ref a :: st)) (hdg : decode cc pc = .ok (.aastore, 1))
    (h : p_if (100 ≤ a ∧ (p_ty T a).1 = 4 ∧ p_in i (p_ty T a).2 ∧ (p_ty T r).1 = 12) (p_nx (pc + 1) L st T M (uA F a (u1 (F a) (jI i) (some r)))) none = some o) (k : ∀ g, o = .inl g → s_K p l e Rm s m args below meth c Q D fv A n σ T cells slots g) :
    W p l e Rm s m args below meth c H locs cells slots Q (F0 m pc ls ((.ref r :: .int i :: .ref a :: st).map (s_vm σ fv))) := by
  obtain ⟨⟨ha, ht, hin, hr12⟩, h⟩ := s_pifn h
  have h0 : (p_ty T a).1 ≠ 0 := by omega
  have hr0 : (p_ty T r).1 ≠ 0 := by omega
  obtain ⟨cell, h1, h2, h3, h4, h6⟩ := (hI.1.2.2.1 a).arrQ ht
  obtain ⟨⟨cv, v1, v2, v3⟩, -⟩ := (hI.1.2.2.1 r).kind hr12
  obtain ⟨g1, g2, g3⟩ := s_idx hin (Nat.le_of_eq h4)
  have hra := h3
  obtain ⟨kA, comp, r1, r2, r3, r4⟩ := h3
  obtain ⟨kE, hkE, -⟩ := Vm.findClass_spec r3
  obtain ⟨kV, hkV, -⟩ := Vm.findClass_spec v3
  have hcc : cv.cls = comp := Option.some.inj (v3.symm.trans r3)
  show W p l e Rm s m args below meth c H locs cells slots Q (F0 m pc ls (s_vm σ fv (.ref r) :: .int i :: s_vm σ fv (.ref a) :: st.map (s_vm σ fv)))
  rw [s_vm_ref h0, s_vm_ref hr0]
  refine W.aast hx hb h1 (fun q z => by rw [h2] at z; cases z) (by rw [h2]; exact fun z => by cases z) r1 r2 rfl hkE ⟨fun q => g1 (Or.inl q), by omega⟩ v1 (fun q z => by rw [z] at v2; cases v2) hkV (by rw [hcc]; exact va_asg _ _) rfl rfl hdg
    (fun H' e1 z oq => s_nx h k (hI.put ha h0 (fun _ _ => rfl) (fun b hb => s_u1 F hb) z oq (s_c_arrQ ht ⟨_, e1, h2, hra, ?_, fun j hj => ?_⟩) (fun i' r' hr' => ?_) hI.pop.pop.pop.bnd))
  · show _ = (cell.slots.setIfInBounds _ _).size
    rw [Array.size_setIfInBounds]; exact h4
  · rw [s_slot h6 (by omega) j hj]
    dsimp only
    rw [s_fv_u ha, ← g3]
    by_cases ej : j = i.toNatClampNeg
    · subst ej
      rw [if_pos rfl, if_pos rfl]
      exact congrArg some (s_vm_ref hr0).symm
    · rw [if_neg ej, if_neg (by omega)]
  · rw [show uA F a (u1 (F a) (jI i) (some r)) a i' = u1 (F a) (jI i) (some r) i' from congrFun (if_pos rfl) _] at hr'
    unfold u1 at hr'
    by_cases ei : i' = jI i
    · rw [if_pos ei] at hr'
      cases hr'
      exact hI.top _ rfl
    · rw [if_neg ei] at hr'
      exact s_refs hI ha hr'
/-- a text's class, a text of the run's own or one that was there -/
theorem s_strO {D : va_G} {vm : Value → Value} {M : pM} {F : pF} {t : Nat × Nat} {id a : Nat} {U : State} {H : Heap} (hV : ∀ (k : Nat) (q : vw_C), vwCl[k]? = some q → u_Kn U q.1 q.2.1 q.2.2 (D.1 k) (D.2 k)) (h : s_c D vm M F t id a U H) (ht : t.1 = 21) : s_O s_SC a U H := by
  by_cases hid : id < 100
  · exact (h.str ht hid).1
  · obtain ⟨cell, h1, h3, h4, -⟩ := (s_c_obj (k := 11) (q := (RJ0, TJ0, 4)) ht (by decide) (fun _ => by omega) rfl).mp h
    have hKn := hV _ _ (vcl_ix (k := 11) (q := (RJ0, TJ0, 4)) rfl)
    exact ⟨cell, h1, by rw [h4]; rfl, by rw [h3]; exact hKn.2.1⟩
theorem s_aastN (hV : ∀ (k : Nat) (q : vw_C), vwCl[k]? = some q → u_Kn s q.1 q.2.1 q.2.2 (D.1 k) (D.2 k)) (hx : p.tables.exec = Jvm.exec) (hb : c.code = cc) {i : Int32} {r : Nat} (hI : s_I D fv A s n σ T M F H locs L ls (.ref r :: .int i :: .ref a :: st)) (hdg : decode cc pc = .ok (.aastore, 1))
    (h : p_if (100 ≤ a ∧ (p_ty T a).1 = 6 ∧ p_in i (p_ty T a).2 ∧ (p_ty T r).1 = 21) (p_nx (pc + 1) L st T M (uA F a (u1 (F a) (jI i) (some r)))) none = some o) (k : ∀ g, o = .inl g → s_K p l e Rm s m args below meth c Q D fv A n σ T cells slots g) :
    W p l e Rm s m args below meth c H locs cells slots Q (F0 m pc ls ((.ref r :: .int i :: .ref a :: st).map (s_vm σ fv))) := by
  obtain ⟨⟨ha, ht, hin, hr12⟩, h⟩ := s_pifn h
  have h0 : (p_ty T a).1 ≠ 0 := by omega
  have hr0 : (p_ty T r).1 ≠ 0 := by omega
  obtain ⟨cell, h1, h2, h3, h4, h6⟩ := (hI.1.2.2.1 a).arrN ht
  obtain ⟨cv, v1, v2, v3⟩ := s_strO hV (hI.1.2.2.1 r) hr12
  obtain ⟨g1, g2, g3⟩ := s_idx hin (Nat.le_of_eq h4)
  have hra := h3
  obtain ⟨kA, comp, r1, r2, r3, r4⟩ := h3
  obtain ⟨kE, hkE, -⟩ := Vm.findClass_spec r3
  obtain ⟨kV, hkV, -⟩ := Vm.findClass_spec v3
  have hcc : cv.cls = comp := Option.some.inj (v3.symm.trans r3)
  show W p l e Rm s m args below meth c H locs cells slots Q (F0 m pc ls (s_vm σ fv (.ref r) :: .int i :: s_vm σ fv (.ref a) :: st.map (s_vm σ fv)))
  rw [s_vm_ref h0, s_vm_ref hr0]
  refine W.aast hx hb h1 (fun q z => by rw [h2] at z; cases z) (by rw [h2]; exact fun z => by cases z) r1 r2 rfl hkE ⟨fun q => g1 (Or.inl q), by omega⟩ v1 (fun q z => by rw [z] at v2; cases v2) hkV (by rw [hcc]; exact va_asg _ _) rfl rfl hdg
    (fun H' e1 z oq => s_nx h k (hI.put ha h0 (fun _ _ => rfl) (fun b hb => s_u1 F hb) z oq (s_c_arrN ht ⟨_, e1, h2, hra, ?_, fun j hj => ?_⟩) (fun i' r' hr' => ?_) hI.pop.pop.pop.bnd))
  · show _ = (cell.slots.setIfInBounds _ _).size
    rw [Array.size_setIfInBounds]; exact h4
  · rw [s_slot h6 (by omega) j hj]
    dsimp only
    rw [s_fv_u ha, ← g3]
    by_cases ej : j = i.toNatClampNeg
    · subst ej
      rw [if_pos rfl, if_pos rfl]
      exact congrArg some (s_vm_ref hr0).symm
    · rw [if_neg ej, if_neg (by omega)]
  · rw [show uA F a (u1 (F a) (jI i) (some r)) a i' = u1 (F a) (jI i) (some r) i' from congrFun (if_pos rfl) _] at hr'
    unfold u1 at hr'
    by_cases ei : i' = jI i
    · rw [if_pos ei] at hr'
      cases hr'
      exact hI.top _ rfl
    · rw [if_neg ei] at hr'
      exact s_refs hI ha hr'
end PS5
