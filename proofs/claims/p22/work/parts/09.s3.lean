section PS3
theorem s_vm_cat {σ : Nat → Nat} {fv : Value} (hf : fv = .null ∨ ∃ x, fv = .ref x) (v : Value) : (s_vm σ fv v).category = v.category := by
  cases v <;> try rfl
  rename_i a
  show (if a = 28 then fv else .ref (σ a)).category = 1
  by_cases h : a = 28
  · rw [if_pos h]
    rcases hf with h | ⟨x, h⟩ <;> rw [h] <;> rfl
  · rw [if_neg h]; rfl
/-- what is known of the locals -/
def s_L (vm : Value → Value) (L : List Slot) (ls : Array Slot) (n : Nat) : Prop := L.length = n ∧ ∃ lv, lv_has ls n lv ∧ ∀ (i : Nat) (v : Value), L[i]? = some (.val v) → (v.category = 2 → L[i + 1]? = some .second) → (i, vm v) ∈ lv
theorem s_L.get {vm : Value → Value} {L : List Slot} {ls : Array Slot} {n i : Nat} {v : Value} (h : s_L vm L ls n) (hi : L[i]? = some (.val v)) (h2 : v.category = 2 → L[i + 1]? = some .second) : ls[i]? = some (.val (vm v)) := by
  obtain ⟨-, lv, h1, h3⟩ := h
  exact h1.2.2 _ (h3 i v hi h2)
theorem s_L.set1 {vm : Value → Value} (hvm : ∀ v, (vm v).category = v.category) {L : List Slot} {ls : Array Slot} {n i : Nat} {v : Value} (hc : v.category = 1) (h : s_L vm L ls n) (hi : i < L.length) {Goal : Prop}
    (row : ∀ {lv lv' : List (Nat × Value)}, lv_has ls n lv → i < n → (i, vm v) :: lv.filter (fun q => !(q.1 == i) && !(q.1 + 1 == i && q.2.category == 2)) = lv' → (∀ ls' : Array Slot, lv_has ls' n lv' → s_L vm (L.set i (.val v)) ls' n) → Goal) : Goal := by
  obtain ⟨hl, lv, h1, h3⟩ := h
  refine row h1 (by omega) rfl (fun ls' h' => ⟨by rw [List.length_set]; exact hl, _, h', fun j w hj hw => ?_⟩)
  by_cases e : j = i
  · subst e
    rw [List.getElem?_set_self hi] at hj
    cases hj
    exact List.mem_cons_self
  · rw [List.getElem?_set_ne (Ne.symm e)] at hj
    refine List.mem_cons_of_mem _ (List.mem_filter.mpr ⟨h3 j w hj (fun hc2 => ?_), ?_⟩)
    · have h4 := hw hc2
      by_cases e2 : j + 1 = i
      · rw [e2, List.getElem?_set_self hi] at h4; cases h4
      · rwa [List.getElem?_set_ne (Ne.symm e2)] at h4
    · have hne : ¬ (j + 1 = i ∧ w.category = 2) := by
        rintro ⟨e2, hc2⟩
        have h4 := hw hc2
        rw [e2, List.getElem?_set_self hi] at h4; cases h4
      rw [hvm w]
      by_cases e2 : j + 1 = i
      · have : ¬ w.category = 2 := fun q => hne ⟨e2, q⟩
        simp [e, this]
      · simp [e, e2]
theorem s_L.set2 {vm : Value → Value} (hvm : ∀ v, (vm v).category = v.category) {L : List Slot} {ls : Array Slot} {n i : Nat} {v : Value} (hc : v.category = 2) (h : s_L vm L ls n) (hi : i + 1 < L.length) {Goal : Prop}
    (row : ∀ {lv lv' : List (Nat × Value)}, lv_has ls n lv → i + 1 < n → (i, vm v) :: lv.filter (fun q => !(q.1 == i) && (!(q.1 == i + 1) && !(q.1 + 1 == i && q.2.category == 2))) = lv' → (∀ ls' : Array Slot, lv_has ls' n lv' → s_L vm ((L.set i (.val v)).set (i + 1) .second) ls' n) → Goal) : Goal := by
  obtain ⟨hl, lv, h1, h3⟩ := h
  refine row h1 (by omega) rfl (fun ls' h' => ⟨by rw [List.length_set, List.length_set]; exact hl, _, h', fun j w hj hw => ?_⟩)
  by_cases e1 : j = i + 1
  · subst e1
    rw [List.getElem?_set_self (by rw [List.length_set]; exact hi)] at hj
    cases hj
  · rw [List.getElem?_set_ne (Ne.symm e1)] at hj
    by_cases e : j = i
    · subst e
      rw [List.getElem?_set_self (by omega)] at hj
      cases hj
      exact List.mem_cons_self
    · rw [List.getElem?_set_ne (Ne.symm e)] at hj
      have hx : w.category = 2 → ¬ j + 1 = i ∧ L[j + 1]? = some .second := fun hc2 => by
        have h4 := hw hc2
        rw [List.getElem?_set_ne (by omega)] at h4
        by_cases e2 : j + 1 = i
        · rw [e2, List.getElem?_set_self (by omega)] at h4; cases h4
        · rw [List.getElem?_set_ne (Ne.symm e2)] at h4
          exact ⟨e2, h4⟩
      refine List.mem_cons_of_mem _ (List.mem_filter.mpr ⟨h3 j w hj (fun hc2 => (hx hc2).2), ?_⟩)
      rw [hvm w]
      by_cases e2 : j + 1 = i
      · have : ¬ w.category = 2 := fun q => (hx q).1 e2
        simp [e, e1, this]
      · simp [e, e1, e2]
/-- a value that is no reference, or one to a cell that is there -/
def s_lt (n : Nat) (v : Value) : Prop := ∀ a, v = .ref a → a < n
theorem s_lt.int {n : Nat} {x : Int32} : s_lt n (.int x) := fun _ h => by cases h
theorem s_lt.long {n : Nat} {x : Int64} : s_lt n (.long x) := fun _ h => by cases h
theorem s_lt.double {n : Nat} {x : UInt64} : s_lt n (.double x) := fun _ h => by cases h
theorem s_lt.null {n : Nat} : s_lt n .null := fun _ h => by cases h
theorem s_lt.ref {n a : Nat} (h : a < n) : s_lt n (.ref a) := fun _ e => by cases e; exact h
theorem s_vm_ext {σ σ' : Nat → Nat} {fv : Value} {n : Nat} (hσ : ∀ a, a < n → σ' a = σ a) {v : Value} (h : s_lt n v) : s_vm σ' fv v = s_vm σ fv v := by
  cases v <;> try rfl
  rename_i a
  show (if a = 28 then fv else .ref (σ' a)) = (if a = 28 then fv else .ref (σ a))
  rw [hσ a (h a rfl)]
theorem s_vm_map {σ σ' : Nat → Nat} {fv : Value} {n : Nat} (hσ : ∀ a, a < n → σ' a = σ a) {st : List Value} (h : ∀ v ∈ st, s_lt n v) : st.map (s_vm σ' fv) = st.map (s_vm σ fv) := List.map_congr_left fun v hv => s_vm_ext hσ (h v hv)
/-- the machine stands where the pure one does -/
def s_I (D : va_G) (fv : Value) (A : Nat → Prop) (s : State) (n : Nat) (σ : Nat → Nat) (T : pT) (M : pM) (F : pF) (H : Heap) (locs : List Loc) (L : List Slot) (ls : Array Slot) (st : List Value) : Prop :=
  s_W D σ fv T M F s H ∧ s_Z σ fv A s s.heap ∧ va_S A s.heap H locs ∧ (∀ q, s.heap.size ≤ q → A q) ∧ (∀ a, 100 ≤ a → (p_ty T a).1 ≠ 0 → A (σ a)) ∧ (∀ a, a < 100 → (p_ty T a).1 ≠ 0 → ¬ A (σ a)) ∧ s_L (s_vm σ fv) L ls n ∧ (∀ v ∈ st, s_lt T.1.1 v) ∧ (∀ (i : Nat) (v : Value), L[i]? = some (.val v) → s_lt T.1.1 v)
def s_K (p : Program) (l : Launch) (e : Env) (Rm : Room) (s : State) (m : MethodId) (args : Array Value) (below : List Frame) (meth : Method) (c : Code) (Q : State → Prop) (D : va_G) (fv : Value) (A : Nat → Prop) (n : Nat) (σ : Nat → Nat) (T : pT) (cells slots : Nat) (g : pG) : Prop :=
  ∀ (σ' : Nat → Nat) (H' : Heap) (locs' : List Loc) (ls' : Array Slot), s_I D fv A s n σ' g.2.2.2.1 g.2.2.2.2.1 g.2.2.2.2.2 H' locs' g.2.1 ls' g.2.2.1 → (∀ a, a < T.1.1 → σ' a = σ a) → T.1.1 ≤ g.2.2.2.1.1.1 → T.1.2 ≤ g.2.2.2.1.1.2 →
    W p l e Rm s m args below meth c H' locs' (cells + (g.2.2.2.1.1.1 - T.1.1)) (slots + (g.2.2.2.1.1.2 - T.1.2)) Q (F0 m g.1 ls' (g.2.2.1.map (s_vm σ' fv)))
def s_X (p : Program) (l : Launch) (s : State) (m : MethodId) (meth : Method) (c : Code) (D : va_G) (y : pC) : Prop :=
  p.tables.exec = Jvm.exec ∧ c.code = y.2.2.1 ∧ c.maxLocals = y.2.2.2.1 ∧ s.vm.findClass (p_cn y.1) = some m.cls ∧ meth.sig.returnType = y.2.2.2.2.1 ∧ meth.locks = false ∧ meth.name = y.2.1.name ∧ l.flags = flags0 ∧ s_V D s ∧ c.exceptionTable.toList = tableOf y.2.2.2.2.2
variable {p : Program} {l : Launch} {e : Env} {Rm : Room} {s : State} {m : MethodId} {args : Array Value} {below : List Frame} {meth : Method} {c : Code} {Q : State → Prop} {D : va_G} {fv : Value} {A : Nat → Prop} {n : Nat} {σ : Nat → Nat} {T : pT} {M : pM} {F : pF} {H : Heap} {locs : List Loc} {L : List Slot} {ls : Array Slot} {cells slots : Nat} {st : List Value} {pc : Nat} {o : pG ⊕ pR} {cc : ByteArray}
theorem s_nx {pc' : Nat} {L' : List Slot} {st' : List Value} {M' : pM} {F' : pF} {H' : Heap} {locs' : List Loc} {ls' : Array Slot} (h : p_nx pc' L' st' T M' F' = some o) (k : ∀ g, o = .inl g → s_K p l e Rm s m args below meth c Q D fv A n σ T cells slots g) (hI : s_I D fv A s n σ T M' F' H' locs' L' ls' st') :
    W p l e Rm s m args below meth c H' locs' cells slots Q (F0 m pc' ls' (st'.map (s_vm σ fv))) := by
  have h' := k _ (Option.some.inj h).symm σ H' locs' ls' hI (fun _ _ => rfl) (Nat.le_refl _) (Nat.le_refl _)
  exact W.cs (by dsimp only; omega) (by dsimp only; omega) h'
theorem s_I.loc {L' : List Slot} {ls' : Array Slot} (hI : s_I D fv A s n σ T M F H locs L ls st) (h : s_L (s_vm σ fv) L' ls' n) (hb : ∀ (i : Nat) (v : Value), L'[i]? = some (.val v) → s_lt T.1.1 v) : s_I D fv A s n σ T M F H locs L' ls' st := ⟨hI.1, hI.2.1, hI.2.2.1, hI.2.2.2.1, hI.2.2.2.2.1, hI.2.2.2.2.2.1, h, hI.2.2.2.2.2.2.2.1, hb⟩
theorem s_I.stk {st' : List Value} (hI : s_I D fv A s n σ T M F H locs L ls st) (h : ∀ v ∈ st', s_lt T.1.1 v) : s_I D fv A s n σ T M F H locs L ls st' := ⟨hI.1, hI.2.1, hI.2.2.1, hI.2.2.2.1, hI.2.2.2.2.1, hI.2.2.2.2.2.1, hI.2.2.2.2.2.2.1, h, hI.2.2.2.2.2.2.2.2⟩
theorem s_I.bnd (hI : s_I D fv A s n σ T M F H locs L ls st) : ∀ v ∈ st, s_lt T.1.1 v := hI.2.2.2.2.2.2.2.1
theorem s_I.push {v : Value} (hI : s_I D fv A s n σ T M F H locs L ls st) (h : s_lt T.1.1 v) : s_I D fv A s n σ T M F H locs L ls (v :: st) := hI.stk fun w hw => by
  rcases List.mem_cons.mp hw with rfl | hw
  · exact h
  · exact hI.bnd w hw
theorem s_I.pop {v : Value} (hI : s_I D fv A s n σ T M F H locs L ls (v :: st)) : s_I D fv A s n σ T M F H locs L ls st := hI.stk fun w hw => hI.bnd w (List.mem_cons_of_mem _ hw)
theorem s_I.top {v : Value} (hI : s_I D fv A s n σ T M F H locs L ls (v :: st)) : s_lt T.1.1 v := hI.bnd v List.mem_cons_self
theorem s_I.cat (hI : s_I D fv A s n σ T M F H locs L ls st) (v : Value) : (s_vm σ fv v).category = v.category := s_vm_cat hI.1.2.2.2.2.2.1 v
theorem s_I.ref (hI : s_I D fv A s n σ T M F H locs L ls st) (x : Nat) : s_vm σ fv (.ref x) = .null ∨ ∃ z, s_vm σ fv (.ref x) = .ref z := by
  by_cases e : x = 28
  · show (if x = 28 then fv else .ref (σ x)) = _ ∨ ∃ z, (if x = 28 then fv else .ref (σ x)) = _
    rw [if_pos e]; exact hI.1.2.2.2.2.2.1
  · exact Or.inr ⟨σ x, if_neg e⟩
/-! loads -/
theorem s_ldI {pc' i : Nat} (hI : s_I D fv A s n σ T M F H locs L ls st) (h : p_ld (p_ldI L i) pc' L st T M F = some o) (k : ∀ g, o = .inl g → s_K p l e Rm s m args below meth c Q D fv A n σ T cells slots g)
    (row : ∀ x : Int32, ls[i]? = some (.val (.int x)) → W p l e Rm s m args below meth c H locs cells slots Q (F0 m pc' ls (.int x :: st.map (s_vm σ fv))) → W p l e Rm s m args below meth c H locs cells slots Q (F0 m pc ls (st.map (s_vm σ fv)))) : W p l e Rm s m args below meth c H locs cells slots Q (F0 m pc ls (st.map (s_vm σ fv))) := by
  unfold p_ldI at h
  split at h
  · rename_i x hx
    exact row x (hI.2.2.2.2.2.2.1.get hx (fun q => by cases q)) (s_nx h k (hI.push .int))
  · cases h
theorem s_ldL {pc' i : Nat} (hI : s_I D fv A s n σ T M F H locs L ls st) (h : p_ld (p_ldL L i) pc' L st T M F = some o) (k : ∀ g, o = .inl g → s_K p l e Rm s m args below meth c Q D fv A n σ T cells slots g)
    (row : ∀ x : Int64, ls[i]? = some (.val (.long x)) → W p l e Rm s m args below meth c H locs cells slots Q (F0 m pc' ls (.long x :: st.map (s_vm σ fv))) → W p l e Rm s m args below meth c H locs cells slots Q (F0 m pc ls (st.map (s_vm σ fv)))) : W p l e Rm s m args below meth c H locs cells slots Q (F0 m pc ls (st.map (s_vm σ fv))) := by
  unfold p_ldL at h
  split at h
  · rename_i x hx h2
    exact row x (hI.2.2.2.2.2.2.1.get hx (fun _ => h2)) (s_nx h k (hI.push .long))
  · cases h
theorem s_ldD {pc' i : Nat} (hI : s_I D fv A s n σ T M F H locs L ls st) (h : p_ld (p_ldD L i) pc' L st T M F = some o) (k : ∀ g, o = .inl g → s_K p l e Rm s m args below meth c Q D fv A n σ T cells slots g)
    (row : ∀ x : UInt64, ls[i]? = some (.val (.double x)) → W p l e Rm s m args below meth c H locs cells slots Q (F0 m pc' ls (.double x :: st.map (s_vm σ fv))) → W p l e Rm s m args below meth c H locs cells slots Q (F0 m pc ls (st.map (s_vm σ fv)))) : W p l e Rm s m args below meth c H locs cells slots Q (F0 m pc ls (st.map (s_vm σ fv))) := by
  unfold p_ldD at h
  split at h
  · rename_i x hx h2
    exact row x (hI.2.2.2.2.2.2.1.get hx (fun _ => h2)) (s_nx h k (hI.push .double))
  · cases h
theorem s_ldA {pc' i : Nat} (hI : s_I D fv A s n σ T M F H locs L ls st) (h : p_ld (p_ldA L i) pc' L st T M F = some o) (k : ∀ g, o = .inl g → s_K p l e Rm s m args below meth c Q D fv A n σ T cells slots g)
    (row : ∀ x : Nat, ls[i]? = some (.val (.ref x)) → W p l e Rm s m args below meth c H locs cells slots Q (F0 m pc' ls (.ref x :: st.map (s_vm σ fv))) → W p l e Rm s m args below meth c H locs cells slots Q (F0 m pc ls (st.map (s_vm σ fv))))
    (row0 : ls[i]? = some (.val .null) → W p l e Rm s m args below meth c H locs cells slots Q (F0 m pc' ls (.null :: st.map (s_vm σ fv))) → W p l e Rm s m args below meth c H locs cells slots Q (F0 m pc ls (st.map (s_vm σ fv)))) : W p l e Rm s m args below meth c H locs cells slots Q (F0 m pc ls (st.map (s_vm σ fv))) := by
  unfold p_ldA at h
  split at h
  · rename_i x hx
    have h1 := hI.2.2.2.2.2.2.1.get hx (fun q => by cases q)
    have h2 := s_nx (st' := .ref x :: st) h k (hI.push (hI.2.2.2.2.2.2.2.2 i _ hx))
    rw [List.map_cons] at h2
    rcases hI.ref x with e1 | ⟨z, e1⟩
    · rw [e1] at h1 h2; exact row0 h1 h2
    · rw [e1] at h1 h2; exact row z h1 h2
  · cases h
/-! stores -/
theorem s_L.len {vm : Value → Value} (h : s_L vm L ls n) : L.length = n := h.1
theorem s_st1 {pc' i : Nat} {v : Value} (hc : v.category = 1) (hI : s_I D fv A s n σ T M F H locs L ls (v :: st)) (h : p_st (p_sv1 L i v) pc' st T M F = some o) (k : ∀ g, o = .inl g → s_K p l e Rm s m args below meth c Q D fv A n σ T cells slots g)
    (row : ∀ {lv lv' : List (Nat × Value)}, lv_has ls n lv → i < n → (i, s_vm σ fv v) :: lv.filter (fun q => !(q.1 == i) && !(q.1 + 1 == i && q.2.category == 2)) = lv' → (∀ ls' : Array Slot, lv_has ls' n lv' → W p l e Rm s m args below meth c H locs cells slots Q (F0 m pc' ls' (st.map (s_vm σ fv)))) → W p l e Rm s m args below meth c H locs cells slots Q (F0 m pc ls (s_vm σ fv v :: st.map (s_vm σ fv)))) :
    W p l e Rm s m args below meth c H locs cells slots Q (F0 m pc ls ((v :: st).map (s_vm σ fv))) := by
  unfold p_sv1 at h
  by_cases hi : i < L.length
  · rw [if_pos hi] at h
    refine s_L.set1 hI.cat hc hI.2.2.2.2.2.2.1 hi (fun h1 h2 h3 h4 => row h1 h2 h3 (fun ls' hl => ?_))
    refine s_nx h k ((hI.pop).loc (h4 ls' hl) (fun j w hj => ?_))
    by_cases ej : i = j
    · subst ej
      rw [List.getElem?_set_self hi] at hj
      cases hj
      exact hI.top
    · rw [List.getElem?_set_ne ej] at hj
      exact hI.2.2.2.2.2.2.2.2 j w hj
  · rw [if_neg hi] at h
    cases h
theorem s_st2 {pc' i : Nat} {v : Value} (hc : v.category = 2) (hI : s_I D fv A s n σ T M F H locs L ls (v :: st)) (h : p_st (p_sv2 L i v) pc' st T M F = some o) (k : ∀ g, o = .inl g → s_K p l e Rm s m args below meth c Q D fv A n σ T cells slots g)
    (row : ∀ {lv lv' : List (Nat × Value)}, lv_has ls n lv → i + 1 < n → (i, s_vm σ fv v) :: lv.filter (fun q => !(q.1 == i) && (!(q.1 == i + 1) && !(q.1 + 1 == i && q.2.category == 2))) = lv' → (∀ ls' : Array Slot, lv_has ls' n lv' → W p l e Rm s m args below meth c H locs cells slots Q (F0 m pc' ls' (st.map (s_vm σ fv)))) → W p l e Rm s m args below meth c H locs cells slots Q (F0 m pc ls (s_vm σ fv v :: st.map (s_vm σ fv)))) :
    W p l e Rm s m args below meth c H locs cells slots Q (F0 m pc ls ((v :: st).map (s_vm σ fv))) := by
  unfold p_sv2 at h
  by_cases hi : i + 1 < L.length
  · rw [if_pos hi] at h
    refine s_L.set2 hI.cat hc hI.2.2.2.2.2.2.1 hi (fun h1 h2 h3 h4 => row h1 h2 h3 (fun ls' hl => ?_))
    refine s_nx h k ((hI.pop).loc (h4 ls' hl) (fun j w hj => ?_))
    by_cases e2 : i + 1 = j
    · subst e2
      rw [List.getElem?_set_self (by rw [List.length_set]; exact hi)] at hj
      cases hj
    · rw [List.getElem?_set_ne e2] at hj
      by_cases ej : i = j
      · subst ej
        rw [List.getElem?_set_self (by omega)] at hj
        cases hj
        exact hI.top
      · rw [List.getElem?_set_ne ej] at hj
        exact hI.2.2.2.2.2.2.2.2 j w hj
  · rw [if_neg hi] at h
    cases h
theorem s_br {cnd : Prop} {off : Int} {tgt : Nat → Prop} (hI : s_I D fv A s n σ T M F H locs L ls st) (h : p_br cnd pc off L st T M F = some o) (k : ∀ g, o = .inl g → s_K p l e Rm s m args below meth c Q D fv A n σ T cells slots g) {g0 : JFrame}
    (row : (pc : Int) + off = ((p_jmp pc off : Nat) : Int) → (cnd → W p l e Rm s m args below meth c H locs cells slots Q (F0 m (p_jmp pc off) ls (st.map (s_vm σ fv)))) → (¬ cnd → W p l e Rm s m args below meth c H locs cells slots Q (F0 m (pc + 3) ls (st.map (s_vm σ fv)))) → W p l e Rm s m args below meth c H locs cells slots Q g0) : W p l e Rm s m args below meth c H locs cells slots Q g0 := by
  unfold p_br at h
  by_cases h0 : 0 ≤ (pc : Int) + off
  · rw [if_pos h0] at h
    refine row (by unfold p_jmp; omega) (fun hc => ?_) (fun hc => ?_)
    · unfold p_if at h
      rw [if_pos hc] at h
      exact s_nx h k hI
    · unfold p_if at h
      rw [if_neg hc] at h
      exact s_nx h k hI
  · rw [if_neg h0] at h; cases h
end PS3
