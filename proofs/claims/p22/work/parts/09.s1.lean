section PS1
/-- the words that go along with a walk -/
def s_mv (w : Cond) : Bool := goodWord w || (match w with
  | .fieldLinkNest .. => true
  | .methodLinkNest .. => true
  | .castable .. => true
  | .declares .. => true
  | .privateMethod .. => true
  | _ => false)
def s_tbl : List Cond := lw_tbl.filter s_mv
theorem s_warmP {x : MethodName} {s U : State} (hW : s.WarmedH U.vm) (hZ : va_Nw (.privateMethod x) s) : va_Nw (.privateMethod x) U := va_tabs rfl (rfl : (s.setVm U.vm).vm = U.vm) (by rw [Cond.privateMethod_setVm hW.alike]; exact hZ)
theorem s_mv_at {s U : State} {a a' : Array Value} {w : Cond} (hW : s.WarmedH U.vm) (hg : s_mv w = true) (h : w.before a s = true) : w.before a' U = true := by
  unfold s_mv at hg
  rw [Bool.or_eq_true] at hg
  rcases hg with hg | hg
  · exact word_at hW (good_of_word hg) h
  · cases w <;> first | exact va_Nw.use rfl (va_Nw.warmF hW (va_Nw.of rfl h)) | exact va_Nw.use rfl (va_Nw.warmC hW (va_Nw.of rfl h)) | exact va_Nw.use rfl (va_Nw.warmD hW (va_Nw.of rfl h)) | exact va_Nw.use rfl (va_Nw.warmM hW (va_Nw.of rfl h)) | exact va_Nw.use rfl (s_warmP hW (va_Nw.of rfl h)) | exact absurd hg (by simp)
abbrev s_KC : String := "HexCabinet$Kind"
abbrev s_SC : String := "java/lang/String"
/-- the classes of which objects are made, by our numbers; their places in the kit's list -/
def vcl (k : Nat) : Option vw_C := match k with
  | 0 => some (RX0, TX0, 3)
  | 1 => some (RX1, TX1, 14)
  | 2 => some (RX2, TX2, 0)
  | 3 => some (RX3, TX3, 4)
  | 4 => some (RX4, TX4, 2)
  | 5 => some (RX5, TX5, 1)
  | 6 => some (RX6, TX6, 4)
  | 7 => some (RX7, TX7, 7)
  | 8 => some (RX8, TX8, 5)
  | 9 => some (RJ4, TJ4, 4)
  | 11 => some (RJ0, TJ0, 4)
  | _ => none
def vix (k : Nat) : Nat := if k < 9 then k + 2 else if k = 9 then 1 else 0
theorem vcl_lt : ∀ {k : Nat} {q : vw_C}, vcl k = some q → k < 10 ∨ k = 11
  | 0, _, _ | 1, _, _ | 2, _, _ | 3, _, _ | 4, _, _ | 5, _, _ | 6, _, _ | 7, _, _ | 8, _, _ | 9, _, _ => Or.inl (by decide)
  | 10, _, h => by cases h
  | 11, _, _ => Or.inr rfl
  | k + 12, _, h => by cases h
theorem vcl_ix : ∀ {k : Nat} {q : vw_C}, vcl k = some q → vwCl[vix k]? = some q
  | 0, _, h | 1, _, h | 2, _, h | 3, _, h | 4, _, h | 5, _, h | 6, _, h | 7, _, h | 8, _, h | 9, _, h => by cases h; rfl
  | 10, _, h => by cases h
  | 11, _, h => by cases h; rfl
  | k + 12, _, h => by cases h
/-- what is known of the classes -/
def s_V (D : va_G) (U : State) : Prop :=
  (∀ w ∈ s_tbl, ∀ a : Array Value, w.before a U = true) ∧
  (∀ (k : Nat) (q : vw_C), vwCl[k]? = some q → u_Kn U q.1 q.2.1 q.2.2 (D.1 k) (D.2 k)) ∧
  (∀ q ∈ p_str, ∃ a, vk_R q.1 q.2.1 q.2.2 a U) ∧ (va_AO s_KC U ∧ va_AO s_SC U) ∧
  (∀ i, i < 3 → va_Nw (.castable (p_en i) (p_en i)) U)
theorem s_V.warm {D : va_G} {s U : State} (hW : s.WarmedH U.vm) (h : s_V D s) : s_V D U := by
  obtain ⟨h1, h2, h3, h4, h5⟩ := h
  refine ⟨fun w hw a => s_mv_at hW (List.mem_filter.mp hw).2 (h1 w hw #[]), fun k q hq => u_Kn_moved hW.alike (h2 k q hq), fun q hq => ?_, ⟨va_AO.moved hW.alike h4.1, va_AO.moved hW.alike h4.2⟩, fun i hi => va_Nw.warmC hW (h5 i hi)⟩
  obtain ⟨a, ha⟩ := h3 q hq
  exact ⟨a, vk_R.warm hW ha⟩
/-- values, references by their addresses; 28 is a thing of the JDK of which nothing is known but that it is null or a reference -/
def s_vm (σ : Nat → Nat) (fv : Value) : Value → Value
  | .ref a => if a = 28 then fv else .ref (σ a)
  | v => v
def s_isR (ty : FieldType) : Bool := match ty with
  | .object _ => true
  | .array _ => true
  | _ => false
def s_ty : Nat → Nat → FieldType := fun k => match k with
  | 0 => tyX0
  | 1 => tyX1
  | 3 => tyX3
  | 4 => tyX4
  | 5 => tyX5
  | 6 => tyX6
  | 7 => tyX7
  | 8 => tyX8
  | 9 => tyJ4
  | 11 => tyJ0
  | _ => fun _ => .int
def s_fv (vm : Value → Value) (M : pM) (F : pF) (k id j : Nat) : Value := if s_isR (s_ty k j) = true then vm (p_rv (p_fv F id j)) else .int (iI (p_mv M id j))
/-- a row of that length, with these entries -/
def s_A (ty : FieldType) (N : Nat) (f : Nat → Value) (a : Nat) (U : State) (H : Heap) : Prop := ∃ cell : Cell, H[a]? = some cell ∧ U.isArrayOf cell ty ∧ cell.vm ≠ .unknown ∧ N ≤ cell.slots.size ∧ cell.slots.size.toInt32 = Int32.ofNat N ∧ ∀ j : Nat, j < N → cell.slots[j]? = some (f j)
def s_F (o n d : String) (v : Value) (a : Nat) (U : State) (H : Heap) : Prop := ∃ (cf : ClassId) (k : Class) (i : Nat) (f : Field) (cell : Cell), U.fieldFound? o n d = some (cf, k, i, f) ∧ f.isStatic = false ∧ H[a]? = some cell ∧ cell.vm ≠ .unknown ∧ cell.slots[f.slot]? = some v
def s_O (E : String) (a : Nat) (U : State) (H : Heap) : Prop := ∃ cell : Cell, H[a]? = some cell ∧ cell.vm.isStatics = false ∧ U.vm.findClass E = some cell.cls
/-- the row of kinds that the run itself makes -/
def s_Q (C : String) (N : Nat) (f : Nat → Value) (a : Nat) (U : State) (H : Heap) : Prop := ∃ cell : Cell, H[a]? = some cell ∧ cell.vm = .none ∧ va_RA U cell.cls (.object C) ∧ N = cell.slots.size ∧ ∀ j : Nat, j < N → cell.slots[j]? = some (f j)
/-- a row of bytes that the run itself makes -/
def s_B (N : Nat) (f : Nat → Value) (a : Nat) (U : State) (H : Heap) : Prop := ∃ cell : Cell, H[a]? = some cell ∧ cell.vm = .none ∧ va_RA U cell.cls .byte ∧ U.isArrayOf cell .byte ∧ N = cell.slots.size ∧ (∀ (j : Nat) (v : Value), cell.slots[j]? = some v → fits .byte v = true) ∧ ∀ j : Nat, j < N → cell.slots[j]? = some (f j)
theorem s_B.A {N : Nat} {f : Nat → Value} {a : Nat} {U : State} {H : Heap} (h : s_B N f a U H) : s_A .byte N f a U H := by
  obtain ⟨cell, h1, h2, h3, h4, h5, -, h6⟩ := h
  exact ⟨cell, h1, h4, by rw [h2]; exact fun z => (by cases z), Nat.le_of_eq h5, by rw [← h5], h6⟩
/-- what the cell of number id is, by its kind -/
def s_c (D : va_G) (vm : Value → Value) (M : pM) (F : pF) (t : Nat × Nat) (id a : Nat) (U : State) (H : Heap) : Prop :=
  if t.1 = 0 then True
  else if t.1 = 1 ∨ t.1 = 90 ∨ t.1 = 92 then s_A .int t.2 (fun j => .int (iI (p_mv M id j))) a U H
  else if t.1 = 2 then s_A .boolean t.2 (fun j => .int (iI (p_mv M id j))) a U H
  else if t.1 = 93 then s_A .byte t.2 (fun j => .int (iI (p_mv M id j))) a U H
  else if t.1 = 3 then s_A .long t.2 (fun j => .long (iL (p_mv M id j))) a U H
  else if t.1 = 4 then s_Q s_KC t.2 (fun j => vm (p_rv (p_fv F id j))) a U H
  else if t.1 = 5 then s_B t.2 (fun j => .int (iI (p_mv M id j))) a U H
  else if t.1 = 6 then s_Q s_SC t.2 (fun j => vm (p_rv (p_fv F id j))) a U H
  else if t.1 = 91 then s_A (.object s_KC) t.2 (fun j => vm (p_rv (p_fv F id j))) a U H
  else if t.1 = 95 then s_A (.object s_SC) t.2 (fun j => vm (p_rv (p_fv F id j))) a U H
  else if t.1 = 12 then s_O s_KC a U H ∧ s_F s_KC "text" "Ljava/lang/String;" (vm (p_rv (p_fv F id 0))) a U H ∧ s_F s_KC "number" "I" (.int (iI (p_mv M id 1))) a U H
  else if t.1 = 21 ∧ id < 100 then s_O s_SC a U H ∧ s_F s_SC "value" "[B" (vm (p_rv (p_fv F id 0))) a U H ∧ s_F s_SC "coder" "B" (.int (iI (p_mv M id 1))) a U H
  else ∃ (k : Nat) (q : vw_C), t.1 = k + 10 ∧ vcl k = some q ∧ t_OB a (D.1 (vix k)) q.2.2 (D.2 (vix k)) H (fun j => s_fv vm M F k id j)
theorem s_A.moved {ty : FieldType} {N : Nat} {f : Nat → Value} {a : Nat} {u U : State} {H : Heap} (hvm : u.vm.Alike U.vm) (h : s_A ty N f a u H) : s_A ty N f a U H := by
  obtain ⟨cell, h1, h2, h3⟩ := h
  exact ⟨cell, h1, State.isArrayOf_alike hvm h2, h3⟩
theorem s_F.moved {o n d : String} {v : Value} {a : Nat} {u U : State} {H : Heap} (hvm : u.vm.Alike U.vm) (h : s_F o n d v a u H) : s_F o n d v a U H := by
  obtain ⟨cf, k, i, f, cell, h1, h2⟩ := h
  obtain ⟨k', hi', -⟩ := State.fieldFound?_setVm hvm h1
  exact ⟨cf, k', i, f, cell, hi', h2⟩
theorem s_O.moved {E : String} {a : Nat} {u U : State} {H : Heap} (hvm : u.vm.Alike U.vm) (h : s_O E a u H) : s_O E a U H := by
  obtain ⟨cell, h1, h2, h3⟩ := h
  exact ⟨cell, h1, h2, by rw [hvm.findClass]; exact h3⟩
theorem s_Q.moved {C : String} {N : Nat} {f : Nat → Value} {a : Nat} {u U : State} {H : Heap} (hvm : u.vm.Alike U.vm) (h : s_Q C N f a u H) : s_Q C N f a U H := by
  obtain ⟨cell, h1, h2, h3, h4⟩ := h
  exact ⟨cell, h1, h2, va_RA.moved hvm h3, h4⟩
theorem s_B.moved {N : Nat} {f : Nat → Value} {a : Nat} {u U : State} {H : Heap} (hvm : u.vm.Alike U.vm) (h : s_B N f a u H) : s_B N f a U H := by
  obtain ⟨cell, h1, h2, h3, h4⟩ := h
  exact ⟨cell, h1, h2, va_RA.moved hvm h3, State.isArrayOf_alike hvm h4.1, h4.2⟩
theorem s_c.map {D : va_G} {vm : Value → Value} {M : pM} {F : pF} {t : Nat × Nat} {id a : Nat} {u U : State} {H H1 : Heap} (hA : ∀ ty N f, s_A ty N f a u H → s_A ty N f a U H1) (hQ : ∀ C N f, s_Q C N f a u H → s_Q C N f a U H1) (hBy : ∀ N f, s_B N f a u H → s_B N f a U H1) (hO : ∀ E, s_O E a u H → s_O E a U H1) (hF : ∀ o n d v, s_F o n d v a u H → s_F o n d v a U H1) (hB : ∀ cC N iS V, t_OB a cC N iS H V → t_OB a cC N iS H1 V) (h : s_c D vm M F t id a u H) : s_c D vm M F t id a U H1 := by
  unfold s_c at h ⊢
  by_cases c0 : t.1 = 0
  · rw [if_pos c0]; trivial
  rw [if_neg c0] at h ⊢
  by_cases c1 : t.1 = 1 ∨ t.1 = 90 ∨ t.1 = 92
  · rw [if_pos c1] at h ⊢; exact hA _ _ _ h
  rw [if_neg c1] at h ⊢
  by_cases c2 : t.1 = 2
  · rw [if_pos c2] at h ⊢; exact hA _ _ _ h
  rw [if_neg c2] at h ⊢
  by_cases c3 : t.1 = 93
  · rw [if_pos c3] at h ⊢; exact hA _ _ _ h
  rw [if_neg c3] at h ⊢
  by_cases c4 : t.1 = 3
  · rw [if_pos c4] at h ⊢; exact hA _ _ _ h
  rw [if_neg c4] at h ⊢
  by_cases c5 : t.1 = 4
  · rw [if_pos c5] at h ⊢; exact hQ _ _ _ h
  rw [if_neg c5] at h ⊢
  by_cases c55 : t.1 = 5
  · rw [if_pos c55] at h ⊢; exact hBy _ _ h
  rw [if_neg c55] at h ⊢
  by_cases c56 : t.1 = 6
  · rw [if_pos c56] at h ⊢; exact hQ _ _ _ h
  rw [if_neg c56] at h ⊢
  by_cases c6 : t.1 = 91
  · rw [if_pos c6] at h ⊢; exact hA _ _ _ h
  rw [if_neg c6] at h ⊢
  by_cases c7 : t.1 = 95
  · rw [if_pos c7] at h ⊢; exact hA _ _ _ h
  rw [if_neg c7] at h ⊢
  by_cases c8 : t.1 = 12
  · rw [if_pos c8] at h ⊢; exact ⟨hO _ h.1, hF _ _ _ _ h.2.1, hF _ _ _ _ h.2.2⟩
  rw [if_neg c8] at h ⊢
  by_cases c9 : t.1 = 21 ∧ id < 100
  · rw [if_pos c9] at h ⊢; exact ⟨hO _ h.1, hF _ _ _ _ h.2.1, hF _ _ _ _ h.2.2⟩
  rw [if_neg c9] at h ⊢
  obtain ⟨k, q, h1, h2, h3⟩ := h
  exact ⟨k, q, h1, h2, hB _ _ _ _ h3⟩
theorem s_c.moved {D : va_G} {vm : Value → Value} {M : pM} {F : pF} {t : Nat × Nat} {id a : Nat} {u U : State} {H : Heap} (hvm : u.vm.Alike U.vm) (h : s_c D vm M F t id a u H) : s_c D vm M F t id a U H :=
  h.map (fun _ _ _ h => h.moved hvm) (fun _ _ _ h => h.moved hvm) (fun _ _ h => h.moved hvm) (fun _ h => h.moved hvm) (fun _ _ _ _ h => h.moved hvm) (fun _ _ _ _ h => h)
theorem s_A.kept {ty : FieldType} {N : Nat} {f : Nat → Value} {a : Nat} {U : State} {H H1 : Heap} (hq : H1[a]? = H[a]?) (h : s_A ty N f a U H) : s_A ty N f a U H1 := by
  obtain ⟨cell, h1, h3⟩ := h
  exact ⟨cell, hq.trans h1, h3⟩
theorem s_F.kept {o n d : String} {v : Value} {a : Nat} {U : State} {H H1 : Heap} (hq : H1[a]? = H[a]?) (h : s_F o n d v a U H) : s_F o n d v a U H1 := by
  obtain ⟨cf, k, i, f, cell, h1, h2, h3, h4⟩ := h
  exact ⟨cf, k, i, f, cell, h1, h2, hq.trans h3, h4⟩
theorem s_O.kept {E : String} {a : Nat} {U : State} {H H1 : Heap} (hq : H1[a]? = H[a]?) (h : s_O E a U H) : s_O E a U H1 := by
  obtain ⟨cell, h1, h3⟩ := h
  exact ⟨cell, hq.trans h1, h3⟩
theorem s_Q.kept {C : String} {N : Nat} {f : Nat → Value} {a : Nat} {U : State} {H H1 : Heap} (hq : H1[a]? = H[a]?) (h : s_Q C N f a U H) : s_Q C N f a U H1 := by
  obtain ⟨cell, h1, h3⟩ := h
  exact ⟨cell, hq.trans h1, h3⟩
theorem s_B.kept {N : Nat} {f : Nat → Value} {a : Nat} {U : State} {H H1 : Heap} (hq : H1[a]? = H[a]?) (h : s_B N f a U H) : s_B N f a U H1 := by
  obtain ⟨cell, h1, h3⟩ := h
  exact ⟨cell, hq.trans h1, h3⟩
theorem s_c.kept {D : va_G} {vm : Value → Value} {M : pM} {F : pF} {t : Nat × Nat} {id a : Nat} {U : State} {H H1 : Heap} (hq : H1[a]? = H[a]?) (h : s_c D vm M F t id a U H) : s_c D vm M F t id a U H1 :=
  h.map (fun _ _ _ h => h.kept hq) (fun _ _ _ h => h.kept hq) (fun _ _ h => h.kept hq) (fun _ h => h.kept hq) (fun _ _ _ _ h => h.kept hq) (fun _ _ _ _ h => h.kept hq)
/-- what lies there, when its numbers and references are the same -/
theorem s_c.same {D : va_G} {vm vm' : Value → Value} {M M' : pM} {F F' : pF} {t : Nat × Nat} {id a : Nat} {U : State} {H : Heap} (hM : ∀ i, p_mv M' id i = p_mv M id i) (hF : ∀ i, vm' (p_rv (p_fv F' id i)) = vm (p_rv (p_fv F id i))) (h : s_c D vm M F t id a U H) : s_c D vm' M' F' t id a U H := by
  unfold s_c at h ⊢
  unfold s_fv at h ⊢
  simp only [hM, hF]
  exact h
theorem s_c.lt {D : va_G} {vm : Value → Value} {M : pM} {F : pF} {t : Nat × Nat} {id a : Nat} {U : State} {H : Heap} (h0 : t.1 ≠ 0) (h : s_c D vm M F t id a U H) : a < H.size := by
  have g : ∀ {cell : Cell}, H[a]? = some cell → a < H.size := fun h => (Array.getElem?_eq_some_iff.mp h).1
  unfold s_c at h
  rw [if_neg h0] at h
  by_cases c0 : t.1 = 1 ∨ t.1 = 90 ∨ t.1 = 92
  · rw [if_pos c0] at h
    obtain ⟨c, h1, -⟩ := h
    exact g h1
  rw [if_neg c0] at h
  by_cases c1 : t.1 = 2
  · rw [if_pos c1] at h
    obtain ⟨c, h1, -⟩ := h
    exact g h1
  rw [if_neg c1] at h
  by_cases c2 : t.1 = 93
  · rw [if_pos c2] at h
    obtain ⟨c, h1, -⟩ := h
    exact g h1
  rw [if_neg c2] at h
  by_cases c3 : t.1 = 3
  · rw [if_pos c3] at h
    obtain ⟨c, h1, -⟩ := h
    exact g h1
  rw [if_neg c3] at h
  by_cases c4 : t.1 = 4
  · rw [if_pos c4] at h
    obtain ⟨c, h1, -⟩ := h
    exact g h1
  rw [if_neg c4] at h
  by_cases c5 : t.1 = 5
  · rw [if_pos c5] at h
    obtain ⟨c, h1, -⟩ := h
    exact g h1
  rw [if_neg c5] at h
  by_cases c6 : t.1 = 6
  · rw [if_pos c6] at h
    obtain ⟨c, h1, -⟩ := h
    exact g h1
  rw [if_neg c6] at h
  by_cases c7 : t.1 = 91
  · rw [if_pos c7] at h
    obtain ⟨c, h1, -⟩ := h
    exact g h1
  rw [if_neg c7] at h
  by_cases c8 : t.1 = 95
  · rw [if_pos c8] at h
    obtain ⟨c, h1, -⟩ := h
    exact g h1
  rw [if_neg c8] at h
  by_cases c9 : t.1 = 12
  · rw [if_pos c9] at h
    obtain ⟨⟨c, h1, -⟩, -⟩ := h
    exact g h1
  rw [if_neg c9] at h
  by_cases c10 : t.1 = 21 ∧ id < 100
  · rw [if_pos c10] at h
    obtain ⟨⟨c, h1, -⟩, -⟩ := h
    exact g h1
  rw [if_neg c10] at h
  obtain ⟨k, q, -, -, c, h1, -⟩ := h
  exact g h1
/-- the whole world -/
def s_W (D : va_G) (σ : Nat → Nat) (fv : Value) (T : pT) (M : pM) (F : pF) (U : State) (H : Heap) : Prop :=
  100 ≤ T.1.1 ∧ (∀ a, T.1.1 ≤ a → (p_ty T a).1 = 0) ∧ (∀ a, s_c D (s_vm σ fv) M F (p_ty T a) a (σ a) U H) ∧
  (∀ a b, 100 ≤ a → (p_ty T a).1 ≠ 0 → (p_ty T b).1 ≠ 0 → σ a = σ b → a = b) ∧
  (∀ a b, (p_ty T a).1 = 12 → (p_ty T b).1 = 12 → σ a = σ b → a = b) ∧ (fv = .null ∨ ∃ x, fv = .ref x) ∧ (∀ a i r, p_fv F a i = some r → r < T.1.1)
theorem s_W.moved {D : va_G} {σ : Nat → Nat} {fv : Value} {T : pT} {M : pM} {F : pF} {u U : State} {H : Heap} (hvm : u.vm.Alike U.vm) (h : s_W D σ fv T M F u H) : s_W D σ fv T M F U H :=
  ⟨h.1, h.2.1, fun a => (h.2.2.1 a).moved hvm, h.2.2.2.1, h.2.2.2.2⟩
/-- which cells may be written: those of the world, and new ones -/
def s_fr (σ : Nat → Nat) (T : pT) (sz : Nat) : Nat → Prop := fun q => (∃ a, 100 ≤ a ∧ (p_ty T a).1 ≠ 0 ∧ q = σ a) ∨ sz ≤ q
/-- the statics that are used -/
def s_sv (σ : Nat → Nat) (fv : Value) (q : Nat × Nat) : Value := if q.1 = 0 then s_vm σ fv (.ref q.2) else .int (iI q.2)
def s_Z (σ : Nat → Nat) (fv : Value) (A : Nat → Prop) (U : State) (H : Heap) : Prop :=
  (∀ q ∈ p_sl, ∀ t, p_sN[q.1]? = some t → va_Z t.1 t.2.1 t.2.2 (s_sv σ fv q.2) A U H) ∧ vx_Zq Bundle.tN "UNASSIGNED_STACK" Bundle.steD A U H ∧ vx_Zq Bundle.tN "SUPPRESSED_SENTINEL" Bundle.listD A U H ∧ ∀ q ∈ p_lq, vk_R "HexCabinetLaw" q.1 q.2.1 (σ q.2.2) U
theorem s_Z.moved {σ : Nat → Nat} {fv : Value} {A : Nat → Prop} {u U : State} {H : Heap} (hW : u.WarmedH U.vm) (h : s_Z σ fv A u H) : s_Z σ fv A U H :=
  ⟨fun q hq t ht => (h.1 q hq t ht).moved hW.alike, h.2.1.moved hW.alike, h.2.2.1.moved hW.alike, fun q hq => (h.2.2.2 q hq).warm hW⟩
theorem s_Z.kept {σ : Nat → Nat} {fv : Value} {A : Nat → Prop} {U : State} {H H1 : Heap} (h : s_Z σ fv A U H) (hq : ∀ a : Nat, a < H.size → ¬ A a → H1[a]? = H[a]?) : s_Z σ fv A U H1 :=
  ⟨fun q hq' t ht => (h.1 q hq' t ht).kept hq, h.2.1.kept hq, h.2.2.1.kept hq, h.2.2.2⟩
theorem s_Z.narrow {σ : Nat → Nat} {fv : Value} {A B : Nat → Prop} {U : State} {H : Heap} (h : s_Z σ fv A U H) (hAB : ∀ q, B q → A q) : s_Z σ fv B U H :=
  ⟨fun q hq t ht => (h.1 q hq t ht).narrow hAB, h.2.1.narrow hAB, h.2.2.1.narrow hAB, h.2.2.2⟩
end PS1
