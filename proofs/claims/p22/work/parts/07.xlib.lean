section PX
noncomputable def B (d : Nat) (m : pC) (c : Prop) (p q : Nat) (L : List Slot) (st : List Value) (T : pT) (M : pM) (F : pF) : Option pR := @ite _ c (Classical.propDecidable c) (R d m p L st T M F) (R d m q L st T M F)
noncomputable def ck (c : Prop) (d : Nat) (m : pC) (p : Nat) (L : List Slot) (st : List Value) (T : pT) (M : pM) (F : pF) : Option pR := @ite _ c (Classical.propDecidable c) (R d m p L st T M F) none
noncomputable def gd (c : Prop) (o : Option pR) : Option pR := @ite _ c (Classical.propDecidable c) o none
noncomputable def cb (o : Option pR) (d : Nat) (m : pC) (pc q : Nat) (L : List Slot) (st : List Value) : Option pR := match o with
  | none => none
  | some (.inl v, T, M, F) => R d m q L (v.toList ++ st) T M F
  | some (.inr E, T, M, F) => match p_hnd m pc E with
    | some h => R d m h L [.ref (T.1.1 - 1)] T M F
    | none => none
noncomputable def ts (x lo hi : Int) (tg : List Nat) (df d : Nat) (m : pC) (L : List Slot) (st : List Value) (T : pT) (M : pM) (F : pF) : Option pR := R d m (if lo ≤ x ∧ x ≤ hi then tg.getD (x - lo).toNat 0 else df) L st T M F
def pA (ts : List Nat) (p : Nat × Nat) (i : Int32) : Prop := p.1 ∈ ts ∧ p_in i p.2
def pS (t a : Nat) (p : Nat × Nat) (i : Int32) : Prop := 100 ≤ a ∧ p.1 = t ∧ p_in i p.2
def pZ (x : Int32) : Prop := x = iI 0 ∨ x = iI 1
def pB (x : Int32) : Prop := -128 ≤ jI x ∧ jI x < 128
theorem x_go {d : Nat} {m : pC} {cc : ByteArray} {pc : Nat} {L : List Slot} {st : List Value} {T : pT} {M : pM} {F : pF} {ins : Instr} {len : Nat} {X : Option pR} (hm : m.2.2.1 = cc) (hd : decode cc pc = .ok (ins, len)) (h : p_go d m (p_one d m (callD d) pc ins len L st T M F) = X) : R d m pc L st T M F = X := (R_dec (by rw [hm]; exact hd)).trans h
theorem x_if {d : Nat} {m : pC} {o x y : Option (pG ⊕ pR)} {X Y : Option pR} {c : Prop} (h : o = p_if c x y) (hx : p_go d m x = X) (hy : p_go d m y = Y) : p_go d m o = @ite _ c (Classical.propDecidable c) X Y := by
  subst h; subst hx; subst hy
  unfold p_if
  by_cases hc : c
  · rw [if_pos hc, if_pos hc]
  · rw [if_neg hc, if_neg hc]
theorem x_ck {d : Nat} {m : pC} {o x : Option (pG ⊕ pR)} {c c' : Prop} {p : Nat} {L : List Slot} {st : List Value} {T : pT} {M : pM} {F : pF} (h : o = p_if c x none) (hx : p_go d m x = R d m p L st T M F) (hc : c = c') : p_go d m o = ck c' d m p L st T M F := by
  subst hc
  exact x_if h hx rfl
theorem x_ckn {d : Nat} {m : pC} {o x : Option (pG ⊕ pR)} {c : Prop} {p : Nat} {L : List Slot} {st : List Value} {T : pT} {M : pM} {F : pF} (h : o = p_if c none x) (hx : p_go d m x = R d m p L st T M F) : p_go d m o = ck (¬ c) d m p L st T M F := by
  rw [x_if h rfl hx]
  unfold ck
  by_cases hc : c
  · rw [if_pos hc, if_neg (fun k => k hc)]; rfl
  · rw [if_neg hc, if_pos hc]
theorem x_gd {d : Nat} {m : pC} {o x : Option (pG ⊕ pR)} {c c' : Prop} {X : Option pR} (h : o = p_if c x none) (hx : p_go d m x = X) (hc : c = c') : p_go d m o = gd c' X := by
  subst hc
  exact x_if h hx rfl
theorem x_gdn {d : Nat} {m : pC} {o x : Option (pG ⊕ pR)} {c : Prop} {X : Option pR} (h : o = p_if c none x) (hx : p_go d m x = X) : p_go d m o = gd (¬ c) X := by
  rw [x_if h rfl hx]
  unfold gd
  by_cases hc : c
  · rw [if_pos hc, if_neg (fun k => k hc)]; rfl
  · rw [if_neg hc, if_pos hc]
theorem x_cb {d : Nat} {m : pC} (o : Option pR) {pc : Nat} {L : List Slot} {st : List Value} : p_go d m (p_cb o m pc L st) = cb o d m pc (pc + 3) L st := by
  unfold p_cb cb
  match o with
  | none => rfl
  | some (.inl v, T, M, F) => rfl
  | some (.inr E, T, M, F) =>
    dsimp only
    cases p_hnd m pc E <;> rfl
theorem x_cv {d : Nat} {m : pC} {o : Option pR} {pc : Nat} {L : List Slot} {st : List Value} {c : Prop} : p_go d m (p_if c (p_cb o m pc L st) none) = cb (gd c o) d m pc (pc + 3) L st := by
  rw [x_if rfl (x_cb o) rfl]
  unfold gd
  by_cases hc : c
  · rw [if_pos hc, if_pos hc]
  · rw [if_neg hc, if_neg hc]; rfl
theorem x_ts {d : Nat} {m : pC} {pc : Nat} {df lo hi : Int} {offs : Array Int} {tg : List Nat} {dt len : Nat} {x : Int32} {L : List Slot} {st : List Value} {T : pT} {M : pM} {F : pF}
    (h : ∀ k, k < (hi - lo).toNat + 1 → ∃ off, offs[k]? = some off ∧ 0 ≤ (pc : Int) + off ∧ p_jmp pc off = tg.getD k 0) (hd : 0 ≤ (pc : Int) + df ∧ p_jmp pc df = dt) : p_go d m (p_one d m (callD d) pc (.tableswitch df lo hi offs) len L (.int x :: st) T M F) = ts (jI x) lo hi tg dt d m L st T M F := by
  show p_go d m (p_if (lo ≤ jI x ∧ jI x ≤ hi) _ _) = _
  rw [x_if rfl rfl rfl]
  unfold ts
  by_cases hc : lo ≤ jI x ∧ jI x ≤ hi
  · rw [if_pos hc, if_pos hc]
    obtain ⟨off, h1, h2, h3⟩ := h (jI x - lo).toNat (by omega)
    rw [h1, ← h3]
    dsimp only
    rw [if_pos h2]
    rfl
  · rw [if_neg hc, if_neg hc, if_pos hd.1, ← hd.2]
    rfl
theorem p_thr_of {m : pC} {cc : ByteArray} {pc i j E : Nat} (h3 : decode cc (pc + 3) = .ok (.dup, 1)) (h4 : decode cc (pc + 4) = .ok (.ldc i, 2)) (h6 : decode cc (pc + 6) = .ok (.invokespecial j, 3)) (h9 : decode cc (pc + 9) = .ok (.athrow, 1)) (h : p_thx m pc E i j = true) : p_thr m cc pc E = true := by
  unfold p_thr
  rw [h3, h4, h6, h9]
  exact h
theorem x_thr {d : Nat} {m : pC} {o : Option (pG ⊕ pR)} {cc : ByteArray} {pc E : Nat} {r : pR} {st : List Value} (h : o = if 6 ≤ d ∧ st.length ≤ 4 ∧ p_thr m cc pc E = true then some (.inr r) else none) (ht : p_thr m cc pc E = true) : p_go d m o = gd (6 ≤ d ∧ st.length ≤ 4) (some r) := by
  subst h
  unfold gd
  by_cases hc : 6 ≤ d ∧ st.length ≤ 4
  · rw [if_pos hc, if_pos ⟨hc.1, hc.2, ht⟩]; rfl
  · rw [if_neg hc, if_neg (fun k => hc ⟨k.1, k.2.1⟩)]; rfl
end PX
