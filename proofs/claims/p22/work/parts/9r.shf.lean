section PSHF
/-! a run is the same with all its own cells k places higher, over whatever else lies there -/
def hS (k a : Nat) : Nat := if a < 100 then a else a + k
def hV (k : Nat) : Value → Value
  | .ref a => .ref (hS k a)
  | v => v
def hL (k : Nat) : Slot → Slot
  | .val v => .val (hV k v)
  | s => s
def hR (k : Nat) : (Option Value ⊕ Nat) → (Option Value ⊕ Nat)
  | .inl v => .inl (v.map (hV k))
  | .inr E => .inr E
/-- cells that are there, the given ones apart -/
def lvc (T : pT) (a : Nat) : Prop := (100 ≤ a ∨ a = 29) ∧ (p_ty T a).1 ≠ 0
def hW (k e : Nat) (T : pT) (M : pM) (F : pF) (T' : pT) (M' : pM) (F' : pF) : Prop :=
  T'.1.1 = T.1.1 + k ∧ T'.1.2 = T.1.2 + e ∧ ∀ a, lvc T a → p_ty T' (hS k a) = p_ty T a ∧ M' (hS k a) = M a ∧ ∀ i, F' (hS k a) i = (F a i).map (hS k)
/-- what else lies there is left alone -/
def hFr (k : Nat) (T T' : pT) (M' : pM) (F' : pF) (T1' : pT) (M1' : pM) (F1' : pF) : Prop := ∀ b, b < T'.1.1 → (∀ a, lvc T a → hS k a ≠ b) → T1'.2 b = T'.2 b ∧ M1' b = M' b ∧ F1' b = F' b
variable {k e d : Nat} {T T1 T' T1' T2 T2' : pT} {M M1 M' M1' M2 M2' : pM} {F F1 F' F1' F2 F2' : pF} {L : List Slot} {st : List Value} {pc : Nat} {o : pG ⊕ pR} {y : pC} {call : pK}
theorem hS_inj {a b : Nat} (h : hS k a = hS k b) : a = b := by unfold hS at h; split at h <;> split at h <;> omega
theorem hS_lo {a : Nat} (h : a < 100) : hS k a = a := if_pos h
theorem hS_hi {a : Nat} (h : 100 ≤ a) : hS k a = a + k := if_neg (by omega)
theorem hS_ge {a : Nat} (h : 100 ≤ a) : 100 ≤ hS k a := by rw [hS_hi h]; omega
theorem hS_lt {a : Nat} : hS k a < 100 ↔ a < 100 := by unfold hS; split <;> omega
theorem hFr.rf : hFr k T T' M' F' T' M' F' := fun _ _ _ => ⟨rfl, rfl, rfl⟩
theorem hFr.tr (hm : s_mono T T1) (hk : T'.1.1 = T.1.1 + k) (hm' : T'.1.1 ≤ T1'.1.1) (h100 : 100 ≤ T.1.1) (h : hFr k T T' M' F' T1' M1' F1') (h2 : hFr k T1 T1' M1' F1' T2' M2' F2') : hFr k T T' M' F' T2' M2' F2' := by
  intro b hb hn
  obtain ⟨a1, a2, a3⟩ := h b hb hn
  obtain ⟨b1, b2, b3⟩ := h2 b (by omega) (fun a ha => by
    by_cases c : a < T.1.1
    · refine hn a ⟨ha.1, ?_⟩
      rw [← hm.2.2 a c]; exact ha.2
    · rw [hS_hi (by omega)]; omega)
  exact ⟨b1.trans a1, b2.trans a2, b3.trans a3⟩
theorem h_rof : ∀ a, a < 100 → (p_roG a).all (fun x => x.all (fun r => decide (r < 100))) = true := by decide +kernel
theorem h_rof' {a : Nat} (ha : a < 100) (i : Int) : (p_roF a i).map (hS k) = p_roF a i := by
  unfold p_roF
  rw [List.getD_eq_getElem?_getD]
  cases hz : (p_roG a)[i.toNat]? with
  | none => rfl
  | some z =>
    have := List.all_eq_true.mp (h_rof a ha) z (List.mem_of_getElem? hz)
    cases z with
    | none => rfl
    | some r => exact congrArg some (hS_lo (of_decide_eq_true this))
theorem hW.ty (h : hW k e T M F T' M' F') {a : Nat} (ha : (p_ty T a).1 ≠ 0) : p_ty T' (hS k a) = p_ty T a := by
  by_cases c : 100 ≤ a ∨ a = 29
  · exact (h.2.2 a ⟨c, ha⟩).1
  · have c1 : a < 100 ∧ a ≠ 29 := by omega
    rw [hS_lo c1.1]
    unfold p_ty
    rw [if_pos c1, if_pos c1]
theorem hW.mv (h : hW k e T M F T' M' F') {a : Nat} (ha : (p_ty T a).1 ≠ 0) (i : Int) : p_mv M' (hS k a) i = p_mv M a i := by
  by_cases c : 100 ≤ a ∨ a = 29
  · have := (h.2.2 a ⟨c, ha⟩).2.1
    rcases c with c | c
    · rw [show p_mv M' (hS k a) i = M' (hS k a) i from if_neg (by rw [hS_hi c]; omega), show p_mv M a i = M a i from if_neg (by omega), this]
    · subst c
      have e29 : hS k 29 = 29 := hS_lo (by decide)
      rw [e29] at this ⊢
      show M' 29 i = M 29 i
      rw [this]
  · have c1 : a < 100 ∧ a ≠ 29 := by omega
    rw [hS_lo c1.1]
    unfold p_mv
    rw [if_pos c1, if_pos c1]
theorem hW.fv (h : hW k e T M F T' M' F') {a : Nat} (ha : (p_ty T a).1 ≠ 0) (i : Int) : p_fv F' (hS k a) i = (p_fv F a i).map (hS k) := by
  by_cases c : 100 ≤ a ∨ a = 29
  · have := (h.2.2 a ⟨c, ha⟩).2.2 i
    rcases c with c | c
    · rw [show p_fv F' (hS k a) i = F' (hS k a) i from if_neg (by rw [hS_hi c]; omega), show p_fv F a i = F a i from if_neg (by omega), this]
    · subst c
      have e29 : hS k 29 = 29 := hS_lo (by decide)
      rw [e29] at this ⊢
      show F' 29 i = (F 29 i).map (hS k)
      rw [this]
  · have c1 : a < 100 ∧ a ≠ 29 := by omega
    rw [hS_lo c1.1]
    unfold p_fv
    rw [if_pos c1, if_pos c1]
    exact (h_rof' c1.1 i).symm
theorem h_rv (x : Option Nat) : p_rv (x.map (hS k)) = hV k (p_rv x) := by cases x <;> rfl
theorem hV_cat (v : Value) : (hV k v).category = v.category := by cases v <;> rfl
/-- the two go on alike -/
def hO (k e : Nat) (T T' : pT) (M' : pM) (F' : pF) : pG ⊕ pR → pG ⊕ pR → Prop
  | .inl g, .inl g' => g'.1 = g.1 ∧ g'.2.1 = g.2.1.map (hL k) ∧ g'.2.2.1 = g.2.2.1.map (hV k) ∧ hW k e g.2.2.2.1 g.2.2.2.2.1 g.2.2.2.2.2 g'.2.2.2.1 g'.2.2.2.2.1 g'.2.2.2.2.2 ∧ hFr k T T' M' F' g'.2.2.2.1 g'.2.2.2.2.1 g'.2.2.2.2.2
  | .inr r, .inr r' => r'.1 = hR k r.1 ∧ hW k e r.2.1 r.2.2.1 r.2.2.2 r'.2.1 r'.2.2.1 r'.2.2.2 ∧ hFr k T T' M' F' r'.2.1 r'.2.2.1 r'.2.2.2
  | _, _ => False
def hG (k e : Nat) (T T' : pT) (M' : pM) (F' : pF) (o : pG ⊕ pR) (x : Option (pG ⊕ pR)) : Prop := ∃ o', x = some o' ∧ hO k e T T' M' F' o o'
theorem hx_nx (h : p_nx pc L st T1 M1 F1 = some o) (hw : hW k e T1 M1 F1 T1' M1' F1') (hf : hFr k T T' M' F' T1' M1' F1') : hG k e T T' M' F' o (p_nx pc (L.map (hL k)) (st.map (hV k)) T1' M1' F1') := by
  cases h
  exact ⟨_, rfl, rfl, rfl, rfl, hw, hf⟩
theorem hx_0 (h : p_nx pc L st T M F = some o) (hw : hW k e T M F T' M' F') : hG k e T T' M' F' o (p_nx pc (L.map (hL k)) (st.map (hV k)) T' M' F') := hx_nx h hw .rf
theorem hx_if {c c' : Prop} {x x' : Option (pG ⊕ pR)} (h : p_if c x none = some o) (hc : c → c') (hx : c → x = some o → hG k e T T' M' F' o x') : hG k e T T' M' F' o (p_if c' x' none) := by
  obtain ⟨h1, h2⟩ := s_pifn h
  unfold p_if
  rw [if_pos (hc h1)]
  exact hx h1 h2
theorem hx_ifn {c c' : Prop} {x x' : Option (pG ⊕ pR)} (h : p_if c none x = some o) (hc : ¬ c → ¬ c') (hx : ¬ c → x = some o → hG k e T T' M' F' o x') : hG k e T T' M' F' o (p_if c' none x') := by
  rcases s_pif h with ⟨-, h⟩ | ⟨h1, h2⟩
  · cases h
  · unfold p_if
    rw [if_neg (hc h1)]
    exact hx h1 h2
theorem hx_ite {c c' : Prop} [Decidable c] [Decidable c'] {x x' : Option (pG ⊕ pR)} (h : (if c then x else none) = some o) (hc : c → c') (hx : c → x = some o → hG k e T T' M' F' o x') : hG k e T T' M' F' o (if c' then x' else none) := by
  by_cases q : c
  · rw [if_pos q] at h
    rw [if_pos (hc q)]
    exact hx q h
  · rw [if_neg q] at h
    cases h
theorem hx_if2 {c : Prop} {x x' z z' : Option (pG ⊕ pR)} (h : p_if c x z = some o) (hx : x = some o → hG k e T T' M' F' o x') (hz : z = some o → hG k e T T' M' F' o z') : hG k e T T' M' F' o (p_if c x' z') := by
  unfold p_if
  rcases s_pif h with ⟨c1, h⟩ | ⟨c1, h⟩
  · rw [if_pos c1]; exact hx h
  · rw [if_neg c1]; exact hz h
theorem hx_br {c : Prop} {off : Int} (h : p_br c pc off L st T M F = some o) (hw : hW k e T M F T' M' F') : hG k e T T' M' F' o (p_br c pc off (L.map (hL k)) (st.map (hV k)) T' M' F') := by
  unfold p_br at h ⊢
  split at h
  · rename_i c0
    rw [if_pos c0]
    exact hx_if2 h (fun h => hx_0 h hw) (fun h => hx_0 h hw)
  · cases h
theorem h_get (i : Nat) : (L.map (hL k))[i]? = (L[i]?).map (hL k) := List.getElem?_map ..
theorem h_ldI (i : Nat) : p_ldI (L.map (hL k)) i = p_ldI L i := by
  unfold p_ldI
  rw [h_get]
  cases L[i]? with
  | none => rfl
  | some s => cases s with
    | val v => cases v <;> rfl
    | _ => rfl
theorem h_ldA (i : Nat) : p_ldA (L.map (hL k)) i = (p_ldA L i).map (hV k) := by
  unfold p_ldA
  rw [h_get]
  cases L[i]? with
  | none => rfl
  | some s => cases s with
    | val v => cases v <;> rfl
    | _ => rfl
theorem h_ldL (i : Nat) : p_ldL (L.map (hL k)) i = p_ldL L i := by
  unfold p_ldL
  rw [h_get, h_get]
  cases L[i]? with
  | none => rfl
  | some s => cases s with
    | val v => cases v <;> first | rfl | (cases L[i + 1]? with
      | none => rfl
      | some s2 => cases s2 <;> rfl)
    | _ => rfl
theorem h_ldD (i : Nat) : p_ldD (L.map (hL k)) i = p_ldD L i := by
  unfold p_ldD
  rw [h_get, h_get]
  cases L[i]? with
  | none => rfl
  | some s => cases s with
    | val v => cases v <;> first | rfl | (cases L[i + 1]? with
      | none => rfl
      | some s2 => cases s2 <;> rfl)
    | _ => rfl
theorem hx_ld {a b : Option Value} (hab : b = a.map (hV k)) (h : p_ld a pc L st T M F = some o) (hw : hW k e T M F T' M' F') : hG k e T T' M' F' o (p_ld b pc (L.map (hL k)) (st.map (hV k)) T' M' F') := by
  subst hab
  cases a with
  | none => cases h
  | some v => exact hx_0 (st := v :: st) h hw
theorem h_mI {i : Nat} : (p_ldI L i).map (hV k) = p_ldI L i := by
  cases h : p_ldI L i with
  | none => rfl
  | some v =>
    unfold p_ldI at h
    split at h
    · cases h; rfl
    · cases h
theorem h_mL {i : Nat} : (p_ldL L i).map (hV k) = p_ldL L i := by
  cases h : p_ldL L i with
  | none => rfl
  | some v =>
    unfold p_ldL at h
    split at h
    · cases h; rfl
    · cases h
theorem h_mD {i : Nat} : (p_ldD L i).map (hV k) = p_ldD L i := by
  cases h : p_ldD L i with
  | none => rfl
  | some v =>
    unfold p_ldD at h
    split at h
    · cases h; rfl
    · cases h
theorem h_sv1 (i : Nat) (v : Value) : p_sv1 (L.map (hL k)) i (hV k v) = (p_sv1 L i v).map (List.map (hL k)) := by
  unfold p_sv1
  rw [List.length_map]
  by_cases c : i < L.length
  · rw [if_pos c, if_pos c]
    show some _ = some _
    rw [List.map_set]
    rfl
  · rw [if_neg c, if_neg c]; rfl
theorem h_sv2 (i : Nat) (v : Value) : p_sv2 (L.map (hL k)) i (hV k v) = (p_sv2 L i v).map (List.map (hL k)) := by
  unfold p_sv2
  rw [List.length_map]
  by_cases c : i + 1 < L.length
  · rw [if_pos c, if_pos c]
    show _ = some (((L.set i (.val v)).set (i + 1) .second).map (hL k))
    rw [List.map_set, List.map_set]
    rfl
  · rw [if_neg c, if_neg c]; rfl
theorem hx_st {a b : Option (List Slot)} (hab : b = a.map (List.map (hL k))) (h : p_st a pc st T M F = some o) (hw : hW k e T M F T' M' F') : hG k e T T' M' F' o (p_st b pc (st.map (hV k)) T' M' F') := by
  subst hab
  cases a with
  | none => cases h
  | some v => exact hx_0 h hw
/-! the world behind a write, behind an allocation -/
theorem hW.wM (hw : hW k e T M F T' M' F') {a : Nat} (h100 : 100 ≤ a) (ha : (p_ty T a).1 ≠ 0) {f f' : Int → Int} (hf : f' = f) : hW k e T (uA M a f) F T' (uA M' (hS k a) f') F' := by
  subst hf
  refine ⟨hw.1, hw.2.1, fun b hb => ?_⟩
  obtain ⟨h1, h2, h3⟩ := hw.2.2 b hb
  refine ⟨h1, ?_, h3⟩
  by_cases c : b = a
  · subst c; rw [uA_s, uA_s]
  · rw [uA_n c, uA_n (fun z => c (hS_inj z))]; exact h2
theorem hFr.wM {a : Nat} (h100 : 100 ≤ a) (ha : (p_ty T a).1 ≠ 0) {f : Int → Int} : hFr k T T' M' F' T' (uA M' (hS k a) f) F' := fun b _ hn => ⟨rfl, uA_n (fun z => hn a ⟨Or.inl h100, ha⟩ z.symm), rfl⟩
theorem hFr.wF {a : Nat} (h100 : 100 ≤ a) (ha : (p_ty T a).1 ≠ 0) {f : Int → Option Nat} : hFr k T T' M' F' T' M' (uA F' (hS k a) f) := fun b _ hn => ⟨rfl, rfl, uA_n (fun z => hn a ⟨Or.inl h100, ha⟩ z.symm)⟩
theorem hW.wF (hw : hW k e T M F T' M' F') {a : Nat} (h100 : 100 ≤ a) (ha : (p_ty T a).1 ≠ 0) {j : Int} {r : Nat} : hW k e T M (uA F a (u1 (F a) j (some r))) T' M' (uA F' (hS k a) (u1 (F' (hS k a)) j (some (hS k r)))) := by
  refine ⟨hw.1, hw.2.1, fun b hb => ?_⟩
  obtain ⟨h1, h2, h3⟩ := hw.2.2 b hb
  refine ⟨h1, h2, fun i => ?_⟩
  by_cases c : b = a
  · subst c
    rw [uA_s, uA_s]
    unfold u1
    by_cases ci : i = j
    · rw [if_pos ci, if_pos ci]; rfl
    · rw [if_neg ci, if_neg ci]; exact h3 i
  · rw [uA_n c, uA_n (fun z => c (hS_inj z))]; exact h3 i
theorem hW.nw (hw : hW k e T M F T' M' F') (h100 : 100 ≤ T.1.1) {tag n : Nat} {f : Int → Int} : hW k e (p_new T tag n) (uA M T.1.1 f) (uA F T.1.1 (fun _ => none)) (p_new T' tag n) (uA M' T'.1.1 f) (uA F' T'.1.1 (fun _ => none)) := by
  have e1 : T'.1.1 = hS k T.1.1 := by rw [hS_hi h100]; exact hw.1
  refine ⟨by show T'.1.1 + 1 = T.1.1 + 1 + k; rw [hw.1]; omega, by show T'.1.2 + n = T.1.2 + n + e; rw [hw.2.1]; omega, fun b hb => ?_⟩
  by_cases c : b = T.1.1
  · subst c
    rw [p_ty_newS h100, ← e1, p_ty_newS (by rw [hw.1]; omega), uA_s, uA_s, uA_s, uA_s]
    exact ⟨rfl, rfl, fun _ => rfl⟩
  · have c' : hS k b ≠ T'.1.1 := by rw [e1]; exact fun z => c (hS_inj z)
    have hb' : lvc T b := by
      refine ⟨hb.1, ?_⟩
      have := hb.2
      rwa [p_ty_new c] at this
    obtain ⟨h1, h2, h3⟩ := hw.2.2 b hb'
    rw [p_ty_new c, p_ty_new c', uA_n c, uA_n c']
    refine ⟨h1, h2, fun i => ?_⟩
    rw [uA_n c, uA_n c']
    exact h3 i
theorem hFr.nw {tag n : Nat} {f : Int → Int} : hFr k T T' M' F' (p_new T' tag n) (uA M' T'.1.1 f) (uA F' T'.1.1 (fun _ => none)) := fun b hb _ => ⟨by unfold p_new; exact if_neg (by omega), uA_n (by omega), uA_n (by omega)⟩
theorem hx_nw (hw : hW k e T M F T' M' F') (h100 : 100 ≤ T.1.1) {tag n : Nat} {f : Int → Int} (h : p_nx pc L (.ref T.1.1 :: st) (p_new T tag n) (uA M T.1.1 f) (uA F T.1.1 (fun _ => none)) = some o) : hG k e T T' M' F' o (p_nx pc (L.map (hL k)) (.ref T'.1.1 :: st.map (hV k)) (p_new T' tag n) (uA M' T'.1.1 f) (uA F' T'.1.1 (fun _ => none))) := by
  have e1 : T'.1.1 = hS k T.1.1 := by rw [hS_hi h100]; exact hw.1
  have := hx_nx h (hw.nw h100) (hFr.nw (T := T) (T' := T') (M' := M') (F' := F'))
  rw [List.map_cons] at this
  show hG k e T T' M' F' o (p_nx pc (L.map (hL k)) (.ref T'.1.1 :: st.map (hV k)) _ _ _)
  have e2 : (Value.ref T'.1.1) = hV k (.ref T.1.1) := by rw [e1]; rfl
  rw [e2]
  exact this
end PSHF
