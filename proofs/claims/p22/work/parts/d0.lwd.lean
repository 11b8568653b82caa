section PLWD
variable {d k s b n D : Nat} {T T1 T2 : pT} {M M1 M2 : pM} {F F1 F2 : pF} {S S1 : GSx} {ea ea1 z z1 : Int} {bs bs1 : Int → Int} {m : pC} {v : List Value} {r : Option Value}
/-- the class's world lies k cells higher -/
def LW (k : Nat) (T : pT) (M : pM) (F : pF) (S : GSx) (ea : Int) (bs : Int → Int) (z : Int) : Prop := ∃ (T0 : pT) (M0 : pM) (F0 : pF) (e : Nat), CW T0 M0 F0 S ea bs z ∧ hW k e T0 M0 F0 T M F ∧ 127 ≤ T0.1.1 ∧ ∀ a, lvc T0 a → 100 ≤ a ∧ a < 127
/-- a call of the class: it makes nothing, and leaves what isn't its own -/
def KX (k : Nat) (T : pT) (M : pM) (F : pF) (T1 : pT) (M1 : pM) (F1 : pF) : Prop := s_mono T T1 ∧ T1.1 = T.1 ∧ ∀ b, b < T.1.1 → (b < 100 + k ∨ 127 + k ≤ b) → M1 b = M b ∧ F1 b = F b
theorem KX.rf : KX k T M F T M F := ⟨s_mono.rf, rfl, fun _ _ _ => ⟨rfl, rfl⟩⟩
theorem KX.tr (h : KX k T M F T1 M1 F1) (h' : KX k T1 M1 F1 T2 M2 F2) : KX k T M F T2 M2 F2 := ⟨h.1.tr h'.1, h'.2.1.trans h.2.1, fun b hb hk => by
  have h1 := h.2.2 b hb hk
  have h2 := h'.2.2 b (by rw [h.2.1]; exact hb) hk
  exact ⟨h2.1.trans h1.1, h2.2.trans h1.2⟩⟩
theorem LW.ret {v : List Value} {r : Option Value} (h : LW k T M F S ea bs z) (hx : ∀ (T0 : pT) (M0 : pM) (F0 : pF), CW T0 M0 F0 S ea bs z → XRet T0 M0 F0 m (.ref 100 :: v) D r (fun M' F' => CW T0 M' F' S1 ea1 bs1 z1)) (hv : v.map (hV k) = v) (hr : r.map (hV k) = r) (hd : D ≤ d) :
    ∃ T1 M1 F1, callD d m (.ref (100 + k) :: v) T M F = some (.inl r, T1, M1, F1) ∧ LW k T1 M1 F1 S1 ea1 bs1 z1 ∧ KX k T M F T1 M1 F1 := by
  obtain ⟨T0, M0, F0, e, hC, hw, h127, hl⟩ := h
  obtain ⟨M', F', c, hP, -⟩ := hx T0 M0 F0 hC
  obtain ⟨r', b1, b2, b3, b4⟩ := callD_S (k := k) (e := e) d m _ T0 M0 F0 _ (c d hd) (by omega) T M F hw
  obtain ⟨r0, T1, M1, F1⟩ := r'
  dsimp only at b2 b3 b4
  have e0 : (Value.ref 100 :: v).map (hV k) = .ref (100 + k) :: v := by
    rw [List.map_cons, hv]; rfl
  rw [e0] at b1
  have e1 : r0 = .inl r := by rw [b2]; show Sum.inl (r.map (hV k)) = _; rw [hr]
  rw [e1] at b1
  have hm := callD_T d _ _ _ _ _ _ b1
  refine ⟨T1, M1, F1, b1, ⟨T0, M', F', e, hP, b3, h127, hl⟩, hm, ?_, fun b hb hk => ?_⟩
  · exact Prod.ext (by rw [b3.1, hw.1]) (by rw [b3.2.1, hw.2.1])
  · exact (b4 b hb (fun a ha => by have := hl a ha; rw [hS_hi this.1]; omega)).2
/-- what is made above, and what is done beside it, leaves it -/
theorem LW.up (h : LW k T M F S ea bs z) (hm : s_mono T T1) (hf : ∀ b, 100 + k ≤ b → b < 127 + k → M1 b = M b ∧ F1 b = F b) : LW k T1 M1 F1 S ea bs z := by
  obtain ⟨T0, M0, F0, e, hC, hw, h127, hl⟩ := h
  refine ⟨((T1.1.1 - k, T0.1.2), T0.2), M0, F0, T1.1.2 - T0.1.2, hC, ⟨?_, ?_, fun a ha => ?_⟩, ?_, hl⟩
  · have := hm.1; have := hw.1; show T1.1.1 = T1.1.1 - k + k; omega
  · have := hm.2.1; have := hw.2.1; show T1.1.2 = T0.1.2 + (T1.1.2 - T0.1.2); omega
  · have ha' : lvc T0 a := ha
    have hr := hl a ha'
    have h1 := hw.2.2 a ha'
    have hs : hS k a = a + k := hS_hi hr.1
    rw [hs] at h1 ⊢
    have h2 := hf (a + k) (by omega) (by omega)
    refine ⟨?_, ?_, fun i => ?_⟩
    · rw [hm.2.2 (a + k) (by have := hw.1; omega)]; exact h1.1
    · rw [h2.1]; exact h1.2.1
    · rw [h2.2]; exact h1.2.2 i
  · have := hm.1; have := hw.1; show 127 ≤ T1.1.1 - k; omega
theorem LW.cnt (h : LW k T M F S ea bs z) : 127 + k ≤ T.1.1 := by
  obtain ⟨T0, M0, F0, e, hC, hw, h127, hl⟩ := h
  have := hw.1; omega
theorem LW.ty (h : LW k T M F S ea bs z) : p_ty T (100 + k) = (17, 7) := by
  obtain ⟨T0, M0, F0, e, ⟨G1, G2, hT, -⟩, hw, h127, hl⟩ := h
  have h0 : p_ty T0 100 = (17, 7) := hT.1
  have := (hw.2.2 100 ⟨Or.inl (by omega), by rw [h0]; decide⟩).1
  rw [hS_hi (by omega)] at this
  rw [this]; exact h0
/-- the class's state is one of a game -/
theorem CW.gk (h : CW T M F S ea bs z) : ∃ G1, GAx M G1 S := by
  obtain ⟨G1, G2, hT, hS⟩ := h
  exact ⟨G1, hS.1⟩
theorem CW.res (h : CW T M F S ea bs z) (ht : ∀ a, 100 ≤ a → a < 127 → p_ty T1 a = p_ty T a) : CW T1 M F S ea bs z := by
  obtain ⟨G1, G2, hT, hS⟩ := h
  refine ⟨G1, G2, ?_, hS⟩
  have hg := hT.2.2.2.2.2.2.2.2
  unfold XT TT RT WT GT BT at *
  obtain ⟨rfl, rfl⟩ | ⟨rfl, rfl⟩ := hg
  · simpa (disch := omega) only [ht] using hT
  · simpa (disch := omega) only [ht] using hT
/-- a new cabinet -/
theorem LW.new (hn : T.1.1 = 100 + k) (hd : 6 ≤ d) : ∃ T1 M1 F1, callD d m_X7_init [.ref (100 + k)] (p_new T 17 7) (uA M (100 + k) (fun _ => 0)) (uA F (100 + k) (fun _ => none)) = some (.inl none, T1, M1, F1) ∧ LW k T1 M1 F1 z_new (-1) (fun _ => 0) 0 ∧ (T1.1.1 = 127 + k ∧ T1.1.2 = T.1.2 + 7 + 7523) ∧ s_mono (p_new T 17 7) T1 ∧ ∀ b, b < 100 + k → M1 b = M b ∧ F1 b = F b := by
  obtain ⟨T0, hT0⟩ : ∃ T0 : pT, T0 = ((101, 0), fun a => if a = 100 then (17, 7) else (0, 0)) := ⟨_, rfl⟩
  have t100 : p_ty T0 100 = (17, 7) := by rw [hT0]; rfl
  have tl : ∀ a, lvc T0 a → a = 100 := by
    intro a ha
    apply Classical.byContradiction
    intro hne
    apply ha.2
    rw [hT0]
    unfold p_ty
    have hx := ha.1
    rw [if_neg (by omega)]
    show (if a = 100 then ((17, 7) : Nat × Nat) else (0, 0)).1 = 0
    rw [if_neg hne]
  have hw : hW k (T.1.2 + 7) T0 (fun _ _ => 0) (fun _ _ => none) (p_new T 17 7) (uA M (100 + k) (fun _ => 0)) (uA F (100 + k) (fun _ => none)) := by
    refine ⟨?_, ?_, fun a ha => ?_⟩
    · rw [p_nn, hn, hT0]; show 100 + k + 1 = 101 + k; omega
    · rw [hT0]; show T.1.2 + 7 = 0 + (T.1.2 + 7); omega
    · have := tl a ha
      subst this
      rw [hS_hi (by omega), t100, uA_s, uA_s]
      refine ⟨?_, rfl, fun _ => rfl⟩
      rw [← hn]; exact p_ty_nw (by omega)
  obtain ⟨T1, M1, F1, c, n1, s1, hC, hm, -⟩ := i_cab (T := T0) (M := fun _ _ => 0) (F := fun _ _ => none) t100 (by rw [hT0])
  obtain ⟨r', b1, b2, b3, b4⟩ := callD_S (k := k) (e := T.1.2 + 7) d m_X7_init _ T0 _ _ _ (c d hd) (by rw [hT0]; decide) (p_new T 17 7) _ _ hw
  obtain ⟨r0, T2, M2, F2⟩ := r'
  dsimp only at b2 b3 b4
  have e0 : [Value.ref 100].map (hV k) = [.ref (100 + k)] := rfl
  rw [e0] at b1
  have e1 : r0 = .inl none := by rw [b2]; rfl
  rw [e1] at b1
  have hm2 := callD_T d _ _ _ _ _ _ b1
  obtain ⟨TR, hTR⟩ : ∃ TR : pT, TR = ((127, T1.1.2), fun a => if 100 ≤ a ∧ a < 127 then T1.2 a else (0, 0)) := ⟨_, rfl⟩
  have tr : ∀ a, 100 ≤ a → a < 127 → p_ty TR a = p_ty T1 a := by
    intro a h1 h2
    rw [hTR]
    unfold p_ty
    rw [if_neg (by omega), if_neg (by omega)]
    exact if_pos ⟨h1, h2⟩
  have trl : ∀ a, lvc TR a → 100 ≤ a ∧ a < 127 := by
    intro a ha
    apply Classical.byContradiction
    intro hne
    apply ha.2
    rw [hTR]
    unfold p_ty
    have hx := ha.1
    rw [if_neg (by omega)]
    show (if 100 ≤ a ∧ a < 127 then T1.2 a else (0, 0)).1 = 0
    rw [if_neg hne]
  refine ⟨T2, M2, F2, b1, ⟨TR, M1, F1, T.1.2 + 7, hC.res tr, ⟨?_, ?_, fun a ha => ?_⟩, by rw [hTR]; exact Nat.le_refl _, trl⟩, ⟨?_, ?_⟩, hm2, fun b hb => ?_⟩
  · rw [b3.1, n1, hTR]
  · rw [b3.2.1, hTR]
  · have hr := trl a ha
    have := b3.2.2 a ⟨ha.1, by rw [← tr a hr.1 hr.2]; exact ha.2⟩
    rw [tr a hr.1 hr.2]
    exact this
  · rw [b3.1, n1]
  · rw [b3.2.1, s1, hT0]; show 0 + 7523 + (T.1.2 + 7) = _; omega
  · have h1 := b4 b (by rw [p_nn, hn]; omega) (fun a ha => by rw [tl a ha, hS_hi (by omega)]; omega)
    refine ⟨h1.2.1.trans ?_, h1.2.2.trans ?_⟩
    · exact uA_n (by omega)
    · exact uA_n (by omega)
end PLWD
