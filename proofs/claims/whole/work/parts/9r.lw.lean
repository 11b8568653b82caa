section PLW
variable {d bd lg N G1 G2 h : Nat} {T T1 T2 : pT} {M M1 M2 : pM} {F F1 F2 : pF} {S : GSx} {ea z : Int} {bs : Int → Int}
theorem CW.spx (hW : CW T M F S ea bs z) : SPx S := by
  obtain ⟨G1, G2, -, ⟨⟨⟨a1, -, a3, a4⟩, -, -, a7⟩, -⟩⟩ := hW
  exact ⟨⟨a1.1.2.2.1, a1.1.UK, a3, a1.2.2.2.2.1, a1.PS, by have := a1.2.2.2.2.2.1; omega⟩, a7⟩
theorem CW.zz (hW : CW T M F S ea bs z) : (0 ≤ z ∧ z ≤ 2000) ∧ ∀ i, 0 ≤ bs i ∧ bs i < 256 := by
  obtain ⟨G1, G2, -, ⟨-, -, a3, -, -⟩⟩ := hW
  exact ⟨a3.2.2.1, a3.2.2.2⟩
theorem CW.t100 (hW : CW T M F S ea bs z) : p_ty T 100 = (17, 7) := by
  obtain ⟨G1, G2, a1, -⟩ := hW
  exact a1.1
theorem MW.t127 (hW : MW T M F bd lg N S ea bs z) : p_ty T 127 = (18, 24) := hW.1.1.1
/-- the class's world, when only other cells change -/
theorem CW.fr (hW : CW T M F S ea bs z) (m : s_mono T T1) (h1 : 127 ≤ T.1.1) (f : ∀ a, a < 127 → M1 a = M a ∧ F1 a = F a) : CW T1 M1 F1 S ea bs z := by
  obtain ⟨G1, G2, ⟨b1, b2, b3, b4, b5, b6, b7, b8, hg⟩, ⟨a1, a2, a3, a4, a5⟩⟩ := hW
  have e : ∀ a, a < 127 → p_ty T1 a = p_ty T a := fun a ha => m.2.2 a (by omega)
  have fF : ∀ a, a < 127 → F1 a = F a := fun a ha => (f a ha).2
  have fM : ∀ a, a < 127 → M1 a = M a := fun a ha => (f a ha).1
  have hg1 : G1 + 6 < 127 ∧ G2 + 6 < 127 := by omega
  refine ⟨G1, G2, ⟨?_, ?_, ?_, ?_, ?_, ?_, ?_, ?_, hg⟩, ⟨GAx.fr a1 (fun a h1 h2 => fM a (by omega)), ?_, a3.fr (fM 101 (by omega)) (fM (101 + 1) (by omega)), ?_, ?_⟩⟩
  · rw [e 100 (by omega)]; exact b1
  · rw [fF 100 (by omega)]; exact b2
  · unfold TT at *; rw [e 101 (by omega), e (101 + 1) (by omega), fF 101 (by omega)]; exact b3
  · unfold RT at *; rw [e 103 (by omega), e (103 + 1) (by omega), e (103 + 2) (by omega), e (103 + 3) (by omega), fF 103 (by omega)]; exact b4
  · rw [e 107 (by omega)]; exact b5
  · unfold WT BT at *; rw [e 108 (by omega), e (108 + 1) (by omega), e (108 + 1 + 1) (by omega), e (108 + 3) (by omega), e (108 + 4) (by omega), fF 108 (by omega), fF (108 + 1) (by omega)]; exact b6
  · unfold GT BT at *; rw [e G1 (by omega), e (G1 + 1) (by omega), e (G1 + 1 + 1) (by omega), e (G1 + 3) (by omega), e (G1 + 4) (by omega), e (G1 + 5) (by omega), e (G1 + 6) (by omega), fF G1 (by omega), fF (G1 + 1) (by omega)]; exact b7
  · unfold GT BT at *; rw [e G2 (by omega), e (G2 + 1) (by omega), e (G2 + 1 + 1) (by omega), e (G2 + 3) (by omega), e (G2 + 4) (by omega), e (G2 + 5) (by omega), e (G2 + 6) (by omega), fF G2 (by omega), fF (G2 + 1) (by omega)]; exact b8
  · rw [fM (G2 + 1 + 1) (by omega)]; exact a2
  · rw [fM 100 (by omega)]; exact a4
  · unfold RB at *; rw [fM 109 (by omega), fM (109 + 1) (by omega)]; exact a5
/-- the model's world, when only other cells change -/
theorem MW.fr (hW : MW T M F bd lg N S ea bs z) (m : s_mono T T1) (f : ∀ a, 127 ≤ a → a < T.1.1 → a ≠ 144 → M1 a = M a ∧ F1 a = F a) : MW T1 M1 F1 bd lg N S ea bs z := by
  obtain ⟨⟨hY, hD, a3, a4, a5, a6⟩, ⟨b1, b2, b3, b4, b5⟩, c1, c2, c3⟩ := hW
  obtain ⟨d0, d0', d1, d2, d3, d4⟩ := id hD
  have fM : ∀ a, 127 ≤ a → a < T.1.1 → a ≠ 144 → M1 a = M a := fun a h1 h2 h3 => (f a h1 h2 h3).1
  have h : ∀ j, F1 127 j = F 127 j := fun j => congrFun (f 127 (by omega) (by omega) (by omega)).2 j
  have g1 := fun a (ha : a < 145) => m.2.2 a (by omega)
  have m127 := fM 127 (by omega) (by omega) (by omega)
  refine ⟨⟨?_, ⟨d0, d0', d1, by have := m.1; omega, by have := m.1; omega, by have := m.1; omega⟩, a3, ?_, a5, ?_⟩, ⟨?_, ?_, ?_, ?_, ?_⟩, ?_, ?_, ?_⟩
  · obtain ⟨ty127, ty128, fy1, ty129, fy4, ty130, fy5, ty131, fy6, ty132, fy7, ty133, fy8, ty136, fy15, ty137, fy16, ty138, fy17, ty139, fy18, ty140, fy19, ty141, fy20, ty142, fy21, ty143, fy22, hbd, tybd, fy9, hlg, tylg, fy13, hN⟩ := hY
    exact ⟨(g1 _ (by omega)).trans ty127, (g1 _ (by omega)).trans ty128, (h _).trans fy1, (g1 _ (by omega)).trans ty129, (h _).trans fy4, (g1 _ (by omega)).trans ty130, (h _).trans fy5, (g1 _ (by omega)).trans ty131, (h _).trans fy6, (g1 _ (by omega)).trans ty132, (h _).trans fy7, (g1 _ (by omega)).trans ty133, (h _).trans fy8, (g1 _ (by omega)).trans ty136, (h _).trans fy15, (g1 _ (by omega)).trans ty137, (h _).trans fy16, (g1 _ (by omega)).trans ty138, (h _).trans fy17, (g1 _ (by omega)).trans ty139, (h _).trans fy18, (g1 _ (by omega)).trans ty140, (h _).trans fy19, (g1 _ (by omega)).trans ty141, (h _).trans fy20, (g1 _ (by omega)).trans ty142, (h _).trans fy21, (g1 _ (by omega)).trans ty143, (h _).trans fy22, hbd, (m.2.2 bd d2).trans tybd, (h _).trans fy9, hlg, (m.2.2 lg d3).trans tylg, (h _).trans fy13, hN⟩
  · rw [fM lg (by omega) d3 (by omega)]; exact a4
  · rw [m127]; exact a6
  · unfold YG at *
    rw [fM 129 (by omega) (by omega) (by omega), fM 130 (by omega) (by omega) (by omega), fM 131 (by omega) (by omega) (by omega), fM 132 (by omega) (by omega) (by omega), fM 133 (by omega) (by omega) (by omega)]
    exact b1
  · rw [fM bd (by omega) d2 (by omega)]; exact b2
  · rw [m127]; exact b3
  · rw [m127]; exact b4
  · rw [m127]; exact b5
  · rw [m127]; exact c1
  · rw [m127]; exact c2
  · rw [fM 128 (by omega) (by omega) (by omega)]; exact c3
theorem MW.sz (hW : MW T M F bd lg N S ea bs z) : 145 ≤ T.1.1 := hW.1.2.1.2.2.2.2.2
/-- the law's world: class and model are alike; at most h moves are made -/
def LW (T : pT) (M : pM) (F : pF) (h : Nat) : Prop := ∃ S ea bs z bd lg N, CW T M F S ea bs z ∧ MW T M F bd lg N S ea bs z ∧ S.2.2.2.2.length ≤ h ∧ p_ty T 144 = (3, 1)
/-- what one call may cost -/
def LB (T T' : pT) : Prop := s_mono T T' ∧ T'.1.1 ≤ T.1.1 + 901 ∧ T'.1.2 ≤ T.1.2 + 13906
/-- the class's half of a step: k and what it tells, into the long -/
def HC (T : pT) (M : pM) (F : pF) (m : pC) (v : List Value) (k : Int) (r : Int) (S : GSx) (ea : Int) (bs : Int → Int) (z : Int) : Prop := ∃ T' M' F', (∀ d, 11 ≤ d → callD d m v T M F = some (.inl (some (.int (iI k))), T', M', F')) ∧ CW T' M' F' S ea bs z ∧ s_mono T T' ∧ T'.1.1 ≤ T.1.1 + 1 ∧ T'.1.2 ≤ T.1.2 + 6 ∧ (∀ a, 127 ≤ a → a < T.1.1 → a ≠ 144 → M' a = M a ∧ F' a = F a) ∧ (k = 0 → M' 144 0 = r)
theorem cb_e {E w pc q : Nat} {m : pC} {L : List Slot} {st : List Value} (hh : p_hnd m pc E = some w) : cb (some (.inr E, T, M, F)) d m pc q L st = R d m w L [.ref (T.1.1 - 1)] T M F := by
  unfold cb
  dsimp only
  rw [hh]
end PLW
