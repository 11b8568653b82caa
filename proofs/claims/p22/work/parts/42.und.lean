section PUNG
variable {d : Nat} {T : pT} {M M0 M1 : pM} {F : pF} {b g : Nat} {bb v : Int → Int} {k s t pas q its to as c x p kc i acc : Int} {A Z P L : List Int}
theorem sm_u1 {f h : Int → Int} {c y : Int} (hc : 0 ≤ c) (h1 : ∀ j, j ≠ c → h j = f j) (h2 : h c = f c + y) : ∀ n : Nat, sm h n = sm f n + (if c < n then y else 0)
  | 0 => by rw [sm, sm, if_neg (by omega)]; rfl
  | n + 1 => by
    have ih := sm_u1 hc h1 h2 n
    rw [sm, sm, ih]
    by_cases e : (n : Int) = c
    · subst e
      rw [h2, if_neg (by omega), if_pos (by omega)]; omega
    · rw [h1 n e]
      by_cases e2 : c < n
      · rw [if_pos e2, if_pos (by omega)]; omega
      · rw [if_neg e2, if_neg (by omega)]; omega
theorem pc_u1 (hc : 0 ≤ c ∧ c < 91) : sm (a_pc (u1 bb c x) s) 91 = sm (a_pc bb s) 91 + (bI (m_side x = s) - a_pc bb s c) := by
  have := sm_u1 (f := a_pc bb s) (h := a_pc (u1 bb c x) s) (c := c) (y := bI (m_side x = s) - a_pc bb s c) hc.1 (fun j hj => by
    unfold a_pc u1; rw [if_neg hj]) (by
    have : a_pc (u1 bb c x) s c = bI (m_side x = s) := by unfold a_pc u1; rw [if_pos rfl]
    rw [this]; omega) 91
  rw [this, if_pos (by omega)]
theorem P20.mk (hb : MB bb) (ht : t = 0 ∨ t = 1) (hp : PS bb t pas) (h : MV bb t pas its to) (has : 2 ≤ as ∧ as ≤ 5) (h20 : P20 bb) : P20 (mk_bb bb pas its to as) := by
  intro s hs
  obtain ⟨z1, z2, -⟩ := mk_pl_rg hb ht hp h
  obtain ⟨v1, v2, -⟩ := mk_th_v hb ht h has
  have h0 := h20 s hs
  unfold mk_bb
  rw [pc_u1 h.2.1, pc_u1 h.1, pc_u1 z1]
  have m0 : bI (m_side 0 = s) = 0 := bI_f (by unfold m_side; rw [if_pos rfl]; omega)
  have ei : a_pc (u1 bb (mk_pl bb pas its to) 0) s its = a_pc bb s its := by
    unfold a_pc u1; rw [if_neg (fun z => z2 z.symm)]
  rw [m0, ei]
  have r1 := bI_rg (m_side (bb (mk_pl bb pas its to)) = s)
  have r2 := bI_rg (m_side (u1 (u1 bb (mk_pl bb pas its to) 0) its 0 to) = s)
  have et : m_side (mk_th bb its to as) = t := by unfold m_side; rw [if_neg (by omega)]; omega
  have e3 : a_pc bb s its = bI (t = s) := by unfold a_pc; rw [h.2.2.1]
  rw [et, e3, show a_pc bb s (mk_pl bb pas its to) = bI (m_side (bb (mk_pl bb pas its to)) = s) from rfl, show a_pc (u1 (u1 bb (mk_pl bb pas its to) 0) its 0) s to = bI (m_side (u1 (u1 bb (mk_pl bb pas its to) 0) its 0 to) = s) from rfl]
  omega
theorem mk_q_rg (h : 0 ≤ q ∧ q < 60) : 0 ≤ mk_q bb pas q its to ∧ mk_q bb pas q its to ≤ 60 := by
  unfold mk_q; split <;> omega
theorem KR.of (hu : ∀ k c, 0 ≤ k → k < 91 → 0 ≤ c → c < 91 → bb k = 10 * s + 1 → bb c = 10 * s + 1 → k = c) : KR (q_pp (m_king bb s)) bb s := by
  rcases m_king_rg bb s with e | ⟨e1, e2, e3⟩
  · refine ⟨Or.inl (by unfold q_pp; rw [if_pos e]), fun k h0 h1 => ?_⟩
    have hq := q_pl_nn ⟨h0, h1⟩
    constructor
    · intro h; exact absurd h (m_kg_no 91 0 e (by omega) k h0 (by omega))
    · intro h; unfold q_pp at h; rw [if_pos e] at h; omega
  · have hpp : q_pp (m_king bb s) = q_pl (m_king bb s) := if_neg (by omega)
    rw [hpp]
    refine ⟨Or.inr ⟨_, e1, e2, rfl⟩, fun k h0 h1 => ?_⟩
    constructor
    · intro h; rw [hu k _ h0 h1 e1 e2 h e3]
    · intro h; rw [← q_inj ⟨e1, e2⟩ ⟨h0, h1⟩ h]; exact e3
/-- a move is taken back, whatever was done between -/
theorem c_undoG (hG : GT T F g) (hb : MB bb) (hu : UK bb) (ht : t = 0 ∨ t = 1) (hp : PS bb t pas) (hq : 0 ≤ q ∧ q ≤ 200) (hV : MV bb t pas its to) (has : 2 ≤ as ∧ as ≤ 5)
    (hS1 : GS M1 g (mk_bb bb pas its to as) (1 - t) (mk_ps bb its to) (mk_q bb pas q its to)) :
    ∃ M', (∀ d, 2 ≤ d → callD d m_X1_undo [.ref g, .long (iL (q_pk bb pas q its to))] T M1 F = some (.inl none, T, M', F)) ∧ GS M' g bb t pas q ∧ (∀ j, j ≠ 1 → j ≠ 2 → j ≠ 3 → M' g j = M1 g j) ∧ (∀ a, a ≠ g → a ≠ g + 1 → a ≠ g + 1 + 1 → M' a = M1 a) := by
  obtain ⟨M0, h0⟩ : ∃ M0 : pM, M0 = uA (uA (uA M1 (g + 1 + 1) (fun p => if 0 ≤ p ∧ p < 289 then (if q_cel p = -1 then -1 else cv (bb (q_cel p))) else M1 (g + 1 + 1) p)) (g + 1) (u1 (u1 (M1 (g + 1)) 1 (q_pp (m_king bb 0))) 2 (q_pp (m_king bb 1)))) g (u1 (u1 (u1 (M1 g) 1 t) 2 q) 3 (q_pp pas)) := ⟨_, rfl⟩
  have m1 : M0 g = u1 (u1 (u1 (M1 g) 1 t) 2 q) 3 (q_pp pas) := by rw [h0, uA_s]
  have m2 : M0 (g + 1) = u1 (u1 (M1 (g + 1)) 1 (q_pp (m_king bb 0))) 2 (q_pp (m_king bb 1)) := by rw [h0, uA_n (by omega), uA_s]
  have m3 : M0 (g + 1 + 1) = fun p => if 0 ≤ p ∧ p < 289 then (if q_cel p = -1 then -1 else cv (bb (q_cel p))) else M1 (g + 1 + 1) p := by rw [h0, uA_n (by omega), uA_n (by omega), uA_s]
  have m4 : ∀ a, a ≠ g → a ≠ g + 1 → a ≠ g + 1 + 1 → M0 a = M1 a := fun a a1 a2 a3 => by rw [h0, uA_n a1, uA_n a2, uA_n a3]
  have hbv := hS1.1.1
  have hS0 : GS M0 g bb t pas q := by
    refine ⟨⟨?_, ?_, hb, ?_, ?_⟩, by rw [m1]; rfl, by rw [m1]; rfl, by rw [m1]; rfl, ht, hq, hp⟩
    · intro p
      have ev : M0 (g + 1 + 1) p = if 0 ≤ p ∧ p < 289 then (if q_cel p = -1 then -1 else cv (bb (q_cel p))) else M1 (g + 1 + 1) p := by rw [m3]
      rw [ev]
      have := (cv_facts hb (q_cel p)).1
      have := hbv p
      split
      · split <;> omega
      · exact hbv p
    · intro p h; rw [m3]; exact if_pos h
    · rw [m2]; exact KR.of (s := 0) (fun k c k0 k1 c0 c1 e1 e2 => hu 0 (Or.inl rfl) k c k0 k1 c0 c1 e1 e2)
    · rw [m2]; exact KR.of (s := 1) (fun k c k0 k1 c0 c1 e1 e2 => hu 1 (Or.inr rfl) k c k0 k1 c0 c1 e1 e2)
  have n1 : ∀ j, j ≠ 1 → j ≠ 2 → j ≠ 3 → M1 g j = M0 g j := fun j j1 j2 j3 => by
    rw [m1]; exact ((if_neg j3).trans ((if_neg j2).trans (if_neg j1))).symm
  have n4 : ∀ j, j ≠ 1 → j ≠ 2 → M1 (g + 1) j = M0 (g + 1) j := fun j j1 j2 => by
    rw [m2]; exact ((if_neg j2).trans (if_neg j1)).symm
  obtain ⟨z1, z2, -⟩ := mk_pl_rg hb ht hp hV
  have n3 : M1 (g + 1 + 1) = u1 (u1 (u1 (M0 (g + 1 + 1)) (q_pl (mk_pl bb pas its to)) 0) (q_pl its) 0) (q_pl to) (cv (mk_th bb its to as)) := by
    funext p
    have a1 := q_pl_nn z1
    have a2 := q_pl_nn hV.1
    have a3 := q_pl_nn hV.2.1
    have hv := hS1.1.2.1
    by_cases hr : 0 ≤ p ∧ p < 289
    · rw [hv p hr]
      have e0 : M0 (g + 1 + 1) p = if q_cel p = -1 then -1 else cv (bb (q_cel p)) := by rw [m3]; exact if_pos hr
      by_cases hc : q_cel p = -1
      · have ne : ∀ c, 0 ≤ c ∧ c < 91 → p ≠ q_pl c := by
          intro c hc' e; rw [e, geo1 hc'] at hc; omega
        unfold u1
        rw [if_pos hc, if_neg (ne to hV.2.1), if_neg (ne its hV.1), if_neg (ne _ z1), e0, if_pos hc]
      · obtain ⟨g1, g2, g3⟩ := (geo2 hr).resolve_left hc
        rw [if_neg hc]
        have iff : ∀ c, 0 ≤ c ∧ c < 91 → (p = q_pl c ↔ q_cel p = c) := by
          intro c hc'
          constructor
          · intro e; rw [e, geo1 hc']
          · intro e; rw [← g3, e]
        unfold mk_bb u1
        by_cases b1 : q_cel p = to
        · rw [if_pos b1, if_pos ((iff _ hV.2.1).mpr b1)]
        · rw [if_neg b1, if_neg (fun z => b1 ((iff _ hV.2.1).mp z))]
          by_cases b2 : q_cel p = its
          · rw [if_pos b2, if_pos ((iff _ hV.1).mpr b2)]; rfl
          · rw [if_neg b2, if_neg (fun z => b2 ((iff _ hV.1).mp z))]
            by_cases b3 : q_cel p = mk_pl bb pas its to
            · rw [if_pos b3, if_pos ((iff _ z1).mpr b3)]; rfl
            · rw [if_neg b3, if_neg (fun z => b3 ((iff _ z1).mp z)), e0, if_neg hc]
    · unfold u1
      rw [if_neg (by omega), if_neg (by omega), if_neg (by omega), m3]
      exact (if_neg hr).symm
  exact ⟨M0, fun d hd => c_undo hG hS0 hV has hS1 n1 (fun a a1 a2 a3 => (m4 a a1 a2 a3).symm) n3 n4 hd, hS0, fun j j1 j2 j3 => (n1 j j1 j2 j3).symm, m4⟩
end PUNG
