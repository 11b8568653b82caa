section PM1
/-! the two boards tell the same -/
theorem geo1N : ∀ k : Nat, k < 91 → q_cel (q_pl (k : Int)) = (k : Int) := by decide +kernel
theorem geo1 {k : Int} (h : 0 ≤ k ∧ k < 91) : q_cel (q_pl k) = k := by
  have h2 := geo1N k.toNat (by omega)
  rwa [Int.toNat_of_nonneg h.1] at h2
def geo2c (p : Nat) : Bool := decide (q_cel (p : Int) = -1) || (decide (0 ≤ q_cel (p : Int)) && decide (q_cel (p : Int) < 91) && decide (q_pl (q_cel (p : Int)) = (p : Int)))
set_option maxRecDepth 20000 in
theorem geo2N : ∀ p : Nat, p < 289 → geo2c p = true := by decide +kernel
theorem geo2 {p : Int} (h : 0 ≤ p ∧ p < 289) : q_cel p = -1 ∨ (0 ≤ q_cel p ∧ q_cel p < 91 ∧ q_pl (q_cel p) = p) := by
  have h2 := geo2N p.toNat (by omega)
  unfold geo2c at h2
  rw [Int.toNat_of_nonneg h.1] at h2
  simp only [Bool.or_eq_true, Bool.and_eq_true, decide_eq_true_eq] at h2
  rcases h2 with h2 | h2
  · exact Or.inl h2
  · exact Or.inr ⟨h2.1.1, h2.1.2, h2.2⟩
def cv (x : Int) : Int := if 10 ≤ x then x - 2 else x
def cm (x : Int) : Int := if x = -1 then -1 else cv x
def VB (v b : Int → Int) : Prop := ∀ p, 0 ≤ p ∧ p < 289 → v p = if q_cel p = -1 then -1 else cv (b (q_cel p))
theorem VB.on {v b : Int → Int} (h : VB v b) (hb : MB b) {p : Int} (hp : 0 ≤ p ∧ p < 289) : q_on v p = cm (m_on b (q_cel p)) := by
  unfold q_on m_on cm
  rw [if_pos hp, h p hp]
  by_cases e : q_cel p = -1
  · rw [if_pos e, if_pos e, if_pos rfl]
  · have h1 := hb (q_cel p)
    rw [if_neg e, if_neg e, if_neg (by omega)]
theorem VB.ray {v b : Int → Int} (h : VB v b) (hb : MB b) {i : Int} (hi : 0 ≤ i ∧ i < 12) : ∀ (n : Nat) (p : Int), 0 ≤ p ∧ p < 289 → (0 ≤ ft v (p_roM 2 i) n p ∧ ft v (p_roM 2 i) n p < 289) ∧ q_cel (ft v (p_roM 2 i) n p) = rayC b i n (q_cel p)
  | 0, p, hp => ⟨hp, rfl⟩
  | n + 1, p, hp => by
    have hv := h p hp
    unfold ft rayC
    by_cases e : q_cel p = -1
    · rw [if_pos e] at hv
      rw [if_pos (by omega), if_pos (Or.inl e)]
      exact ⟨hp, rfl⟩
    · rw [if_neg e] at hv
      obtain ⟨g1, g2, g3⟩ := (geo2 hp).resolve_left e
      have hbc := hb (q_cel p)
      have hq := q_pl_nn ⟨g1, g2⟩
      have hr := ro2 hi
      by_cases e2 : b (q_cel p) = 0
      · have hv0 : v p = 0 := by rw [hv, e2]; rfl
        rw [if_neg (by omega), if_neg (by omega)]
        have h3 := VB.ray h hb hi n (p + p_roM 2 i) (by omega)
        refine ⟨h3.1, ?_⟩
        rw [h3.2]
        unfold gn
        rw [g3]
      · have hv0 : v p ≠ 0 := by rw [hv]; unfold cv; split <;> omega
        rw [if_pos (by omega), if_pos (Or.inr e2)]
        exact ⟨hp, rfl⟩
theorem rayC_fix {b : Int → Int} {i : Int} : ∀ (n : Nat) (c : Int), rayO i n c = true → rayC b i (n + 1) c = rayC b i n c
  | 0, c, h => by
    have e : c = -1 := of_decide_eq_true h
    show rayC b i 1 c = c
    rw [rayC, if_pos (Or.inl e)]
  | n + 1, c, h => by
    rw [rayO, Bool.or_eq_true] at h
    rw [rayC]
    conv => rhs; rw [rayC]
    by_cases e : c = -1 ∨ b c ≠ 0
    · rw [if_pos e, if_pos e]
    · rw [if_neg e, if_neg e]
      refine rayC_fix n _ ?_
      rcases h with h | h
      · exact absurd (Or.inl (of_decide_eq_true h)) e
      · exact h
theorem bI_iff {c e : Prop} (h : c ↔ e) : bI c = bI e := by rw [propext h]
theorem sm_add {f g h : Int → Int} : ∀ n : Nat, (∀ i : Int, 0 ≤ i → i < n → f i = g i + h i) → sm f n = sm g n + sm h n
  | 0, _ => rfl
  | n + 1, hi => by
    unfold sm
    rw [sm_add n (fun i h0 h1 => hi i h0 (by omega)), hi (n : Int) (by omega) (by omega)]
    omega
theorem sm_eq {f g : Int → Int} : ∀ n : Nat, (∀ i : Int, 0 ≤ i → i < n → f i = g i) → sm f n = sm g n
  | 0, _ => rfl
  | n + 1, hi => by
    unfold sm
    rw [sm_eq n (fun i h0 h1 => hi i h0 (by omega)), hi (n : Int) (by omega) (by omega)]
theorem e_sl {v b : Int → Int} (h : VB v b) (hb : MB b) {k s i : Int} (hk : 0 ≤ k ∧ k < 91) (hs : s = 0 ∨ s = 1) (hi : 0 ≤ i ∧ i < 12) : a_sl v (q_pl k) s i = m_sl b k s i + bI (m_on b (gn k i) = 10 * s + 1) := by
  have hq := q_pl_nn hk
  have hr := ro2 hi
  have hp : 0 ≤ q_pl k + p_roM 2 i ∧ q_pl k + p_roM 2 i < 289 := by omega
  have hg := gn_rg hk hi
  have hray := h.ray hb hi 17 (q_pl k + p_roM 2 i) hp
  have e1 : q_cel (q_pl k + p_roM 2 i) = gn k i := rfl
  rw [e1, rayC_fix 16 _ (rayO_ok hk hi)] at hray
  have hon := h.on hb hray.1
  rw [hray.2] at hon
  have hstop : m_on b (gn k i) = 10 * s + 1 → ft v (p_roM 2 i) 17 (q_pl k + p_roM 2 i) = q_pl k + p_roM 2 i ∧ rayC b i 16 (gn k i) = gn k i := by
    intro q
    have hgn : gn k i ≠ -1 := by intro z; unfold m_on at q; rw [if_pos z] at q; omega
    have hbn : b (gn k i) ≠ 0 := by unfold m_on at q; rw [if_neg hgn] at q; omega
    have hv := h _ hp
    rw [e1, if_neg hgn] at hv
    have hbc := hb (gn k i)
    have hv0 : v (q_pl k + p_roM 2 i) ≠ 0 := by rw [hv]; unfold cv; split <;> omega
    refine ⟨?_, ?_⟩
    · unfold ft; rw [if_pos (by omega)]
    · unfold rayC; rw [if_pos (Or.inr hbn)]
  have hmr := m_on_rg hb (rayC b i 16 (gn k i))
  have hmv : m_on b (rayC b i 16 (gn k i)) = -1 ∨ m_on b (rayC b i 16 (gn k i)) = 0 ∨ (1 ≤ m_on b (rayC b i 16 (gn k i)) ∧ m_on b (rayC b i 16 (gn k i)) ≤ 6) ∨ (11 ≤ m_on b (rayC b i 16 (gn k i)) ∧ m_on b (rayC b i 16 (gn k i)) ≤ 16) := by
    have h9 := hb (rayC b i 16 (gn k i))
    unfold m_on
    split <;> omega
  unfold a_sl m_sl
  rw [hon]
  by_cases c1 : m_on b (gn k i) = 10 * s + 1
  · obtain ⟨z1, z2⟩ := hstop c1
    rw [bI_t c1, z2, bI_f (c := _ ∨ _) (by split <;> omega)]
    refine bI_t ⟨?_, Or.inr (Or.inr ⟨?_, z1⟩)⟩
    · rw [c1]; unfold cm cv q_side; repeat' split <;> omega
    · rw [c1]; unfold cm cv q_kind; repeat' split <;> omega
  · rw [bI_f c1, Int.add_zero]
    refine bI_iff ⟨?_, ?_⟩
    · rintro ⟨q1, q2⟩
      have hkd : q_kind (cm (m_on b (rayC b i 16 (gn k i)))) = m_on b (rayC b i 16 (gn k i)) % 10 ∧ m_on b (rayC b i 16 (gn k i)) / 10 = s ∧ 1 ≤ m_on b (rayC b i 16 (gn k i)) := by
        revert q1
        generalize m_on b (rayC b i 16 (gn k i)) = x at *
        intro q1
        unfold cm cv at q1 ⊢
        unfold q_side at q1
        unfold q_kind
        repeat' split at q1
        all_goals first | omega | (refine ⟨?_, ?_, ?_⟩ <;> (try split) <;> (try split) <;> omega)
      rw [hkd.1] at q2
      rcases q2 with q2 | q2 | ⟨q2, q3⟩
      · exact Or.inl (by omega)
      · exact Or.inr (by split at q2 <;> split <;> omega)
      · exfalso
        refine c1 ?_
        have e9 := hray.2
        rw [q3, e1] at e9
        rw [e9]
        omega
    · intro q
      generalize m_on b (rayC b i 16 (gn k i)) = x at *
      refine ⟨?_, ?_⟩
      · unfold cm cv q_side
        split at q <;> (repeat' split) <;> omega
      · unfold q_goes q_kind cm cv
        split at q
        all_goals (rcases q with q | q)
        all_goals first
          | (refine Or.inl ?_; (repeat' split) <;> omega)
          | (refine Or.inr (Or.inl ?_); (repeat' split) <;> omega)
theorem e_kn {v b : Int → Int} (h : VB v b) (hb : MB b) {k s i : Int} (hk : 0 ≤ k ∧ k < 91) (hs : s = 0 ∨ s = 1) (hi : 0 ≤ i ∧ i < 12) : a_kn v (q_pl k) s i = bI (m_on b (gj k i) = 10 * s + 5) := by
  have hq := q_pl_nn hk
  have hr := ro3 hi
  unfold a_kn
  rw [h.on hb (p := q_pl k + p_roM 3 i) (by omega)]
  have e1 : q_cel (q_pl k + p_roM 3 i) = gj k i := rfl
  rw [e1]
  have h9 := hb (gj k i)
  have hmr := m_on_rg hb (gj k i)
  refine bI_iff ?_
  unfold m_on at *
  unfold cm cv q_val
  constructor
  · intro q; (repeat' split at q) <;> first | omega | (split <;> omega)
  · intro q; (repeat' split) <;> first | omega | (split at q <;> omega)
theorem tk_st {s i : Int} (hs : s = 0 ∨ s = 1) (hi : i = 0 ∨ i = 1) : -(p_roM 4 i * q_fwd s) = p_roM 2 (m_tk (1 - s) i) ∧ 0 ≤ m_tk (1 - s) i ∧ m_tk (1 - s) i < 12 := by
  rcases hs with rfl | rfl <;> rcases hi with rfl | rfl <;> decide +kernel
theorem e_pn {v b : Int → Int} (h : VB v b) (hb : MB b) {k s i : Int} (hk : 0 ≤ k ∧ k < 91) (hs : s = 0 ∨ s = 1) (hi : 0 ≤ i ∧ i < 2) : a_pn v (q_pl k) s i = m_pn b k s i := by
  have hq := q_pl_nn hk
  obtain ⟨t1, t2, t3⟩ := tk_st hs (i := i) (by omega)
  have hr := ro2 ⟨t2, t3⟩
  have e0 : q_pl k - p_roM 4 i * q_fwd s = q_pl k + p_roM 2 (m_tk (1 - s) i) := by omega
  unfold a_pn m_pn
  rw [e0, h.on hb (p := q_pl k + p_roM 2 (m_tk (1 - s) i)) (by omega)]
  have e1 : q_cel (q_pl k + p_roM 2 (m_tk (1 - s) i)) = gn k (m_tk (1 - s) i) := rfl
  have e2 : m_st k (m_tk (1 - s) i) = gn k (m_tk (1 - s) i) := by unfold m_st; rw [if_neg (by omega)]
  rw [e1, e2]
  have h9 := hb (gn k (m_tk (1 - s) i))
  refine bI_iff ?_
  unfold m_on cm cv q_val
  constructor
  · intro q; (repeat' split at q) <;> first | omega | (split <;> omega)
  · intro q; (repeat' split) <;> first | omega | (split at q <;> omega)
theorem e_att {v b : Int → Int} (h : VB v b) (hb : MB b) {k s : Int} (hk : 0 ≤ k ∧ k < 91) (hs : s = 0 ∨ s = 1) : q_att v (q_pl k) s = m_att b k s := by
  unfold q_att m_att
  rw [sm_add (g := m_sl b k s) (h := fun i => bI (m_on b (gn k i) = 10 * s + 1)) 12 (fun i h0 h1 => e_sl h hb hk hs ⟨h0, h1⟩), sm_eq (g := fun i => bI (m_on b (gj k i) = 10 * s + 5)) 12 (fun i h0 h1 => e_kn h hb hk hs ⟨h0, h1⟩), sm_eq (g := m_pn b k s) 2 (fun i h0 h1 => e_pn h hb hk hs ⟨h0, h1⟩)]
  have e : sm (m_kk b k s) 12 = sm (fun i => bI (m_on b (gn k i) = 10 * s + 1)) 12 + sm (fun i => bI (m_on b (gj k i) = 10 * s + 5)) 12 := sm_add 12 (fun i _ _ => rfl)
  rw [e]
  omega
end PM1
