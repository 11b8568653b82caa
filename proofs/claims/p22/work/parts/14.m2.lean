section PM2
def KR (kp : Int) (bb : Int → Int) (s : Int) : Prop := (kp = -1 ∨ ∃ k, 0 ≤ k ∧ k < 91 ∧ kp = q_pl k) ∧ ∀ k, 0 ≤ k → k < 91 → (bb k = 10 * s + 1 ↔ kp = q_pl k)
def RB (M : pM) (b : Nat) (bb : Int → Int) : Prop := BV (M (b + 1)) ∧ VB (M (b + 1)) bb ∧ MB bb ∧ KR (M b 1) bb 0 ∧ KR (M b 2) bb 1
theorem q_inj {c k : Int} (hc : 0 ≤ c ∧ c < 91) (hk : 0 ≤ k ∧ k < 91) (h : q_pl c = q_pl k) : c = k := by rw [← geo1 hc, ← geo1 hk, h]
theorem KR.rg {kp : Int} {bb : Int → Int} {s : Int} (h : KR kp bb s) : -1 ≤ kp ∧ kp < 289 := by
  rcases h.1 with h | ⟨k, h0, h1, h2⟩
  · omega
  · have := q_pl_nn ⟨h0, h1⟩; omega
theorem RB.K {M : pM} {b : Nat} {bb : Int → Int} (h : RB M b bb) : BK M b := ⟨h.2.2.2.1.rg, h.2.2.2.2.rg⟩
theorem m_kg_no {b : Int → Int} {s : Int} : ∀ (n : Nat) (k : Int), m_kg b s n k = -1 → 0 ≤ k → ∀ j, k ≤ j → j < k + n → b j ≠ 10 * s + 1
  | 0, k, _, _, j, h1, h2 => by omega
  | n + 1, k, h, h0, j, h1, h2 => by
    rw [m_kg] at h
    by_cases e : b k = 10 * s + 1
    · rw [if_pos e] at h; omega
    · rw [if_neg e] at h
      by_cases ej : j = k
      · rw [ej]; exact e
      · exact m_kg_no n (k + 1) h (by omega) j (by omega) (by omega)
theorem KR.king {kp : Int} {bb : Int → Int} {s : Int} (h : KR kp bb s) : kp = if m_king bb s = -1 then -1 else q_pl (m_king bb s) := by
  rcases m_king_rg bb s with e | ⟨e1, e2, e3⟩
  · rw [if_pos e]
    rcases h.1 with h1 | ⟨k, h0, h1, h2⟩
    · exact h1
    · exact absurd ((h.2 k h0 h1).mpr h2) (m_kg_no 91 0 e (by omega) k h0 (by omega))
  · rw [if_neg (by omega)]
    exact (h.2 _ e1 e2).mp e3
theorem KR.none {kp : Int} {bb : Int → Int} {s : Int} (h : KR kp bb s) : kp = -1 ↔ m_king bb s = -1 := by
  have h1 := h.king
  constructor
  · intro q
    by_cases e : m_king bb s = -1
    · exact e
    · rw [if_neg e] at h1
      have h2 := m_king_rg bb s
      have := q_pl_nn (k := m_king bb s) (by omega)
      omega
  · intro q; rw [if_pos q] at h1; exact h1
theorem q_set_n {M : pM} {b a : Nat} {p x : Int} (h1 : a ≠ b) (h2 : a ≠ b + 1) : q_set M b p x a = M a := by
  unfold q_set
  split
  · unfold uA; rw [if_neg h1, if_neg h2]
  · rfl
theorem q_set_f {M : pM} {b : Nat} {p x : Int} {j : Int} (h1 : j ≠ 1) (h2 : j ≠ 2) : q_set M b p x b j = M b j := by
  unfold q_set
  split
  · unfold uA; rw [if_pos rfl]; unfold q_kf; rw [if_neg h1, if_neg h2]
  · rfl
def VX (x : Int) : Prop := x = 0 ∨ (1 ≤ x ∧ x ≤ 6) ∨ (11 ≤ x ∧ x ≤ 16)
theorem KR.set {kp : Int} {bb : Int → Int} {s c x : Int} (h : KR kp bb s) (hs : s = 0 ∨ s = 1) (hc : 0 ≤ c ∧ c < 91) (hu : x = 10 * s + 1 → ∀ k, 0 ≤ k → k < 91 → k ≠ c → bb k ≠ 10 * s + 1) : KR (if x = 10 * s + 1 then q_pl c else if q_pl c = kp then -1 else kp) (u1 bb c x) s := by
  refine ⟨?_, fun k h0 h1 => ?_⟩
  · split
    · exact Or.inr ⟨c, hc.1, hc.2, rfl⟩
    · split
      · exact Or.inl rfl
      · exact h.1
  · have hk := h.2 k h0 h1
    have hq := q_pl_nn ⟨h0, h1⟩
    by_cases ek : k = c
    · subst ek
      rw [show u1 bb k x k = x from if_pos rfl]
      by_cases ex : x = 10 * s + 1
      · rw [if_pos ex]; exact ⟨fun _ => rfl, fun _ => ex⟩
      · rw [if_neg ex]
        refine ⟨fun q => absurd q ex, fun q => ?_⟩
        exfalso
        split at q
        · omega
        · exact absurd q.symm (by assumption)
    · rw [show u1 bb c x k = bb k from if_neg ek]
      have hne : q_pl c ≠ q_pl k := fun z => ek (q_inj hc ⟨h0, h1⟩ z).symm
      by_cases ex : x = 10 * s + 1
      · rw [if_pos ex]
        exact ⟨fun q => absurd q (hu ex k h0 h1 ek), fun q => absurd q hne⟩
      · rw [if_neg ex]
        by_cases e3 : q_pl c = kp
        · rw [if_pos e3]
          refine ⟨fun q => ?_, fun q => ?_⟩
          · exact absurd (e3.trans (hk.mp q)) hne
          · omega
        · rw [if_neg e3]; exact hk
theorem RB.set {M : pM} {b : Nat} {bb : Int → Int} (h : RB M b bb) {c x : Int} (hc : 0 ≤ c ∧ c < 91) (hx : VX x) (hu : ∀ s, s = 0 ∨ s = 1 → x = 10 * s + 1 → ∀ k, 0 ≤ k → k < 91 → k ≠ c → bb k ≠ 10 * s + 1) : RB (q_set M b (q_pl c) (cv x)) b (u1 bb c x) := by
  obtain ⟨h1, h2, h3, h4, h5⟩ := h
  have hq := q_pl_nn hc
  have hvc := h2 (q_pl c) (by omega)
  rw [geo1 hc, if_neg (by omega)] at hvc
  have hbc := h3 c
  have hcx : 0 ≤ cv x ∧ cv x ≤ 14 := by unfold cv; unfold VX at hx; split <;> omega
  have hon : M (b + 1) (q_pl c) ≠ -1 := by rw [hvc]; unfold cv; split <;> omega
  have e1 : q_set M b (q_pl c) (cv x) (b + 1) = u1 (M (b + 1)) (q_pl c) (cv x) := by
    unfold q_set
    rw [if_pos ⟨by omega, by omega, hon⟩]
    unfold uA
    rw [if_neg (by omega), if_pos rfl]
  have e2 : ∀ j, q_set M b (q_pl c) (cv x) b j = q_kf M b (q_pl c) (cv x) j := fun j => by
    unfold q_set
    rw [if_pos ⟨by omega, by omega, hon⟩]
    unfold uA
    rw [if_pos rfl]
  refine ⟨?_, ?_, ?_, ?_, ?_⟩
  · rw [e1]
    intro i
    have := h1 i
    unfold u1
    split <;> omega
  · rw [e1]
    intro p hp
    by_cases ep : p = q_pl c
    · subst ep
      rw [geo1 hc, if_neg (by omega), show u1 bb c x c = x from if_pos rfl, show u1 (M (b + 1)) (q_pl c) (cv x) (q_pl c) = cv x from if_pos rfl]
    · rw [show u1 (M (b + 1)) (q_pl c) (cv x) p = M (b + 1) p from if_neg ep, h2 p hp]
      by_cases e9 : q_cel p = -1
      · rw [if_pos e9, if_pos e9]
      · rw [if_neg e9, if_neg e9]
        obtain ⟨g1, g2, g3⟩ := (geo2 hp).resolve_left e9
        rw [show u1 bb c x (q_cel p) = bb (q_cel p) from if_neg (fun z => ep (by rw [← g3, z]))]
  · intro k
    have := h3 k
    unfold u1
    unfold VX at hx
    split <;> omega
  · rw [e2 1]
    have h9 := h4.set (x := x) (Or.inl rfl) hc (hu 0 (Or.inl rfl))
    have e3 : q_kf M b (q_pl c) (cv x) 1 = if x = 10 * 0 + 1 then q_pl c else if q_pl c = M b 1 then -1 else M b 1 := by
      unfold q_kf
      rw [if_pos rfl]
      unfold VX at hx
      have : cv x = 1 ↔ x = 10 * 0 + 1 := by unfold cv; split <;> omega
      by_cases z : x = 10 * 0 + 1
      · rw [if_pos z, if_pos (this.mpr z)]
      · rw [if_neg z, if_neg (fun q => z (this.mp q))]
    rw [e3]; exact h9
  · rw [e2 2]
    have h9 := h5.set (x := x) (Or.inr rfl) hc (hu 1 (Or.inr rfl))
    have e3 : q_kf M b (q_pl c) (cv x) 2 = if x = 10 * 1 + 1 then q_pl c else if q_pl c = M b 2 then -1 else M b 2 := by
      unfold q_kf
      rw [if_neg (by omega), if_pos rfl]
      unfold VX at hx
      have : cv x = 9 ↔ x = 10 * 1 + 1 := by unfold cv; split <;> omega
      by_cases z : x = 10 * 1 + 1
      · rw [if_pos z, if_pos (this.mpr z)]
      · rw [if_neg z, if_neg (fun q => z (this.mp q))]
    rw [e3]; exact h9
end PM2
