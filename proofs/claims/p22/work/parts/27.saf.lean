section PSAF
/-! a move that need not be tried -/
variable {bb : Int → Int} {k s t pas q its to as c i : Int}
def slv (e i x : Int) : Prop := x = 10 * e + 2 ∨ x = 10 * e + (if i < 6 then 3 else 4)
def PIN (bb : Int → Int) (t kc its : Int) : Prop := ∃ i, 0 ≤ i ∧ i < 12 ∧ rayC bb i 16 (gn kc i) = its ∧ slv (1 - t) i (m_on bb (rayC bb i 16 (gn its i)))
theorem rayC_more {b : Int → Int} {i z : Int} : ∀ (m : Nat) (c : Int), rayC b i m c = z → (z = -1 ∨ b z ≠ 0) → ∀ n, m ≤ n → rayC b i n c = z
  | 0, c, h, hz, n, hn => by
    have e : c = z := h
    subst e
    cases n with
    | zero => rfl
    | succ n => rw [rayC, if_pos hz]
  | m + 1, c, h, hz, n, hn => by
    obtain ⟨n, rfl⟩ : ∃ n', n = n' + 1 := ⟨n - 1, by omega⟩
    rw [rayC] at h ⊢
    split
    · rename_i q; rw [if_pos q] at h; exact h
    · rename_i q; rw [if_neg q] at h; exact rayC_more m _ h hz n (by omega)
theorem ray_two {b b' : Int → Int} {i its z : Int} (h0 : ∀ k, b' k = 0 → b k = 0 ∨ k = its) (hz : b' z ≠ 0 ∧ b z = b' z ∧ z ≠ its ∧ z ≠ -1) (hi : b its ≠ 0) (hne : its ≠ -1) : ∀ (n : Nat) (c : Int), rayC b' i n c = z → (rayC b i n c = z) ∨ (rayC b i n c = its ∧ ∃ m, m ≤ n ∧ rayC b i m (gn its i) = z)
  | 0, c, h => Or.inl h
  | n + 1, c, h => by
    rw [rayC] at h
    by_cases e : c = -1 ∨ b' c ≠ 0
    · rw [if_pos e] at h
      subst h
      left
      rw [rayC, if_pos (Or.inr (by rw [hz.2.1]; exact hz.1))]
    · rw [if_neg e] at h
      have e1 : c ≠ -1 := fun q => e (Or.inl q)
      have e2 : b' c = 0 := Classical.byContradiction (fun q => e (Or.inr q))
      by_cases ei : c = its
      · subst ei
        right
        refine ⟨by rw [rayC, if_pos (Or.inr hi)], ?_⟩
        rcases ray_two h0 hz hi hne n _ h with w | ⟨w1, m, w2, w3⟩
        · exact ⟨n, by omega, w⟩
        · exact ⟨m, by omega, w3⟩
      · have e3 : b c = 0 := (h0 c e2).resolve_right ei
        rw [rayC, if_neg (fun q => q.elim e1 (fun y => y e3))]
        rcases ray_two h0 hz hi hne n _ h with w | ⟨w1, m, w2, w3⟩
        · exact Or.inl w
        · exact Or.inr ⟨w1, m, by omega, w3⟩
theorem sm_zero {f : Int → Int} : ∀ n : Nat, (∀ i : Int, 0 ≤ i → i < n → f i = 0) → sm f n = 0
  | 0, _ => rfl
  | n + 1, h => by
    unfold sm
    rw [sm_zero n (fun i h0 h1 => h i h0 (by omega)), h (n : Int) (by omega) (by omega)]
    rfl
theorem sm_nn {f : Int → Int} (h : ∀ i, 0 ≤ f i) : ∀ n : Nat, 0 ≤ sm f n
  | 0 => Int.le_refl _
  | n + 1 => by have := sm_nn h n; have := h (n : Int); unfold sm; omega
theorem sm_each {f : Int → Int} (h : ∀ i, 0 ≤ f i) : ∀ n : Nat, sm f n = 0 → ∀ i : Int, 0 ≤ i → i < n → f i = 0
  | 0, _, i, h0, h1 => by omega
  | n + 1, hs, i, h0, h1 => by
    have a := sm_nn h n
    have b := h (n : Int)
    unfold sm at hs
    by_cases e : i = (n : Int)
    · rw [e]; omega
    · exact sm_each h n (by omega) i h0 (by omega)
theorem att_zero {b : Int → Int} {k e : Int} : m_att b k e = 0 ↔ (∀ i, 0 ≤ i → i < 12 → ¬ slv e i (m_on b (rayC b i 16 (gn k i)))) ∧ (∀ i, 0 ≤ i → i < 12 → m_on b (gn k i) ≠ 10 * e + 1 ∧ m_on b (gj k i) ≠ 10 * e + 5) ∧ (∀ i, 0 ≤ i → i < 2 → m_on b (m_st k (m_tk (1 - e) i)) ≠ 10 * e + 6) := by
  have p1 : ∀ i, 0 ≤ m_sl b k e i := fun i => (bI_rg _).1
  have p2 : ∀ i, 0 ≤ m_kk b k e i := fun i => by
    have h3 := bI_rg (m_on b (gn k i) = 10 * e + 1)
    have h4 := bI_rg (m_on b (gj k i) = 10 * e + 5)
    unfold m_kk; omega
  have p3 : ∀ i, 0 ≤ m_pn b k e i := fun i => (bI_rg _).1
  have n1 := sm_nn p1 12
  have n2 := sm_nn p2 12
  have n3 := sm_nn p3 2
  constructor
  · intro h
    unfold m_att at h
    refine ⟨fun i h0 h1 q => ?_, fun i h0 h1 => ⟨fun q => ?_, fun q => ?_⟩, fun i h0 h1 q => ?_⟩
    · have := sm_each p1 12 (by omega) i h0 (by omega)
      rw [show m_sl b k e i = 1 from bI_t q] at this
      omega
    · have := sm_each p2 12 (by omega) i h0 (by omega)
      unfold m_kk at this
      rw [bI_t q] at this
      have := bI_rg (m_on b (gj k i) = 10 * e + 5)
      omega
    · have := sm_each p2 12 (by omega) i h0 (by omega)
      unfold m_kk at this
      rw [bI_t q] at this
      have := bI_rg (m_on b (gn k i) = 10 * e + 1)
      omega
    · have := sm_each p3 2 (by omega) i h0 (by omega)
      rw [show m_pn b k e i = 1 from bI_t q] at this
      omega
  · rintro ⟨h1, h2, h3⟩
    unfold m_att
    rw [sm_zero 12 (fun i h0 h9 => show m_sl b k e i = 0 from bI_f (h1 i h0 (by omega))), sm_zero 12 (fun i h0 h9 => show m_kk b k e i = 0 by unfold m_kk; rw [bI_f (h2 i h0 (by omega)).1, bI_f (h2 i h0 (by omega)).2]; rfl), sm_zero 2 (fun i h0 h9 => show m_pn b k e i = 0 from bI_f (h3 i h0 (by omega)))]
    rfl
/-- at most one king of each side -/
def UK (bb : Int → Int) : Prop := ∀ s, s = 0 ∨ s = 1 → ∀ k c, 0 ≤ k → k < 91 → 0 ≤ c → c < 91 → bb k = 10 * s + 1 → bb c = 10 * s + 1 → k = c
theorem king_of (hk : 0 ≤ k ∧ k < 91) (h1 : bb k = 10 * s + 1) (hu : ∀ c, 0 ≤ c → c < 91 → bb c = 10 * s + 1 → c = k) : m_king bb s = k := by
  rcases m_king_rg bb s with e | ⟨e1, e2, e3⟩
  · exact absurd h1 (m_kg_no 91 0 e (by omega) k hk.1 (by omega))
  · exact hu _ e1 e2 e3
theorem safe_plain (hb : MB bb) (hu : UK bb) (ht : t = 0 ∨ t = 1) (hV : MV bb t pas its to) (hk : m_king bb t ≠ -1) (hc : ¬ m_chk bb t) (h1 : its ≠ m_king bb t) (h2 : to ≠ pas) (h3 : ¬ PIN bb t (m_king bb t) its) : m_king (mk_bb bb pas its to 2) t = m_king bb t ∧ ¬ m_chk (mk_bb bb pas its to 2) t := by
  obtain ⟨kr1, kr2, kr3⟩ := (m_king_rg bb t).resolve_left hk
  have hpl : mk_pl bb pas its to = to := by unfold mk_pl; rw [if_neg (fun z => h2 z.2.1)]
  obtain ⟨v1, v2, v3⟩ := mk_th_v (as := 2) hb ht hV (by omega)
  obtain ⟨w1, w2, w3, w4, w5⟩ := hV
  have hst := m_side_t hb ht w3
  have hto : to ≠ m_king bb t := by
    intro z
    apply w5
    rw [z, kr3]
    unfold m_side
    rw [if_neg (by omega)]
    omega
  have hnk : mk_th bb its to 2 ≠ 10 * t + 1 := fun z => h1 (hu t ht _ _ w1.1 w1.2 kr1 kr2 (v3 t ht z) kr3)
  have b1 : ∀ k, mk_bb bb pas its to 2 k = if k = to then mk_th bb its to 2 else if k = its then 0 else bb k := by
    intro k
    unfold mk_bb u1
    rw [hpl]
    by_cases e1 : k = to
    · rw [if_pos e1, if_pos e1]
    · rw [if_neg e1, if_neg e1, if_neg e1]
  have hking : m_king (mk_bb bb pas its to 2) t = m_king bb t := by
    refine king_of ⟨kr1, kr2⟩ ?_ (fun c c0 c1 hc9 => ?_)
    · rw [b1, if_neg (fun z => hto z.symm), if_neg (fun z => h1 z.symm)]; exact kr3
    · rw [b1] at hc9
      by_cases e1 : c = to
      · rw [if_pos e1] at hc9; contradiction
      · rw [if_neg e1] at hc9
        by_cases e2 : c = its
        · rw [if_pos e2] at hc9; omega
        · rw [if_neg e2] at hc9
          exact hu t ht _ _ c0 c1 kr1 kr2 hc9 kr3
  refine ⟨hking, ?_⟩
  have ha := m_att_rg bb (m_king bb t) (1 - t)
  have h0 : m_att bb (m_king bb t) (1 - t) = 0 := by unfold m_chk at hc; omega
  obtain ⟨a1, a2, a3⟩ := att_zero.mp h0
  have hen : ∀ c y, m_on (mk_bb bb pas its to 2) c = y → 10 * (1 - t) + 1 ≤ y → y ≤ 10 * (1 - t) + 6 → c ≠ -1 ∧ m_on bb c = y ∧ c ≠ its ∧ c ≠ to ∧ bb c = y ∧ mk_bb bb pas its to 2 c = y := by
    intro c y hy y1 y2
    unfold m_on at hy ⊢
    by_cases e0 : c = -1
    · rw [if_pos e0] at hy; omega
    · rw [if_neg e0] at hy ⊢
      have hy' := hy
      rw [b1] at hy
      by_cases e1 : c = to
      · rw [if_pos e1] at hy; omega
      · rw [if_neg e1] at hy
        by_cases e2 : c = its
        · rw [if_pos e2] at hy; omega
        · rw [if_neg e2] at hy
          exact ⟨e0, hy, e2, e1, hy, hy'⟩
  unfold m_chk
  rw [hking]
  have hz : m_att (mk_bb bb pas its to 2) (m_king bb t) (1 - t) = 0 := by
    refine att_zero.mpr ⟨fun i i0 i1 q => ?_, fun i i0 i1 => ⟨fun q => ?_, fun q => ?_⟩, fun i i0 i1 q => ?_⟩
    · have hy : 10 * (1 - t) + 1 ≤ m_on (mk_bb bb pas its to 2) (rayC (mk_bb bb pas its to 2) i 16 (gn (m_king bb t) i)) ∧ m_on (mk_bb bb pas its to 2) (rayC (mk_bb bb pas its to 2) i 16 (gn (m_king bb t) i)) ≤ 10 * (1 - t) + 6 := by
        unfold slv at q; split at q <;> omega
      obtain ⟨c1, c2, c3, c4, c5, c6⟩ := hen _ _ rfl hy.1 hy.2
      have hb0 : ∀ k, mk_bb bb pas its to 2 k = 0 → bb k = 0 ∨ k = its := by
        intro k hk0
        rw [b1] at hk0
        by_cases e1 : k = to
        · rw [if_pos e1] at hk0; omega
        · rw [if_neg e1] at hk0
          by_cases e2 : k = its
          · exact Or.inr e2
          · rw [if_neg e2] at hk0; exact Or.inl hk0
      rcases ray_two hb0 ⟨by omega, by rw [c5, c6], c3, c1⟩ (by omega) (by omega) 16 _ rfl with w | ⟨x1, m, x2, x3⟩
      · refine a1 i i0 i1 ?_
        rw [w, c2]
        exact q
      · refine h3 ⟨i, i0, i1, x1, ?_⟩
        rw [rayC_more m _ x3 (Or.inr (by omega)) 16 x2, c2]
        exact q
    · obtain ⟨c1, c2, -⟩ := hen _ _ q (by omega) (by omega)
      exact (a2 i i0 i1).1 c2
    · obtain ⟨c1, c2, -⟩ := hen _ _ q (by omega) (by omega)
      exact (a2 i i0 i1).2 c2
    · obtain ⟨c1, c2, -⟩ := hen _ _ q (by omega) (by omega)
      exact a3 i i0 i1 c2
  omega
end PSAF
