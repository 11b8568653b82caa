section PWLK
/-- the cells that are reached: how far, and in which order -/
abbrev WSt : Type := (Int → Int) × List Int
noncomputable def w_r (S : WSt) (c m : Int) : WSt := if c = -1 ∨ S.1 c ≠ -1 then S else (u1 S.1 c m, S.2 ++ [c])
noncomputable def w_s (nx : Int → Int) (m : Int) : Nat → Int → WSt → WSt
  | 0, _, S => S
  | n + 1, c, S => if c = -1 then S else w_s nx m n (nx c) (w_r S c m)
def w_nx (kd i : Int) : Int → Int := fun c => if kd = 5 then gj c i else gn c i
def w_rn (kd : Int) : Nat := if kd = 1 ∨ kd = 5 then 1 else 17
noncomputable def w_k (kd k m i : Int) (S : WSt) : WSt := if (kd = 3 ∧ 6 ≤ i) ∨ (kd = 4 ∧ i < 6) then S else w_s (w_nx kd i) m (w_rn kd) (w_nx kd i k) S
noncomputable def w_o (kd k m : Int) : Nat → Int → WSt → WSt
  | 0, _, S => S
  | n + 1, i, S => w_o kd k m n (i + 1) (w_k kd k m i S)
noncomputable def w_g (kd k : Int) (S : WSt) : WSt := w_o kd k (S.1 k + 1) 12 0 S
noncomputable def w_l (kd : Int) : Nat → Nat → WSt → WSt
  | 0, _, S => S
  | n + 1, k, S => if k < S.2.length then w_l kd n (k + 1) (w_g kd (S.2.getD k 0) S) else S
noncomputable def w_far (kd a b : Int) : Int := (w_l kd 91 0 (w_r (fun _ => -1, []) a 0)).1 b
def WI (S : WSt) : Prop := (∀ c ∈ S.2, 0 ≤ c ∧ c < 91) ∧ S.2.Nodup ∧ (∀ c, 0 ≤ c → c < 91 → (S.1 c ≠ -1 ↔ c ∈ S.2)) ∧ (∀ c ∈ S.2, 0 ≤ S.1 c ∧ S.1 c < S.2.length)
theorem nd_len : ∀ (N : Nat) (L : List Int), L.Nodup → (∀ c ∈ L, 0 ≤ c ∧ c < N) → L.length ≤ N
  | 0, L, _, h => by
    cases L with
    | nil => exact Nat.le_refl _
    | cons x L => have := h x List.mem_cons_self; omega
  | N + 1, L, hn, h => by
    by_cases e : (N : Int) ∈ L
    · have h1 := nd_len N (L.erase (N : Int)) (hn.erase _) (fun c hc => by
        have h2 := (hn.mem_erase_iff).mp hc
        have h3 := h c h2.2
        have h4 := h2.1
        omega)
      rw [List.length_erase_of_mem e] at h1
      omega
    · have h1 := nd_len N L hn (fun c hc => by
        have h3 := h c hc
        have h4 : c ≠ N := fun z => e (z ▸ hc)
        omega)
      omega
variable {S S1 : WSt} {k m c i kd a : Int} {n : Nat}
theorem WI.len (h : WI S) : S.2.length ≤ 91 := nd_len 91 S.2 h.2.1 h.1
theorem WI.rg (h : WI S) (hc : 0 ≤ c ∧ c < 91) : -1 ≤ S.1 c ∧ S.1 c < 91 := by
  have hl := h.len
  by_cases e : c ∈ S.2
  · have := h.2.2.2 c e; omega
  · have : ¬ S.1 c ≠ -1 := fun z => e ((h.2.2.1 c hc.1 hc.2).mp z)
    omega
theorem WI.lt (h : WI S) (hc : 0 ≤ c ∧ c < 91) (e : S.1 c = -1) : S.2.length < 91 := by
  have h1 : c ∉ S.2 := fun z => (h.2.2.1 c hc.1 hc.2).mpr z e
  have h2 := nd_len 91 (c :: S.2) (List.nodup_cons.mpr ⟨h1, h.2.1⟩) (fun x hx => by
    rcases List.mem_cons.mp hx with rfl | hx
    · omega
    · have := h.1 x hx; omega)
  rw [List.length_cons] at h2
  omega
theorem w_r_len : S.2.length ≤ (w_r S c m).2.length := by
  unfold w_r; split
  · exact Nat.le_refl _
  · rw [List.length_append]; omega
theorem WI.r (h : WI S) (hc : -1 ≤ c ∧ c < 91) (hm : 0 ≤ m ∧ m ≤ S.2.length) : WI (w_r S c m) := by
  unfold w_r
  by_cases e : c = -1 ∨ S.1 c ≠ -1
  · rw [if_pos e]; exact h
  · rw [if_neg e]
    have e1 : S.1 c = -1 := by
      by_cases z : S.1 c = -1
      · exact z
      · exact absurd (Or.inr z) e
    have c0 : 0 ≤ c ∧ c < 91 := by
      have : c ≠ -1 := fun z => e (Or.inl z)
      omega
    have h1 : c ∉ S.2 := fun z => (h.2.2.1 c c0.1 c0.2).mpr z e1
    obtain ⟨i1, i2, i3, i4⟩ := h
    refine ⟨fun x hx => ?_, ?_, fun x x0 x1 => ?_, fun x hx => ?_⟩
    · rcases List.mem_append.mp hx with hx | hx
      · exact i1 x hx
      · rw [List.mem_singleton.mp hx]; exact c0
    · refine List.nodup_append.mpr ⟨i2, List.nodup_cons.mpr ⟨List.not_mem_nil, List.nodup_nil⟩, fun x hx y hy => ?_⟩
      rw [List.mem_singleton.mp hy]
      exact fun z => h1 (z ▸ hx)
    · show u1 S.1 c m x ≠ -1 ↔ x ∈ S.2 ++ [c]
      rw [List.mem_append, List.mem_singleton]
      by_cases e2 : x = c
      · rw [e2, u1_s]; exact ⟨fun _ => Or.inr rfl, fun _ => by omega⟩
      · rw [u1_n e2]
        exact ⟨fun z => Or.inl ((i3 x x0 x1).mp z), fun z => (i3 x x0 x1).mpr (z.resolve_right e2)⟩
    · show 0 ≤ u1 S.1 c m x ∧ u1 S.1 c m x < ((S.2 ++ [c]).length : Nat)
      rw [List.length_append, List.length_singleton]
      by_cases e2 : x = c
      · rw [e2, u1_s]; omega
      · rw [u1_n e2]
        have hx : x ∈ S.2 ++ [c] := hx
        rw [List.mem_append, List.mem_singleton] at hx
        have := i4 x (hx.resolve_right e2)
        omega
theorem w_nx_rg (hc : 0 ≤ c ∧ c < 91) (hi : 0 ≤ i ∧ i < 12) : -1 ≤ w_nx kd i c ∧ w_nx kd i c < 91 := by
  unfold w_nx
  split
  · exact gj_rg hc hi
  · exact gn_rg hc hi
theorem WI.slide {kd m : Int} (hi : 0 ≤ i ∧ i < 12) : ∀ (n : Nat) (c : Int) (S : WSt), WI S → -1 ≤ c ∧ c < 91 → 0 ≤ m ∧ m ≤ S.2.length → WI (w_s (w_nx kd i) m n c S) ∧ S.2.length ≤ (w_s (w_nx kd i) m n c S).2.length
  | 0, c, S, h, _, _ => ⟨h, Nat.le_refl _⟩
  | n + 1, c, S, h, hc, hm => by
    rw [w_s]
    by_cases e : c = -1
    · rw [if_pos e]; exact ⟨h, Nat.le_refl _⟩
    · rw [if_neg e]
      have h1 := h.r hc hm
      have h2 := w_r_len (S := S) (c := c) (m := m)
      have h3 := WI.slide (kd := kd) (m := m) hi n (w_nx kd i c) (w_r S c m) h1 (w_nx_rg (by omega) hi) (by omega)
      exact ⟨h3.1, Nat.le_trans h2 h3.2⟩
theorem WI.kk (h : WI S) (hk : 0 ≤ k ∧ k < 91) (hi : 0 ≤ i ∧ i < 12) (hm : 0 ≤ m ∧ m ≤ S.2.length) : WI (w_k kd k m i S) ∧ S.2.length ≤ (w_k kd k m i S).2.length := by
  unfold w_k
  split
  · exact ⟨h, Nat.le_refl _⟩
  · exact WI.slide hi _ _ S h (w_nx_rg hk hi) hm
theorem WI.oo {kd m : Int} (hk : 0 ≤ k ∧ k < 91) : ∀ (n : Nat) (i : Int) (S : WSt), WI S → 0 ≤ i → i + n ≤ 12 → 0 ≤ m ∧ m ≤ S.2.length → WI (w_o kd k m n i S) ∧ S.2.length ≤ (w_o kd k m n i S).2.length
  | 0, i, S, h, _, _, _ => ⟨h, Nat.le_refl _⟩
  | n + 1, i, S, h, h0, h1, hm => by
    rw [w_o]
    have h2 := h.kk (kd := kd) (i := i) hk (by omega) hm
    have h3 := WI.oo (kd := kd) (m := m) hk n (i + 1) _ h2.1 (by omega) (by omega) (by omega)
    exact ⟨h3.1, Nat.le_trans h2.2 h3.2⟩
theorem WI.mm (h : WI S) (hk : k ∈ S.2) : 0 ≤ S.1 k + 1 ∧ S.1 k + 1 ≤ S.2.length := by
  have := h.2.2.2 k hk; omega
theorem WI.at (hn : n < S.2.length) : S.2.getD n 0 ∈ S.2 := by
  rw [List.getD_eq_getElem?_getD, List.getElem?_eq_getElem hn]
  exact List.getElem_mem hn
theorem WI.g (h : WI S) (hk : k ∈ S.2) : WI (w_g kd k S) ∧ S.2.length ≤ (w_g kd k S).2.length   := WI.oo (h.1 k hk) 12 0 S h (by omega) (by omega) (h.mm hk)
theorem w_o_add : ∀ (n1 n2 : Nat) (i : Int) (S : WSt), w_o kd k m (n1 + n2) i S = w_o kd k m n2 (i + n1) (w_o kd k m n1 i S)
  | 0, n2, i, S => by rw [Nat.zero_add, w_o, show i + ((0 : Nat) : Int) = i by omega]
  | n1 + 1, n2, i, S => by
    rw [show n1 + 1 + n2 = (n1 + n2) + 1 by omega, w_o, w_o_add n1 n2, w_o]
    rw [show i + 1 + (n1 : Int) = i + ((n1 + 1 : Nat) : Int) by omega]
theorem w_o_id : ∀ (n : Nat) (i : Int) (S : WSt), (∀ j, i ≤ j → j < i + n → (kd = 3 ∧ 6 ≤ j) ∨ (kd = 4 ∧ j < 6)) → w_o kd k m n i S = S
  | 0, i, S, _ => rfl
  | n + 1, i, S, h => by
    rw [w_o, show w_k kd k m i S = S from if_pos (h i (by omega) (by omega))]
    exact w_o_id n (i + 1) S (fun j h0 h1 => h j (by omega) (by omega))
/-- the steps that a kind goes by -/
theorem w_o_part (h : kd = 1 ∨ kd = 2 ∨ kd = 3 ∨ kd = 4 ∨ kd = 5) : w_o kd k m 12 0 S = w_o kd k m (q_hi kd - q_lo kd).toNat (q_lo kd) S := by
  rcases h with rfl | rfl | rfl | rfl | rfl
  · rfl
  · rfl
  · rw [show (12 : Nat) = 6 + 6 from rfl, w_o_add, w_o_id 6 _ _ (fun j h0 h1 => Or.inl ⟨rfl, by omega⟩)]; rfl
  · rw [show (12 : Nat) = 6 + 6 from rfl, w_o_add, w_o_id 6 0 _ (fun j h0 h1 => Or.inr ⟨rfl, by omega⟩)]; rfl
  · rfl
theorem WI.init : WI (fun _ => -1, []) := ⟨fun c hc => absurd hc List.not_mem_nil, List.nodup_nil, fun c _ _ => ⟨fun z => absurd rfl z, fun z => absurd z List.not_mem_nil⟩, fun c hc => absurd hc List.not_mem_nil⟩
end PWLK
