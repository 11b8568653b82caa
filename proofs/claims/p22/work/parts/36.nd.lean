section PND
variable {bb v : Int → Int} {k s t pas q its to as c x p kc i w y : Int}
def frL (i : Int) : Nat → Int → List Int
  | 0, _ => []
  | n + 1, c => if c = -1 then [] else c :: frL i n (gn c i)
def FR (its : Int) : Nat → Int → List Int
  | 0, _ => []
  | n + 1, i => frL i 17 (gn its i) ++ FR its n (i + 1)
def JR (its : Int) : Nat → Int → List Int
  | 0, _ => []
  | n + 1, i => (if gj its i = -1 then [] else [gj its i]) ++ JR its n (i + 1)
def ndB : List Int → Bool
  | [] => true
  | a :: l => l.all (fun b => !(a == b)) && ndB l
theorem ndB_ok : ∀ l : List Int, ndB l = true → l.Nodup
  | [], _ => List.nodup_nil
  | a :: l, h => by
    rw [ndB, Bool.and_eq_true] at h
    refine List.nodup_cons.mpr ⟨fun hm => ?_, ndB_ok l h.2⟩
    have := List.all_eq_true.mp h.1 a hm
    simp at this
set_option maxRecDepth 20000 in
theorem FR_N : ∀ k : Nat, k < 91 → (ndB (FR (k : Int) 12 0) && decide ((FR (k : Int) 12 0).length ≤ 42) && ndB (JR (k : Int) 12 0)) = true := by decide +kernel
theorem FR_ok (hk : 0 ≤ k ∧ k < 91) : (FR k 12 0).Nodup ∧ (FR k 12 0).length ≤ 42 ∧ (JR k 12 0).Nodup := by
  have h2 := FR_N k.toNat (by omega)
  rw [Int.toNat_of_nonneg hk.1, Bool.and_eq_true, Bool.and_eq_true] at h2
  exact ⟨ndB_ok _ h2.1.1, of_decide_eq_true h2.1.2, ndB_ok _ h2.2⟩
theorem slP_sub (h : VB v bb) (hb : MB bb) (ht : t = 0 ∨ t = 1) (hi : 0 ≤ i ∧ i < 12) : ∀ (n m : Nat) (p : Int), n ≤ m → 0 ≤ p ∧ p < 289 → List.Sublist ((slP v t (p_roM 2 i) n p).map q_cel) (frL i m (q_cel p))
  | 0, m, p, _, _ => by unfold slP; exact List.nil_sublist _
  | n + 1, m, p, hm, hp => by
    obtain ⟨m, rfl⟩ : ∃ m', m = m' + 1 := ⟨m - 1, by omega⟩
    obtain ⟨e1, e2, e3⟩ := sl_cel h hb hp ht
    have hr := ro2 hi
    rw [slP, frL, List.map_append]
    by_cases c : q_cel p = -1
    · have hon := e1.mpr c
      have e0 : ¬ q_on v p = 0 := by rw [hon]; decide
      have o0 : offL v t p = [] := by unfold offL; rw [if_neg (fun z => z.1 hon)]
      rw [if_neg e0, o0]
      exact List.nil_sublist _
    · rw [if_neg c]
      obtain ⟨g1, g2, g3⟩ := (geo2 hp).resolve_left c
      have hq := q_pl_nn ⟨g1, g2⟩
      have ih := slP_sub h hb ht hi n m (p + p_roM 2 i) (by omega) (by omega)
      have e9 : q_cel (p + p_roM 2 i) = gn (q_cel p) i := by unfold gn; rw [g3]
      rw [e9] at ih
      have hrest : List.Sublist ((if q_on v p = 0 then slP v t (p_roM 2 i) n (p + p_roM 2 i) else []).map q_cel) (frL i m (gn (q_cel p) i)) := by
        split
        · exact ih
        · exact List.nil_sublist _
      unfold offL
      split
      · exact List.Sublist.cons_cons _ hrest
      · exact List.Sublist.cons _ hrest
theorem gaP_sub {rc : Nat} (h : VB v bb) (hb : MB bb) (ht : t = 0 ∨ t = 1) (hk : 0 ≤ its ∧ its < 91) (hrc : rc ≤ 17) : ∀ (n : Nat) (i : Int), 0 ≤ i → i + n ≤ 12 → List.Sublist ((gaP v t 2 rc (q_pl its) n i).map q_cel) (FR its n i)
  | 0, i, _, _ => List.nil_sublist _
  | n + 1, i, h0, h1 => by
    have hq := q_pl_nn hk
    have hr := ro2 (i := i) (by omega)
    rw [gaP, FR, List.map_append]
    exact List.Sublist.append (slP_sub h hb ht (by omega) rc 17 _ hrc (by omega)) (gaP_sub h hb ht hk hrc n (i + 1) (by omega) (by omega))
theorem gaJ_sub (h : VB v bb) (hb : MB bb) (ht : t = 0 ∨ t = 1) (hk : 0 ≤ its ∧ its < 91) : ∀ (n : Nat) (i : Int), 0 ≤ i → i + n ≤ 12 → List.Sublist ((gaP v t 3 1 (q_pl its) n i).map q_cel) (JR its n i)
  | 0, i, _, _ => List.nil_sublist _
  | n + 1, i, h0, h1 => by
    have hq := q_pl_nn hk
    have hr := ro3 (i := i) (by omega)
    rw [gaP, JR, List.map_append]
    refine List.Sublist.append ?_ (gaJ_sub h hb ht hk n (i + 1) (by omega) (by omega))
    have hp : 0 ≤ q_pl its + p_roM 3 i ∧ q_pl its + p_roM 3 i < 289 := by omega
    have e1 : q_cel (q_pl its + p_roM 3 i) = gj its i := rfl
    obtain ⟨s1, -, -⟩ := sl_cel h hb hp ht
    rw [slP, slP]
    have e : (if q_on v (q_pl its + p_roM 3 i) = 0 then ([] : List Int) else []) = [] := by split <;> rfl
    rw [e, List.append_nil]
    by_cases c : gj its i = -1
    · have : offL v t (q_pl its + p_roM 3 i) = [] := by unfold offL; rw [if_neg (fun z => z.1 (s1.mpr (by rw [e1]; exact c)))]
      rw [this]; exact List.nil_sublist _
    · rw [if_neg c]
      unfold offL
      split
      · rw [List.map_singleton, e1]; exact List.Sublist.refl _
      · exact List.nil_sublist _
theorem FR_mid (its : Int) (m : Nat) : ∀ (n : Nat) (i : Int), List.Sublist (FR its m (i + n)) (FR its (n + m) i) ∧ List.Sublist (FR its n i) (FR its (n + m) i)
  | 0, i => by
    refine ⟨?_, List.nil_sublist _⟩
    rw [Nat.zero_add]
    show List.Sublist (FR its m (i + 0)) (FR its m i)
    rw [Int.add_zero]; exact List.Sublist.refl _
  | n + 1, i => by
    obtain ⟨h1, h2⟩ := FR_mid its m n (i + 1)
    rw [show n + 1 + m = (n + m) + 1 by omega]
    refine ⟨?_, ?_⟩
    · rw [FR, show i + ((n + 1 : Nat) : Int) = i + 1 + n by omega]
      exact List.Sublist.trans h1 (List.sublist_append_right ..)
    · rw [FR, FR]
      exact List.Sublist.append (List.Sublist.refl _) h2
/-- the pawn's four cells -/
def pr4 (k s : Int) : List Int := [gn k (m_ah s), gn (gn k (m_ah s)) (m_ah s), gn k (m_tk s 0), gn k (m_tk s 1)]
def pr4B : List Int → Bool
  | [] => true
  | a :: l => l.all (fun b => (a == -1) || !(a == b)) && pr4B l
theorem pr4_N : ∀ k : Nat, k < 91 → ∀ s : Nat, s < 2 → pr4B (pr4 (k : Int) (s : Int)) = true := by decide +kernel
theorem pr4_ok : ∀ l : List Int, pr4B l = true → l.Pairwise (fun a b => a = -1 ∨ a ≠ b)
  | [], _ => List.Pairwise.nil
  | a :: l, h => by
    rw [pr4B, Bool.and_eq_true] at h
    refine List.pairwise_cons.mpr ⟨fun b hb => ?_, pr4_ok l h.2⟩
    have := List.all_eq_true.mp h.1 b hb
    simpa using this
end PND
