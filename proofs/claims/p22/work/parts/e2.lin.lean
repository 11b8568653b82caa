section PLIN
variable {bs : Int → Int} {z p st c k i t : Int} {w : List Int} {n m s pc : Nat} {S S1 S2 : GSx} {Q : List TKn} {bb : Int → Int}
def nmf : Nat → Int → Int → Int
  | 0, _, x => x
  | m + 1, c, x => nmf m (c + 1) (x - (11 - ab (c - 5)))
def num (k : Int) : Int := nmf (gx k + 5).toNat 0 (k + 1)
def nmW (k : Int) : List Int := (97 + (gx k + 5)) :: nmD (num k)
def nmC (k : Int) : Bool := isWd (nmW k) && decide (kdf (nmW k) 16 0 = 14) && decide (csw (nmW k) = k) && decide (1 ≤ num k) && decide (num k < 100) && decide ((nmW k).length ≤ 3) && (nmW k).all (fun x => decide (33 ≤ x) && decide (x < 128))
set_option maxRecDepth 20000 in
theorem nmN : ∀ k : Nat, k < 91 → nmC (k : Int) = true := by decide +kernel
theorem nm_ok (hk : 0 ≤ k ∧ k < 91) : isWd (nmW k) = true ∧ kdf (nmW k) 16 0 = 14 ∧ csw (nmW k) = k ∧ (1 ≤ num k ∧ num k < 100) ∧ (nmW k).length ≤ 3 ∧ ∀ x ∈ nmW k, 33 ≤ x ∧ x < 128 := by
  have h := nmN k.toNat (by omega)
  rw [Int.toNat_of_nonneg hk.1] at h
  unfold nmC at h
  simp only [Bool.and_eq_true, decide_eq_true_eq] at h
  obtain ⟨⟨⟨⟨⟨⟨h1, h2⟩, h3⟩, h4⟩, h5⟩, h6⟩, h7⟩ := h
  refine ⟨h1, h2, h3, ⟨h4, h5⟩, h6, fun x hx => ?_⟩
  have := List.all_eq_true.mp h7 x hx
  rw [Bool.and_eq_true, decide_eq_true_eq, decide_eq_true_eq] at this
  exact this
/-- a word, a blank, more -/
theorem tok_b {rest : List Int} (hw : isWd w = true) (hl : w.length ≤ 1000) (ha : At bs z p (w ++ 32 :: rest)) (hr : ∀ x, rest.head? = some x → x ≠ 32 ∧ x ≠ 10) (hne : rest ≠ []) (hz : p + w.length ≤ z) {k : Nat} (hk : kdf w 16 0 = k) {st' : Int} (hs : g_b st k = st') (h10 : st' ≠ 10) :
    t_read bs z (n + 1) st p Q = t_read bs z n st' (p + w.length + 1) (Q ++ [(p, k, csw w)]) ∧ At bs z (p + w.length + 1) rest := by
  obtain ⟨a1, a2⟩ := ha.app
  obtain ⟨b1, b2⟩ := a2.hd
  refine ⟨tok_1 hw hl a1 (Or.inr (by rw [b1]; decide)) hz hk hs h10 (t_bk1 (Or.inl b1) ?_), b2⟩
  cases rest with
  | nil => exact absurd rfl hne
  | cons x r => rw [b2.hd.1]; exact hr x rfl
def lnT (s pc : Nat) (c : Int) : List Int := p_roL 65 ++ 32 :: (p_roL (69 + s) ++ 32 :: (p_roL (70 + pc) ++ 32 :: (nmW c ++ [59])))
theorem sd_ok (hs : s < 2) : isWd (p_roL (69 + s)) = true ∧ kdf (p_roL (69 + s)) 16 0 = 5 + s ∧ (p_roL (69 + s)).length = 5 ∧ (∀ x, (p_roL (69 + s)).head? = some x → x ≠ 32 ∧ x ≠ 10) := by
  have : s = 0 ∨ s = 1 := by omega
  rcases this with rfl | rfl
  · refine ⟨by decide, by decide, by decide, fun x hx => ?_⟩
    cases hx; decide
  · refine ⟨by decide, by decide, by decide, fun x hx => ?_⟩
    cases hx; decide
theorem pc_ok (hp : 1 ≤ pc ∧ pc ≤ 6) : isWd (p_roL (70 + pc)) = true ∧ kdf (p_roL (70 + pc)) 16 0 = 6 + pc ∧ (p_roL (70 + pc)).length ≤ 6 ∧ 4 ≤ (p_roL (70 + pc)).length ∧ (∀ x, (p_roL (70 + pc)).head? = some x → x ≠ 32 ∧ x ≠ 10) := by
  have : pc = 1 ∨ pc = 2 ∨ pc = 3 ∨ pc = 4 ∨ pc = 5 ∨ pc = 6 := by omega
  rcases this with rfl | rfl | rfl | rfl | rfl | rfl <;>
    (refine ⟨by decide, by decide, by decide, by decide, fun x hx => ?_⟩; cases hx; decide)
theorem kn_sd (hs : s < 2) : knum (5 + s) = s := by
  have : s = 0 ∨ s = 1 := by omega
  rcases this with rfl | rfl <;> rfl
theorem kn_pc (hp : 1 ≤ pc ∧ pc ≤ 6) : knum (6 + pc) = pc := by
  unfold knum
  rw [if_neg (by omega), if_neg (by omega), if_pos (by omega)]
  omega
theorem hd_app {a b : List Int} (h : a ≠ []) : (a ++ b).head? = a.head? := by
  cases a with
  | nil => exact absurd rfl h
  | cons x a => rfl
theorem TQ.put (hs : s < 2) (hp : 1 ≤ pc ∧ pc ≤ 6) (hc : 0 ≤ c ∧ c < 91) (h1 : sm (a_pc bb (s : Int)) 91 < 20) (h2 : pc = 1 → m_king bb (s : Int) = -1) (h3 : bb c = 0) : TQ (lnT s pc c) (bb, t, -1, 0, []) (u1 bb c (10 * (s : Int) + pc), t, -1, 0, []) 5 := by
  intro bs z p h0 hz ha hn
  obtain ⟨s1, s2, s3, s4⟩ := sd_ok hs
  obtain ⟨p1, p2, p3, p3', p4⟩ := pc_ok hp
  obtain ⟨n1, n2, n3, n4, n5, n6⟩ := nm_ok hc
  have hne : nmW c ≠ [] := by unfold nmW; simp
  have nh : ∀ x, (nmW c ++ [59]).head? = some x → x ≠ 32 ∧ x ≠ 10 := by
    intro x hx
    rw [hd_app hne] at hx
    have := n6 x (List.mem_of_mem_head? (by rw [hx]; rfl))
    omega
  have l1 : (p_roL 65).length = 3 := rfl
  have hlen : (lnT s pc c).length = 3 + (1 + ((p_roL (69 + s)).length + (1 + ((p_roL (70 + pc)).length + (1 + ((nmW c).length + 1)))))) := by
    unfold lnT
    simp only [List.length_append, List.length_cons, List.length_nil, l1]
    omega
  rw [hlen] at hz hn ⊢
  have q2 : p_roL (69 + s) ≠ [] := by intro z; rw [z] at s3; simp at s3
  have q3 : p_roL (70 + pc) ≠ [] := by intro z; rw [z] at p3'; simp at p3'
  -- the tokens
  have hd1 : ∀ x, (p_roL (69 + s) ++ 32 :: (p_roL (70 + pc) ++ 32 :: (nmW c ++ [59]))).head? = some x → x ≠ 32 ∧ x ≠ 10 := fun x hx => s4 x (by rw [hd_app q2] at hx; exact hx)
  have hd2 : ∀ x, (p_roL (70 + pc) ++ 32 :: (nmW c ++ [59])).head? = some x → x ≠ 32 ∧ x ≠ 10 := fun x hx => p4 x (by rw [hd_app q3] at hx; exact hx)
  have T1 := fun (n : Nat) (Q : List TKn) => tok_b (n := n) (Q := Q) (st := 0) (w := p_roL 65) (by decide) (by decide) ha hd1 (by simp [q2]) (by rw [l1]; omega) (k := 1) (by decide) (st' := 1) rfl (by decide)
  obtain ⟨-, A1⟩ := T1 0 []
  have T2 := fun (n : Nat) (Q : List TKn) => tok_b (n := n) (Q := Q) (st := 1) s1 (by omega) A1 hd2 (by simp [q3]) (by rw [l1]; omega) s2 (st' := 2) (by unfold g_b; rw [if_neg (by decide), if_pos rfl, if_pos (by omega)]) (by decide)
  obtain ⟨-, A2⟩ := T2 0 []
  have T3 := fun (n : Nat) (Q : List TKn) => tok_b (n := n) (Q := Q) (st := 2) p1 (by omega) A2 nh (by simp) (by rw [l1]; omega) p2 (st' := 3) (by unfold g_b; rw [if_neg (by decide), if_neg (by decide), if_pos rfl, if_pos (by omega)]) (by decide)
  obtain ⟨-, A3⟩ := T3 0 []
  obtain ⟨A4, A5⟩ := A3.app
  have b59 := A5.hd.1
  have T4 := fun (n : Nat) (Q : List TKn) => tok_1 (n := n) (Q := Q) (st := 3) n1 (by omega) A4 (Or.inr (by rw [b59]; decide)) (by rw [l1]; omega) n2 (st' := 9) rfl (by decide) (t_bk0 (by rw [b59]; decide))
  have E5 : p + ((p_roL 65).length : Int) + 1 + (p_roL (69 + s)).length + 1 + (p_roL (70 + pc)).length + 1 + (nmW c).length + (([59] : List Int).length : Int) = p + ((3 + (1 + ((p_roL (69 + s)).length + (1 + ((p_roL (70 + pc)).length + (1 + ((nmW c).length + 1)))))) : Nat) : Int) := by
    rw [l1, show ([59] : List Int).length = 1 from rfl]; omega
  have T5 := fun (n : Nat) (Q : List TKn) => show t_read bs z (n + 1) 9 (p + ((p_roL 65).length : Int) + 1 + (p_roL (69 + s)).length + 1 + (p_roL (70 + pc)).length + 1 + (nmW c).length) Q = t_read bs z n 0 (p + ((3 + (1 + ((p_roL (69 + s)).length + (1 + ((p_roL (70 + pc)).length + (1 + ((nmW c).length + 1)))))) : Nat) : Int)) (Q ++ [(p + ((p_roL 65).length : Int) + 1 + (p_roL (69 + s)).length + 1 + (p_roL (70 + pc)).length + 1 + (nmW c).length, 13, csw [59])]) by
    rw [← E5]
    refine tok_1 (w := [59]) (by decide) (by decide) A5 (Or.inl rfl) ?_ (k := 13) (by decide) rfl (by decide) (t_bk0 ?_)
    · rw [E5]; exact hz
    · rw [E5]; exact hn
  refine ⟨[(p, 1, csw (p_roL 65)), (p + (p_roL 65).length + 1, 5 + s, csw (p_roL (69 + s))), (p + (p_roL 65).length + 1 + (p_roL (69 + s)).length + 1, 6 + pc, csw (p_roL (70 + pc))), (p + (p_roL 65).length + 1 + (p_roL (69 + s)).length + 1 + (p_roL (70 + pc)).length + 1, 14, csw (nmW c)), (p + (p_roL 65).length + 1 + (p_roL (69 + s)).length + 1 + (p_roL (70 + pc)).length + 1 + (nmW c).length, 13, csw [59])], fun R => ?_, fun n Q => ?_⟩
  · rw [n3]
    have hput : ∀ x1 x2 x5 : TKn, ∀ q1 q2 q3 : Int, d_put ((q1, 5 + s, x1.2.2) :: (q2, 6 + pc, x2.2.2) :: (q3, 14, c) :: x5 :: R) (bb, t, -1, 0, []) = (0, -1, (u1 bb c (10 * (s : Int) + pc), t, -1, 0, [])) := by
      intro x1 x2 x5 q1 q2 q3
      have g0 : ((q1, 5 + s, x1.2.2) :: (q2, 6 + pc, x2.2.2) :: (q3, 14, c) :: x5 :: R : List TKn).getD 0 tk0 = (q1, 5 + s, x1.2.2) := rfl
      have g1 : ((q1, 5 + s, x1.2.2) :: (q2, 6 + pc, x2.2.2) :: (q3, 14, c) :: x5 :: R : List TKn).getD 1 tk0 = (q2, 6 + pc, x2.2.2) := rfl
      have g2 : ((q1, 5 + s, x1.2.2) :: (q2, 6 + pc, x2.2.2) :: (q3, 14, c) :: x5 :: R : List TKn).getD 2 tk0 = (q3, 14, c) := rfl
      unfold d_put
      rw [g0, g1, g2, kn_sd hs, kn_pc hp]
      dsimp only
      rw [if_neg (by omega), if_neg (fun z => z.2 (h2 (by omega))), if_neg (by omega), if_neg (fun z => z h3)]
    rw [List.cons_append, List.cons_append, List.cons_append, List.cons_append, List.cons_append, List.nil_append]
    rw [d_run, if_neg (show ¬ (1 : Nat) = 0 by decide), if_pos rfl]
    rw [hput (0, 0, _) (0, 0, _) _, if_pos rfl]
    rw [d_run, if_neg (by show ¬ 5 + s = 0; omega), if_neg (by show ¬ 5 + s = 1; omega), if_neg (by show ¬ 5 + s = 2; omega), if_neg (by show ¬ 5 + s = 3; omega)]
    rw [d_run, if_neg (by show ¬ 6 + pc = 0; omega), if_neg (by show ¬ 6 + pc = 1; omega), if_neg (by show ¬ 6 + pc = 2; omega), if_neg (by show ¬ 6 + pc = 3; omega)]
    rw [d_run, if_neg (show ¬ (14 : Nat) = 0 by decide), if_neg (show ¬ (14 : Nat) = 1 by decide), if_neg (show ¬ (14 : Nat) = 2 by decide), if_neg (show ¬ (14 : Nat) = 3 by decide)]
    rw [d_run, if_neg (show ¬ (13 : Nat) = 0 by decide), if_neg (show ¬ (13 : Nat) = 1 by decide), if_neg (show ¬ (13 : Nat) = 2 by decide), if_neg (show ¬ (13 : Nat) = 3 by decide)]
  · rw [show n + 5 = n + 1 + 1 + 1 + 1 + 1 by omega, (T1 _ _).1, (T2 _ _).1, (T3 _ _).1, T4, T5]
    simp only [List.append_assoc, List.cons_append, List.nil_append]
theorem TQ.turn : TQ (p_roL 87) (bb, t, -1, 0, []) (bb, 1, -1, 0, []) 3 := by
  intro bs z p h0 hz ha hn
  have l : (p_roL 87).length = 12 := rfl
  rw [l] at hz hn ⊢
  have ha : At bs z p (p_roL 66 ++ 32 :: (p_roL 70 ++ [59, 10])) := ha
  have T1 := fun (n : Nat) (Q : List TKn) => tok_b (n := n) (Q := Q) (st := 0) (w := p_roL 66) (by decide) (by decide) ha (fun x hx => by cases hx; decide) (by decide) (by rw [show (p_roL 66).length = 4 from rfl]; omega) (k := 2) (by decide) (st' := 4) rfl (by decide)
  obtain ⟨-, A1⟩ := T1 0 []
  obtain ⟨A2, A3⟩ := A1.app
  obtain ⟨b59, A4⟩ := A3.hd
  have b10 := A4.hd.1
  have T2 := fun (n : Nat) (Q : List TKn) => tok_1 (n := n) (Q := Q) (st := 4) (w := p_roL 70) (by decide) (by decide) A2 (Or.inr (by rw [b59]; decide)) (by rw [show (p_roL 66).length = 4 from rfl, show (p_roL 70).length = 5 from rfl]; omega) (k := 6) (by decide) (st' := 9) rfl (by decide) (t_bk0 (by rw [b59]; decide))
  have A3' : At bs z (p + (p_roL 66).length + 1 + (p_roL 70).length) ([59] ++ [10]) := A3
  have e12 : p + ((p_roL 66).length : Int) + 1 + (p_roL 70).length + (([59] : List Int).length : Int) + 1 = p + 12 := by
    rw [show (p_roL 66).length = 4 from rfl, show (p_roL 70).length = 5 from rfl, show ([59] : List Int).length = 1 from rfl]; omega
  have T3 := fun (n : Nat) (Q : List TKn) => tok_1 (n := n) (Q := Q) (st := 9) (w := [59]) (by decide) (by decide) A3'.app.1 (Or.inl rfl) (by rw [show (p_roL 66).length = 4 from rfl, show (p_roL 70).length = 5 from rfl, show ([59] : List Int).length = 1 from rfl]; omega) (k := 13) (by decide) (st' := 0) rfl (by decide) (t_bk1 (Or.inr (by rw [show (([59] : List Int).length : Int) = 1 from rfl]; exact b10)) (by rw [e12]; exact hn))
  refine ⟨[(p, 2, csw (p_roL 66)), (p + (p_roL 66).length + 1, 6, csw (p_roL 70)), (p + (p_roL 66).length + 1 + (p_roL 70).length, 13, csw [59])], fun R => ?_, fun n Q => ?_⟩
  · rw [List.cons_append, List.cons_append, List.cons_append, List.nil_append]
    rw [d_run, if_neg (show ¬ (2 : Nat) = 0 by decide), if_neg (show ¬ (2 : Nat) = 1 by decide), if_pos rfl]
    rw [d_run, if_neg (show ¬ (6 : Nat) = 0 by decide), if_neg (show ¬ (6 : Nat) = 1 by decide), if_neg (show ¬ (6 : Nat) = 2 by decide), if_neg (show ¬ (6 : Nat) = 3 by decide)]
    rw [d_run, if_neg (show ¬ (13 : Nat) = 0 by decide), if_neg (show ¬ (13 : Nat) = 1 by decide), if_neg (show ¬ (13 : Nat) = 2 by decide), if_neg (show ¬ (13 : Nat) = 3 by decide)]
    rfl
  · rw [show n + 3 = n + 1 + 1 + 1 by omega, (T1 _ _).1, T2, T3, e12]
    simp only [List.append_assoc, List.cons_append, List.nil_append]
    rfl
theorem TQ.start : TQ (p_roL 82) S (q_sb, 0, -1, 0, []) 2 := by
  intro bs z p h0 hz ha hn
  have l : (p_roL 82).length = 6 := rfl
  rw [l] at hz hn ⊢
  have ha : At bs z p (p_roL 64 ++ [59]) := ha
  obtain ⟨A2, A3⟩ := ha.app
  obtain ⟨b59, -⟩ := A3.hd
  have T2 := fun (n : Nat) (Q : List TKn) => tok_1 (n := n) (Q := Q) (st := 0) (w := p_roL 64) (by decide) (by decide) A2 (Or.inr (by rw [b59]; decide)) (by rw [show (p_roL 64).length = 5 from rfl]; omega) (k := 0) (by decide) (st' := 9) rfl (by decide) (t_bk0 (by rw [b59]; decide))
  have e6 : p + ((p_roL 64).length : Int) + (([59] : List Int).length : Int) = p + 6 := by
    rw [show (p_roL 64).length = 5 from rfl, show ([59] : List Int).length = 1 from rfl]; omega
  have T3 := fun (n : Nat) (Q : List TKn) => tok_1 (n := n) (Q := Q) (st := 9) (w := [59]) (by decide) (by decide) A3 (Or.inl rfl) (by rw [e6]; exact hz) (k := 13) (by decide) (st' := 0) rfl (by decide) (t_bk0 (by rw [e6]; exact hn))
  refine ⟨[(p, 0, csw (p_roL 64)), (p + (p_roL 64).length, 13, csw [59])], fun R => ?_, fun n Q => ?_⟩
  · rw [List.cons_append, List.cons_append, List.nil_append]
    rw [d_run, if_pos rfl]
    rw [d_run, if_neg (show ¬ (13 : Nat) = 0 by decide), if_neg (show ¬ (13 : Nat) = 1 by decide), if_neg (show ¬ (13 : Nat) = 2 by decide), if_neg (show ¬ (13 : Nat) = 3 by decide)]
  · rw [show n + 2 = n + 1 + 1 by omega, T2, T3, e6]
    simp only [List.append_assoc, List.cons_append, List.nil_append]
    rfl
end PLIN
