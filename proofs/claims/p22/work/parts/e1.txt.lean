section PTXT
/-! texts and their tokens -/
variable {bs : Int → Int} {z p st c k i : Int} {w : List Int} {n m : Nat} {S S1 S2 : GSx} {Q : List TKn}
def At (bs : Int → Int) (z p : Int) (w : List Int) : Prop := ∀ j : Nat, j < w.length → t_b bs z (p + j) = w.getD j 0
theorem At.app {a b : List Int} (h : At bs z p (a ++ b)) : At bs z p a ∧ At bs z (p + a.length) b := by
  constructor
  · intro j hj
    rw [h j (by rw [List.length_append]; omega), getD_ap1 _ _ hj]
  · intro j hj
    have := h (a.length + j) (by rw [List.length_append]; omega)
    rw [getD_ap2 _ _ (by omega), show a.length + j - a.length = j by omega] at this
    rw [← this, show p + a.length + (j : Int) = p + ((a.length + j : Nat) : Int) by omega]
theorem At.hd {x : Int} {a : List Int} (h : At bs z p (x :: a)) : t_b bs z p = x ∧ At bs z (p + 1) a := by
  constructor
  · have := h 0 (by rw [List.length_cons]; omega)
    rw [show p + ((0 : Nat) : Int) = p by omega] at this
    exact this
  · intro j hj
    have := h (j + 1) (by rw [List.length_cons]; omega)
    rw [show p + ((j + 1 : Nat) : Int) = p + 1 + j by omega] at this
    exact this
def isLD (x : Int) : Bool := (decide (97 ≤ x) && decide (x ≤ 122)) || (decide (48 ≤ x) && decide (x ≤ 57))
theorem isLD_iff {x : Int} : isLD x = true ↔ t_L x ∨ t_D x := by
  unfold isLD t_L t_D
  rw [Bool.or_eq_true, Bool.and_eq_true, Bool.and_eq_true, decide_eq_true_eq, decide_eq_true_eq, decide_eq_true_eq, decide_eq_true_eq]
theorem t_tk_at : ∀ (w : List Int) (p : Int) (n : Nat), w.length ≤ n → At bs z p w → w.all isLD = true → isLD (t_b bs z (p + w.length)) = false → t_tk bs z n p = p + w.length
  | [], p, 0, _, _, _, _ => by rw [t_tk]; simp
  | [], p, n + 1, _, _, _, h => by
    rw [t_tk, if_neg]
    · simp
    · intro z
      have := isLD_iff.mpr z
      rw [List.length_nil, show p + ((0 : Nat) : Int) = p by omega] at h
      rw [h] at this
      cases this
  | x :: w, p, 0, hl, _, _, _ => by rw [List.length_cons] at hl; omega
  | x :: w, p, n + 1, hl, ha, hw, hn => by
    obtain ⟨h1, h2⟩ := ha.hd
    rw [List.all_cons, Bool.and_eq_true] at hw
    rw [List.length_cons] at hl hn
    rw [t_tk, if_pos (by rw [h1]; exact isLD_iff.mp hw.1), t_tk_at w (p + 1) n (by omega) h2 hw.2 (by rw [← hn, show p + 1 + (w.length : Int) = p + ((w.length + 1 : Nat) : Int) by omega]), List.length_cons]
    omega
/-- a word, and what kind it is -/
def isWd (w : List Int) : Bool := match w with
  | [] => false
  | x :: r => (decide (97 ≤ x) && decide (x ≤ 122) && r.all isLD) || (decide (x = 59) && r.isEmpty)
theorem t_end_at (hw : isWd w = true) (hl : w.length ≤ 1000) (ha : At bs z p w) (hn : w = [59] ∨ isLD (t_b bs z (p + w.length)) = false) : t_end bs z p = p + w.length := by
  cases w with
  | nil => cases hw
  | cons x r =>
    obtain ⟨h1, h2⟩ := ha.hd
    unfold isWd at hw
    rw [Bool.or_eq_true, Bool.and_eq_true, Bool.and_eq_true, Bool.and_eq_true, decide_eq_true_eq, decide_eq_true_eq, decide_eq_true_eq] at hw
    rw [List.length_cons] at hn hl
    unfold t_end
    rw [h1]
    rcases hw with ⟨⟨a1, a2⟩, a3⟩ | ⟨a1, a2⟩
    · have hn := hn.resolve_left (fun z => by have := (List.cons.inj z).1; omega)
      rw [if_pos ⟨a1, a2⟩, t_tk_at r (p + 1) 2000 (by omega) h2 a3 (by rw [← hn, show p + 1 + (r.length : Int) = p + ((r.length + 1 : Nat) : Int) by omega]), List.length_cons]
      omega
    · rw [if_neg (by unfold t_L; omega)]
      have : r = [] := List.isEmpty_iff.mp a2
      rw [this]
      simp
theorem t_sp_at (ha : At bs z p w) (v : Nat) : t_sp bs z p (p + w.length) v ↔ w = p_roL v := by
  unfold t_sp
  constructor
  · rintro ⟨h1, h2⟩
    apply List.ext_getElem (by omega)
    intro i i1 i2
    have e1 := ha i i1
    rw [h2 i i2] at e1
    unfold p_roM at e1
    rw [Int.toNat_natCast, List.getD_eq_getElem?_getD, List.getD_eq_getElem?_getD, List.getElem?_eq_getElem i1, List.getElem?_eq_getElem i2] at e1
    exact e1.symm
  · intro h
    rw [h]
    refine ⟨by omega, fun i hi => ?_⟩
    rw [ha i (by rw [h]; exact hi), h]
    unfold p_roM
    rw [Int.toNat_natCast]
def kdf (w : List Int) : Nat → Nat → Nat
  | 0, _ => if (97 ≤ w.getD 0 0 ∧ w.getD 0 0 ≤ 122) ∧ w.length ≤ 10 then 14 else 15
  | n + 1, k => if w = p_roL (64 + k) then k else kdf w n (k + 1)
theorem t_kf_at (ha : At bs z p w) (h0 : 0 < w.length) : ∀ (n k : Nat), t_kf bs z p (p + w.length) n k = kdf w n k
  | 0, k => by
    have h1 := ha 0 h0
    rw [show p + ((0 : Nat) : Int) = p by omega] at h1
    rw [t_kf, kdf, h1]
    unfold t_L
    by_cases c : (97 ≤ w.getD 0 0 ∧ w.getD 0 0 ≤ 122) ∧ w.length ≤ 10
    · rw [if_pos c, if_pos ⟨c.1, by omega⟩]
    · rw [if_neg c, if_neg (fun z => c ⟨z.1, by omega⟩)]
  | n + 1, k => by
    rw [t_kf, kdf, t_kf_at ha h0 n (k + 1)]
    by_cases c : w = p_roL (64 + k)
    · rw [if_pos c, if_pos ((t_sp_at ha _).mpr c)]
    · rw [if_neg c, if_neg (fun z => c ((t_sp_at ha _).mp z))]
def csw (w : List Int) : Int :=
  if w.length = 2 ∧ w.getD 1 0 ≠ 48 ∧ (48 ≤ w.getD 1 0 ∧ w.getD 1 0 ≤ 57) then q_nam (w.getD 0 0 - 97) (w.getD 1 0 - 48)
  else if w.length = 3 ∧ w.getD 1 0 ≠ 48 ∧ (48 ≤ w.getD 1 0 ∧ w.getD 1 0 ≤ 57) ∧ (48 ≤ w.getD 2 0 ∧ w.getD 2 0 ≤ 57) then q_nam (w.getD 0 0 - 97) ((w.getD 1 0 - 48) * 10 + w.getD 2 0 - 48) else -1
theorem t_cs_at (ha : At bs z p w) : t_cs bs z p (p + w.length) = csw w := by
  unfold t_cs csw t_D
  have e0 : p + (w.length : Int) - p = w.length := by omega
  rw [e0]
  have a0 : 0 < w.length → t_b bs z p = w.getD 0 0 := fun h => by
    have := ha 0 h
    rwa [show p + ((0 : Nat) : Int) = p by omega] at this
  have a1 : 1 < w.length → t_b bs z (p + 1) = w.getD 1 0 := fun h => ha 1 h
  have a2 : 2 < w.length → t_b bs z (p + 2) = w.getD 2 0 := fun h => ha 2 h
  by_cases c2 : w.length = 2
  · rw [a0 (by omega), a1 (by omega)]
    by_cases c : w.getD 1 0 ≠ 48 ∧ (48 ≤ w.getD 1 0 ∧ w.getD 1 0 ≤ 57)
    · rw [if_pos ⟨by omega, c⟩, if_pos ⟨c2, c⟩]
    · rw [if_neg (fun z => c z.2), if_neg (fun z => by have := z.1; omega), if_neg (fun z => c z.2), if_neg (fun z => by have := z.1; omega)]
  · by_cases c3 : w.length = 3
    · rw [a0 (by omega), a1 (by omega), a2 (by omega), if_neg (fun z => by have := z.1; omega)]
      by_cases c : w.getD 1 0 ≠ 48 ∧ (48 ≤ w.getD 1 0 ∧ w.getD 1 0 ≤ 57) ∧ (48 ≤ w.getD 2 0 ∧ w.getD 2 0 ≤ 57)
      · rw [if_pos ⟨by omega, c⟩, if_neg (fun z => c2 z.1), if_pos ⟨c3, c⟩]
      · rw [if_neg (fun z => c z.2), if_neg (fun z => c2 z.1), if_neg (fun z => c z.2)]
    · rw [if_neg (fun z => by have := z.1; omega), if_neg (fun z => by have := z.1; omega), if_neg (fun z => c2 z.1), if_neg (fun z => c3 z.1)]
/-- blanks -/
theorem t_bk0 {m : Nat} (h : t_b bs z p ≠ 32 ∧ t_b bs z p ≠ 10) : t_bk bs z m p = p := by
  cases m with
  | zero => rfl
  | succ m => rw [t_bk, if_neg (by omega)]
theorem t_bk1 (h0 : t_b bs z p = 32 ∨ t_b bs z p = 10) (h : t_b bs z (p + 1) ≠ 32 ∧ t_b bs z (p + 1) ≠ 10) : t_bk bs z 2000 p = p + 1 := by
  rw [show (2000 : Nat) = 1999 + 1 from rfl, t_bk, if_pos h0, t_bk0 h]
/-- a token is read -/
theorem tok_1 (hw : isWd w = true) (hl : w.length ≤ 1000) (ha : At bs z p w) (hn : w = [59] ∨ isLD (t_b bs z (p + w.length)) = false) (hz : p + w.length ≤ z) {k : Nat} (hk : kdf w 16 0 = k) {st' : Int} (hs : g_b st k = st') (h10 : st' ≠ 10) {p' : Int} (hb : t_bk bs z 2000 (p + w.length) = p') : t_read bs z (n + 1) st p Q = t_read bs z n st' p' (Q ++ [(p, k, csw w)]) := by
  have h0 : 0 < w.length := by
    cases w with
    | nil => cases hw
    | cons x r => rw [List.length_cons]; omega
  rw [t_read, if_pos (by omega), t_end_at hw hl ha hn]
  have e : t_kd bs z p (p + w.length) = k := by
    unfold t_kd
    rw [t_kf_at ha h0, hk]
  rw [e, hs, if_neg h10, hb, t_cs_at ha]
/-- a text that leads from a game to a game -/
def TQ (tx : List Int) (S S' : GSx) (m : Nat) : Prop := ∀ (bs : Int → Int) (z p : Int), 0 ≤ p → p + tx.length ≤ z → At bs z p tx → (t_b bs z (p + tx.length) ≠ 32 ∧ t_b bs z (p + tx.length) ≠ 10) → ∃ K : List TKn, (∀ R, d_run (K ++ R) S = d_run R S') ∧ ∀ (n : Nat) (Q : List TKn), t_read bs z (n + m) 0 p Q = t_read bs z n 0 (p + tx.length) (Q ++ K)
theorem TQ.nil : TQ [] S S 0 := fun bs z p h0 hz ha hb => ⟨[], fun R => rfl, fun n Q => by rw [List.append_nil]; simp⟩
theorem TQ.app {a b : List Int} {m1 m2 : Nat} (h1 : TQ a S S1 m1) (h2 : TQ b S1 S2 m2) (hb : ∀ x, b.head? = some x → x ≠ 32 ∧ x ≠ 10) : TQ (a ++ b) S S2 (m1 + m2) := by
  intro bs z p h0 hz ha hn
  obtain ⟨a1, a2⟩ := ha.app
  rw [List.length_append] at hz hn ⊢
  have e : p + ((a.length + b.length : Nat) : Int) = p + a.length + b.length := by omega
  rw [e] at hz hn ⊢
  have hnb : t_b bs z (p + a.length) ≠ 32 ∧ t_b bs z (p + a.length) ≠ 10 := by
    cases b with
    | nil =>
      rw [List.length_nil, show p + (a.length : Int) + ((0 : Nat) : Int) = p + a.length by omega] at hn
      exact hn
    | cons x b =>
      rw [a2.hd.1]
      exact hb x rfl
  obtain ⟨K1, k1, r1⟩ := h1 bs z p h0 (by omega) a1 hnb
  obtain ⟨K2, k2, r2⟩ := h2 bs z (p + a.length) (by omega) hz a2 hn
  refine ⟨K1 ++ K2, fun R => by rw [List.append_assoc, k1, k2], fun n Q => ?_⟩
  rw [show n + (m1 + m2) = n + m2 + m1 by omega, r1, r2, List.append_assoc]
theorem TQ.end {tx : List Int} (h : TQ tx z_new S m) (hm : m ≤ 390) {bs : Int → Int} (ha : At bs tx.length 0 tx) (hx : ∀ x, tx.head? = some x → x ≠ 32 ∧ x ≠ 10) (S0 : GSx) : z_tea S0 bs tx.length = (0, -1, S) := by
  have hend : t_b bs (tx.length : Int) (tx.length : Int) = -1 := by unfold t_b; rw [if_neg (by omega)]
  obtain ⟨K, k1, r1⟩ := h bs tx.length 0 (by omega) (by omega) ha (by rw [Int.zero_add, hend]; decide)
  have h0 : t_b bs (tx.length : Int) 0 ≠ 32 ∧ t_b bs (tx.length : Int) 0 ≠ 10 := by
    cases tx with
    | nil => rw [show (([] : List Int).length : Int) = 0 from rfl] at hend ⊢; rw [hend]; decide
    | cons x b => rw [ha.hd.1]; exact hx x rfl
  have e : z_tok bs tx.length = (K, -1) := by
    unfold z_tok
    rw [t_bk0 h0, show (400 : Nat) = (400 - m) + m by omega, r1, Int.zero_add, List.nil_append]
    cases hq : 400 - m with
    | zero => omega
    | succ q => rw [t_read, if_neg (by omega), if_pos ⟨Int.le_refl _, rfl⟩]
  have e2 : d_run K z_new = (0, -1, S) := by
    have := k1 []
    rw [List.append_nil] at this
    rw [this, d_run]
  unfold z_tea
  rw [e, if_neg (by simp), if_pos (by rw [e2]), e2]
end PTXT
