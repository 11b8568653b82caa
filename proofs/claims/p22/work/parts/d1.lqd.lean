section PLQD
variable {d k s b n D : Nat} {T T1 T2 : pT} {M M1 M2 : pM} {F F1 F2 : pF} {S S1 : GSx} {ea ea1 z z1 mv x c i j : Int} {bs bs1 : Int → Int} {m : pC} {v : List Value} {r : Option Value}
/-- what a game's state is known to be -/
def SF (S : GSx) : Prop := (MB S.1 ∧ UK S.1 ∧ P20 S.1) ∧ (S.2.1 = 0 ∨ S.2.1 = 1) ∧ PS S.1 S.2.1 S.2.2.1 ∧ (0 ≤ S.2.2.2.1 ∧ S.2.2.2.1 ≤ 60) ∧ (lgA S.1 S.2.1 S.2.2.1).length ≤ 840 ∧ (lgQ S.1 S.2.1 S.2.2.1 S.2.2.2.1).length ≤ 840 ∧ HI S.2.2.2.2 S.1 S.2.1 S.2.2.1 S.2.2.2.1
theorem LW.sf (h : LW k T M F S ea bs z) : SF S := by
  obtain ⟨T0, M0, F0, e, ⟨G1, G2, hT, hS⟩, -⟩ := h
  have hG := hS.1.1
  obtain ⟨g1, g2, g3, g4⟩ := hG
  obtain ⟨r1, r2, r3, r4, r5, r6, r7⟩ := id g1
  have hlen := lgA_len r1.2.1 r1.2.2.1 r5 g1.PS g3
  refine ⟨⟨r1.2.2.1, fun s hs k c k0 k1 c0 c1 h1 h2 => r1.uniq hs ⟨k0, k1⟩ ⟨c0, c1⟩ h1 h2, g3⟩, r5, g1.PS, ⟨r6.1, g4⟩, hlen, lgQ_len hlen, hS.1.2.2.2⟩
/-- nothing but what is the class's own, or new, is changed -/
def KY (k : Nat) (T : pT) (M : pM) (F : pF) (T1 : pT) (M1 : pM) (F1 : pF) : Prop := s_mono T T1 ∧ ∀ b, b < T.1.1 → (b < 100 + k ∨ 127 + k ≤ b) → M1 b = M b ∧ F1 b = F b
theorem KY.rf : KY k T M F T M F := ⟨s_mono.rf, fun _ _ _ => ⟨rfl, rfl⟩⟩
theorem KY.tr (h : KY k T M F T1 M1 F1) (h' : KY k T1 M1 F1 T2 M2 F2) : KY k T M F T2 M2 F2 := ⟨h.1.tr h'.1, fun b hb hk => by
  have h1 := h.2 b hb hk
  have h2 := h'.2 b (Nat.lt_of_lt_of_le hb h.1.1) hk
  exact ⟨h2.1.trans h1.1, h2.2.trans h1.2⟩⟩
theorem KX.ky (h : KX k T M F T1 M1 F1) : KY k T M F T1 M1 F1 := ⟨h.1, h.2.2⟩
theorem IX.ky (h : IX T.1.1 T M F T1 M1 F1) : KY k T M F T1 M1 F1 := ⟨h.1, fun b hb _ => h.2 b hb⟩
/-- both games' worlds -/
def LQ (k s b : Nat) (T : pT) (M : pM) (F : pF) (S : GSx) (mv : Int) : Prop := (s < 100 + k ∧ b < 100 + k) ∧ SI T F s b ∧ SM M s b S.1 S.2.1 S.2.2.1 S.2.2.2.1 mv ∧ ∃ ea bs, LW k T M F S ea bs 0
theorem LQ.cnt (h : LQ k s b T M F S mv) : 127 + k ≤ T.1.1 := by
  obtain ⟨-, -, -, ea, bs, h⟩ := h
  exact h.cnt
theorem LQ.ty (h : LQ k s b T M F S mv) : p_ty T (100 + k) = (17, 7) := by
  obtain ⟨-, -, -, ea, bs, h⟩ := h
  exact h.ty
theorem LQ.sf (h : LQ k s b T M F S mv) : SF S := by
  obtain ⟨-, -, -, ea, bs, h⟩ := h
  exact h.sf
theorem SI.ky (hI : SI T F s b) (h : KY k T M F T1 M1 F1) (hs : s < 100 + k) (hb : b < 100 + k) (hn : 127 + k ≤ T.1.1) : SI T1 F1 s b :=
  ⟨hI.1, (h.1.2.2 s (by omega)).trans hI.2.1, by rw [(h.2 s (by omega) (Or.inl hs)).2]; exact hI.2.2.1, hI.2.2.2.1, (h.1.2.2 b (by omega)).trans hI.2.2.2.2.1, hI.2.2.2.2.2⟩
/-- behind what leaves all that was there -/
theorem LQ.ix (h : LQ k s b T M F S mv) (hx : IX T.1.1 T M F T1 M1 F1) : LQ k s b T1 M1 F1 S mv := by
  have hn := h.cnt
  obtain ⟨hsb, hI, hS, ea, bs, hW⟩ := h
  exact ⟨hsb, hI.ix hx (by omega) (by omega), hS.eq (hx.2 s (by omega)).1 (hx.2 b (by omega)).1, ea, bs, hW.up hx.1 (fun b0 h1 h2 => hx.2 b0 (by omega))⟩
theorem LQ.call {v : List Value} {r : Option Value} (h : LQ k s b T M F S mv) (hx : ∀ (ea : Int) (bs : Int → Int) (T0 : pT) (M0 : pM) (F0 : pF), CW T0 M0 F0 S ea bs 0 → XRet T0 M0 F0 m (.ref 100 :: v) 10 r (fun M' F' => CW T0 M' F' S ea bs 0)) (hv : v.map (hV k) = v) (hr : r.map (hV k) = r) (hd : 10 ≤ d) :
    ∃ T1 M1 F1, callD d m (.ref (100 + k) :: v) T M F = some (.inl r, T1, M1, F1) ∧ LQ k s b T1 M1 F1 S mv ∧ KX k T M F T1 M1 F1 := by
  have hn := h.cnt
  obtain ⟨hsb, hI, hS, ea, bs, hW⟩ := h
  obtain ⟨T1, M1, F1, c, hW1, hk⟩ := hW.ret (hx ea bs) hv hr hd
  exact ⟨T1, M1, F1, c, ⟨hsb, hI.ky hk.ky hsb.1 hsb.2 hn, hS.eq (hk.2.2 s (by omega) (Or.inl hsb.1)).1 (hk.2.2 b (by omega) (Or.inl hsb.2)).1, ea, bs, hW1⟩, hk⟩
theorem q_count (h : LQ k s b T M F S mv) (hi : 0 ≤ i ∧ i ≤ 10) (hd : 10 ≤ d) : ∃ T1 M1 F1, callD d m_X7_count [.ref (100 + k), .int (iI i)] T M F = some (.inl (some (.int (iI (z_cnt S 0 i)))), T1, M1, F1) ∧ LQ k s b T1 M1 F1 S mv ∧ KX k T M F T1 M1 F1 :=
  h.call (v := [.int (iI i)]) (fun ea bs T0 M0 F0 hC => (x_count hC).1 hi) rfl rfl hd
theorem q_cell (h : LQ k s b T M F S mv) (hc : 0 ≤ c ∧ c < 91) (hi : 0 ≤ i ∧ i ≤ 5) (hd : 10 ≤ d) : ∃ T1 M1 F1, callD d m_X7_cell [.ref (100 + k), .int (iI c), .int (iI i)] T M F = some (.inl (some (.int (iI (z_fac S c i)))), T1, M1, F1) ∧ LQ k s b T1 M1 F1 S mv ∧ KX k T M F T1 M1 F1 :=
  h.call (v := [.int (iI c), .int (iI i)]) (fun ea bs T0 M0 F0 hC => (x_cell hC).1 hc hi) rfl rfl hd
theorem q_nth (h : LQ k s b T M F S mv) (hi : 0 ≤ i ∧ i < ((lgQ S.1 S.2.1 S.2.2.1 S.2.2.2.1).length : Int)) (hd : 10 ≤ d) : ∃ T1 M1 F1, callD d m_X7_nth [.ref (100 + k), .int (iI i)] T M F = some (.inl (some (.int (iI ((lgQ S.1 S.2.1 S.2.2.1 S.2.2.2.1).getD i.toNat 0)))), T1, M1, F1) ∧ LQ k s b T1 M1 F1 S mv ∧ KX k T M F T1 M1 F1 := by
  have hl := h.sf.2.2.2.2.2.1
  exact h.call (v := [.int (iI i)]) (fun ea bs T0 M0 F0 hC => (x_nth hC (by omega)).1 hi) rfl rfl hd
theorem q_legal {a : Int} (h : LQ k s b T M F S mv) (ha : 0 ≤ a ∧ a < 91) (hc : 0 ≤ c ∧ c < 91) (hd : 10 ≤ d) : ∃ T1 M1 F1, callD d m_X7_legal [.ref (100 + k), .int (iI a), .int (iI c)] T M F = some (.inl (some (.int (iI (bI (91 * a + c ∈ lgQ S.1 S.2.1 S.2.2.1 S.2.2.2.1))))), T1, M1, F1) ∧ LQ k s b T1 M1 F1 S mv ∧ KX k T M F T1 M1 F1 :=
  h.call (v := [.int (iI a), .int (iI c)]) (fun ea bs T0 M0 F0 hC => (x_legal hC (by omega) (by omega)).1 ha hc) rfl rfl hd
theorem q_hanging (h : LQ k s b T M F S mv) (hi : i = 0 ∨ i = 1) (hd : 10 ≤ d) : ∃ T1 M1 F1, callD d m_X7_hanging [.ref (100 + k), .int (iI i)] T M F = some (.inl (some (.int (iI (hgd S.1 i 91 0 (-1) 0)))), T1, M1, F1) ∧ LQ k s b T1 M1 F1 S mv ∧ KX k T M F T1 M1 F1 :=
  h.call (v := [.int (iI i)]) (fun ea bs T0 M0 F0 hC => (x_hanging hC (by omega)).1 hi) rfl rfl hd
theorem q_lines (h : LQ k s b T M F S mv) (hd : 10 ≤ d) : ∃ T1 M1 F1, callD d m_X7_lines [.ref (100 + k), .int (iI 1)] T M F = some (.inl (some (.int (iI ((lgQ S.1 S.2.1 S.2.2.1 S.2.2.2.1).length : Int)))), T1, M1, F1) ∧ LQ k s b T1 M1 F1 S mv ∧ KX k T M F T1 M1 F1 :=
  h.call (v := [.int (iI 1)]) (fun ea bs T0 M0 F0 hC => (x_lines hC (n := 1) (by omega)).1 (Or.inl rfl)) rfl rfl hd
theorem q_mean (h : LQ k s b T M F S mv) (hd : 10 ≤ d) : ∃ T1 M1 F1, callD d m_X7_mean [.ref (100 + k)] T M F = some (.inl (some (.double (z_mean S))), T1, M1, F1) ∧ LQ k s b T1 M1 F1 S mv ∧ KX k T M F T1 M1 F1 :=
  h.call (v := []) (fun ea bs T0 M0 F0 hC => x_mean hC) rfl rfl hd
theorem q_digest (h : LQ k s b T M F S mv) (hd : 10 ≤ d) : ∃ T1 M1 F1, callD d m_X7_digest [.ref (100 + k)] T M F = some (.inl (some (.long (z_dig S 0))), T1, M1, F1) ∧ LQ k s b T1 M1 F1 S mv ∧ KX k T M F T1 M1 F1 :=
  h.call (v := []) (fun ea bs T0 M0 F0 hC => x_digest hC) rfl rfl hd
/-- a number is itself -/
theorem dcmp_self {v : UInt64} (h : vf_n64 v) : Op.cmpValue (FP.dcmp v v) .l = iI 0 := by
  have hn : FP.Core.decode FP.Core.b64 v.toNat ≠ FP.Core.Datum.nan := by
    intro hz
    unfold vf_n64 at h
    rw [UInt64.le_iff_toNat_le, UInt64.toNat_and] at h
    have h2 : v.toNat % 2 ^ 63 ≤ 9218868437227405312 := by
      rw [← Nat.and_two_pow_sub_one_eq_mod]; exact h
    unfold FP.Core.decode at hz
    have e1 : FP.Core.fieldE FP.Core.b64 v.toNat = v.toNat / 2 ^ 52 % 2 ^ 11 := rfl
    have e2 : FP.Core.fieldT FP.Core.b64 v.toNat = v.toNat % 2 ^ 52 := rfl
    have e3 : FP.Core.b64.exps - 1 = 2047 := rfl
    rw [e1, e2, e3] at hz
    by_cases c1 : v.toNat / 2 ^ 52 % 2 ^ 11 = 2047
    · rw [if_pos c1] at hz
      by_cases c2 : v.toNat % 2 ^ 52 = 0
      · rw [if_pos c2] at hz; cases hz
      · omega
    · rw [if_neg c1] at hz
      split at hz <;> cases hz
  have ho : ∀ d : FP.Core.Datum, d ≠ FP.Core.Datum.nan → FP.Core.order d d = some .eq := by
    intro d hd
    cases d with
    | nan => exact absurd rfl hd
    | inf s => show some (compare (FP.Core.signed s 1) (FP.Core.signed s 1)) = _; rw [Std.ReflOrd.compare_self]
    | fin s c q => show some (compare _ _) = _; rw [Std.ReflOrd.compare_self]
  show Op.cmpValue (FP.Core.cmp FP.Core.b64 v.toNat v.toNat) .l = _
  unfold FP.Core.cmp
  rw [ho _ hn]
  rfl
end PLQD
