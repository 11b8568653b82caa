section PPAR
variable {d bd lg N h : Nat} {T T1 T2 : pT} {M M1 M2 : pM} {F F1 F2 : pF} {S0 S : GSx} {ea0 z0 ea z a b c n k r : Int} {bs0 bs : Int → Int} {m mL mX : pC} {v vL vX : List Value} {rv : Value}
/-- the class's half of a step that cannot throw -/
def HB (T : pT) (M : pM) (F : pF) (m : pC) (v : List Value) (rv : Value) (S : GSx) (ea : Int) (bs : Int → Int) (z : Int) : Prop := ∃ T' M' F', (∀ d, 11 ≤ d → callD d m v T M F = some (.inl (some rv), T', M', F')) ∧ CW T' M' F' S ea bs z ∧ s_mono T T' ∧ T'.1.1 ≤ T.1.1 + 1 ∧ T'.1.2 ≤ T.1.2 + 6 ∧ (∀ a, 127 ≤ a → a < T.1.1 → a ≠ 144 → M' a = M a ∧ F' a = F a)
theorem HB.of (h : XRet T M F m v 10 (some rv) (fun M' F' => CW T M' F' S ea bs z)) : HB T M F m v rv S ea bs z := by
  obtain ⟨M1, F1, r1, W1, f1⟩ := h
  exact ⟨T, M1, F1, fun d hd => r1 d (by omega), W1, s_mono.rf, by omega, by omega, fun a h1 _ _ => f1 a h1⟩
theorem HC.hb {rr : Int} (h : HC T M F m v k rr S ea bs z) : HB T M F m v (.int (iI k)) S ea bs z := by
  obtain ⟨T1, M1, F1, r1, W1, m1, b1, b2, f1, -⟩ := h
  exact ⟨T1, M1, F1, r1, W1, m1, b1, b2, f1⟩
/-- the model's half -/
def HY (S0 : GSx) (ea0 : Int) (bs0 : Int → Int) (z0 : Int) (m : pC) (v : List Value) (rv : Value) (k : Int) (S : GSx) (ea : Int) (bs : Int → Int) (z : Int) : Prop := ∀ T M F bd lg N, MW T M F bd lg N S0 ea0 bs0 z0 → ∃ T' M' F' bd' lg' N', (∀ d, 12 ≤ d → callD d m v T M F = some (.inl (some rv), T', M', F')) ∧ MW T' M' F' bd' lg' N' S ea bs z ∧ M' 127 0 = k ∧ OB T M F T' M' F'
theorem HY.of (h : ∀ {T : pT} {M : pM} {F : pF} {bd lg N : Nat}, MW T M F bd lg N S0 ea0 bs0 z0 → YRet bd N T M F m v 10 rv k S ea bs z) : HY S0 ea0 bs0 z0 m v rv k S ea bs z := by
  intro T M F bd lg N hW
  obtain ⟨T1, M1, F1, lg1, N1, r1, W1, e1, o1⟩ := h hW
  exact ⟨T1, M1, F1, bd, lg1, N1, fun d hd => r1 d (by omega), W1, e1, o1.ob hW.1.2.2.1 W1.1.2.2.1⟩
/-- the two halves together -/
theorem two {rl : Value} (hM : MW T M F bd lg N S0 ea0 bs0 z0) (t144 : p_ty T 144 = (3, 1)) (hC : HB T M F mL vL rl S ea bs z) (hY : HY S0 ea0 bs0 z0 mX vX rv k S ea bs z) (hl : S.2.2.2.2.length ≤ h) :
    ∃ T1 M1 F1 T2 M2 F2, callD 12 mL vL T M F = some (.inl (some rl), T1, M1, F1) ∧ M1 29 = M 29 ∧ s_mono T T1 ∧ p_ty T1 127 = (18, 24) ∧ callD 12 mX vX T1 M1 F1 = some (.inl (some rv), T2, M2, F2) ∧ p_ty T2 127 = (18, 24) ∧ callD 12 m_X8_thrown [.ref 127] T2 M2 F2 = some (.inl (some (.int (iI k))), T2, M2, F2) ∧ p_ty T2 144 = (3, 1) ∧ M2 144 = M1 144 ∧ LW T2 M2 F2 h ∧ LB T T2 ∧ M2 29 = M 29 := by
  obtain ⟨T1, M1, F1, r1, W1, m1, b1, b2, f1⟩ := hC
  have h5 := hM.sz
  have hM1 := hM.fr m1 f1
  obtain ⟨T2, M2, F2, bd2, lg2, N2, r2, W2, e2, ⟨o1, o2, o3, o4, o5⟩⟩ := hY T1 M1 F1 bd lg N hM1
  have r1 := r1 12 (by omega)
  have r2 := r2 12 (by omega)
  have h51 : 145 ≤ T1.1.1 := hM1.sz
  have q1 : M1 29 = M 29 := callD_M 12 _ _ _ _ _ _ r1 (by omega) 29 (by omega)
  have q2 : M2 29 = M1 29 := (o2 29 (by omega)).1
  have t1 : p_ty T1 144 = (3, 1) := (m1.2.2 144 (by omega)).trans t144
  have t2 : p_ty T2 144 = (3, 1) := (o1.2.2 144 (by omega)).trans t1
  have th := y_thrown (d := 12) (M := M2) W2.1.1 (by omega)
  rw [e2] at th
  refine ⟨T1, M1, F1, T2, M2, F2, r1, q1, m1, hM1.t127, r2, W2.t127, th, t2, o3, ⟨S, ea, bs, z, bd2, lg2, N2, W1.fr o1 (by omega) o2, W2, hl, t2⟩, ⟨m1.tr o1, by omega, by omega⟩, q2.trans q1⟩
/-- a pair of calls that may throw -/
def PA (T : pT) (M : pM) (F : pF) (S0 : GSx) (ea0 : Int) (bs0 : Int → Int) (z0 : Int) (mL : pC) (vL : List Value) (mX : pC) (vX : List Value) : Prop := ∃ k r S ea bs z, (0 ≤ k ∧ k ≤ 3) ∧ HC T M F mL vL k (jL (iI r).toInt64) S ea bs z ∧ HY S0 ea0 bs0 z0 mX vX (.int (iI r)) k S ea bs z ∧ (S.2.2.2.2.length ≤ S0.2.2.2.2.length + 1 ∨ S.2.2.2.2.length ≤ 100)
/-- a pair of calls that cannot throw -/
def PB (T : pT) (M : pM) (F : pF) (S0 : GSx) (ea0 : Int) (bs0 : Int → Int) (z0 : Int) (mL : pC) (vL : List Value) (mX : pC) (vX : List Value) (rv : Value) : Prop := ∃ S ea bs z, HB T M F mL vL rv S ea bs z ∧ HY S0 ea0 bs0 z0 mX vX rv 0 S ea bs z ∧ (S.2.2.2.2.length ≤ S0.2.2.2.2.length + 1 ∨ S.2.2.2.2.length ≤ 100)
theorem bI_l {p : Prop} : jL (iL (bI p)) = jL (iI (bI p)).toInt64 := by
  by_cases c : p
  · rw [bI_t c]; rfl
  · rw [bI_f c]; rfl
theorem p_feed (hW : CW T M F S ea bs z) (h5 : 145 ≤ T.1.1) (t144 : p_ty T 144 = (3, 1)) (y1 y2 y3 y4 y5 : Int32) : PA T M F S ea bs z m_L_feed [.ref 100, .int y1, .int y2, .int y3, .int y4, .int y5, .ref 144] m_X8_feed [.ref 127, .int y1, .int y2, .int y3, .int y4, .int y5] := by
  have hz := hW.zz
  by_cases c : z ≤ 1980
  · refine ⟨0, z + 20, S, ea, t_p20 bs z y1 y2 y3 y4 y5, z + 20, by omega, h_feed hW h5 t144 ((x_feed hW y1 y2 y3 y4 y5).1 c), ?_, Or.inl (Nat.le_succ _)⟩
    intro T M F bd lg N hM
    obtain ⟨T1, M1, F1, r1, W1, e1, o1⟩ := (y_feed hM hz.1 y1 y2 y3 y4 y5).1 c
    exact ⟨T1, M1, F1, bd, lg, N, fun d hd => r1 d (by omega), W1, e1, o1⟩
  · exact ⟨1, 0, S, ea, bs, z, by omega, h_feed_1 hW h5 ((x_feed hW y1 y2 y3 y4 y5).2 c), HY.of (fun h => (y_feed h hz.1 y1 y2 y3 y4 y5).2 c), Or.inl (Nat.le_succ _)⟩
theorem p_trim (hW : CW T M F S ea bs z) (h5 : 145 ≤ T.1.1) (t144 : p_ty T 144 = (3, 1)) (hn : -2147483648 ≤ n ∧ n < 2147483648) : PA T M F S ea bs z m_L_trim [.ref 100, .int (iI n), .ref 144] m_X8_trim [.ref 127, .int (iI n)] := by
  have hz := hW.zz
  by_cases c : 0 ≤ n ∧ n ≤ z
  · exact ⟨0, n, S, ea, bs, n, by omega, h_trim hW h5 t144 ((x_trim hW hn).1 c), HY.of (fun h => (y_trim h hz.1 hn).1 c), Or.inl (Nat.le_succ _)⟩
  · exact ⟨1, 0, S, ea, bs, z, by omega, h_trim_1 hW h5 ((x_trim hW hn).2 c), HY.of (fun h => (y_trim h hz.1 hn).2 c), Or.inl (Nat.le_succ _)⟩
theorem p_count (hW : CW T M F S ea bs z) (h5 : 145 ≤ T.1.1) (t144 : p_ty T 144 = (3, 1)) (hH : S.2.2.2.2.length < 613) (hn : -2147483648 ≤ n ∧ n < 2147483648) : PA T M F S ea bs z m_L_count [.ref 100, .int (iI n), .ref 144] m_X8_count [.ref 127, .int (iI n)] := by
  by_cases c : 0 ≤ n ∧ n ≤ 10
  · exact ⟨0, z_cnt S z n, S, ea, bs, z, by omega, h_count hW h5 t144 ((x_count hW).1 c), HY.of (fun h => (y_count h hW.spx (by omega) hn).1 c), Or.inl (Nat.le_succ _)⟩
  · exact ⟨1, 0, S, ea, bs, z, by omega, h_count_1 hW h5 ((x_count hW).2 hn c), HY.of (fun h => (y_count h hW.spx (by omega) hn).2 c), Or.inl (Nat.le_succ _)⟩
theorem p_cell (hW : CW T M F S ea bs z) (h5 : 145 ≤ T.1.1) (t144 : p_ty T 144 = (3, 1)) (hH : S.2.2.2.2.length < 613) (hc : -2147483648 ≤ c ∧ c < 2147483648) (hn : -2147483648 ≤ n ∧ n < 2147483648) : PA T M F S ea bs z m_L_cell [.ref 100, .int (iI c), .int (iI n), .ref 144] m_X8_cell [.ref 127, .int (iI c), .int (iI n)] := by
  by_cases q : (0 ≤ c ∧ c < 91) ∧ 0 ≤ n ∧ n ≤ 5
  · exact ⟨0, z_fac S c n, S, ea, bs, z, by omega, h_cell hW h5 t144 ((x_cell hW).1 q.1 q.2), HY.of (fun h => (y_cell h hW.spx (by omega) hn hc).1 q.1 q.2), Or.inl (Nat.le_succ _)⟩
  · exact ⟨1, 0, S, ea, bs, z, by omega, h_cell_1 hW h5 ((x_cell hW).2 hn hc q), HY.of (fun h => (y_cell h hW.spx (by omega) hn hc).2 q), Or.inl (Nat.le_succ _)⟩
theorem p_at' (hW : CW T M F S ea bs z) (h5 : 145 ≤ T.1.1) (t144 : p_ty T 144 = (3, 1)) (ha : -2147483648 ≤ a ∧ a < 2147483648) (hb : -2147483648 ≤ b ∧ b < 2147483648) : PA T M F S ea bs z m_L_at [.ref 100, .int (iI a), .int (iI b), .ref 144] m_X8_at [.ref 127, .int (iI a), .int (iI b)] := by
  by_cases q : 0 ≤ a ∧ a ≤ 10 ∧ 1 ≤ b ∧ b ≤ q_csz a
  · exact ⟨0, p_roM 1 a + b - 1, S, ea, bs, z, by omega, h_at hW h5 t144 ((x_at hW ha hb).1 q), HY.of (fun h => (y_at h ha hb).1 q), Or.inl (Nat.le_succ _)⟩
  · exact ⟨1, 0, S, ea, bs, z, by omega, h_at_1 hW h5 ((x_at hW ha hb).2 q), HY.of (fun h => (y_at h ha hb).2 q), Or.inl (Nat.le_succ _)⟩
theorem p_name (hW : CW T M F S ea bs z) (h5 : 145 ≤ T.1.1) (t144 : p_ty T 144 = (3, 1)) (hc : -2147483648 ≤ c ∧ c < 2147483648) : PA T M F S ea bs z m_L_name [.ref 100, .int (iI c), .ref 144] m_X8_name [.ref 127, .int (iI c)] := by
  by_cases q : 0 ≤ c ∧ c < 91
  · exact ⟨0, _, S, ea, bs, z, by omega, h_name hW h5 t144 ((x_name hW).1 q), HY.of (fun h => (y_name h hc).1 q), Or.inl (Nat.le_succ _)⟩
  · exact ⟨1, 0, S, ea, bs, z, by omega, h_name_1 hW h5 ((x_name hW).2 hc q), HY.of (fun h => (y_name h hc).2 q), Or.inl (Nat.le_succ _)⟩
theorem p_far (hW : CW T M F S ea bs z) (h5 : 145 ≤ T.1.1) (t144 : p_ty T 144 = (3, 1)) (hn : -2147483648 ≤ n ∧ n < 2147483648) (ha : -2147483648 ≤ a ∧ a < 2147483648) (hb : -2147483648 ≤ b ∧ b < 2147483648) : PA T M F S ea bs z m_L_far [.ref 100, .int (iI n), .int (iI a), .int (iI b), .ref 144] m_X8_far [.ref 127, .int (iI n), .int (iI a), .int (iI b)] := by
  by_cases q : 1 ≤ n ∧ n ≤ 5
  · by_cases q1 : (0 ≤ a ∧ a < 91) ∧ 0 ≤ b ∧ b < 91
    · exact ⟨0, w_far n a b, S, ea, bs, z, by omega, h_far hW h5 t144 ((x_far hW hn ha hb).1 q q1.1 q1.2), HY.of (fun h => (y_far h hn ha hb).1 q q1.1 q1.2), Or.inl (Nat.le_succ _)⟩
    · exact ⟨2, 0, S, ea, bs, z, by omega, h_far_2 hW h5 ((x_far hW hn ha hb).2.2 q q1), HY.of (fun h => (y_far h hn ha hb).2.2 q q1), Or.inl (Nat.le_succ _)⟩
  · exact ⟨1, 0, S, ea, bs, z, by omega, h_far_1 hW h5 ((x_far hW hn ha hb).2.1 q), HY.of (fun h => (y_far h hn ha hb).2.1 q), Or.inl (Nat.le_succ _)⟩
theorem p_nth (hW : CW T M F S ea bs z) (h5 : 145 ≤ T.1.1) (t144 : p_ty T 144 = (3, 1)) (hH : S.2.2.2.2.length < 613) (hn : -2147483648 ≤ n ∧ n < 2147483648) : PA T M F S ea bs z m_L_nth [.ref 100, .int (iI n), .ref 144] m_X8_nth [.ref 127, .int (iI n)] := by
  by_cases q : 0 ≤ n ∧ n < ((lgQ S.1 S.2.1 S.2.2.1 S.2.2.2.1).length : Int)
  · exact ⟨0, _, S, ea, bs, z, by omega, h_nth hW h5 t144 ((x_nth hW hn).1 q), HY.of (fun h => (y_nth h hW.spx (by omega) hn).1 q), Or.inl (Nat.le_succ _)⟩
  · exact ⟨1, 0, S, ea, bs, z, by omega, h_nth_1 hW h5 ((x_nth hW hn).2 q), HY.of (fun h => (y_nth h hW.spx (by omega) hn).2 q), Or.inl (Nat.le_succ _)⟩
theorem p_move (hW : CW T M F S ea bs z) (h5 : 145 ≤ T.1.1) (t144 : p_ty T 144 = (3, 1)) (hH : S.2.2.2.2.length < 613) (ha : -2147483648 ≤ a ∧ a < 2147483648) (hb : -2147483648 ≤ b ∧ b < 2147483648) (hn : -2147483648 ≤ n ∧ n < 2147483648) : PA T M F S ea bs z m_L_move [.ref 100, .int (iI a), .int (iI b), .int (iI n), .ref 144] m_X8_move [.ref 127, .int (iI a), .int (iI b), .int (iI n)] := by
  have xm := x_move hW (by omega) ha hb hn
  by_cases q : (0 ≤ a ∧ a < 91) ∧ 0 ≤ b ∧ b < 91
  · by_cases q1 : 2 ≤ n ∧ n ≤ 5
    · by_cases q2 : 91 * a + b ∈ lgQ S.1 S.2.1 S.2.2.1 S.2.2.2.1
      · exact ⟨0, _, z_mv S a b n, ea, bs, z, by omega, h_move hW h5 t144 (xm.1 q.1 q.2 q1 q2), HY.of (fun h => (y_move h hW.spx hH ha hb hn).1 q.1 q.2 q1 q2), Or.inl (Nat.le_of_eq rfl)⟩
      · exact ⟨3, 0, S, ea, bs, z, by omega, h_move_3 hW h5 (xm.2.2.2 q.1 q.2 q1 q2), HY.of (fun h => (y_move h hW.spx hH ha hb hn).2.2.2 q.1 q.2 q1 q2), Or.inl (Nat.le_succ _)⟩
    · exact ⟨2, 0, S, ea, bs, z, by omega, h_move_2 hW h5 (xm.2.2.1 q.1 q.2 q1), HY.of (fun h => (y_move h hW.spx hH ha hb hn).2.2.1 q.1 q.2 q1), Or.inl (Nat.le_succ _)⟩
  · exact ⟨1, 0, S, ea, bs, z, by omega, h_move_1 hW h5 (xm.2.1 q), HY.of (fun h => (y_move h hW.spx hH ha hb hn).2.1 q), Or.inl (Nat.le_succ _)⟩
theorem p_back (hW : CW T M F S ea bs z) (h5 : 145 ≤ T.1.1) (t144 : p_ty T 144 = (3, 1)) (hH : S.2.2.2.2.length < 613) : PA T M F S ea bs z m_L_back [.ref 100, .ref 144] m_X8_back [.ref 127] := by
  have xb := x_back hW (by omega)
  have hP := hW.spx
  rcases e : S.2.2.2.2 with _ | ⟨⟨b0, t0, p0, q0, i0, o0, a0⟩, H⟩
  · exact ⟨1, 0, S, ea, bs, z, by omega, h_back_1 hW h5 (xb.2 e), HY.of (fun h => (y_back h hP (by omega)).2 e), Or.inl (Nat.le_succ _)⟩
  · refine ⟨0, (H.length : Int), (b0, t0, p0, q0, H), ea, bs, z, by omega, h_back hW h5 t144 (xb.1 b0 t0 p0 q0 i0 o0 a0 H e), HY.of (fun h => (y_back h hP (by omega)).1 b0 t0 p0 q0 i0 o0 a0 H e), Or.inl ?_⟩
    rw [e, List.length_cons]
    show H.length ≤ _
    omega
theorem p_lines (hW : CW T M F S ea bs z) (h5 : 145 ≤ T.1.1) (t144 : p_ty T 144 = (3, 1)) (hH : S.2.2.2.2.length < 613) (hn : -2147483648 ≤ n ∧ n < 2147483648) : PA T M F S ea bs z m_L_lines [.ref 100, .int (iI n), .ref 144] m_X8_lines [.ref 127, .int (iI n)] := by
  by_cases q : n = 1 ∨ n = 2
  · exact ⟨0, _, S, ea, bs, z, by omega, h_lines hW h5 t144 ((x_lines hW hn).1 q), HY.of (fun h => (y_lines h hW.spx hH hn).1 q), Or.inl (Nat.le_succ _)⟩
  · exact ⟨1, 0, S, ea, bs, z, by omega, h_lines_1 hW h5 ((x_lines hW hn).2 q), HY.of (fun h => (y_lines h hW.spx hH hn).2 q), Or.inl (Nat.le_succ _)⟩
theorem p_hanging (hW : CW T M F S ea bs z) (h5 : 145 ≤ T.1.1) (t144 : p_ty T 144 = (3, 1)) (hn : -2147483648 ≤ n ∧ n < 2147483648) : PA T M F S ea bs z m_L_hanging [.ref 100, .int (iI n), .ref 144] m_X8_hanging [.ref 127, .int (iI n)] := by
  by_cases q : n = 0 ∨ n = 1
  · exact ⟨0, _, S, ea, bs, z, by omega, h_hanging hW h5 t144 ((x_hanging hW hn).1 q), HY.of (fun h => (y_hanging h hW.spx hn).1 q), Or.inl (Nat.le_succ _)⟩
  · exact ⟨1, 0, S, ea, bs, z, by omega, h_hanging_1 hW h5 ((x_hanging hW hn).2 q), HY.of (fun h => (y_hanging h hW.spx hn).2 q), Or.inl (Nat.le_succ _)⟩
theorem p_errorAt (hW : CW T M F S ea bs z) : PB T M F S ea bs z m_X7_errorAt [.ref 100] m_X8_errorAt [.ref 127] (.int (iI ea)) := ⟨S, ea, bs, z, HB.of (x_errorAt hW), HY.of (fun h => y_errorAt h), Or.inl (Nat.le_succ _)⟩
theorem p_mate (hW : CW T M F S ea bs z) (hH : S.2.2.2.2.length < 613) : ∃ r, PB T M F S ea bs z m_X7_mate [.ref 100] m_X8_mate [.ref 127] (.int (iI r)) := ⟨_, S, ea, bs, z, HB.of (x_mate hW), HY.of (fun h => y_mate h hW.spx hH), Or.inl (Nat.le_succ _)⟩
theorem p_greed (hW : CW T M F S ea bs z) (hH : S.2.2.2.2.length < 613) : ∃ r, PB T M F S ea bs z m_X7_greed [.ref 100] m_X8_greed [.ref 127] (.int (iI r)) := ⟨_, S, ea, bs, z, HB.of (x_greed hW), HY.of (fun h => y_greed h hW.spx hH), Or.inl (Nat.le_succ _)⟩
theorem p_mean (hW : CW T M F S ea bs z) (hH : S.2.2.2.2.length < 613) : ∃ r, PB T M F S ea bs z m_X7_mean [.ref 100] m_X8_mean [.ref 127] (.double r) := ⟨_, S, ea, bs, z, HB.of (x_mean hW), HY.of (fun h => y_mean h hW.spx hH), Or.inl (Nat.le_succ _)⟩
theorem p_digest (hW : CW T M F S ea bs z) (hH : S.2.2.2.2.length < 613) : ∃ r, PB T M F S ea bs z m_X7_digest [.ref 100] m_X8_digest [.ref 127] (.long r) := ⟨_, S, ea, bs, z, HB.of (x_digest hW), HY.of (fun h => y_digest h hW.spx hH), Or.inl (Nat.le_succ _)⟩
end PPAR
