section PLNE
variable {d s b n a r0 sd pc b' b1 : Nat} {T T1 T2 T3 : pT} {M M1 M2 M3 : pM} {F F1 F2 F3 : pF} {k t i c p x y : Int} {tx ws : List Int}
/-- what lies there, the text's builder apart, is as it was -/
def AK (T : pT) (M : pM) (F : pF) (a b : Nat) (T1 : pT) (M1 : pM) (F1 : pF) (b1 : Nat) : Prop := s_mono T T1 ∧ (∀ c, c < T.1.1 → c ≠ a → c ≠ b → M1 c = M c ∧ F1 c = F c) ∧ (b1 = b ∨ T.1.1 ≤ b1)
theorem AK.rf : AK T M F a b T M F b := ⟨s_mono.rf, fun _ _ _ _ => ⟨rfl, rfl⟩, Or.inl rfl⟩
theorem AK.tr (h : AK T M F a b T1 M1 F1 b1) (h' : AK T1 M1 F1 a b1 T2 M2 F2 b') : AK T M F a b T2 M2 F2 b' := by
  refine ⟨h.1.tr h'.1, fun c c0 c1 c2 => ?_, ?_⟩
  · have e1 := h.2.1 c c0 c1 c2
    have e2 := h'.2.1 c (by have := h.1.1; omega) c1 (by have := h.2.2; omega)
    exact ⟨e2.1.trans e1.1, e2.2.trans e1.2⟩
  · have := h.2.2; have := h'.2.2; have := h.1.1; omega
/-- an append, in few words -/
theorem ap_1 (hB : SBo T M F a b n tx) {v : Nat} (h : STx T M F s v ws) (hs : s < T.1.1 ∧ v < T.1.1 ∧ s ≠ a ∧ s ≠ b ∧ v ≠ a ∧ v ≠ b) (hl : tx.length + ws.length ≤ 300) : ∃ T1 M1 F1 b1 n1, (∀ d, 6 ≤ d → callD d m_J4_append_15ec4 [.ref a, .ref s] T M F = some (.inl (some (.ref a)), T1, M1, F1)) ∧ SBo T1 M1 F1 a b1 n1 (tx ++ ws) ∧ AK T M F a b T1 M1 F1 b1 ∧ T1.1.1 ≤ T.1.1 + 1 ∧ T1.1.2 ≤ T.1.2 + 600 := by
  obtain ⟨T1, M1, F1, e1, b1, n1, h1, h2, h3, h4, h5, h6, h7, h8⟩ := jd_appS hB h hs (by omega)
  have : (tx ++ ws).length = tx.length + ws.length := List.length_append
  exact ⟨T1, M1, F1, b1, n1, e1, h1, ⟨h6, fun c c0 c1 c2 => ⟨h4.1 c c0 c1 c2, h4.2 c c0 c1⟩, h3⟩, h7, by omega⟩
theorem ap_w {j : Nat} (hB : SBo T M F a b n tx) (hj : j < 6) (hl : tx.length + 12 ≤ 300) : ∃ T1 M1 F1 b1 n1, (∀ d, 6 ≤ d → callD d m_J4_append_15ec4 [.ref a, .ref (50 + j)] T M F = some (.inl (some (.ref a)), T1, M1, F1)) ∧ SBo T1 M1 F1 a b1 n1 (tx ++ p_roL (82 + j)) ∧ AK T M F a b T1 M1 F1 b1 ∧ T1.1.1 ≤ T.1.1 + 1 ∧ T1.1.2 ≤ T.1.2 + 600 := by
  have hp := hB.pl
  have hw := SW.w j hj
  have := (hw.f (T := T) (M := M) (F := F)).2.2.2.2.1
  exact ap_1 hB (STx.w hw) ⟨by omega, by omega, by omega, by omega, by omega, by omega⟩ (by omega)
theorem ap_k {j : Nat} (hB : SBo T M F a b n tx) (hj : j < 16) (hl : tx.length + 12 ≤ 300) : ∃ T1 M1 F1 b1 n1, (∀ d, 6 ≤ d → callD d m_J4_append_15ec4 [.ref a, .ref (30 + j)] T M F = some (.inl (some (.ref a)), T1, M1, F1)) ∧ SBo T1 M1 F1 a b1 n1 (tx ++ p_roL (64 + j)) ∧ AK T M F a b T1 M1 F1 b1 ∧ T1.1.1 ≤ T.1.1 + 1 ∧ T1.1.2 ≤ T.1.2 + 600 := by
  have hp := hB.pl
  have hw := SW.k j hj
  have := (hw.f (T := T) (M := M) (F := F)).2.2.2.2.1
  exact ap_1 hB (STx.w hw) ⟨by omega, by omega, by omega, by omega, by omega, by omega⟩ (by omega)
theorem ln_eq (hs : sd < 2) : p_roL 83 ++ p_roL (84 + sd) ++ p_roL (70 + pc) ++ p_roL 86 ++ nmW c ++ p_roL 77 = lnT sd pc c := by
  have h83 : p_roL 83 = p_roL 65 ++ [32] := rfl
  have h84 : p_roL (84 + sd) = p_roL (69 + sd) ++ [32] := by
    have : sd = 0 ∨ sd = 1 := by omega
    rcases this with rfl | rfl <;> rfl
  have h86 : p_roL 86 = [32] := rfl
  have h77 : p_roL 77 = [59] := rfl
  unfold lnT
  rw [h83, h84, h86, h77]
  simp only [List.append_assoc, List.cons_append, List.nil_append]
/-- the names of the pieces -/
def NMs (T : pT) (F : pF) (r0 : Nat) : Prop := 100 ≤ r0 ∧ p_ty T r0 = (6, 6) ∧ ∀ i : Nat, i < 6 → F r0 (i : Int) = some (37 + i)
theorem le_line (h100 : 100 ≤ T.1.1) (hB : SBo T M F a b n tx) (hN : NMs T F r0) (hr : r0 < T.1.1 ∧ r0 ≠ a ∧ r0 ≠ b) (hs : sd < 2) (hp : 1 ≤ pc ∧ pc ≤ 6) (hc : 0 ≤ c ∧ c < 91) (hl : tx.length ≤ 240) {l0 l3 l4 l5 l6 : Slot} :
    ∃ T1 M1 F1 b1 n1, (∀ e, 7 ≤ e → R e m_L_list 259 [l0, .val (.ref a), .val (.ref r0), l3, l4, l5, l6, .val (.int (iI (sd : Int))), .val (.int (iI (pc : Int))), .val (.int (iI c))] [] T M F = R e m_L_list 308 [l0, .val (.ref a), .val (.ref r0), l3, l4, l5, l6, .val (.int (iI (sd : Int))), .val (.int (iI (pc : Int))), .val (.int (iI c))] [] T1 M1 F1) ∧ SBo T1 M1 F1 a b1 n1 (tx ++ lnT sd pc c) ∧ AK T M F a b T1 M1 F1 b1 ∧ T1.1.1 ≤ T.1.1 + 16 ∧ T1.1.2 ≤ T.1.2 + 3700 := by
  obtain ⟨p1, p2, p3, p3', p4⟩ := pc_ok hp
  obtain ⟨s1, s2, s3, s4⟩ := sd_ok hs
  obtain ⟨n1, n2, n3, n4, n5, n6⟩ := nm_ok hc
  have l83 : (p_roL 83).length = 4 := rfl
  have l84 : (p_roL (82 + (2 + sd))).length = 6 := by
    have : sd = 0 ∨ sd = 1 := by omega
    rcases this with rfl | rfl <;> rfl
  have l86 : (p_roL 86).length = 1 := rfl
  obtain ⟨T1, M1, F1, b1, m1, e1, B1, K1, c1, d1⟩ := ap_w (j := 1) hB (by omega) (by omega)
  obtain ⟨T2, M2, F2, b2, m2, e2, B2, K2, c2, d2⟩ := ap_w (j := 2 + sd) B1 (by omega) (by rw [List.length_append, show 82 + 1 = 83 from rfl, l83]; omega)
  obtain ⟨T3, M3, F3, b3, m3, e3, B3, K3, c3, d3⟩ := ap_k (j := 6 + pc) B2 (by omega) (by rw [List.length_append, List.length_append, show 82 + 1 = 83 from rfl, l83, l84]; omega)
  obtain ⟨T4, M4, F4, b4, m4, e4, B4, K4, c4, d4⟩ := ap_w (j := 4) B3 (by omega) (by rw [List.length_append, List.length_append, List.length_append, show 82 + 1 = 83 from rfl, l83, l84, show 64 + (6 + pc) = 70 + pc by omega]; omega)
  have g1 := K1.1.1
  have g2 := K2.1.1
  have g3 := K3.1.1
  have g4 := K4.1.1
  obtain ⟨T5, M5, F5, r, e5, S5, q5, X5, c5, d5⟩ := z_nameOf (T := T4) (M := M4) (F := F4) (by omega) hc
  have P4 := B4.pl
  have B5 : SBo T5 M5 F5 a b4 m4 _ := B4.kp X5.1 (X5.2 a (by omega)).1 (X5.2 b4 (by omega)).1 (X5.2 a (by omega)).2
  have K5 : AK T4 M4 F4 a b4 T5 M5 F5 b4 := ⟨X5.1, fun c c0 _ _ => X5.2 c c0, Or.inl rfl⟩
  have g5 := X5.1.1
  have ll4 : (tx ++ p_roL (82 + 1) ++ p_roL (82 + (2 + sd)) ++ p_roL (64 + (6 + pc)) ++ p_roL (82 + 4)).length ≤ tx.length + 17 := by
    rw [List.length_append, List.length_append, List.length_append, List.length_append, show 82 + 1 = 83 from rfl, l83, l84, show 64 + (6 + pc) = 70 + pc by omega, show 82 + 4 = 86 from rfl, l86]; omega
  obtain ⟨T6, M6, F6, b6, m6, e6, B6, K6, c6, d6⟩ := ap_1 B5 S5 ⟨by omega, by omega, by omega, by omega, by omega, by omega⟩ (by omega)
  have ll5 := List.length_append (as := tx ++ p_roL (82 + 1) ++ p_roL (82 + (2 + sd)) ++ p_roL (64 + (6 + pc)) ++ p_roL (82 + 4)) (bs := nmW c)
  obtain ⟨T7, M7, F7, b7, m7, e7, B7, K7, c7, d7⟩ := ap_k (j := 13) B6 (by omega) (by omega)
  have KK := K1.tr (K2.tr (K3.tr (K4.tr (K5.tr (K6.tr K7)))))
  refine ⟨T7, M7, F7, b7, m7, fun e he => ?_, ?_, KK, by omega, by omega⟩
  · have e1 := e1 e (by omega)
    have e2 := e2 e (by omega)
    have e3 := e3 e (by omega)
    have e4 := e4 e (by omega)
    have e5 := e5 e (by omega)
    have e6 := e6 e (by omega)
    have e7 := e7 e (by omega)
    have ty := hB.pl.2.2.2
    have t1 := B1.pl.2.2.2
    have t2 := B2.pl.2.2.2
    have t3 := B3.pl.2.2.2
    have t5 := B5.pl.2.2.2
    have t6 := B6.pl.2.2.2
    have K12 := K1.tr K2
    have rn := (K12.1.2.2 r0 hr.1).trans hN.2.1
    have rf : F2 r0 ((pc : Int) - 1) = some (36 + pc) := by
      rw [(K12.2.1 r0 hr.1 hr.2.1 hr.2.2).2]
      have := hN.2.2 (pc - 1) (by omega)
      rw [show ((pc - 1 : Nat) : Int) = (pc : Int) - 1 by omega] at this
      rw [this]
      congr 1
      omega
    have r100 := hN.1
    rw [show 50 + 1 = 51 from rfl] at e1
    rw [show 30 + (6 + pc) = 36 + pc by omega] at e3
    rw [show 50 + 4 = 54 from rfl] at e4
    rw [show 30 + 13 = 43 from rfl] at e7
    clear B1 B2 B3 B4 B5 B6 B7 K1 K2 K3 K4 K5 K6 K7 KK K12 S5 X5 hN hB
    have hsd : sd = 0 ∨ sd = 1 := by omega
    rcases hsd with rfl | rfl
    · rw [show 50 + (2 + 0) = 52 from rfl] at e2
      simp (disch := omega) only [x_L_list_259, x_L_list_260, x_L_list_262, x_L_list_265, x_L_list_267, x_L_list_270, x_L_list_272, x_L_list_275, x_L_list_277, x_L_list_280, x_L_list_281, x_L_list_283, x_L_list_284, x_L_list_285, x_L_list_286, x_L_list_289, x_L_list_291, x_L_list_294, x_L_list_296, x_L_list_299, x_L_list_302, x_L_list_304, x_L_list_307, List.length_cons, List.length_nil, Nat.reduceLeDiff, Nat.zero_add, iI_add, iI_sub, iI_mul, iI_neg, iI_lt, iI_le, iI_eq, jI_iI, B_True, B_False, B_t, B_f, ck_True, gd_True, cb_v, cb_n, p_mv_rw, p_fv_rw, p_rv_some, pA_1, pA_90, pA_92, pA_3, pA_5, pA_93, pA_4, pA_91, pA_6, pS_i, pB_i, pW_i, pZ_0, pZ_1, pZ_b, bI_e0, u1_s, u1_n, uA_s, uA_n, true_and, and_true, not_true_eq_false, not_false_eq_true, eq_self, iI_z, al1, al5, al3, al4, al90, al91, al92, al93, al6, Int.cast_ofNat_Int, Nat.reduceAdd, Int.reduceNeg, Int.reduceAdd, Int.reduceSub, Int.reduceMul, Int.reduceLT, Int.reduceLE, Int.reduceGT, Int.reduceGE, Int.reduceEq, Int.reduceNe, Nat.reduceEqDiff, Int.zero_add, Int.add_zero, p_ty0, p_ty1, p_ty2, p_ty3, p_ty4, p_ty5, p_ty8, p_ty9, p_ty10, e1, e2, e3, e4, e5, e6, e7, ty, t1, t2, t3, t5, t6, rn, rf, gd_t, ck_t, B_t, B_f]
    · rw [show 50 + (2 + 1) = 53 from rfl] at e2
      simp (disch := omega) only [x_L_list_259, x_L_list_260, x_L_list_262, x_L_list_265, x_L_list_267, x_L_list_270, x_L_list_272, x_L_list_275, x_L_list_277, x_L_list_280, x_L_list_281, x_L_list_283, x_L_list_284, x_L_list_285, x_L_list_286, x_L_list_289, x_L_list_291, x_L_list_294, x_L_list_296, x_L_list_299, x_L_list_302, x_L_list_304, x_L_list_307, List.length_cons, List.length_nil, Nat.reduceLeDiff, Nat.zero_add, iI_add, iI_sub, iI_mul, iI_neg, iI_lt, iI_le, iI_eq, jI_iI, B_True, B_False, B_t, B_f, ck_True, gd_True, cb_v, cb_n, p_mv_rw, p_fv_rw, p_rv_some, pA_1, pA_90, pA_92, pA_3, pA_5, pA_93, pA_4, pA_91, pA_6, pS_i, pB_i, pW_i, pZ_0, pZ_1, pZ_b, bI_e0, u1_s, u1_n, uA_s, uA_n, true_and, and_true, not_true_eq_false, not_false_eq_true, eq_self, iI_z, al1, al5, al3, al4, al90, al91, al92, al93, al6, Int.cast_ofNat_Int, Nat.reduceAdd, Int.reduceNeg, Int.reduceAdd, Int.reduceSub, Int.reduceMul, Int.reduceLT, Int.reduceLE, Int.reduceGT, Int.reduceGE, Int.reduceEq, Int.reduceNe, Nat.reduceEqDiff, Int.zero_add, Int.add_zero, p_ty0, p_ty1, p_ty2, p_ty3, p_ty4, p_ty5, p_ty8, p_ty9, p_ty10, e1, e2, e3, e4, e5, e6, e7, ty, t1, t2, t3, t5, t6, rn, rf, gd_t, ck_t, B_t, B_f]
  · have := ln_eq (sd := sd) (pc := pc) (c := c) hs
    rw [← this]
    have e : tx ++ p_roL (82 + 1) ++ p_roL (82 + (2 + sd)) ++ p_roL (64 + (6 + pc)) ++ p_roL (82 + 4) ++ nmW c ++ p_roL (64 + 13) = tx ++ (p_roL 83 ++ p_roL (84 + sd) ++ p_roL (70 + pc) ++ p_roL 86 ++ nmW c ++ p_roL 77) := by
      rw [show 82 + (2 + sd) = 84 + sd by omega, show 64 + (6 + pc) = 70 + pc by omega]
      simp only [List.append_assoc]
    rw [← e]
    exact B7
end PLNE
