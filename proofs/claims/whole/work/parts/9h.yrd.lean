section PYRR
variable {d bd lg N lg1 N1 cs ss cs1 ss1 : Nat} {T T1 T2 : pT} {M M0 M1 M2 : pM} {F F1 F2 : pF} {bs bb : Int → Int} {z c x n1 w s t pas q er p its to acc st : Int} {k i m n j l : Nat} {S : GSx} {R0 R' : List TKn} {y : TKn}
def XRd (bd : Nat) : Nat → Prop := fun a => XTc bd a ∨ a = 141 ∨ a = 142 ∨ a = 143
/-- reading: the error, its place, the game -/
noncomputable def z_rdr (bs : Int → Int) (z : Int) : Int × Int × GSx := if (z_tok bs z).2 ≠ -1 then (1, (z_tok bs z).2, z_new) else d_run (z_tok bs z).1 z_new
theorem y_read (hQ : YQ T M F bd lg N z_new) (hT : YTp M bs z) :
    ∃ T' M' F' lg' N', (∀ d, 11 ≤ d → callD d m_X8_read [.ref 127] T M F = some (.inl (some (.int (iI (z_rdr bs z).1))), T', M', F')) ∧ YQ T' M' F' bd lg' N' (z_rdr bs z).2.2 ∧ (0 ≤ (z_rdr bs z).1 ∧ (z_rdr bs z).1 ≤ 5) ∧ ((z_rdr bs z).1 ≠ 0 → M' 127 3 = (z_rdr bs z).2.1) ∧ ((z_rdr bs z).1 = 0 → M' 127 3 = M 127 3) ∧ (∀ j, j ≠ 3 → j ≠ 10 → j ≠ 11 → j ≠ 12 → j ≠ 14 → j ≠ 23 → M' 127 j = M 127 j) ∧ YCs (XRd bd) 400 2400 T M F lg N T' M' F' lg' N' := by
  obtain ⟨hV, hS⟩ := id hQ
  obtain ⟨d0, d0', d1, d2, d3, d4⟩ := id hV.2.1
  have hz := hT.2.2.1
  obtain ⟨M1, m, r1, K1, f1⟩ := y_readTokens hV.1 hT
  obtain ⟨j, r2, e2, h2⟩ := y_isGame (T := T) (F := F) hV.1 K1
  obtain ⟨tk1, tk2⟩ := tok_psr (bs := bs) hz
  rw [e2] at tk1 tk2
  have hm := K1.1
  have f2 : ∀ a, a ≠ 127 → a ≠ 141 → a ≠ 142 → a ≠ 143 → w23 M1 (j : Int) a = M a := fun a h1 h2 h3 h4 => by unfold w23; rw [uA_n h1]; exact f1 a h2 h3 h4
  have g2 : ∀ i, i ≠ 23 → w23 M1 (j : Int) 127 i = M 127 i := fun i hi => by unfold w23; rw [uA_s, u1_n hi, f1 127 (by omega) (by omega) (by omega)]
  have g23 : w23 M1 (j : Int) 127 23 = (j : Int) := by unfold w23; rw [uA_s, u1_s]
  have Q2 : YQ T (w23 M1 (j : Int)) F bd lg N z_new := by
    obtain ⟨a1, a2, a3, a4, a5, a6⟩ := hV
    obtain ⟨b1, b2, b3, b4, b5⟩ := hS
    refine ⟨⟨a1, a2, a3, ?_, a5, ?_⟩, ⟨?_, ?_, ?_, ?_, ?_⟩⟩
    · rw [f2 lg (by omega) (by omega) (by omega) (by omega)]; exact a4
    · rw [g2 14 (by omega)]; exact a6
    · unfold YG at *
      rw [f2 129 (by omega) (by omega) (by omega) (by omega), f2 130 (by omega) (by omega) (by omega) (by omega), f2 131 (by omega) (by omega) (by omega) (by omega), f2 132 (by omega) (by omega) (by omega) (by omega), f2 133 (by omega) (by omega) (by omega) (by omega)]
      exact b1
    · rw [f2 bd (by omega) (by omega) (by omega) (by omega)]; exact b2
    · rw [g2 10 (by omega)]; exact b3
    · rw [g2 11 (by omega)]; exact b4
    · rw [g2 12 (by omega)]; exact b5
  have w141 : ∀ a, a ≠ 127 → w23 M1 (j : Int) a = M1 a := fun a ha => by unfold w23; rw [uA_n ha]
  have K2 : TKM (w23 M1 (j : Int)) bs z m := K1.fr (w141 141 (by omega)) (w141 142 (by omega)) (w141 143 (by omega))
  have T2p : YTp (w23 M1 (j : Int)) bs z := ⟨by rw [f2 128 (by omega) (by omega) (by omega) (by omega)]; exact hT.1, by rw [g2 2 (by omega)]; exact hT.2.1, hT.2.2⟩
  have C2 : YCs (XRd bd) 0 0 T M F lg N T (w23 M1 (j : Int)) F lg N := (YC.wr (fun a ha => f2 a (fun q => ha (Or.inl (Or.inl q))) (fun q => ha (Or.inr (Or.inl q))) (fun q => ha (Or.inr (Or.inr (Or.inl q)))) (fun q => ha (Or.inr (Or.inr (Or.inr q)))))).sl GD.rf
  have t0 := hV.1.1
  unfold z_rdr
  by_cases ok : (psr (kcn bs z) 401 0 0).1 = true
  · rw [if_pos ok] at tk1
    rw [if_neg (fun q => q tk1), tk2]
    have hk22 := psr_ok 401 0 0 ok
    rw [e2] at hk22
    have hjm : j = m := by
      refine Classical.byContradiction (fun q => ?_)
      have := K1.2.2.1 j (by omega)
      omega
    subst hjm
    have hrun := z_tok_run (bs := bs) (z := z) tk1
    rw [tk2] at hrun
    have hall := rl_all (bd := bd) hm j 0 z_new T (w23 M1 (j : Int)) F lg N (by omega) (Nat.zero_le _) hrun Q2 ⟨⟨fun _ => Or.inl rfl, fun s hs k c _ _ _ _ e1 _ => by
      have : (0 : Int) = 10 * s + 1 := e1
      omega, p20_0, Or.inl rfl, Or.inl rfl, by show (0 : Int) ≤ 0 ∧ (0 : Int) ≤ 60; omega⟩, trivial⟩ (fun _ _ => rfl) K2 T2p (Nat.zero_le _)
    rw [Nat.sub_zero] at hall
    obtain ⟨T3, M3, F3, lg3, N3, r3, Q3, rg3, p3, p3', j3, C3⟩ := hall
    refine ⟨T3, M3, F3, lg3, N3, fun d hd => ?_, Q3, rg3, p3, fun q => (p3' q).trans (g2 3 (by omega)), fun i i3 i10 i11 i12 i14 i23 => (j3 i i3 i10 i11 i12 i14).trans (g2 i i23), (C2.tr (C3.wk (fun a h => Or.inl h) (Nat.le_refl _) (Nat.le_refl _))).wk (fun _ h => h) (by omega) (by omega)⟩
    refine callD_go 10 hd rfl (fun e he => ?_)
    show R e m_X8_read 0 [.val (.ref 127), .unset, .unset, .unset, .unset] [] T M F = _
    have r1 := r1 e (by omega)
    have r2 := r2 e (by omega)
    have r3 := fun l4 => r3 e l4 he
    rw [bI_t ok] at r2
    rw [Int.natCast_zero] at r3
    clear hQ hV hS hT K1 K2 T2p C2 C3 Q2 Q3 p3 p3' j3 f1 f2 g2 w141 tk1 tk2 hk22 hrun ok
    simp (disch := omega) only [x_X8_read_0, x_X8_read_1, x_X8_read_4, x_X8_read_5, x_X8_read_8, x_X8_read_21, x_X8_read_22, x_X8_read_25, x_X8_read_26, x_X8_read_27, x_X8_read_28, x_X8_read_29, List.length_cons, List.length_nil, Nat.reduceLeDiff, Nat.zero_add, iI_add, iI_sub, iI_mul, iI_neg, iI_lt, iI_le, iI_eq, jI_iI, B_True, B_False, B_t, B_f, ck_True, gd_True, cb_v, cb_n, p_mv_rw, p_fv_rw, p_rv_some, pA_1, pA_90, pA_92, pA_3, pA_2, pA_93, pA_4, pA_91, pA_95, pS_i, pW_i, pZ_0, pZ_1, pZ_b, bI_e0, u1_s, u1_n, uA_s, uA_n, true_and, and_true, not_true_eq_false, not_false_eq_true, eq_self, iI_z, al1, al2, al3, al4, al90, al91, al92, al93, al95, Int.cast_ofNat_Int, Nat.reduceAdd, Int.reduceNeg, Int.reduceAdd, Int.reduceSub, Int.reduceMul, Int.reduceLT, Int.reduceLE, Int.reduceGT, Int.reduceGE, Int.reduceEq, Int.reduceNe, Nat.reduceEqDiff, Int.zero_add, Int.add_zero, p_ty0, p_ty1, p_ty2, p_ty3, p_ty4, p_ty5, p_ty6, p_ty7, p_ty8, p_ty9, p_ty10, p_ty11, t0, r1, r2, r3, g23, gd_t, B_t, B_f]
  · rw [if_neg ok] at tk1
    have hsp := spn_rg (bs := bs) hz j
    have hspz : spn bs z j ≤ 100000 := by
      cases j with
      | zero => have := t_bk_z 2000 0 (bs := bs) (z := z) hz.1; rw [spn]; omega
      | succ j' =>
        have hlt := (kcn_lt (K1.2.2.1 j' (by omega))).1
        have hE := t_end_rg (bs := bs) (p := spn bs z j') (z := z) ⟨spn_rg hz j', hlt⟩
        have := t_bk_z 2000 (t_end bs z (spn bs z j')) (bs := bs) (z := z) hE.2
        rw [spn]; omega
    rw [if_pos (by rw [tk1]; omega), tk1]
    have wr := fun e (he : 1 ≤ e) => y_wrong (d := e) (er := 1) (j := j) (p := spn bs z j) (M := w23 M1 (j : Int)) (F := F) hV.1 (by omega) (K2.2.2.2.1 j h2).1 (by omega) (by omega) he
    refine ⟨T, uA (w23 M1 (j : Int)) 127 (u1 (w23 M1 (j : Int) 127) 3 (spn bs z j)), F, lg, N, fun d hd => ?_, Q2.w3, ⟨by show (0 : Int) ≤ 1; omega, by show (1 : Int) ≤ 5; omega⟩, fun _ => by rw [uA_s, u1_s], fun q => absurd q (by show ¬ (1 : Int) = 0; decide), fun i i3 i10 i11 i12 i14 i23 => by rw [uA_s, u1_n i3]; exact g2 i i23, ?_⟩
    · refine callD_go 10 hd rfl (fun e he => ?_)
      show R e m_X8_read 0 [.val (.ref 127), .unset, .unset, .unset, .unset] [] T M F = _
      have r1 := r1 e (by omega)
      have r2 := r2 e (by omega)
      have wr := wr e (by omega)
      rw [bI_f ok] at r2
      show _ = (some (.inl (some (.int (iI 1))), T, _, F) : Option pR)
      clear hQ hV hS hT K1 K2 T2p C2 Q2 f1 f2 g2 w141 tk1 tk2 ok
      simp (disch := omega) only [x_X8_read_0, x_X8_read_1, x_X8_read_4, x_X8_read_5, x_X8_read_8, x_X8_read_11, x_X8_read_12, x_X8_read_13, x_X8_read_14, x_X8_read_17, x_X8_read_20, List.length_cons, List.length_nil, Nat.reduceLeDiff, Nat.zero_add, iI_add, iI_sub, iI_mul, iI_neg, iI_lt, iI_le, iI_eq, jI_iI, B_True, B_False, B_t, B_f, ck_True, gd_True, cb_v, cb_n, p_mv_rw, p_fv_rw, p_rv_some, pA_1, pA_90, pA_92, pA_3, pA_2, pA_93, pA_4, pA_91, pA_95, pS_i, pW_i, pZ_0, pZ_1, pZ_b, bI_e0, u1_s, u1_n, uA_s, uA_n, true_and, and_true, not_true_eq_false, not_false_eq_true, eq_self, iI_z, al1, al2, al3, al4, al90, al91, al92, al93, al95, Int.cast_ofNat_Int, Nat.reduceAdd, Int.reduceNeg, Int.reduceAdd, Int.reduceSub, Int.reduceMul, Int.reduceLT, Int.reduceLE, Int.reduceGT, Int.reduceGE, Int.reduceEq, Int.reduceNe, Nat.reduceEqDiff, Int.zero_add, Int.add_zero, p_ty0, p_ty1, p_ty2, p_ty3, p_ty4, p_ty5, p_ty6, p_ty7, p_ty8, p_ty9, p_ty10, p_ty11, t0, r1, r2, wr, g23, gd_t, B_t, B_f]
    · exact (C2.tr ((YC.wr (fun a ha => uA_n (fun q => ha (Or.inl (Or.inl q))))).sl GD.rf)).wk (fun _ h => h) (by omega) (by omega)
end PYRR
