section PLIS
variable {d s b n a r0 sd pc b' b1 bs Ln m : Nat} {T T0 T1 T2 T3 : pT} {M M0 M1 M2 M3 : pM} {F F0 F1 F2 F3 : pF} {k t i c p x y : Int} {tx ws : List Int} {bb : Int → Int}
theorem MB.u1 (h : MB bb) (hx : x = 0 ∨ (1 ≤ x ∧ x ≤ 6) ∨ (11 ≤ x ∧ x ≤ 16)) : MB (u1 bb c x) := fun j => by
  unfold Jvm.Pilot.CHexCabinetLaw_law_r7757_e678ad.u1
  split
  · exact hx
  · exact h j
theorem q_sb_MB : MB q_sb := by
  have h0 : MB (pwn 91) := fun j => by have := pwn_v 91 j; omega
  unfold q_sb
  have z : ∀ (f : Int → Int) (k i j : Int), MB f → 1 ≤ k ∧ k ≤ 6 → MB (Jvm.Pilot.CHexCabinetLaw_law_r7757_e678ad.u1 (Jvm.Pilot.CHexCabinetLaw_law_r7757_e678ad.u1 f i k) j (10 + k)) := fun f k i j hf hk => (hf.u1 (by omega)).u1 (by omega)
  exact z _ _ _ _ (z _ _ _ _ (z _ _ _ _ (z _ _ _ _ (z _ _ _ _ (z _ _ _ _ (z _ _ _ _ (z _ _ _ _ (z _ _ _ _ h0 (by omega)) (by omega)) (by omega)) (by omega)) (by omega)) (by omega)) (by omega)) (by omega)) (by omega)
theorem li_loop {b0 : Nat} (h0 : 100 ≤ T0.1.1) (ha0 : a < T0.1.1) (hL : Ln ≤ 1000) {e : Nat} (he : 7 ≤ e) {many : Int} (hmn : many ≤ 11) : ∀ (nn : Nat) (k : Int) (T : pT) (M : pM) (F : pF) (b n : Nat) (tx : List Int) (bb : Int → Int) (m : Nat) (l6 l7 l8 l9 : Slot), 0 ≤ k → k + nn = many → LVs T0 M0 F0 a b0 r0 s bs Ln T M F b n tx bb m k →
    ∃ T1 M1 F1 b1 n1 tx1 bb1 m1 k6 k7 k8 k9, R e m_L_list 86 [.val (.ref 29), .val (.ref a), .val (.ref r0), .val (.ref s), .val (.int (iI many)), .val (.int (iI k)), l6, l7, l8, l9] [] T M F = R e m_L_list 314 [.val (.ref 29), .val (.ref a), .val (.ref r0), .val (.ref s), .val (.int (iI many)), .val (.int (iI many)), k6, k7, k8, k9] [] T1 M1 F1 ∧ LVs T0 M0 F0 a b0 r0 s bs Ln T1 M1 F1 b1 n1 tx1 bb1 m1 many ∧ T1.1.1 ≤ T.1.1 + cB 0 16 nn ∧ T1.1.2 ≤ T.1.2 + cB 0 3700 nn
  | 0, k, T, M, F, b, n, tx, bb, m, l6, l7, l8, l9, hk, hkn, h => by
    obtain rfl : k = many := by omega
    refine ⟨T, M, F, b, n, tx, bb, m, l6, l7, l8, l9, ?_, h, by rw [cB]; omega, by rw [cB]; omega⟩
    clear h
    simp (disch := omega) only [x_L_list_86, x_L_list_88, x_L_list_90, List.length_cons, List.length_nil, Nat.reduceLeDiff, Nat.zero_add, iI_add, iI_sub, iI_mul, iI_neg, iI_lt, iI_le, iI_eq, jI_iI, B_True, B_False, B_t, B_f, ck_True, gd_True, cb_v, cb_n, p_mv_rw, p_fv_rw, p_rv_some, pA_1, pA_90, pA_92, pA_3, pA_5, pA_93, pA_4, pA_91, pA_6, pS_i, pB_i, pW_i, pZ_0, pZ_1, pZ_b, bI_e0, u1_s, u1_n, uA_s, uA_n, true_and, and_true, not_true_eq_false, not_false_eq_true, eq_self, iI_z, al1, al5, al3, al4, al90, al91, al92, al93, al6, Int.cast_ofNat_Int, Nat.reduceAdd, Int.reduceNeg, Int.reduceAdd, Int.reduceSub, Int.reduceMul, Int.reduceLT, Int.reduceLE, Int.reduceGT, Int.reduceGE, Int.reduceEq, Int.reduceNe, Nat.reduceEqDiff, Int.zero_add, Int.add_zero, p_ty0, p_ty1, p_ty2, p_ty3, p_ty4, p_ty5, p_ty8, p_ty9, p_ty10, B_t, B_f]
  | nn + 1, k, T, M, F, b, n, tx, bb, m, l6, l7, l8, l9, hk, hkn, h => by
    obtain ⟨T1, M1, F1, b1, n1, tx1, bb1, m1, k6, k7, k8, k9, e1, h1, g1, g2⟩ := li_step h0 ha0 hL (k := k) (by omega) h he (many := many) (by omega) (l6 := l6) (l7 := l7) (l8 := l8) (l9 := l9)
    obtain ⟨T2, M2, F2, b2, n2, tx2, bb2, m2, j6, j7, j8, j9, e2, h2, g3, g4⟩ := li_loop h0 ha0 hL he hmn nn (k + 1) T1 M1 F1 b1 n1 tx1 bb1 m1 k6 k7 k8 k9 (by omega) (by omega) h1
    exact ⟨T2, M2, F2, b2, n2, tx2, bb2, m2, j6, j7, j8, j9, e1.trans e2, h2, by rw [cB]; omega, by rw [cB]; omega⟩
theorem cB_le (a b : Nat) : ∀ n k : Nat, n ≤ k → cB a b n ≤ cB a b k := by
  intro n k h
  induction k with
  | zero => rw [Nat.le_zero.mp h]; exact Nat.le_refl _
  | succ k ih =>
    by_cases c : n = k + 1
    · rw [c]; exact Nat.le_refl _
    · rw [cB]; have := ih (by omega); omega
/-- what list gives -/
def LIr (T : pT) (M : pM) (F : pF) (a b Ln : Nat) (T1 : pT) (M1 : pM) (F1 : pF) (s bs : Nat) (tx : List Int) (bb : Int → Int) (t : Int) : Prop := ∃ b1 n1 m, SBo T1 M1 F1 a b1 n1 tx ∧ (SI T1 F1 s bs ∧ SM M1 s bs bb t (-1) 0 0) ∧ ((T.1.1 ≤ s ∧ s < T1.1.1) ∧ (T.1.1 ≤ bs ∧ bs < T1.1.1) ∧ s ≠ b1 ∧ bs ≠ b1) ∧ TQ tx z_new (bb, t, -1, 0, []) m ∧ (m ≤ 60 ∧ tx.length ≤ 250) ∧ (∀ x ∈ tx, 0 ≤ x ∧ x < 128) ∧ (∀ x, tx.head? = some x → x ≠ 32 ∧ x ≠ 10) ∧ p_ty T1 29 = (92, Ln) ∧ AK T M F a b T1 M1 F1 b1 ∧ T1.1.1 ≤ T.1.1 + 300 ∧ T1.1.2 ≤ T.1.2 + 50000
theorem z_list (h100 : 100 ≤ T.1.1) (hB : SBo T M F a b n []) (t29 : p_ty T 29 = (92, Ln)) (hL : Ln ≤ 1000) {e : Nat} (he : 7 ≤ e) : ∃ (T1 : pT) (M1 : pM) (F1 : pF) (s bs : Nat) (tx : List Int) (bb : Int → Int) (t : Int), callD (e + 1) m_L_list [.ref 29, .ref a] T M F = some (.inl (some (.ref s)), T1, M1, F1) ∧ LIr T M F a b Ln T1 M1 F1 s bs tx bb t := by
  have hp := hB.pl
  -- the names
  obtain ⟨Ta, hTa⟩ : ∃ Ta : pT, Ta = p_new T 6 6 := ⟨_, rfl⟩
  have ya : s_mono T Ta := by rw [hTa]; exact s_mono.new
  have na : Ta.1.1 = T.1.1 + 1 := by rw [hTa]; rfl
  have sa : Ta.1.2 = T.1.2 + 6 := by rw [hTa]; rfl
  have ta : p_ty Ta T.1.1 = (6, 6) := by rw [hTa]; exact p_ty_nw h100
  obtain ⟨Fa, hFa⟩ : ∃ Fa : pF, Fa = uA F T.1.1 (u1 (u1 (u1 (u1 (u1 (u1 (fun _ => none) 0 (some 37)) 1 (some 38)) 2 (some 39)) 3 (some 40)) 4 (some 41)) 5 (some 42)) := ⟨_, rfl⟩
  have st : ∀ j : Nat, j < 16 → (p_ty Ta (30 + j)).1 = 21 := fun j hj => by
    obtain ⟨x, hx⟩ := (STx.w (T := Ta) (M := M) (F := F) (SW.k j hj)).1
    rw [hx]
  have s37 := st 7 (by omega)
  have s38 := st 8 (by omega)
  have s39 := st 9 (by omega)
  have s40 := st 10 (by omega)
  have s41 := st 11 (by omega)
  have s42 := st 12 (by omega)
  have nmF : ∀ i : Nat, i < 6 → Fa T.1.1 (i : Int) = some (37 + i) := by
    intro i hi
    rw [hFa, uA_s]
    have : i = 0 ∨ i = 1 ∨ i = 2 ∨ i = 3 ∨ i = 4 ∨ i = 5 := by omega
    rcases this with rfl | rfl | rfl | rfl | rfl | rfl <;> rfl
  -- the simulation
  obtain ⟨Tb, hTb⟩ : ∃ Tb : pT, Tb = p_new Ta 18 5 := ⟨_, rfl⟩
  have yb : s_mono Ta Tb := by rw [hTb]; exact s_mono.new
  have nb : Tb.1.1 = Ta.1.1 + 1 := by rw [hTb]; rfl
  have sb : Tb.1.2 = Ta.1.2 + 5 := by rw [hTb]; rfl
  have tb : p_ty Tb Ta.1.1 = (18, 5) := by rw [hTb]; exact p_ty_nw (by omega)
  obtain ⟨Tc, Mc, Fc, ec, nc, sc, Ic, SBc, gc, xc⟩ := z_init (s := Ta.1.1) (T := Tb) (M := uA (uA M T.1.1 (fun _ => 0)) Ta.1.1 (fun _ => 0)) (F := uA Fa Ta.1.1 (fun _ => none)) (by omega) tb nb
  rw [uA_s] at gc
  have smC : SM Mc Ta.1.1 (Ta.1.1 + 1) (fun _ => 0) 0 (-1) 0 0 := by
    refine ⟨⟨SBc, fun _ => Or.inl rfl⟩, ?_, ?_, ?_, ?_, Or.inl rfl, Or.inl rfl, by omega, by omega⟩ <;> rw [gc] <;> simp (disch := omega) only [u1_s, u1_n]
    rfl
  have AKc : AK T M F a b Tc Mc Fc b := by
    refine ⟨ya.tr (yb.tr xc.1), fun z z0 z1 z2 => ?_, Or.inl rfl⟩
    have := xc.2 z (by omega)
    rw [this.1, this.2, uA_n (by omega), uA_n (by omega), uA_n (by omega), hFa, uA_n (by omega)]
    exact ⟨rfl, rfl⟩
  have keepA : Mc a = M a ∧ Fc a = F a := by
    have := xc.2 a (by omega)
    rw [this.1, this.2, uA_n (by omega), uA_n (by omega), uA_n (by omega), hFa, uA_n (by omega)]
    exact ⟨rfl, rfl⟩
  have keepB : Mc b = M b := by
    have := xc.2 b (by omega)
    rw [this.1, uA_n (by omega), uA_n (by omega)]
  have Bc : SBo Tc Mc Fc a b n [] := hB.kp AKc.1 keepA.1 keepB keepA.2
  have Nc : NMs Tc Fc T.1.1 := ⟨h100, ((yb.tr xc.1).2.2 T.1.1 (by omega)).trans ta, fun i hi => by rw [(xc.2 T.1.1 (by omega)).2, uA_n (by omega)]; exact nmF i hi⟩
  have t29c : p_ty Tc 29 = (92, Ln) := (AKc.1.2.2 29 (by omega)).trans t29
  have tsc : p_ty Tc Ta.1.1 = (18, 5) := Ic.2.1
  -- up to 44
  have eA : R e m_L_list 0 [.val (.ref 29), .val (.ref a), .unset, .unset, .unset, .unset, .unset, .unset, .unset, .unset] [] T M F = R e m_L_list 44 [.val (.ref 29), .val (.ref a), .val (.ref T.1.1), .val (.ref Ta.1.1), .unset, .unset, .unset, .unset, .unset, .unset] [] Tc Mc Fc := by
    have ec := ec e (by omega)
    have y6 : (6 : Int).toNat = 6 := rfl
    clear Bc Nc AKc smC SBc xc Ic hB
    have e1 : R e m_L_list 0 [.val (.ref 29), .val (.ref a), .unset, .unset, .unset, .unset, .unset, .unset, .unset, .unset] [] T M F = R e m_L_list 36 [.val (.ref 29), .val (.ref a), .val (.ref T.1.1), .unset, .unset, .unset, .unset, .unset, .unset, .unset] [] Ta (uA M T.1.1 (fun _ => 0)) Fa := by
      rw [hFa]
      rw [hTa] at ta s37 s38 s39 s40 s41 s42 ⊢
      simp (disch := omega) only [x_L_list_0, x_L_list_2, x_L_list_5, x_L_list_6, x_L_list_7, x_L_list_9, x_L_list_10, x_L_list_11, x_L_list_12, x_L_list_14, x_L_list_15, x_L_list_16, x_L_list_17, x_L_list_19, x_L_list_20, x_L_list_21, x_L_list_22, x_L_list_24, x_L_list_25, x_L_list_26, x_L_list_27, x_L_list_29, x_L_list_30, x_L_list_31, x_L_list_32, x_L_list_34, x_L_list_35, List.length_cons, List.length_nil, Nat.reduceLeDiff, Nat.zero_add, iI_add, iI_sub, iI_mul, iI_neg, iI_lt, iI_le, iI_eq, jI_iI, B_True, B_False, B_t, B_f, ck_True, gd_True, cb_v, cb_n, p_mv_rw, p_fv_rw, p_rv_some, pA_1, pA_90, pA_92, pA_3, pA_5, pA_93, pA_4, pA_91, pA_6, pS_i, pB_i, pW_i, pZ_0, pZ_1, pZ_b, bI_e0, u1_s, u1_n, uA_s, uA_n, true_and, and_true, not_true_eq_false, not_false_eq_true, eq_self, iI_z, al1, al5, al3, al4, al90, al91, al92, al93, al6, Int.cast_ofNat_Int, Nat.reduceAdd, Int.reduceNeg, Int.reduceAdd, Int.reduceSub, Int.reduceMul, Int.reduceLT, Int.reduceLE, Int.reduceGT, Int.reduceGE, Int.reduceEq, Int.reduceNe, Nat.reduceEqDiff, Int.zero_add, Int.add_zero, p_ty0, p_ty1, p_ty2, p_ty3, p_ty4, p_ty5, p_ty8, p_ty9, p_ty10, ta, s37, s38, s39, s40, s41, s42, y6, uA_uA, gd_t, ck_t, B_t, B_f]
    rw [e1]
    clear e1
    rw [hTb] at ec tb
    generalize hq : uA M T.1.1 (fun _ => 0) = Mq at *
    simp (disch := omega) only [x_L_list_36, x_L_list_39, x_L_list_40, x_L_list_43, List.length_cons, List.length_nil, Nat.reduceLeDiff, Nat.zero_add, iI_add, iI_sub, iI_mul, iI_neg, iI_lt, iI_le, iI_eq, jI_iI, B_True, B_False, B_t, B_f, ck_True, gd_True, cb_v, cb_n, p_mv_rw, p_fv_rw, p_rv_some, pA_1, pA_90, pA_92, pA_3, pA_5, pA_93, pA_4, pA_91, pA_6, pS_i, pB_i, pW_i, pZ_0, pZ_1, pZ_b, bI_e0, u1_s, u1_n, uA_s, uA_n, true_and, and_true, not_true_eq_false, not_false_eq_true, eq_self, iI_z, al1, al5, al3, al4, al90, al91, al92, al93, al6, Int.cast_ofNat_Int, Nat.reduceAdd, Int.reduceNeg, Int.reduceAdd, Int.reduceSub, Int.reduceMul, Int.reduceLT, Int.reduceLE, Int.reduceGT, Int.reduceGE, Int.reduceEq, Int.reduceNe, Nat.reduceEqDiff, Int.zero_add, Int.add_zero, p_ty0, p_ty1, p_ty2, p_ty3, p_ty4, p_ty5, p_ty8, p_ty9, p_ty10, ec, tb, gd_t, ck_t, B_t, B_f]
  obtain ⟨v0, hv0⟩ := z_Lcell (T := Tc) (M := Mc) (F := Fc) t29c hL (i := 0) (by omega)
  have hv0 := hv0 e (by omega)
  have b4 := z_below (d := e) (T := Tc) (M := Mc) (F := Fc) (x := v0) (n := 4) (by omega) (by omega)
  have r4 := bl_rg v0 (n := 4) (by omega)
  have hce : callD (e + 1) m_L_list [.ref 29, .ref a] T M F = R e m_L_list 44 [.val (.ref 29), .val (.ref a), .val (.ref T.1.1), .val (.ref Ta.1.1), .unset, .unset, .unset, .unset, .unset, .unset] [] Tc Mc Fc := by
    rw [callD_succ _ _ _ _ _ _ (Nat.le_of_ble_eq_true rfl), ← eA]
    rfl
  rw [hce]
  clear hce eA
  by_cases c0 : bl v0 4 = 0
  · -- the set-up
    obtain ⟨T1, M1, F1, b1, n1, e1, B1, K1, g1, g2⟩ := ap_w (j := 0) Bc (by omega) (by simp)
    rw [List.nil_append, show 82 + 0 = 82 from rfl] at B1
    have q1 := K1.1.1
    have bp := B1.pl
    have hbn := K1.2.2
    have Is : SI T1 F1 Ta.1.1 (Ta.1.1 + 1) := ⟨Ic.1, (K1.1.2.2 _ (by omega)).trans Ic.2.1, by rw [(K1.2.1 _ (by omega) (by omega) (by omega)).2]; exact Ic.2.2.1, Ic.2.2.2.1, (K1.1.2.2 _ (by omega)).trans Ic.2.2.2.2.1, Ic.2.2.2.2.2⟩
    obtain ⟨M2, F2, e2, S2, hF2, f2⟩ := z_setUp (T := T1) (M := M1) (F := F1) (by omega) Is (by omega) (by omega) (by rw [(K1.2.1 (Ta.1.1 + 1) (by omega) (by omega) (by omega)).1]; exact SBc)
    obtain ⟨T2, hT2⟩ : ∃ T2 : pT, T2 = p_new T1 1 27 := ⟨_, rfl⟩
    have y2 : s_mono T1 T2 := by rw [hT2]; exact s_mono.new
    have n2 : T2.1.1 = T1.1.1 + 1 := by rw [hT2]; rfl
    have s2 : T2.1.2 = T1.1.2 + 27 := by rw [hT2]; rfl
    rw [← hT2] at e2
    have kF : ∀ z, z < T1.1.1 → F2 z = F1 z := fun z hz => by rw [hF2, uA_n (by omega)]
    have AK2 : AK Tc Mc Fc a b T2 M2 F2 b1 ∨ True := Or.inr trivial
    refine ⟨T2, M2, F2, Ta.1.1, Ta.1.1 + 1, p_roL 82, q_sb, 0, ?_, b1, n1, 2, B1.kp y2 (f2 a (by omega) (by omega)) (f2 b1 (by omega) (by omega)) (kF a (by omega)), ⟨⟨Is.1, (y2.2.2 _ (by omega)).trans Is.2.1, by rw [kF _ (by omega)]; exact Is.2.2.1, Is.2.2.2.1, (y2.2.2 _ (by omega)).trans Is.2.2.2.2.1, Is.2.2.2.2.2⟩, ⟨S2, q_sb_MB⟩, ?_⟩, ⟨⟨by omega, by omega⟩, ⟨by omega, by omega⟩, by omega, by omega⟩, TQ.start, ⟨by omega, by decide⟩, by decide, fun x hx => by cases hx; decide, ((K1.1.tr y2).2.2 29 (by omega)).trans t29c, ?_, by omega, by omega⟩
    · have e1 := e1 e (by omega)
      have e2 := e2 e (by omega)
      have t1 := Bc.pl.2.2.2
      have ts := tsc
      have ts2 : p_ty T2 Ta.1.1 = (18, 5) := (y2.2.2 _ (by omega)).trans Is.2.1
      rw [show 50 + 0 = 50 from rfl] at e1
      clear Bc Nc AKc smC SBc xc Ic hB B1 K1 Is S2 f2
      rw [c0] at b4
      simp (disch := omega) only [x_L_list_44, x_L_list_45, x_L_list_46, x_L_list_49, x_L_list_50, x_L_list_53, x_L_list_56, x_L_list_57, x_L_list_59, x_L_list_62, x_L_list_63, x_L_list_64, x_L_list_67, x_L_list_68, List.length_cons, List.length_nil, Nat.reduceLeDiff, Nat.zero_add, iI_add, iI_sub, iI_mul, iI_neg, iI_lt, iI_le, iI_eq, jI_iI, B_True, B_False, B_t, B_f, ck_True, gd_True, cb_v, cb_n, p_mv_rw, p_fv_rw, p_rv_some, pA_1, pA_90, pA_92, pA_3, pA_5, pA_93, pA_4, pA_91, pA_6, pS_i, pB_i, pW_i, pZ_0, pZ_1, pZ_b, bI_e0, u1_s, u1_n, uA_s, uA_n, true_and, and_true, not_true_eq_false, not_false_eq_true, eq_self, iI_z, al1, al5, al3, al4, al90, al91, al92, al93, al6, Int.cast_ofNat_Int, Nat.reduceAdd, Int.reduceNeg, Int.reduceAdd, Int.reduceSub, Int.reduceMul, Int.reduceLT, Int.reduceLE, Int.reduceGT, Int.reduceGE, Int.reduceEq, Int.reduceNe, Nat.reduceEqDiff, Int.zero_add, Int.add_zero, p_ty0, p_ty1, p_ty2, p_ty3, p_ty4, p_ty5, p_ty8, p_ty9, p_ty10, hv0, b4, e1, e2, t1, ts, ts2, gd_t, ck_t, B_t, B_f]
    · have e : M2 Ta.1.1 = Mc Ta.1.1 := by rw [f2 _ (by omega) (by omega), (K1.2.1 _ (by omega) (by omega) (by omega)).1]
      rw [e]; exact smC.2
    · refine ⟨AKc.1.tr (K1.1.tr y2), fun z z0 z1 z2 => ?_, by omega⟩
      have w1 := AKc.2.1 z z0 z1 z2
      have w2 := K1.2.1 z (by omega) z1 z2
      exact ⟨by rw [f2 z (by omega) (by omega), w2.1]; exact w1.1, by rw [kF z (by omega), w2.2]; exact w1.2⟩
  · obtain ⟨v1, hv1⟩ := z_Lcell (T := Tc) (M := Mc) (F := Fc) t29c hL (i := 1) (by omega)
    have hv1 := hv1 e (by omega)
    have b9 := z_below (d := e) (T := Tc) (M := Mc) (F := Fc) (x := v1) (n := 9) (by omega) (by omega)
    have r9 := bl_rg v1 (n := 9) (by omega)
    have hLV : LVs T M F a b T.1.1 Ta.1.1 (Ta.1.1 + 1) Ln Tc Mc Fc b n [] (fun _ => 0) 0 0 := by
      refine ⟨Bc, Nc, ⟨Ic, smC⟩, ⟨⟨by omega, by omega⟩, ⟨by omega, by omega⟩, ⟨by omega, by omega⟩, ⟨by omega, by omega, by omega⟩, by omega, by omega⟩, TQ.nil, ⟨by omega, by simp⟩, fun x hx => absurd hx List.not_mem_nil, (fun x hx => by cases hx), t29c, fun q hq => ?_, ⟨fun _ _ => rfl, fun _ _ => (by decide : (0 : Int) ≠ 11)⟩, AKc⟩
      rw [sm_zero 91 (fun j _ _ => show a_pc (fun _ => 0) q j = 0 from bI_f (by unfold m_side; rw [if_pos rfl]; omega))]
      omega
    obtain ⟨T1, M1, F1, b1, n1, tx1, bb1, m1, k6, k7, k8, k9, e1, h1, g1, g2⟩ := li_loop h100 hp.1.2 hL he (many := 3 + bl v1 9) (by omega) (3 + bl v1 9).toNat 0 Tc Mc Fc b n [] (fun _ => 0) 0 .unset .unset .unset .unset (by omega) (by omega) hLV
    have w1 := cB_le 0 16 (3 + bl v1 9).toNat 11 (by omega)
    have w2 := cB_le 0 3700 (3 + bl v1 9).toNat 11 (by omega)
    rw [show cB 0 16 11 = 176 from rfl] at w1
    rw [show cB 0 3700 11 = 40700 from rfl] at w2
    obtain ⟨hB1, hN1, ⟨hI1, hS1⟩, ⟨c1, c2, c3, c4, c5, c6⟩, hT1, ⟨hm1, hl1⟩, hch1, hhd1, t291, hpc1, -, hAK1⟩ := h1
    have e44 : R e m_L_list 44 [.val (.ref 29), .val (.ref a), .val (.ref T.1.1), .val (.ref Ta.1.1), .unset, .unset, .unset, .unset, .unset, .unset] [] Tc Mc Fc = R e m_L_list 86 [.val (.ref 29), .val (.ref a), .val (.ref T.1.1), .val (.ref Ta.1.1), .val (.int (iI (3 + bl v1 9))), .val (.int (iI 0)), .unset, .unset, .unset, .unset] [] Tc Mc Fc := by
      clear Bc Nc AKc smC SBc xc Ic hB hLV e1 hB1 hN1 hI1 hS1 hT1 hAK1
      generalize bl v0 4 = u0 at *
      generalize bl v1 9 = u1' at *
      simp (disch := omega) only [x_L_list_44, x_L_list_45, x_L_list_46, x_L_list_49, x_L_list_50, x_L_list_53, x_L_list_56, x_L_list_57, x_L_list_59, x_L_list_62, x_L_list_63, x_L_list_64, x_L_list_67, x_L_list_68, x_L_list_69, x_L_list_70, x_L_list_71, x_L_list_72, x_L_list_75, x_L_list_77, x_L_list_80, x_L_list_81, x_L_list_83, x_L_list_84, List.length_cons, List.length_nil, Nat.reduceLeDiff, Nat.zero_add, iI_add, iI_sub, iI_mul, iI_neg, iI_lt, iI_le, iI_eq, jI_iI, B_True, B_False, B_t, B_f, ck_True, gd_True, cb_v, cb_n, p_mv_rw, p_fv_rw, p_rv_some, pA_1, pA_90, pA_92, pA_3, pA_5, pA_93, pA_4, pA_91, pA_6, pS_i, pB_i, pW_i, pZ_0, pZ_1, pZ_b, bI_e0, u1_s, u1_n, uA_s, uA_n, true_and, and_true, not_true_eq_false, not_false_eq_true, eq_self, iI_z, al1, al5, al3, al4, al90, al91, al92, al93, al6, Int.cast_ofNat_Int, Nat.reduceAdd, Int.reduceNeg, Int.reduceAdd, Int.reduceSub, Int.reduceMul, Int.reduceLT, Int.reduceLE, Int.reduceGT, Int.reduceGE, Int.reduceEq, Int.reduceNe, Nat.reduceEqDiff, Int.zero_add, Int.add_zero, p_ty0, p_ty1, p_ty2, p_ty3, p_ty4, p_ty5, p_ty8, p_ty9, p_ty10, hv0, b4, hv1, b9, gd_t, ck_t, B_t, B_f]
    rw [e44, e1]
    clear e44 e1
    obtain ⟨v5, hv5⟩ := z_Lcell (T := T1) (M := M1) (F := F1) t291 hL (i := 1) (by omega)
    have hv5 := hv5 e (by omega)
    have b2 := z_below (d := e) (T := T1) (M := M1) (F := F1) (x := v5 >>> (iI 5 &&& 31)) (n := 2) (by omega) (by omega)
    have r2 := bl_rg (v5 >>> (iI 5 &&& 31)) (n := 2) (by omega)
    have ts1 := hI1.2.1
    have s100 := hI1.1
    by_cases ct : bl (v5 >>> (iI 5 &&& 31)) 2 = 1
    · -- black's turn
      obtain ⟨T2, M2, F2, b2', n2, e2, B2, K2, g3, g4⟩ := ap_w (j := 5) hB1 (by omega) (by omega)
      rw [show 82 + 5 = 87 from rfl] at B2
      have q2 := K2.1.1
      have bp := hB1.pl
      have bp2 := B2.pl
      have ts2 : p_ty T2 Ta.1.1 = (18, 5) := (K2.1.2.2 _ (by omega)).trans ts1
      have l87 : (p_roL 87).length = 12 := rfl
      have hbn := K2.2.2
      have B3 : SBo T2 (uA M2 Ta.1.1 (u1 (M2 Ta.1.1) 1 1)) F2 a b2' n2 (tx1 ++ p_roL 87) := B2.kp s_mono.rf (uA_n (by omega)) (uA_n (by omega)) rfl
      have ms : M2 Ta.1.1 = M1 Ta.1.1 := (K2.2.1 _ (by omega) (by omega) (by omega)).1
      have mb : M2 (Ta.1.1 + 1) = M1 (Ta.1.1 + 1) := (K2.2.1 _ (by omega) (by omega) (by omega)).1
      refine ⟨T2, uA M2 Ta.1.1 (u1 (M2 Ta.1.1) 1 1), F2, Ta.1.1, Ta.1.1 + 1, tx1 ++ p_roL 87, bb1, 1, ?_, b2', n2, m1 + 3, B3, ⟨⟨hI1.1, ts2, by rw [(K2.2.1 _ (by omega) (by omega) (by omega)).2]; exact hI1.2.2.1, hI1.2.2.2.1, (K2.1.2.2 _ (by omega)).trans hI1.2.2.2.2.1, hI1.2.2.2.2.2⟩, ⟨?_, hS1.1.2⟩, ?_⟩, ⟨⟨by omega, by omega⟩, ⟨by omega, by omega⟩, by omega, by omega⟩, hT1.app TQ.turn (fun x hx => by cases hx; decide), ⟨by omega, by rw [List.length_append]; omega⟩, ?_, ?_, (K2.1.2.2 29 (by omega)).trans t291, ?_, by omega, by omega⟩
      · have e2 := e2 e (by omega)
        have t1 := hB1.pl.2.2.2
        rw [show 50 + 5 = 55 from rfl] at e2
        clear Bc Nc AKc smC SBc xc Ic hB hLV hB1 hN1 hI1 hS1 hT1 hAK1 B2 B3 K2
        rw [ct] at b2
        simp (disch := omega) only [x_L_list_314, x_L_list_315, x_L_list_316, x_L_list_319, x_L_list_320, x_L_list_321, x_L_list_322, x_L_list_325, x_L_list_326, x_L_list_329, x_L_list_330, x_L_list_332, x_L_list_335, x_L_list_336, x_L_list_337, x_L_list_338, x_L_list_341, x_L_list_342, List.length_cons, List.length_nil, Nat.reduceLeDiff, Nat.zero_add, iI_add, iI_sub, iI_mul, iI_neg, iI_lt, iI_le, iI_eq, jI_iI, B_True, B_False, B_t, B_f, ck_True, gd_True, cb_v, cb_n, p_mv_rw, p_fv_rw, p_rv_some, pA_1, pA_90, pA_92, pA_3, pA_5, pA_93, pA_4, pA_91, pA_6, pS_i, pB_i, pW_i, pZ_0, pZ_1, pZ_b, bI_e0, u1_s, u1_n, uA_s, uA_n, true_and, and_true, not_true_eq_false, not_false_eq_true, eq_self, iI_z, al1, al5, al3, al4, al90, al91, al92, al93, al6, Int.cast_ofNat_Int, Nat.reduceAdd, Int.reduceNeg, Int.reduceAdd, Int.reduceSub, Int.reduceMul, Int.reduceLT, Int.reduceLE, Int.reduceGT, Int.reduceGE, Int.reduceEq, Int.reduceNe, Nat.reduceEqDiff, Int.zero_add, Int.add_zero, p_ty0, p_ty1, p_ty2, p_ty3, p_ty4, p_ty5, p_ty8, p_ty9, p_ty10, hv5, b2, e2, t1, ts2, gd_t, ck_t, B_t, B_f]
      · rw [uA_n (by omega), mb]; exact hS1.1.1
      · rw [uA_s, ms]
        obtain ⟨-, z1, z2, z3, z4, z5⟩ := hS1
        exact ⟨u1_s, by rw [u1_n (by decide)]; exact z2, by rw [u1_n (by decide)]; exact z3, by rw [u1_n (by decide)]; exact z4, Or.inr rfl, z5.2⟩
      · intro x hx
        rcases List.mem_append.mp hx with hx | hx
        · exact hch1 x hx
        · have : ∀ x ∈ p_roL 87, 0 ≤ x ∧ x < 128 := by decide
          exact this x hx
      · intro x hx
        cases tx1 with
        | nil => rw [List.nil_append] at hx; cases hx; decide
        | cons y tx => exact hhd1 x hx
      · refine ⟨hAK1.1.tr K2.1, fun z z0 z1 z2 => ?_, by have := hAK1.2.2; omega⟩
        have w1 := hAK1.2.1 z z0 z1 z2
        have w2 := K2.2.1 z (by have := hAK1.1.1; omega) z1 (by have := hAK1.2.2; omega)
        exact ⟨by rw [uA_n (by omega), w2.1]; exact w1.1, w2.2.trans w1.2⟩
    · refine ⟨T1, M1, F1, Ta.1.1, Ta.1.1 + 1, tx1, bb1, 0, ?_, b1, n1, m1, hB1, ⟨hI1, hS1⟩, ⟨⟨by omega, by omega⟩, ⟨by omega, by omega⟩, by omega, by omega⟩, hT1, ⟨by omega, by omega⟩, hch1, hhd1, t291, hAK1, by omega, by omega⟩
      clear Bc Nc AKc smC SBc xc Ic hB hLV hB1 hN1 hI1 hS1 hT1 hAK1
      generalize bl (v5 >>> (iI 5 &&& 31)) 2 = u2 at *
      simp (disch := omega) only [x_L_list_314, x_L_list_315, x_L_list_316, x_L_list_319, x_L_list_320, x_L_list_321, x_L_list_322, x_L_list_325, x_L_list_326, x_L_list_329, x_L_list_330, x_L_list_332, x_L_list_335, x_L_list_336, x_L_list_337, x_L_list_338, x_L_list_341, x_L_list_342, List.length_cons, List.length_nil, Nat.reduceLeDiff, Nat.zero_add, iI_add, iI_sub, iI_mul, iI_neg, iI_lt, iI_le, iI_eq, jI_iI, B_True, B_False, B_t, B_f, ck_True, gd_True, cb_v, cb_n, p_mv_rw, p_fv_rw, p_rv_some, pA_1, pA_90, pA_92, pA_3, pA_5, pA_93, pA_4, pA_91, pA_6, pS_i, pB_i, pW_i, pZ_0, pZ_1, pZ_b, bI_e0, u1_s, u1_n, uA_s, uA_n, true_and, and_true, not_true_eq_false, not_false_eq_true, eq_self, iI_z, al1, al5, al3, al4, al90, al91, al92, al93, al6, Int.cast_ofNat_Int, Nat.reduceAdd, Int.reduceNeg, Int.reduceAdd, Int.reduceSub, Int.reduceMul, Int.reduceLT, Int.reduceLE, Int.reduceGT, Int.reduceGE, Int.reduceEq, Int.reduceNe, Nat.reduceEqDiff, Int.zero_add, Int.add_zero, p_ty0, p_ty1, p_ty2, p_ty3, p_ty4, p_ty5, p_ty8, p_ty9, p_ty10, hv5, b2, ts1, gd_t, ck_t, B_t, B_f]
end PLIS
