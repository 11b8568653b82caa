section PEND
variable {d bd lg N h L : Nat} {T T1 T2 : pT} {M M1 M2 : pM} {F F1 F2 : pF} {S0 S : GSx} {ea z i : Int} {bs : Int → Int} {l5 l6 l7 l8 : Slot} {xs : Nat → Int32}
/-- the law runs over what is left of the script -/
theorem lp_all (hL : L ≤ 3072) (hx : ∀ j, -2147483648 ≤ g_M0 xs 29 j ∧ g_M0 xs 29 j < 2147483648) : ∀ (m : Nat) (i : Int) (h : Nat) (l5 l6 l7 l8 : Slot) (T : pT) (M : pM) (F : pF), LW T M F h → 100 ≤ h → h + m < 613 → p_ty T 29 = (92, L) → M 29 = g_M0 xs 29 → 0 ≤ i → i ≤ 4000 → (L : Int) - i < 6 * ((m : Int) + 1) →
    ∃ T' M' F', R 12 m_L_law 23 [.val (.ref 29), .val (.ref 100), .val (.ref 127), .val (.ref 144), .val (.int (iI i)), l5, l6, l7, l8] [] T M F = some (.inl (some (.int (iI 1))), T', M', F') ∧ T'.1.1 ≤ T.1.1 + 901 * m ∧ T'.1.2 ≤ T.1.2 + 13906 * m := by
  have out : ∀ (i : Int) (l5 l6 l7 l8 : Slot) (T : pT) (M : pM) (F : pF), p_ty T 29 = (92, L) → 0 ≤ i → i ≤ 4000 → ¬ i + 6 ≤ (L : Int) → R 12 m_L_law 23 [.val (.ref 29), .val (.ref 100), .val (.ref 127), .val (.ref 144), .val (.int (iI i)), l5, l6, l7, l8] [] T M F = some (.inl (some (.int (iI 1))), T, M, F) := by
    intro i l5 l6 l7 l8 T M F t29 h0 h1 hi
    clear hx
    simp (disch := omega) only [x_L_law_23, x_L_law_25, x_L_law_26, x_L_law_27, x_L_law_29, x_L_law_30, x_L_law_1100, x_L_law_1101, List.length_cons, List.length_nil, Nat.reduceLeDiff, Nat.zero_add, iI_add, iI_sub, iI_mul, iI_neg, iI_lt, iI_le, iI_eq, jI_iI, B_True, B_False, B_t, B_f, ck_True, gd_True, cb_v, cb_n, p_mv_rw, p_fv_rw, p_rv_some, pA_1, pA_90, pA_92, pA_3, pA_2, pA_93, pA_4, pA_91, pA_95, pS_i, pW_i, pZ_0, pZ_1, pZ_b, bI_e0, u1_s, u1_n, uA_s, uA_n, true_and, and_true, not_true_eq_false, not_false_eq_true, eq_self, iI_z, al1, al2, al3, al4, al90, al91, al92, al93, al95, Int.cast_ofNat_Int, Nat.reduceAdd, Int.reduceNeg, Int.reduceAdd, Int.reduceSub, Int.reduceMul, Int.reduceLT, Int.reduceLE, Int.reduceGT, Int.reduceGE, Int.reduceEq, Int.reduceNe, Nat.reduceEqDiff, Int.zero_add, Int.add_zero, p_ty0, p_ty1, p_ty2, p_ty3, p_ty4, p_ty5, p_ty6, p_ty7, p_ty8, p_ty9, p_ty10, p_ty11, t29, gd_t, B_t, B_f]
  intro m
  induction m with
  | zero =>
    intro i h l5 l6 l7 l8 T M F hW h1 h2 t29 e29 h0 h4 hm
    exact ⟨T, M, F, out i l5 l6 l7 l8 T M F t29 h0 h4 (by omega), by omega, by omega⟩
  | succ m ih =>
    intro i h l5 l6 l7 l8 T M F hW h1 h2 t29 e29 h0 h4 hm
    by_cases c : i + 6 ≤ (L : Int)
    · have hx' : ∀ j, -2147483648 ≤ M 29 j ∧ M 29 j < 2147483648 := by rw [e29]; exact hx
      obtain ⟨k5, k6, k7, k8, T2, M2, F2, r2, W2, ⟨m2, b1, b2⟩, q2⟩ := s_op (x := jI (iI (M 29 i) &&& iI 31)) (l5 := l5) (l6 := l6) (l7 := l7) (l8 := l8) hW h1 (by omega) t29 ⟨h0, c⟩ hL hx'
      have h5 : 145 ≤ T.1.1 := by
        obtain ⟨S, ea, bs, z, bd, lg, N, hC, hM, -⟩ := hW
        exact hM.sz
      obtain ⟨T3, M3, F3, r3, b3, b4⟩ := ih (i + 6) (h + 1) k5 k6 k7 k8 T2 M2 F2 W2 (by omega) (by omega) ((m2.2.2 29 (by omega)).trans t29) (q2.trans e29) (by omega) (by omega) (by omega)
      refine ⟨T3, M3, F3, ?_, by omega, by omega⟩
      have pre : R 12 m_L_law 23 [.val (.ref 29), .val (.ref 100), .val (.ref 127), .val (.ref 144), .val (.int (iI i)), l5, l6, l7, l8] [] T M F = ts (jI (iI (M 29 i) &&& iI 31)) 0 18 [132, 236, 292, 305, 318, 374, 442, 510, 566, 646, 721, 777, 857, 901, 957, 970, 983, 1039, 1080] 1094 12 m_L_law [.val (.ref 29), .val (.ref 100), .val (.ref 127), .val (.ref 144), .val (.int (iI i)), l5, l6, l7, l8] [] T M F := by
        clear hx hx' ih W2 r2 r3 hW e29 q2 out
        simp (disch := omega) only [x_L_law_23, x_L_law_25, x_L_law_26, x_L_law_27, x_L_law_29, x_L_law_30, x_L_law_33, x_L_law_34, x_L_law_36, x_L_law_37, x_L_law_39, x_L_law_40, List.length_cons, List.length_nil, Nat.reduceLeDiff, Nat.zero_add, iI_add, iI_sub, iI_mul, iI_neg, iI_lt, iI_le, iI_eq, jI_iI, B_True, B_False, B_t, B_f, ck_True, gd_True, cb_v, cb_n, p_mv_rw, p_fv_rw, p_rv_some, pA_1, pA_90, pA_92, pA_3, pA_2, pA_93, pA_4, pA_91, pA_95, pS_i, pW_i, pZ_0, pZ_1, pZ_b, bI_e0, u1_s, u1_n, uA_s, uA_n, true_and, and_true, not_true_eq_false, not_false_eq_true, eq_self, iI_z, al1, al2, al3, al4, al90, al91, al92, al93, al95, Int.cast_ofNat_Int, Nat.reduceAdd, Int.reduceNeg, Int.reduceAdd, Int.reduceSub, Int.reduceMul, Int.reduceLT, Int.reduceLE, Int.reduceGT, Int.reduceGE, Int.reduceEq, Int.reduceNe, Nat.reduceEqDiff, Int.zero_add, Int.add_zero, p_ty0, p_ty1, p_ty2, p_ty3, p_ty4, p_ty5, p_ty6, p_ty7, p_ty8, p_ty9, p_ty10, p_ty11, t29, p_mv29, gd_t, B_t, B_f]
      rw [pre]
      unfold ts
      rw [r2, ← r3]
      clear hx hx' ih W2 r2 r3 hW e29 q2 out pre
      simp (disch := omega) only [x_L_law_1094, x_L_law_1097, List.length_cons, List.length_nil, Nat.reduceLeDiff, Nat.zero_add, iI_add, iI_sub, iI_mul, iI_neg, iI_lt, iI_le, iI_eq, jI_iI, B_True, B_False, B_t, B_f, ck_True, gd_True, cb_v, cb_n, p_mv_rw, p_fv_rw, p_rv_some, pA_1, pA_90, pA_92, pA_3, pA_2, pA_93, pA_4, pA_91, pA_95, pS_i, pW_i, pZ_0, pZ_1, pZ_b, bI_e0, u1_s, u1_n, uA_s, uA_n, true_and, and_true, not_true_eq_false, not_false_eq_true, eq_self, iI_z, al1, al2, al3, al4, al90, al91, al92, al93, al95, Int.cast_ofNat_Int, Nat.reduceAdd, Int.reduceNeg, Int.reduceAdd, Int.reduceSub, Int.reduceMul, Int.reduceLT, Int.reduceLE, Int.reduceGT, Int.reduceGE, Int.reduceEq, Int.reduceNe, Nat.reduceEqDiff, Int.zero_add, Int.add_zero, p_ty0, p_ty1, p_ty2, p_ty3, p_ty4, p_ty5, p_ty6, p_ty7, p_ty8, p_ty9, p_ty10, p_ty11, B_t, B_f]
    · exact ⟨T, M, F, out i l5 l6 l7 l8 T M F t29 h0 h4 c, by omega, by omega⟩
/-- the start: cabinet, model, the long -/
theorem lw_begin (T3 : pT) (M3 : pM) (F3 : pF) (hn : T3.1.1 = 144) (hY : YT T3 F3 134 135 448) (hG : YG M3) (h134 : M3 134 = fun _ => 0) (h128 : M3 128 = fun _ => 0) (h0 : ∀ j, j ≠ 3 → j ≠ 11 → M3 127 j = 0) (h3 : M3 127 3 = -1) (h11 : M3 127 11 = -1) :
    MW (p_new T3 3 1) (uA M3 144 (fun _ => 0)) (uA F3 144 (fun _ => none)) 134 135 448 z_new (-1) (fun _ => 0) 0 := by
  have m : s_mono T3 (p_new T3 3 1) := s_mono.new
  have g1 := fun a (ha : a < 144) => m.2.2 a (by omega)
  have h : ∀ j, uA F3 144 (fun _ => none) 127 j = F3 127 j := fun j => congrFun (uA_n (by omega)) j
  have fM : ∀ a, a ≠ 144 → uA M3 144 (fun _ => 0) a = M3 a := fun a ha => uA_n ha
  refine ⟨⟨?_, ⟨Or.inl rfl, Or.inl rfl, by omega, ?_, ?_, ?_⟩, Or.inl rfl, trivial, by show 7 * 0 ≤ 448; omega, ?_⟩, ⟨?_, ?_, ?_, ?_, ?_⟩, ?_, ?_, ?_⟩
  · obtain ⟨ty127, ty128, fy1, ty129, fy4, ty130, fy5, ty131, fy6, ty132, fy7, ty133, fy8, ty136, fy15, ty137, fy16, ty138, fy17, ty139, fy18, ty140, fy19, ty141, fy20, ty142, fy21, ty143, fy22, hbd, tybd, fy9, hlg, tylg, fy13, hN⟩ := hY
    exact ⟨(g1 _ (by omega)).trans ty127, (g1 _ (by omega)).trans ty128, (h _).trans fy1, (g1 _ (by omega)).trans ty129, (h _).trans fy4, (g1 _ (by omega)).trans ty130, (h _).trans fy5, (g1 _ (by omega)).trans ty131, (h _).trans fy6, (g1 _ (by omega)).trans ty132, (h _).trans fy7, (g1 _ (by omega)).trans ty133, (h _).trans fy8, (g1 _ (by omega)).trans ty136, (h _).trans fy15, (g1 _ (by omega)).trans ty137, (h _).trans fy16, (g1 _ (by omega)).trans ty138, (h _).trans fy17, (g1 _ (by omega)).trans ty139, (h _).trans fy18, (g1 _ (by omega)).trans ty140, (h _).trans fy19, (g1 _ (by omega)).trans ty141, (h _).trans fy20, (g1 _ (by omega)).trans ty142, (h _).trans fy21, (g1 _ (by omega)).trans ty143, (h _).trans fy22, hbd, (g1 _ (by omega)).trans tybd, (h _).trans fy9, hlg, (g1 _ (by omega)).trans tylg, (h _).trans fy13, hN⟩
  · show 134 < T3.1.1 + 1; omega
  · show 135 < T3.1.1 + 1; omega
  · show 145 ≤ T3.1.1 + 1; omega
  · rw [fM 127 (by omega)]; exact h0 14 (by omega) (by omega)
  · unfold YG at *
    rw [fM 129 (by omega), fM 130 (by omega), fM 131 (by omega), fM 132 (by omega), fM 133 (by omega)]
    exact hG
  · rw [fM 134 (by omega)]; exact h134
  · rw [fM 127 (by omega)]; exact h0 10 (by omega) (by omega)
  · rw [fM 127 (by omega)]; exact h11
  · rw [fM 127 (by omega)]; exact h0 12 (by omega) (by omega)
  · rw [fM 127 (by omega)]; exact h0 2 (by omega) (by omega)
  · rw [fM 127 (by omega)]; exact h3
  · rw [fM 128 (by omega)]; exact h128
theorem g_lawRun (hL : L ≤ 3072) : ∃ T' M' F', callD 13 m_L_law [.ref 29] (g_T0 L) (g_M0 xs) g_F0 = some (.inl (some (.int (iI 1))), T', M', F') ∧ T'.1.1 ≤ 601124 ∧ T'.1.2 ≤ 7293034 := by
  have n0 : (g_T0 L).1.1 = 100 := rfl
  have t100 : p_ty (p_new (g_T0 L) 17 7) 100 = (17, 7) := p_tw n0 (by omega)
  obtain ⟨T1, M1, F1, r1, n1, s1, W1, m1, f1⟩ := i_cab (T := p_new (g_T0 L) 17 7) (M := uA (g_M0 xs) 100 (fun _ => 0)) (F := uA g_F0 100 (fun _ => none)) t100 rfl
  have t127 : p_ty (p_new T1 18 24) 127 = (18, 24) := p_tw n1 (by omega)
  obtain ⟨T3, M3, F3, r3, n3, s3, Y3, G3, m3, f3, z1, z2, w0', w3, w11⟩ := i_mod (T := p_new T1 18 24) (M := uA M1 127 (fun _ => 0)) (F := uA F1 127 (fun _ => none)) t127 (by rw [p_nn, n1]) uA_s
  have t29 : p_ty (g_T0 L) 29 = (92, L) := by rw [g_ty0, if_pos rfl]
  have m01 : s_mono (g_T0 L) T1 := s_mono.new.tr m1
  have m13 : s_mono T1 T3 := s_mono.new.tr m3
  have m34 : s_mono T3 (p_new T3 3 1) := s_mono.new
  have t29' : p_ty (p_new T3 3 1) 29 = (92, L) := (((m01.tr m13).tr m34).2.2 29 (by rw [n0]; omega)).trans t29
  have MW4 := lw_begin T3 M3 F3 n3 Y3 G3 z1 z2 w0' w3 w11
  have t144 : p_ty (p_new T3 3 1) 144 = (3, 1) := p_tw n3 (by omega)
  have CW4 : CW (p_new T3 3 1) (uA M3 144 (fun _ => 0)) (uA F3 144 (fun _ => none)) z_new (-1) (fun _ => 0) 0 := W1.fr (m13.tr m34) (by omega) (fun a ha => ⟨(uA_n (by omega)).trans (((f3 a ha).1).trans (uA_n (by omega))), (uA_n (by omega)).trans (((f3 a ha).2).trans (uA_n (by omega)))⟩)
  have LW4 : LW (p_new T3 3 1) (uA M3 144 (fun _ => 0)) (uA F3 144 (fun _ => none)) 100 := ⟨z_new, -1, fun _ => 0, 0, 134, 135, 448, CW4, MW4, Nat.zero_le _, t144⟩
  have e29 : uA M3 144 (fun _ => 0) 29 = g_M0 xs 29 := (uA_n (by omega)).trans (((f3 29 (by omega)).1.trans (uA_n (by omega))).trans (((f1 29 (by omega)).1).trans (uA_n (by omega))))
  have hx : ∀ j, -2147483648 ≤ g_M0 xs 29 j ∧ g_M0 xs 29 j < 2147483648 := by
    intro j
    show -2147483648 ≤ (if (29 : Nat) = 29 then (xs j.toNat).toInt else 0) ∧ (if (29 : Nat) = 29 then (xs j.toNat).toInt else 0) < 2147483648
    rw [if_pos rfl]
    exact ⟨Int32.le_toInt _, Int32.toInt_lt _⟩
  obtain ⟨T5, M5, F5, r5, b5, b6⟩ := lp_all (xs := xs) hL hx 512 0 100 .unset .unset .unset .unset (p_new T3 3 1) (uA M3 144 (fun _ => 0)) (uA F3 144 (fun _ => none)) LW4 (by omega) (by omega) t29' e29 (Int.le_refl _) (by omega) (by omega)
  refine ⟨T5, M5, F5, ?_, ?_, ?_⟩
  · rw [callD_succ 12 m_L_law [.ref 29] _ _ _ (by decide)]
    show R 12 m_L_law 0 [.val (.ref 29), .unset, .unset, .unset, .unset, .unset, .unset, .unset, .unset] [] (g_T0 L) (g_M0 xs) g_F0 = _
    have r1 := r1 12 (by omega)
    have r3 := r3 12 (by omega)
    have y1 : (1 : Int).toNat = 1 := rfl
    rw [← r5]
    clear r5 LW4 CW4 MW4 W1 Y3 G3 f1 f3 z1 z2 w0' w3 w11 e29 hx m01 m13 m34 m1 m3 t29'
    simp (disch := omega) only [x_L_law_0, x_L_law_3, x_L_law_4, x_L_law_7, x_L_law_8, x_L_law_11, x_L_law_12, x_L_law_15, x_L_law_16, x_L_law_17, x_L_law_19, x_L_law_20, x_L_law_21, List.length_cons, List.length_nil, Nat.reduceLeDiff, Nat.zero_add, iI_add, iI_sub, iI_mul, iI_neg, iI_lt, iI_le, iI_eq, jI_iI, B_True, B_False, B_t, B_f, ck_True, gd_True, cb_v, cb_n, p_mv_rw, p_fv_rw, p_rv_some, pA_1, pA_90, pA_92, pA_3, pA_2, pA_93, pA_4, pA_91, pA_95, pS_i, pW_i, pZ_0, pZ_1, pZ_b, bI_e0, u1_s, u1_n, uA_s, uA_n, true_and, and_true, not_true_eq_false, not_false_eq_true, eq_self, iI_z, al1, al2, al3, al4, al90, al91, al92, al93, al95, Int.cast_ofNat_Int, Nat.reduceAdd, Int.reduceNeg, Int.reduceAdd, Int.reduceSub, Int.reduceMul, Int.reduceLT, Int.reduceLE, Int.reduceGT, Int.reduceGE, Int.reduceEq, Int.reduceNe, Nat.reduceEqDiff, Int.zero_add, Int.add_zero, p_ty0, p_ty1, p_ty2, p_ty3, p_ty4, p_ty5, p_ty6, p_ty7, p_ty8, p_ty9, p_ty10, p_ty11, n0, n1, n3, t29, t100, t127, r1, r3, y1, gd_t, ck_t]
  · have k1 : (p_new T3 3 1).1.1 = 145 := by rw [p_nn, n3]
    omega
  · have k1 : (p_new T3 3 1).1.2 = T3.1.2 + 1 := rfl
    have k2 : (p_new T1 18 24).1.2 = T1.1.2 + 24 := rfl
    have k3 : (p_new (g_T0 L) 17 7).1.2 = 0 + 7 := rfl
    omega
/-- the goal -/
theorem g_isGoal : g_goal := by
  intro L xs hL
  obtain ⟨T', M', F', h⟩ := g_lawRun (L := L) (xs := xs) hL
  exact ⟨T', M', F', h⟩
theorem i_vc : Claimed_1_1 ∧ Claimed_1_2 := g_vc g_isGoal
end PEND
