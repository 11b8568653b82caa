section PYSV
variable {d bd lg N r1 r2 : Nat} {T T1 T2 : pT} {M M0 M1 M2 : pM} {F F1 F2 : pF} {c x n1 w : Int} {k i m n j : Nat}
theorem YT.nw {tag n : Nat} {g : Int → Option Nat} (hY : YT T F bd lg N) (hD : YD bd lg T) : YT (p_new T tag n) (uA F T.1.1 g) bd lg N := by
  obtain ⟨d0, d0', d1, d2, d3, d4⟩ := hD
  have tx := fun a (ha : a < T.1.1) => p_ty_nx (T := T) (tag := tag) (n := n) (a := a) ha
  obtain ⟨ty127, ty128, fy1, ty129, fy4, ty130, fy5, ty131, fy6, ty132, fy7, ty133, fy8, ty136, fy15, ty137, fy16, ty138, fy17, ty139, fy18, ty140, fy19, ty141, fy20, ty142, fy21, ty143, fy22, hbd, tybd, fy9, hlg, tylg, fy13, hN⟩ := hY
  have g1 := fun a (ha : a < 145) => tx a (by omega)
  have h := fun j => congrFun (uA_n (M := F) (a := T.1.1) (f := g) (b := 127) (by omega)) j
  exact ⟨(g1 _ (by omega)).trans ty127, (g1 _ (by omega)).trans ty128, (h _).trans fy1, (g1 _ (by omega)).trans ty129, (h _).trans fy4, (g1 _ (by omega)).trans ty130, (h _).trans fy5, (g1 _ (by omega)).trans ty131, (h _).trans fy6, (g1 _ (by omega)).trans ty132, (h _).trans fy7, (g1 _ (by omega)).trans ty133, (h _).trans fy8, (g1 _ (by omega)).trans ty136, (h _).trans fy15, (g1 _ (by omega)).trans ty137, (h _).trans fy16, (g1 _ (by omega)).trans ty138, (h _).trans fy17, (g1 _ (by omega)).trans ty139, (h _).trans fy18, (g1 _ (by omega)).trans ty140, (h _).trans fy19, (g1 _ (by omega)).trans ty141, (h _).trans fy20, (g1 _ (by omega)).trans ty142, (h _).trans fy21, (g1 _ (by omega)).trans ty143, (h _).trans fy22, hbd, (tx bd d2).trans tybd, (h _).trans fy9, hlg, (tx lg d3).trans tylg, (h _).trans fy13, hN⟩
theorem YD.nw {tag n : Nat} (hD : YD bd lg T) : YD bd lg (p_new T tag n) := by
  obtain ⟨d0, d0', d1, d2, d3, d4⟩ := hD
  exact ⟨d0, d0', d1, Nat.lt_succ_of_lt d2, Nat.lt_succ_of_lt d3, Nat.le_succ_of_le d4⟩
theorem YG.brd (hG : YG M) (hb : bd = 134 ∨ 145 ≤ bd) (f : ∀ a, a ≠ bd → a ≠ 127 → M1 a = M a) : YG M1 := by
  unfold YG at *
  rw [f 129 (by omega) (by omega), f 130 (by omega) (by omega), f 131 (by omega) (by omega), f 132 (by omega) (by omega), f 133 (by omega) (by omega)]
  exact hG
theorem su_pw {l2 l3 : Slot} (hY : YT T F bd lg N) (hb : bd = 134 ∨ 145 ≤ bd) : ∀ (n : Nat) (k : Int) (M : pM), k + n = 91 → 0 ≤ k → M bd = pwn k → YG M → ∀ e, 2 ≤ e → R e m_X8_setUp 6 [.val (.ref 127), .val (.int (iI k)), l2, l3] [] T M F = R e m_X8_setUp 53 [.val (.ref 127), .val (.int (iI 91)), l2, l3] [] T (uA M bd (pwn 91)) F := by
  have ty := hY
  obtain ⟨ty127, ty128, fy1, ty129, fy4, ty130, fy5, ty131, fy6, ty132, fy7, ty133, fy8, ty136, fy15, ty137, fy16, ty138, fy17, ty139, fy18, ty140, fy19, ty141, fy20, ty142, fy21, ty143, fy22, hbd, tybd, fy9, hlg, tylg, fy13, hN⟩ := ty
  intro n
  induction n with
  | zero =>
    intro k M hk h0 hM hG e he
    obtain rfl : k = 91 := by omega
    rw [← hM, uA_id]
    clear hY hG hM
    simp (disch := omega) only [x_X8_setUp_6, x_X8_setUp_7, x_X8_setUp_9, List.length_cons, List.length_nil, Nat.reduceLeDiff, Nat.zero_add, iI_add, iI_sub, iI_mul, iI_neg, iI_lt, iI_le, iI_eq, jI_iI, B_True, B_False, B_t, B_f, ck_True, gd_True, cb_v, cb_n, p_mv_rw, p_fv_rw, p_rv_some, pA_1, pA_90, pA_92, pA_3, pA_2, pA_93, pA_4, pA_91, pA_95, pS_i, pW_i, pZ_0, pZ_1, pZ_b, bI_e0, u1_s, u1_n, uA_s, uA_n, true_and, and_true, not_true_eq_false, not_false_eq_true, eq_self, iI_z, al1, al2, al3, al4, al90, al91, al92, al93, al95, Int.cast_ofNat_Int, Nat.reduceAdd, Int.reduceNeg, Int.reduceAdd, Int.reduceSub, Int.reduceMul, Int.reduceLT, Int.reduceLE, Int.reduceGT, Int.reduceGE, Int.reduceEq, Int.reduceNe, Nat.reduceEqDiff, Int.zero_add, Int.add_zero, p_ty0, p_ty1, p_ty2, p_ty3, p_ty4, p_ty5, p_ty6, p_ty7, p_ty8, p_ty9, p_ty10, p_ty11, B_t, B_f]
  | succ n ih =>
    intro k M hk h0 hM hG e he
    have hk91 : 0 ≤ k ∧ k < 91 := by omega
    have p0 := y_fst (d := e) (s := 0) hY hG he hk91 (Or.inl rfl)
    have p1 := y_fst (d := e) (s := 1) hY hG he hk91 (Or.inr rfl)
    obtain ⟨w0, w1, w2⟩ := pw_m hk91
    have ih := ih (k + 1) (uA M bd (u1 (M bd) k (pw k))) (by omega) (by omega) (by rw [uA_s, hM, pwn_s h0]) (hG.brd hb (fun a h1 h2 => by rw [uA_n h1])) e he
    rw [uA_uA] at ih
    rw [← ih, x_X8_setUp_6]
    by_cases c0 : m_fst k 0
    · rw [bI_t c0] at p0
      rw [w0 c0]
      clear hY hG hM ih w0 w1 w2
      simp (disch := omega) only [x_X8_setUp_7, x_X8_setUp_9, x_X8_setUp_12, x_X8_setUp_13, x_X8_setUp_16, x_X8_setUp_17, x_X8_setUp_18, x_X8_setUp_19, x_X8_setUp_20, x_X8_setUp_23, x_X8_setUp_26, x_X8_setUp_28, x_X8_setUp_31, x_X8_setUp_32, x_X8_setUp_33, x_X8_setUp_34, x_X8_setUp_37, x_X8_setUp_40, x_X8_setUp_42, x_X8_setUp_45, x_X8_setUp_46, x_X8_setUp_47, x_X8_setUp_50, List.length_cons, List.length_nil, Nat.reduceLeDiff, Nat.zero_add, iI_add, iI_sub, iI_mul, iI_neg, iI_lt, iI_le, iI_eq, jI_iI, B_True, B_False, B_t, B_f, ck_True, gd_True, cb_v, cb_n, p_mv_rw, p_fv_rw, p_rv_some, pA_1, pA_90, pA_92, pA_3, pA_2, pA_93, pA_4, pA_91, pA_95, pS_i, pW_i, pZ_0, pZ_1, pZ_b, bI_e0, u1_s, u1_n, uA_s, uA_n, true_and, and_true, not_true_eq_false, not_false_eq_true, eq_self, iI_z, al1, al2, al3, al4, al90, al91, al92, al93, al95, Int.cast_ofNat_Int, Nat.reduceAdd, Int.reduceNeg, Int.reduceAdd, Int.reduceSub, Int.reduceMul, Int.reduceLT, Int.reduceLE, Int.reduceGT, Int.reduceGE, Int.reduceEq, Int.reduceNe, Nat.reduceEqDiff, Int.zero_add, Int.add_zero, p_ty0, p_ty1, p_ty2, p_ty3, p_ty4, p_ty5, p_ty6, p_ty7, p_ty8, p_ty9, p_ty10, p_ty11, ty127, ty128, fy1, ty129, fy4, ty130, fy5, ty131, fy6, ty132, fy7, ty133, fy8, ty136, fy15, ty137, fy16, ty138, fy17, ty139, fy18, ty140, fy19, ty141, fy20, ty142, fy21, ty143, fy22, tybd, fy9, tylg, fy13, p0, gd_t, B_t, B_f]
    · rw [bI_f c0] at p0
      by_cases c1 : m_fst k 1
      · rw [bI_t c1] at p1
        rw [w1 c0 c1]
        clear hY hG hM ih w0 w1 w2
        simp (disch := omega) only [x_X8_setUp_7, x_X8_setUp_9, x_X8_setUp_12, x_X8_setUp_13, x_X8_setUp_16, x_X8_setUp_17, x_X8_setUp_18, x_X8_setUp_19, x_X8_setUp_20, x_X8_setUp_23, x_X8_setUp_26, x_X8_setUp_28, x_X8_setUp_31, x_X8_setUp_32, x_X8_setUp_33, x_X8_setUp_34, x_X8_setUp_37, x_X8_setUp_40, x_X8_setUp_42, x_X8_setUp_45, x_X8_setUp_46, x_X8_setUp_47, x_X8_setUp_50, List.length_cons, List.length_nil, Nat.reduceLeDiff, Nat.zero_add, iI_add, iI_sub, iI_mul, iI_neg, iI_lt, iI_le, iI_eq, jI_iI, B_True, B_False, B_t, B_f, ck_True, gd_True, cb_v, cb_n, p_mv_rw, p_fv_rw, p_rv_some, pA_1, pA_90, pA_92, pA_3, pA_2, pA_93, pA_4, pA_91, pA_95, pS_i, pW_i, pZ_0, pZ_1, pZ_b, bI_e0, u1_s, u1_n, uA_s, uA_n, true_and, and_true, not_true_eq_false, not_false_eq_true, eq_self, iI_z, al1, al2, al3, al4, al90, al91, al92, al93, al95, Int.cast_ofNat_Int, Nat.reduceAdd, Int.reduceNeg, Int.reduceAdd, Int.reduceSub, Int.reduceMul, Int.reduceLT, Int.reduceLE, Int.reduceGT, Int.reduceGE, Int.reduceEq, Int.reduceNe, Nat.reduceEqDiff, Int.zero_add, Int.add_zero, p_ty0, p_ty1, p_ty2, p_ty3, p_ty4, p_ty5, p_ty6, p_ty7, p_ty8, p_ty9, p_ty10, p_ty11, ty127, ty128, fy1, ty129, fy4, ty130, fy5, ty131, fy6, ty132, fy7, ty133, fy8, ty136, fy15, ty137, fy16, ty138, fy17, ty139, fy18, ty140, fy19, ty141, fy20, ty142, fy21, ty143, fy22, tybd, fy9, tylg, fy13, p0, p1, gd_t, B_t, B_f]
      · rw [bI_f c1] at p1
        rw [w2 c0 c1]
        clear hY hG hM ih w0 w1 w2
        simp (disch := omega) only [x_X8_setUp_7, x_X8_setUp_9, x_X8_setUp_12, x_X8_setUp_13, x_X8_setUp_16, x_X8_setUp_17, x_X8_setUp_18, x_X8_setUp_19, x_X8_setUp_20, x_X8_setUp_23, x_X8_setUp_26, x_X8_setUp_28, x_X8_setUp_31, x_X8_setUp_32, x_X8_setUp_33, x_X8_setUp_34, x_X8_setUp_37, x_X8_setUp_40, x_X8_setUp_42, x_X8_setUp_45, x_X8_setUp_46, x_X8_setUp_47, x_X8_setUp_50, List.length_cons, List.length_nil, Nat.reduceLeDiff, Nat.zero_add, iI_add, iI_sub, iI_mul, iI_neg, iI_lt, iI_le, iI_eq, jI_iI, B_True, B_False, B_t, B_f, ck_True, gd_True, cb_v, cb_n, p_mv_rw, p_fv_rw, p_rv_some, pA_1, pA_90, pA_92, pA_3, pA_2, pA_93, pA_4, pA_91, pA_95, pS_i, pW_i, pZ_0, pZ_1, pZ_b, bI_e0, u1_s, u1_n, uA_s, uA_n, true_and, and_true, not_true_eq_false, not_false_eq_true, eq_self, iI_z, al1, al2, al3, al4, al90, al91, al92, al93, al95, Int.cast_ofNat_Int, Nat.reduceAdd, Int.reduceNeg, Int.reduceAdd, Int.reduceSub, Int.reduceMul, Int.reduceLT, Int.reduceLE, Int.reduceGT, Int.reduceGE, Int.reduceEq, Int.reduceNe, Nat.reduceEqDiff, Int.zero_add, Int.add_zero, p_ty0, p_ty1, p_ty2, p_ty3, p_ty4, p_ty5, p_ty6, p_ty7, p_ty8, p_ty9, p_ty10, p_ty11, ty127, ty128, fy1, ty129, fy4, ty130, fy5, ty131, fy6, ty132, fy7, ty133, fy8, ty136, fy15, ty137, fy16, ty138, fy17, ty139, fy18, ty140, fy19, ty141, fy20, ty142, fy21, ty143, fy22, tybd, fy9, tylg, fy13, p0, p1, gd_t, B_t, B_f]
theorem su_bs {l2 l3 : Slot} (hY : YT T F bd lg N) (hb : bd = 134 ∨ 145 ≤ bd) : ∀ (n k : Nat) (M : pM), k + n = 3 → M bd = bsF k → YG M → ∀ e, 1 ≤ e → R e m_X8_setUp 55 [.val (.ref 127), .val (.int (iI (k : Int))), l2, l3] [] T M F = R e m_X8_setUp 86 [.val (.ref 127), .val (.int (iI 3)), l2, l3] [] T (uA M bd (bsF 3)) F := by
  have t0 := hY.1
  have q5 : q_csz 5 = 11 := by decide
  intro n
  induction n with
  | zero =>
    intro k M hk hM hG e he
    obtain rfl : k = 3 := by omega
    rw [← hM, uA_id]
    clear hY hG hM
    simp (disch := omega) only [x_X8_setUp_55, x_X8_setUp_56, x_X8_setUp_57, List.length_cons, List.length_nil, Nat.reduceLeDiff, Nat.zero_add, iI_add, iI_sub, iI_mul, iI_neg, iI_lt, iI_le, iI_eq, jI_iI, B_True, B_False, B_t, B_f, ck_True, gd_True, cb_v, cb_n, p_mv_rw, p_fv_rw, p_rv_some, pA_1, pA_90, pA_92, pA_3, pA_2, pA_93, pA_4, pA_91, pA_95, pS_i, pW_i, pZ_0, pZ_1, pZ_b, bI_e0, u1_s, u1_n, uA_s, uA_n, true_and, and_true, not_true_eq_false, not_false_eq_true, eq_self, iI_z, al1, al2, al3, al4, al90, al91, al92, al93, al95, Int.cast_ofNat_Int, Nat.reduceAdd, Int.reduceNeg, Int.reduceAdd, Int.reduceSub, Int.reduceMul, Int.reduceLT, Int.reduceLE, Int.reduceGT, Int.reduceGE, Int.reduceEq, Int.reduceNe, Nat.reduceEqDiff, Int.zero_add, Int.add_zero, p_ty0, p_ty1, p_ty2, p_ty3, p_ty4, p_ty5, p_ty6, p_ty7, p_ty8, p_ty9, p_ty10, p_ty11, B_t, B_f]
  | succ n ih =>
    intro k M hk hM hG e he
    obtain ⟨M1, hM1⟩ : ∃ M1 : pM, M1 = uA M bd (u1 (M bd) (p_roM 1 5 + (1 + (k : Int)) - 1) 4) := ⟨_, rfl⟩
    have hG1 : YG M1 := hG.brd hb (fun a h1 h2 => by rw [hM1, uA_n h1])
    have p1 := y_placeB (d := e) (c := 5) (n1 := 1 + (k : Int)) (x := 4) hY hG (by omega) (by omega) (by omega) he
    have p2 := y_placeB (d := e) (c := 5) (n1 := 11 - (k : Int)) (x := 14) hY hG1 (by omega) (by omega) (by omega) he
    rw [← hM1] at p1
    have e2 : uA M1 bd (u1 (M1 bd) (p_roM 1 5 + (11 - (k : Int)) - 1) 14) = uA M bd (bsF (k + 1)) := by
      rw [hM1, uA_uA, uA_s, hM]; rfl
    rw [e2] at p2
    have ih := ih (k + 1) (uA M bd (bsF (k + 1))) (by omega) (by rw [uA_s]) (hG.brd hb (fun a h1 h2 => by rw [uA_n h1])) e he
    rw [uA_uA, Int.natCast_add_one] at ih
    rw [← ih, x_X8_setUp_55]
    clear hY hG hM ih hG1 hM1 e2
    simp (disch := omega) only [x_X8_setUp_56, x_X8_setUp_57, x_X8_setUp_60, x_X8_setUp_61, x_X8_setUp_62, x_X8_setUp_63, x_X8_setUp_64, x_X8_setUp_65, x_X8_setUp_66, x_X8_setUp_69, x_X8_setUp_70, x_X8_setUp_71, x_X8_setUp_73, x_X8_setUp_74, x_X8_setUp_75, x_X8_setUp_77, x_X8_setUp_80, x_X8_setUp_83, List.length_cons, List.length_nil, Nat.reduceLeDiff, Nat.zero_add, iI_add, iI_sub, iI_mul, iI_neg, iI_lt, iI_le, iI_eq, jI_iI, B_True, B_False, B_t, B_f, ck_True, gd_True, cb_v, cb_n, p_mv_rw, p_fv_rw, p_rv_some, pA_1, pA_90, pA_92, pA_3, pA_2, pA_93, pA_4, pA_91, pA_95, pS_i, pW_i, pZ_0, pZ_1, pZ_b, bI_e0, u1_s, u1_n, uA_s, uA_n, true_and, and_true, not_true_eq_false, not_false_eq_true, eq_self, iI_z, al1, al2, al3, al4, al90, al91, al92, al93, al95, Int.cast_ofNat_Int, Nat.reduceAdd, Int.reduceNeg, Int.reduceAdd, Int.reduceSub, Int.reduceMul, Int.reduceLT, Int.reduceLE, Int.reduceGT, Int.reduceGE, Int.reduceEq, Int.reduceNe, Nat.reduceEqDiff, Int.zero_add, Int.add_zero, p_ty0, p_ty1, p_ty2, p_ty3, p_ty4, p_ty5, p_ty6, p_ty7, p_ty8, p_ty9, p_ty10, p_ty11, t0, p1, p2, gd_t, B_t, B_f]
theorem su_rg : ∀ k : Nat, k < 6 → (0 ≤ suC k ∧ suC k ≤ 10) ∧ (1 ≤ q_csz (suC k) ∧ q_csz (suC k) ≤ 11) ∧ (0 ≤ suP k ∧ suP k ≤ 6) := by decide
theorem su_su (hY : YT T F bd lg N) (hb : bd = 134 ∨ 145 ≤ bd) (h1 : 145 ≤ r1) (h2 : 145 ≤ r2) (hr1 : r1 ≠ bd) (hr2 : r2 ≠ bd) (t1 : p_ty T r1 = (1, 6)) (t2 : p_ty T r2 = (1, 6)) : ∀ (n k : Nat) (M : pM), k + n = 6 → M bd = suF k → (∀ j : Nat, j < 6 → M r1 (j : Int) = suC j ∧ M r2 (j : Int) = suP j) → YG M → ∀ e, 2 ≤ e → R e m_X8_setUp 149 [.val (.ref 127), .val (.ref r1), .val (.ref r2), .val (.int (iI (k : Int)))] [] T M F = some (.inl none, T, uA M bd (suF 6), F) := by
  have t0 := hY.1
  intro n
  induction n with
  | zero =>
    intro k M hk hM hA hG e he
    obtain rfl : k = 6 := by omega
    rw [← hM, uA_id]
    clear hY hG hM hA
    simp (disch := omega) only [x_X8_setUp_149, x_X8_setUp_150, x_X8_setUp_152, x_X8_setUp_191, List.length_cons, List.length_nil, Nat.reduceLeDiff, Nat.zero_add, iI_add, iI_sub, iI_mul, iI_neg, iI_lt, iI_le, iI_eq, jI_iI, B_True, B_False, B_t, B_f, ck_True, gd_True, cb_v, cb_n, p_mv_rw, p_fv_rw, p_rv_some, pA_1, pA_90, pA_92, pA_3, pA_2, pA_93, pA_4, pA_91, pA_95, pS_i, pW_i, pZ_0, pZ_1, pZ_b, bI_e0, u1_s, u1_n, uA_s, uA_n, true_and, and_true, not_true_eq_false, not_false_eq_true, eq_self, iI_z, al1, al2, al3, al4, al90, al91, al92, al93, al95, Int.cast_ofNat_Int, Nat.reduceAdd, Int.reduceNeg, Int.reduceAdd, Int.reduceSub, Int.reduceMul, Int.reduceLT, Int.reduceLE, Int.reduceGT, Int.reduceGE, Int.reduceEq, Int.reduceNe, Nat.reduceEqDiff, Int.zero_add, Int.add_zero, p_ty0, p_ty1, p_ty2, p_ty3, p_ty4, p_ty5, p_ty6, p_ty7, p_ty8, p_ty9, p_ty10, p_ty11, B_t, B_f]
  | succ n ih =>
    intro k M hk hM hA hG e he
    obtain ⟨c1, c2, c3⟩ := su_rg k (by omega)
    obtain ⟨a1, a2⟩ := hA k (by omega)
    obtain ⟨M1, hM1⟩ : ∃ M1 : pM, M1 = uA M bd (u1 (M bd) (p_roM 1 (suC k) + 1 - 1) (suP k)) := ⟨_, rfl⟩
    have hG1 : YG M1 := hG.brd hb (fun a h1 h2 => by rw [hM1, uA_n h1])
    have b1 : M1 r1 (k : Int) = suC k := by rw [hM1, uA_n hr1]; exact a1
    have b2 : M1 r2 (k : Int) = suP k := by rw [hM1, uA_n hr2]; exact a2
    have p1 := y_placeB (d := e) (c := suC k) (n1 := 1) (x := suP k) hY hG c1 (by omega) (by omega) (by omega)
    have p2 := y_placeB (d := e) (c := suC k) (n1 := q_csz (suC k)) (x := 10 + suP k) hY hG1 c1 (by omega) (by omega) (by omega)
    have sz := fun M => y_sizeOf (d := e) (T := T) (M := M) (F := F) (n := suC k) he (by omega)
    rw [← hM1] at p1
    have e2 : uA M1 bd (u1 (M1 bd) (p_roM 1 (suC k) + q_csz (suC k) - 1) (10 + suP k)) = uA M bd (suF (k + 1)) := by
      rw [hM1, uA_uA, uA_s, hM]; rfl
    rw [e2] at p2
    have ih := ih (k + 1) (uA M bd (suF (k + 1))) (by omega) (by rw [uA_s]) (fun j hj => by rw [uA_n hr1, uA_n hr2]; exact hA j hj) (hG.brd hb (fun a h1 h2 => by rw [uA_n h1])) e he
    rw [uA_uA, Int.natCast_add_one] at ih
    rw [← ih, x_X8_setUp_149]
    clear hY hG hM ih hG1 hM1 e2 hA
    simp (disch := omega) only [x_X8_setUp_150, x_X8_setUp_152, x_X8_setUp_155, x_X8_setUp_156, x_X8_setUp_157, x_X8_setUp_158, x_X8_setUp_159, x_X8_setUp_160, x_X8_setUp_161, x_X8_setUp_162, x_X8_setUp_163, x_X8_setUp_166, x_X8_setUp_167, x_X8_setUp_168, x_X8_setUp_169, x_X8_setUp_170, x_X8_setUp_171, x_X8_setUp_172, x_X8_setUp_173, x_X8_setUp_176, x_X8_setUp_178, x_X8_setUp_179, x_X8_setUp_180, x_X8_setUp_181, x_X8_setUp_182, x_X8_setUp_185, x_X8_setUp_188, List.length_cons, List.length_nil, Nat.reduceLeDiff, Nat.zero_add, iI_add, iI_sub, iI_mul, iI_neg, iI_lt, iI_le, iI_eq, jI_iI, B_True, B_False, B_t, B_f, ck_True, gd_True, cb_v, cb_n, p_mv_rw, p_fv_rw, p_rv_some, pA_1, pA_90, pA_92, pA_3, pA_2, pA_93, pA_4, pA_91, pA_95, pS_i, pW_i, pZ_0, pZ_1, pZ_b, bI_e0, u1_s, u1_n, uA_s, uA_n, true_and, and_true, not_true_eq_false, not_false_eq_true, eq_self, iI_z, al1, al2, al3, al4, al90, al91, al92, al93, al95, Int.cast_ofNat_Int, Nat.reduceAdd, Int.reduceNeg, Int.reduceAdd, Int.reduceSub, Int.reduceMul, Int.reduceLT, Int.reduceLE, Int.reduceGT, Int.reduceGE, Int.reduceEq, Int.reduceNe, Nat.reduceEqDiff, Int.zero_add, Int.add_zero, p_ty0, p_ty1, p_ty2, p_ty3, p_ty4, p_ty5, p_ty6, p_ty7, p_ty8, p_ty9, p_ty10, p_ty11, t0, t1, t2, a1, a2, b1, b2, sz, p1, p2, gd_t, B_t, B_f]
theorem y_setUp (hY : YT T F bd lg N) (hD : YD bd lg T) (hG : YG M) (hz : ZB (M bd)) :
    ∃ M' F', (∀ d, 3 ≤ d → callD d m_X8_setUp [.ref 127] T M F = some (.inl none, p_new (p_new T 1 6) 1 6, M', F')) ∧ YT (p_new (p_new T 1 6) 1 6) F' bd lg N ∧ YD bd lg (p_new (p_new T 1 6) 1 6) ∧ M' bd = q_sb ∧ M' 127 = u1 (u1 (u1 (u1 (M 127) 14 0) 11 (-1)) 12 0) 10 0 ∧ (∀ a, a < T.1.1 → a ≠ 127 → a ≠ bd → M' a = M a) ∧ ∀ a, a < T.1.1 → F' a = F a := by
  have hD1 := hD.nw (tag := 1) (n := 6)
  obtain ⟨d0, d0', d1, d2, d3, d4⟩ := id hD
  obtain ⟨M1, hM1⟩ : ∃ M1 : pM, M1 = y_bg (uA M bd (fun _ => 0)) 0 := ⟨_, rfl⟩
  have b1 : M1 bd = fun _ => 0 := by rw [hM1]; unfold y_bg; rw [uA_n (by omega), uA_s]
  have f1 : ∀ a, a ≠ bd → a ≠ 127 → M1 a = M a := fun a x1 x2 => by rw [hM1]; unfold y_bg; rw [uA_n x2, uA_n x1]
  have e127 : M1 127 = u1 (u1 (u1 (u1 (M 127) 14 0) 11 (-1)) 12 0) 10 0 := by rw [hM1]; unfold y_bg; rw [uA_s, uA_n (by omega)]
  have hG1 := hG.brd d0 f1
  obtain ⟨M2, hM2⟩ : ∃ M2 : pM, M2 = uA M1 bd (pwn 91) := ⟨_, rfl⟩
  obtain ⟨M3, hM3⟩ : ∃ M3 : pM, M3 = uA M2 bd (bsF 3) := ⟨_, rfl⟩
  have hG2 : YG M2 := hG1.brd d0 (fun a x1 x2 => by rw [hM2, uA_n x1])
  have hG3 : YG M3 := hG2.brd d0 (fun a x1 x2 => by rw [hM3, uA_n x1])
  obtain ⟨A1, hA1⟩ : ∃ A1 : Int → Int, A1 = u1 (u1 (u1 (u1 (u1 (u1 (fun _ => 0) 0 2) 1 8) 2 3) 3 7) 4 4) 5 6 := ⟨_, rfl⟩
  obtain ⟨A2, hA2⟩ : ∃ A2 : Int → Int, A2 = u1 (u1 (u1 (u1 (u1 (u1 (fun _ => 0) 0 3) 1 3) 2 5) 3 5) 4 2) 5 1 := ⟨_, rfl⟩
  obtain ⟨M4, hM4⟩ : ∃ M4 : pM, M4 = uA (uA M3 T.1.1 A1) (T.1.1 + 1) A2 := ⟨_, rfl⟩
  obtain ⟨F4, hF4⟩ : ∃ F4 : pF, F4 = uA (uA F T.1.1 (fun _ => none)) (T.1.1 + 1) (fun _ => none) := ⟨_, rfl⟩
  have hY4 : YT (p_new (p_new T 1 6) 1 6) F4 bd lg N := by rw [hF4]; exact (hY.nw hD).nw hD1
  have f4 : ∀ a, a ≠ T.1.1 → a ≠ T.1.1 + 1 → M4 a = M3 a := fun a x1 x2 => by rw [hM4, uA_n x2, uA_n x1]
  have hG4 : YG M4 := by
    unfold YG at hG3 ⊢
    rw [f4 129 (by omega) (by omega), f4 130 (by omega) (by omega), f4 131 (by omega) (by omega), f4 132 (by omega) (by omega), f4 133 (by omega) (by omega)]
    exact hG3
  have b4 : M4 bd = bsF 3 := by rw [f4 bd (by omega) (by omega), hM3, uA_s]
  have t1 : p_ty (p_new T 1 6) T.1.1 = (1, 6) := p_ty_nw (by omega)
  have t2 : p_ty (p_new (p_new T 1 6) 1 6) (T.1.1 + 1) = (1, 6) := p_ty_nw (T := p_new T 1 6) (by show 100 ≤ T.1.1 + 1; omega)
  have t3 : p_ty (p_new (p_new T 1 6) 1 6) T.1.1 = (1, 6) := (p_ty_nx (T := p_new T 1 6) (by show T.1.1 < T.1.1 + 1; omega)).trans t1
  have arr : ∀ j : Nat, j < 6 → M4 T.1.1 (j : Int) = suC j ∧ M4 (T.1.1 + 1) (j : Int) = suP j := by
    intro j hj
    rw [hM4, uA_s, uA_n (by omega), uA_s, hA1, hA2]
    have h : j = 0 ∨ j = 1 ∨ j = 2 ∨ j = 3 ∨ j = 4 ∨ j = 5 := by omega
    rcases h with rfl | rfl | rfl | rfl | rfl | rfl <;> decide
  have last := fun e (he : 2 ≤ e) => su_su (r1 := T.1.1) (r2 := T.1.1 + 1) hY4 d0 d4 (by omega) (by omega) (by omega) t3 t2 6 0 M4 rfl b4 arr hG4 e he
  refine ⟨uA M4 bd (suF 6), F4, fun d hd => ?_, hY4, hD1.nw, ?_, ?_, ?_, ?_⟩
  · refine callD_go 2 hd rfl (fun e he => ?_)
    show R e m_X8_setUp 0 [.val (.ref 127), .unset, .unset, .unset] [] T M F = _
    have v1 := y_empty hY d0 hz e he
    rw [← hM1] at v1
    have v2 := fun l2 l3 => su_pw (l2 := l2) (l3 := l3) hY d0 91 0 M1 (by omega) (by omega) (by rw [b1]; funext j; exact (if_neg (by omega)).symm) hG1 e he
    rw [← hM2] at v2
    have v3 := fun l2 l3 => su_bs (l2 := l2) (l3 := l3) hY d0 3 0 M2 rfl (by rw [hM2, uA_s]; rfl) hG2 e (by omega)
    rw [← hM3] at v3
    have v4 := last e he
    rw [Int.natCast_zero] at v3 v4
    have t0 := hY.1
    have e6 : (6 : Int).toNat = 6 := rfl
    have en : (p_new T 1 6).1.1 = T.1.1 + 1 := rfl
    have c4 : ∀ l1 l2 l3, R e m_X8_setUp 86 [.val (.ref 127), l1, l2, l3] [] T M3 F = R e m_X8_setUp 149 [.val (.ref 127), .val (.ref T.1.1), .val (.ref (T.1.1 + 1)), .val (.int (iI 0))] [] (p_new (p_new T 1 6) 1 6) M4 F4 := by
      intro l1 l2 l3
      rw [hM4, hF4, hA1, hA2]
      clear v1 v2 v3 v4 last arr hG hG1 hG2 hG3 hG4 hY hY4 hD hD1 hz b1 f1 e127 hM1 hM2 hM3 hM4 hF4 f4 b4 hA1 hA2
      simp (disch := omega) only [x_X8_setUp_86, x_X8_setUp_88, x_X8_setUp_90, x_X8_setUp_91, x_X8_setUp_92, x_X8_setUp_93, x_X8_setUp_94, x_X8_setUp_95, x_X8_setUp_96, x_X8_setUp_98, x_X8_setUp_99, x_X8_setUp_100, x_X8_setUp_101, x_X8_setUp_102, x_X8_setUp_103, x_X8_setUp_104, x_X8_setUp_105, x_X8_setUp_107, x_X8_setUp_108, x_X8_setUp_109, x_X8_setUp_110, x_X8_setUp_111, x_X8_setUp_112, x_X8_setUp_113, x_X8_setUp_114, x_X8_setUp_116, x_X8_setUp_117, x_X8_setUp_118, x_X8_setUp_120, x_X8_setUp_122, x_X8_setUp_123, x_X8_setUp_124, x_X8_setUp_125, x_X8_setUp_126, x_X8_setUp_127, x_X8_setUp_128, x_X8_setUp_129, x_X8_setUp_130, x_X8_setUp_131, x_X8_setUp_132, x_X8_setUp_133, x_X8_setUp_134, x_X8_setUp_135, x_X8_setUp_136, x_X8_setUp_137, x_X8_setUp_138, x_X8_setUp_139, x_X8_setUp_140, x_X8_setUp_141, x_X8_setUp_142, x_X8_setUp_143, x_X8_setUp_144, x_X8_setUp_145, x_X8_setUp_146, x_X8_setUp_147, x_X8_setUp_148, List.length_cons, List.length_nil, Nat.reduceLeDiff, Nat.zero_add, iI_add, iI_sub, iI_mul, iI_neg, iI_lt, iI_le, iI_eq, jI_iI, B_True, B_False, B_t, B_f, ck_True, gd_True, cb_v, cb_n, p_mv_rw, p_fv_rw, p_rv_some, pA_1, pA_90, pA_92, pA_3, pA_2, pA_93, pA_4, pA_91, pA_95, pS_i, pW_i, pZ_0, pZ_1, pZ_b, bI_e0, u1_s, u1_n, uA_s, uA_n, true_and, and_true, not_true_eq_false, not_false_eq_true, eq_self, iI_z, al1, al2, al3, al4, al90, al91, al92, al93, al95, Int.cast_ofNat_Int, Nat.reduceAdd, Int.reduceNeg, Int.reduceAdd, Int.reduceSub, Int.reduceMul, Int.reduceLT, Int.reduceLE, Int.reduceGT, Int.reduceGE, Int.reduceEq, Int.reduceNe, Nat.reduceEqDiff, Int.zero_add, Int.add_zero, p_ty0, p_ty1, p_ty2, p_ty3, p_ty4, p_ty5, p_ty6, p_ty7, p_ty8, p_ty9, p_ty10, p_ty11, e6, en, t1, t2, t3, uA_uA, ck_t, gd_t, B_t, B_f]
    rw [← v4, ← c4 (.val (.int (iI 3))) .unset .unset, ← v3 .unset .unset]
    have h53 : R e m_X8_setUp 53 [.val (.ref 127), .val (.int (iI 91)), .unset, .unset] [] T M2 F = R e m_X8_setUp 55 [.val (.ref 127), .val (.int (iI 0)), .unset, .unset] [] T M2 F := by
      clear v1 v2 v3 v4 last arr hG hG1 hG2 hG3 hG4 hY hY4 hD hD1 hz b1 f1 e127 hM1 hM2 hM3 hM4 hF4 f4 b4 hA1 hA2 c4
      simp (disch := omega) only [x_X8_setUp_53, x_X8_setUp_54, List.length_cons, List.length_nil, Nat.reduceLeDiff, Nat.zero_add, iI_add, iI_sub, iI_mul, iI_neg, iI_lt, iI_le, iI_eq, jI_iI, B_True, B_False, B_t, B_f, ck_True, gd_True, cb_v, cb_n, p_mv_rw, p_fv_rw, p_rv_some, pA_1, pA_90, pA_92, pA_3, pA_2, pA_93, pA_4, pA_91, pA_95, pS_i, pW_i, pZ_0, pZ_1, pZ_b, bI_e0, u1_s, u1_n, uA_s, uA_n, true_and, and_true, not_true_eq_false, not_false_eq_true, eq_self, iI_z, al1, al2, al3, al4, al90, al91, al92, al93, al95, Int.cast_ofNat_Int, Nat.reduceAdd, Int.reduceNeg, Int.reduceAdd, Int.reduceSub, Int.reduceMul, Int.reduceLT, Int.reduceLE, Int.reduceGT, Int.reduceGE, Int.reduceEq, Int.reduceNe, Nat.reduceEqDiff, Int.zero_add, Int.add_zero, p_ty0, p_ty1, p_ty2, p_ty3, p_ty4, p_ty5, p_ty6, p_ty7, p_ty8, p_ty9, p_ty10, p_ty11]
    rw [← h53, ← v2 .unset .unset]
    clear v2 v3 v4 last arr hG hG1 hG2 hG3 hG4 hY hY4 hD hD1 hz b1 f1 e127 hM1 hM2 hM3 hM4 hF4 f4 b4 hA1 hA2 c4 h53
    simp (disch := omega) only [x_X8_setUp_0, x_X8_setUp_1, x_X8_setUp_4, x_X8_setUp_5, List.length_cons, List.length_nil, Nat.reduceLeDiff, Nat.zero_add, iI_add, iI_sub, iI_mul, iI_neg, iI_lt, iI_le, iI_eq, jI_iI, B_True, B_False, B_t, B_f, ck_True, gd_True, cb_v, cb_n, p_mv_rw, p_fv_rw, p_rv_some, pA_1, pA_90, pA_92, pA_3, pA_2, pA_93, pA_4, pA_91, pA_95, pS_i, pW_i, pZ_0, pZ_1, pZ_b, bI_e0, u1_s, u1_n, uA_s, uA_n, true_and, and_true, not_true_eq_false, not_false_eq_true, eq_self, iI_z, al1, al2, al3, al4, al90, al91, al92, al93, al95, Int.cast_ofNat_Int, Nat.reduceAdd, Int.reduceNeg, Int.reduceAdd, Int.reduceSub, Int.reduceMul, Int.reduceLT, Int.reduceLE, Int.reduceGT, Int.reduceGE, Int.reduceEq, Int.reduceNe, Nat.reduceEqDiff, Int.zero_add, Int.add_zero, p_ty0, p_ty1, p_ty2, p_ty3, p_ty4, p_ty5, p_ty6, p_ty7, p_ty8, p_ty9, p_ty10, p_ty11, t0, v1, gd_t]
  · rw [uA_s]; exact su_eq
  · rw [uA_n (by omega), f4 127 (by omega) (by omega), hM3, uA_n (by omega), hM2, uA_n (by omega)]; exact e127
  · intro a ha x1 x2
    rw [uA_n x2, f4 a (by omega) (by omega), hM3, uA_n x2, hM2, uA_n x2]
    exact f1 a x2 x1
  · intro a ha
    rw [hF4, uA_n (by omega), uA_n (by omega)]
end PYSV
