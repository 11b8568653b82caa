section PYFA
variable {d bd lg N lg1 N1 : Nat} {T T1 : pT} {M M0 M1 M2 : pM} {F F1 : pF} {bb bs : Int → Int} {k c m kd a b i p z ea n w : Int} {S S1 : WSt} {G : GSx}
theorem yf_clr (hY : YT T F bd lg N) : ∀ (n : Nat) (k : Int) (M : pM), k + n = 91 → 0 ≤ k → (∀ j, 0 ≤ j → j < k → M 139 j = -1) →
    ∃ M', (∀ e l1 l2 l3 l5, R e m_X8_far 43 [.val (.ref 127), l1, l2, l3, .val (.int (iI k)), l5] [] T M F = R e m_X8_far 64 [.val (.ref 127), l1, l2, l3, .val (.int (iI 91)), l5] [] T M' F) ∧ (∀ j, 0 ≤ j → j < 91 → M' 139 j = -1) ∧ ∀ a, a ≠ 139 → M' a = M a := by
  intro n
  induction n with
  | zero =>
    intro k M hk h0 h
    obtain rfl : k = 91 := by omega
    refine ⟨M, fun e l1 l2 l3 l5 => ?_, h, fun _ _ => rfl⟩
    clear h hY
    simp (disch := omega) only [x_X8_far_43, x_X8_far_45, x_X8_far_47, List.length_cons, List.length_nil, Nat.reduceLeDiff, Nat.zero_add, iI_add, iI_sub, iI_mul, iI_neg, iI_lt, iI_le, iI_eq, jI_iI, B_True, B_False, B_t, B_f, ck_True, gd_True, cb_v, cb_n, p_mv_rw, p_fv_rw, p_rv_some, pA_1, pA_90, pA_92, pA_3, pA_2, pA_93, pA_4, pA_91, pA_95, pS_i, pW_i, pZ_0, pZ_1, pZ_b, bI_e0, u1_s, u1_n, uA_s, uA_n, true_and, and_true, not_true_eq_false, not_false_eq_true, eq_self, iI_z, al1, al2, al3, al4, al90, al91, al92, al93, al95, Int.cast_ofNat_Int, Nat.reduceAdd, Int.reduceNeg, Int.reduceAdd, Int.reduceSub, Int.reduceMul, Int.reduceLT, Int.reduceLE, Int.reduceGT, Int.reduceGE, Int.reduceEq, Int.reduceNe, Nat.reduceEqDiff, Int.zero_add, Int.add_zero, p_ty0, p_ty1, p_ty2, p_ty3, p_ty4, p_ty5, p_ty6, p_ty7, p_ty8, p_ty9, p_ty10, p_ty11, B_t, B_f]
  | succ n ih =>
    intro k M hk h0 h
    obtain ⟨M1, hM1⟩ : ∃ M1 : pM, M1 = uA M 139 (u1 (M 139) k (-1)) := ⟨_, rfl⟩
    obtain ⟨M2, r2, z2, f2⟩ := ih (k + 1) M1 (by omega) (by omega) (fun j j0 j1 => by
      rw [hM1, uA_s]
      by_cases e : j = k
      · rw [e, u1_s]
      · rw [u1_n e]; exact h j j0 (by omega))
    refine ⟨M2, fun e l1 l2 l3 l5 => ?_, z2, fun a ha => (f2 a ha).trans (by rw [hM1, uA_n ha])⟩
    rw [← r2 e l1 l2 l3 l5, hM1, x_X8_far_43]
    obtain ⟨ty127, ty128, fy1, ty129, fy4, ty130, fy5, ty131, fy6, ty132, fy7, ty133, fy8, ty136, fy15, ty137, fy16, ty138, fy17, ty139, fy18, ty140, fy19, ty141, fy20, ty142, fy21, ty143, fy22, hbd, tybd, fy9, hlg, tylg, fy13, hN⟩ := hY
    clear r2 z2 f2 ih hM1 h
    simp (disch := omega) only [x_X8_far_45, x_X8_far_47, x_X8_far_50, x_X8_far_51, x_X8_far_54, x_X8_far_56, x_X8_far_57, x_X8_far_58, x_X8_far_61, List.length_cons, List.length_nil, Nat.reduceLeDiff, Nat.zero_add, iI_add, iI_sub, iI_mul, iI_neg, iI_lt, iI_le, iI_eq, jI_iI, B_True, B_False, B_t, B_f, ck_True, gd_True, cb_v, cb_n, p_mv_rw, p_fv_rw, p_rv_some, pA_1, pA_90, pA_92, pA_3, pA_2, pA_93, pA_4, pA_91, pA_95, pS_i, pW_i, pZ_0, pZ_1, pZ_b, bI_e0, u1_s, u1_n, uA_s, uA_n, true_and, and_true, not_true_eq_false, not_false_eq_true, eq_self, iI_z, al1, al2, al3, al4, al90, al91, al92, al93, al95, Int.cast_ofNat_Int, Nat.reduceAdd, Int.reduceNeg, Int.reduceAdd, Int.reduceSub, Int.reduceMul, Int.reduceLT, Int.reduceLE, Int.reduceGT, Int.reduceGE, Int.reduceEq, Int.reduceNe, Nat.reduceEqDiff, Int.zero_add, Int.add_zero, p_ty0, p_ty1, p_ty2, p_ty3, p_ty4, p_ty5, p_ty6, p_ty7, p_ty8, p_ty9, p_ty10, p_ty11, ty127, ty128, fy1, ty129, fy4, ty130, fy5, ty131, fy6, ty132, fy7, ty133, fy8, ty136, fy15, ty137, fy16, ty138, fy17, ty139, fy18, ty140, fy19, ty141, fy20, ty142, fy21, ty143, fy22, tybd, fy9, tylg, fy13, gd_t, B_t, B_f]
theorem YG.far (hG : YG M) (f : ∀ a, a ≠ 139 → a ≠ 140 → M1 a = M a) : YG M1 := by
  unfold YG at *
  rw [f 129 (by omega) (by omega), f 130 (by omega) (by omega), f 131 (by omega) (by omega), f 132 (by omega) (by omega), f 133 (by omega) (by omega)]
  exact hG
theorem yf_loop {l2 : Slot} (hY : YT T F bd lg N) (hkd : 1 ≤ kd ∧ kd ≤ 5) (hb : 0 ≤ b ∧ b < 91) : ∀ (n k : Nat) (M : pM) (S : WSt), k + n = 91 → YG M → YWS M S → WI S →
    ∃ M', (∀ e, 2 ≤ e → R e m_X8_far 76 [.val (.ref 127), .val (.int (iI kd)), l2, .val (.int (iI b)), .val (.int (iI (S.2.length : Int))), .val (.int (iI (k : Int)))] [] T M F = some (.inl (some (.int (iI ((w_l kd n k S).1 b)))), T, M', F)) ∧ ∀ a, a ≠ 139 → a ≠ 140 → M' a = M a := by
  intro n
  induction n with
  | zero =>
    intro k M S hn hG hS hI
    refine ⟨M, fun e he => ?_, fun _ _ _ => rfl⟩
    have hl := hI.len
    have h1 := hS.1 b hb.1 hb.2
    have hr := hI.rg hb
    obtain ⟨ty127, ty128, fy1, ty129, fy4, ty130, fy5, ty131, fy6, ty132, fy7, ty133, fy8, ty136, fy15, ty137, fy16, ty138, fy17, ty139, fy18, ty140, fy19, ty141, fy20, ty142, fy21, ty143, fy22, hbd, tybd, fy9, hlg, tylg, fy13, hN⟩ := hY
    clear hG hS hI
    rw [w_l]
    simp (disch := omega) only [x_X8_far_76, x_X8_far_78, x_X8_far_80, x_X8_far_105, x_X8_far_106, x_X8_far_109, x_X8_far_110, x_X8_far_111, List.length_cons, List.length_nil, Nat.reduceLeDiff, Nat.zero_add, iI_add, iI_sub, iI_mul, iI_neg, iI_lt, iI_le, iI_eq, jI_iI, B_True, B_False, B_t, B_f, ck_True, gd_True, cb_v, cb_n, p_mv_rw, p_fv_rw, p_rv_some, pA_1, pA_90, pA_92, pA_3, pA_2, pA_93, pA_4, pA_91, pA_95, pS_i, pW_i, pZ_0, pZ_1, pZ_b, bI_e0, u1_s, u1_n, uA_s, uA_n, true_and, and_true, not_true_eq_false, not_false_eq_true, eq_self, iI_z, al1, al2, al3, al4, al90, al91, al92, al93, al95, Int.cast_ofNat_Int, Nat.reduceAdd, Int.reduceNeg, Int.reduceAdd, Int.reduceSub, Int.reduceMul, Int.reduceLT, Int.reduceLE, Int.reduceGT, Int.reduceGE, Int.reduceEq, Int.reduceNe, Nat.reduceEqDiff, Int.zero_add, Int.add_zero, p_ty0, p_ty1, p_ty2, p_ty3, p_ty4, p_ty5, p_ty6, p_ty7, p_ty8, p_ty9, p_ty10, p_ty11, ty127, ty128, fy1, ty129, fy4, ty130, fy5, ty131, fy6, ty132, fy7, ty133, fy8, ty136, fy15, ty137, fy16, ty138, fy17, ty139, fy18, ty140, fy19, ty141, fy20, ty142, fy21, ty143, fy22, tybd, fy9, tylg, fy13, h1, gd_t, B_t, B_f]
  | succ n ih =>
    intro k M S hn hG hS hI
    have hl := hI.len
    by_cases e1 : k < S.2.length
    · have hin := WI.at e1
      have h3 := hS.2 k e1
      have hc := hI.1 _ hin
      obtain ⟨M1, r1, S1, f1⟩ := y_spread hY hkd hG hS hI hin
      have hI1 := hI.g (kd := kd) hin
      obtain ⟨M2, r2, f2⟩ := ih (k + 1) M1 _ (by omega) (hG.far f1) S1 hI1.1
      refine ⟨M2, fun e he => ?_, fun a a1 a2 => (f2 a a1 a2).trans (f1 a a1 a2)⟩
      have r1 := r1 e he
      have r2 := r2 e he
      rw [Int.natCast_add_one] at r2
      rw [w_l, if_pos e1, ← r2]
      obtain ⟨ty127, ty128, fy1, ty129, fy4, ty130, fy5, ty131, fy6, ty132, fy7, ty133, fy8, ty136, fy15, ty137, fy16, ty138, fy17, ty139, fy18, ty140, fy19, ty141, fy20, ty142, fy21, ty143, fy22, hbd, tybd, fy9, hlg, tylg, fy13, hN⟩ := hY
      clear hG hS hI r2 ih S1 f1 f2 hI1
      rw [x_X8_far_76]
      simp (disch := omega) only [x_X8_far_78, x_X8_far_80, x_X8_far_83, x_X8_far_84, x_X8_far_85, x_X8_far_86, x_X8_far_89, x_X8_far_91, x_X8_far_92, x_X8_far_94, x_X8_far_97, x_X8_far_99, x_X8_far_102, List.length_cons, List.length_nil, Nat.reduceLeDiff, Nat.zero_add, iI_add, iI_sub, iI_mul, iI_neg, iI_lt, iI_le, iI_eq, jI_iI, B_True, B_False, B_t, B_f, ck_True, gd_True, cb_v, cb_n, p_mv_rw, p_fv_rw, p_rv_some, pA_1, pA_90, pA_92, pA_3, pA_2, pA_93, pA_4, pA_91, pA_95, pS_i, pW_i, pZ_0, pZ_1, pZ_b, bI_e0, u1_s, u1_n, uA_s, uA_n, true_and, and_true, not_true_eq_false, not_false_eq_true, eq_self, iI_z, al1, al2, al3, al4, al90, al91, al92, al93, al95, Int.cast_ofNat_Int, Nat.reduceAdd, Int.reduceNeg, Int.reduceAdd, Int.reduceSub, Int.reduceMul, Int.reduceLT, Int.reduceLE, Int.reduceGT, Int.reduceGE, Int.reduceEq, Int.reduceNe, Nat.reduceEqDiff, Int.zero_add, Int.add_zero, p_ty0, p_ty1, p_ty2, p_ty3, p_ty4, p_ty5, p_ty6, p_ty7, p_ty8, p_ty9, p_ty10, p_ty11, ty127, ty128, fy1, ty129, fy4, ty130, fy5, ty131, fy6, ty132, fy7, ty133, fy8, ty136, fy15, ty137, fy16, ty138, fy17, ty139, fy18, ty140, fy19, ty141, fy20, ty142, fy21, ty143, fy22, tybd, fy9, tylg, fy13, h3, r1, gd_t, B_t, B_f]
    · refine ⟨M, fun e he => ?_, fun _ _ _ => rfl⟩
      have h1 := hS.1 b hb.1 hb.2
      have hr := hI.rg hb
      obtain ⟨ty127, ty128, fy1, ty129, fy4, ty130, fy5, ty131, fy6, ty132, fy7, ty133, fy8, ty136, fy15, ty137, fy16, ty138, fy17, ty139, fy18, ty140, fy19, ty141, fy20, ty142, fy21, ty143, fy22, hbd, tybd, fy9, hlg, tylg, fy13, hN⟩ := hY
      clear hG hS hI ih
      rw [w_l, if_neg e1]
      simp (disch := omega) only [x_X8_far_76, x_X8_far_78, x_X8_far_80, x_X8_far_105, x_X8_far_106, x_X8_far_109, x_X8_far_110, x_X8_far_111, List.length_cons, List.length_nil, Nat.reduceLeDiff, Nat.zero_add, iI_add, iI_sub, iI_mul, iI_neg, iI_lt, iI_le, iI_eq, jI_iI, B_True, B_False, B_t, B_f, ck_True, gd_True, cb_v, cb_n, p_mv_rw, p_fv_rw, p_rv_some, pA_1, pA_90, pA_92, pA_3, pA_2, pA_93, pA_4, pA_91, pA_95, pS_i, pW_i, pZ_0, pZ_1, pZ_b, bI_e0, u1_s, u1_n, uA_s, uA_n, true_and, and_true, not_true_eq_false, not_false_eq_true, eq_self, iI_z, al1, al2, al3, al4, al90, al91, al92, al93, al95, Int.cast_ofNat_Int, Nat.reduceAdd, Int.reduceNeg, Int.reduceAdd, Int.reduceSub, Int.reduceMul, Int.reduceLT, Int.reduceLE, Int.reduceGT, Int.reduceGE, Int.reduceEq, Int.reduceNe, Nat.reduceEqDiff, Int.zero_add, Int.add_zero, p_ty0, p_ty1, p_ty2, p_ty3, p_ty4, p_ty5, p_ty6, p_ty7, p_ty8, p_ty9, p_ty10, p_ty11, ty127, ty128, fy1, ty129, fy4, ty130, fy5, ty131, fy6, ty132, fy7, ty133, fy8, ty136, fy15, ty137, fy16, ty138, fy17, ty139, fy18, ty140, fy19, ty141, fy20, ty142, fy21, ty143, fy22, tybd, fy9, tylg, fy13, h1, gd_t, B_t, B_f]
theorem MW.fa (h : MW T M F bd lg N G ea bs z) (f : ∀ a, a ≠ 139 → a ≠ 140 → M1 a = M a) : MW T M1 F bd lg N G ea bs z ∧ M1 127 0 = M 127 0 ∧ OR T M F N T M1 F N := by
  obtain ⟨⟨a1, a2, a3, a4, a5, a6⟩, ⟨b1, b2, b3, b4, b5⟩, h2, h3, h4⟩ := h
  obtain ⟨d0, d0', d1, d2, d3, d4⟩ := id a2
  have e := f 127 (by omega) (by omega)
  refine ⟨⟨⟨a1, a2, a3, ?_, a5, by rw [e]; exact a6⟩, ⟨b1.far f, ?_, by rw [e]; exact b3, by rw [e]; exact b4, by rw [e]; exact b5⟩, by rw [e]; exact h2, by rw [e]; exact h3, by rw [f 128 (by omega) (by omega)]; exact h4⟩, by rw [e], s_mono.rf, fun a ha => ⟨f a (by omega) (by omega), rfl⟩, f 144 (by omega) (by omega), Nat.le_refl _, Nat.le_refl _, Nat.le_refl _⟩
  · rw [f lg (by omega) (by omega)]; exact a4
  · rw [f bd (by omega) (by omega)]; exact b2
theorem y_far (hW : MW T M F bd lg N G ea bs z) (hk0 : -2147483648 ≤ k ∧ k < 2147483648) (ha0 : -2147483648 ≤ a ∧ a < 2147483648) (hb0 : -2147483648 ≤ b ∧ b < 2147483648) : (1 ≤ k ∧ k ≤ 5 → 0 ≤ a ∧ a < 91 → 0 ≤ b ∧ b < 91 → YRet bd N T M F m_X8_far [.ref 127, .int (iI k), .int (iI a), .int (iI b)] 10 (.int (iI (w_far k a b))) 0 G ea bs z) ∧ (¬ (1 ≤ k ∧ k ≤ 5) → YRet bd N T M F m_X8_far [.ref 127, .int (iI k), .int (iI a), .int (iI b)] 10 (.int (iI 0)) 1 G ea bs z) ∧ (1 ≤ k ∧ k ≤ 5 → ¬ ((0 ≤ a ∧ a < 91) ∧ 0 ≤ b ∧ b < 91) → YRet bd N T M F m_X8_far [.ref 127, .int (iI k), .int (iI a), .int (iI b)] 10 (.int (iI 0)) 2 G ea bs z) := by
  have hY := hW.1.1
  have t0 := hY.1
  have hica := fun e (he : 9 ≤ e) => fun M => y_isCell (d := e) (T := T) (M := M) (F := F) (n := a) (by omega) ha0
  have hicb := fun e (he : 9 ≤ e) => fun M => y_isCell (d := e) (T := T) (M := M) (F := F) (n := b) (by omega) hb0
  have hin := fun e (he : 9 ≤ e) => fun M => y_isIn (d := e) (T := T) (M := M) (F := F) (n := k) (a := 1) (c := 5) (by omega) hk0 (by omega) (by omega)
  have hno : ∀ e, 9 ≤ e → ∀ x, 0 ≤ x ∧ x ≤ 10 → callD e m_X8_no [.ref 127, .int (iI x)] T (uA M 127 (u1 (M 127) 0 0)) F = some (.inl (some (.int (iI 0))), T, w0 M x, F) := fun e he x hx => by
    have := y_no (d := e) (M := w0 M 0) (x := x) hY (by omega) hx
    rw [w0_w0] at this
    exact this
  refine ⟨fun hk ha hb => ?_, fun hk => YRet.no hW (fun d hd => ?_), fun hk hn => YRet.no hW (fun d hd => ?_)⟩
  · obtain ⟨W0, z0, O0⟩ := hW.wz 0
    obtain ⟨M1, r1, c1, f1⟩ := yf_clr (T := T) (F := F) hY 91 0 (w0 M 0) (by omega) (by omega) (fun j j0 j1 => by omega)
    have f1' : ∀ a, a ≠ 139 → a ≠ 140 → M1 a = w0 M 0 a := fun a h _ => f1 a h
    have hS1 : YWS M1 (fun _ => -1, []) := ⟨fun c c0 c1' => c1 c c0 c1', fun j hj => absurd hj (Nat.not_lt_zero j)⟩
    have hG1 := W0.2.1.1.far f1'
    obtain ⟨M2, r2, S2, f2⟩ := y_reach hY hS1 WI.init (c := a) (m := 0) (by omega) ⟨Int.le_refl _, by rw [List.length_nil]; omega⟩
    have hI2 := WI.init.r (c := a) (m := 0) (by omega) ⟨Int.le_refl _, by rw [List.length_nil]; omega⟩
    obtain ⟨M3, r3, f3⟩ := yf_loop (l2 := .val (.int (iI a))) hY hk hb 91 0 M2 _ (by omega) (hG1.far f2) S2 hI2
    obtain ⟨W3, z3, O3⟩ := W0.fa (M1 := M3) (fun a a1 a2 => (f3 a a1 a2).trans ((f2 a a1 a2).trans (f1 a a1)))
    refine ⟨T, M3, F, lg, N, fun d hd => ?_, W3, z3.trans z0, O0.tr O3⟩
    refine callD_go 9 hd rfl (fun e he => ?_)
    show R e m_X8_far 0 [.val (.ref 127), .val (.int (iI k)), .val (.int (iI a)), .val (.int (iI b)), .unset, .unset] [] T M F = _
    have hica := hica e he
    have hicb := hicb e he
    have hin := hin e he
    rw [bI_t (by omega)] at hica hicb
    rw [bI_t hk] at hin
    have r1 := r1 e
    have r2 := r2 e (by omega)
    have r3 := r3 e (by omega)
    unfold w0 at r1
    rw [List.length_nil, Int.natCast_zero] at r2
    rw [Int.natCast_zero] at r3
    unfold w_far
    rw [← r3]
    clear hW W0 O0 hS1 hG1 S2 hI2 f1 f1' f2 f3 W3 O3 r3 hno hY
    simp (disch := omega) only [x_X8_far_0, x_X8_far_1, x_X8_far_2, x_X8_far_5, x_X8_far_6, x_X8_far_7, x_X8_far_8, x_X8_far_11, x_X8_far_14, x_X8_far_15, x_X8_far_16, x_X8_far_19, x_X8_far_20, x_X8_far_21, x_X8_far_24, x_X8_far_27, x_X8_far_28, x_X8_far_31, x_X8_far_34, x_X8_far_35, x_X8_far_36, x_X8_far_39, x_X8_far_40, x_X8_far_41, List.length_cons, List.length_nil, Nat.reduceLeDiff, Nat.zero_add, iI_add, iI_sub, iI_mul, iI_neg, iI_lt, iI_le, iI_eq, jI_iI, B_True, B_False, B_t, B_f, ck_True, gd_True, cb_v, cb_n, p_mv_rw, p_fv_rw, p_rv_some, pA_1, pA_90, pA_92, pA_3, pA_2, pA_93, pA_4, pA_91, pA_95, pS_i, pW_i, pZ_0, pZ_1, pZ_b, bI_e0, u1_s, u1_n, uA_s, uA_n, true_and, and_true, not_true_eq_false, not_false_eq_true, eq_self, iI_z, al1, al2, al3, al4, al90, al91, al92, al93, al95, Int.cast_ofNat_Int, Nat.reduceAdd, Int.reduceNeg, Int.reduceAdd, Int.reduceSub, Int.reduceMul, Int.reduceLT, Int.reduceLE, Int.reduceGT, Int.reduceGE, Int.reduceEq, Int.reduceNe, Nat.reduceEqDiff, Int.zero_add, Int.add_zero, p_ty0, p_ty1, p_ty2, p_ty3, p_ty4, p_ty5, p_ty6, p_ty7, p_ty8, p_ty9, p_ty10, p_ty11, t0, hica, hicb, hin, gd_t, B_t, B_f]
    rw [r1]
    simp (disch := omega) only [x_X8_far_64, x_X8_far_65, x_X8_far_66, x_X8_far_67, x_X8_far_68, x_X8_far_71, x_X8_far_73, x_X8_far_74, List.length_cons, List.length_nil, Nat.reduceLeDiff, Nat.zero_add, iI_add, iI_sub, iI_mul, iI_neg, iI_lt, iI_le, iI_eq, jI_iI, B_True, B_False, B_t, B_f, ck_True, gd_True, cb_v, cb_n, p_mv_rw, p_fv_rw, p_rv_some, pA_1, pA_90, pA_92, pA_3, pA_2, pA_93, pA_4, pA_91, pA_95, pS_i, pW_i, pZ_0, pZ_1, pZ_b, bI_e0, u1_s, u1_n, uA_s, uA_n, true_and, and_true, not_true_eq_false, not_false_eq_true, eq_self, iI_z, al1, al2, al3, al4, al90, al91, al92, al93, al95, Int.cast_ofNat_Int, Nat.reduceAdd, Int.reduceNeg, Int.reduceAdd, Int.reduceSub, Int.reduceMul, Int.reduceLT, Int.reduceLE, Int.reduceGT, Int.reduceGE, Int.reduceEq, Int.reduceNe, Nat.reduceEqDiff, Int.zero_add, Int.add_zero, p_ty0, p_ty1, p_ty2, p_ty3, p_ty4, p_ty5, p_ty6, p_ty7, p_ty8, p_ty9, p_ty10, p_ty11, t0, r2, gd_t]
  · refine callD_go 9 hd rfl (fun e he => ?_)
    show R e m_X8_far 0 [.val (.ref 127), .val (.int (iI k)), .val (.int (iI a)), .val (.int (iI b)), .unset, .unset] [] T M F = _
    have hin := hin e he
    rw [bI_f hk] at hin
    have hno := hno e he 1 (by omega)
    clear hW hY
    simp (disch := omega) only [x_X8_far_0, x_X8_far_1, x_X8_far_2, x_X8_far_5, x_X8_far_6, x_X8_far_7, x_X8_far_8, x_X8_far_11, x_X8_far_14, x_X8_far_15, x_X8_far_16, x_X8_far_19, List.length_cons, List.length_nil, Nat.reduceLeDiff, Nat.zero_add, iI_add, iI_sub, iI_mul, iI_neg, iI_lt, iI_le, iI_eq, jI_iI, B_True, B_False, B_t, B_f, ck_True, gd_True, cb_v, cb_n, p_mv_rw, p_fv_rw, p_rv_some, pA_1, pA_90, pA_92, pA_3, pA_2, pA_93, pA_4, pA_91, pA_95, pS_i, pW_i, pZ_0, pZ_1, pZ_b, bI_e0, u1_s, u1_n, uA_s, uA_n, true_and, and_true, not_true_eq_false, not_false_eq_true, eq_self, iI_z, al1, al2, al3, al4, al90, al91, al92, al93, al95, Int.cast_ofNat_Int, Nat.reduceAdd, Int.reduceNeg, Int.reduceAdd, Int.reduceSub, Int.reduceMul, Int.reduceLT, Int.reduceLE, Int.reduceGT, Int.reduceGE, Int.reduceEq, Int.reduceNe, Nat.reduceEqDiff, Int.zero_add, Int.add_zero, p_ty0, p_ty1, p_ty2, p_ty3, p_ty4, p_ty5, p_ty6, p_ty7, p_ty8, p_ty9, p_ty10, p_ty11, t0, hin, hno, gd_t, B_t, B_f]
  · refine callD_go 9 hd rfl (fun e he => ?_)
    show R e m_X8_far 0 [.val (.ref 127), .val (.int (iI k)), .val (.int (iI a)), .val (.int (iI b)), .unset, .unset] [] T M F = _
    have hica := hica e he
    have hicb := hicb e he
    have hin := hin e he
    rw [bI_t hk] at hin
    have hno := hno e he 2 (by omega)
    clear hW hY
    by_cases c1 : 0 ≤ a ∧ a ≤ 90
    · rw [bI_t c1] at hica
      rw [bI_f (by omega)] at hicb
      simp (disch := omega) only [x_X8_far_0, x_X8_far_1, x_X8_far_2, x_X8_far_5, x_X8_far_6, x_X8_far_7, x_X8_far_8, x_X8_far_11, x_X8_far_14, x_X8_far_15, x_X8_far_16, x_X8_far_19, x_X8_far_20, x_X8_far_21, x_X8_far_24, x_X8_far_27, x_X8_far_28, x_X8_far_31, x_X8_far_34, x_X8_far_35, x_X8_far_36, x_X8_far_39, List.length_cons, List.length_nil, Nat.reduceLeDiff, Nat.zero_add, iI_add, iI_sub, iI_mul, iI_neg, iI_lt, iI_le, iI_eq, jI_iI, B_True, B_False, B_t, B_f, ck_True, gd_True, cb_v, cb_n, p_mv_rw, p_fv_rw, p_rv_some, pA_1, pA_90, pA_92, pA_3, pA_2, pA_93, pA_4, pA_91, pA_95, pS_i, pW_i, pZ_0, pZ_1, pZ_b, bI_e0, u1_s, u1_n, uA_s, uA_n, true_and, and_true, not_true_eq_false, not_false_eq_true, eq_self, iI_z, al1, al2, al3, al4, al90, al91, al92, al93, al95, Int.cast_ofNat_Int, Nat.reduceAdd, Int.reduceNeg, Int.reduceAdd, Int.reduceSub, Int.reduceMul, Int.reduceLT, Int.reduceLE, Int.reduceGT, Int.reduceGE, Int.reduceEq, Int.reduceNe, Nat.reduceEqDiff, Int.zero_add, Int.add_zero, p_ty0, p_ty1, p_ty2, p_ty3, p_ty4, p_ty5, p_ty6, p_ty7, p_ty8, p_ty9, p_ty10, p_ty11, t0, hin, hica, hicb, hno, gd_t, B_t, B_f]
    · rw [bI_f c1] at hica
      simp (disch := omega) only [x_X8_far_0, x_X8_far_1, x_X8_far_2, x_X8_far_5, x_X8_far_6, x_X8_far_7, x_X8_far_8, x_X8_far_11, x_X8_far_14, x_X8_far_15, x_X8_far_16, x_X8_far_19, x_X8_far_20, x_X8_far_21, x_X8_far_24, x_X8_far_27, x_X8_far_28, x_X8_far_31, x_X8_far_34, x_X8_far_35, x_X8_far_36, x_X8_far_39, List.length_cons, List.length_nil, Nat.reduceLeDiff, Nat.zero_add, iI_add, iI_sub, iI_mul, iI_neg, iI_lt, iI_le, iI_eq, jI_iI, B_True, B_False, B_t, B_f, ck_True, gd_True, cb_v, cb_n, p_mv_rw, p_fv_rw, p_rv_some, pA_1, pA_90, pA_92, pA_3, pA_2, pA_93, pA_4, pA_91, pA_95, pS_i, pW_i, pZ_0, pZ_1, pZ_b, bI_e0, u1_s, u1_n, uA_s, uA_n, true_and, and_true, not_true_eq_false, not_false_eq_true, eq_self, iI_z, al1, al2, al3, al4, al90, al91, al92, al93, al95, Int.cast_ofNat_Int, Nat.reduceAdd, Int.reduceNeg, Int.reduceAdd, Int.reduceSub, Int.reduceMul, Int.reduceLT, Int.reduceLE, Int.reduceGT, Int.reduceGE, Int.reduceEq, Int.reduceNe, Nat.reduceEqDiff, Int.zero_add, Int.add_zero, p_ty0, p_ty1, p_ty2, p_ty3, p_ty4, p_ty5, p_ty6, p_ty7, p_ty8, p_ty9, p_ty10, p_ty11, t0, hin, hica, hno, gd_t, B_t, B_f]
end PYFA
