section PYMV
variable {d bd lg N lg1 N1 : Nat} {T T1 : pT} {M M0 M1 M2 : pM} {F F1 : pF} {bb v w bs : Int → Int} {t pas q its to as p n i c s x k a b z acc ea best most : Int} {H : List HE} {A L : List Int} {io : Nat} {S S1 : GSx}
theorem y_mean (hW : MW T M F bd lg N S ea bs z) (hP : SPx S) (hH : S.2.2.2.2.length < 613) : YRet bd N T M F m_X8_mean [.ref 127] 10 (.double (z_mean S)) 0 S ea bs z := by
  have hY := hW.1.1
  have hD := hW.1.2.1
  obtain ⟨W0, z0, O0⟩ := hW.wz 0
  have hb := hP.1.1
  have ht := hP.1.2.2.2.1
  have hpc := fun e (he : 9 ≤ e) => y_piecesOf (d := e) (s := S.2.1) W0.1.1 hb W0.2.1.2.1 ht (by omega)
  have hok := z_mean_ok hP.1.2.2.1 ht (lgQ_le hP.1)
  have k10 := hW.2.1.2.2.1
  have hpr := sm_rg (f := a_pc S.1 S.2.1) (a := 0) (b := 1) (fun i => bI_rg _) 91
  have hl := lgQ_le hP.1
  obtain ⟨v127, -, -, -, -, -, -, -, -, -, -, -, -, -, -, v137, w16, -⟩ := hY
  unfold z_mean at hok ⊢
  by_cases c : sm (a_pc S.1 S.2.1) 91 = 0
  · rw [if_pos c]
    refine ⟨T, w0 M 0, F, lg, N, fun d hd => ?_, W0, z0, O0⟩
    refine callD_go 9 hd rfl (fun e he => ?_)
    show R e m_X8_mean 0 [.val (.ref 127), .unset] [] T M F = _
    have hpc := hpc e he
    rw [c] at hpc
    unfold w0 at hpc ⊢
    clear hW W0 O0 hP hb hok hpr
    simp (disch := omega) only [x_X8_mean_0, x_X8_mean_1, x_X8_mean_2, x_X8_mean_5, x_X8_mean_6, x_X8_mean_7, x_X8_mean_10, x_X8_mean_13, x_X8_mean_14, x_X8_mean_15, x_X8_mean_18, x_X8_mean_19, x_X8_mean_22, x_X8_mean_23, x_X8_mean_24, x_X8_mean_27, x_X8_mean_30, x_X8_mean_31, x_X8_mean_32, x_X8_mean_33, x_X8_mean_34, List.length_cons, List.length_nil, Nat.reduceLeDiff, Nat.zero_add, iI_add, iI_sub, iI_mul, iI_neg, iI_lt, iI_le, iI_eq, jI_iI, B_True, B_False, B_t, B_f, ck_True, gd_True, cb_v, cb_n, p_mv_rw, p_fv_rw, p_rv_some, pA_1, pA_90, pA_92, pA_3, pA_2, pA_93, pA_4, pA_91, pA_95, pS_i, pW_i, pZ_0, pZ_1, pZ_b, bI_e0, u1_s, u1_n, uA_s, uA_n, true_and, and_true, not_true_eq_false, not_false_eq_true, eq_self, iI_z, al1, al2, al3, al4, al90, al91, al92, al93, al95, Int.cast_ofNat_Int, Nat.reduceAdd, Int.reduceNeg, Int.reduceAdd, Int.reduceSub, Int.reduceMul, Int.reduceLT, Int.reduceLE, Int.reduceGT, Int.reduceGE, Int.reduceEq, Int.reduceNe, Nat.reduceEqDiff, Int.zero_add, Int.add_zero, p_ty0, p_ty1, p_ty2, p_ty3, p_ty4, p_ty5, p_ty6, p_ty7, p_ty8, p_ty9, p_ty10, p_ty11, v127, k10, hpc, gd_t, B_t, B_f]
  · rw [if_neg c] at hok ⊢
    obtain ⟨T1, M1, F1, lg1, N1, r1, L1, -, R1⟩ := y_list (io := 137) (Or.inl rfl) W0.1 W0.2.1 hP.1 (by omega)
    obtain ⟨W1, f1, O1⟩ := W0.yr R1 (XL.y hD (Or.inl rfl))
    refine ⟨T1, M1, F1, lg1, N1, fun d hd => ?_, W1, f1.trans z0, O0.tr O1⟩
    refine callD_go 9 hd rfl (fun e he => ?_)
    show R e m_X8_mean 0 [.val (.ref 127), .unset] [] T M F = _
    have hpc := hpc e he
    have r1 := r1 e (by omega)
    unfold w0 at hpc r1
    clear hW W0 O0 hP hb W1 O1 R1 L1
    simp (disch := omega) only [x_X8_mean_0, x_X8_mean_1, x_X8_mean_2, x_X8_mean_5, x_X8_mean_6, x_X8_mean_7, x_X8_mean_10, x_X8_mean_13, x_X8_mean_14, x_X8_mean_15, x_X8_mean_18, x_X8_mean_19, x_X8_mean_22, x_X8_mean_23, x_X8_mean_24, x_X8_mean_27, x_X8_mean_30, x_X8_mean_31, x_X8_mean_32, x_X8_mean_33, x_X8_mean_34, List.length_cons, List.length_nil, Nat.reduceLeDiff, Nat.zero_add, iI_add, iI_sub, iI_mul, iI_neg, iI_lt, iI_le, iI_eq, jI_iI, B_True, B_False, B_t, B_f, ck_True, gd_True, cb_v, cb_n, p_mv_rw, p_fv_rw, p_rv_some, pA_1, pA_90, pA_92, pA_3, pA_2, pA_93, pA_4, pA_91, pA_95, pS_i, pW_i, pZ_0, pZ_1, pZ_b, bI_e0, u1_s, u1_n, uA_s, uA_n, true_and, and_true, not_true_eq_false, not_false_eq_true, eq_self, iI_z, al1, al2, al3, al4, al90, al91, al92, al93, al95, Int.cast_ofNat_Int, Nat.reduceAdd, Int.reduceNeg, Int.reduceAdd, Int.reduceSub, Int.reduceMul, Int.reduceLT, Int.reduceLE, Int.reduceGT, Int.reduceGE, Int.reduceEq, Int.reduceNe, Nat.reduceEqDiff, Int.zero_add, Int.add_zero, p_ty0, p_ty1, p_ty2, p_ty3, p_ty4, p_ty5, p_ty6, p_ty7, p_ty8, p_ty9, p_ty10, p_ty11, v127, v137, w16, k10, hpc, r1, ck_t hok, gd_t, B_t, B_f]
theorem SPx.hi (hP : SPx S) : SP S.1 S.2.1 S.2.2.1 S.2.2.2.1 := hP.1
theorem SPx.mv (hP : SPx S) (hq : S.2.2.2.1 < 60) (h : MV S.1 S.2.1 S.2.2.1 its to) (has : 2 ≤ as ∧ as ≤ 5) : SPx (z_mv S its to as) := by
  refine ⟨hP.1.mk hq h has, ⟨hP.1.1, hP.1.2.1, hP.1.2.2.1, hP.1.2.2.2.1, hP.1.2.2.2.2.1, ⟨hP.1.2.2.2.2.2.1, hq⟩, h, has⟩, ⟨rfl, rfl, rfl, rfl⟩, hP.2⟩
theorem y_move (hW : MW T M F bd lg N S ea bs z) (hP : SPx S) (hH : S.2.2.2.2.length < 613) (ha0 : -2147483648 ≤ a ∧ a < 2147483648) (hb0 : -2147483648 ≤ b ∧ b < 2147483648) (hn0 : -2147483648 ≤ n ∧ n < 2147483648) :
    (0 ≤ a ∧ a < 91 → 0 ≤ b ∧ b < 91 → 2 ≤ n ∧ n ≤ 5 → 91 * a + b ∈ lgQ S.1 S.2.1 S.2.2.1 S.2.2.2.1 → YRet bd N T M F m_X8_move [.ref 127, .int (iI a), .int (iI b), .int (iI n)] 10 (.int (iI (S.1 (mk_pl S.1 S.2.2.1 a b) % 10))) 0 (z_mv S a b n) ea bs z) ∧
    (¬ ((0 ≤ a ∧ a < 91) ∧ 0 ≤ b ∧ b < 91) → YRet bd N T M F m_X8_move [.ref 127, .int (iI a), .int (iI b), .int (iI n)] 10 (.int (iI 0)) 1 S ea bs z) ∧
    (0 ≤ a ∧ a < 91 → 0 ≤ b ∧ b < 91 → ¬ (2 ≤ n ∧ n ≤ 5) → YRet bd N T M F m_X8_move [.ref 127, .int (iI a), .int (iI b), .int (iI n)] 10 (.int (iI 0)) 2 S ea bs z) ∧
    (0 ≤ a ∧ a < 91 → 0 ≤ b ∧ b < 91 → 2 ≤ n ∧ n ≤ 5 → ¬ 91 * a + b ∈ lgQ S.1 S.2.1 S.2.2.1 S.2.2.2.1 → YRet bd N T M F m_X8_move [.ref 127, .int (iI a), .int (iI b), .int (iI n)] 10 (.int (iI 0)) 3 S ea bs z) := by
  have hY := hW.1.1
  have t0 := hY.1
  have hD := hW.1.2.1
  have hica := fun e (he : 9 ≤ e) => fun M => y_isCell (d := e) (T := T) (M := M) (F := F) (n := a) (by omega) ha0
  have hicb := fun e (he : 9 ≤ e) => fun M => y_isCell (d := e) (T := T) (M := M) (F := F) (n := b) (by omega) hb0
  have hin := fun e (he : 9 ≤ e) => fun M => y_isIn (d := e) (T := T) (M := M) (F := F) (n := n) (a := 2) (c := 5) (by omega) hn0 (by omega) (by omega)
  have hno : ∀ e, 9 ≤ e → ∀ x, 0 ≤ x ∧ x ≤ 10 → callD e m_X8_no [.ref 127, .int (iI x)] T (uA M 127 (u1 (M 127) 0 0)) F = some (.inl (some (.int (iI 0))), T, w0 M x, F) := fun e he x hx => by
    have := y_no (d := e) (M := w0 M 0) (x := x) hY (by omega) hx
    rw [w0_w0] at this
    exact this
  refine ⟨fun ha hb hn hL => ?_, fun hn => YRet.no hW (fun d hd => ?_), fun ha hb hn => YRet.no hW (fun d hd => ?_), fun ha hb hn hL => ?_⟩
  · obtain ⟨W0, z0, O0⟩ := hW.wz 0
    obtain ⟨T1, M1, F1, lg1, N1, r, r1, hr, hiff, R1⟩ := y_placeOf (k := 91 * a + b) W0.1 W0.2.1 hP.1 (by omega) (by omega)
    obtain ⟨W1, f1, O1⟩ := W0.yr R1 (XL.y hD (Or.inl rfl))
    obtain ⟨z1, z2, z3, z4⟩ := lgQ_mv hL ha hb
    obtain ⟨T2, M2, F2, lg2, N2, r2, V2, S2, j2, -, C2⟩ := y_make W1.1 W1.2.1 hP.1 (by omega) z3 hn
    obtain ⟨e0, e0', e1, e2, e3, e4⟩ := id W1.1.2.1
    have hbp := hP.1.1 (mk_pl S.1 S.2.2.1 a b)
    refine ⟨T2, M2, F2, lg2, N2, fun d hd => ?_, ⟨V2, S2, ?_, ?_, ?_⟩, ?_, (O0.tr O1).tr (C2.or W1.1.2.1 (fun a z => by omega))⟩
    · refine callD_go 9 hd rfl (fun e he => ?_)
      show R e m_X8_move 0 [.val (.ref 127), .val (.int (iI a)), .val (.int (iI b)), .val (.int (iI n))] [] T M F = _
      have r1 := r1 e (by omega)
      have r2 := r2 e (by omega)
      have hica := hica e he
      have hicb := hicb e he
      have hin := hin e he
      rw [bI_t (by omega)] at hica hicb
      rw [bI_t hn] at hin
      have c2 := hiff.mpr hL
      have t1 := W1.1.1.1
      unfold w0 at r1
      clear hW W0 O0 hY hP W1 O1 R1 hiff hL V2 S2 C2 j2 z2 z3 z4 hno
      simp (disch := omega) only [x_X8_move_0, x_X8_move_1, x_X8_move_2, x_X8_move_5, x_X8_move_6, x_X8_move_9, x_X8_move_12, x_X8_move_13, x_X8_move_16, x_X8_move_19, x_X8_move_20, x_X8_move_21, x_X8_move_24, x_X8_move_25, x_X8_move_26, x_X8_move_27, x_X8_move_28, x_X8_move_31, x_X8_move_34, x_X8_move_35, x_X8_move_36, x_X8_move_39, x_X8_move_40, x_X8_move_41, x_X8_move_43, x_X8_move_44, x_X8_move_45, x_X8_move_46, x_X8_move_47, x_X8_move_50, x_X8_move_51, x_X8_move_54, x_X8_move_55, x_X8_move_56, x_X8_move_59, x_X8_move_60, x_X8_move_61, x_X8_move_62, x_X8_move_63, x_X8_move_64, x_X8_move_67, List.length_cons, List.length_nil, Nat.reduceLeDiff, Nat.zero_add, iI_add, iI_sub, iI_mul, iI_neg, iI_lt, iI_le, iI_eq, jI_iI, B_True, B_False, B_t, B_f, ck_True, gd_True, cb_v, cb_n, p_mv_rw, p_fv_rw, p_rv_some, pA_1, pA_90, pA_92, pA_3, pA_2, pA_93, pA_4, pA_91, pA_95, pS_i, pW_i, pZ_0, pZ_1, pZ_b, bI_e0, u1_s, u1_n, uA_s, uA_n, true_and, and_true, not_true_eq_false, not_false_eq_true, eq_self, iI_z, al1, al2, al3, al4, al90, al91, al92, al93, al95, Int.cast_ofNat_Int, Nat.reduceAdd, Int.reduceNeg, Int.reduceAdd, Int.reduceSub, Int.reduceMul, Int.reduceLT, Int.reduceLE, Int.reduceGT, Int.reduceGE, Int.reduceEq, Int.reduceNe, Nat.reduceEqDiff, Int.zero_add, Int.add_zero, p_ty0, p_ty1, p_ty2, p_ty3, p_ty4, p_ty5, p_ty6, p_ty7, p_ty8, p_ty9, p_ty10, p_ty11, t0, t1, hica, hicb, hin, r1, r2, gd_t, B_t, B_f]
    · rw [j2 2 (by omega) (by omega) (by omega) (by omega)]; exact W1.2.2.1
    · rw [j2 3 (by omega) (by omega) (by omega) (by omega)]; exact W1.2.2.2.1
    · rw [C2.2.1 128 (by omega) (by omega) (by omega)]; exact W1.2.2.2.2
    · rw [j2 0 (by omega) (by omega) (by omega) (by omega)]; exact f1.trans z0
  · refine callD_go 9 hd rfl (fun e he => ?_)
    show R e m_X8_move 0 [.val (.ref 127), .val (.int (iI a)), .val (.int (iI b)), .val (.int (iI n))] [] T M F = _
    have hica := hica e he
    have hicb := hicb e he
    have hno := hno e he 1 (by omega)
    clear hW hY hP
    by_cases c1 : 0 ≤ a ∧ a ≤ 90
    · rw [bI_t c1] at hica
      rw [bI_f (by omega)] at hicb
      simp (disch := omega) only [x_X8_move_0, x_X8_move_1, x_X8_move_2, x_X8_move_5, x_X8_move_6, x_X8_move_9, x_X8_move_12, x_X8_move_13, x_X8_move_16, x_X8_move_19, x_X8_move_20, x_X8_move_21, x_X8_move_24, List.length_cons, List.length_nil, Nat.reduceLeDiff, Nat.zero_add, iI_add, iI_sub, iI_mul, iI_neg, iI_lt, iI_le, iI_eq, jI_iI, B_True, B_False, B_t, B_f, ck_True, gd_True, cb_v, cb_n, p_mv_rw, p_fv_rw, p_rv_some, pA_1, pA_90, pA_92, pA_3, pA_2, pA_93, pA_4, pA_91, pA_95, pS_i, pW_i, pZ_0, pZ_1, pZ_b, bI_e0, u1_s, u1_n, uA_s, uA_n, true_and, and_true, not_true_eq_false, not_false_eq_true, eq_self, iI_z, al1, al2, al3, al4, al90, al91, al92, al93, al95, Int.cast_ofNat_Int, Nat.reduceAdd, Int.reduceNeg, Int.reduceAdd, Int.reduceSub, Int.reduceMul, Int.reduceLT, Int.reduceLE, Int.reduceGT, Int.reduceGE, Int.reduceEq, Int.reduceNe, Nat.reduceEqDiff, Int.zero_add, Int.add_zero, p_ty0, p_ty1, p_ty2, p_ty3, p_ty4, p_ty5, p_ty6, p_ty7, p_ty8, p_ty9, p_ty10, p_ty11, t0, hica, hicb, hno, gd_t, B_t, B_f]
    · rw [bI_f c1] at hica
      simp (disch := omega) only [x_X8_move_0, x_X8_move_1, x_X8_move_2, x_X8_move_5, x_X8_move_6, x_X8_move_9, x_X8_move_12, x_X8_move_13, x_X8_move_16, x_X8_move_19, x_X8_move_20, x_X8_move_21, x_X8_move_24, List.length_cons, List.length_nil, Nat.reduceLeDiff, Nat.zero_add, iI_add, iI_sub, iI_mul, iI_neg, iI_lt, iI_le, iI_eq, jI_iI, B_True, B_False, B_t, B_f, ck_True, gd_True, cb_v, cb_n, p_mv_rw, p_fv_rw, p_rv_some, pA_1, pA_90, pA_92, pA_3, pA_2, pA_93, pA_4, pA_91, pA_95, pS_i, pW_i, pZ_0, pZ_1, pZ_b, bI_e0, u1_s, u1_n, uA_s, uA_n, true_and, and_true, not_true_eq_false, not_false_eq_true, eq_self, iI_z, al1, al2, al3, al4, al90, al91, al92, al93, al95, Int.cast_ofNat_Int, Nat.reduceAdd, Int.reduceNeg, Int.reduceAdd, Int.reduceSub, Int.reduceMul, Int.reduceLT, Int.reduceLE, Int.reduceGT, Int.reduceGE, Int.reduceEq, Int.reduceNe, Nat.reduceEqDiff, Int.zero_add, Int.add_zero, p_ty0, p_ty1, p_ty2, p_ty3, p_ty4, p_ty5, p_ty6, p_ty7, p_ty8, p_ty9, p_ty10, p_ty11, t0, hica, hno, gd_t, B_t, B_f]
  · refine callD_go 9 hd rfl (fun e he => ?_)
    show R e m_X8_move 0 [.val (.ref 127), .val (.int (iI a)), .val (.int (iI b)), .val (.int (iI n))] [] T M F = _
    have hica := hica e he
    have hicb := hicb e he
    have hin := hin e he
    have hno := hno e he 2 (by omega)
    rw [bI_t (by omega)] at hica hicb
    rw [bI_f hn] at hin
    clear hW hY hP
    simp (disch := omega) only [x_X8_move_0, x_X8_move_1, x_X8_move_2, x_X8_move_5, x_X8_move_6, x_X8_move_9, x_X8_move_12, x_X8_move_13, x_X8_move_16, x_X8_move_19, x_X8_move_20, x_X8_move_21, x_X8_move_24, x_X8_move_25, x_X8_move_26, x_X8_move_27, x_X8_move_28, x_X8_move_31, x_X8_move_34, x_X8_move_35, x_X8_move_36, x_X8_move_39, List.length_cons, List.length_nil, Nat.reduceLeDiff, Nat.zero_add, iI_add, iI_sub, iI_mul, iI_neg, iI_lt, iI_le, iI_eq, jI_iI, B_True, B_False, B_t, B_f, ck_True, gd_True, cb_v, cb_n, p_mv_rw, p_fv_rw, p_rv_some, pA_1, pA_90, pA_92, pA_3, pA_2, pA_93, pA_4, pA_91, pA_95, pS_i, pW_i, pZ_0, pZ_1, pZ_b, bI_e0, u1_s, u1_n, uA_s, uA_n, true_and, and_true, not_true_eq_false, not_false_eq_true, eq_self, iI_z, al1, al2, al3, al4, al90, al91, al92, al93, al95, Int.cast_ofNat_Int, Nat.reduceAdd, Int.reduceNeg, Int.reduceAdd, Int.reduceSub, Int.reduceMul, Int.reduceLT, Int.reduceLE, Int.reduceGT, Int.reduceGE, Int.reduceEq, Int.reduceNe, Nat.reduceEqDiff, Int.zero_add, Int.add_zero, p_ty0, p_ty1, p_ty2, p_ty3, p_ty4, p_ty5, p_ty6, p_ty7, p_ty8, p_ty9, p_ty10, p_ty11, t0, hica, hicb, hin, hno, gd_t, B_t, B_f]
  · obtain ⟨W0, z0, O0⟩ := hW.wz 0
    obtain ⟨T1, M1, F1, lg1, N1, r, r1, hr, hiff, R1⟩ := y_placeOf (k := 91 * a + b) W0.1 W0.2.1 hP.1 (by omega) (by omega)
    obtain ⟨W1, f1, O1⟩ := W0.yr R1 (XL.y hD (Or.inl rfl))
    obtain ⟨W2, z2, O2⟩ := W1.wz 3
    refine ⟨T1, w0 M1 3, F1, lg1, N1, fun d hd => ?_, W2, z2, (O0.tr O1).tr O2⟩
    refine callD_go 9 hd rfl (fun e he => ?_)
    show R e m_X8_move 0 [.val (.ref 127), .val (.int (iI a)), .val (.int (iI b)), .val (.int (iI n))] [] T M F = _
    have r1 := r1 e (by omega)
    have c2 : r = -1 := Classical.byContradiction (fun z => hL (hiff.mp z))
    rw [c2] at r1
    have hica := hica e he
    have hicb := hicb e he
    have hin := hin e he
    rw [bI_t (by omega)] at hica hicb
    rw [bI_t hn] at hin
    have hno := y_no (d := e) (M := M1) (x := 3) W1.1.1 (by omega) (by omega)
    have t1 := W1.1.1.1
    unfold w0 at r1
    clear hW W0 O0 hY hP W1 O1 R1 hiff hL W2 O2
    simp (disch := omega) only [x_X8_move_0, x_X8_move_1, x_X8_move_2, x_X8_move_5, x_X8_move_6, x_X8_move_9, x_X8_move_12, x_X8_move_13, x_X8_move_16, x_X8_move_19, x_X8_move_20, x_X8_move_21, x_X8_move_24, x_X8_move_25, x_X8_move_26, x_X8_move_27, x_X8_move_28, x_X8_move_31, x_X8_move_34, x_X8_move_35, x_X8_move_36, x_X8_move_39, x_X8_move_40, x_X8_move_41, x_X8_move_43, x_X8_move_44, x_X8_move_45, x_X8_move_46, x_X8_move_47, x_X8_move_50, x_X8_move_51, x_X8_move_54, x_X8_move_55, x_X8_move_56, x_X8_move_59, List.length_cons, List.length_nil, Nat.reduceLeDiff, Nat.zero_add, iI_add, iI_sub, iI_mul, iI_neg, iI_lt, iI_le, iI_eq, jI_iI, B_True, B_False, B_t, B_f, ck_True, gd_True, cb_v, cb_n, p_mv_rw, p_fv_rw, p_rv_some, pA_1, pA_90, pA_92, pA_3, pA_2, pA_93, pA_4, pA_91, pA_95, pS_i, pW_i, pZ_0, pZ_1, pZ_b, bI_e0, u1_s, u1_n, uA_s, uA_n, true_and, and_true, not_true_eq_false, not_false_eq_true, eq_self, iI_z, al1, al2, al3, al4, al90, al91, al92, al93, al95, Int.cast_ofNat_Int, Nat.reduceAdd, Int.reduceNeg, Int.reduceAdd, Int.reduceSub, Int.reduceMul, Int.reduceLT, Int.reduceLE, Int.reduceGT, Int.reduceGE, Int.reduceEq, Int.reduceNe, Nat.reduceEqDiff, Int.zero_add, Int.add_zero, p_ty0, p_ty1, p_ty2, p_ty3, p_ty4, p_ty5, p_ty6, p_ty7, p_ty8, p_ty9, p_ty10, p_ty11, t0, t1, hica, hicb, hin, r1, hno, gd_t, B_t, B_f]
theorem y_back (hW : MW T M F bd lg N S ea bs z) (hP : SPx S) (hH : S.2.2.2.2.length < 614) :
    (∀ (b0 : Int → Int) (t0 p0 q0 i0 o0 a0 : Int) (H : List HE), S.2.2.2.2 = (b0, t0, p0, q0, i0, o0, a0) :: H → YRet bd N T M F m_X8_back [.ref 127] 10 (.int (iI (H.length : Int))) 0 (b0, t0, p0, q0, H) ea bs z) ∧
    (S.2.2.2.2 = [] → YRet bd N T M F m_X8_back [.ref 127] 10 (.int (iI 0)) 1 S ea bs z) := by
  have hY := hW.1.1
  have hD := hW.1.2.1
  have h14 := hW.1.2.2.2.2.2
  have ty := hY.1
  obtain ⟨d0, d0', d1, d2, d3, d4⟩ := id hD
  refine ⟨fun b0 t0 p0 q0 i0 o0 a0 H hE => ?_, fun hE => YRet.no hW (fun d hd => ?_)⟩
  · obtain ⟨W0, z0, O0⟩ := hW.wz 0
    have hHI := hP.2
    rw [hE] at hHI
    obtain ⟨⟨v1, v2, v3, v4, v5, v6, v7, v8⟩, ⟨r1, r2, r3, r4⟩, hH'⟩ := hHI
    have V0 := W0.1
    have S0 := W0.2.1
    rw [hE] at V0 h14 hH
    rw [List.length_cons] at h14 hH
    rw [r1, r2] at S0
    obtain ⟨M3, rr, V3, S3, j3, m14, f3⟩ := y_unmake V0 S0 v1 v4 v5 (by omega) v7 (by omega)
    refine ⟨T, M3, F, lg, N, fun d hd => ?_, ⟨V3, S3, ?_, ?_, ?_⟩, ?_, O0.tr ⟨s_mono.rf, fun a ha => ⟨f3 a (by omega) (by omega), rfl⟩, f3 144 (by omega) (by omega), Nat.le_refl _, Nat.le_refl _, Nat.le_refl _⟩⟩
    · refine callD_go 9 hd rfl (fun e he => ?_)
      show R e m_X8_back 0 [.val (.ref 127)] [] T M F = _
      have rr := rr e (by omega)
      unfold w0 at rr
      clear hW W0 O0 hY hP V0 S0 V3 S3 j3 f3 hH' v1 v2 v3 v5 v7 hE r1 r2 r3 r4
      simp (disch := omega) only [x_X8_back_0, x_X8_back_1, x_X8_back_2, x_X8_back_5, x_X8_back_6, x_X8_back_9, x_X8_back_12, x_X8_back_13, x_X8_back_14, x_X8_back_17, x_X8_back_18, x_X8_back_19, x_X8_back_22, x_X8_back_23, x_X8_back_26, List.length_cons, List.length_nil, Nat.reduceLeDiff, Nat.zero_add, iI_add, iI_sub, iI_mul, iI_neg, iI_lt, iI_le, iI_eq, jI_iI, B_True, B_False, B_t, B_f, ck_True, gd_True, cb_v, cb_n, p_mv_rw, p_fv_rw, p_rv_some, pA_1, pA_90, pA_92, pA_3, pA_2, pA_93, pA_4, pA_91, pA_95, pS_i, pW_i, pZ_0, pZ_1, pZ_b, bI_e0, u1_s, u1_n, uA_s, uA_n, true_and, and_true, not_true_eq_false, not_false_eq_true, eq_self, iI_z, al1, al2, al3, al4, al90, al91, al92, al93, al95, Int.cast_ofNat_Int, Nat.reduceAdd, Int.reduceNeg, Int.reduceAdd, Int.reduceSub, Int.reduceMul, Int.reduceLT, Int.reduceLE, Int.reduceGT, Int.reduceGE, Int.reduceEq, Int.reduceNe, Nat.reduceEqDiff, Int.zero_add, Int.add_zero, p_ty0, p_ty1, p_ty2, p_ty3, p_ty4, p_ty5, p_ty6, p_ty7, p_ty8, p_ty9, p_ty10, p_ty11, ty, h14, rr, m14, gd_t, B_t, B_f]
    · rw [j3 2 (by omega) (by omega) (by omega) (by omega)]; exact W0.2.2.1
    · rw [j3 3 (by omega) (by omega) (by omega) (by omega)]; exact W0.2.2.2.1
    · rw [f3 128 (by omega) (by omega)]; exact W0.2.2.2.2
    · rw [j3 0 (by omega) (by omega) (by omega) (by omega)]; exact z0
  · refine callD_go 9 hd rfl (fun e he => ?_)
    show R e m_X8_back 0 [.val (.ref 127)] [] T M F = _
    have hno := y_no (d := e) (M := w0 M 0) (x := 1) hY (by omega) (by omega)
    rw [w0_w0] at hno
    rw [hE, List.length_nil, Int.natCast_zero] at h14
    unfold w0 at hno ⊢
    clear hW hY hP hE hH
    simp (disch := omega) only [x_X8_back_0, x_X8_back_1, x_X8_back_2, x_X8_back_5, x_X8_back_6, x_X8_back_9, x_X8_back_12, x_X8_back_13, x_X8_back_14, x_X8_back_17, x_X8_back_18, x_X8_back_19, x_X8_back_22, x_X8_back_23, x_X8_back_26, List.length_cons, List.length_nil, Nat.reduceLeDiff, Nat.zero_add, iI_add, iI_sub, iI_mul, iI_neg, iI_lt, iI_le, iI_eq, jI_iI, B_True, B_False, B_t, B_f, ck_True, gd_True, cb_v, cb_n, p_mv_rw, p_fv_rw, p_rv_some, pA_1, pA_90, pA_92, pA_3, pA_2, pA_93, pA_4, pA_91, pA_95, pS_i, pW_i, pZ_0, pZ_1, pZ_b, bI_e0, u1_s, u1_n, uA_s, uA_n, true_and, and_true, not_true_eq_false, not_false_eq_true, eq_self, iI_z, al1, al2, al3, al4, al90, al91, al92, al93, al95, Int.cast_ofNat_Int, Nat.reduceAdd, Int.reduceNeg, Int.reduceAdd, Int.reduceSub, Int.reduceMul, Int.reduceLT, Int.reduceLE, Int.reduceGT, Int.reduceGE, Int.reduceEq, Int.reduceNe, Nat.reduceEqDiff, Int.zero_add, Int.add_zero, p_ty0, p_ty1, p_ty2, p_ty3, p_ty4, p_ty5, p_ty6, p_ty7, p_ty8, p_ty9, p_ty10, p_ty11, ty, h14, hno, gd_t, B_t, B_f]
end PYMV
