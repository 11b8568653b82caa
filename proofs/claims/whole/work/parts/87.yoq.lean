section PYOQ
variable {d bd lg N lg1 N1 : Nat} {T T1 : pT} {M M0 M1 M2 : pM} {F F1 : pF} {bb v w bs : Int → Int} {t pas q its to as p n i c s x k a b z acc ea best most : Int} {H : List HE} {A L : List Int} {io : Nat} {S S1 : GSx}
theorem y_at (hW : MW T M F bd lg N S ea bs z) (ha : -2147483648 ≤ a ∧ a < 2147483648) (hb : -2147483648 ≤ b ∧ b < 2147483648) : ((0 ≤ a ∧ a ≤ 10 ∧ 1 ≤ b ∧ b ≤ q_csz a) → YRet bd N T M F m_X8_at [.ref 127, .int (iI a), .int (iI b)] 10 (.int (iI (p_roM 1 a + b - 1))) 0 S ea bs z) ∧ (¬ (0 ≤ a ∧ a ≤ 10 ∧ 1 ≤ b ∧ b ≤ q_csz a) → YRet bd N T M F m_X8_at [.ref 127, .int (iI a), .int (iI b)] 10 (.int (iI 0)) 1 S ea bs z) := by
  have hY := hW.1.1
  have t0 := hY.1
  obtain ⟨W0, z0, O0⟩ := hW.wz 0
  have hin := fun e (he : 9 ≤ e) => fun M => y_isIn (d := e) (T := T) (M := M) (F := F) (n := a) (a := 0) (c := 10) (by omega) ha (by omega) (by omega)
  have hw0 : ∀ a, a ≠ 127 → w0 M 0 a = M a := fun a ha => uA_n ha
  refine ⟨fun hn => ?_, fun hn => YRet.no hW (fun d hd => ?_)⟩
  · refine ⟨T, w0 M 0, F, lg, N, fun d hd => ?_, W0, z0, O0⟩
    refine callD_go 9 hd rfl (fun e he => ?_)
    show R e m_X8_at 0 [.val (.ref 127), .val (.int (iI a)), .val (.int (iI b))] [] T M F = _
    have hin := hin e he
    rw [bI_t (by omega)] at hin
    have hsz := fun M => y_sizeOf (d := e) (T := T) (M := M) (F := F) (n := a) (by omega) (by omega)
    have hq : 0 ≤ q_csz a ∧ q_csz a ≤ 100 := by unfold q_csz; split <;> omega
    have hi2 := fun M => y_isIn (d := e) (T := T) (M := M) (F := F) (n := b) (a := 1) (c := q_csz a) (by omega) hb (by omega) (by omega)
    rw [bI_t (by omega)] at hi2
    have h131 := hW.2.1.1.2.2.1 a hn.1 (by omega)
    have e3 : 0 ≤ p_roM 1 a ∧ p_roM 1 a + q_csz a ≤ 91 := by
      have h : ∀ m : Nat, m < 11 → 0 ≤ p_roM 1 (m : Int) ∧ p_roM 1 (m : Int) + q_csz (m : Int) ≤ 91 := by decide +kernel
      have h2 := h a.toNat (by omega)
      rwa [Int.toNat_of_nonneg (by omega)] at h2
    obtain ⟨ty127, ty128, fy1, ty129, fy4, ty130, fy5, ty131, fy6, ty132, fy7, ty133, fy8, ty136, fy15, ty137, fy16, ty138, fy17, ty139, fy18, ty140, fy19, ty141, fy20, ty142, fy21, ty143, fy22, hbd, tybd, fy9, hlg, tylg, fy13, hN⟩ := hY
    unfold w0
    clear hW W0 O0 hw0
    simp (disch := omega) only [x_X8_at_0, x_X8_at_1, x_X8_at_2, x_X8_at_5, x_X8_at_6, x_X8_at_7, x_X8_at_9, x_X8_at_12, x_X8_at_15, x_X8_at_16, x_X8_at_17, x_X8_at_18, x_X8_at_21, x_X8_at_24, x_X8_at_27, x_X8_at_28, x_X8_at_31, x_X8_at_32, x_X8_at_33, x_X8_at_34, x_X8_at_35, x_X8_at_36, x_X8_at_37, x_X8_at_40, x_X8_at_41, x_X8_at_42, x_X8_at_45, List.length_cons, List.length_nil, Nat.reduceLeDiff, Nat.zero_add, iI_add, iI_sub, iI_mul, iI_neg, iI_lt, iI_le, iI_eq, jI_iI, B_True, B_False, B_t, B_f, ck_True, gd_True, cb_v, cb_n, p_mv_rw, p_fv_rw, p_rv_some, pA_1, pA_90, pA_92, pA_3, pA_2, pA_93, pA_4, pA_91, pA_95, pS_i, pW_i, pZ_0, pZ_1, pZ_b, bI_e0, u1_s, u1_n, uA_s, uA_n, true_and, and_true, not_true_eq_false, not_false_eq_true, eq_self, iI_z, al1, al2, al3, al4, al90, al91, al92, al93, al95, Int.cast_ofNat_Int, Nat.reduceAdd, Int.reduceNeg, Int.reduceAdd, Int.reduceSub, Int.reduceMul, Int.reduceLT, Int.reduceLE, Int.reduceGT, Int.reduceGE, Int.reduceEq, Int.reduceNe, Nat.reduceEqDiff, Int.zero_add, Int.add_zero, p_ty0, p_ty1, p_ty2, p_ty3, p_ty4, p_ty5, p_ty6, p_ty7, p_ty8, p_ty9, p_ty10, p_ty11, ty127, ty128, fy1, ty129, fy4, ty130, fy5, ty131, fy6, ty132, fy7, ty133, fy8, ty136, fy15, ty137, fy16, ty138, fy17, ty139, fy18, ty140, fy19, ty141, fy20, ty142, fy21, ty143, fy22, tybd, fy9, tylg, fy13, hin, hsz, hi2, h131, gd_t, B_t, B_f]
  · refine callD_go 9 hd rfl (fun e he => ?_)
    show R e m_X8_at 0 [.val (.ref 127), .val (.int (iI a)), .val (.int (iI b))] [] T M F = _
    have hin := hin e he
    have hno := y_no (d := e) (M := w0 M 0) (x := 1) hY (by omega) (by omega)
    rw [w0_w0] at hno
    unfold w0 at hno ⊢
    by_cases c1 : 0 ≤ a ∧ a ≤ 10
    · rw [bI_t c1] at hin
      have hsz := fun M => y_sizeOf (d := e) (T := T) (M := M) (F := F) (n := a) (by omega) (by omega)
      have hq : 0 ≤ q_csz a ∧ q_csz a ≤ 100 := by unfold q_csz; split <;> omega
      have hi2 := fun M => y_isIn (d := e) (T := T) (M := M) (F := F) (n := b) (a := 1) (c := q_csz a) (by omega) hb (by omega) (by omega)
      rw [bI_f (by omega)] at hi2
      clear hW W0 O0 hY hw0
      simp (disch := omega) only [x_X8_at_0, x_X8_at_1, x_X8_at_2, x_X8_at_5, x_X8_at_6, x_X8_at_7, x_X8_at_9, x_X8_at_12, x_X8_at_15, x_X8_at_16, x_X8_at_17, x_X8_at_18, x_X8_at_21, x_X8_at_24, x_X8_at_27, x_X8_at_28, x_X8_at_31, x_X8_at_32, x_X8_at_33, x_X8_at_34, x_X8_at_35, x_X8_at_36, x_X8_at_37, x_X8_at_40, x_X8_at_41, x_X8_at_42, x_X8_at_45, List.length_cons, List.length_nil, Nat.reduceLeDiff, Nat.zero_add, iI_add, iI_sub, iI_mul, iI_neg, iI_lt, iI_le, iI_eq, jI_iI, B_True, B_False, B_t, B_f, ck_True, gd_True, cb_v, cb_n, p_mv_rw, p_fv_rw, p_rv_some, pA_1, pA_90, pA_92, pA_3, pA_2, pA_93, pA_4, pA_91, pA_95, pS_i, pW_i, pZ_0, pZ_1, pZ_b, bI_e0, u1_s, u1_n, uA_s, uA_n, true_and, and_true, not_true_eq_false, not_false_eq_true, eq_self, iI_z, al1, al2, al3, al4, al90, al91, al92, al93, al95, Int.cast_ofNat_Int, Nat.reduceAdd, Int.reduceNeg, Int.reduceAdd, Int.reduceSub, Int.reduceMul, Int.reduceLT, Int.reduceLE, Int.reduceGT, Int.reduceGE, Int.reduceEq, Int.reduceNe, Nat.reduceEqDiff, Int.zero_add, Int.add_zero, p_ty0, p_ty1, p_ty2, p_ty3, p_ty4, p_ty5, p_ty6, p_ty7, p_ty8, p_ty9, p_ty10, p_ty11, t0, hin, hsz, hi2, hno, gd_t, B_t, B_f]
    · rw [bI_f c1] at hin
      clear hW W0 O0 hY hw0
      simp (disch := omega) only [x_X8_at_0, x_X8_at_1, x_X8_at_2, x_X8_at_5, x_X8_at_6, x_X8_at_7, x_X8_at_9, x_X8_at_12, x_X8_at_15, x_X8_at_16, x_X8_at_17, x_X8_at_18, x_X8_at_21, x_X8_at_24, x_X8_at_27, x_X8_at_28, x_X8_at_31, x_X8_at_32, x_X8_at_33, x_X8_at_34, x_X8_at_35, x_X8_at_36, x_X8_at_37, x_X8_at_40, x_X8_at_41, x_X8_at_42, x_X8_at_45, List.length_cons, List.length_nil, Nat.reduceLeDiff, Nat.zero_add, iI_add, iI_sub, iI_mul, iI_neg, iI_lt, iI_le, iI_eq, jI_iI, B_True, B_False, B_t, B_f, ck_True, gd_True, cb_v, cb_n, p_mv_rw, p_fv_rw, p_rv_some, pA_1, pA_90, pA_92, pA_3, pA_2, pA_93, pA_4, pA_91, pA_95, pS_i, pW_i, pZ_0, pZ_1, pZ_b, bI_e0, u1_s, u1_n, uA_s, uA_n, true_and, and_true, not_true_eq_false, not_false_eq_true, eq_self, iI_z, al1, al2, al3, al4, al90, al91, al92, al93, al95, Int.cast_ofNat_Int, Nat.reduceAdd, Int.reduceNeg, Int.reduceAdd, Int.reduceSub, Int.reduceMul, Int.reduceLT, Int.reduceLE, Int.reduceGT, Int.reduceGE, Int.reduceEq, Int.reduceNe, Nat.reduceEqDiff, Int.zero_add, Int.add_zero, p_ty0, p_ty1, p_ty2, p_ty3, p_ty4, p_ty5, p_ty6, p_ty7, p_ty8, p_ty9, p_ty10, p_ty11, t0, hin, hno, gd_t, B_t, B_f]
theorem nm_N : ∀ k : Nat, k < 91 → (0 ≤ gx (k : Int) + 5 ∧ gx (k : Int) + 5 < 11) ∧ 100 * (q_pl (k : Int) / 17 - 8 + 5) + (q_pl (k : Int) % 17 - 8) - q_low (q_pl (k : Int) / 17 - 8 + 5) + 1 = 100 * (gx (k : Int) + 5) + (k : Int) - p_roM 1 (gx (k : Int) + 5) + 1 := by decide +kernel
theorem nm_eq (hk : 0 ≤ k ∧ k < 91) : (0 ≤ gx k + 5 ∧ gx k + 5 < 11) ∧ 100 * (q_pl k / 17 - 8 + 5) + (q_pl k % 17 - 8) - q_low (q_pl k / 17 - 8 + 5) + 1 = 100 * (gx k + 5) + k - p_roM 1 (gx k + 5) + 1 := by
  have h := nm_N k.toNat (by omega)
  rwa [Int.toNat_of_nonneg hk.1] at h
theorem y_name (hW : MW T M F bd lg N S ea bs z) (hc0 : -2147483648 ≤ c ∧ c < 2147483648) : (0 ≤ c ∧ c < 91 → YRet bd N T M F m_X8_name [.ref 127, .int (iI c)] 10 (.int (iI (100 * (q_pl c / 17 - 8 + 5) + (q_pl c % 17 - 8) - q_low (q_pl c / 17 - 8 + 5) + 1))) 0 S ea bs z) ∧ (¬ (0 ≤ c ∧ c < 91) → YRet bd N T M F m_X8_name [.ref 127, .int (iI c)] 10 (.int (iI 0)) 1 S ea bs z) := by
  have hY := hW.1.1
  have t0 := hY.1
  obtain ⟨W0, z0, O0⟩ := hW.wz 0
  have hic := fun e (he : 9 ≤ e) => fun M => y_isCell (d := e) (T := T) (M := M) (F := F) (n := c) (by omega) hc0
  refine ⟨fun hc => ?_, fun hn => YRet.no hW (fun d hd => ?_)⟩
  · obtain ⟨n1, n2⟩ := nm_eq hc
    rw [n2]
    refine ⟨T, w0 M 0, F, lg, N, fun d hd => ?_, W0, z0, O0⟩
    refine callD_go 9 hd rfl (fun e he => ?_)
    show R e m_X8_name 0 [.val (.ref 127), .val (.int (iI c)), .unset] [] T M F = _
    have hic := hic e he
    rw [bI_t (by omega)] at hic
    have a1 := hW.2.1.1.1 c hc.1 hc.2
    have a2 := hW.2.1.1.2.2.1 (gx c + 5) n1.1 n1.2
    obtain ⟨ty127, ty128, fy1, ty129, fy4, ty130, fy5, ty131, fy6, ty132, fy7, ty133, fy8, ty136, fy15, ty137, fy16, ty138, fy17, ty139, fy18, ty140, fy19, ty141, fy20, ty142, fy21, ty143, fy22, hbd, tybd, fy9, hlg, tylg, fy13, hN⟩ := hY
    unfold w0
    clear hW W0 O0 n2
    simp (disch := omega) only [x_X8_name_0, x_X8_name_1, x_X8_name_2, x_X8_name_5, x_X8_name_6, x_X8_name_9, x_X8_name_12, x_X8_name_13, x_X8_name_14, x_X8_name_17, x_X8_name_18, x_X8_name_19, x_X8_name_22, x_X8_name_23, x_X8_name_24, x_X8_name_25, x_X8_name_26, x_X8_name_27, x_X8_name_29, x_X8_name_30, x_X8_name_31, x_X8_name_32, x_X8_name_33, x_X8_name_34, x_X8_name_37, x_X8_name_38, x_X8_name_39, x_X8_name_40, x_X8_name_41, x_X8_name_42, List.length_cons, List.length_nil, Nat.reduceLeDiff, Nat.zero_add, iI_add, iI_sub, iI_mul, iI_neg, iI_lt, iI_le, iI_eq, jI_iI, B_True, B_False, B_t, B_f, ck_True, gd_True, cb_v, cb_n, p_mv_rw, p_fv_rw, p_rv_some, pA_1, pA_90, pA_92, pA_3, pA_2, pA_93, pA_4, pA_91, pA_95, pS_i, pW_i, pZ_0, pZ_1, pZ_b, bI_e0, u1_s, u1_n, uA_s, uA_n, true_and, and_true, not_true_eq_false, not_false_eq_true, eq_self, iI_z, al1, al2, al3, al4, al90, al91, al92, al93, al95, Int.cast_ofNat_Int, Nat.reduceAdd, Int.reduceNeg, Int.reduceAdd, Int.reduceSub, Int.reduceMul, Int.reduceLT, Int.reduceLE, Int.reduceGT, Int.reduceGE, Int.reduceEq, Int.reduceNe, Nat.reduceEqDiff, Int.zero_add, Int.add_zero, p_ty0, p_ty1, p_ty2, p_ty3, p_ty4, p_ty5, p_ty6, p_ty7, p_ty8, p_ty9, p_ty10, p_ty11, ty127, ty128, fy1, ty129, fy4, ty130, fy5, ty131, fy6, ty132, fy7, ty133, fy8, ty136, fy15, ty137, fy16, ty138, fy17, ty139, fy18, ty140, fy19, ty141, fy20, ty142, fy21, ty143, fy22, tybd, fy9, tylg, fy13, hic, a1, a2, gd_t, B_t, B_f]
  · refine callD_go 9 hd rfl (fun e he => ?_)
    show R e m_X8_name 0 [.val (.ref 127), .val (.int (iI c)), .unset] [] T M F = _
    have hic := hic e he
    rw [bI_f (by omega)] at hic
    have hno := y_no (d := e) (M := w0 M 0) (x := 1) hY (by omega) (by omega)
    rw [w0_w0] at hno
    unfold w0 at hno ⊢
    clear hW W0 O0 hY
    simp (disch := omega) only [x_X8_name_0, x_X8_name_1, x_X8_name_2, x_X8_name_5, x_X8_name_6, x_X8_name_9, x_X8_name_12, x_X8_name_13, x_X8_name_14, x_X8_name_17, x_X8_name_18, x_X8_name_19, x_X8_name_22, x_X8_name_23, x_X8_name_24, x_X8_name_25, x_X8_name_26, x_X8_name_27, x_X8_name_29, x_X8_name_30, x_X8_name_31, x_X8_name_32, x_X8_name_33, x_X8_name_34, x_X8_name_37, x_X8_name_38, x_X8_name_39, x_X8_name_40, x_X8_name_41, x_X8_name_42, List.length_cons, List.length_nil, Nat.reduceLeDiff, Nat.zero_add, iI_add, iI_sub, iI_mul, iI_neg, iI_lt, iI_le, iI_eq, jI_iI, B_True, B_False, B_t, B_f, ck_True, gd_True, cb_v, cb_n, p_mv_rw, p_fv_rw, p_rv_some, pA_1, pA_90, pA_92, pA_3, pA_2, pA_93, pA_4, pA_91, pA_95, pS_i, pW_i, pZ_0, pZ_1, pZ_b, bI_e0, u1_s, u1_n, uA_s, uA_n, true_and, and_true, not_true_eq_false, not_false_eq_true, eq_self, iI_z, al1, al2, al3, al4, al90, al91, al92, al93, al95, Int.cast_ofNat_Int, Nat.reduceAdd, Int.reduceNeg, Int.reduceAdd, Int.reduceSub, Int.reduceMul, Int.reduceLT, Int.reduceLE, Int.reduceGT, Int.reduceGE, Int.reduceEq, Int.reduceNe, Nat.reduceEqDiff, Int.zero_add, Int.add_zero, p_ty0, p_ty1, p_ty2, p_ty3, p_ty4, p_ty5, p_ty6, p_ty7, p_ty8, p_ty9, p_ty10, p_ty11, t0, hic, hno, gd_t, B_t, B_f]
theorem y_legal (hW : MW T M F bd lg N S ea bs z) (hP : SPx S) (hH : S.2.2.2.2.length < 614) (ha0 : -2147483648 ≤ a ∧ a < 2147483648) (hb0 : -2147483648 ≤ b ∧ b < 2147483648) : (0 ≤ a ∧ a < 91 → 0 ≤ b ∧ b < 91 → YRet bd N T M F m_X8_legal [.ref 127, .int (iI a), .int (iI b)] 10 (.int (iI (bI (91 * a + b ∈ lgQ S.1 S.2.1 S.2.2.1 S.2.2.2.1)))) 0 S ea bs z) ∧ (¬ ((0 ≤ a ∧ a < 91) ∧ 0 ≤ b ∧ b < 91) → YRet bd N T M F m_X8_legal [.ref 127, .int (iI a), .int (iI b)] 10 (.int (iI 0)) 1 S ea bs z) := by
  have hY := hW.1.1
  have t0 := hY.1
  have hica := fun e (he : 9 ≤ e) => fun M => y_isCell (d := e) (T := T) (M := M) (F := F) (n := a) (by omega) ha0
  have hicb := fun e (he : 9 ≤ e) => fun M => y_isCell (d := e) (T := T) (M := M) (F := F) (n := b) (by omega) hb0
  have hD := hW.1.2.1
  refine ⟨fun ha hb => ?_, fun hn => YRet.no hW (fun d hd => ?_)⟩
  · obtain ⟨W0, z0, O0⟩ := hW.wz 0
    obtain ⟨T1, M1, F1, lg1, N1, r, r1, hr, hiff, R1⟩ := y_placeOf (k := 91 * a + b) W0.1 W0.2.1 hP.1 hH (by omega)
    obtain ⟨W1, f0, O1⟩ := W0.yr R1 (XL.y hD (Or.inl rfl))
    refine ⟨T1, M1, F1, lg1, N1, fun d hd => ?_, W1, f0.trans z0, O0.tr O1⟩
    refine callD_go 9 hd rfl (fun e he => ?_)
    show R e m_X8_legal 0 [.val (.ref 127), .val (.int (iI a)), .val (.int (iI b))] [] T M F = _
    have r1 := r1 e (by omega)
    have hica := hica e he
    have hicb := hicb e he
    rw [bI_t (by omega)] at hica hicb
    unfold w0 at r1
    by_cases c : 91 * a + b ∈ lgQ S.1 S.2.1 S.2.2.1 S.2.2.2.1
    · rw [bI_t c]
      have c2 := hiff.mpr c
      clear hW W0 O0 hY hP W1 O1 R1 hiff c
      simp (disch := omega) only [x_X8_legal_0, x_X8_legal_1, x_X8_legal_2, x_X8_legal_5, x_X8_legal_8, x_X8_legal_9, x_X8_legal_12, x_X8_legal_15, x_X8_legal_16, x_X8_legal_19, x_X8_legal_20, x_X8_legal_23, x_X8_legal_24, x_X8_legal_27, x_X8_legal_30, x_X8_legal_31, x_X8_legal_33, x_X8_legal_34, x_X8_legal_35, x_X8_legal_36, x_X8_legal_37, x_X8_legal_40, x_X8_legal_41, x_X8_legal_44, x_X8_legal_45, x_X8_legal_48, x_X8_legal_49, List.length_cons, List.length_nil, Nat.reduceLeDiff, Nat.zero_add, iI_add, iI_sub, iI_mul, iI_neg, iI_lt, iI_le, iI_eq, jI_iI, B_True, B_False, B_t, B_f, ck_True, gd_True, cb_v, cb_n, p_mv_rw, p_fv_rw, p_rv_some, pA_1, pA_90, pA_92, pA_3, pA_2, pA_93, pA_4, pA_91, pA_95, pS_i, pW_i, pZ_0, pZ_1, pZ_b, bI_e0, u1_s, u1_n, uA_s, uA_n, true_and, and_true, not_true_eq_false, not_false_eq_true, eq_self, iI_z, al1, al2, al3, al4, al90, al91, al92, al93, al95, Int.cast_ofNat_Int, Nat.reduceAdd, Int.reduceNeg, Int.reduceAdd, Int.reduceSub, Int.reduceMul, Int.reduceLT, Int.reduceLE, Int.reduceGT, Int.reduceGE, Int.reduceEq, Int.reduceNe, Nat.reduceEqDiff, Int.zero_add, Int.add_zero, p_ty0, p_ty1, p_ty2, p_ty3, p_ty4, p_ty5, p_ty6, p_ty7, p_ty8, p_ty9, p_ty10, p_ty11, t0, hica, hicb, r1, gd_t, B_t, B_f]
    · rw [bI_f c]
      have c2 : r = -1 := Classical.byContradiction (fun z => c (hiff.mp z))
      rw [c2] at r1
      clear hW W0 O0 hY hP W1 O1 R1 hiff c
      simp (disch := omega) only [x_X8_legal_0, x_X8_legal_1, x_X8_legal_2, x_X8_legal_5, x_X8_legal_8, x_X8_legal_9, x_X8_legal_12, x_X8_legal_15, x_X8_legal_16, x_X8_legal_19, x_X8_legal_20, x_X8_legal_23, x_X8_legal_24, x_X8_legal_27, x_X8_legal_30, x_X8_legal_31, x_X8_legal_33, x_X8_legal_34, x_X8_legal_35, x_X8_legal_36, x_X8_legal_37, x_X8_legal_40, x_X8_legal_41, x_X8_legal_44, x_X8_legal_45, x_X8_legal_48, x_X8_legal_49, List.length_cons, List.length_nil, Nat.reduceLeDiff, Nat.zero_add, iI_add, iI_sub, iI_mul, iI_neg, iI_lt, iI_le, iI_eq, jI_iI, B_True, B_False, B_t, B_f, ck_True, gd_True, cb_v, cb_n, p_mv_rw, p_fv_rw, p_rv_some, pA_1, pA_90, pA_92, pA_3, pA_2, pA_93, pA_4, pA_91, pA_95, pS_i, pW_i, pZ_0, pZ_1, pZ_b, bI_e0, u1_s, u1_n, uA_s, uA_n, true_and, and_true, not_true_eq_false, not_false_eq_true, eq_self, iI_z, al1, al2, al3, al4, al90, al91, al92, al93, al95, Int.cast_ofNat_Int, Nat.reduceAdd, Int.reduceNeg, Int.reduceAdd, Int.reduceSub, Int.reduceMul, Int.reduceLT, Int.reduceLE, Int.reduceGT, Int.reduceGE, Int.reduceEq, Int.reduceNe, Nat.reduceEqDiff, Int.zero_add, Int.add_zero, p_ty0, p_ty1, p_ty2, p_ty3, p_ty4, p_ty5, p_ty6, p_ty7, p_ty8, p_ty9, p_ty10, p_ty11, t0, hica, hicb, r1, gd_t, B_t, B_f]
  · refine callD_go 9 hd rfl (fun e he => ?_)
    show R e m_X8_legal 0 [.val (.ref 127), .val (.int (iI a)), .val (.int (iI b))] [] T M F = _
    have hica := hica e he
    have hicb := hicb e he
    unfold w0
    clear hW hY hP
    by_cases c1 : 0 ≤ a ∧ a ≤ 90
    · rw [bI_t c1] at hica
      rw [bI_f (by omega)] at hicb
      simp (disch := omega) only [x_X8_legal_0, x_X8_legal_1, x_X8_legal_2, x_X8_legal_5, x_X8_legal_8, x_X8_legal_9, x_X8_legal_12, x_X8_legal_15, x_X8_legal_16, x_X8_legal_19, x_X8_legal_20, x_X8_legal_23, x_X8_legal_24, x_X8_legal_27, x_X8_legal_30, x_X8_legal_31, x_X8_legal_33, x_X8_legal_34, x_X8_legal_35, x_X8_legal_36, x_X8_legal_37, x_X8_legal_40, x_X8_legal_41, x_X8_legal_44, x_X8_legal_45, x_X8_legal_48, x_X8_legal_49, List.length_cons, List.length_nil, Nat.reduceLeDiff, Nat.zero_add, iI_add, iI_sub, iI_mul, iI_neg, iI_lt, iI_le, iI_eq, jI_iI, B_True, B_False, B_t, B_f, ck_True, gd_True, cb_v, cb_n, p_mv_rw, p_fv_rw, p_rv_some, pA_1, pA_90, pA_92, pA_3, pA_2, pA_93, pA_4, pA_91, pA_95, pS_i, pW_i, pZ_0, pZ_1, pZ_b, bI_e0, u1_s, u1_n, uA_s, uA_n, true_and, and_true, not_true_eq_false, not_false_eq_true, eq_self, iI_z, al1, al2, al3, al4, al90, al91, al92, al93, al95, Int.cast_ofNat_Int, Nat.reduceAdd, Int.reduceNeg, Int.reduceAdd, Int.reduceSub, Int.reduceMul, Int.reduceLT, Int.reduceLE, Int.reduceGT, Int.reduceGE, Int.reduceEq, Int.reduceNe, Nat.reduceEqDiff, Int.zero_add, Int.add_zero, p_ty0, p_ty1, p_ty2, p_ty3, p_ty4, p_ty5, p_ty6, p_ty7, p_ty8, p_ty9, p_ty10, p_ty11, t0, hica, hicb, gd_t, B_t, B_f]
    · rw [bI_f c1] at hica
      simp (disch := omega) only [x_X8_legal_0, x_X8_legal_1, x_X8_legal_2, x_X8_legal_5, x_X8_legal_8, x_X8_legal_9, x_X8_legal_12, x_X8_legal_15, x_X8_legal_16, x_X8_legal_19, x_X8_legal_20, x_X8_legal_23, x_X8_legal_24, x_X8_legal_27, x_X8_legal_30, x_X8_legal_31, x_X8_legal_33, x_X8_legal_34, x_X8_legal_35, x_X8_legal_36, x_X8_legal_37, x_X8_legal_40, x_X8_legal_41, x_X8_legal_44, x_X8_legal_45, x_X8_legal_48, x_X8_legal_49, List.length_cons, List.length_nil, Nat.reduceLeDiff, Nat.zero_add, iI_add, iI_sub, iI_mul, iI_neg, iI_lt, iI_le, iI_eq, jI_iI, B_True, B_False, B_t, B_f, ck_True, gd_True, cb_v, cb_n, p_mv_rw, p_fv_rw, p_rv_some, pA_1, pA_90, pA_92, pA_3, pA_2, pA_93, pA_4, pA_91, pA_95, pS_i, pW_i, pZ_0, pZ_1, pZ_b, bI_e0, u1_s, u1_n, uA_s, uA_n, true_and, and_true, not_true_eq_false, not_false_eq_true, eq_self, iI_z, al1, al2, al3, al4, al90, al91, al92, al93, al95, Int.cast_ofNat_Int, Nat.reduceAdd, Int.reduceNeg, Int.reduceAdd, Int.reduceSub, Int.reduceMul, Int.reduceLT, Int.reduceLE, Int.reduceGT, Int.reduceGE, Int.reduceEq, Int.reduceNe, Nat.reduceEqDiff, Int.zero_add, Int.add_zero, p_ty0, p_ty1, p_ty2, p_ty3, p_ty4, p_ty5, p_ty6, p_ty7, p_ty8, p_ty9, p_ty10, p_ty11, t0, hica, gd_t, B_t, B_f]
theorem y_nth (hW : MW T M F bd lg N S ea bs z) (hP : SPx S) (hH : S.2.2.2.2.length < 614) (hn0 : -2147483648 ≤ n ∧ n < 2147483648) : (0 ≤ n ∧ n < ((lgQ S.1 S.2.1 S.2.2.1 S.2.2.2.1).length : Int) → YRet bd N T M F m_X8_nth [.ref 127, .int (iI n)] 10 (.int (iI ((lgQ S.1 S.2.1 S.2.2.1 S.2.2.2.1).getD n.toNat 0))) 0 S ea bs z) ∧ (¬ (0 ≤ n ∧ n < ((lgQ S.1 S.2.1 S.2.2.1 S.2.2.2.1).length : Int)) → YRet bd N T M F m_X8_nth [.ref 127, .int (iI n)] 10 (.int (iI 0)) 1 S ea bs z) := by
  have hY := hW.1.1
  have hD := hW.1.2.1
  obtain ⟨W0, z0, O0⟩ := hW.wz 0
  obtain ⟨T1, M1, F1, lg1, N1, r1, L1, -, R1⟩ := y_list (io := 137) (Or.inl rfl) W0.1 W0.2.1 hP.1 hH
  obtain ⟨W1, f0, O1⟩ := W0.yr R1 (XL.y hD (Or.inl rfl))
  have hl := lgQ_le hP.1
  have ty1 := W1.1.1
  obtain ⟨v127, -, -, -, -, -, -, -, -, -, -, -, -, -, -, v137, w16, -⟩ := hY
  have hin := fun e (he : 9 ≤ e) => y_isIn (d := e) (T := T1) (M := M1) (F := F1) (n := n) (a := 0) (c := ((lgQ S.1 S.2.1 S.2.2.1 S.2.2.2.1).length : Int) - 1) (by omega) hn0 (by omega) (by omega)
  refine ⟨fun hn => ?_, fun hn => ?_⟩
  · refine ⟨T1, M1, F1, lg1, N1, fun d hd => ?_, W1, f0.trans z0, O0.tr O1⟩
    refine callD_go 9 hd rfl (fun e he => ?_)
    show R e m_X8_nth 0 [.val (.ref 127), .val (.int (iI n))] [] T M F = _
    have r1 := r1 e (by omega)
    have hin := hin e he
    rw [bI_t (by omega)] at hin
    have hx := L1 n.toNat (by omega)
    rw [Int.toNat_of_nonneg hn.1] at hx
    unfold w0 at r1
    obtain ⟨ty127, ty128, fy1, ty129, fy4, ty130, fy5, ty131, fy6, ty132, fy7, ty133, fy8, ty136, fy15, ty137, fy16, ty138, fy17, ty139, fy18, ty140, fy19, ty141, fy20, ty142, fy21, ty143, fy22, hbd, tybd, fy9, hlg, tylg, fy13, hN⟩ := ty1
    clear hW W0 O0 hP W1 O1 R1 L1
    simp (disch := omega) only [x_X8_nth_0, x_X8_nth_1, x_X8_nth_2, x_X8_nth_5, x_X8_nth_6, x_X8_nth_7, x_X8_nth_8, x_X8_nth_9, x_X8_nth_12, x_X8_nth_15, x_X8_nth_16, x_X8_nth_17, x_X8_nth_20, x_X8_nth_23, x_X8_nth_24, x_X8_nth_27, x_X8_nth_28, x_X8_nth_29, x_X8_nth_32, x_X8_nth_33, x_X8_nth_34, x_X8_nth_37, List.length_cons, List.length_nil, Nat.reduceLeDiff, Nat.zero_add, iI_add, iI_sub, iI_mul, iI_neg, iI_lt, iI_le, iI_eq, jI_iI, B_True, B_False, B_t, B_f, ck_True, gd_True, cb_v, cb_n, p_mv_rw, p_fv_rw, p_rv_some, pA_1, pA_90, pA_92, pA_3, pA_2, pA_93, pA_4, pA_91, pA_95, pS_i, pW_i, pZ_0, pZ_1, pZ_b, bI_e0, u1_s, u1_n, uA_s, uA_n, true_and, and_true, not_true_eq_false, not_false_eq_true, eq_self, iI_z, al1, al2, al3, al4, al90, al91, al92, al93, al95, Int.cast_ofNat_Int, Nat.reduceAdd, Int.reduceNeg, Int.reduceAdd, Int.reduceSub, Int.reduceMul, Int.reduceLT, Int.reduceLE, Int.reduceGT, Int.reduceGE, Int.reduceEq, Int.reduceNe, Nat.reduceEqDiff, Int.zero_add, Int.add_zero, p_ty0, p_ty1, p_ty2, p_ty3, p_ty4, p_ty5, p_ty6, p_ty7, p_ty8, p_ty9, p_ty10, p_ty11, ty127, ty128, fy1, ty129, fy4, ty130, fy5, ty131, fy6, ty132, fy7, ty133, fy8, ty136, fy15, ty137, fy16, ty138, fy17, ty139, fy18, ty140, fy19, ty141, fy20, ty142, fy21, ty143, fy22, tybd, fy9, tylg, fy13, v127, v137, w16, r1, hin, hx, gd_t, B_t, B_f]
  · obtain ⟨W2, z2, O2⟩ := W1.wz 1
    refine ⟨T1, w0 M1 1, F1, lg1, N1, fun d hd => ?_, W2, z2, (O0.tr O1).tr O2⟩
    refine callD_go 9 hd rfl (fun e he => ?_)
    show R e m_X8_nth 0 [.val (.ref 127), .val (.int (iI n))] [] T M F = _
    have r1 := r1 e (by omega)
    have hin := hin e he
    rw [bI_f (by omega)] at hin
    have hno := y_no (d := e) (M := M1) (x := 1) ty1 (by omega) (by omega)
    unfold w0 at r1
    have t1 := ty1.1
    clear hW W0 O0 hP W1 O1 R1 L1 ty1 W2 O2
    simp (disch := omega) only [x_X8_nth_0, x_X8_nth_1, x_X8_nth_2, x_X8_nth_5, x_X8_nth_6, x_X8_nth_7, x_X8_nth_8, x_X8_nth_9, x_X8_nth_12, x_X8_nth_15, x_X8_nth_16, x_X8_nth_17, x_X8_nth_20, x_X8_nth_23, x_X8_nth_24, x_X8_nth_27, x_X8_nth_28, x_X8_nth_29, x_X8_nth_32, x_X8_nth_33, x_X8_nth_34, x_X8_nth_37, List.length_cons, List.length_nil, Nat.reduceLeDiff, Nat.zero_add, iI_add, iI_sub, iI_mul, iI_neg, iI_lt, iI_le, iI_eq, jI_iI, B_True, B_False, B_t, B_f, ck_True, gd_True, cb_v, cb_n, p_mv_rw, p_fv_rw, p_rv_some, pA_1, pA_90, pA_92, pA_3, pA_2, pA_93, pA_4, pA_91, pA_95, pS_i, pW_i, pZ_0, pZ_1, pZ_b, bI_e0, u1_s, u1_n, uA_s, uA_n, true_and, and_true, not_true_eq_false, not_false_eq_true, eq_self, iI_z, al1, al2, al3, al4, al90, al91, al92, al93, al95, Int.cast_ofNat_Int, Nat.reduceAdd, Int.reduceNeg, Int.reduceAdd, Int.reduceSub, Int.reduceMul, Int.reduceLT, Int.reduceLE, Int.reduceGT, Int.reduceGE, Int.reduceEq, Int.reduceNe, Nat.reduceEqDiff, Int.zero_add, Int.add_zero, p_ty0, p_ty1, p_ty2, p_ty3, p_ty4, p_ty5, p_ty6, p_ty7, p_ty8, p_ty9, p_ty10, p_ty11, v127, t1, v137, w16, r1, hin, hno, gd_t, B_t, B_f]
end PYOQ
