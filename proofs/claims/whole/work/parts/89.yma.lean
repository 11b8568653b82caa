section PYMA
variable {d bd lg N lg1 N1 : Nat} {T T1 : pT} {M M0 M1 M2 : pM} {F F1 : pF} {bb v w bs : Int → Int} {t pas q its to as p n i c s x k a b z acc ea best most : Int} {H : List HE} {A L : List Int} {io : Nat} {S S1 : GSx}
theorem y_lines (hW : MW T M F bd lg N S ea bs z) (hP : SPx S) (hH : S.2.2.2.2.length < 613) (hn0 : -2147483648 ≤ n ∧ n < 2147483648) : (n = 1 ∨ n = 2 → YRet bd N T M F m_X8_lines [.ref 127, .int (iI n)] 10 (.int (iI (z_lin S n))) 0 S ea bs z) ∧ (¬ (n = 1 ∨ n = 2) → YRet bd N T M F m_X8_lines [.ref 127, .int (iI n)] 10 (.int (iI 0)) 1 S ea bs z) := by
  have hY := hW.1.1
  have hD := hW.1.2.1
  have t0 := hY.1
  have hin := fun e (he : 9 ≤ e) => fun M => y_isIn (d := e) (T := T) (M := M) (F := F) (n := n) (a := 1) (c := 2) (by omega) hn0 (by omega) (by omega)
  refine ⟨fun hn => ?_, fun hn => YRet.no hW (fun d hd => ?_)⟩
  · obtain ⟨W0, z0, O0⟩ := hW.wz 0
    obtain ⟨T1, M1, F1, lg1, N1, r1, L1, -, R1⟩ := y_list (io := 137) (Or.inl rfl) W0.1 W0.2.1 hP.1 (by omega)
    obtain ⟨W1, f1, O1⟩ := W0.yr R1 (XL.y hD (Or.inl rfl))
    have hl := lgQ_le hP.1
    obtain ⟨v127, -, -, -, -, -, -, -, -, -, -, -, -, -, -, v137, w16, -⟩ := hY
    by_cases c : n = 2
    · subst c
      by_cases cq : 60 ≤ S.2.2.2.1
      · have hq : lgQ S.1 S.2.1 S.2.2.1 S.2.2.2.1 = [] := if_pos cq
        rw [hq] at r1 hl
        refine ⟨T1, M1, F1, lg1, N1, fun d hd => ?_, W1, f1.trans z0, O0.tr O1⟩
        refine callD_go 9 hd rfl (fun e he => ?_)
        show R e m_X8_lines 0 [.val (.ref 127), .val (.int (iI 2)), .unset, .unset, .unset] [] T M F = _
        have r1 := r1 e (by omega)
        have hin := hin e he
        rw [bI_t (by omega)] at hin
        unfold w0 at r1
        rw [show z_lin S 2 = rpl S.1 S.2.1 S.2.2.1 S.2.2.2.1 (lgQ S.1 S.2.1 S.2.2.1 S.2.2.2.1) from rfl, hq, rpl]
        rw [show ((([] : List Int).length : Nat) : Int) = 0 from rfl] at r1
        clear hW W0 O0 hP W1 O1 R1 L1 hq
        simp (disch := omega) only [x_X8_lines_0, x_X8_lines_1, x_X8_lines_2, x_X8_lines_5, x_X8_lines_6, x_X8_lines_7, x_X8_lines_8, x_X8_lines_11, x_X8_lines_14, x_X8_lines_15, x_X8_lines_16, x_X8_lines_19, x_X8_lines_20, x_X8_lines_21, x_X8_lines_22, x_X8_lines_25, x_X8_lines_28, x_X8_lines_29, x_X8_lines_30, x_X8_lines_31, x_X8_lines_32, x_X8_lines_34, x_X8_lines_36, x_X8_lines_37, x_X8_lines_40, x_X8_lines_41, x_X8_lines_42, x_X8_lines_45, x_X8_lines_46, x_X8_lines_47, x_X8_lines_50, x_X8_lines_52, x_X8_lines_53, x_X8_lines_55, x_X8_lines_56, x_X8_lines_57, x_X8_lines_60, x_X8_lines_62, x_X8_lines_63, x_X8_lines_65, x_X8_lines_66, x_X8_lines_67, x_X8_lines_70, x_X8_lines_71, x_X8_lines_72, x_X8_lines_73, x_X8_lines_74, x_X8_lines_77, x_X8_lines_80, x_X8_lines_81, x_X8_lines_82, x_X8_lines_83, x_X8_lines_86, x_X8_lines_89, x_X8_lines_92, x_X8_lines_93, x_X8_lines_94, x_X8_lines_97, x_X8_lines_98, x_X8_lines_101, x_X8_lines_102, List.length_cons, List.length_nil, Nat.reduceLeDiff, Nat.zero_add, iI_add, iI_sub, iI_mul, iI_neg, iI_lt, iI_le, iI_eq, jI_iI, B_True, B_False, B_t, B_f, ck_True, gd_True, cb_v, cb_n, p_mv_rw, p_fv_rw, p_rv_some, pA_1, pA_90, pA_92, pA_3, pA_2, pA_93, pA_4, pA_91, pA_95, pS_i, pW_i, pZ_0, pZ_1, pZ_b, bI_e0, u1_s, u1_n, uA_s, uA_n, true_and, and_true, not_true_eq_false, not_false_eq_true, eq_self, iI_z, al1, al2, al3, al4, al90, al91, al92, al93, al95, Int.cast_ofNat_Int, Nat.reduceAdd, Int.reduceNeg, Int.reduceAdd, Int.reduceSub, Int.reduceMul, Int.reduceLT, Int.reduceLE, Int.reduceGT, Int.reduceGE, Int.reduceEq, Int.reduceNe, Nat.reduceEqDiff, Int.zero_add, Int.add_zero, p_ty0, p_ty1, p_ty2, p_ty3, p_ty4, p_ty5, p_ty6, p_ty7, p_ty8, p_ty9, p_ty10, p_ty11, v127, v137, w16, hin, r1, gd_t, B_t, B_f]
      · have hq : lgQ S.1 S.2.1 S.2.2.1 S.2.2.2.1 = lgA S.1 S.2.1 S.2.2.1 := if_neg cq
        rw [hq] at r1 hl L1
        obtain ⟨T2, M2, F2, lg2, N2, r2, R2⟩ := li_loop hP.1 (by omega) hH (lgA S.1 S.2.1 S.2.2.1) [] 0 T1 M1 F1 lg1 N1 (List.nil_append _) (by rw [List.length_nil]; omega) W1.1 W1.2.1 L1
        obtain ⟨W2, f2, O2⟩ := W1.yr R2 (XA.xx W1.1.2.1)
        refine ⟨T2, M2, F2, lg2, N2, fun d hd => ?_, W2, f2.trans (f1.trans z0), (O0.tr O1).tr O2⟩
        refine callD_go 9 hd rfl (fun e he => ?_)
        show R e m_X8_lines 0 [.val (.ref 127), .val (.int (iI 2)), .unset, .unset, .unset] [] T M F = _
        have r1 := r1 e (by omega)
        have r2 := r2 e (by omega)
        have hin := hin e he
        rw [bI_t (by omega)] at hin
        unfold w0 at r1
        rw [show z_lin S 2 = rpl S.1 S.2.1 S.2.2.1 S.2.2.2.1 (lgQ S.1 S.2.1 S.2.2.1 S.2.2.2.1) from rfl, hq]
        rw [Int.zero_add, List.length_nil, Int.natCast_zero] at r2
        clear hW W0 O0 hP W1 O1 R1 L1 hq W2 O2 R2
        simp (disch := omega) only [x_X8_lines_0, x_X8_lines_1, x_X8_lines_2, x_X8_lines_5, x_X8_lines_6, x_X8_lines_7, x_X8_lines_8, x_X8_lines_11, x_X8_lines_14, x_X8_lines_15, x_X8_lines_16, x_X8_lines_19, x_X8_lines_20, x_X8_lines_21, x_X8_lines_22, x_X8_lines_25, x_X8_lines_28, x_X8_lines_29, x_X8_lines_30, x_X8_lines_31, x_X8_lines_32, List.length_cons, List.length_nil, Nat.reduceLeDiff, Nat.zero_add, iI_add, iI_sub, iI_mul, iI_neg, iI_lt, iI_le, iI_eq, jI_iI, B_True, B_False, B_t, B_f, ck_True, gd_True, cb_v, cb_n, p_mv_rw, p_fv_rw, p_rv_some, pA_1, pA_90, pA_92, pA_3, pA_2, pA_93, pA_4, pA_91, pA_95, pS_i, pW_i, pZ_0, pZ_1, pZ_b, bI_e0, u1_s, u1_n, uA_s, uA_n, true_and, and_true, not_true_eq_false, not_false_eq_true, eq_self, iI_z, al1, al2, al3, al4, al90, al91, al92, al93, al95, Int.cast_ofNat_Int, Nat.reduceAdd, Int.reduceNeg, Int.reduceAdd, Int.reduceSub, Int.reduceMul, Int.reduceLT, Int.reduceLE, Int.reduceGT, Int.reduceGE, Int.reduceEq, Int.reduceNe, Nat.reduceEqDiff, Int.zero_add, Int.add_zero, p_ty0, p_ty1, p_ty2, p_ty3, p_ty4, p_ty5, p_ty6, p_ty7, p_ty8, p_ty9, p_ty10, p_ty11, v127, v137, w16, hin, r1, r2, gd_t, B_t, B_f]
    · obtain rfl : n = 1 := by omega
      refine ⟨T1, M1, F1, lg1, N1, fun d hd => ?_, W1, f1.trans z0, O0.tr O1⟩
      refine callD_go 9 hd rfl (fun e he => ?_)
      show R e m_X8_lines 0 [.val (.ref 127), .val (.int (iI 1)), .unset, .unset, .unset] [] T M F = _
      have r1 := r1 e (by omega)
      have hin := hin e he
      rw [bI_t (by omega)] at hin
      unfold w0 at r1
      rw [show z_lin S 1 = ((lgQ S.1 S.2.1 S.2.2.1 S.2.2.2.1).length : Int) from rfl]
      clear hW W0 O0 hP W1 O1 R1 L1
      by_cases c9 : (lgQ S.1 S.2.1 S.2.2.1 S.2.2.2.1).length = 0
      · rw [c9] at r1 ⊢
        simp (disch := omega) only [x_X8_lines_0, x_X8_lines_1, x_X8_lines_2, x_X8_lines_5, x_X8_lines_6, x_X8_lines_7, x_X8_lines_8, x_X8_lines_11, x_X8_lines_14, x_X8_lines_15, x_X8_lines_16, x_X8_lines_19, x_X8_lines_20, x_X8_lines_21, x_X8_lines_22, x_X8_lines_25, x_X8_lines_28, x_X8_lines_29, x_X8_lines_30, x_X8_lines_31, x_X8_lines_32, x_X8_lines_34, x_X8_lines_36, x_X8_lines_37, x_X8_lines_40, x_X8_lines_41, x_X8_lines_42, x_X8_lines_45, x_X8_lines_46, x_X8_lines_47, x_X8_lines_50, x_X8_lines_52, x_X8_lines_53, x_X8_lines_55, x_X8_lines_56, x_X8_lines_57, x_X8_lines_60, x_X8_lines_62, x_X8_lines_63, x_X8_lines_65, x_X8_lines_66, x_X8_lines_67, x_X8_lines_70, x_X8_lines_71, x_X8_lines_72, x_X8_lines_73, x_X8_lines_74, x_X8_lines_77, x_X8_lines_80, x_X8_lines_81, x_X8_lines_82, x_X8_lines_83, x_X8_lines_86, x_X8_lines_89, x_X8_lines_92, x_X8_lines_93, x_X8_lines_94, x_X8_lines_97, x_X8_lines_98, x_X8_lines_101, x_X8_lines_102, List.length_cons, List.length_nil, Nat.reduceLeDiff, Nat.zero_add, iI_add, iI_sub, iI_mul, iI_neg, iI_lt, iI_le, iI_eq, jI_iI, B_True, B_False, B_t, B_f, ck_True, gd_True, cb_v, cb_n, p_mv_rw, p_fv_rw, p_rv_some, pA_1, pA_90, pA_92, pA_3, pA_2, pA_93, pA_4, pA_91, pA_95, pS_i, pW_i, pZ_0, pZ_1, pZ_b, bI_e0, u1_s, u1_n, uA_s, uA_n, true_and, and_true, not_true_eq_false, not_false_eq_true, eq_self, iI_z, al1, al2, al3, al4, al90, al91, al92, al93, al95, Int.cast_ofNat_Int, Nat.reduceAdd, Int.reduceNeg, Int.reduceAdd, Int.reduceSub, Int.reduceMul, Int.reduceLT, Int.reduceLE, Int.reduceGT, Int.reduceGE, Int.reduceEq, Int.reduceNe, Nat.reduceEqDiff, Int.zero_add, Int.add_zero, p_ty0, p_ty1, p_ty2, p_ty3, p_ty4, p_ty5, p_ty6, p_ty7, p_ty8, p_ty9, p_ty10, p_ty11, v127, v137, w16, hin, r1, gd_t, B_t, B_f]
      · simp (disch := omega) only [x_X8_lines_0, x_X8_lines_1, x_X8_lines_2, x_X8_lines_5, x_X8_lines_6, x_X8_lines_7, x_X8_lines_8, x_X8_lines_11, x_X8_lines_14, x_X8_lines_15, x_X8_lines_16, x_X8_lines_19, x_X8_lines_20, x_X8_lines_21, x_X8_lines_22, x_X8_lines_25, x_X8_lines_28, x_X8_lines_29, x_X8_lines_30, x_X8_lines_31, x_X8_lines_32, x_X8_lines_34, x_X8_lines_36, x_X8_lines_37, x_X8_lines_40, x_X8_lines_41, x_X8_lines_42, x_X8_lines_45, x_X8_lines_46, x_X8_lines_47, x_X8_lines_50, x_X8_lines_52, x_X8_lines_53, x_X8_lines_55, x_X8_lines_56, x_X8_lines_57, x_X8_lines_60, x_X8_lines_62, x_X8_lines_63, x_X8_lines_65, x_X8_lines_66, x_X8_lines_67, x_X8_lines_70, x_X8_lines_71, x_X8_lines_72, x_X8_lines_73, x_X8_lines_74, x_X8_lines_77, x_X8_lines_80, x_X8_lines_81, x_X8_lines_82, x_X8_lines_83, x_X8_lines_86, x_X8_lines_89, x_X8_lines_92, x_X8_lines_93, x_X8_lines_94, x_X8_lines_97, x_X8_lines_98, x_X8_lines_101, x_X8_lines_102, List.length_cons, List.length_nil, Nat.reduceLeDiff, Nat.zero_add, iI_add, iI_sub, iI_mul, iI_neg, iI_lt, iI_le, iI_eq, jI_iI, B_True, B_False, B_t, B_f, ck_True, gd_True, cb_v, cb_n, p_mv_rw, p_fv_rw, p_rv_some, pA_1, pA_90, pA_92, pA_3, pA_2, pA_93, pA_4, pA_91, pA_95, pS_i, pW_i, pZ_0, pZ_1, pZ_b, bI_e0, u1_s, u1_n, uA_s, uA_n, true_and, and_true, not_true_eq_false, not_false_eq_true, eq_self, iI_z, al1, al2, al3, al4, al90, al91, al92, al93, al95, Int.cast_ofNat_Int, Nat.reduceAdd, Int.reduceNeg, Int.reduceAdd, Int.reduceSub, Int.reduceMul, Int.reduceLT, Int.reduceLE, Int.reduceGT, Int.reduceGE, Int.reduceEq, Int.reduceNe, Nat.reduceEqDiff, Int.zero_add, Int.add_zero, p_ty0, p_ty1, p_ty2, p_ty3, p_ty4, p_ty5, p_ty6, p_ty7, p_ty8, p_ty9, p_ty10, p_ty11, v127, v137, w16, hin, r1, gd_t, B_t, B_f]
  · refine callD_go 9 hd rfl (fun e he => ?_)
    show R e m_X8_lines 0 [.val (.ref 127), .val (.int (iI n)), .unset, .unset, .unset] [] T M F = _
    have hin := hin e he
    rw [bI_f (by omega)] at hin
    have hno := y_no (d := e) (M := w0 M 0) (x := 1) hY (by omega) (by omega)
    rw [w0_w0] at hno
    unfold w0 at hno ⊢
    clear hW hY hP
    simp (disch := omega) only [x_X8_lines_0, x_X8_lines_1, x_X8_lines_2, x_X8_lines_5, x_X8_lines_6, x_X8_lines_7, x_X8_lines_8, x_X8_lines_11, x_X8_lines_14, x_X8_lines_15, x_X8_lines_16, x_X8_lines_19, List.length_cons, List.length_nil, Nat.reduceLeDiff, Nat.zero_add, iI_add, iI_sub, iI_mul, iI_neg, iI_lt, iI_le, iI_eq, jI_iI, B_True, B_False, B_t, B_f, ck_True, gd_True, cb_v, cb_n, p_mv_rw, p_fv_rw, p_rv_some, pA_1, pA_90, pA_92, pA_3, pA_2, pA_93, pA_4, pA_91, pA_95, pS_i, pW_i, pZ_0, pZ_1, pZ_b, bI_e0, u1_s, u1_n, uA_s, uA_n, true_and, and_true, not_true_eq_false, not_false_eq_true, eq_self, iI_z, al1, al2, al3, al4, al90, al91, al92, al93, al95, Int.cast_ofNat_Int, Nat.reduceAdd, Int.reduceNeg, Int.reduceAdd, Int.reduceSub, Int.reduceMul, Int.reduceLT, Int.reduceLE, Int.reduceGT, Int.reduceGE, Int.reduceEq, Int.reduceNe, Nat.reduceEqDiff, Int.zero_add, Int.add_zero, p_ty0, p_ty1, p_ty2, p_ty3, p_ty4, p_ty5, p_ty6, p_ty7, p_ty8, p_ty9, p_ty10, p_ty11, t0, hin, hno, gd_t, B_t, B_f]
theorem ma_loop (hP : SP bb t pas q) (hq : q < 60) (hH : H.length < 613) : ∀ (Q P : List Int) (T : pT) (M : pM) (F : pF) (lg N : Nat), P ++ Q = lgA bb t pas → YV T M F bd lg N H → YS M bd bb t pas q → LMy M 137 (lgA bb t pas) →
    ∃ T' M' F' lg' N', (∀ e l3, 7 ≤ e → R e m_X8_mate 16 [.val (.ref 127), .val (.int (iI ((lgA bb t pas).length : Int))), .val (.int (iI (P.length : Int))), l3] [] T M F = some (.inl (some (.int (iI (fmt bb t pas q Q)))), T', M', F')) ∧ YR (XA bd) bd H bb t pas q T M F lg N T' M' F' lg' N' := by
  have hl := hP.len'
  have hq0 := hP.2.2.2.2.2
  intro Q
  induction Q with
  | nil =>
    intro P T M F lg N hP' hV hS hL
    rw [List.append_nil] at hP'
    refine ⟨T, M, F, lg, N, fun e l3 he => ?_, YR.rf hV hS⟩
    rw [fmt, ← hP']
    rw [← hP'] at hl
    clear hV hS hL hP
    simp (disch := omega) only [x_X8_mate_16, x_X8_mate_17, x_X8_mate_18, x_X8_mate_72, x_X8_mate_73, List.length_cons, List.length_nil, Nat.reduceLeDiff, Nat.zero_add, iI_add, iI_sub, iI_mul, iI_neg, iI_lt, iI_le, iI_eq, jI_iI, B_True, B_False, B_t, B_f, ck_True, gd_True, cb_v, cb_n, p_mv_rw, p_fv_rw, p_rv_some, pA_1, pA_90, pA_92, pA_3, pA_2, pA_93, pA_4, pA_91, pA_95, pS_i, pW_i, pZ_0, pZ_1, pZ_b, bI_e0, u1_s, u1_n, uA_s, uA_n, true_and, and_true, not_true_eq_false, not_false_eq_true, eq_self, iI_z, al1, al2, al3, al4, al90, al91, al92, al93, al95, Int.cast_ofNat_Int, Nat.reduceAdd, Int.reduceNeg, Int.reduceAdd, Int.reduceSub, Int.reduceMul, Int.reduceLT, Int.reduceLE, Int.reduceGT, Int.reduceGE, Int.reduceEq, Int.reduceNe, Nat.reduceEqDiff, Int.zero_add, Int.add_zero, p_ty0, p_ty1, p_ty2, p_ty3, p_ty4, p_ty5, p_ty6, p_ty7, p_ty8, p_ty9, p_ty10, p_ty11, B_t, B_f]
  | cons x Q ih =>
    intro P T M F lg N hP' hV hS hL
    have hPl : P.length + 1 + Q.length = (lgA bb t pas).length := by rw [← hP']; simp; omega
    have hm : x ∈ lgA bb t pas := by rw [← hP']; simp
    have hxr := lgA_rg hm
    obtain ⟨hy, hMV, hs⟩ := lg_move hm
    have hx : M 137 (P.length : Int) = x := by rw [hL P.length (by omega), ← hP', getD_mid]
    obtain ⟨T1, M1, F1, lg1, N1, r1, V1, S1, j1, -, C1⟩ := y_make hV hS hP (by omega) hMV (as := 2) (by omega)
    have hP1 := hP.mk hq hMV (as := 2) (by omega)
    obtain ⟨T2, M2, F2, lg2, N2, r2, R2⟩ := y_howItIs V1 S1 hP1 (by rw [List.length_cons]; omega)
    obtain ⟨V2, S2, j2, C2⟩ := R2
    obtain ⟨M3, r3, V3, S3, j3, -, f3⟩ := y_unmake V2 S2 hP.1 hP.2.2.2.1 hP.2.2.2.2.1 (by omega) hMV (by omega)
    have R3 := YR.again V3 S3 j1 C1 j2 C2 j3 f3
    have L3 := hL.keep hV.2.1 V1.2.1 C1 C2 f3
    have hx3 : M3 137 (P.length : Int) = x := by rw [L3 P.length (by omega), ← hP', getD_mid]
    have hwr := hw_rg (bb := mk_bb bb pas (x / 91) (x % 91) 2) (t := 1 - t) (pas := mk_ps bb (x / 91) (x % 91)) (q := mk_q bb pas q (x / 91) (x % 91))
    have hbp := hP.1 (mk_pl bb pas (x / 91) (x % 91))
    have ty := hV.1
    have t1 := V1.1.1
    have ty3 := V3.1
    obtain ⟨a127, -, -, -, -, -, -, -, -, -, -, -, -, -, -, a137, a16, -⟩ := ty3
    have hrm : x - x / 91 * 91 = x % 91 := by omega
    rw [fmt]
    by_cases c : mtd bb t pas q (x / 91) (x % 91)
    · rw [if_pos c]
      refine ⟨T2, M3, F2, lg2, N2, fun e l3 he => ?_, R3⟩
      have r1 := r1 e (by omega)
      have r2 := r2 e he
      have r3 := r3 e (by omega)
      unfold mtd at c
      rw [c] at r2
      obtain ⟨ty127, ty128, fy1, ty129, fy4, ty130, fy5, ty131, fy6, ty132, fy7, ty133, fy8, ty136, fy15, ty137, fy16, ty138, fy17, ty139, fy18, ty140, fy19, ty141, fy20, ty142, fy21, ty143, fy22, hbd, tybd, fy9, hlg, tylg, fy13, hN⟩ := ty
      clear ih hV hS hL hP V1 S1 C1 V2 S2 C2 V3 S3 f3 R3 L3 hP1 hy hMV hs hm hP' j1 j2 j3 c
      simp (disch := omega) only [x_X8_mate_16, x_X8_mate_17, x_X8_mate_18, x_X8_mate_21, x_X8_mate_22, x_X8_mate_23, x_X8_mate_26, x_X8_mate_27, x_X8_mate_28, x_X8_mate_30, x_X8_mate_31, x_X8_mate_32, x_X8_mate_35, x_X8_mate_36, x_X8_mate_37, x_X8_mate_39, x_X8_mate_40, x_X8_mate_41, x_X8_mate_44, x_X8_mate_45, x_X8_mate_46, x_X8_mate_49, x_X8_mate_50, x_X8_mate_51, x_X8_mate_54, x_X8_mate_55, x_X8_mate_56, x_X8_mate_59, x_X8_mate_60, x_X8_mate_63, x_X8_mate_64, x_X8_mate_65, List.length_cons, List.length_nil, Nat.reduceLeDiff, Nat.zero_add, iI_add, iI_sub, iI_mul, iI_neg, iI_lt, iI_le, iI_eq, jI_iI, B_True, B_False, B_t, B_f, ck_True, gd_True, cb_v, cb_n, p_mv_rw, p_fv_rw, p_rv_some, pA_1, pA_90, pA_92, pA_3, pA_2, pA_93, pA_4, pA_91, pA_95, pS_i, pW_i, pZ_0, pZ_1, pZ_b, bI_e0, u1_s, u1_n, uA_s, uA_n, true_and, and_true, not_true_eq_false, not_false_eq_true, eq_self, iI_z, al1, al2, al3, al4, al90, al91, al92, al93, al95, Int.cast_ofNat_Int, Nat.reduceAdd, Int.reduceNeg, Int.reduceAdd, Int.reduceSub, Int.reduceMul, Int.reduceLT, Int.reduceLE, Int.reduceGT, Int.reduceGE, Int.reduceEq, Int.reduceNe, Nat.reduceEqDiff, Int.zero_add, Int.add_zero, p_ty0, p_ty1, p_ty2, p_ty3, p_ty4, p_ty5, p_ty6, p_ty7, p_ty8, p_ty9, p_ty10, p_ty11, ty127, ty128, fy1, ty129, fy4, ty130, fy5, ty131, fy6, ty132, fy7, ty133, fy8, ty136, fy15, ty137, fy16, ty138, fy17, ty139, fy18, ty140, fy19, ty141, fy20, ty142, fy21, ty143, fy22, tybd, fy9, tylg, fy13, hx, hx3, iI_div, hrm, r1, r2, r3, a127, a137, a16, t1, gd_t, B_t, B_f]
    · rw [if_neg c]
      obtain ⟨T4, M4, F4, lg4, N4, r4, R4⟩ := ih (P ++ [x]) T2 M3 F2 lg2 N2 (by rw [List.append_assoc]; exact hP') V3 S3 L3
      refine ⟨T4, M4, F4, lg4, N4, fun e l3 he => ?_, R3.tr R4⟩
      have r1 := r1 e (by omega)
      have r2 := r2 e he
      have r3 := r3 e (by omega)
      have r4 := fun l3 => r4 e l3 he
      rw [List.length_append, List.length_singleton, Int.natCast_add_one] at r4
      rw [x_X8_mate_16]
      have c' : hw (mk_bb bb pas (x / 91) (x % 91) 2) (1 - t) (mk_ps bb (x / 91) (x % 91)) (mk_q bb pas q (x / 91) (x % 91)) ≠ 2 := c
      obtain ⟨ty127, ty128, fy1, ty129, fy4, ty130, fy5, ty131, fy6, ty132, fy7, ty133, fy8, ty136, fy15, ty137, fy16, ty138, fy17, ty139, fy18, ty140, fy19, ty141, fy20, ty142, fy21, ty143, fy22, hbd, tybd, fy9, hlg, tylg, fy13, hN⟩ := ty
      clear ih hV hS hL hP V1 S1 C1 V2 S2 C2 V3 S3 f3 R3 L3 R4 hP1 hy hMV hs hm hP' j1 j2 j3 c hx3
      simp (disch := omega) only [x_X8_mate_17, x_X8_mate_18, x_X8_mate_21, x_X8_mate_22, x_X8_mate_23, x_X8_mate_26, x_X8_mate_27, x_X8_mate_28, x_X8_mate_30, x_X8_mate_31, x_X8_mate_32, x_X8_mate_35, x_X8_mate_36, x_X8_mate_37, x_X8_mate_39, x_X8_mate_40, x_X8_mate_41, x_X8_mate_44, x_X8_mate_45, x_X8_mate_46, x_X8_mate_49, x_X8_mate_50, x_X8_mate_51, x_X8_mate_54, x_X8_mate_55, x_X8_mate_56, x_X8_mate_59, x_X8_mate_60, x_X8_mate_63, x_X8_mate_64, x_X8_mate_65, x_X8_mate_66, x_X8_mate_69, List.length_cons, List.length_nil, Nat.reduceLeDiff, Nat.zero_add, iI_add, iI_sub, iI_mul, iI_neg, iI_lt, iI_le, iI_eq, jI_iI, B_True, B_False, B_t, B_f, ck_True, gd_True, cb_v, cb_n, p_mv_rw, p_fv_rw, p_rv_some, pA_1, pA_90, pA_92, pA_3, pA_2, pA_93, pA_4, pA_91, pA_95, pS_i, pW_i, pZ_0, pZ_1, pZ_b, bI_e0, u1_s, u1_n, uA_s, uA_n, true_and, and_true, not_true_eq_false, not_false_eq_true, eq_self, iI_z, al1, al2, al3, al4, al90, al91, al92, al93, al95, Int.cast_ofNat_Int, Nat.reduceAdd, Int.reduceNeg, Int.reduceAdd, Int.reduceSub, Int.reduceMul, Int.reduceLT, Int.reduceLE, Int.reduceGT, Int.reduceGE, Int.reduceEq, Int.reduceNe, Nat.reduceEqDiff, Int.zero_add, Int.add_zero, p_ty0, p_ty1, p_ty2, p_ty3, p_ty4, p_ty5, p_ty6, p_ty7, p_ty8, p_ty9, p_ty10, p_ty11, ty127, ty128, fy1, ty129, fy4, ty130, fy5, ty131, fy6, ty132, fy7, ty133, fy8, ty136, fy15, ty137, fy16, ty138, fy17, ty139, fy18, ty140, fy19, ty141, fy20, ty142, fy21, ty143, fy22, tybd, fy9, tylg, fy13, hx, iI_div, hrm, r1, r2, r3, r4, a127, a137, a16, t1, gd_t, B_t, B_f]
theorem y_mate (hW : MW T M F bd lg N S ea bs z) (hP : SPx S) (hH : S.2.2.2.2.length < 613) : YRet bd N T M F m_X8_mate [.ref 127] 10 (.int (iI (fmt S.1 S.2.1 S.2.2.1 S.2.2.2.1 (lgQ S.1 S.2.1 S.2.2.1 S.2.2.2.1)))) 0 S ea bs z := by
  have hY := hW.1.1
  have hD := hW.1.2.1
  obtain ⟨W0, z0, O0⟩ := hW.wz 0
  obtain ⟨T1, M1, F1, lg1, N1, r1, L1, -, R1⟩ := y_list (io := 137) (Or.inl rfl) W0.1 W0.2.1 hP.1 (by omega)
  obtain ⟨W1, f1, O1⟩ := W0.yr R1 (XL.y hD (Or.inl rfl))
  have hl := lgQ_le hP.1
  obtain ⟨v127, -, -, -, -, -, -, -, -, -, -, -, -, -, -, v137, w16, -⟩ := hY
  by_cases cq : 60 ≤ S.2.2.2.1
  · have hq : lgQ S.1 S.2.1 S.2.2.1 S.2.2.2.1 = [] := if_pos cq
    rw [hq] at r1 hl ⊢
    refine ⟨T1, M1, F1, lg1, N1, fun d hd => ?_, W1, f1.trans z0, O0.tr O1⟩
    refine callD_go 9 hd rfl (fun e he => ?_)
    show R e m_X8_mate 0 [.val (.ref 127), .unset, .unset, .unset] [] T M F = _
    have r1 := r1 e (by omega)
    unfold w0 at r1
    rw [fmt]
    rw [show ((([] : List Int).length : Nat) : Int) = 0 from rfl] at r1
    clear hW W0 O0 hP W1 O1 R1 L1 hq
    simp (disch := omega) only [x_X8_mate_0, x_X8_mate_1, x_X8_mate_2, x_X8_mate_5, x_X8_mate_6, x_X8_mate_7, x_X8_mate_10, x_X8_mate_13, x_X8_mate_14, x_X8_mate_15, x_X8_mate_16, x_X8_mate_17, x_X8_mate_18, x_X8_mate_72, x_X8_mate_73, List.length_cons, List.length_nil, Nat.reduceLeDiff, Nat.zero_add, iI_add, iI_sub, iI_mul, iI_neg, iI_lt, iI_le, iI_eq, jI_iI, B_True, B_False, B_t, B_f, ck_True, gd_True, cb_v, cb_n, p_mv_rw, p_fv_rw, p_rv_some, pA_1, pA_90, pA_92, pA_3, pA_2, pA_93, pA_4, pA_91, pA_95, pS_i, pW_i, pZ_0, pZ_1, pZ_b, bI_e0, u1_s, u1_n, uA_s, uA_n, true_and, and_true, not_true_eq_false, not_false_eq_true, eq_self, iI_z, al1, al2, al3, al4, al90, al91, al92, al93, al95, Int.cast_ofNat_Int, Nat.reduceAdd, Int.reduceNeg, Int.reduceAdd, Int.reduceSub, Int.reduceMul, Int.reduceLT, Int.reduceLE, Int.reduceGT, Int.reduceGE, Int.reduceEq, Int.reduceNe, Nat.reduceEqDiff, Int.zero_add, Int.add_zero, p_ty0, p_ty1, p_ty2, p_ty3, p_ty4, p_ty5, p_ty6, p_ty7, p_ty8, p_ty9, p_ty10, p_ty11, v127, v137, w16, r1, gd_t, B_t, B_f]
  · have hq : lgQ S.1 S.2.1 S.2.2.1 S.2.2.2.1 = lgA S.1 S.2.1 S.2.2.1 := if_neg cq
    rw [hq] at r1 hl L1 ⊢
    obtain ⟨T2, M2, F2, lg2, N2, r2, R2⟩ := ma_loop hP.1 (by omega) hH (lgA S.1 S.2.1 S.2.2.1) [] T1 M1 F1 lg1 N1 (List.nil_append _) W1.1 W1.2.1 L1
    obtain ⟨W2, f2, O2⟩ := W1.yr R2 (XA.xx W1.1.2.1)
    refine ⟨T2, M2, F2, lg2, N2, fun d hd => ?_, W2, f2.trans (f1.trans z0), (O0.tr O1).tr O2⟩
    refine callD_go 9 hd rfl (fun e he => ?_)
    show R e m_X8_mate 0 [.val (.ref 127), .unset, .unset, .unset] [] T M F = _
    have r1 := r1 e (by omega)
    have r2 := fun l3 => r2 e l3 (by omega)
    unfold w0 at r1
    rw [List.length_nil, Int.natCast_zero] at r2
    clear hW W0 O0 hP W1 O1 R1 L1 hq W2 O2 R2
    simp (disch := omega) only [x_X8_mate_0, x_X8_mate_1, x_X8_mate_2, x_X8_mate_5, x_X8_mate_6, x_X8_mate_7, x_X8_mate_10, x_X8_mate_13, x_X8_mate_14, x_X8_mate_15, List.length_cons, List.length_nil, Nat.reduceLeDiff, Nat.zero_add, iI_add, iI_sub, iI_mul, iI_neg, iI_lt, iI_le, iI_eq, jI_iI, B_True, B_False, B_t, B_f, ck_True, gd_True, cb_v, cb_n, p_mv_rw, p_fv_rw, p_rv_some, pA_1, pA_90, pA_92, pA_3, pA_2, pA_93, pA_4, pA_91, pA_95, pS_i, pW_i, pZ_0, pZ_1, pZ_b, bI_e0, u1_s, u1_n, uA_s, uA_n, true_and, and_true, not_true_eq_false, not_false_eq_true, eq_self, iI_z, al1, al2, al3, al4, al90, al91, al92, al93, al95, Int.cast_ofNat_Int, Nat.reduceAdd, Int.reduceNeg, Int.reduceAdd, Int.reduceSub, Int.reduceMul, Int.reduceLT, Int.reduceLE, Int.reduceGT, Int.reduceGE, Int.reduceEq, Int.reduceNe, Nat.reduceEqDiff, Int.zero_add, Int.add_zero, p_ty0, p_ty1, p_ty2, p_ty3, p_ty4, p_ty5, p_ty6, p_ty7, p_ty8, p_ty9, p_ty10, p_ty11, v127, v137, w16, r1, r2, gd_t, B_t, B_f]
end PYMA
