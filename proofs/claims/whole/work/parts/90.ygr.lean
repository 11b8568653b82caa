section PYGR
variable {d bd lg N lg1 N1 : Nat} {T T1 : pT} {M M0 M1 M2 : pM} {F F1 : pF} {bb v w bs : Int → Int} {t pas q its to as p n i c s x k a b z acc ea best most : Int} {H : List HE} {A L : List Int} {io : Nat} {S S1 : GSx}
theorem th_kind (hb : MB bb) : mk_th bb its to 2 % 10 = @ite _ (mk_be bb its to) (Classical.propDecidable _) 2 (bb its % 10) := by
  unfold mk_th mk_be
  have h := hb its
  by_cases c : bb its % 10 = 6 ∧ gn to (m_ah (m_side (bb its))) = -1
  · rw [if_pos c, if_pos c]
    have : m_side (bb its) = 0 ∨ m_side (bb its) = 1 := by unfold m_side; split <;> omega
    omega
  · rw [if_neg c, if_neg c]
theorem y_gainOf (hP : SP bb t pas q) (hq : q < 60) (hH : H.length < 613) (hV : YV T M F bd lg N H) (hS : YS M bd bb t pas q) (hL : LMy M 137 A) (hm : x ∈ lgA bb t pas) :
    ∃ T' M' F' lg' N', (∀ d, 5 ≤ d → callD d m_X8_gainOf [.ref 127, .int (iI x)] T M F = some (.inl (some (.int (iI (gnv bb t pas (x / 91) (x % 91))))), T', M', F')) ∧ LMy M' 137 A ∧ YR (XA bd) bd H bb t pas q T M F lg N T' M' F' lg' N' := by
  have hxr := lgA_rg hm
  have hq0 := hP.2.2.2.2.2
  obtain ⟨hy, hMV, hs⟩ := lg_move hm
  obtain ⟨T1, M1, F1, lg1, N1, r1, V1, S1, j1, -, C1⟩ := y_make hV hS hP (by omega) hMV (as := 2) (by omega)
  have hP1 := hP.mk hq hMV (as := 2) (by omega)
  obtain ⟨M3, r3, V3, S3, j3, -, f3⟩ := y_unmake V1 S1 hP.1 hP.2.2.2.1 hP.2.2.2.2.1 (by omega) hMV (by omega)
  have R3 := YR.again (bd := bd) (M2 := M1) V3 S3 j1 C1 (fun _ _ _ _ _ => rfl) YC.rf j3 f3
  have L3 := hL.keep (M2 := M1) hV.2.1 V1.2.1 C1 YC.rf f3
  have s1 := hS.2.1
  have b1 := S1.2.1
  have k10 := S1.2.2.1
  have hbi := hP.1 (x / 91)
  have hbp := hP.1 (mk_pl bb pas (x / 91) (x % 91))
  have hth := th_kind (its := x / 91) (to := x % 91) hP.1
  have o3 : ∀ y : Int, 0 ≤ m_wor y ∧ m_wor y ≤ 10 := by intro y; unfold m_wor; repeat' split <;> omega
  have o4 := o3 (bb (mk_pl bb pas (x / 91) (x % 91)) % 10)
  have o5 := o3 (mk_th bb (x / 91) (x % 91) 2 % 10)
  have har := m_att_rg (mk_bb bb pas (x / 91) (x % 91) 2) (x % 91) (1 - t)
  have hrm : x - x / 91 * 91 = x % 91 := by omega
  refine ⟨T1, M3, F1, lg1, N1, fun d hd => ?_, L3, R3⟩
  refine callD_go 4 hd rfl (fun e he => ?_)
  show R e m_X8_gainOf 0 [.val (.ref 127), .val (.int (iI x)), .unset, .unset, .unset, .unset] [] T M F = _
  have r1 := r1 e (by omega)
  have r3 := r3 e (by omega)
  have hbe := y_becomes (d := e) (its := x / 91) (to := x % 91) hV.1 hS hP.1 (by omega) (by omega) (by omega)
  have hpi := y_piece (d := e) (T := T) (M := M) (F := F) (n := bb (x / 91)) (by omega) (by omega)
  have hw1 := y_worth (d := e) (T := T1) (M := M1) (F := F1) (n := bb (mk_pl bb pas (x / 91) (x % 91)) % 10) (by omega) (by omega)
  have hthr : 0 ≤ mk_th bb (x / 91) (x % 91) 2 % 10 ∧ mk_th bb (x / 91) (x % 91) 2 % 10 ≤ 6 := by
    rw [hth]; split <;> omega
  have hw2 := y_worth (d := e) (T := T1) (M := M1) (F := F1) (n := mk_th bb (x / 91) (x % 91) 2 % 10) (by omega) hthr
  have hat := y_att (d := e) (p := x % 91) (s := 1 - t) V1.1 S1.1 (by rw [b1]; exact hP1.1) (by omega) (by omega) (by have := hP.2.2.2.1; omega)
  rw [b1] at hat
  have ty := hV.1
  have t1 := V1.1.1
  obtain ⟨ty127, ty128, fy1, ty129, fy4, ty130, fy5, ty131, fy6, ty132, fy7, ty133, fy8, ty136, fy15, ty137, fy16, ty138, fy17, ty139, fy18, ty140, fy19, ty141, fy20, ty142, fy21, ty143, fy22, hbd, tybd, fy9, hlg, tylg, fy13, hN⟩ := ty
  unfold gnv
  have c1 : R e m_X8_gainOf 0 [.val (.ref 127), .val (.int (iI x)), .unset, .unset, .unset, .unset] [] T M F = R e m_X8_gainOf 34 [.val (.ref 127), .val (.int (iI x)), .val (.int (iI (x / 91))), .val (.int (iI (x % 91))), .val (.int (iI (mk_th bb (x / 91) (x % 91) 2 % 10))), .unset] [] T M F := by
    rw [hth]
    by_cases c : mk_be bb (x / 91) (x % 91)
    · rw [bI_t c] at hbe
      rw [if_pos c]
      clear hV hS hL hP V1 S1 C1 V3 S3 f3 R3 L3 hP1 hy hMV hs hm j1 j3 hat o3 hth hthr hw2
      simp (disch := omega) only [x_X8_gainOf_0, x_X8_gainOf_1, x_X8_gainOf_3, x_X8_gainOf_4, x_X8_gainOf_5, x_X8_gainOf_6, x_X8_gainOf_8, x_X8_gainOf_9, x_X8_gainOf_10, x_X8_gainOf_11, x_X8_gainOf_12, x_X8_gainOf_13, x_X8_gainOf_16, x_X8_gainOf_19, x_X8_gainOf_20, x_X8_gainOf_23, x_X8_gainOf_24, x_X8_gainOf_27, x_X8_gainOf_28, x_X8_gainOf_29, x_X8_gainOf_32, List.length_cons, List.length_nil, Nat.reduceLeDiff, Nat.zero_add, iI_add, iI_sub, iI_mul, iI_neg, iI_lt, iI_le, iI_eq, jI_iI, B_True, B_False, B_t, B_f, ck_True, gd_True, cb_v, cb_n, p_mv_rw, p_fv_rw, p_rv_some, pA_1, pA_90, pA_92, pA_3, pA_2, pA_93, pA_4, pA_91, pA_95, pS_i, pW_i, pZ_0, pZ_1, pZ_b, bI_e0, u1_s, u1_n, uA_s, uA_n, true_and, and_true, not_true_eq_false, not_false_eq_true, eq_self, iI_z, al1, al2, al3, al4, al90, al91, al92, al93, al95, Int.cast_ofNat_Int, Nat.reduceAdd, Int.reduceNeg, Int.reduceAdd, Int.reduceSub, Int.reduceMul, Int.reduceLT, Int.reduceLE, Int.reduceGT, Int.reduceGE, Int.reduceEq, Int.reduceNe, Nat.reduceEqDiff, Int.zero_add, Int.add_zero, p_ty0, p_ty1, p_ty2, p_ty3, p_ty4, p_ty5, p_ty6, p_ty7, p_ty8, p_ty9, p_ty10, p_ty11, ty127, ty128, fy1, ty129, fy4, ty130, fy5, ty131, fy6, ty132, fy7, ty133, fy8, ty136, fy15, ty137, fy16, ty138, fy17, ty139, fy18, ty140, fy19, ty141, fy20, ty142, fy21, ty143, fy22, tybd, fy9, tylg, fy13, hrm, iI_div, hbe, gd_t, B_t, B_f]
    · rw [bI_f c] at hbe
      rw [if_neg c]
      clear hV hS hL hP V1 S1 C1 V3 S3 f3 R3 L3 hP1 hy hMV hs hm j1 j3 hat o3 hth hthr hw2
      simp (disch := omega) only [x_X8_gainOf_0, x_X8_gainOf_1, x_X8_gainOf_3, x_X8_gainOf_4, x_X8_gainOf_5, x_X8_gainOf_6, x_X8_gainOf_8, x_X8_gainOf_9, x_X8_gainOf_10, x_X8_gainOf_11, x_X8_gainOf_12, x_X8_gainOf_13, x_X8_gainOf_16, x_X8_gainOf_19, x_X8_gainOf_20, x_X8_gainOf_23, x_X8_gainOf_24, x_X8_gainOf_27, x_X8_gainOf_28, x_X8_gainOf_29, x_X8_gainOf_32, List.length_cons, List.length_nil, Nat.reduceLeDiff, Nat.zero_add, iI_add, iI_sub, iI_mul, iI_neg, iI_lt, iI_le, iI_eq, jI_iI, B_True, B_False, B_t, B_f, ck_True, gd_True, cb_v, cb_n, p_mv_rw, p_fv_rw, p_rv_some, pA_1, pA_90, pA_92, pA_3, pA_2, pA_93, pA_4, pA_91, pA_95, pS_i, pW_i, pZ_0, pZ_1, pZ_b, bI_e0, u1_s, u1_n, uA_s, uA_n, true_and, and_true, not_true_eq_false, not_false_eq_true, eq_self, iI_z, al1, al2, al3, al4, al90, al91, al92, al93, al95, Int.cast_ofNat_Int, Nat.reduceAdd, Int.reduceNeg, Int.reduceAdd, Int.reduceSub, Int.reduceMul, Int.reduceLT, Int.reduceLE, Int.reduceGT, Int.reduceGE, Int.reduceEq, Int.reduceNe, Nat.reduceEqDiff, Int.zero_add, Int.add_zero, p_ty0, p_ty1, p_ty2, p_ty3, p_ty4, p_ty5, p_ty6, p_ty7, p_ty8, p_ty9, p_ty10, p_ty11, ty127, ty128, fy1, ty129, fy4, ty130, fy5, ty131, fy6, ty132, fy7, ty133, fy8, ty136, fy15, ty137, fy16, ty138, fy17, ty139, fy18, ty140, fy19, ty141, fy20, ty142, fy21, ty143, fy22, tybd, fy9, tylg, fy13, hrm, iI_div, hbe, s1, hpi, gd_t, B_t, B_f]
  rw [c1]
  clear c1 hbe hpi
  by_cases c : 0 < m_att (mk_bb bb pas (x / 91) (x % 91) 2) (x % 91) (1 - t)
  · rw [if_pos c]
    clear hV hS hL hP V1 S1 C1 V3 S3 f3 R3 L3 hP1 hy hMV hs hm j1 j3 o3 hth
    simp (disch := omega) only [x_X8_gainOf_34, x_X8_gainOf_35, x_X8_gainOf_36, x_X8_gainOf_37, x_X8_gainOf_38, x_X8_gainOf_41, x_X8_gainOf_44, x_X8_gainOf_46, x_X8_gainOf_47, x_X8_gainOf_48, x_X8_gainOf_49, x_X8_gainOf_52, x_X8_gainOf_55, x_X8_gainOf_58, x_X8_gainOf_60, x_X8_gainOf_62, x_X8_gainOf_65, x_X8_gainOf_66, x_X8_gainOf_68, x_X8_gainOf_69, x_X8_gainOf_72, x_X8_gainOf_74, List.length_cons, List.length_nil, Nat.reduceLeDiff, Nat.zero_add, iI_add, iI_sub, iI_mul, iI_neg, iI_lt, iI_le, iI_eq, jI_iI, B_True, B_False, B_t, B_f, ck_True, gd_True, cb_v, cb_n, p_mv_rw, p_fv_rw, p_rv_some, pA_1, pA_90, pA_92, pA_3, pA_2, pA_93, pA_4, pA_91, pA_95, pS_i, pW_i, pZ_0, pZ_1, pZ_b, bI_e0, u1_s, u1_n, uA_s, uA_n, true_and, and_true, not_true_eq_false, not_false_eq_true, eq_self, iI_z, al1, al2, al3, al4, al90, al91, al92, al93, al95, Int.cast_ofNat_Int, Nat.reduceAdd, Int.reduceNeg, Int.reduceAdd, Int.reduceSub, Int.reduceMul, Int.reduceLT, Int.reduceLE, Int.reduceGT, Int.reduceGE, Int.reduceEq, Int.reduceNe, Nat.reduceEqDiff, Int.zero_add, Int.add_zero, p_ty0, p_ty1, p_ty2, p_ty3, p_ty4, p_ty5, p_ty6, p_ty7, p_ty8, p_ty9, p_ty10, p_ty11, ty127, t1, k10, r1, r3, hw1, hw2, hat, gd_t, B_t, B_f]
  · rw [if_neg c, Int.sub_zero]
    clear hV hS hL hP V1 S1 C1 V3 S3 f3 R3 L3 hP1 hy hMV hs hm j1 j3 o3 hth
    simp (disch := omega) only [x_X8_gainOf_34, x_X8_gainOf_35, x_X8_gainOf_36, x_X8_gainOf_37, x_X8_gainOf_38, x_X8_gainOf_41, x_X8_gainOf_44, x_X8_gainOf_46, x_X8_gainOf_47, x_X8_gainOf_48, x_X8_gainOf_49, x_X8_gainOf_52, x_X8_gainOf_55, x_X8_gainOf_58, x_X8_gainOf_60, x_X8_gainOf_62, x_X8_gainOf_65, x_X8_gainOf_66, x_X8_gainOf_68, x_X8_gainOf_69, x_X8_gainOf_72, x_X8_gainOf_74, List.length_cons, List.length_nil, Nat.reduceLeDiff, Nat.zero_add, iI_add, iI_sub, iI_mul, iI_neg, iI_lt, iI_le, iI_eq, jI_iI, B_True, B_False, B_t, B_f, ck_True, gd_True, cb_v, cb_n, p_mv_rw, p_fv_rw, p_rv_some, pA_1, pA_90, pA_92, pA_3, pA_2, pA_93, pA_4, pA_91, pA_95, pS_i, pW_i, pZ_0, pZ_1, pZ_b, bI_e0, u1_s, u1_n, uA_s, uA_n, true_and, and_true, not_true_eq_false, not_false_eq_true, eq_self, iI_z, al1, al2, al3, al4, al90, al91, al92, al93, al95, Int.cast_ofNat_Int, Nat.reduceAdd, Int.reduceNeg, Int.reduceAdd, Int.reduceSub, Int.reduceMul, Int.reduceLT, Int.reduceLE, Int.reduceGT, Int.reduceGE, Int.reduceEq, Int.reduceNe, Nat.reduceEqDiff, Int.zero_add, Int.add_zero, p_ty0, p_ty1, p_ty2, p_ty3, p_ty4, p_ty5, p_ty6, p_ty7, p_ty8, p_ty9, p_ty10, p_ty11, ty127, t1, k10, r1, r3, hw1, hat, gd_t, B_t, B_f]
theorem yg_loop (hP : SP bb t pas q) (hq : q < 60) (hH : H.length < 613) : ∀ (Q P : List Int) (best most : Int) (T : pT) (M : pM) (F : pF) (lg N : Nat), P ++ Q = lgA bb t pas → (-1 ≤ best ∧ best < 8281) → (-20 ≤ most ∧ most ≤ 20) → YV T M F bd lg N H → YS M bd bb t pas q → LMy M 137 (lgA bb t pas) →
    ∃ T' M' F' lg' N', (∀ e l5, 7 ≤ e → R e m_X8_greed 21 [.val (.ref 127), .val (.int (iI ((lgA bb t pas).length : Int))), .val (.int (iI best)), .val (.int (iI most)), .val (.int (iI (P.length : Int))), l5] [] T M F = some (.inl (some (.int (iI (grd bb t pas Q best most)))), T', M', F')) ∧ YR (XA bd) bd H bb t pas q T M F lg N T' M' F' lg' N' := by
  have hl := hP.len'
  intro Q
  induction Q with
  | nil =>
    intro P best most T M F lg N hP' hb hmo hV hS hL
    rw [List.append_nil] at hP'
    refine ⟨T, M, F, lg, N, fun e l5 he => ?_, YR.rf hV hS⟩
    rw [grd, ← hP']
    rw [← hP'] at hl
    clear hV hS hL hP
    simp (disch := omega) only [x_X8_greed_21, x_X8_greed_23, x_X8_greed_24, x_X8_greed_71, x_X8_greed_72, List.length_cons, List.length_nil, Nat.reduceLeDiff, Nat.zero_add, iI_add, iI_sub, iI_mul, iI_neg, iI_lt, iI_le, iI_eq, jI_iI, B_True, B_False, B_t, B_f, ck_True, gd_True, cb_v, cb_n, p_mv_rw, p_fv_rw, p_rv_some, pA_1, pA_90, pA_92, pA_3, pA_2, pA_93, pA_4, pA_91, pA_95, pS_i, pW_i, pZ_0, pZ_1, pZ_b, bI_e0, u1_s, u1_n, uA_s, uA_n, true_and, and_true, not_true_eq_false, not_false_eq_true, eq_self, iI_z, al1, al2, al3, al4, al90, al91, al92, al93, al95, Int.cast_ofNat_Int, Nat.reduceAdd, Int.reduceNeg, Int.reduceAdd, Int.reduceSub, Int.reduceMul, Int.reduceLT, Int.reduceLE, Int.reduceGT, Int.reduceGE, Int.reduceEq, Int.reduceNe, Nat.reduceEqDiff, Int.zero_add, Int.add_zero, p_ty0, p_ty1, p_ty2, p_ty3, p_ty4, p_ty5, p_ty6, p_ty7, p_ty8, p_ty9, p_ty10, p_ty11, B_t, B_f]
  | cons x Q ih =>
    intro P best most T M F lg N hP' hb hmo hV hS hL
    have hPl : P.length + 1 + Q.length = (lgA bb t pas).length := by rw [← hP']; simp; omega
    have hm : x ∈ lgA bb t pas := by rw [← hP']; simp
    have hxr := lgA_rg hm
    have hx : M 137 (P.length : Int) = x := by rw [hL P.length (by omega), ← hP', getD_mid]
    obtain ⟨T1, M1, F1, lg1, N1, r1, L1, R1⟩ := y_gainOf hP hq hH hV hS hL hm
    have hx1 : M1 137 (P.length : Int) = x := by rw [L1 P.length (by omega), ← hP', getD_mid]
    have hgr := gnv_rg (bb := bb) (t := t) (pas := pas) (its := x / 91) (to := x % 91)
    obtain ⟨v127, -, -, -, -, -, -, -, -, -, -, -, -, -, -, v137, v16, -⟩ := hV.1
    obtain ⟨a127, -, -, -, -, -, -, -, -, -, -, -, -, -, -, a137, a16, -⟩ := R1.1.1
    by_cases c1 : best = -1 ∨ most < gnv bb t pas (x / 91) (x % 91)
    · obtain ⟨T4, M4, F4, lg4, N4, r4, R4⟩ := ih (P ++ [x]) x (gnv bb t pas (x / 91) (x % 91)) T1 M1 F1 lg1 N1 (by rw [List.append_assoc]; exact hP') (by omega) hgr R1.1 R1.2.1 L1
      refine ⟨T4, M4, F4, lg4, N4, fun e l5 he => ?_, R1.tr R4⟩
      have r1 := r1 e (by omega)
      have r4 := fun l5 => r4 e l5 he
      rw [List.length_append, List.length_singleton, Int.natCast_add_one] at r4
      rw [grd, if_pos c1]
      rw [x_X8_greed_21]
      clear ih hV hS hL hP R1 R4 hm hP' L1
      by_cases c2 : best = -1
      · simp (disch := omega) only [x_X8_greed_23, x_X8_greed_24, x_X8_greed_27, x_X8_greed_28, x_X8_greed_29, x_X8_greed_32, x_X8_greed_34, x_X8_greed_35, x_X8_greed_38, x_X8_greed_40, x_X8_greed_41, x_X8_greed_42, x_X8_greed_45, x_X8_greed_47, x_X8_greed_48, x_X8_greed_51, x_X8_greed_54, x_X8_greed_55, x_X8_greed_58, x_X8_greed_60, x_X8_greed_61, x_X8_greed_62, x_X8_greed_64, x_X8_greed_65, x_X8_greed_68, List.length_cons, List.length_nil, Nat.reduceLeDiff, Nat.zero_add, iI_add, iI_sub, iI_mul, iI_neg, iI_lt, iI_le, iI_eq, jI_iI, B_True, B_False, B_t, B_f, ck_True, gd_True, cb_v, cb_n, p_mv_rw, p_fv_rw, p_rv_some, pA_1, pA_90, pA_92, pA_3, pA_2, pA_93, pA_4, pA_91, pA_95, pS_i, pW_i, pZ_0, pZ_1, pZ_b, bI_e0, u1_s, u1_n, uA_s, uA_n, true_and, and_true, not_true_eq_false, not_false_eq_true, eq_self, iI_z, al1, al2, al3, al4, al90, al91, al92, al93, al95, Int.cast_ofNat_Int, Nat.reduceAdd, Int.reduceNeg, Int.reduceAdd, Int.reduceSub, Int.reduceMul, Int.reduceLT, Int.reduceLE, Int.reduceGT, Int.reduceGE, Int.reduceEq, Int.reduceNe, Nat.reduceEqDiff, Int.zero_add, Int.add_zero, p_ty0, p_ty1, p_ty2, p_ty3, p_ty4, p_ty5, p_ty6, p_ty7, p_ty8, p_ty9, p_ty10, p_ty11, v127, v137, v16, a127, a137, a16, hx, hx1, r1, r4, c2, gd_t, B_t, B_f]
      · have c3 := c1.resolve_left c2
        simp (disch := omega) only [x_X8_greed_23, x_X8_greed_24, x_X8_greed_27, x_X8_greed_28, x_X8_greed_29, x_X8_greed_32, x_X8_greed_34, x_X8_greed_35, x_X8_greed_38, x_X8_greed_40, x_X8_greed_41, x_X8_greed_42, x_X8_greed_45, x_X8_greed_47, x_X8_greed_48, x_X8_greed_51, x_X8_greed_54, x_X8_greed_55, x_X8_greed_58, x_X8_greed_60, x_X8_greed_61, x_X8_greed_62, x_X8_greed_64, x_X8_greed_65, x_X8_greed_68, List.length_cons, List.length_nil, Nat.reduceLeDiff, Nat.zero_add, iI_add, iI_sub, iI_mul, iI_neg, iI_lt, iI_le, iI_eq, jI_iI, B_True, B_False, B_t, B_f, ck_True, gd_True, cb_v, cb_n, p_mv_rw, p_fv_rw, p_rv_some, pA_1, pA_90, pA_92, pA_3, pA_2, pA_93, pA_4, pA_91, pA_95, pS_i, pW_i, pZ_0, pZ_1, pZ_b, bI_e0, u1_s, u1_n, uA_s, uA_n, true_and, and_true, not_true_eq_false, not_false_eq_true, eq_self, iI_z, al1, al2, al3, al4, al90, al91, al92, al93, al95, Int.cast_ofNat_Int, Nat.reduceAdd, Int.reduceNeg, Int.reduceAdd, Int.reduceSub, Int.reduceMul, Int.reduceLT, Int.reduceLE, Int.reduceGT, Int.reduceGE, Int.reduceEq, Int.reduceNe, Nat.reduceEqDiff, Int.zero_add, Int.add_zero, p_ty0, p_ty1, p_ty2, p_ty3, p_ty4, p_ty5, p_ty6, p_ty7, p_ty8, p_ty9, p_ty10, p_ty11, v127, v137, v16, a127, a137, a16, hx, hx1, r1, r4, gd_t, B_t, B_f]
    · obtain ⟨T4, M4, F4, lg4, N4, r4, R4⟩ := ih (P ++ [x]) best most T1 M1 F1 lg1 N1 (by rw [List.append_assoc]; exact hP') hb hmo R1.1 R1.2.1 L1
      refine ⟨T4, M4, F4, lg4, N4, fun e l5 he => ?_, R1.tr R4⟩
      have r1 := r1 e (by omega)
      have r4 := fun l5 => r4 e l5 he
      rw [List.length_append, List.length_singleton, Int.natCast_add_one] at r4
      rw [grd, if_neg c1]
      rw [x_X8_greed_21]
      have c2 : best ≠ -1 := fun z => c1 (Or.inl z)
      have c3 : gnv bb t pas (x / 91) (x % 91) ≤ most := by
        have := fun z => c1 (Or.inr z)
        omega
      clear ih hV hS hL hP R1 R4 hm hP' L1 hx1 c1
      simp (disch := omega) only [x_X8_greed_23, x_X8_greed_24, x_X8_greed_27, x_X8_greed_28, x_X8_greed_29, x_X8_greed_32, x_X8_greed_34, x_X8_greed_35, x_X8_greed_38, x_X8_greed_40, x_X8_greed_41, x_X8_greed_42, x_X8_greed_45, x_X8_greed_47, x_X8_greed_48, x_X8_greed_51, x_X8_greed_54, x_X8_greed_55, x_X8_greed_58, x_X8_greed_60, x_X8_greed_61, x_X8_greed_62, x_X8_greed_64, x_X8_greed_65, x_X8_greed_68, List.length_cons, List.length_nil, Nat.reduceLeDiff, Nat.zero_add, iI_add, iI_sub, iI_mul, iI_neg, iI_lt, iI_le, iI_eq, jI_iI, B_True, B_False, B_t, B_f, ck_True, gd_True, cb_v, cb_n, p_mv_rw, p_fv_rw, p_rv_some, pA_1, pA_90, pA_92, pA_3, pA_2, pA_93, pA_4, pA_91, pA_95, pS_i, pW_i, pZ_0, pZ_1, pZ_b, bI_e0, u1_s, u1_n, uA_s, uA_n, true_and, and_true, not_true_eq_false, not_false_eq_true, eq_self, iI_z, al1, al2, al3, al4, al90, al91, al92, al93, al95, Int.cast_ofNat_Int, Nat.reduceAdd, Int.reduceNeg, Int.reduceAdd, Int.reduceSub, Int.reduceMul, Int.reduceLT, Int.reduceLE, Int.reduceGT, Int.reduceGE, Int.reduceEq, Int.reduceNe, Nat.reduceEqDiff, Int.zero_add, Int.add_zero, p_ty0, p_ty1, p_ty2, p_ty3, p_ty4, p_ty5, p_ty6, p_ty7, p_ty8, p_ty9, p_ty10, p_ty11, v127, v137, v16, a127, a137, a16, hx, r1, r4, gd_t, B_t, B_f]
theorem y_greed (hW : MW T M F bd lg N S ea bs z) (hP : SPx S) (hH : S.2.2.2.2.length < 613) : YRet bd N T M F m_X8_greed [.ref 127] 10 (.int (iI (grd S.1 S.2.1 S.2.2.1 (lgQ S.1 S.2.1 S.2.2.1 S.2.2.2.1) (-1) 0))) 0 S ea bs z := by
  have hY := hW.1.1
  have hD := hW.1.2.1
  obtain ⟨W0, z0, O0⟩ := hW.wz 0
  obtain ⟨T1, M1, F1, lg1, N1, r1, L1, -, R1⟩ := y_list (io := 137) (Or.inl rfl) W0.1 W0.2.1 hP.1 (by omega)
  obtain ⟨W1, f1, O1⟩ := W0.yr R1 (XL.y hD (Or.inl rfl))
  have hl := lgQ_le hP.1
  obtain ⟨v127, -, -, -, -, -, -, -, -, -, -, -, -, -, -, v137, w16, -⟩ := hY
  by_cases cq : 60 ≤ S.2.2.2.1
  · have hq : lgQ S.1 S.2.1 S.2.2.1 S.2.2.2.1 = [] := if_pos cq
    rw [hq] at r1 hl ⊢
    refine ⟨T1, M1, F1, lg1, N1, fun d hd => ?_, W1, f1.trans z0, O0.tr O1⟩
    refine callD_go 9 hd rfl (fun e he => ?_)
    show R e m_X8_greed 0 [.val (.ref 127), .unset, .unset, .unset, .unset, .unset] [] T M F = _
    have r1 := r1 e (by omega)
    unfold w0 at r1
    rw [grd]
    rw [show ((([] : List Int).length : Nat) : Int) = 0 from rfl] at r1
    clear hW W0 O0 hP W1 O1 R1 L1 hq
    simp (disch := omega) only [x_X8_greed_0, x_X8_greed_1, x_X8_greed_2, x_X8_greed_5, x_X8_greed_6, x_X8_greed_7, x_X8_greed_10, x_X8_greed_13, x_X8_greed_14, x_X8_greed_15, x_X8_greed_16, x_X8_greed_17, x_X8_greed_18, x_X8_greed_19, x_X8_greed_21, x_X8_greed_23, x_X8_greed_24, x_X8_greed_71, x_X8_greed_72, List.length_cons, List.length_nil, Nat.reduceLeDiff, Nat.zero_add, iI_add, iI_sub, iI_mul, iI_neg, iI_lt, iI_le, iI_eq, jI_iI, B_True, B_False, B_t, B_f, ck_True, gd_True, cb_v, cb_n, p_mv_rw, p_fv_rw, p_rv_some, pA_1, pA_90, pA_92, pA_3, pA_2, pA_93, pA_4, pA_91, pA_95, pS_i, pW_i, pZ_0, pZ_1, pZ_b, bI_e0, u1_s, u1_n, uA_s, uA_n, true_and, and_true, not_true_eq_false, not_false_eq_true, eq_self, iI_z, al1, al2, al3, al4, al90, al91, al92, al93, al95, Int.cast_ofNat_Int, Nat.reduceAdd, Int.reduceNeg, Int.reduceAdd, Int.reduceSub, Int.reduceMul, Int.reduceLT, Int.reduceLE, Int.reduceGT, Int.reduceGE, Int.reduceEq, Int.reduceNe, Nat.reduceEqDiff, Int.zero_add, Int.add_zero, p_ty0, p_ty1, p_ty2, p_ty3, p_ty4, p_ty5, p_ty6, p_ty7, p_ty8, p_ty9, p_ty10, p_ty11, v127, v137, w16, r1, gd_t, B_t, B_f]
  · have hq : lgQ S.1 S.2.1 S.2.2.1 S.2.2.2.1 = lgA S.1 S.2.1 S.2.2.1 := if_neg cq
    rw [hq] at r1 hl L1 ⊢
    obtain ⟨T2, M2, F2, lg2, N2, r2, R2⟩ := yg_loop hP.1 (by omega) hH (lgA S.1 S.2.1 S.2.2.1) [] (-1) 0 T1 M1 F1 lg1 N1 (List.nil_append _) (by omega) (by omega) W1.1 W1.2.1 L1
    obtain ⟨W2, f2, O2⟩ := W1.yr R2 (XA.xx W1.1.2.1)
    refine ⟨T2, M2, F2, lg2, N2, fun d hd => ?_, W2, f2.trans (f1.trans z0), (O0.tr O1).tr O2⟩
    refine callD_go 9 hd rfl (fun e he => ?_)
    show R e m_X8_greed 0 [.val (.ref 127), .unset, .unset, .unset, .unset, .unset] [] T M F = _
    have r1 := r1 e (by omega)
    have r2 := fun l5 => r2 e l5 (by omega)
    unfold w0 at r1
    rw [List.length_nil, Int.natCast_zero] at r2
    clear hW W0 O0 hP W1 O1 R1 L1 hq W2 O2 R2
    simp (disch := omega) only [x_X8_greed_0, x_X8_greed_1, x_X8_greed_2, x_X8_greed_5, x_X8_greed_6, x_X8_greed_7, x_X8_greed_10, x_X8_greed_13, x_X8_greed_14, x_X8_greed_15, x_X8_greed_16, x_X8_greed_17, x_X8_greed_18, x_X8_greed_19, List.length_cons, List.length_nil, Nat.reduceLeDiff, Nat.zero_add, iI_add, iI_sub, iI_mul, iI_neg, iI_lt, iI_le, iI_eq, jI_iI, B_True, B_False, B_t, B_f, ck_True, gd_True, cb_v, cb_n, p_mv_rw, p_fv_rw, p_rv_some, pA_1, pA_90, pA_92, pA_3, pA_2, pA_93, pA_4, pA_91, pA_95, pS_i, pW_i, pZ_0, pZ_1, pZ_b, bI_e0, u1_s, u1_n, uA_s, uA_n, true_and, and_true, not_true_eq_false, not_false_eq_true, eq_self, iI_z, al1, al2, al3, al4, al90, al91, al92, al93, al95, Int.cast_ofNat_Int, Nat.reduceAdd, Int.reduceNeg, Int.reduceAdd, Int.reduceSub, Int.reduceMul, Int.reduceLT, Int.reduceLE, Int.reduceGT, Int.reduceGE, Int.reduceEq, Int.reduceNe, Nat.reduceEqDiff, Int.zero_add, Int.add_zero, p_ty0, p_ty1, p_ty2, p_ty3, p_ty4, p_ty5, p_ty6, p_ty7, p_ty8, p_ty9, p_ty10, p_ty11, v127, v137, w16, r1, r2, gd_t, B_t, B_f]
theorem y_hanging (hW : MW T M F bd lg N S ea bs z) (hP : SPx S) (hn0 : -2147483648 ≤ n ∧ n < 2147483648) : (n = 0 ∨ n = 1 → YRet bd N T M F m_X8_hanging [.ref 127, .int (iI n)] 10 (.int (iI (hgd S.1 n 91 0 (-1) 0))) 0 S ea bs z) ∧ (¬ (n = 0 ∨ n = 1) → YRet bd N T M F m_X8_hanging [.ref 127, .int (iI n)] 10 (.int (iI 0)) 1 S ea bs z) := by
  have hY := hW.1.1
  have t0 := hY.1
  have hin := fun e (he : 9 ≤ e) => fun M => y_isIn (d := e) (T := T) (M := M) (F := F) (n := n) (a := 0) (c := 1) (by omega) hn0 (by omega) (by omega)
  have hb := hP.1.1
  refine ⟨fun hn => ?_, fun hn => YRet.no hW (fun d hd => ?_)⟩
  · obtain ⟨W0, z0, O0⟩ := hW.wz 0
    refine ⟨T, w0 M 0, F, lg, N, fun d hd => ?_, W0, z0, O0⟩
    refine callD_go 9 hd rfl (fun e he => ?_)
    have s1 := W0.2.1.2.1
    have hG := W0.2.1.1
    have key : ∀ (m : Nat) (k best most : Int) (l5 : Slot), k + m = 91 → 0 ≤ k → (-1 ≤ best ∧ best < 91) → (0 ≤ most ∧ most ≤ 10) → R e m_X8_hanging 27 [.val (.ref 127), .val (.int (iI n)), .val (.int (iI best)), .val (.int (iI most)), .val (.int (iI k)), l5] [] T (w0 M 0) F = some (.inl (some (.int (iI (hgd S.1 n m k best most)))), T, w0 M 0, F) := by
      have hY' := hY
      obtain ⟨ty127, ty128, fy1, ty129, fy4, ty130, fy5, ty131, fy6, ty132, fy7, ty133, fy8, ty136, fy15, ty137, fy16, ty138, fy17, ty139, fy18, ty140, fy19, ty141, fy20, ty142, fy21, ty143, fy22, hbd, tybd, fy9, hlg, tylg, fy13, hN⟩ := hY
      intro m
      induction m with
      | zero =>
        intro k best most l5 hk h0 hb hm
        obtain rfl : k = 91 := by omega
        rw [hgd]
        clear hW hP W0 O0 hG hb
        simp (disch := omega) only [x_X8_hanging_27, x_X8_hanging_29, x_X8_hanging_31, x_X8_hanging_106, x_X8_hanging_107, List.length_cons, List.length_nil, Nat.reduceLeDiff, Nat.zero_add, iI_add, iI_sub, iI_mul, iI_neg, iI_lt, iI_le, iI_eq, jI_iI, B_True, B_False, B_t, B_f, ck_True, gd_True, cb_v, cb_n, p_mv_rw, p_fv_rw, p_rv_some, pA_1, pA_90, pA_92, pA_3, pA_2, pA_93, pA_4, pA_91, pA_95, pS_i, pW_i, pZ_0, pZ_1, pZ_b, bI_e0, u1_s, u1_n, uA_s, uA_n, true_and, and_true, not_true_eq_false, not_false_eq_true, eq_self, iI_z, al1, al2, al3, al4, al90, al91, al92, al93, al95, Int.cast_ofNat_Int, Nat.reduceAdd, Int.reduceNeg, Int.reduceAdd, Int.reduceSub, Int.reduceMul, Int.reduceLT, Int.reduceLE, Int.reduceGT, Int.reduceGE, Int.reduceEq, Int.reduceNe, Nat.reduceEqDiff, Int.zero_add, Int.add_zero, p_ty0, p_ty1, p_ty2, p_ty3, p_ty4, p_ty5, p_ty6, p_ty7, p_ty8, p_ty9, p_ty10, p_ty11, B_t, B_f]
      | succ m ih =>
        intro k best most l5 hk h0 hbe hm
        have hk' : 0 ≤ k ∧ k < 91 := by omega
        have hbk := hb k
        have o2 := m_wor_rg (x := S.1 k % 10)
        have p1 := y_piece (d := e) (T := T) (M := w0 M 0) (F := F) (n := S.1 k) (by omega) (by omega)
        have p2 := y_side (d := e) (T := T) (M := w0 M 0) (F := F) (n := S.1 k) (by omega) (by omega)
        have p3 := y_worth (d := e) (T := T) (M := w0 M 0) (F := F) (n := S.1 k % 10) (by omega) (by omega)
        have a1 := y_att (d := e) (p := k) (s := n) hY' hG (by rw [s1]; exact hb) (by omega) hk' hn
        have a2 := y_att (d := e) (p := k) (s := 1 - n) hY' hG (by rw [s1]; exact hb) (by omega) hk' (by omega)
        rw [s1] at a1 a2
        have r1 := m_att_rg S.1 k n
        have r2 := m_att_rg S.1 k (1 - n)
        have hms := m_side_rg hbk
        have iha := fun l5 => ih (k + 1) k (m_wor (S.1 k % 10)) l5 (by omega) (by omega) (by omega) o2
        have ihb := fun l5 => ih (k + 1) best most l5 (by omega) (by omega) hbe hm
        clear ih hW hP W0 O0 hG hb hY' hbk
        rw [hgd, x_X8_hanging_27]
        by_cases c1 : m_side (S.1 k) = n
        · by_cases c2 : most < m_wor (S.1 k % 10)
          · by_cases c3 : 0 < m_att S.1 k (1 - n)
            · by_cases c4 : m_att S.1 k n = 0
              · rw [if_pos ⟨c1, c2, c3, c4⟩]
                simp (disch := omega) only [x_X8_hanging_29, x_X8_hanging_31, x_X8_hanging_34, x_X8_hanging_35, x_X8_hanging_38, x_X8_hanging_40, x_X8_hanging_41, x_X8_hanging_44, x_X8_hanging_47, x_X8_hanging_49, x_X8_hanging_50, x_X8_hanging_53, x_X8_hanging_55, x_X8_hanging_56, x_X8_hanging_59, x_X8_hanging_60, x_X8_hanging_63, x_X8_hanging_65, x_X8_hanging_66, x_X8_hanging_69, x_X8_hanging_70, x_X8_hanging_72, x_X8_hanging_73, x_X8_hanging_74, x_X8_hanging_75, x_X8_hanging_78, x_X8_hanging_81, x_X8_hanging_82, x_X8_hanging_84, x_X8_hanging_85, x_X8_hanging_88, x_X8_hanging_91, x_X8_hanging_94, x_X8_hanging_96, x_X8_hanging_97, x_X8_hanging_99, x_X8_hanging_100, x_X8_hanging_103, List.length_cons, List.length_nil, Nat.reduceLeDiff, Nat.zero_add, iI_add, iI_sub, iI_mul, iI_neg, iI_lt, iI_le, iI_eq, jI_iI, B_True, B_False, B_t, B_f, ck_True, gd_True, cb_v, cb_n, p_mv_rw, p_fv_rw, p_rv_some, pA_1, pA_90, pA_92, pA_3, pA_2, pA_93, pA_4, pA_91, pA_95, pS_i, pW_i, pZ_0, pZ_1, pZ_b, bI_e0, u1_s, u1_n, uA_s, uA_n, true_and, and_true, not_true_eq_false, not_false_eq_true, eq_self, iI_z, al1, al2, al3, al4, al90, al91, al92, al93, al95, Int.cast_ofNat_Int, Nat.reduceAdd, Int.reduceNeg, Int.reduceAdd, Int.reduceSub, Int.reduceMul, Int.reduceLT, Int.reduceLE, Int.reduceGT, Int.reduceGE, Int.reduceEq, Int.reduceNe, Nat.reduceEqDiff, Int.zero_add, Int.add_zero, p_ty0, p_ty1, p_ty2, p_ty3, p_ty4, p_ty5, p_ty6, p_ty7, p_ty8, p_ty9, p_ty10, p_ty11, ty127, ty128, fy1, ty129, fy4, ty130, fy5, ty131, fy6, ty132, fy7, ty133, fy8, ty136, fy15, ty137, fy16, ty138, fy17, ty139, fy18, ty140, fy19, ty141, fy20, ty142, fy21, ty143, fy22, tybd, fy9, tylg, fy13, s1, p1, p2, p3, a1, a2, c1, c4, gd_t, B_t, B_f, iha]
              · rw [if_neg (fun z => c4 z.2.2.2)]
                simp (disch := omega) only [x_X8_hanging_29, x_X8_hanging_31, x_X8_hanging_34, x_X8_hanging_35, x_X8_hanging_38, x_X8_hanging_40, x_X8_hanging_41, x_X8_hanging_44, x_X8_hanging_47, x_X8_hanging_49, x_X8_hanging_50, x_X8_hanging_53, x_X8_hanging_55, x_X8_hanging_56, x_X8_hanging_59, x_X8_hanging_60, x_X8_hanging_63, x_X8_hanging_65, x_X8_hanging_66, x_X8_hanging_69, x_X8_hanging_70, x_X8_hanging_72, x_X8_hanging_73, x_X8_hanging_74, x_X8_hanging_75, x_X8_hanging_78, x_X8_hanging_81, x_X8_hanging_82, x_X8_hanging_84, x_X8_hanging_85, x_X8_hanging_88, x_X8_hanging_91, x_X8_hanging_94, x_X8_hanging_96, x_X8_hanging_97, x_X8_hanging_99, x_X8_hanging_100, x_X8_hanging_103, List.length_cons, List.length_nil, Nat.reduceLeDiff, Nat.zero_add, iI_add, iI_sub, iI_mul, iI_neg, iI_lt, iI_le, iI_eq, jI_iI, B_True, B_False, B_t, B_f, ck_True, gd_True, cb_v, cb_n, p_mv_rw, p_fv_rw, p_rv_some, pA_1, pA_90, pA_92, pA_3, pA_2, pA_93, pA_4, pA_91, pA_95, pS_i, pW_i, pZ_0, pZ_1, pZ_b, bI_e0, u1_s, u1_n, uA_s, uA_n, true_and, and_true, not_true_eq_false, not_false_eq_true, eq_self, iI_z, al1, al2, al3, al4, al90, al91, al92, al93, al95, Int.cast_ofNat_Int, Nat.reduceAdd, Int.reduceNeg, Int.reduceAdd, Int.reduceSub, Int.reduceMul, Int.reduceLT, Int.reduceLE, Int.reduceGT, Int.reduceGE, Int.reduceEq, Int.reduceNe, Nat.reduceEqDiff, Int.zero_add, Int.add_zero, p_ty0, p_ty1, p_ty2, p_ty3, p_ty4, p_ty5, p_ty6, p_ty7, p_ty8, p_ty9, p_ty10, p_ty11, ty127, ty128, fy1, ty129, fy4, ty130, fy5, ty131, fy6, ty132, fy7, ty133, fy8, ty136, fy15, ty137, fy16, ty138, fy17, ty139, fy18, ty140, fy19, ty141, fy20, ty142, fy21, ty143, fy22, tybd, fy9, tylg, fy13, s1, p1, p2, p3, a1, a2, c1, gd_t, B_t, B_f, ihb]
            · rw [if_neg (fun z => c3 z.2.2.1)]
              have c3' : m_att S.1 k (1 - n) = 0 := by omega
              simp (disch := omega) only [x_X8_hanging_29, x_X8_hanging_31, x_X8_hanging_34, x_X8_hanging_35, x_X8_hanging_38, x_X8_hanging_40, x_X8_hanging_41, x_X8_hanging_44, x_X8_hanging_47, x_X8_hanging_49, x_X8_hanging_50, x_X8_hanging_53, x_X8_hanging_55, x_X8_hanging_56, x_X8_hanging_59, x_X8_hanging_60, x_X8_hanging_63, x_X8_hanging_65, x_X8_hanging_66, x_X8_hanging_69, x_X8_hanging_70, x_X8_hanging_72, x_X8_hanging_73, x_X8_hanging_74, x_X8_hanging_75, x_X8_hanging_78, x_X8_hanging_81, x_X8_hanging_82, x_X8_hanging_84, x_X8_hanging_85, x_X8_hanging_88, x_X8_hanging_91, x_X8_hanging_94, x_X8_hanging_96, x_X8_hanging_97, x_X8_hanging_99, x_X8_hanging_100, x_X8_hanging_103, List.length_cons, List.length_nil, Nat.reduceLeDiff, Nat.zero_add, iI_add, iI_sub, iI_mul, iI_neg, iI_lt, iI_le, iI_eq, jI_iI, B_True, B_False, B_t, B_f, ck_True, gd_True, cb_v, cb_n, p_mv_rw, p_fv_rw, p_rv_some, pA_1, pA_90, pA_92, pA_3, pA_2, pA_93, pA_4, pA_91, pA_95, pS_i, pW_i, pZ_0, pZ_1, pZ_b, bI_e0, u1_s, u1_n, uA_s, uA_n, true_and, and_true, not_true_eq_false, not_false_eq_true, eq_self, iI_z, al1, al2, al3, al4, al90, al91, al92, al93, al95, Int.cast_ofNat_Int, Nat.reduceAdd, Int.reduceNeg, Int.reduceAdd, Int.reduceSub, Int.reduceMul, Int.reduceLT, Int.reduceLE, Int.reduceGT, Int.reduceGE, Int.reduceEq, Int.reduceNe, Nat.reduceEqDiff, Int.zero_add, Int.add_zero, p_ty0, p_ty1, p_ty2, p_ty3, p_ty4, p_ty5, p_ty6, p_ty7, p_ty8, p_ty9, p_ty10, p_ty11, ty127, ty128, fy1, ty129, fy4, ty130, fy5, ty131, fy6, ty132, fy7, ty133, fy8, ty136, fy15, ty137, fy16, ty138, fy17, ty139, fy18, ty140, fy19, ty141, fy20, ty142, fy21, ty143, fy22, tybd, fy9, tylg, fy13, s1, p1, p2, p3, a1, a2, c1, c3', gd_t, B_t, B_f, ihb]
          · rw [if_neg (fun z => c2 z.2.1)]
            simp (disch := omega) only [x_X8_hanging_29, x_X8_hanging_31, x_X8_hanging_34, x_X8_hanging_35, x_X8_hanging_38, x_X8_hanging_40, x_X8_hanging_41, x_X8_hanging_44, x_X8_hanging_47, x_X8_hanging_49, x_X8_hanging_50, x_X8_hanging_53, x_X8_hanging_55, x_X8_hanging_56, x_X8_hanging_59, x_X8_hanging_60, x_X8_hanging_63, x_X8_hanging_65, x_X8_hanging_66, x_X8_hanging_69, x_X8_hanging_70, x_X8_hanging_72, x_X8_hanging_73, x_X8_hanging_74, x_X8_hanging_75, x_X8_hanging_78, x_X8_hanging_81, x_X8_hanging_82, x_X8_hanging_84, x_X8_hanging_85, x_X8_hanging_88, x_X8_hanging_91, x_X8_hanging_94, x_X8_hanging_96, x_X8_hanging_97, x_X8_hanging_99, x_X8_hanging_100, x_X8_hanging_103, List.length_cons, List.length_nil, Nat.reduceLeDiff, Nat.zero_add, iI_add, iI_sub, iI_mul, iI_neg, iI_lt, iI_le, iI_eq, jI_iI, B_True, B_False, B_t, B_f, ck_True, gd_True, cb_v, cb_n, p_mv_rw, p_fv_rw, p_rv_some, pA_1, pA_90, pA_92, pA_3, pA_2, pA_93, pA_4, pA_91, pA_95, pS_i, pW_i, pZ_0, pZ_1, pZ_b, bI_e0, u1_s, u1_n, uA_s, uA_n, true_and, and_true, not_true_eq_false, not_false_eq_true, eq_self, iI_z, al1, al2, al3, al4, al90, al91, al92, al93, al95, Int.cast_ofNat_Int, Nat.reduceAdd, Int.reduceNeg, Int.reduceAdd, Int.reduceSub, Int.reduceMul, Int.reduceLT, Int.reduceLE, Int.reduceGT, Int.reduceGE, Int.reduceEq, Int.reduceNe, Nat.reduceEqDiff, Int.zero_add, Int.add_zero, p_ty0, p_ty1, p_ty2, p_ty3, p_ty4, p_ty5, p_ty6, p_ty7, p_ty8, p_ty9, p_ty10, p_ty11, ty127, ty128, fy1, ty129, fy4, ty130, fy5, ty131, fy6, ty132, fy7, ty133, fy8, ty136, fy15, ty137, fy16, ty138, fy17, ty139, fy18, ty140, fy19, ty141, fy20, ty142, fy21, ty143, fy22, tybd, fy9, tylg, fy13, s1, p1, p2, p3, c1, gd_t, B_t, B_f, ihb]
        · rw [if_neg (fun z => c1 z.1)]
          simp (disch := omega) only [x_X8_hanging_29, x_X8_hanging_31, x_X8_hanging_34, x_X8_hanging_35, x_X8_hanging_38, x_X8_hanging_40, x_X8_hanging_41, x_X8_hanging_44, x_X8_hanging_47, x_X8_hanging_49, x_X8_hanging_50, x_X8_hanging_53, x_X8_hanging_55, x_X8_hanging_56, x_X8_hanging_59, x_X8_hanging_60, x_X8_hanging_63, x_X8_hanging_65, x_X8_hanging_66, x_X8_hanging_69, x_X8_hanging_70, x_X8_hanging_72, x_X8_hanging_73, x_X8_hanging_74, x_X8_hanging_75, x_X8_hanging_78, x_X8_hanging_81, x_X8_hanging_82, x_X8_hanging_84, x_X8_hanging_85, x_X8_hanging_88, x_X8_hanging_91, x_X8_hanging_94, x_X8_hanging_96, x_X8_hanging_97, x_X8_hanging_99, x_X8_hanging_100, x_X8_hanging_103, List.length_cons, List.length_nil, Nat.reduceLeDiff, Nat.zero_add, iI_add, iI_sub, iI_mul, iI_neg, iI_lt, iI_le, iI_eq, jI_iI, B_True, B_False, B_t, B_f, ck_True, gd_True, cb_v, cb_n, p_mv_rw, p_fv_rw, p_rv_some, pA_1, pA_90, pA_92, pA_3, pA_2, pA_93, pA_4, pA_91, pA_95, pS_i, pW_i, pZ_0, pZ_1, pZ_b, bI_e0, u1_s, u1_n, uA_s, uA_n, true_and, and_true, not_true_eq_false, not_false_eq_true, eq_self, iI_z, al1, al2, al3, al4, al90, al91, al92, al93, al95, Int.cast_ofNat_Int, Nat.reduceAdd, Int.reduceNeg, Int.reduceAdd, Int.reduceSub, Int.reduceMul, Int.reduceLT, Int.reduceLE, Int.reduceGT, Int.reduceGE, Int.reduceEq, Int.reduceNe, Nat.reduceEqDiff, Int.zero_add, Int.add_zero, p_ty0, p_ty1, p_ty2, p_ty3, p_ty4, p_ty5, p_ty6, p_ty7, p_ty8, p_ty9, p_ty10, p_ty11, ty127, ty128, fy1, ty129, fy4, ty130, fy5, ty131, fy6, ty132, fy7, ty133, fy8, ty136, fy15, ty137, fy16, ty138, fy17, ty139, fy18, ty140, fy19, ty141, fy20, ty142, fy21, ty143, fy22, tybd, fy9, tylg, fy13, s1, p1, p2, p3, gd_t, B_t, B_f, ihb]
    have h9 := fun l5 => key 91 0 (-1) 0 l5 (by omega) (by omega) (by omega) (by omega)
    show R e m_X8_hanging 0 [.val (.ref 127), .val (.int (iI n)), .unset, .unset, .unset, .unset] [] T M F = _
    have hin := hin e he
    rw [bI_t (by omega)] at hin
    unfold w0 at h9 ⊢
    clear key hW hP W0 O0 hG hb hY s1
    simp (disch := omega) only [x_X8_hanging_0, x_X8_hanging_1, x_X8_hanging_2, x_X8_hanging_5, x_X8_hanging_6, x_X8_hanging_7, x_X8_hanging_8, x_X8_hanging_11, x_X8_hanging_14, x_X8_hanging_15, x_X8_hanging_16, x_X8_hanging_19, x_X8_hanging_20, x_X8_hanging_21, x_X8_hanging_22, x_X8_hanging_23, x_X8_hanging_24, x_X8_hanging_25, List.length_cons, List.length_nil, Nat.reduceLeDiff, Nat.zero_add, iI_add, iI_sub, iI_mul, iI_neg, iI_lt, iI_le, iI_eq, jI_iI, B_True, B_False, B_t, B_f, ck_True, gd_True, cb_v, cb_n, p_mv_rw, p_fv_rw, p_rv_some, pA_1, pA_90, pA_92, pA_3, pA_2, pA_93, pA_4, pA_91, pA_95, pS_i, pW_i, pZ_0, pZ_1, pZ_b, bI_e0, u1_s, u1_n, uA_s, uA_n, true_and, and_true, not_true_eq_false, not_false_eq_true, eq_self, iI_z, al1, al2, al3, al4, al90, al91, al92, al93, al95, Int.cast_ofNat_Int, Nat.reduceAdd, Int.reduceNeg, Int.reduceAdd, Int.reduceSub, Int.reduceMul, Int.reduceLT, Int.reduceLE, Int.reduceGT, Int.reduceGE, Int.reduceEq, Int.reduceNe, Nat.reduceEqDiff, Int.zero_add, Int.add_zero, p_ty0, p_ty1, p_ty2, p_ty3, p_ty4, p_ty5, p_ty6, p_ty7, p_ty8, p_ty9, p_ty10, p_ty11, t0, hin, h9, gd_t, B_t, B_f]
  · refine callD_go 9 hd rfl (fun e he => ?_)
    show R e m_X8_hanging 0 [.val (.ref 127), .val (.int (iI n)), .unset, .unset, .unset, .unset] [] T M F = _
    have hin := hin e he
    rw [bI_f (by omega)] at hin
    have hno := y_no (d := e) (M := w0 M 0) (x := 1) hY (by omega) (by omega)
    rw [w0_w0] at hno
    unfold w0 at hno ⊢
    clear hW hY hP hb
    simp (disch := omega) only [x_X8_hanging_0, x_X8_hanging_1, x_X8_hanging_2, x_X8_hanging_5, x_X8_hanging_6, x_X8_hanging_7, x_X8_hanging_8, x_X8_hanging_11, x_X8_hanging_14, x_X8_hanging_15, x_X8_hanging_16, x_X8_hanging_19, List.length_cons, List.length_nil, Nat.reduceLeDiff, Nat.zero_add, iI_add, iI_sub, iI_mul, iI_neg, iI_lt, iI_le, iI_eq, jI_iI, B_True, B_False, B_t, B_f, ck_True, gd_True, cb_v, cb_n, p_mv_rw, p_fv_rw, p_rv_some, pA_1, pA_90, pA_92, pA_3, pA_2, pA_93, pA_4, pA_91, pA_95, pS_i, pW_i, pZ_0, pZ_1, pZ_b, bI_e0, u1_s, u1_n, uA_s, uA_n, true_and, and_true, not_true_eq_false, not_false_eq_true, eq_self, iI_z, al1, al2, al3, al4, al90, al91, al92, al93, al95, Int.cast_ofNat_Int, Nat.reduceAdd, Int.reduceNeg, Int.reduceAdd, Int.reduceSub, Int.reduceMul, Int.reduceLT, Int.reduceLE, Int.reduceGT, Int.reduceGE, Int.reduceEq, Int.reduceNe, Nat.reduceEqDiff, Int.zero_add, Int.add_zero, p_ty0, p_ty1, p_ty2, p_ty3, p_ty4, p_ty5, p_ty6, p_ty7, p_ty8, p_ty9, p_ty10, p_ty11, t0, hin, hno, gd_t, B_t, B_f]
end PYGR
