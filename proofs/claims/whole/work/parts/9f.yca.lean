section PYCA
variable {d bd lg N lg1 N1 cs ss cs1 ss1 : Nat} {T T1 T2 : pT} {M M0 M1 M2 : pM} {F F1 F2 : pF} {bs bb : Int → Int} {z c x n1 w s t pas q er p its to acc st : Int} {k i m n j l : Nat} {S : GSx} {R0 R' : List TKn} {y : TKn}
theorem dput_sp (hP : SPx S) (hz : ZB S.1) (hs : knum (R0.getD 0 tk0).2.1 = 0 ∨ knum (R0.getD 0 tk0).2.1 = 1) (hx : 1 ≤ knum (R0.getD 1 tk0).2.1 ∧ knum (R0.getD 1 tk0).2.1 ≤ 6) (hc : -1 ≤ (R0.getD 2 tk0).2.2 ∧ (R0.getD 2 tk0).2.2 < 91) : SPx (d_put R0 S).2.2 ∧ ZB (d_put R0 S).2.2.1 := by
  unfold d_put
  by_cases c1 : 20 ≤ sm (a_pc S.1 (knum (R0.getD 0 tk0).2.1)) 91
  · rw [if_pos c1]; exact ⟨hP, hz⟩
  rw [if_neg c1]
  by_cases c2 : knum (R0.getD 1 tk0).2.1 = 1 ∧ m_king S.1 (knum (R0.getD 0 tk0).2.1) ≠ -1
  · rw [if_pos c2]; exact ⟨hP, hz⟩
  rw [if_neg c2]
  by_cases c3 : (R0.getD 2 tk0).2.2 = -1
  · rw [if_pos c3]; exact ⟨hP, hz⟩
  rw [if_neg c3]
  by_cases c4 : S.1 (R0.getD 2 tk0).2.2 ≠ 0
  · rw [if_pos c4]; exact ⟨hP, hz⟩
  rw [if_neg c4]
  have c5 : S.1 (R0.getD 2 tk0).2.2 = 0 := Classical.byContradiction (fun q => c4 q)
  exact ⟨⟨hP.1.putS hs hx (by omega) c5 c1 c2, trivial⟩, hz.uZ (by omega)⟩
theorem dgo_sp (hP : SPx S) (hz : ZB S.1) (o1 : -1 ≤ (R0.getD 0 tk0).2.2 ∧ (R0.getD 0 tk0).2.2 < 91) (o2 : -1 ≤ (R0.getD 1 tk0).2.2 ∧ (R0.getD 1 tk0).2.2 < 91) (k4 : (R0.getD 2 tk0).2.1 = 4 → 7 ≤ (R0.getD 3 tk0).2.1 ∧ (R0.getD 3 tk0).2.1 ≤ 12) : SPx (d_go y R0 S).2.2 ∧ ZB (d_go y R0 S).2.2.1 := by
  unfold d_go
  by_cases c1 : (lgQ S.1 S.2.1 S.2.2.1 S.2.2.2.1).length = 0
  · rw [if_pos c1]; exact ⟨hP, hz⟩
  rw [if_neg c1]
  by_cases c2 : (R0.getD 0 tk0).2.2 = -1
  · rw [if_pos c2]; exact ⟨hP, hz⟩
  rw [if_neg c2]
  by_cases c3 : cntF (R0.getD 0 tk0).2.2 (lgQ S.1 S.2.1 S.2.2.1 S.2.2.2.1) = 0
  · rw [if_pos c3]; exact ⟨hP, hz⟩
  rw [if_neg c3]
  by_cases c4 : (R0.getD 1 tk0).2.2 = -1
  · rw [if_pos c4]; exact ⟨hP, hz⟩
  rw [if_neg c4]
  by_cases c5 : 91 * (R0.getD 0 tk0).2.2 + (R0.getD 1 tk0).2.2 ∉ lgQ S.1 S.2.1 S.2.2.1 S.2.2.2.1
  · rw [if_pos c5]; exact ⟨hP, hz⟩
  rw [if_neg c5]
  have c6 : 91 * (R0.getD 0 tk0).2.2 + (R0.getD 1 tk0).2.2 ∈ lgQ S.1 S.2.1 S.2.2.1 S.2.2.2.1 := Classical.byContradiction (fun q => c5 q)
  obtain ⟨z1, z2, z3, z4⟩ := lgQ_mv c6 (by omega) (by omega)
  by_cases c7 : (R0.getD 2 tk0).2.1 = 4 ∧ (knum (R0.getD 3 tk0).2.1 = 1 ∨ knum (R0.getD 3 tk0).2.1 = 6 ∨ ¬ mk_be S.1 (R0.getD 0 tk0).2.2 (R0.getD 1 tk0).2.2)
  · rw [if_pos c7]; exact ⟨hP, hz⟩
  rw [if_neg c7]
  have hasr : 2 ≤ (if (R0.getD 2 tk0).2.1 = 4 then knum (R0.getD 3 tk0).2.1 else 2) ∧ (if (R0.getD 2 tk0).2.1 = 4 then knum (R0.getD 3 tk0).2.1 else 2) ≤ 5 := by
    by_cases c : (R0.getD 2 tk0).2.1 = 4
    · have h6 := k4 c
      rw [if_pos c]
      have q1 : knum (R0.getD 3 tk0).2.1 ≠ 1 := fun q => c7 ⟨c, Or.inl q⟩
      have q2 : knum (R0.getD 3 tk0).2.1 ≠ 6 := fun q => c7 ⟨c, Or.inr (Or.inl q)⟩
      have kn : knum (R0.getD 3 tk0).2.1 = ((R0.getD 3 tk0).2.1 : Int) - 6 := by
        unfold knum; rw [if_neg (by omega), if_neg (by omega), if_pos (by omega)]
      omega
    · rw [if_neg c]; omega
  obtain ⟨y1, y2, -⟩ := mk_pl_rg hP.1.1 hP.1.2.2.2.1 hP.1.2.2.2.2.1 z3
  refine ⟨hP.mv z1 z3 hasr, ?_⟩
  show ZB (mk_bb _ _ _ _ _)
  unfold mk_bb
  exact ((hz.uZ y1).uZ (by omega)).uZ (by omega)
theorem d_skip (h : 4 ≤ y.2.1) : d_run (y :: R0) S = d_run R0 S := by
  rw [d_run, if_neg (by omega), if_neg (by omega), if_neg (by omega), if_neg (by omega)]
/-- a loop's end, as a call's -/
def YLR (T : pT) (M : pM) (F : pF) (bd lg N m i cs ss : Nat) (r : Int × Int × GSx) : Prop :=
  ∃ T' M' F' lg' N', (∀ e l4, 10 ≤ e → R e m_X8_read 30 [.val (.ref 127), .val (.int (iI (m : Int))), .val (.int (iI (i : Int))), .val (.int (iI (i : Int))), l4] [] T M F = some (.inl (some (.int (iI r.1))), T', M', F')) ∧ YQ T' M' F' bd lg' N' r.2.2 ∧ (0 ≤ r.1 ∧ r.1 ≤ 5) ∧ (r.1 ≠ 0 → M' 127 3 = r.2.1) ∧ (r.1 = 0 → M' 127 3 = M 127 3) ∧ (∀ j, j ≠ 3 → j ≠ 10 → j ≠ 11 → j ≠ 12 → j ≠ 14 → M' 127 j = M 127 j) ∧ YCs (XTc bd) cs ss T M F lg N T' M' F' lg' N'
theorem rl_skip (hY : YT T F bd lg N) (hK : TKM M bs z m) (hj : j < m) (h : kcn bs z j ≠ 21) {l4 : Slot} {e : Nat} : R e m_X8_read 30 [.val (.ref 127), .val (.int (iI (m : Int))), .val (.int (iI (i : Int))), .val (.int (iI (j : Int))), l4] [] T M F = R e m_X8_read 30 [.val (.ref 127), .val (.int (iI (m : Int))), .val (.int (iI (i : Int))), .val (.int (iI ((j + 1 : Nat) : Int))), l4] [] T M F := by
  have hm := hK.1
  have a := (hK.2.2.2.1 j (by omega)).2
  have hkr := kcn_rg (bs := bs) (z := z) j
  obtain ⟨ty127, ty128, fy1, ty129, fy4, ty130, fy5, ty131, fy6, ty132, fy7, ty133, fy8, ty136, fy15, ty137, fy16, ty138, fy17, ty139, fy18, ty140, fy19, ty141, fy20, ty142, fy21, ty143, fy22, hbd, tybd, fy9, hlg, tylg, fy13, hN⟩ := hY
  rw [Int.natCast_add_one]
  conv => lhs; rw [x_X8_read_30]
  clear hK
  simp (disch := omega) only [x_X8_read_31, x_X8_read_32, x_X8_read_35, x_X8_read_36, x_X8_read_39, x_X8_read_40, x_X8_read_41, x_X8_read_43, x_X8_read_46, x_X8_read_68, x_X8_read_71, List.length_cons, List.length_nil, Nat.reduceLeDiff, Nat.zero_add, iI_add, iI_sub, iI_mul, iI_neg, iI_lt, iI_le, iI_eq, jI_iI, B_True, B_False, B_t, B_f, ck_True, gd_True, cb_v, cb_n, p_mv_rw, p_fv_rw, p_rv_some, pA_1, pA_90, pA_92, pA_3, pA_2, pA_93, pA_4, pA_91, pA_95, pS_i, pW_i, pZ_0, pZ_1, pZ_b, bI_e0, u1_s, u1_n, uA_s, uA_n, true_and, and_true, not_true_eq_false, not_false_eq_true, eq_self, iI_z, al1, al2, al3, al4, al90, al91, al92, al93, al95, Int.cast_ofNat_Int, Nat.reduceAdd, Int.reduceNeg, Int.reduceAdd, Int.reduceSub, Int.reduceMul, Int.reduceLT, Int.reduceLE, Int.reduceGT, Int.reduceGE, Int.reduceEq, Int.reduceNe, Nat.reduceEqDiff, Int.zero_add, Int.add_zero, p_ty0, p_ty1, p_ty2, p_ty3, p_ty4, p_ty5, p_ty6, p_ty7, p_ty8, p_ty9, p_ty10, p_ty11, ty127, ty128, fy1, ty129, fy4, ty130, fy5, ty131, fy6, ty132, fy7, ty133, fy8, ty136, fy15, ty137, fy16, ty138, fy17, ty139, fy18, ty140, fy19, ty141, fy20, ty142, fy21, ty143, fy22, tybd, fy9, tylg, fy13, a, gd_t, B_t, B_f]
theorem rl_semi (hY : YT T F bd lg N) (hK : TKM M bs z m) (hj : j < m) (h : kcn bs z j = 21) {l4 : Slot} {e : Nat} : R e m_X8_read 30 [.val (.ref 127), .val (.int (iI (m : Int))), .val (.int (iI (i : Int))), .val (.int (iI (j : Int))), l4] [] T M F = R e m_X8_read 49 [.val (.ref 127), .val (.int (iI (m : Int))), .val (.int (iI (i : Int))), .val (.int (iI (j : Int))), l4] [] T M F := by
  have hm := hK.1
  have a := (hK.2.2.2.1 j (by omega)).2
  obtain ⟨ty127, ty128, fy1, ty129, fy4, ty130, fy5, ty131, fy6, ty132, fy7, ty133, fy8, ty136, fy15, ty137, fy16, ty138, fy17, ty139, fy18, ty140, fy19, ty141, fy20, ty142, fy21, ty143, fy22, hbd, tybd, fy9, hlg, tylg, fy13, hN⟩ := hY
  clear hK
  simp (disch := omega) only [x_X8_read_30, x_X8_read_31, x_X8_read_32, x_X8_read_35, x_X8_read_36, x_X8_read_39, x_X8_read_40, x_X8_read_41, x_X8_read_43, List.length_cons, List.length_nil, Nat.reduceLeDiff, Nat.zero_add, iI_add, iI_sub, iI_mul, iI_neg, iI_lt, iI_le, iI_eq, jI_iI, B_True, B_False, B_t, B_f, ck_True, gd_True, cb_v, cb_n, p_mv_rw, p_fv_rw, p_rv_some, pA_1, pA_90, pA_92, pA_3, pA_2, pA_93, pA_4, pA_91, pA_95, pS_i, pW_i, pZ_0, pZ_1, pZ_b, bI_e0, u1_s, u1_n, uA_s, uA_n, true_and, and_true, not_true_eq_false, not_false_eq_true, eq_self, iI_z, al1, al2, al3, al4, al90, al91, al92, al93, al95, Int.cast_ofNat_Int, Nat.reduceAdd, Int.reduceNeg, Int.reduceAdd, Int.reduceSub, Int.reduceMul, Int.reduceLT, Int.reduceLE, Int.reduceGT, Int.reduceGE, Int.reduceEq, Int.reduceNe, Nat.reduceEqDiff, Int.zero_add, Int.add_zero, p_ty0, p_ty1, p_ty2, p_ty3, p_ty4, p_ty5, p_ty6, p_ty7, p_ty8, p_ty9, p_ty10, p_ty11, ty127, ty128, fy1, ty129, fy4, ty130, fy5, ty131, fy6, ty132, fy7, ty133, fy8, ty136, fy15, ty137, fy16, ty138, fy17, ty139, fy18, ty140, fy19, ty141, fy20, ty142, fy21, ty143, fy22, tybd, fy9, tylg, fy13, a, h, gd_t, B_t, B_f]
/-- a line is carried out, then the next lines -/
theorem rl_line {r : Int × Int × GSx} (hi : i ≤ 400) (hj : j < m) (hm : m ≤ 400) (h1 : YPR T M F bd lg N m_X8_carryOut [.ref 127, .int (iI (i : Int))] 10 cs ss r)
    (pre : ∀ e l4, R e m_X8_read 30 [.val (.ref 127), .val (.int (iI (m : Int))), .val (.int (iI (i : Int))), .val (.int (iI (i : Int))), l4] [] T M F = R e m_X8_read 49 [.val (.ref 127), .val (.int (iI (m : Int))), .val (.int (iI (i : Int))), .val (.int (iI (j : Int))), l4] [] T M F)
    (t0 : p_ty T 127 = (18, 24))
    (h2 : ∀ T1 M1 F1 lg1 N1, r.1 = 0 → YQ T1 M1 F1 bd lg1 N1 r.2.2 → YCs (XTc bd) cs ss T M F lg N T1 M1 F1 lg1 N1 → (∀ j, j ≠ 3 → j ≠ 10 → j ≠ 11 → j ≠ 12 → j ≠ 14 → M1 127 j = M 127 j) → YLR T1 M1 F1 bd lg1 N1 m (j + 1) cs1 ss1 (d_run R0 r.2.2)) :
    YLR T M F bd lg N m i (cs + cs1) (ss + ss1) (if r.1 = 0 then d_run R0 r.2.2 else r) := by
  obtain ⟨T1, M1, F1, lg1, N1, r1, Q1, rg, p1, p2, j1, C1⟩ := h1
  by_cases c : r.1 = 0
  · rw [if_pos c]
    obtain ⟨T2, M2, F2, lg2, N2, r2, Q2, rg2, p1', p2', j2, C2⟩ := h2 T1 M1 F1 lg1 N1 c Q1 C1 j1
    refine ⟨T2, M2, F2, lg2, N2, fun e l4 he => ?_, Q2, rg2, p1', fun q => (p2' q).trans (p2 c), fun j a1 a2 a3 a4 a5 => (j2 j a1 a2 a3 a4 a5).trans (j1 j a1 a2 a3 a4 a5), C1.tr C2⟩
    rw [pre e l4]
    have r1 := r1 e he
    have r2 := fun l4 => r2 e l4 he
    rw [c] at r1
    rw [Int.natCast_add_one] at r2
    clear pre h2 Q1 C1 j1 Q2 C2 j2 p1 p2 p1' p2'
    simp (disch := omega) only [x_X8_read_49, x_X8_read_50, x_X8_read_51, x_X8_read_54, x_X8_read_56, x_X8_read_58, x_X8_read_61, x_X8_read_63, x_X8_read_64, x_X8_read_65, x_X8_read_66, x_X8_read_67, x_X8_read_68, x_X8_read_71, List.length_cons, List.length_nil, Nat.reduceLeDiff, Nat.zero_add, iI_add, iI_sub, iI_mul, iI_neg, iI_lt, iI_le, iI_eq, jI_iI, B_True, B_False, B_t, B_f, ck_True, gd_True, cb_v, cb_n, p_mv_rw, p_fv_rw, p_rv_some, pA_1, pA_90, pA_92, pA_3, pA_2, pA_93, pA_4, pA_91, pA_95, pS_i, pW_i, pZ_0, pZ_1, pZ_b, bI_e0, u1_s, u1_n, uA_s, uA_n, true_and, and_true, not_true_eq_false, not_false_eq_true, eq_self, iI_z, al1, al2, al3, al4, al90, al91, al92, al93, al95, Int.cast_ofNat_Int, Nat.reduceAdd, Int.reduceNeg, Int.reduceAdd, Int.reduceSub, Int.reduceMul, Int.reduceLT, Int.reduceLE, Int.reduceGT, Int.reduceGE, Int.reduceEq, Int.reduceNe, Nat.reduceEqDiff, Int.zero_add, Int.add_zero, p_ty0, p_ty1, p_ty2, p_ty3, p_ty4, p_ty5, p_ty6, p_ty7, p_ty8, p_ty9, p_ty10, p_ty11, t0, r1, r2, gd_t, B_t, B_f]
  · rw [if_neg c]
    refine ⟨T1, M1, F1, lg1, N1, fun e l4 he => ?_, Q1, rg, p1, fun q => absurd q c, j1, C1.wk (fun a h => h) (by omega) (by omega)⟩
    rw [pre e l4]
    have r1 := r1 e he
    clear pre h2 Q1 C1 j1 p1 p2
    simp (disch := omega) only [x_X8_read_49, x_X8_read_50, x_X8_read_51, x_X8_read_54, x_X8_read_56, x_X8_read_58, x_X8_read_61, x_X8_read_63, List.length_cons, List.length_nil, Nat.reduceLeDiff, Nat.zero_add, iI_add, iI_sub, iI_mul, iI_neg, iI_lt, iI_le, iI_eq, jI_iI, B_True, B_False, B_t, B_f, ck_True, gd_True, cb_v, cb_n, p_mv_rw, p_fv_rw, p_rv_some, pA_1, pA_90, pA_92, pA_3, pA_2, pA_93, pA_4, pA_91, pA_95, pS_i, pW_i, pZ_0, pZ_1, pZ_b, bI_e0, u1_s, u1_n, uA_s, uA_n, true_and, and_true, not_true_eq_false, not_false_eq_true, eq_self, iI_z, al1, al2, al3, al4, al90, al91, al92, al93, al95, Int.cast_ofNat_Int, Nat.reduceAdd, Int.reduceNeg, Int.reduceAdd, Int.reduceSub, Int.reduceMul, Int.reduceLT, Int.reduceLE, Int.reduceGT, Int.reduceGE, Int.reduceEq, Int.reduceNe, Nat.reduceEqDiff, Int.zero_add, Int.add_zero, p_ty0, p_ty1, p_ty2, p_ty3, p_ty4, p_ty5, p_ty6, p_ty7, p_ty8, p_ty9, p_ty10, p_ty11, t0, r1, gd_t, B_t, B_f]
theorem y_start (hQ : YQ T M F bd lg N S) (hz : ZB S.1) (hK : TKM M bs z m) (hi : i < m) (h0 : kcn bs z i = 0) : YPR T M F bd lg N m_X8_carryOut [.ref 127, .int (iI (i : Int))] 10 2 12 (0, -1, (q_sb, 0, -1, 0, [])) := by
  obtain ⟨hV, hS⟩ := hQ
  have hm := hK.1
  obtain ⟨d0, d0', d1, d2, d3, d4⟩ := id hV.2.1
  have a := (hK.2.2.2.1 i (by omega)).2
  obtain ⟨M1, F1, r1, Y1, D1, b1, e1, f1, g1⟩ := y_setUp hV.1 hV.2.1 hS.1 (by rw [hS.2.1]; exact hz)
  refine ⟨p_new (p_new T 1 6) 1 6, M1, F1, lg, N, fun d hd => ?_, ⟨⟨Y1, D1, hV.2.2.1, trivial, by show 7 * 0 ≤ N; omega, ?_⟩, ⟨?_, b1, ?_, ?_, ?_⟩⟩, ⟨Int.le_refl _, by show (0 : Int) ≤ 5; omega⟩, fun q => absurd rfl q, fun _ => ?_, fun j j3 j10 j11 j12 j14 => ?_, s_mono.new.tr s_mono.new, fun a ha hx hl => f1 a ha (fun q => hx (Or.inl q)) (fun q => hx (Or.inr (Or.inl q))), fun a ha h => g1 a ha, fun j hj => congrFun (g1 127 (by omega)) j, Or.inl rfl, Nat.le_refl _, ?_, ?_, GD.rf⟩
  · refine callD_go 9 hd rfl (fun e he => ?_)
    show R e m_X8_carryOut 0 [.val (.ref 127), .val (.int (iI (i : Int)))] [] T M F = _
    have r1 := r1 e (by omega)
    have ty := hV.1
    obtain ⟨ty127, ty128, fy1, ty129, fy4, ty130, fy5, ty131, fy6, ty132, fy7, ty133, fy8, ty136, fy15, ty137, fy16, ty138, fy17, ty139, fy18, ty140, fy19, ty141, fy20, ty142, fy21, ty143, fy22, hbd, tybd, fy9, hlg, tylg, fy13, hN⟩ := ty
    have c1 : R e m_X8_carryOut 0 [.val (.ref 127), .val (.int (iI (i : Int)))] [] T M F = R e m_X8_carryOut 6 [.val (.ref 127), .val (.int (iI (i : Int)))] [.int (iI 0)] T M F := by
      clear hV hS hK hz r1 Y1 D1 f1 g1
      simp (disch := omega) only [x_X8_carryOut_0, x_X8_carryOut_1, x_X8_carryOut_4, x_X8_carryOut_5, List.length_cons, List.length_nil, Nat.reduceLeDiff, Nat.zero_add, iI_add, iI_sub, iI_mul, iI_neg, iI_lt, iI_le, iI_eq, jI_iI, B_True, B_False, B_t, B_f, ck_True, gd_True, cb_v, cb_n, p_mv_rw, p_fv_rw, p_rv_some, pA_1, pA_90, pA_92, pA_3, pA_2, pA_93, pA_4, pA_91, pA_95, pS_i, pW_i, pZ_0, pZ_1, pZ_b, bI_e0, u1_s, u1_n, uA_s, uA_n, true_and, and_true, not_true_eq_false, not_false_eq_true, eq_self, iI_z, al1, al2, al3, al4, al90, al91, al92, al93, al95, Int.cast_ofNat_Int, Nat.reduceAdd, Int.reduceNeg, Int.reduceAdd, Int.reduceSub, Int.reduceMul, Int.reduceLT, Int.reduceLE, Int.reduceGT, Int.reduceGE, Int.reduceEq, Int.reduceNe, Nat.reduceEqDiff, Int.zero_add, Int.add_zero, p_ty0, p_ty1, p_ty2, p_ty3, p_ty4, p_ty5, p_ty6, p_ty7, p_ty8, p_ty9, p_ty10, p_ty11, ty127, ty128, fy1, ty129, fy4, ty130, fy5, ty131, fy6, ty132, fy7, ty133, fy8, ty136, fy15, ty137, fy16, ty138, fy17, ty139, fy18, ty140, fy19, ty141, fy20, ty142, fy21, ty143, fy22, tybd, fy9, tylg, fy13, a, h0, gd_t]
    rw [c1, x_X8_carryOut_6]
    show R e m_X8_carryOut 32 _ _ _ _ _ = _
    show _ = (some (.inl (some (.int (iI 0))), p_new (p_new T 1 6) 1 6, M1, F1) : Option pR)
    clear hV hS hK hz Y1 D1 f1 g1 c1
    simp (disch := omega) only [x_X8_carryOut_32, x_X8_carryOut_33, x_X8_carryOut_36, x_X8_carryOut_37, List.length_cons, List.length_nil, Nat.reduceLeDiff, Nat.zero_add, iI_add, iI_sub, iI_mul, iI_neg, iI_lt, iI_le, iI_eq, jI_iI, B_True, B_False, B_t, B_f, ck_True, gd_True, cb_v, cb_n, p_mv_rw, p_fv_rw, p_rv_some, pA_1, pA_90, pA_92, pA_3, pA_2, pA_93, pA_4, pA_91, pA_95, pS_i, pW_i, pZ_0, pZ_1, pZ_b, bI_e0, u1_s, u1_n, uA_s, uA_n, true_and, and_true, not_true_eq_false, not_false_eq_true, eq_self, iI_z, al1, al2, al3, al4, al90, al91, al92, al93, al95, Int.cast_ofNat_Int, Nat.reduceAdd, Int.reduceNeg, Int.reduceAdd, Int.reduceSub, Int.reduceMul, Int.reduceLT, Int.reduceLE, Int.reduceGT, Int.reduceGE, Int.reduceEq, Int.reduceNe, Nat.reduceEqDiff, Int.zero_add, Int.add_zero, p_ty0, p_ty1, p_ty2, p_ty3, p_ty4, p_ty5, p_ty6, p_ty7, p_ty8, p_ty9, p_ty10, p_ty11, ty127, r1, gd_t]
  · rw [e1, u1_n (by omega), u1_n (by omega), u1_n (by omega), u1_s]; rfl
  · have hG := hS.1
    unfold YG at hG ⊢
    rw [f1 129 (by omega) (by omega) (by omega), f1 130 (by omega) (by omega) (by omega), f1 131 (by omega) (by omega) (by omega), f1 132 (by omega) (by omega) (by omega), f1 133 (by omega) (by omega) (by omega)]
    exact hG
  · rw [e1, u1_s]
  · rw [e1, u1_n (by omega), u1_n (by omega), u1_s]
  · rw [e1, u1_n (by omega), u1_s]
  · rw [e1, u1_n (by omega), u1_n (by omega), u1_n (by omega), u1_n (by omega)]
  · rw [e1, u1_n j10, u1_n j12, u1_n j11, u1_n j14]
  · show 448 * (T.1.1 + 1 + 1) + N ≤ _; omega
  · show T.1.2 + 6 + 6 + 2 * N ≤ _; omega
theorem y_turn (hQ : YQ T M F bd lg N S) (hK : TKM M bs z m) (hi : i + 1 < m) (h0 : kcn bs z i = 2) (hs : knum (tkn bs z (i + 1)).2.1 = 0 ∨ knum (tkn bs z (i + 1)).2.1 = 1) (h1 : kcn bs z (i + 1) = knum (tkn bs z (i + 1)).2.1 + 5) : YPR T M F bd lg N m_X8_carryOut [.ref 127, .int (iI (i : Int))] 10 0 0 (0, -1, (S.1, knum (tkn bs z (i + 1)).2.1, -1, 0, [])) := by
  obtain ⟨hV, hS⟩ := hQ
  have hm := hK.1
  obtain ⟨d0, d0', d1, d2, d3, d4⟩ := id hV.2.1
  have a := (hK.2.2.2.1 i (by omega)).2
  have a1 := (hK.2.2.2.1 (i + 1) (by omega)).2
  rw [h1] at a1
  generalize knum (tkn bs z (i + 1)).2.1 = s at hs a1
  have f127 : y_bg M s 127 = u1 (u1 (u1 (u1 (M 127) 14 0) 11 (-1)) 12 0) 10 s := by unfold y_bg; rw [uA_s]
  have f1 : ∀ a, a ≠ 127 → y_bg M s a = M a := fun a h1 => by unfold y_bg; rw [uA_n h1]
  refine ⟨T, y_bg M s, F, lg, N, fun d hd => ?_, ⟨⟨hV.1, hV.2.1, hV.2.2.1, trivial, by show 7 * 0 ≤ N; omega, ?_⟩, ⟨?_, ?_, ?_, ?_, ?_⟩⟩, ⟨Int.le_refl _, by show (0 : Int) ≤ 5; omega⟩, fun q => absurd rfl q, fun _ => ?_, fun j j3 j10 j11 j12 j14 => ?_, (YC.wr (fun a ha => f1 a (fun z => ha (Or.inl z)))).sl GD.rf⟩
  · refine callD_go 9 hd rfl (fun e he => ?_)
    show R e m_X8_carryOut 0 [.val (.ref 127), .val (.int (iI (i : Int)))] [] T M F = _
    have ty := hV.1
    obtain ⟨ty127, ty128, fy1, ty129, fy4, ty130, fy5, ty131, fy6, ty132, fy7, ty133, fy8, ty136, fy15, ty137, fy16, ty138, fy17, ty139, fy18, ty140, fy19, ty141, fy20, ty142, fy21, ty143, fy22, hbd, tybd, fy9, hlg, tylg, fy13, hN⟩ := ty
    have c1 : R e m_X8_carryOut 0 [.val (.ref 127), .val (.int (iI (i : Int)))] [] T M F = R e m_X8_carryOut 6 [.val (.ref 127), .val (.int (iI (i : Int)))] [.int (iI 2)] T M F := by
      clear hV hS hK f127 f1
      simp (disch := omega) only [x_X8_carryOut_0, x_X8_carryOut_1, x_X8_carryOut_4, x_X8_carryOut_5, List.length_cons, List.length_nil, Nat.reduceLeDiff, Nat.zero_add, iI_add, iI_sub, iI_mul, iI_neg, iI_lt, iI_le, iI_eq, jI_iI, B_True, B_False, B_t, B_f, ck_True, gd_True, cb_v, cb_n, p_mv_rw, p_fv_rw, p_rv_some, pA_1, pA_90, pA_92, pA_3, pA_2, pA_93, pA_4, pA_91, pA_95, pS_i, pW_i, pZ_0, pZ_1, pZ_b, bI_e0, u1_s, u1_n, uA_s, uA_n, true_and, and_true, not_true_eq_false, not_false_eq_true, eq_self, iI_z, al1, al2, al3, al4, al90, al91, al92, al93, al95, Int.cast_ofNat_Int, Nat.reduceAdd, Int.reduceNeg, Int.reduceAdd, Int.reduceSub, Int.reduceMul, Int.reduceLT, Int.reduceLE, Int.reduceGT, Int.reduceGE, Int.reduceEq, Int.reduceNe, Nat.reduceEqDiff, Int.zero_add, Int.add_zero, p_ty0, p_ty1, p_ty2, p_ty3, p_ty4, p_ty5, p_ty6, p_ty7, p_ty8, p_ty9, p_ty10, p_ty11, ty127, ty128, fy1, ty129, fy4, ty130, fy5, ty131, fy6, ty132, fy7, ty133, fy8, ty136, fy15, ty137, fy16, ty138, fy17, ty139, fy18, ty140, fy19, ty141, fy20, ty142, fy21, ty143, fy22, tybd, fy9, tylg, fy13, a, h0, gd_t]
    rw [c1, x_X8_carryOut_6]
    show R e m_X8_carryOut 44 _ _ _ _ _ = _
    show _ = (some (.inl (some (.int (iI 0))), T, y_bg M s, F) : Option pR)
    have hbg := y_begin (d := e) (M := M) (F := F) (s := s) ty127 hs (by omega)
    have i1 : (i : Int) + 1 = ((i + 1 : Nat) : Int) := by omega
    have e5 : s + 5 - 5 = s := by omega
    clear hV hS hK f127 f1 c1
    simp (disch := omega) only [x_X8_carryOut_44, x_X8_carryOut_45, x_X8_carryOut_46, x_X8_carryOut_49, x_X8_carryOut_50, x_X8_carryOut_51, x_X8_carryOut_52, x_X8_carryOut_53, x_X8_carryOut_54, x_X8_carryOut_55, x_X8_carryOut_58, x_X8_carryOut_59, List.length_cons, List.length_nil, Nat.reduceLeDiff, Nat.zero_add, iI_add, iI_sub, iI_mul, iI_neg, iI_lt, iI_le, iI_eq, jI_iI, B_True, B_False, B_t, B_f, ck_True, gd_True, cb_v, cb_n, p_mv_rw, p_fv_rw, p_rv_some, pA_1, pA_90, pA_92, pA_3, pA_2, pA_93, pA_4, pA_91, pA_95, pS_i, pW_i, pZ_0, pZ_1, pZ_b, bI_e0, u1_s, u1_n, uA_s, uA_n, true_and, and_true, not_true_eq_false, not_false_eq_true, eq_self, iI_z, al1, al2, al3, al4, al90, al91, al92, al93, al95, Int.cast_ofNat_Int, Nat.reduceAdd, Int.reduceNeg, Int.reduceAdd, Int.reduceSub, Int.reduceMul, Int.reduceLT, Int.reduceLE, Int.reduceGT, Int.reduceGE, Int.reduceEq, Int.reduceNe, Nat.reduceEqDiff, Int.zero_add, Int.add_zero, p_ty0, p_ty1, p_ty2, p_ty3, p_ty4, p_ty5, p_ty6, p_ty7, p_ty8, p_ty9, p_ty10, p_ty11, ty127, ty128, fy1, ty129, fy4, ty130, fy5, ty131, fy6, ty132, fy7, ty133, fy8, ty136, fy15, ty137, fy16, ty138, fy17, ty139, fy18, ty140, fy19, ty141, fy20, ty142, fy21, ty143, fy22, tybd, fy9, tylg, fy13, a1, i1, e5, hbg, gd_t]
  · rw [f127, u1_n (by omega), u1_n (by omega), u1_n (by omega), u1_s]; rfl
  · exact hS.1.brd d0 (fun a h1 h2 => f1 a h2)
  · rw [f1 bd (by omega)]; exact hS.2.1
  · rw [f127, u1_s]
  · rw [f127, u1_n (by omega), u1_n (by omega), u1_s]
  · rw [f127, u1_n (by omega), u1_s]
  · rw [f127, u1_n (by omega), u1_n (by omega), u1_n (by omega), u1_n (by omega)]
  · rw [f127, u1_n j10, u1_n j12, u1_n j11, u1_n j14]
theorem y_cput {r : Int × Int × GSx} (hY : YT T F bd lg N) (hK : TKM M bs z m) (hi : i < m) (h0 : kcn bs z i = 1) (h : YPR T M F bd lg N m_X8_put [.ref 127, .int (iI (i : Int))] 5 cs ss r) : YPR T M F bd lg N m_X8_carryOut [.ref 127, .int (iI (i : Int))] 10 cs ss r := by
  obtain ⟨T1, M1, F1, lg1, N1, r1, rest⟩ := h
  refine ⟨T1, M1, F1, lg1, N1, fun d hd => ?_, rest⟩
  refine callD_go 9 hd rfl (fun e he => ?_)
  show R e m_X8_carryOut 0 [.val (.ref 127), .val (.int (iI (i : Int)))] [] T M F = _
  have hm := hK.1
  have a := (hK.2.2.2.1 i (by omega)).2
  have r1 := r1 e (by omega)
  obtain ⟨ty127, ty128, fy1, ty129, fy4, ty130, fy5, ty131, fy6, ty132, fy7, ty133, fy8, ty136, fy15, ty137, fy16, ty138, fy17, ty139, fy18, ty140, fy19, ty141, fy20, ty142, fy21, ty143, fy22, hbd, tybd, fy9, hlg, tylg, fy13, hN⟩ := hY
  have c1 : R e m_X8_carryOut 0 [.val (.ref 127), .val (.int (iI (i : Int)))] [] T M F = R e m_X8_carryOut 6 [.val (.ref 127), .val (.int (iI (i : Int)))] [.int (iI 1)] T M F := by
    clear hK rest r1
    simp (disch := omega) only [x_X8_carryOut_0, x_X8_carryOut_1, x_X8_carryOut_4, x_X8_carryOut_5, List.length_cons, List.length_nil, Nat.reduceLeDiff, Nat.zero_add, iI_add, iI_sub, iI_mul, iI_neg, iI_lt, iI_le, iI_eq, jI_iI, B_True, B_False, B_t, B_f, ck_True, gd_True, cb_v, cb_n, p_mv_rw, p_fv_rw, p_rv_some, pA_1, pA_90, pA_92, pA_3, pA_2, pA_93, pA_4, pA_91, pA_95, pS_i, pW_i, pZ_0, pZ_1, pZ_b, bI_e0, u1_s, u1_n, uA_s, uA_n, true_and, and_true, not_true_eq_false, not_false_eq_true, eq_self, iI_z, al1, al2, al3, al4, al90, al91, al92, al93, al95, Int.cast_ofNat_Int, Nat.reduceAdd, Int.reduceNeg, Int.reduceAdd, Int.reduceSub, Int.reduceMul, Int.reduceLT, Int.reduceLE, Int.reduceGT, Int.reduceGE, Int.reduceEq, Int.reduceNe, Nat.reduceEqDiff, Int.zero_add, Int.add_zero, p_ty0, p_ty1, p_ty2, p_ty3, p_ty4, p_ty5, p_ty6, p_ty7, p_ty8, p_ty9, p_ty10, p_ty11, ty127, ty128, fy1, ty129, fy4, ty130, fy5, ty131, fy6, ty132, fy7, ty133, fy8, ty136, fy15, ty137, fy16, ty138, fy17, ty139, fy18, ty140, fy19, ty141, fy20, ty142, fy21, ty143, fy22, tybd, fy9, tylg, fy13, a, h0, gd_t]
  rw [c1, x_X8_carryOut_6]
  show R e m_X8_carryOut 38 _ _ _ _ _ = _
  clear hK rest c1
  simp (disch := omega) only [x_X8_carryOut_38, x_X8_carryOut_39, x_X8_carryOut_40, x_X8_carryOut_43, List.length_cons, List.length_nil, Nat.reduceLeDiff, Nat.zero_add, iI_add, iI_sub, iI_mul, iI_neg, iI_lt, iI_le, iI_eq, jI_iI, B_True, B_False, B_t, B_f, ck_True, gd_True, cb_v, cb_n, p_mv_rw, p_fv_rw, p_rv_some, pA_1, pA_90, pA_92, pA_3, pA_2, pA_93, pA_4, pA_91, pA_95, pS_i, pW_i, pZ_0, pZ_1, pZ_b, bI_e0, u1_s, u1_n, uA_s, uA_n, true_and, and_true, not_true_eq_false, not_false_eq_true, eq_self, iI_z, al1, al2, al3, al4, al90, al91, al92, al93, al95, Int.cast_ofNat_Int, Nat.reduceAdd, Int.reduceNeg, Int.reduceAdd, Int.reduceSub, Int.reduceMul, Int.reduceLT, Int.reduceLE, Int.reduceGT, Int.reduceGE, Int.reduceEq, Int.reduceNe, Nat.reduceEqDiff, Int.zero_add, Int.add_zero, p_ty0, p_ty1, p_ty2, p_ty3, p_ty4, p_ty5, p_ty6, p_ty7, p_ty8, p_ty9, p_ty10, p_ty11, ty127, r1, gd_t]
theorem y_cgo {r : Int × Int × GSx} (hY : YT T F bd lg N) (hK : TKM M bs z m) (hi : i < m) (h0 : kcn bs z i = 3) (h : YPR T M F bd lg N m_X8_go [.ref 127, .int (iI (i : Int))] 9 cs ss r) : YPR T M F bd lg N m_X8_carryOut [.ref 127, .int (iI (i : Int))] 10 cs ss r := by
  obtain ⟨T1, M1, F1, lg1, N1, r1, rest⟩ := h
  refine ⟨T1, M1, F1, lg1, N1, fun d hd => ?_, rest⟩
  refine callD_go 9 hd rfl (fun e he => ?_)
  show R e m_X8_carryOut 0 [.val (.ref 127), .val (.int (iI (i : Int)))] [] T M F = _
  have hm := hK.1
  have a := (hK.2.2.2.1 i (by omega)).2
  have r1 := r1 e (by omega)
  obtain ⟨ty127, ty128, fy1, ty129, fy4, ty130, fy5, ty131, fy6, ty132, fy7, ty133, fy8, ty136, fy15, ty137, fy16, ty138, fy17, ty139, fy18, ty140, fy19, ty141, fy20, ty142, fy21, ty143, fy22, hbd, tybd, fy9, hlg, tylg, fy13, hN⟩ := hY
  have c1 : R e m_X8_carryOut 0 [.val (.ref 127), .val (.int (iI (i : Int)))] [] T M F = R e m_X8_carryOut 6 [.val (.ref 127), .val (.int (iI (i : Int)))] [.int (iI 3)] T M F := by
    clear hK rest r1
    simp (disch := omega) only [x_X8_carryOut_0, x_X8_carryOut_1, x_X8_carryOut_4, x_X8_carryOut_5, List.length_cons, List.length_nil, Nat.reduceLeDiff, Nat.zero_add, iI_add, iI_sub, iI_mul, iI_neg, iI_lt, iI_le, iI_eq, jI_iI, B_True, B_False, B_t, B_f, ck_True, gd_True, cb_v, cb_n, p_mv_rw, p_fv_rw, p_rv_some, pA_1, pA_90, pA_92, pA_3, pA_2, pA_93, pA_4, pA_91, pA_95, pS_i, pW_i, pZ_0, pZ_1, pZ_b, bI_e0, u1_s, u1_n, uA_s, uA_n, true_and, and_true, not_true_eq_false, not_false_eq_true, eq_self, iI_z, al1, al2, al3, al4, al90, al91, al92, al93, al95, Int.cast_ofNat_Int, Nat.reduceAdd, Int.reduceNeg, Int.reduceAdd, Int.reduceSub, Int.reduceMul, Int.reduceLT, Int.reduceLE, Int.reduceGT, Int.reduceGE, Int.reduceEq, Int.reduceNe, Nat.reduceEqDiff, Int.zero_add, Int.add_zero, p_ty0, p_ty1, p_ty2, p_ty3, p_ty4, p_ty5, p_ty6, p_ty7, p_ty8, p_ty9, p_ty10, p_ty11, ty127, ty128, fy1, ty129, fy4, ty130, fy5, ty131, fy6, ty132, fy7, ty133, fy8, ty136, fy15, ty137, fy16, ty138, fy17, ty139, fy18, ty140, fy19, ty141, fy20, ty142, fy21, ty143, fy22, tybd, fy9, tylg, fy13, a, h0, gd_t]
  rw [c1, x_X8_carryOut_6]
  show R e m_X8_carryOut 60 _ _ _ _ _ = _
  clear hK rest c1
  simp (disch := omega) only [x_X8_carryOut_60, x_X8_carryOut_61, x_X8_carryOut_62, x_X8_carryOut_65, List.length_cons, List.length_nil, Nat.reduceLeDiff, Nat.zero_add, iI_add, iI_sub, iI_mul, iI_neg, iI_lt, iI_le, iI_eq, jI_iI, B_True, B_False, B_t, B_f, ck_True, gd_True, cb_v, cb_n, p_mv_rw, p_fv_rw, p_rv_some, pA_1, pA_90, pA_92, pA_3, pA_2, pA_93, pA_4, pA_91, pA_95, pS_i, pW_i, pZ_0, pZ_1, pZ_b, bI_e0, u1_s, u1_n, uA_s, uA_n, true_and, and_true, not_true_eq_false, not_false_eq_true, eq_self, iI_z, al1, al2, al3, al4, al90, al91, al92, al93, al95, Int.cast_ofNat_Int, Nat.reduceAdd, Int.reduceNeg, Int.reduceAdd, Int.reduceSub, Int.reduceMul, Int.reduceLT, Int.reduceLE, Int.reduceGT, Int.reduceGE, Int.reduceEq, Int.reduceNe, Nat.reduceEqDiff, Int.zero_add, Int.add_zero, p_ty0, p_ty1, p_ty2, p_ty3, p_ty4, p_ty5, p_ty6, p_ty7, p_ty8, p_ty9, p_ty10, p_ty11, ty127, r1, gd_t]
end PYCA
