section PYDG
variable {d bd lg N lg1 N1 : Nat} {T T1 : pT} {M M0 M1 M2 : pM} {F F1 : pF} {bb bs : Int → Int} {k c m kd a b i p z ea n w : Int} {S : GSx}
theorem yd_K (hP : SPx S) (hH : S.2.2.2.2.length < 613) : ∀ (n : Nat) (w : Int) (d : Int64) (T : pT) (M : pM) (F : pF) (lg N : Nat), w + n = 11 → 0 ≤ w → MW T M F bd lg N S ea bs z →
    ∃ T' M' F' lg' N', (∀ e l4, 9 ≤ e → R e m_X8_digest 11 [.val (.ref 127), .val (.long d), .second, .val (.int (iI w)), l4] [] T M F = R e m_X8_digest 36 [.val (.ref 127), .val (.long (dgK S z n w d)), .second, .val (.int (iI 11)), l4] [] T' M' F') ∧ MW T' M' F' bd lg' N' S ea bs z ∧ M' 127 0 = M 127 0 ∧ OR T M F N T' M' F' N' := by
  intro n
  induction n with
  | zero =>
    intro w d T M F lg N hw h0 hW
    obtain rfl : w = 11 := by omega
    refine ⟨T, M, F, lg, N, fun e l4 he => ?_, hW, rfl, OR.rf⟩
    rw [dgK]
    clear hW hP
    simp (disch := omega) only [x_X8_digest_11, x_X8_digest_12, x_X8_digest_14, List.length_cons, List.length_nil, Nat.reduceLeDiff, Nat.zero_add, iI_add, iI_sub, iI_mul, iI_neg, iI_lt, iI_le, iI_eq, jI_iI, B_True, B_False, B_t, B_f, ck_True, gd_True, cb_v, cb_n, p_mv_rw, p_fv_rw, p_rv_some, pA_1, pA_90, pA_92, pA_3, pA_2, pA_93, pA_4, pA_91, pA_95, pS_i, pW_i, pZ_0, pZ_1, pZ_b, bI_e0, u1_s, u1_n, uA_s, uA_n, true_and, and_true, not_true_eq_false, not_false_eq_true, eq_self, iI_z, al1, al2, al3, al4, al90, al91, al92, al93, al95, Int.cast_ofNat_Int, Nat.reduceAdd, Int.reduceNeg, Int.reduceAdd, Int.reduceSub, Int.reduceMul, Int.reduceLT, Int.reduceLE, Int.reduceGT, Int.reduceGE, Int.reduceEq, Int.reduceNe, Nat.reduceEqDiff, Int.zero_add, Int.add_zero, p_ty0, p_ty1, p_ty2, p_ty3, p_ty4, p_ty5, p_ty6, p_ty7, p_ty8, p_ty9, p_ty10, p_ty11, B_t, B_f]
  | succ n ih =>
    intro w d T M F lg N hw h0 hW
    obtain ⟨T1, M1, F1, lg1, N1, r1, W1, z1, O1⟩ := y_counted hW hP (by omega) (n := w) (by omega)
    obtain ⟨T2, M2, F2, lg2, N2, r2, W2, z2, O2⟩ := ih (w + 1) (dg1 d (z_cnt S z w)) T1 M1 F1 lg1 N1 (by omega) (by omega) W1
    refine ⟨T2, M2, F2, lg2, N2, fun e l4 he => ?_, W2, z2.trans z1, O1.tr O2⟩
    have r1 := r1 e he
    have r2 := r2 e l4 he
    have t0 := hW.1.1.1
    rw [dgK, ← r2]
    clear hW hP r2 ih W1 W2 O1 O2
    rw [x_X8_digest_11]
    unfold dg1
    simp (disch := omega) only [x_X8_digest_12, x_X8_digest_14, x_X8_digest_17, x_X8_digest_18, x_X8_digest_21, x_X8_digest_22, x_X8_digest_23, x_X8_digest_24, x_X8_digest_27, x_X8_digest_28, x_X8_digest_29, x_X8_digest_30, x_X8_digest_33, List.length_cons, List.length_nil, Nat.reduceLeDiff, Nat.zero_add, iI_add, iI_sub, iI_mul, iI_neg, iI_lt, iI_le, iI_eq, jI_iI, B_True, B_False, B_t, B_f, ck_True, gd_True, cb_v, cb_n, p_mv_rw, p_fv_rw, p_rv_some, pA_1, pA_90, pA_92, pA_3, pA_2, pA_93, pA_4, pA_91, pA_95, pS_i, pW_i, pZ_0, pZ_1, pZ_b, bI_e0, u1_s, u1_n, uA_s, uA_n, true_and, and_true, not_true_eq_false, not_false_eq_true, eq_self, iI_z, al1, al2, al3, al4, al90, al91, al92, al93, al95, Int.cast_ofNat_Int, Nat.reduceAdd, Int.reduceNeg, Int.reduceAdd, Int.reduceSub, Int.reduceMul, Int.reduceLT, Int.reduceLE, Int.reduceGT, Int.reduceGE, Int.reduceEq, Int.reduceNe, Nat.reduceEqDiff, Int.zero_add, Int.add_zero, p_ty0, p_ty1, p_ty2, p_ty3, p_ty4, p_ty5, p_ty6, p_ty7, p_ty8, p_ty9, p_ty10, p_ty11, t0, r1, gd_t, B_t, B_f]
theorem yd_C (hP : SPx S) (hW : MW T M F bd lg N S ea bs z) : ∀ (n : Nat) (c : Int) (d : Int64), c + n = 91 → 0 ≤ c →
    (∀ e l4, 9 ≤ e → R e m_X8_digest 38 [.val (.ref 127), .val (.long d), .second, .val (.int (iI c)), l4] [] T M F = R e m_X8_digest 108 [.val (.ref 127), .val (.long (dgC S n c d)), .second, .val (.int (iI 91)), l4] [] T M F) := by
  have hY := hW.1.1
  have s1 := hW.2.1.2.1
  have hG := hW.2.1.1
  have hb := hP.1.1
  clear hW hP
  intro n
  induction n with
  | zero =>
    intro c d hc h0 e l4 he
    obtain rfl : c = 91 := by omega
    rw [dgC]
    clear hb hG hY
    simp (disch := omega) only [x_X8_digest_38, x_X8_digest_39, x_X8_digest_41, List.length_cons, List.length_nil, Nat.reduceLeDiff, Nat.zero_add, iI_add, iI_sub, iI_mul, iI_neg, iI_lt, iI_le, iI_eq, jI_iI, B_True, B_False, B_t, B_f, ck_True, gd_True, cb_v, cb_n, p_mv_rw, p_fv_rw, p_rv_some, pA_1, pA_90, pA_92, pA_3, pA_2, pA_93, pA_4, pA_91, pA_95, pS_i, pW_i, pZ_0, pZ_1, pZ_b, bI_e0, u1_s, u1_n, uA_s, uA_n, true_and, and_true, not_true_eq_false, not_false_eq_true, eq_self, iI_z, al1, al2, al3, al4, al90, al91, al92, al93, al95, Int.cast_ofNat_Int, Nat.reduceAdd, Int.reduceNeg, Int.reduceAdd, Int.reduceSub, Int.reduceMul, Int.reduceLT, Int.reduceLE, Int.reduceGT, Int.reduceGE, Int.reduceEq, Int.reduceNe, Nat.reduceEqDiff, Int.zero_add, Int.add_zero, p_ty0, p_ty1, p_ty2, p_ty3, p_ty4, p_ty5, p_ty6, p_ty7, p_ty8, p_ty9, p_ty10, p_ty11, B_t, B_f]
  | succ n ih =>
    intro c d hc h0 e l4 he
    have hc91 : 0 ≤ c ∧ c < 91 := by omega
    have hbc := hb c
    have p1 := y_piece (d := e) (T := T) (M := M) (F := F) (n := S.1 c) (by omega) (by omega)
    have p2 := y_side (d := e) (T := T) (M := M) (F := F) (n := S.1 c) (by omega) (by omega)
    have a1 := y_att (d := e) (p := c) (s := 0) hY hG (by rw [s1]; exact hb) (by omega) hc91 (Or.inl rfl)
    have a2 := y_att (d := e) (p := c) (s := 1) hY hG (by rw [s1]; exact hb) (by omega) hc91 (Or.inr rfl)
    rw [s1] at a1 a2
    have ih := ih (c + 1) (dg1 (dg1 (dg1 (dg1 d (z_fac S c 0)) (z_fac S c 1)) (z_fac S c 4)) (z_fac S c 5)) (by omega) (by omega) e l4 he
    rw [dgC, ← ih, show z_fac S c 0 = S.1 c % 10 from rfl, show z_fac S c 1 = m_side (S.1 c) from rfl, show z_fac S c 4 = m_att S.1 c 0 from rfl, show z_fac S c 5 = m_att S.1 c 1 from rfl]
    obtain ⟨ty127, ty128, fy1, ty129, fy4, ty130, fy5, ty131, fy6, ty132, fy7, ty133, fy8, ty136, fy15, ty137, fy16, ty138, fy17, ty139, fy18, ty140, fy19, ty141, fy20, ty142, fy21, ty143, fy22, hbd, tybd, fy9, hlg, tylg, fy13, hN⟩ := hY
    clear ih hb hG
    rw [x_X8_digest_38]
    unfold dg1
    simp (disch := omega) only [x_X8_digest_39, x_X8_digest_41, x_X8_digest_44, x_X8_digest_45, x_X8_digest_48, x_X8_digest_49, x_X8_digest_50, x_X8_digest_53, x_X8_digest_54, x_X8_digest_55, x_X8_digest_58, x_X8_digest_59, x_X8_digest_60, x_X8_digest_63, x_X8_digest_64, x_X8_digest_65, x_X8_digest_68, x_X8_digest_69, x_X8_digest_70, x_X8_digest_73, x_X8_digest_74, x_X8_digest_75, x_X8_digest_76, x_X8_digest_77, x_X8_digest_80, x_X8_digest_81, x_X8_digest_82, x_X8_digest_83, x_X8_digest_84, x_X8_digest_87, x_X8_digest_88, x_X8_digest_89, x_X8_digest_92, x_X8_digest_93, x_X8_digest_94, x_X8_digest_95, x_X8_digest_96, x_X8_digest_99, x_X8_digest_100, x_X8_digest_101, x_X8_digest_102, x_X8_digest_105, List.length_cons, List.length_nil, Nat.reduceLeDiff, Nat.zero_add, iI_add, iI_sub, iI_mul, iI_neg, iI_lt, iI_le, iI_eq, jI_iI, B_True, B_False, B_t, B_f, ck_True, gd_True, cb_v, cb_n, p_mv_rw, p_fv_rw, p_rv_some, pA_1, pA_90, pA_92, pA_3, pA_2, pA_93, pA_4, pA_91, pA_95, pS_i, pW_i, pZ_0, pZ_1, pZ_b, bI_e0, u1_s, u1_n, uA_s, uA_n, true_and, and_true, not_true_eq_false, not_false_eq_true, eq_self, iI_z, al1, al2, al3, al4, al90, al91, al92, al93, al95, Int.cast_ofNat_Int, Nat.reduceAdd, Int.reduceNeg, Int.reduceAdd, Int.reduceSub, Int.reduceMul, Int.reduceLT, Int.reduceLE, Int.reduceGT, Int.reduceGE, Int.reduceEq, Int.reduceNe, Nat.reduceEqDiff, Int.zero_add, Int.add_zero, p_ty0, p_ty1, p_ty2, p_ty3, p_ty4, p_ty5, p_ty6, p_ty7, p_ty8, p_ty9, p_ty10, p_ty11, ty127, ty128, fy1, ty129, fy4, ty130, fy5, ty131, fy6, ty132, fy7, ty133, fy8, ty136, fy15, ty137, fy16, ty138, fy17, ty139, fy18, ty140, fy19, ty141, fy20, ty142, fy21, ty143, fy22, tybd, fy9, tylg, fy13, s1, p1, p2, a1, a2, gd_t, B_t, B_f]
theorem y_digest (hW : MW T M F bd lg N S ea bs z) (hP : SPx S) (hH : S.2.2.2.2.length < 613) : YRet bd N T M F m_X8_digest [.ref 127] 10 (.long (z_dig S z)) 0 S ea bs z := by
  have hY := hW.1.1
  obtain ⟨W0, z0, O0⟩ := hW.wz 0
  obtain ⟨T1, M1, F1, lg1, N1, r1, W1, z1, O1⟩ := yd_K hP hH 11 0 (iL 887) T (w0 M 0) F lg N (by omega) (by omega) W0
  have r2 := yd_C hP W1 91 0 (dgK S z 11 0 (iL 887)) (by omega) (by omega)
  obtain ⟨T3, M3, F3, lg3, N3, r3, L3, -, R3⟩ := y_list (io := 137) (Or.inl rfl) W1.1 W1.2.1 hP.1 (by omega)
  obtain ⟨W3, z3, O3⟩ := W1.yr R3 (XL.y W1.1.2.1 (Or.inl rfl))
  have hl := lgQ_le hP.1
  refine ⟨T3, M3, F3, lg3, N3, fun d hd => ?_, W3, z3.trans (z1.trans z0), (O0.tr O1).tr O3⟩
  refine callD_go 9 hd rfl (fun e he => ?_)
  show R e m_X8_digest 0 [.val (.ref 127), .unset, .unset, .unset, .unset] [] T M F = _
  have r1 := fun l4 => r1 e l4 he
  have r2 := fun l4 => r2 e l4 he
  have r3 := r3 e (by omega)
  have t0 := hY.1
  have t1 := W1.1.1
  obtain ⟨b127, -, -, -, -, -, -, -, -, -, -, -, -, -, -, b137, b16, -⟩ := t1
  have t3 := W3.1.1
  obtain ⟨a127, -, -, -, -, -, -, -, -, -, -, -, -, -, -, a137, a16, -⟩ := t3
  have key : ∀ (Q P : List Int) (d : Int64), P ++ Q = lgQ S.1 S.2.1 S.2.2.1 S.2.2.2.1 → R e m_X8_digest 120 [.val (.ref 127), .val (.long d), .second, .val (.int (iI ((lgQ S.1 S.2.1 S.2.2.1 S.2.2.2.1).length : Int))), .val (.int (iI (P.length : Int)))] [] T3 M3 F3 = some (.inl (some (.long (dgL Q d))), T3, M3, F3) := by
    intro Q
    induction Q with
    | nil =>
      intro P d hP'
      rw [List.append_nil] at hP'
      rw [← hP'] at hl ⊢
      rw [dgL]
      clear hW hP W0 W1 W3 O0 O1 O3 R3 L3 r1 r2 r3 hY
      simp (disch := omega) only [x_X8_digest_120, x_X8_digest_122, x_X8_digest_123, x_X8_digest_147, x_X8_digest_148, List.length_cons, List.length_nil, Nat.reduceLeDiff, Nat.zero_add, iI_add, iI_sub, iI_mul, iI_neg, iI_lt, iI_le, iI_eq, jI_iI, B_True, B_False, B_t, B_f, ck_True, gd_True, cb_v, cb_n, p_mv_rw, p_fv_rw, p_rv_some, pA_1, pA_90, pA_92, pA_3, pA_2, pA_93, pA_4, pA_91, pA_95, pS_i, pW_i, pZ_0, pZ_1, pZ_b, bI_e0, u1_s, u1_n, uA_s, uA_n, true_and, and_true, not_true_eq_false, not_false_eq_true, eq_self, iI_z, al1, al2, al3, al4, al90, al91, al92, al93, al95, Int.cast_ofNat_Int, Nat.reduceAdd, Int.reduceNeg, Int.reduceAdd, Int.reduceSub, Int.reduceMul, Int.reduceLT, Int.reduceLE, Int.reduceGT, Int.reduceGE, Int.reduceEq, Int.reduceNe, Nat.reduceEqDiff, Int.zero_add, Int.add_zero, p_ty0, p_ty1, p_ty2, p_ty3, p_ty4, p_ty5, p_ty6, p_ty7, p_ty8, p_ty9, p_ty10, p_ty11, B_t, B_f]
    | cons x Q ih =>
      intro P d hP'
      have hPl : P.length + 1 + Q.length = (lgQ S.1 S.2.1 S.2.2.1 S.2.2.2.1).length := by rw [← hP']; simp; omega
      have hx : M3 137 (P.length : Int) = x := by rw [L3 P.length (by omega), ← hP', getD_mid]
      have ih := ih (P ++ [x]) (dg1 d x) (by rw [List.append_assoc]; exact hP')
      rw [List.length_append, List.length_singleton, Int.natCast_add_one] at ih
      rw [dgL, ← ih, x_X8_digest_120]
      clear ih hW hP W0 W1 W3 O0 O1 O3 R3 L3 r1 r2 r3 hY hP'
      unfold dg1
      simp (disch := omega) only [x_X8_digest_122, x_X8_digest_123, x_X8_digest_126, x_X8_digest_127, x_X8_digest_130, x_X8_digest_131, x_X8_digest_132, x_X8_digest_135, x_X8_digest_137, x_X8_digest_138, x_X8_digest_139, x_X8_digest_140, x_X8_digest_141, x_X8_digest_144, List.length_cons, List.length_nil, Nat.reduceLeDiff, Nat.zero_add, iI_add, iI_sub, iI_mul, iI_neg, iI_lt, iI_le, iI_eq, jI_iI, B_True, B_False, B_t, B_f, ck_True, gd_True, cb_v, cb_n, p_mv_rw, p_fv_rw, p_rv_some, pA_1, pA_90, pA_92, pA_3, pA_2, pA_93, pA_4, pA_91, pA_95, pS_i, pW_i, pZ_0, pZ_1, pZ_b, bI_e0, u1_s, u1_n, uA_s, uA_n, true_and, and_true, not_true_eq_false, not_false_eq_true, eq_self, iI_z, al1, al2, al3, al4, al90, al91, al92, al93, al95, Int.cast_ofNat_Int, Nat.reduceAdd, Int.reduceNeg, Int.reduceAdd, Int.reduceSub, Int.reduceMul, Int.reduceLT, Int.reduceLE, Int.reduceGT, Int.reduceGE, Int.reduceEq, Int.reduceNe, Nat.reduceEqDiff, Int.zero_add, Int.add_zero, p_ty0, p_ty1, p_ty2, p_ty3, p_ty4, p_ty5, p_ty6, p_ty7, p_ty8, p_ty9, p_ty10, p_ty11, a127, a137, a16, hx, gd_t, B_t, B_f]
  have h9 := key (lgQ S.1 S.2.1 S.2.2.1 S.2.2.2.1) [] (dgC S 91 0 (dgK S z 11 0 (iL 887))) (List.nil_append _)
  rw [List.length_nil, Int.natCast_zero] at h9
  unfold z_dig
  unfold w0 at r1
  clear key hW hP W0 W1 W3 O0 O1 O3 R3 L3 hY
  simp (disch := omega) only [x_X8_digest_0, x_X8_digest_1, x_X8_digest_2, x_X8_digest_5, x_X8_digest_8, x_X8_digest_9, x_X8_digest_10, List.length_cons, List.length_nil, Nat.reduceLeDiff, Nat.zero_add, iI_add, iI_sub, iI_mul, iI_neg, iI_lt, iI_le, iI_eq, jI_iI, B_True, B_False, B_t, B_f, ck_True, gd_True, cb_v, cb_n, p_mv_rw, p_fv_rw, p_rv_some, pA_1, pA_90, pA_92, pA_3, pA_2, pA_93, pA_4, pA_91, pA_95, pS_i, pW_i, pZ_0, pZ_1, pZ_b, bI_e0, u1_s, u1_n, uA_s, uA_n, true_and, and_true, not_true_eq_false, not_false_eq_true, eq_self, iI_z, al1, al2, al3, al4, al90, al91, al92, al93, al95, Int.cast_ofNat_Int, Nat.reduceAdd, Int.reduceNeg, Int.reduceAdd, Int.reduceSub, Int.reduceMul, Int.reduceLT, Int.reduceLE, Int.reduceGT, Int.reduceGE, Int.reduceEq, Int.reduceNe, Nat.reduceEqDiff, Int.zero_add, Int.add_zero, p_ty0, p_ty1, p_ty2, p_ty3, p_ty4, p_ty5, p_ty6, p_ty7, p_ty8, p_ty9, p_ty10, p_ty11, t0, gd_t]
  rw [r1]
  simp (disch := omega) only [x_X8_digest_36, x_X8_digest_37, List.length_cons, List.length_nil, Nat.reduceLeDiff, Nat.zero_add, iI_add, iI_sub, iI_mul, iI_neg, iI_lt, iI_le, iI_eq, jI_iI, B_True, B_False, B_t, B_f, ck_True, gd_True, cb_v, cb_n, p_mv_rw, p_fv_rw, p_rv_some, pA_1, pA_90, pA_92, pA_3, pA_2, pA_93, pA_4, pA_91, pA_95, pS_i, pW_i, pZ_0, pZ_1, pZ_b, bI_e0, u1_s, u1_n, uA_s, uA_n, true_and, and_true, not_true_eq_false, not_false_eq_true, eq_self, iI_z, al1, al2, al3, al4, al90, al91, al92, al93, al95, Int.cast_ofNat_Int, Nat.reduceAdd, Int.reduceNeg, Int.reduceAdd, Int.reduceSub, Int.reduceMul, Int.reduceLT, Int.reduceLE, Int.reduceGT, Int.reduceGE, Int.reduceEq, Int.reduceNe, Nat.reduceEqDiff, Int.zero_add, Int.add_zero, p_ty0, p_ty1, p_ty2, p_ty3, p_ty4, p_ty5, p_ty6, p_ty7, p_ty8, p_ty9, p_ty10, p_ty11]
  rw [r2]
  simp (disch := omega) only [x_X8_digest_108, x_X8_digest_109, x_X8_digest_110, x_X8_digest_113, x_X8_digest_116, x_X8_digest_117, x_X8_digest_118, List.length_cons, List.length_nil, Nat.reduceLeDiff, Nat.zero_add, iI_add, iI_sub, iI_mul, iI_neg, iI_lt, iI_le, iI_eq, jI_iI, B_True, B_False, B_t, B_f, ck_True, gd_True, cb_v, cb_n, p_mv_rw, p_fv_rw, p_rv_some, pA_1, pA_90, pA_92, pA_3, pA_2, pA_93, pA_4, pA_91, pA_95, pS_i, pW_i, pZ_0, pZ_1, pZ_b, bI_e0, u1_s, u1_n, uA_s, uA_n, true_and, and_true, not_true_eq_false, not_false_eq_true, eq_self, iI_z, al1, al2, al3, al4, al90, al91, al92, al93, al95, Int.cast_ofNat_Int, Nat.reduceAdd, Int.reduceNeg, Int.reduceAdd, Int.reduceSub, Int.reduceMul, Int.reduceLT, Int.reduceLE, Int.reduceGT, Int.reduceGE, Int.reduceEq, Int.reduceNe, Nat.reduceEqDiff, Int.zero_add, Int.add_zero, p_ty0, p_ty1, p_ty2, p_ty3, p_ty4, p_ty5, p_ty6, p_ty7, p_ty8, p_ty9, p_ty10, p_ty11, b127, b137, b16, r3, h9, gd_t]
end PYDG
