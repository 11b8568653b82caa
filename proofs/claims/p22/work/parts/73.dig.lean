section PDIG
variable {d g G1 G2 : Nat} {T : pT} {M M0 M1 M2 : pM} {F F1 : pF} {bb bs bs1 : Int → Int} {t pas q its to as p z z1 n i c s x er ea k a b : Int} {S S1 : GSx} {D : Nat} {m : pC} {v : List Value}
def dg1 (d : Int64) (x : Int) : Int64 := d * iL 31 + (iI x).toInt64
def dgL : List Int → Int64 → Int64
  | [], d => d
  | x :: L, d => dgL L (dg1 d x)
noncomputable def dgK (S : GSx) (z : Int) : Nat → Int → Int64 → Int64
  | 0, _, d => d
  | n + 1, w, d => dgK S z n (w + 1) (dg1 d (z_cnt S z w))
noncomputable def dgC (S : GSx) : Nat → Int → Int64 → Int64
  | 0, _, d => d
  | n + 1, c, d => dgC S n (c + 1) (dg1 (dg1 (dg1 (dg1 d (z_fac S c 0)) (z_fac S c 1)) (z_fac S c 4)) (z_fac S c 5))
noncomputable def z_dig (S : GSx) (z : Int) : Int64 := dgL (lgQ S.1 S.2.1 S.2.2.1 S.2.2.2.1) (dgC S 91 0 (dgK S z 11 0 (iL 887)))
theorem FX.tr (h1 : FX M M1 F F) (h2 : FX M1 M2 F F) : FX M M2 F F := fun a ha => ⟨((h2 a ha).1).trans (h1 a ha).1, rfl⟩
theorem dg_K (hT : XT T F G1 G2) : ∀ (n : Nat) (w : Int) (d : Int64) (l4 : Slot) (M : pM), w + n = 11 → 0 ≤ w → XS M G1 G2 S ea bs z →
    ∃ M', (∀ e, 9 ≤ e → R e m_X7_digest 6 [.val (.ref 100), .val (.long d), .second, .val (.int (iI w)), l4] [] T M F = R e m_X7_digest 31 [.val (.ref 100), .val (.long (dgK S z n w d)), .second, .val (.int (iI 11)), l4] [] T M' F) ∧ XS M' G1 G2 S ea bs z ∧ FX M M' F F := by
  have x0 := hT.1
  intro n
  induction n with
  | zero =>
    intro w d l4 M hw h0 hS
    obtain rfl : w = 11 := by omega
    refine ⟨M, fun e he => ?_, hS, FX.rf⟩
    rw [dgK]
    clear hS hT
    simp (disch := omega) only [x_X7_digest_6, x_X7_digest_7, x_X7_digest_9, List.length_cons, List.length_nil, Nat.reduceLeDiff, Nat.zero_add, iI_add, iI_sub, iI_mul, iI_neg, iI_lt, iI_le, iI_eq, jI_iI, B_True, B_False, B_t, B_f, ck_True, gd_True, cb_v, cb_n, p_mv_rw, p_fv_rw, p_rv_some, pA_1, pA_90, pA_92, pA_3, pA_5, pA_93, pA_4, pA_91, pA_6, pS_i, pB_i, pW_i, pZ_0, pZ_1, pZ_b, bI_e0, u1_s, u1_n, uA_s, uA_n, true_and, and_true, not_true_eq_false, not_false_eq_true, eq_self, iI_z, al1, al5, al3, al4, al90, al91, al92, al93, al6, Int.cast_ofNat_Int, Nat.reduceAdd, Int.reduceNeg, Int.reduceAdd, Int.reduceSub, Int.reduceMul, Int.reduceLT, Int.reduceLE, Int.reduceGT, Int.reduceGE, Int.reduceEq, Int.reduceNe, Nat.reduceEqDiff, Int.zero_add, Int.add_zero, p_ty0, p_ty1, p_ty2, p_ty3, p_ty4, p_ty5, p_ty8, p_ty9, p_ty10, B_t, B_f]
  | succ n ih =>
    intro w d l4 M hw h0 hS
    obtain ⟨M1, r1, S1, F1⟩ := c_countOf (T := T) (F := F) hT hS (n := w) (by omega)
    obtain ⟨M2, r2, S2, F2⟩ := ih (w + 1) (dg1 d (z_cnt S z w)) l4 M1 (by omega) (by omega) S1
    refine ⟨M2, fun e he => ?_, S2, F1.tr F2⟩
    have r1 := r1 e he
    have r2 := r2 e he
    rw [dgK, ← r2]
    clear hS hT r2 ih S1 S2 F1 F2
    rw [x_X7_digest_6]
    unfold dg1
    simp (disch := omega) only [x_X7_digest_7, x_X7_digest_9, x_X7_digest_12, x_X7_digest_13, x_X7_digest_16, x_X7_digest_17, x_X7_digest_18, x_X7_digest_19, x_X7_digest_22, x_X7_digest_23, x_X7_digest_24, x_X7_digest_25, x_X7_digest_28, List.length_cons, List.length_nil, Nat.reduceLeDiff, Nat.zero_add, iI_add, iI_sub, iI_mul, iI_neg, iI_lt, iI_le, iI_eq, jI_iI, B_True, B_False, B_t, B_f, ck_True, gd_True, cb_v, cb_n, p_mv_rw, p_fv_rw, p_rv_some, pA_1, pA_90, pA_92, pA_3, pA_5, pA_93, pA_4, pA_91, pA_6, pS_i, pB_i, pW_i, pZ_0, pZ_1, pZ_b, bI_e0, u1_s, u1_n, uA_s, uA_n, true_and, and_true, not_true_eq_false, not_false_eq_true, eq_self, iI_z, al1, al5, al3, al4, al90, al91, al92, al93, al6, Int.cast_ofNat_Int, Nat.reduceAdd, Int.reduceNeg, Int.reduceAdd, Int.reduceSub, Int.reduceMul, Int.reduceLT, Int.reduceLE, Int.reduceGT, Int.reduceGE, Int.reduceEq, Int.reduceNe, Nat.reduceEqDiff, Int.zero_add, Int.add_zero, p_ty0, p_ty1, p_ty2, p_ty3, p_ty4, p_ty5, p_ty8, p_ty9, p_ty10, x0, r1, gd_t, B_t, B_f]
theorem dg_C (hT : XT T F G1 G2) : ∀ (n : Nat) (w : Int) (d : Int64) (l4 : Slot) (M : pM), w + n = 91 → 0 ≤ w → XS M G1 G2 S ea bs z →
    ∃ M', (∀ e, 9 ≤ e → R e m_X7_digest 33 [.val (.ref 100), .val (.long d), .second, .val (.int (iI w)), l4] [] T M F = R e m_X7_digest 101 [.val (.ref 100), .val (.long (dgC S n w d)), .second, .val (.int (iI 91)), l4] [] T M' F) ∧ XS M' G1 G2 S ea bs z ∧ FX M M' F F := by
  have x0 := hT.1
  intro n
  induction n with
  | zero =>
    intro w d l4 M hw h0 hS
    obtain rfl : w = 91 := by omega
    refine ⟨M, fun e he => ?_, hS, FX.rf⟩
    rw [dgC]
    clear hS hT
    simp (disch := omega) only [x_X7_digest_33, x_X7_digest_34, x_X7_digest_36, List.length_cons, List.length_nil, Nat.reduceLeDiff, Nat.zero_add, iI_add, iI_sub, iI_mul, iI_neg, iI_lt, iI_le, iI_eq, jI_iI, B_True, B_False, B_t, B_f, ck_True, gd_True, cb_v, cb_n, p_mv_rw, p_fv_rw, p_rv_some, pA_1, pA_90, pA_92, pA_3, pA_5, pA_93, pA_4, pA_91, pA_6, pS_i, pB_i, pW_i, pZ_0, pZ_1, pZ_b, bI_e0, u1_s, u1_n, uA_s, uA_n, true_and, and_true, not_true_eq_false, not_false_eq_true, eq_self, iI_z, al1, al5, al3, al4, al90, al91, al92, al93, al6, Int.cast_ofNat_Int, Nat.reduceAdd, Int.reduceNeg, Int.reduceAdd, Int.reduceSub, Int.reduceMul, Int.reduceLT, Int.reduceLE, Int.reduceGT, Int.reduceGE, Int.reduceEq, Int.reduceNe, Nat.reduceEqDiff, Int.zero_add, Int.add_zero, p_ty0, p_ty1, p_ty2, p_ty3, p_ty4, p_ty5, p_ty8, p_ty9, p_ty10, B_t, B_f]
  | succ n ih =>
    intro w d l4 M hw h0 hS
    obtain ⟨M1, r1, S1, F1⟩ := c_factOf (T := T) (F := F) hT hS (n := 0) (c := w) (by omega) (by omega)
    obtain ⟨M2, r2, S2, F2⟩ := c_factOf (T := T) (F := F) hT S1 (n := 1) (c := w) (by omega) (by omega)
    obtain ⟨M3, r3, S3, F3⟩ := c_factOf (T := T) (F := F) hT S2 (n := 4) (c := w) (by omega) (by omega)
    obtain ⟨M4, r4, S4, F4⟩ := c_factOf (T := T) (F := F) hT S3 (n := 5) (c := w) (by omega) (by omega)
    obtain ⟨M5, r5, S5, F5⟩ := ih (w + 1) (dg1 (dg1 (dg1 (dg1 d (z_fac S w 0)) (z_fac S w 1)) (z_fac S w 4)) (z_fac S w 5)) l4 M4 (by omega) (by omega) S4
    refine ⟨M5, fun e he => ?_, S5, (((F1.tr F2).tr F3).tr F4).tr F5⟩
    have r1 := r1 e he
    have r2 := r2 e he
    have r3 := r3 e he
    have r4 := r4 e he
    have r5 := r5 e he
    rw [dgC, ← r5]
    clear hS hT r5 ih S1 S2 F1 F2 S3 S4 S5 F3 F4 F5
    rw [x_X7_digest_33]
    unfold dg1
    simp (disch := omega) only [x_X7_digest_34, x_X7_digest_36, x_X7_digest_39, x_X7_digest_40, x_X7_digest_43, x_X7_digest_44, x_X7_digest_45, x_X7_digest_46, x_X7_digest_47, x_X7_digest_50, x_X7_digest_51, x_X7_digest_52, x_X7_digest_53, x_X7_digest_54, x_X7_digest_57, x_X7_digest_58, x_X7_digest_59, x_X7_digest_60, x_X7_digest_61, x_X7_digest_64, x_X7_digest_65, x_X7_digest_66, x_X7_digest_67, x_X7_digest_68, x_X7_digest_71, x_X7_digest_72, x_X7_digest_73, x_X7_digest_74, x_X7_digest_75, x_X7_digest_78, x_X7_digest_79, x_X7_digest_80, x_X7_digest_81, x_X7_digest_82, x_X7_digest_85, x_X7_digest_86, x_X7_digest_87, x_X7_digest_88, x_X7_digest_89, x_X7_digest_92, x_X7_digest_93, x_X7_digest_94, x_X7_digest_95, x_X7_digest_98, List.length_cons, List.length_nil, Nat.reduceLeDiff, Nat.zero_add, iI_add, iI_sub, iI_mul, iI_neg, iI_lt, iI_le, iI_eq, jI_iI, B_True, B_False, B_t, B_f, ck_True, gd_True, cb_v, cb_n, p_mv_rw, p_fv_rw, p_rv_some, pA_1, pA_90, pA_92, pA_3, pA_5, pA_93, pA_4, pA_91, pA_6, pS_i, pB_i, pW_i, pZ_0, pZ_1, pZ_b, bI_e0, u1_s, u1_n, uA_s, uA_n, true_and, and_true, not_true_eq_false, not_false_eq_true, eq_self, iI_z, al1, al5, al3, al4, al90, al91, al92, al93, al6, Int.cast_ofNat_Int, Nat.reduceAdd, Int.reduceNeg, Int.reduceAdd, Int.reduceSub, Int.reduceMul, Int.reduceLT, Int.reduceLE, Int.reduceGT, Int.reduceGE, Int.reduceEq, Int.reduceNe, Nat.reduceEqDiff, Int.zero_add, Int.add_zero, p_ty0, p_ty1, p_ty2, p_ty3, p_ty4, p_ty5, p_ty8, p_ty9, p_ty10, x0, r1, r2, r3, r4, gd_t, B_t, B_f]
theorem x_digest (hW : CW T M F S ea bs z) : XRet T M F m_X7_digest [.ref 100] 10 (some (.long (z_dig S z))) (fun M' F' => CW T M' F' S ea bs z) := by
  obtain ⟨G1, G2, hT, hS⟩ := hW
  obtain ⟨x0, ⟨x1, x2, x3, x4, x5, x6⟩, xt, xr, xc, xw, xg, xg2, hg⟩ := id hT
  have w0 := xg.2.1
  have w1 := xg.1
  obtain ⟨M1, r1, S1, F1⟩ := dg_K (T := T) (F := F) hT 11 0 (iL 887) .unset M (by omega) (by omega) hS
  obtain ⟨M2, r2, S2, F2⟩ := dg_C (T := T) (F := F) hT 91 0 (dgK S z 11 0 (iL 887)) .unset M1 (by omega) (by omega) S1
  obtain ⟨M3, r3, f3, K3⟩ := c_moveCount (T := T) (F := F) xg S2.1.1
  obtain ⟨S3, F3⟩ := S2.mv (F := F) hT f3 K3.gk
  have hl := lgQ_len (q := S.2.2.2.1) K3.len
  refine ⟨M3, F, fun d hd => ?_, ⟨G1, G2, hT, S3⟩, (F1.tr F2).tr F3⟩
  refine callD_go 9 hd rfl (fun e he => ?_)
  show R e m_X7_digest 0 [.val (.ref 100), .unset, .unset, .unset, .unset] [] T M F = _
  have r1 := r1 e he
  have r2 := r2 e he
  have r3 := r3 e (by omega)
  have key : ∀ (Q P : List Int) (d : Int64), P ++ Q = lgQ S.1 S.2.1 S.2.2.1 S.2.2.2.1 → R e m_X7_digest 112 [.val (.ref 100), .val (.long d), .second, .val (.int (iI ((lgQ S.1 S.2.1 S.2.2.1 S.2.2.2.1).length : Int))), .val (.int (iI (P.length : Int)))] [] T M3 F = some (.inl (some (.long (dgL Q d))), T, M3, F) := by
    intro Q
    induction Q with
    | nil =>
      intro P d hP
      rw [List.append_nil] at hP
      rw [← hP] at hl ⊢
      rw [dgL]
      clear r1 r2 r3 f3 K3 S1 S2 S3 F1 F2 F3 hS hT xg xg2 xw xt xr
      simp (disch := omega) only [x_X7_digest_112, x_X7_digest_114, x_X7_digest_115, x_X7_digest_141, x_X7_digest_142, List.length_cons, List.length_nil, Nat.reduceLeDiff, Nat.zero_add, iI_add, iI_sub, iI_mul, iI_neg, iI_lt, iI_le, iI_eq, jI_iI, B_True, B_False, B_t, B_f, ck_True, gd_True, cb_v, cb_n, p_mv_rw, p_fv_rw, p_rv_some, pA_1, pA_90, pA_92, pA_3, pA_5, pA_93, pA_4, pA_91, pA_6, pS_i, pB_i, pW_i, pZ_0, pZ_1, pZ_b, bI_e0, u1_s, u1_n, uA_s, uA_n, true_and, and_true, not_true_eq_false, not_false_eq_true, eq_self, iI_z, al1, al5, al3, al4, al90, al91, al92, al93, al6, Int.cast_ofNat_Int, Nat.reduceAdd, Int.reduceNeg, Int.reduceAdd, Int.reduceSub, Int.reduceMul, Int.reduceLT, Int.reduceLE, Int.reduceGT, Int.reduceGE, Int.reduceEq, Int.reduceNe, Nat.reduceEqDiff, Int.zero_add, Int.add_zero, p_ty0, p_ty1, p_ty2, p_ty3, p_ty4, p_ty5, p_ty8, p_ty9, p_ty10, B_t, B_f]
    | cons x Q ih =>
      intro P d hP
      have hPl : P.length + 1 + Q.length = (lgQ S.1 S.2.1 S.2.2.1 S.2.2.2.1).length := by rw [← hP]; simp; omega
      have hx := lgQ_sub (x := x) (bb := S.1) (t := S.2.1) (pas := S.2.2.1) (q := S.2.2.2.1) (by rw [← hP]; simp)
      have hm := c_moveAt (d := e) (T := T) (F := F) xg K3.2.2.1 K3.len (n := P.length) (by rw [← hx.2]; omega) (by omega)
      rw [← hx.2, ← hP, getD_mid] at hm
      have ih := ih (P ++ [x]) (dg1 d x) (by rw [List.append_assoc]; exact hP)
      rw [List.length_append, List.length_singleton, Int.natCast_add_one] at ih
      rw [dgL, ← ih, x_X7_digest_112]
      clear ih r1 r2 r3 f3 K3 S1 S2 S3 F1 F2 F3 hS hT xg xg2 xw xt xr hP hx
      unfold dg1
      simp (disch := omega) only [x_X7_digest_114, x_X7_digest_115, x_X7_digest_118, x_X7_digest_119, x_X7_digest_122, x_X7_digest_123, x_X7_digest_124, x_X7_digest_127, x_X7_digest_129, x_X7_digest_132, x_X7_digest_133, x_X7_digest_134, x_X7_digest_135, x_X7_digest_138, List.length_cons, List.length_nil, Nat.reduceLeDiff, Nat.zero_add, iI_add, iI_sub, iI_mul, iI_neg, iI_lt, iI_le, iI_eq, jI_iI, B_True, B_False, B_t, B_f, ck_True, gd_True, cb_v, cb_n, p_mv_rw, p_fv_rw, p_rv_some, pA_1, pA_90, pA_92, pA_3, pA_5, pA_93, pA_4, pA_91, pA_6, pS_i, pB_i, pW_i, pZ_0, pZ_1, pZ_b, bI_e0, u1_s, u1_n, uA_s, uA_n, true_and, and_true, not_true_eq_false, not_false_eq_true, eq_self, iI_z, al1, al5, al3, al4, al90, al91, al92, al93, al6, Int.cast_ofNat_Int, Nat.reduceAdd, Int.reduceNeg, Int.reduceAdd, Int.reduceSub, Int.reduceMul, Int.reduceLT, Int.reduceLE, Int.reduceGT, Int.reduceGE, Int.reduceEq, Int.reduceNe, Nat.reduceEqDiff, Int.zero_add, Int.add_zero, p_ty0, p_ty1, p_ty2, p_ty3, p_ty4, p_ty5, p_ty8, p_ty9, p_ty10, x0, x5, w0, hm, gd_t, B_t, B_f]
  have h9 := key (lgQ S.1 S.2.1 S.2.2.1 S.2.2.2.1) [] (dgC S 91 0 (dgK S z 11 0 (iL 887))) (List.nil_append _)
  rw [List.length_nil, Int.natCast_zero] at h9
  unfold z_dig
  clear key S1 S2 S3 F1 F2 F3 K3 f3 hS hT xg xg2 xw xt xr
  simp (disch := omega) only [x_X7_digest_0, x_X7_digest_3, x_X7_digest_4, x_X7_digest_5, List.length_cons, List.length_nil, Nat.reduceLeDiff, Nat.zero_add, iI_add, iI_sub, iI_mul, iI_neg, iI_lt, iI_le, iI_eq, jI_iI, B_True, B_False, B_t, B_f, ck_True, gd_True, cb_v, cb_n, p_mv_rw, p_fv_rw, p_rv_some, pA_1, pA_90, pA_92, pA_3, pA_5, pA_93, pA_4, pA_91, pA_6, pS_i, pB_i, pW_i, pZ_0, pZ_1, pZ_b, bI_e0, u1_s, u1_n, uA_s, uA_n, true_and, and_true, not_true_eq_false, not_false_eq_true, eq_self, iI_z, al1, al5, al3, al4, al90, al91, al92, al93, al6, Int.cast_ofNat_Int, Nat.reduceAdd, Int.reduceNeg, Int.reduceAdd, Int.reduceSub, Int.reduceMul, Int.reduceLT, Int.reduceLE, Int.reduceGT, Int.reduceGE, Int.reduceEq, Int.reduceNe, Nat.reduceEqDiff, Int.zero_add, Int.add_zero, p_ty0, p_ty1, p_ty2, p_ty3, p_ty4, p_ty5, p_ty8, p_ty9, p_ty10]
  rw [r1]
  simp (disch := omega) only [x_X7_digest_31, x_X7_digest_32, List.length_cons, List.length_nil, Nat.reduceLeDiff, Nat.zero_add, iI_add, iI_sub, iI_mul, iI_neg, iI_lt, iI_le, iI_eq, jI_iI, B_True, B_False, B_t, B_f, ck_True, gd_True, cb_v, cb_n, p_mv_rw, p_fv_rw, p_rv_some, pA_1, pA_90, pA_92, pA_3, pA_5, pA_93, pA_4, pA_91, pA_6, pS_i, pB_i, pW_i, pZ_0, pZ_1, pZ_b, bI_e0, u1_s, u1_n, uA_s, uA_n, true_and, and_true, not_true_eq_false, not_false_eq_true, eq_self, iI_z, al1, al5, al3, al4, al90, al91, al92, al93, al6, Int.cast_ofNat_Int, Nat.reduceAdd, Int.reduceNeg, Int.reduceAdd, Int.reduceSub, Int.reduceMul, Int.reduceLT, Int.reduceLE, Int.reduceGT, Int.reduceGE, Int.reduceEq, Int.reduceNe, Nat.reduceEqDiff, Int.zero_add, Int.add_zero, p_ty0, p_ty1, p_ty2, p_ty3, p_ty4, p_ty5, p_ty8, p_ty9, p_ty10]
  rw [r2]
  simp (disch := omega) only [x_X7_digest_101, x_X7_digest_102, x_X7_digest_105, x_X7_digest_108, x_X7_digest_109, x_X7_digest_110, List.length_cons, List.length_nil, Nat.reduceLeDiff, Nat.zero_add, iI_add, iI_sub, iI_mul, iI_neg, iI_lt, iI_le, iI_eq, jI_iI, B_True, B_False, B_t, B_f, ck_True, gd_True, cb_v, cb_n, p_mv_rw, p_fv_rw, p_rv_some, pA_1, pA_90, pA_92, pA_3, pA_5, pA_93, pA_4, pA_91, pA_6, pS_i, pB_i, pW_i, pZ_0, pZ_1, pZ_b, bI_e0, u1_s, u1_n, uA_s, uA_n, true_and, and_true, not_true_eq_false, not_false_eq_true, eq_self, iI_z, al1, al5, al3, al4, al90, al91, al92, al93, al6, Int.cast_ofNat_Int, Nat.reduceAdd, Int.reduceNeg, Int.reduceAdd, Int.reduceSub, Int.reduceMul, Int.reduceLT, Int.reduceLE, Int.reduceGT, Int.reduceGE, Int.reduceEq, Int.reduceNe, Nat.reduceEqDiff, Int.zero_add, Int.add_zero, p_ty0, p_ty1, p_ty2, p_ty3, p_ty4, p_ty5, p_ty8, p_ty9, p_ty10, x0, x5, w0, r3, h9, gd_t]
end PDIG
