section PCW
variable {d g G1 G2 : Nat} {T : pT} {M M0 M1 M2 : pM} {F F1 : pF} {bb bs : Int → Int} {t pas q its to as p z n i c s x er ea : Int} {S S1 : GSx} {D : Nat} {m : pC} {v : List Value}
/-- the class's cells -/
def XT (T : pT) (F : pF) (G1 G2 : Nat) : Prop := p_ty T 100 = (17, 7) ∧ (F 100 0 = some 101 ∧ F 100 1 = some 103 ∧ F 100 2 = some 107 ∧ F 100 3 = some 108 ∧ F 100 4 = some G1 ∧ F 100 5 = some G2) ∧ TT T F 101 ∧ RT T F 103 ∧ p_ty T 107 = (15, 1) ∧ WT T F 108 ∧ GT T F G1 ∧ GT T F G2 ∧ ((G1 = 113 ∧ G2 = 120) ∨ (G1 = 120 ∧ G2 = 113))
/-- the class's state: its game, the error's place, the tape -/
def XS (M : pM) (G1 G2 : Nat) (S : GSx) (ea : Int) (bs : Int → Int) (z : Int) : Prop := GAx M G1 S ∧ BV (M (G2 + 1 + 1)) ∧ TS M 101 bs z ∧ M 100 6 = ea ∧ RB M 109 (fun _ => 0)
def CW (T : pT) (M : pM) (F : pF) (S : GSx) (ea : Int) (bs : Int → Int) (z : Int) : Prop := ∃ G1 G2, XT T F G1 G2 ∧ XS M G1 G2 S ea bs z
def FX (M M' : pM) (F F' : pF) : Prop := ∀ a, 127 ≤ a → M' a = M a ∧ F' a = F a
def XRet (T : pT) (M : pM) (F : pF) (m : pC) (v : List Value) (D : Nat) (r : Option Value) (P : pM → pF → Prop) : Prop := ∃ M' F', (∀ d, D ≤ d → callD d m v T M F = some (.inl r, T, M', F')) ∧ P M' F' ∧ FX M M' F F'
def XThr (T : pT) (M : pM) (F : pF) (m : pC) (v : List Value) (D E : Nat) (P : pM → pF → Prop) : Prop := ∃ M', (∀ d, D ≤ d → callD d m v T M F = some (.inr E, p_new T 0 6, uA M' T.1.1 (fun _ => 0), uA F T.1.1 (fun _ => none))) ∧ P M' F ∧ FX M M' F F
theorem FX.rf : FX M M F F := fun _ _ => ⟨rfl, rfl⟩
theorem XS.upd (hT : XT T F G1 G2) (h : XS M G1 G2 S ea bs z) (hA : GAx M1 G1 S1) (f : ∀ a, (a < G1 ∨ G1 + 6 < a) → M1 a = M a) : XS M1 G1 G2 S1 ea bs z ∧ FX M M1 F F := by
  obtain ⟨-, -, -, -, -, -, -, -, hg⟩ := hT
  obtain ⟨h1, h2, h3, h4, h5⟩ := h
  refine ⟨⟨hA, ?_, h3.fr (f _ (by omega)) (f _ (by omega)), ?_, ?_⟩, fun a ha => ⟨f a (by omega), rfl⟩⟩
  · rw [f (G2 + 1 + 1) (by omega)]; exact h2
  · rw [f 100 (by omega)]; exact h4
  · unfold RB at *; rw [f 109 (by omega), f (109 + 1) (by omega)]; exact h5
theorem FTr.o (f : FTr M M1 g) : ∀ a, (a < g ∨ g + 6 < a) → M1 a = M a := fun a ha => f.2 a (by omega) (by omega) (by omega) (by omega) (by omega)
theorem XS.mv (hT : XT T F G1 G2) (h : XS M G1 G2 S ea bs z) (f : FMv M M1 G1) (hk : GK M1 G1 S.1 S.2.1 S.2.2.1 S.2.2.2.1) : XS M1 G1 G2 S ea bs z ∧ FX M M1 F F := h.upd hT (GA.fr h.1 f hk) f.o
/-- behind trying moves -/
theorem XS.try (hT : XT T F G1 G2) (h : XS M G1 G2 S ea bs z) (hk : GKL M1 G1 S.1 S.2.1 S.2.2.1 S.2.2.2.1) (f : ∀ a, a ≠ G1 → a ≠ G1 + 1 → a ≠ G1 + 1 + 1 → a ≠ G1 + 4 → a ≠ G1 + 5 → a ≠ G1 + 6 → M1 a = M a) (f5 : M1 G1 5 = M G1 5) : XS M1 G1 G2 S ea bs z ∧ FX M M1 F F := by
  refine h.upd hT ⟨hk.gk, ?_, ?_, h.1.2.2.2⟩ (fun a ha => f a (by omega) (by omega) (by omega) (by omega) (by omega) (by omega))
  · rw [f5]; exact h.1.2.1
  · rw [f (G1 + 3) (by omega) (by omega) (by omega) (by omega) (by omega) (by omega)]; exact h.1.2.2.1
/-- the counts -/
noncomputable def z_cnt (S : GSx) (z what : Int) : Int :=
  if what = 0 then (S.2.2.2.2.length : Int) else if what = 1 then S.2.1 else if what = 2 then hw S.1 S.2.1 S.2.2.1 S.2.2.2.1 else if what = 3 then ((lgQ S.1 S.2.1 S.2.2.1 S.2.2.2.1).length : Int)
  else if what = 4 then sm (a_wo S.1 0) 91 else if what = 5 then sm (a_wo S.1 1) 91 else if what = 6 then S.2.2.2.1 else if what = 7 then pt (hw S.1 S.2.1 S.2.2.1 S.2.2.2.1) S.2.1 0 else if what = 8 then pt (hw S.1 S.2.1 S.2.2.1 S.2.2.2.1) S.2.1 1
  else if what = 9 then S.2.2.1 else z
theorem c_countOf (hT : XT T F G1 G2) (hS : XS M G1 G2 S ea bs z) (hn : 0 ≤ n ∧ n ≤ 10) : ∃ M', (∀ d, 9 ≤ d → callD d m_X7_countOf [.ref 100, .int (iI n)] T M F = some (.inl (some (.int (iI (z_cnt S z n)))), T, M', F)) ∧ XS M' G1 G2 S ea bs z ∧ FX M M' F F := by
  obtain ⟨x0, ⟨x1, x2, x3, x4, x5, x6⟩, xt, xr, xc, xw, xg, xg2, hg⟩ := id hT
  have hA := hS.1
  have hB := hA.gs
  have hB4 := xg.2.2.2.1
  have t0 := xg.2.1
  have f0 := xg.2.2.1
  have g1 := xg.1
  have tb := hB4.2.1
  have tt := xt.2.1
  obtain rfl | rfl | rfl | rfl | rfl | rfl | rfl | rfl | rfl | rfl | rfl : n = 0 ∨ n = 1 ∨ n = 2 ∨ n = 3 ∨ n = 4 ∨ n = 5 ∨ n = 6 ∨ n = 7 ∨ n = 8 ∨ n = 9 ∨ n = 10 := by omega
  · refine ⟨M, fun d hd => ?_, hS, FX.rf⟩
    refine callD_go 8 hd rfl (fun e he => ?_)
    show R e m_X7_countOf 0 [.val (.ref 100), .val (.int (iI 0))] [] T M F = _
    rw [x_X7_countOf_0, x_X7_countOf_1]
    show R e m_X7_countOf 56 _ _ _ _ _ = _
    have h5 := hA.2.1
    rw [show z_cnt S z 0 = (S.2.2.2.2.length : Int) from rfl, ← h5]
    clear hA hS hB hT xg xg2 xw xr xt hB4 h5
    simp (disch := omega) only [x_X7_countOf_56, x_X7_countOf_57, x_X7_countOf_60, x_X7_countOf_63, List.length_cons, List.length_nil, Nat.reduceLeDiff, Nat.zero_add, iI_add, iI_sub, iI_mul, iI_neg, iI_lt, iI_le, iI_eq, jI_iI, B_True, B_False, B_t, B_f, ck_True, gd_True, cb_v, cb_n, p_mv_rw, p_fv_rw, p_rv_some, pA_1, pA_90, pA_92, pA_3, pA_5, pA_93, pA_4, pA_91, pA_6, pS_i, pB_i, pW_i, pZ_0, pZ_1, pZ_b, bI_e0, u1_s, u1_n, uA_s, uA_n, true_and, and_true, not_true_eq_false, not_false_eq_true, eq_self, iI_z, al1, al5, al3, al4, al90, al91, al92, al93, al6, Int.cast_ofNat_Int, Nat.reduceAdd, Int.reduceNeg, Int.reduceAdd, Int.reduceSub, Int.reduceMul, Int.reduceLT, Int.reduceLE, Int.reduceGT, Int.reduceGE, Int.reduceEq, Int.reduceNe, Nat.reduceEqDiff, Int.zero_add, Int.add_zero, p_ty0, p_ty1, p_ty2, p_ty3, p_ty4, p_ty5, p_ty8, p_ty9, p_ty10, x0, x5, t0, gd_t]
  · refine ⟨M, fun d hd => ?_, hS, FX.rf⟩
    refine callD_go 8 hd rfl (fun e he => ?_)
    show R e m_X7_countOf 0 [.val (.ref 100), .val (.int (iI 1))] [] T M F = _
    rw [x_X7_countOf_0, x_X7_countOf_1]
    show R e m_X7_countOf 64 _ _ _ _ _ = _
    have h5 := hB.2.1
    rw [show z_cnt S z 1 = S.2.1 from rfl, ← h5]
    clear hA hS hB hT xg xg2 xw xr xt hB4 h5
    simp (disch := omega) only [x_X7_countOf_64, x_X7_countOf_65, x_X7_countOf_68, x_X7_countOf_71, List.length_cons, List.length_nil, Nat.reduceLeDiff, Nat.zero_add, iI_add, iI_sub, iI_mul, iI_neg, iI_lt, iI_le, iI_eq, jI_iI, B_True, B_False, B_t, B_f, ck_True, gd_True, cb_v, cb_n, p_mv_rw, p_fv_rw, p_rv_some, pA_1, pA_90, pA_92, pA_3, pA_5, pA_93, pA_4, pA_91, pA_6, pS_i, pB_i, pW_i, pZ_0, pZ_1, pZ_b, bI_e0, u1_s, u1_n, uA_s, uA_n, true_and, and_true, not_true_eq_false, not_false_eq_true, eq_self, iI_z, al1, al5, al3, al4, al90, al91, al92, al93, al6, Int.cast_ofNat_Int, Nat.reduceAdd, Int.reduceNeg, Int.reduceAdd, Int.reduceSub, Int.reduceMul, Int.reduceLT, Int.reduceLE, Int.reduceGT, Int.reduceGE, Int.reduceEq, Int.reduceNe, Nat.reduceEqDiff, Int.zero_add, Int.add_zero, p_ty0, p_ty1, p_ty2, p_ty3, p_ty4, p_ty5, p_ty8, p_ty9, p_ty10, x0, x5, t0, gd_t]
  · obtain ⟨M', e1, f1, K1⟩ := c_howItIs (T := T) (F := F) xg hA.1
    obtain ⟨S1, F1⟩ := hS.mv hT f1 K1
    refine ⟨M', fun d hd => ?_, S1, F1⟩
    refine callD_go 8 hd rfl (fun e he => ?_)
    show R e m_X7_countOf 0 [.val (.ref 100), .val (.int (iI 2))] [] T M F = _
    rw [x_X7_countOf_0, x_X7_countOf_1]
    show R e m_X7_countOf 72 _ _ _ _ _ = _
    have e1 := e1 e (by omega)
    rw [show z_cnt S z 2 = hw S.1 S.2.1 S.2.2.1 S.2.2.2.1 from rfl]
    clear hA hS hB hT xg xg2 xw xr xt hB4 S1 F1 f1 K1
    simp (disch := omega) only [x_X7_countOf_72, x_X7_countOf_73, x_X7_countOf_76, x_X7_countOf_79, List.length_cons, List.length_nil, Nat.reduceLeDiff, Nat.zero_add, iI_add, iI_sub, iI_mul, iI_neg, iI_lt, iI_le, iI_eq, jI_iI, B_True, B_False, B_t, B_f, ck_True, gd_True, cb_v, cb_n, p_mv_rw, p_fv_rw, p_rv_some, pA_1, pA_90, pA_92, pA_3, pA_5, pA_93, pA_4, pA_91, pA_6, pS_i, pB_i, pW_i, pZ_0, pZ_1, pZ_b, bI_e0, u1_s, u1_n, uA_s, uA_n, true_and, and_true, not_true_eq_false, not_false_eq_true, eq_self, iI_z, al1, al5, al3, al4, al90, al91, al92, al93, al6, Int.cast_ofNat_Int, Nat.reduceAdd, Int.reduceNeg, Int.reduceAdd, Int.reduceSub, Int.reduceMul, Int.reduceLT, Int.reduceLE, Int.reduceGT, Int.reduceGE, Int.reduceEq, Int.reduceNe, Nat.reduceEqDiff, Int.zero_add, Int.add_zero, p_ty0, p_ty1, p_ty2, p_ty3, p_ty4, p_ty5, p_ty8, p_ty9, p_ty10, x0, x5, t0, e1, gd_t]
  · obtain ⟨M', e1, f1, K1⟩ := c_moveCount (T := T) (F := F) xg hA.1
    obtain ⟨S1, F1⟩ := hS.mv hT f1 K1.gk
    refine ⟨M', fun d hd => ?_, S1, F1⟩
    refine callD_go 8 hd rfl (fun e he => ?_)
    show R e m_X7_countOf 0 [.val (.ref 100), .val (.int (iI 3))] [] T M F = _
    rw [x_X7_countOf_0, x_X7_countOf_1]
    show R e m_X7_countOf 80 _ _ _ _ _ = _
    have e1 := e1 e (by omega)
    rw [show z_cnt S z 3 = ((lgQ S.1 S.2.1 S.2.2.1 S.2.2.2.1).length : Int) from rfl]
    clear hA hS hB hT xg xg2 xw xr xt hB4 S1 F1 f1 K1
    simp (disch := omega) only [x_X7_countOf_80, x_X7_countOf_81, x_X7_countOf_84, x_X7_countOf_87, List.length_cons, List.length_nil, Nat.reduceLeDiff, Nat.zero_add, iI_add, iI_sub, iI_mul, iI_neg, iI_lt, iI_le, iI_eq, jI_iI, B_True, B_False, B_t, B_f, ck_True, gd_True, cb_v, cb_n, p_mv_rw, p_fv_rw, p_rv_some, pA_1, pA_90, pA_92, pA_3, pA_5, pA_93, pA_4, pA_91, pA_6, pS_i, pB_i, pW_i, pZ_0, pZ_1, pZ_b, bI_e0, u1_s, u1_n, uA_s, uA_n, true_and, and_true, not_true_eq_false, not_false_eq_true, eq_self, iI_z, al1, al5, al3, al4, al90, al91, al92, al93, al6, Int.cast_ofNat_Int, Nat.reduceAdd, Int.reduceNeg, Int.reduceAdd, Int.reduceSub, Int.reduceMul, Int.reduceLT, Int.reduceLE, Int.reduceGT, Int.reduceGE, Int.reduceEq, Int.reduceNe, Nat.reduceEqDiff, Int.zero_add, Int.add_zero, p_ty0, p_ty1, p_ty2, p_ty3, p_ty4, p_ty5, p_ty8, p_ty9, p_ty10, x0, x5, t0, e1, gd_t]
  · refine ⟨M, fun d hd => ?_, hS, FX.rf⟩
    refine callD_go 8 hd rfl (fun e he => ?_)
    show R e m_X7_countOf 0 [.val (.ref 100), .val (.int (iI 4))] [] T M F = _
    rw [x_X7_countOf_0, x_X7_countOf_1]
    show R e m_X7_countOf 88 _ _ _ _ _ = _
    have e1 := c_worth (d := e) (T := T) (F := F) hB4 hB.1 (by omega) (s := 0) (Or.inl rfl)
    rw [show z_cnt S z 4 = sm (a_wo S.1 0) 91 from rfl]
    clear hA hS hB hT xg xg2 xw xr xt hB4
    simp (disch := omega) only [x_X7_countOf_88, x_X7_countOf_89, x_X7_countOf_92, x_X7_countOf_95, x_X7_countOf_96, x_X7_countOf_99, List.length_cons, List.length_nil, Nat.reduceLeDiff, Nat.zero_add, iI_add, iI_sub, iI_mul, iI_neg, iI_lt, iI_le, iI_eq, jI_iI, B_True, B_False, B_t, B_f, ck_True, gd_True, cb_v, cb_n, p_mv_rw, p_fv_rw, p_rv_some, pA_1, pA_90, pA_92, pA_3, pA_5, pA_93, pA_4, pA_91, pA_6, pS_i, pB_i, pW_i, pZ_0, pZ_1, pZ_b, bI_e0, u1_s, u1_n, uA_s, uA_n, true_and, and_true, not_true_eq_false, not_false_eq_true, eq_self, iI_z, al1, al5, al3, al4, al90, al91, al92, al93, al6, Int.cast_ofNat_Int, Nat.reduceAdd, Int.reduceNeg, Int.reduceAdd, Int.reduceSub, Int.reduceMul, Int.reduceLT, Int.reduceLE, Int.reduceGT, Int.reduceGE, Int.reduceEq, Int.reduceNe, Nat.reduceEqDiff, Int.zero_add, Int.add_zero, p_ty0, p_ty1, p_ty2, p_ty3, p_ty4, p_ty5, p_ty8, p_ty9, p_ty10, x0, x5, t0, f0, tb, e1, gd_t]
  · refine ⟨M, fun d hd => ?_, hS, FX.rf⟩
    refine callD_go 8 hd rfl (fun e he => ?_)
    show R e m_X7_countOf 0 [.val (.ref 100), .val (.int (iI 5))] [] T M F = _
    rw [x_X7_countOf_0, x_X7_countOf_1]
    show R e m_X7_countOf 100 _ _ _ _ _ = _
    have e1 := c_worth (d := e) (T := T) (F := F) hB4 hB.1 (by omega) (s := 1) (Or.inr rfl)
    rw [show z_cnt S z 5 = sm (a_wo S.1 1) 91 from rfl]
    clear hA hS hB hT xg xg2 xw xr xt hB4
    simp (disch := omega) only [x_X7_countOf_100, x_X7_countOf_101, x_X7_countOf_104, x_X7_countOf_107, x_X7_countOf_108, x_X7_countOf_111, List.length_cons, List.length_nil, Nat.reduceLeDiff, Nat.zero_add, iI_add, iI_sub, iI_mul, iI_neg, iI_lt, iI_le, iI_eq, jI_iI, B_True, B_False, B_t, B_f, ck_True, gd_True, cb_v, cb_n, p_mv_rw, p_fv_rw, p_rv_some, pA_1, pA_90, pA_92, pA_3, pA_5, pA_93, pA_4, pA_91, pA_6, pS_i, pB_i, pW_i, pZ_0, pZ_1, pZ_b, bI_e0, u1_s, u1_n, uA_s, uA_n, true_and, and_true, not_true_eq_false, not_false_eq_true, eq_self, iI_z, al1, al5, al3, al4, al90, al91, al92, al93, al6, Int.cast_ofNat_Int, Nat.reduceAdd, Int.reduceNeg, Int.reduceAdd, Int.reduceSub, Int.reduceMul, Int.reduceLT, Int.reduceLE, Int.reduceGT, Int.reduceGE, Int.reduceEq, Int.reduceNe, Nat.reduceEqDiff, Int.zero_add, Int.add_zero, p_ty0, p_ty1, p_ty2, p_ty3, p_ty4, p_ty5, p_ty8, p_ty9, p_ty10, x0, x5, t0, f0, tb, e1, gd_t]
  · refine ⟨M, fun d hd => ?_, hS, FX.rf⟩
    refine callD_go 8 hd rfl (fun e he => ?_)
    show R e m_X7_countOf 0 [.val (.ref 100), .val (.int (iI 6))] [] T M F = _
    rw [x_X7_countOf_0, x_X7_countOf_1]
    show R e m_X7_countOf 112 _ _ _ _ _ = _
    have h5 := hB.2.2.1
    rw [show z_cnt S z 6 = S.2.2.2.1 from rfl, ← h5]
    clear hA hS hB hT xg xg2 xw xr xt hB4 h5
    simp (disch := omega) only [x_X7_countOf_112, x_X7_countOf_113, x_X7_countOf_116, x_X7_countOf_119, List.length_cons, List.length_nil, Nat.reduceLeDiff, Nat.zero_add, iI_add, iI_sub, iI_mul, iI_neg, iI_lt, iI_le, iI_eq, jI_iI, B_True, B_False, B_t, B_f, ck_True, gd_True, cb_v, cb_n, p_mv_rw, p_fv_rw, p_rv_some, pA_1, pA_90, pA_92, pA_3, pA_5, pA_93, pA_4, pA_91, pA_6, pS_i, pB_i, pW_i, pZ_0, pZ_1, pZ_b, bI_e0, u1_s, u1_n, uA_s, uA_n, true_and, and_true, not_true_eq_false, not_false_eq_true, eq_self, iI_z, al1, al5, al3, al4, al90, al91, al92, al93, al6, Int.cast_ofNat_Int, Nat.reduceAdd, Int.reduceNeg, Int.reduceAdd, Int.reduceSub, Int.reduceMul, Int.reduceLT, Int.reduceLE, Int.reduceGT, Int.reduceGE, Int.reduceEq, Int.reduceNe, Nat.reduceEqDiff, Int.zero_add, Int.add_zero, p_ty0, p_ty1, p_ty2, p_ty3, p_ty4, p_ty5, p_ty8, p_ty9, p_ty10, x0, x5, t0, gd_t]
  · obtain ⟨M', e1, f1, K1⟩ := c_pointsOf (T := T) (F := F) xg hA.1 (s := 0) (Or.inl rfl)
    obtain ⟨S1, F1⟩ := hS.mv hT f1 K1
    refine ⟨M', fun d hd => ?_, S1, F1⟩
    refine callD_go 8 hd rfl (fun e he => ?_)
    show R e m_X7_countOf 0 [.val (.ref 100), .val (.int (iI 7))] [] T M F = _
    rw [x_X7_countOf_0, x_X7_countOf_1]
    show R e m_X7_countOf 120 _ _ _ _ _ = _
    have e1 := e1 e (by omega)
    rw [show z_cnt S z 7 = pt (hw S.1 S.2.1 S.2.2.1 S.2.2.2.1) S.2.1 0 from rfl]
    clear hA hS hB hT xg xg2 xw xr xt hB4 S1 F1 f1 K1
    simp (disch := omega) only [x_X7_countOf_120, x_X7_countOf_121, x_X7_countOf_124, x_X7_countOf_125, x_X7_countOf_128, List.length_cons, List.length_nil, Nat.reduceLeDiff, Nat.zero_add, iI_add, iI_sub, iI_mul, iI_neg, iI_lt, iI_le, iI_eq, jI_iI, B_True, B_False, B_t, B_f, ck_True, gd_True, cb_v, cb_n, p_mv_rw, p_fv_rw, p_rv_some, pA_1, pA_90, pA_92, pA_3, pA_5, pA_93, pA_4, pA_91, pA_6, pS_i, pB_i, pW_i, pZ_0, pZ_1, pZ_b, bI_e0, u1_s, u1_n, uA_s, uA_n, true_and, and_true, not_true_eq_false, not_false_eq_true, eq_self, iI_z, al1, al5, al3, al4, al90, al91, al92, al93, al6, Int.cast_ofNat_Int, Nat.reduceAdd, Int.reduceNeg, Int.reduceAdd, Int.reduceSub, Int.reduceMul, Int.reduceLT, Int.reduceLE, Int.reduceGT, Int.reduceGE, Int.reduceEq, Int.reduceNe, Nat.reduceEqDiff, Int.zero_add, Int.add_zero, p_ty0, p_ty1, p_ty2, p_ty3, p_ty4, p_ty5, p_ty8, p_ty9, p_ty10, x0, x5, t0, e1, gd_t]
  · obtain ⟨M', e1, f1, K1⟩ := c_pointsOf (T := T) (F := F) xg hA.1 (s := 1) (Or.inr rfl)
    obtain ⟨S1, F1⟩ := hS.mv hT f1 K1
    refine ⟨M', fun d hd => ?_, S1, F1⟩
    refine callD_go 8 hd rfl (fun e he => ?_)
    show R e m_X7_countOf 0 [.val (.ref 100), .val (.int (iI 8))] [] T M F = _
    rw [x_X7_countOf_0, x_X7_countOf_1]
    show R e m_X7_countOf 129 _ _ _ _ _ = _
    have e1 := e1 e (by omega)
    rw [show z_cnt S z 8 = pt (hw S.1 S.2.1 S.2.2.1 S.2.2.2.1) S.2.1 1 from rfl]
    clear hA hS hB hT xg xg2 xw xr xt hB4 S1 F1 f1 K1
    simp (disch := omega) only [x_X7_countOf_129, x_X7_countOf_130, x_X7_countOf_133, x_X7_countOf_134, x_X7_countOf_137, List.length_cons, List.length_nil, Nat.reduceLeDiff, Nat.zero_add, iI_add, iI_sub, iI_mul, iI_neg, iI_lt, iI_le, iI_eq, jI_iI, B_True, B_False, B_t, B_f, ck_True, gd_True, cb_v, cb_n, p_mv_rw, p_fv_rw, p_rv_some, pA_1, pA_90, pA_92, pA_3, pA_5, pA_93, pA_4, pA_91, pA_6, pS_i, pB_i, pW_i, pZ_0, pZ_1, pZ_b, bI_e0, u1_s, u1_n, uA_s, uA_n, true_and, and_true, not_true_eq_false, not_false_eq_true, eq_self, iI_z, al1, al5, al3, al4, al90, al91, al92, al93, al6, Int.cast_ofNat_Int, Nat.reduceAdd, Int.reduceNeg, Int.reduceAdd, Int.reduceSub, Int.reduceMul, Int.reduceLT, Int.reduceLE, Int.reduceGT, Int.reduceGE, Int.reduceEq, Int.reduceNe, Nat.reduceEqDiff, Int.zero_add, Int.add_zero, p_ty0, p_ty1, p_ty2, p_ty3, p_ty4, p_ty5, p_ty8, p_ty9, p_ty10, x0, x5, t0, e1, gd_t]
  · refine ⟨M, fun d hd => ?_, hS, FX.rf⟩
    refine callD_go 8 hd rfl (fun e he => ?_)
    show R e m_X7_countOf 0 [.val (.ref 100), .val (.int (iI 9))] [] T M F = _
    rw [x_X7_countOf_0, x_X7_countOf_1]
    show R e m_X7_countOf 138 _ _ _ _ _ = _
    have e1 := c_passingCell (d := e) (T := T) (F := F) xg hB (by omega)
    rw [show z_cnt S z 9 = S.2.2.1 from rfl]
    clear hA hS hB hT xg xg2 xw xr xt hB4
    simp (disch := omega) only [x_X7_countOf_138, x_X7_countOf_139, x_X7_countOf_142, x_X7_countOf_145, List.length_cons, List.length_nil, Nat.reduceLeDiff, Nat.zero_add, iI_add, iI_sub, iI_mul, iI_neg, iI_lt, iI_le, iI_eq, jI_iI, B_True, B_False, B_t, B_f, ck_True, gd_True, cb_v, cb_n, p_mv_rw, p_fv_rw, p_rv_some, pA_1, pA_90, pA_92, pA_3, pA_5, pA_93, pA_4, pA_91, pA_6, pS_i, pB_i, pW_i, pZ_0, pZ_1, pZ_b, bI_e0, u1_s, u1_n, uA_s, uA_n, true_and, and_true, not_true_eq_false, not_false_eq_true, eq_self, iI_z, al1, al5, al3, al4, al90, al91, al92, al93, al6, Int.cast_ofNat_Int, Nat.reduceAdd, Int.reduceNeg, Int.reduceAdd, Int.reduceSub, Int.reduceMul, Int.reduceLT, Int.reduceLE, Int.reduceGT, Int.reduceGE, Int.reduceEq, Int.reduceNe, Nat.reduceEqDiff, Int.zero_add, Int.add_zero, p_ty0, p_ty1, p_ty2, p_ty3, p_ty4, p_ty5, p_ty8, p_ty9, p_ty10, x0, x5, t0, e1, gd_t]
  · refine ⟨M, fun d hd => ?_, hS, FX.rf⟩
    refine callD_go 8 hd rfl (fun e he => ?_)
    show R e m_X7_countOf 0 [.val (.ref 100), .val (.int (iI 10))] [] T M F = _
    rw [x_X7_countOf_0, x_X7_countOf_1]
    show R e m_X7_countOf 146 _ _ _ _ _ = _
    have h5 := hS.2.2.1.2.1
    rw [show z_cnt S z 10 = z from rfl, ← h5]
    clear hA hS hB hT xg xg2 xw xr xt hB4 h5
    simp (disch := omega) only [x_X7_countOf_146, x_X7_countOf_147, x_X7_countOf_150, x_X7_countOf_153, List.length_cons, List.length_nil, Nat.reduceLeDiff, Nat.zero_add, iI_add, iI_sub, iI_mul, iI_neg, iI_lt, iI_le, iI_eq, jI_iI, B_True, B_False, B_t, B_f, ck_True, gd_True, cb_v, cb_n, p_mv_rw, p_fv_rw, p_rv_some, pA_1, pA_90, pA_92, pA_3, pA_5, pA_93, pA_4, pA_91, pA_6, pS_i, pB_i, pW_i, pZ_0, pZ_1, pZ_b, bI_e0, u1_s, u1_n, uA_s, uA_n, true_and, and_true, not_true_eq_false, not_false_eq_true, eq_self, iI_z, al1, al5, al3, al4, al90, al91, al92, al93, al6, Int.cast_ofNat_Int, Nat.reduceAdd, Int.reduceNeg, Int.reduceAdd, Int.reduceSub, Int.reduceMul, Int.reduceLT, Int.reduceLE, Int.reduceGT, Int.reduceGE, Int.reduceEq, Int.reduceNe, Nat.reduceEqDiff, Int.zero_add, Int.add_zero, p_ty0, p_ty1, p_ty2, p_ty3, p_ty4, p_ty5, p_ty8, p_ty9, p_ty10, x0, x1, tt, gd_t]
end PCW
