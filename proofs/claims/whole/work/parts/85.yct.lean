section PYCT
variable {d bd lg N lg1 N1 : Nat} {T T1 : pT} {M M0 M1 M2 : pM} {F F1 : pF} {bb v w bs : Int → Int} {t pas q its to as p n i c s x k a b z acc ea j0 : Int} {H : List HE} {A L : List Int} {io : Nat} {S : GSx}
def SPx (S : GSx) : Prop := SP S.1 S.2.1 S.2.2.1 S.2.2.2.1 ∧ HI S.2.2.2.2 S.1 S.2.1 S.2.2.1 S.2.2.2.1
/-- the model's state: its game, the error's place, the tape -/
def MW (T : pT) (M : pM) (F : pF) (bd lg N : Nat) (S : GSx) (ea : Int) (bs : Int → Int) (z : Int) : Prop := YV T M F bd lg N S.2.2.2.2 ∧ YS M bd S.1 S.2.1 S.2.2.1 S.2.2.2.1 ∧ M 127 2 = z ∧ M 127 3 = ea ∧ M 128 = bs
/-- what a call of the model may change -/
def OR (T : pT) (M : pM) (F : pF) (N : Nat) (T' : pT) (M' : pM) (F' : pF) (N' : Nat) : Prop := s_mono T T' ∧ (∀ a, a < 127 → M' a = M a ∧ F' a = F a) ∧ M' 144 = M 144 ∧ N ≤ N' ∧ 448 * T'.1.1 + N ≤ 448 * T.1.1 + N' ∧ T'.1.2 + 2 * N ≤ T.1.2 + 2 * N'
theorem OR.rf : OR T M F N T M F N := ⟨s_mono.rf, fun _ _ => ⟨rfl, rfl⟩, rfl, Nat.le_refl _, Nat.le_refl _, Nat.le_refl _⟩
theorem OR.tr {T2 : pT} {F2 : pF} {N2 : Nat} (h1 : OR T M F N T1 M1 F1 N1) (h2 : OR T1 M1 F1 N1 T2 M2 F2 N2) : OR T M F N T2 M2 F2 N2 := by
  obtain ⟨a1, a2, a3, a4, a5, a6⟩ := h1
  obtain ⟨b1, b2, b3, b4, b5, b6⟩ := h2
  exact ⟨a1.tr b1, fun a ha => ⟨(b2 a ha).1.trans (a2 a ha).1, (b2 a ha).2.trans (a2 a ha).2⟩, b3.trans a3, by omega, by omega, by omega⟩
theorem YC.or {X : Nat → Prop} (h : YC X T M F lg N T1 M1 F1 lg1 N1) (hD : YD bd lg T) (hx : ∀ a, X a → 127 ≤ a ∧ a ≠ 144) : OR T M F N T1 M1 F1 N1 := by
  obtain ⟨a1, a2, a3, a4, a5, a6, a7, a8⟩ := h
  obtain ⟨d0, d0', d1, d2, d3, d4⟩ := hD
  refine ⟨a1, fun a ha => ⟨a2 a (by omega) (fun z => by have := hx a z; omega) (by omega), a3 a (by omega) (by omega)⟩, a2 144 (by omega) (fun z => by have := hx 144 z; omega) (by omega), a6, a7, a8⟩
theorem XL.xx (hD : YD bd lg T) (hio : io = 137 ∨ io = 138) : ∀ a, XL bd io a → 127 ≤ a ∧ a ≠ 144 := by
  intro a h
  obtain ⟨d0, -⟩ := hD
  unfold XL at h
  omega
/-- a list of the model is had; the rest of the state is as before -/
theorem MW.yr {X : Nat → Prop} (h : MW T M F bd lg N S ea bs z) (hR : YR X bd S.2.2.2.2 S.1 S.2.1 S.2.2.1 S.2.2.2.1 T M F lg N T1 M1 F1 lg1 N1) (hx : ∀ a, X a → 127 ≤ a ∧ a ≠ 144 ∧ a ≠ 128) : MW T1 M1 F1 bd lg1 N1 S ea bs z ∧ M1 127 0 = M 127 0 ∧ OR T M F N T1 M1 F1 N1 := by
  obtain ⟨hV, hS, h2, h3, h4⟩ := h
  obtain ⟨V1, S1, j1, C1⟩ := hR
  obtain ⟨d0, d0', d1, d2, d3, d4⟩ := id hV.2.1
  refine ⟨⟨V1, S1, ?_, ?_, ?_⟩, j1 0 (by omega) (by omega) (by omega) (by omega), C1.or hV.2.1 (fun a z => ⟨(hx a z).1, (hx a z).2.1⟩)⟩
  · rw [j1 2 (by omega) (by omega) (by omega) (by omega)]; exact h2
  · rw [j1 3 (by omega) (by omega) (by omega) (by omega)]; exact h3
  · rw [C1.2.1 128 (by omega) (fun z => by have := hx 128 z; omega) (by omega)]; exact h4
theorem XL.y (hD : YD bd lg T) (hio : io = 137 ∨ io = 138) : ∀ a, XL bd io a → 127 ≤ a ∧ a ≠ 144 ∧ a ≠ 128 := by
  intro a h
  obtain ⟨d0, -⟩ := hD
  unfold XL at h
  omega
/-- the field that tells what is thrown -/
def w0 (M : pM) (x : Int) : pM := uA M 127 (u1 (M 127) 0 x)
theorem MW.wz (h : MW T M F bd lg N S ea bs z) (x : Int) : MW T (w0 M x) F bd lg N S ea bs z ∧ w0 M x 127 0 = x ∧ OR T M F N T (w0 M x) F N := by
  obtain ⟨⟨a1, a2, a3, a4, a5, a6⟩, ⟨b1, b2, b3, b4, b5⟩, h2, h3, h4⟩ := h
  obtain ⟨d0, d0', d1, d2, d3, d4⟩ := id a2
  have f : ∀ a, a ≠ 127 → w0 M x a = M a := fun a ha => uA_n ha
  have g : ∀ j, j ≠ 0 → w0 M x 127 j = M 127 j := fun j hj => by
    show uA M 127 (u1 (M 127) 0 x) 127 j = _
    rw [uA_s, u1_n hj]
  refine ⟨⟨⟨a1, a2, a3, ?_, a5, ?_⟩, ⟨?_, ?_, ?_, ?_, ?_⟩, ?_, ?_, ?_⟩, ?_, s_mono.rf, fun a ha => ⟨f a (by omega), rfl⟩, f 144 (by omega), Nat.le_refl _, Nat.le_refl _, Nat.le_refl _⟩
  · rw [f lg (by omega)]; exact a4
  · rw [g 14 (by omega)]; exact a6
  · unfold YG at *
    rw [f 129 (by omega), f 130 (by omega), f 131 (by omega), f 132 (by omega), f 133 (by omega)]
    exact b1
  · rw [f bd (by omega)]; exact b2
  · rw [g 10 (by omega)]; exact b3
  · rw [g 11 (by omega)]; exact b4
  · rw [g 12 (by omega)]; exact b5
  · rw [g 2 (by omega)]; exact h2
  · rw [g 3 (by omega)]; exact h3
  · rw [f 128 (by omega)]; exact h4
  · show uA M 127 (u1 (M 127) 0 x) 127 0 = x
    rw [uA_s, u1_s]
/-- what is counted -/
theorem y_counted (hW : MW T M F bd lg N S ea bs z) (hP : SPx S) (hH : S.2.2.2.2.length < 614) (hn : 0 ≤ n ∧ n ≤ 10) :
    ∃ T' M' F' lg' N', (∀ d, 9 ≤ d → callD d m_X8_counted [.ref 127, .int (iI n)] T M F = some (.inl (some (.int (iI (z_cnt S z n)))), T', M', F')) ∧ MW T' M' F' bd lg' N' S ea bs z ∧ M' 127 0 = M 127 0 ∧ OR T M F N T' M' F' N' := by
  have t0 := hW.1.1.1
  have s1 := hW.2.1.2.1
  have hD := hW.1.2.1
  have hb := hP.1.1
  obtain rfl | rfl | rfl | rfl | rfl | rfl | rfl | rfl | rfl | rfl | rfl : n = 0 ∨ n = 1 ∨ n = 2 ∨ n = 3 ∨ n = 4 ∨ n = 5 ∨ n = 6 ∨ n = 7 ∨ n = 8 ∨ n = 9 ∨ n = 10 := by omega
  · refine ⟨T, M, F, lg, N, fun d hd => ?_, hW, rfl, OR.rf⟩
    refine callD_go 8 hd rfl (fun e he => ?_)
    show R e m_X8_counted 0 [.val (.ref 127), .val (.int (iI 0))] [] T M F = _
    rw [x_X8_counted_0, x_X8_counted_1]
    show R e m_X8_counted 56 _ _ _ _ _ = _
    have h5 := hW.1.2.2.2.2.2
    rw [show z_cnt S z 0 = (S.2.2.2.2.length : Int) from rfl, ← h5]
    clear hW hP hb
    simp (disch := omega) only [x_X8_counted_56, x_X8_counted_57, x_X8_counted_60, List.length_cons, List.length_nil, Nat.reduceLeDiff, Nat.zero_add, iI_add, iI_sub, iI_mul, iI_neg, iI_lt, iI_le, iI_eq, jI_iI, B_True, B_False, B_t, B_f, ck_True, gd_True, cb_v, cb_n, p_mv_rw, p_fv_rw, p_rv_some, pA_1, pA_90, pA_92, pA_3, pA_2, pA_93, pA_4, pA_91, pA_95, pS_i, pW_i, pZ_0, pZ_1, pZ_b, bI_e0, u1_s, u1_n, uA_s, uA_n, true_and, and_true, not_true_eq_false, not_false_eq_true, eq_self, iI_z, al1, al2, al3, al4, al90, al91, al92, al93, al95, Int.cast_ofNat_Int, Nat.reduceAdd, Int.reduceNeg, Int.reduceAdd, Int.reduceSub, Int.reduceMul, Int.reduceLT, Int.reduceLE, Int.reduceGT, Int.reduceGE, Int.reduceEq, Int.reduceNe, Nat.reduceEqDiff, Int.zero_add, Int.add_zero, p_ty0, p_ty1, p_ty2, p_ty3, p_ty4, p_ty5, p_ty6, p_ty7, p_ty8, p_ty9, p_ty10, p_ty11, t0, gd_t]
  · refine ⟨T, M, F, lg, N, fun d hd => ?_, hW, rfl, OR.rf⟩
    refine callD_go 8 hd rfl (fun e he => ?_)
    show R e m_X8_counted 0 [.val (.ref 127), .val (.int (iI 1))] [] T M F = _
    rw [x_X8_counted_0, x_X8_counted_1]
    show R e m_X8_counted 61 _ _ _ _ _ = _
    have h5 := hW.2.1.2.2.1
    rw [show z_cnt S z 1 = S.2.1 from rfl, ← h5]
    clear hW hP hb
    simp (disch := omega) only [x_X8_counted_61, x_X8_counted_62, x_X8_counted_65, List.length_cons, List.length_nil, Nat.reduceLeDiff, Nat.zero_add, iI_add, iI_sub, iI_mul, iI_neg, iI_lt, iI_le, iI_eq, jI_iI, B_True, B_False, B_t, B_f, ck_True, gd_True, cb_v, cb_n, p_mv_rw, p_fv_rw, p_rv_some, pA_1, pA_90, pA_92, pA_3, pA_2, pA_93, pA_4, pA_91, pA_95, pS_i, pW_i, pZ_0, pZ_1, pZ_b, bI_e0, u1_s, u1_n, uA_s, uA_n, true_and, and_true, not_true_eq_false, not_false_eq_true, eq_self, iI_z, al1, al2, al3, al4, al90, al91, al92, al93, al95, Int.cast_ofNat_Int, Nat.reduceAdd, Int.reduceNeg, Int.reduceAdd, Int.reduceSub, Int.reduceMul, Int.reduceLT, Int.reduceLE, Int.reduceGT, Int.reduceGE, Int.reduceEq, Int.reduceNe, Nat.reduceEqDiff, Int.zero_add, Int.add_zero, p_ty0, p_ty1, p_ty2, p_ty3, p_ty4, p_ty5, p_ty6, p_ty7, p_ty8, p_ty9, p_ty10, p_ty11, t0, gd_t]
  · obtain ⟨T1, M1, F1, lg1, N1, r1, R1⟩ := y_howItIs hW.1 hW.2.1 hP.1 hH
    obtain ⟨W1, f0, O1⟩ := hW.yr R1 (XL.y hD (Or.inr rfl))
    refine ⟨T1, M1, F1, lg1, N1, fun d hd => ?_, W1, f0, O1⟩
    refine callD_go 8 hd rfl (fun e he => ?_)
    show R e m_X8_counted 0 [.val (.ref 127), .val (.int (iI 2))] [] T M F = _
    rw [x_X8_counted_0, x_X8_counted_1]
    show R e m_X8_counted 66 _ _ _ _ _ = _
    have r1 := r1 e (by omega)
    rw [show z_cnt S z 2 = hw S.1 S.2.1 S.2.2.1 S.2.2.2.1 from rfl]
    clear hW hP hb W1 O1 R1
    simp (disch := omega) only [x_X8_counted_66, x_X8_counted_67, x_X8_counted_70, List.length_cons, List.length_nil, Nat.reduceLeDiff, Nat.zero_add, iI_add, iI_sub, iI_mul, iI_neg, iI_lt, iI_le, iI_eq, jI_iI, B_True, B_False, B_t, B_f, ck_True, gd_True, cb_v, cb_n, p_mv_rw, p_fv_rw, p_rv_some, pA_1, pA_90, pA_92, pA_3, pA_2, pA_93, pA_4, pA_91, pA_95, pS_i, pW_i, pZ_0, pZ_1, pZ_b, bI_e0, u1_s, u1_n, uA_s, uA_n, true_and, and_true, not_true_eq_false, not_false_eq_true, eq_self, iI_z, al1, al2, al3, al4, al90, al91, al92, al93, al95, Int.cast_ofNat_Int, Nat.reduceAdd, Int.reduceNeg, Int.reduceAdd, Int.reduceSub, Int.reduceMul, Int.reduceLT, Int.reduceLE, Int.reduceGT, Int.reduceGE, Int.reduceEq, Int.reduceNe, Nat.reduceEqDiff, Int.zero_add, Int.add_zero, p_ty0, p_ty1, p_ty2, p_ty3, p_ty4, p_ty5, p_ty6, p_ty7, p_ty8, p_ty9, p_ty10, p_ty11, t0, r1, gd_t]
  · obtain ⟨T1, M1, F1, lg1, N1, r1, L1, -, R1⟩ := y_list (io := 137) (Or.inl rfl) hW.1 hW.2.1 hP.1 hH
    obtain ⟨W1, f0, O1⟩ := hW.yr R1 (XL.y hD (Or.inl rfl))
    refine ⟨T1, M1, F1, lg1, N1, fun d hd => ?_, W1, f0, O1⟩
    refine callD_go 8 hd rfl (fun e he => ?_)
    show R e m_X8_counted 0 [.val (.ref 127), .val (.int (iI 3))] [] T M F = _
    rw [x_X8_counted_0, x_X8_counted_1]
    show R e m_X8_counted 71 _ _ _ _ _ = _
    have r1 := r1 e (by omega)
    rw [show z_cnt S z 3 = ((lgQ S.1 S.2.1 S.2.2.1 S.2.2.2.1).length : Int) from rfl]
    have ty := hW.1.1
    obtain ⟨ty127, ty128, fy1, ty129, fy4, ty130, fy5, ty131, fy6, ty132, fy7, ty133, fy8, ty136, fy15, ty137, fy16, ty138, fy17, ty139, fy18, ty140, fy19, ty141, fy20, ty142, fy21, ty143, fy22, hbd, tybd, fy9, hlg, tylg, fy13, hN⟩ := ty
    clear hW hP hb W1 O1 R1 L1
    simp (disch := omega) only [x_X8_counted_71, x_X8_counted_72, x_X8_counted_73, x_X8_counted_76, x_X8_counted_79, List.length_cons, List.length_nil, Nat.reduceLeDiff, Nat.zero_add, iI_add, iI_sub, iI_mul, iI_neg, iI_lt, iI_le, iI_eq, jI_iI, B_True, B_False, B_t, B_f, ck_True, gd_True, cb_v, cb_n, p_mv_rw, p_fv_rw, p_rv_some, pA_1, pA_90, pA_92, pA_3, pA_2, pA_93, pA_4, pA_91, pA_95, pS_i, pW_i, pZ_0, pZ_1, pZ_b, bI_e0, u1_s, u1_n, uA_s, uA_n, true_and, and_true, not_true_eq_false, not_false_eq_true, eq_self, iI_z, al1, al2, al3, al4, al90, al91, al92, al93, al95, Int.cast_ofNat_Int, Nat.reduceAdd, Int.reduceNeg, Int.reduceAdd, Int.reduceSub, Int.reduceMul, Int.reduceLT, Int.reduceLE, Int.reduceGT, Int.reduceGE, Int.reduceEq, Int.reduceNe, Nat.reduceEqDiff, Int.zero_add, Int.add_zero, p_ty0, p_ty1, p_ty2, p_ty3, p_ty4, p_ty5, p_ty6, p_ty7, p_ty8, p_ty9, p_ty10, p_ty11, ty127, ty128, fy1, ty129, fy4, ty130, fy5, ty131, fy6, ty132, fy7, ty133, fy8, ty136, fy15, ty137, fy16, ty138, fy17, ty139, fy18, ty140, fy19, ty141, fy20, ty142, fy21, ty143, fy22, tybd, fy9, tylg, fy13, r1, gd_t]
  · refine ⟨T, M, F, lg, N, fun d hd => ?_, hW, rfl, OR.rf⟩
    refine callD_go 8 hd rfl (fun e he => ?_)
    show R e m_X8_counted 0 [.val (.ref 127), .val (.int (iI 4))] [] T M F = _
    rw [x_X8_counted_0, x_X8_counted_1]
    show R e m_X8_counted 80 _ _ _ _ _ = _
    have r1 := y_worthOf (d := e) (s := 0) hW.1.1 hb s1 (Or.inl rfl) (by omega)
    rw [show z_cnt S z 4 = sm (a_wo S.1 0) 91 from rfl]
    clear hW hP hb
    simp (disch := omega) only [x_X8_counted_80, x_X8_counted_81, x_X8_counted_82, x_X8_counted_85, List.length_cons, List.length_nil, Nat.reduceLeDiff, Nat.zero_add, iI_add, iI_sub, iI_mul, iI_neg, iI_lt, iI_le, iI_eq, jI_iI, B_True, B_False, B_t, B_f, ck_True, gd_True, cb_v, cb_n, p_mv_rw, p_fv_rw, p_rv_some, pA_1, pA_90, pA_92, pA_3, pA_2, pA_93, pA_4, pA_91, pA_95, pS_i, pW_i, pZ_0, pZ_1, pZ_b, bI_e0, u1_s, u1_n, uA_s, uA_n, true_and, and_true, not_true_eq_false, not_false_eq_true, eq_self, iI_z, al1, al2, al3, al4, al90, al91, al92, al93, al95, Int.cast_ofNat_Int, Nat.reduceAdd, Int.reduceNeg, Int.reduceAdd, Int.reduceSub, Int.reduceMul, Int.reduceLT, Int.reduceLE, Int.reduceGT, Int.reduceGE, Int.reduceEq, Int.reduceNe, Nat.reduceEqDiff, Int.zero_add, Int.add_zero, p_ty0, p_ty1, p_ty2, p_ty3, p_ty4, p_ty5, p_ty6, p_ty7, p_ty8, p_ty9, p_ty10, p_ty11, t0, r1, gd_t]
  · refine ⟨T, M, F, lg, N, fun d hd => ?_, hW, rfl, OR.rf⟩
    refine callD_go 8 hd rfl (fun e he => ?_)
    show R e m_X8_counted 0 [.val (.ref 127), .val (.int (iI 5))] [] T M F = _
    rw [x_X8_counted_0, x_X8_counted_1]
    show R e m_X8_counted 86 _ _ _ _ _ = _
    have r1 := y_worthOf (d := e) (s := 1) hW.1.1 hb s1 (Or.inr rfl) (by omega)
    rw [show z_cnt S z 5 = sm (a_wo S.1 1) 91 from rfl]
    clear hW hP hb
    simp (disch := omega) only [x_X8_counted_86, x_X8_counted_87, x_X8_counted_88, x_X8_counted_91, List.length_cons, List.length_nil, Nat.reduceLeDiff, Nat.zero_add, iI_add, iI_sub, iI_mul, iI_neg, iI_lt, iI_le, iI_eq, jI_iI, B_True, B_False, B_t, B_f, ck_True, gd_True, cb_v, cb_n, p_mv_rw, p_fv_rw, p_rv_some, pA_1, pA_90, pA_92, pA_3, pA_2, pA_93, pA_4, pA_91, pA_95, pS_i, pW_i, pZ_0, pZ_1, pZ_b, bI_e0, u1_s, u1_n, uA_s, uA_n, true_and, and_true, not_true_eq_false, not_false_eq_true, eq_self, iI_z, al1, al2, al3, al4, al90, al91, al92, al93, al95, Int.cast_ofNat_Int, Nat.reduceAdd, Int.reduceNeg, Int.reduceAdd, Int.reduceSub, Int.reduceMul, Int.reduceLT, Int.reduceLE, Int.reduceGT, Int.reduceGE, Int.reduceEq, Int.reduceNe, Nat.reduceEqDiff, Int.zero_add, Int.add_zero, p_ty0, p_ty1, p_ty2, p_ty3, p_ty4, p_ty5, p_ty6, p_ty7, p_ty8, p_ty9, p_ty10, p_ty11, t0, r1, gd_t]
  · refine ⟨T, M, F, lg, N, fun d hd => ?_, hW, rfl, OR.rf⟩
    refine callD_go 8 hd rfl (fun e he => ?_)
    show R e m_X8_counted 0 [.val (.ref 127), .val (.int (iI 6))] [] T M F = _
    rw [x_X8_counted_0, x_X8_counted_1]
    show R e m_X8_counted 92 _ _ _ _ _ = _
    have h5 := hW.2.1.2.2.2.2
    rw [show z_cnt S z 6 = S.2.2.2.1 from rfl, ← h5]
    clear hW hP hb
    simp (disch := omega) only [x_X8_counted_92, x_X8_counted_93, x_X8_counted_96, List.length_cons, List.length_nil, Nat.reduceLeDiff, Nat.zero_add, iI_add, iI_sub, iI_mul, iI_neg, iI_lt, iI_le, iI_eq, jI_iI, B_True, B_False, B_t, B_f, ck_True, gd_True, cb_v, cb_n, p_mv_rw, p_fv_rw, p_rv_some, pA_1, pA_90, pA_92, pA_3, pA_2, pA_93, pA_4, pA_91, pA_95, pS_i, pW_i, pZ_0, pZ_1, pZ_b, bI_e0, u1_s, u1_n, uA_s, uA_n, true_and, and_true, not_true_eq_false, not_false_eq_true, eq_self, iI_z, al1, al2, al3, al4, al90, al91, al92, al93, al95, Int.cast_ofNat_Int, Nat.reduceAdd, Int.reduceNeg, Int.reduceAdd, Int.reduceSub, Int.reduceMul, Int.reduceLT, Int.reduceLE, Int.reduceGT, Int.reduceGE, Int.reduceEq, Int.reduceNe, Nat.reduceEqDiff, Int.zero_add, Int.add_zero, p_ty0, p_ty1, p_ty2, p_ty3, p_ty4, p_ty5, p_ty6, p_ty7, p_ty8, p_ty9, p_ty10, p_ty11, t0, gd_t]
  · obtain ⟨T1, M1, F1, lg1, N1, r1, R1⟩ := y_pointsOf (s := 0) hW.1 hW.2.1 hP.1 hH (Or.inl rfl)
    obtain ⟨W1, f0, O1⟩ := hW.yr R1 (XL.y hD (Or.inr rfl))
    refine ⟨T1, M1, F1, lg1, N1, fun d hd => ?_, W1, f0, O1⟩
    refine callD_go 8 hd rfl (fun e he => ?_)
    show R e m_X8_counted 0 [.val (.ref 127), .val (.int (iI 7))] [] T M F = _
    rw [x_X8_counted_0, x_X8_counted_1]
    show R e m_X8_counted 97 _ _ _ _ _ = _
    have r1 := r1 e (by omega)
    rw [show z_cnt S z 7 = pt (hw S.1 S.2.1 S.2.2.1 S.2.2.2.1) S.2.1 0 from rfl]
    clear hW hP hb W1 O1 R1
    simp (disch := omega) only [x_X8_counted_97, x_X8_counted_98, x_X8_counted_99, x_X8_counted_102, List.length_cons, List.length_nil, Nat.reduceLeDiff, Nat.zero_add, iI_add, iI_sub, iI_mul, iI_neg, iI_lt, iI_le, iI_eq, jI_iI, B_True, B_False, B_t, B_f, ck_True, gd_True, cb_v, cb_n, p_mv_rw, p_fv_rw, p_rv_some, pA_1, pA_90, pA_92, pA_3, pA_2, pA_93, pA_4, pA_91, pA_95, pS_i, pW_i, pZ_0, pZ_1, pZ_b, bI_e0, u1_s, u1_n, uA_s, uA_n, true_and, and_true, not_true_eq_false, not_false_eq_true, eq_self, iI_z, al1, al2, al3, al4, al90, al91, al92, al93, al95, Int.cast_ofNat_Int, Nat.reduceAdd, Int.reduceNeg, Int.reduceAdd, Int.reduceSub, Int.reduceMul, Int.reduceLT, Int.reduceLE, Int.reduceGT, Int.reduceGE, Int.reduceEq, Int.reduceNe, Nat.reduceEqDiff, Int.zero_add, Int.add_zero, p_ty0, p_ty1, p_ty2, p_ty3, p_ty4, p_ty5, p_ty6, p_ty7, p_ty8, p_ty9, p_ty10, p_ty11, t0, r1, gd_t]
  · obtain ⟨T1, M1, F1, lg1, N1, r1, R1⟩ := y_pointsOf (s := 1) hW.1 hW.2.1 hP.1 hH (Or.inr rfl)
    obtain ⟨W1, f0, O1⟩ := hW.yr R1 (XL.y hD (Or.inr rfl))
    refine ⟨T1, M1, F1, lg1, N1, fun d hd => ?_, W1, f0, O1⟩
    refine callD_go 8 hd rfl (fun e he => ?_)
    show R e m_X8_counted 0 [.val (.ref 127), .val (.int (iI 8))] [] T M F = _
    rw [x_X8_counted_0, x_X8_counted_1]
    show R e m_X8_counted 103 _ _ _ _ _ = _
    have r1 := r1 e (by omega)
    rw [show z_cnt S z 8 = pt (hw S.1 S.2.1 S.2.2.1 S.2.2.2.1) S.2.1 1 from rfl]
    clear hW hP hb W1 O1 R1
    simp (disch := omega) only [x_X8_counted_103, x_X8_counted_104, x_X8_counted_105, x_X8_counted_108, List.length_cons, List.length_nil, Nat.reduceLeDiff, Nat.zero_add, iI_add, iI_sub, iI_mul, iI_neg, iI_lt, iI_le, iI_eq, jI_iI, B_True, B_False, B_t, B_f, ck_True, gd_True, cb_v, cb_n, p_mv_rw, p_fv_rw, p_rv_some, pA_1, pA_90, pA_92, pA_3, pA_2, pA_93, pA_4, pA_91, pA_95, pS_i, pW_i, pZ_0, pZ_1, pZ_b, bI_e0, u1_s, u1_n, uA_s, uA_n, true_and, and_true, not_true_eq_false, not_false_eq_true, eq_self, iI_z, al1, al2, al3, al4, al90, al91, al92, al93, al95, Int.cast_ofNat_Int, Nat.reduceAdd, Int.reduceNeg, Int.reduceAdd, Int.reduceSub, Int.reduceMul, Int.reduceLT, Int.reduceLE, Int.reduceGT, Int.reduceGE, Int.reduceEq, Int.reduceNe, Nat.reduceEqDiff, Int.zero_add, Int.add_zero, p_ty0, p_ty1, p_ty2, p_ty3, p_ty4, p_ty5, p_ty6, p_ty7, p_ty8, p_ty9, p_ty10, p_ty11, t0, r1, gd_t]
  · refine ⟨T, M, F, lg, N, fun d hd => ?_, hW, rfl, OR.rf⟩
    refine callD_go 8 hd rfl (fun e he => ?_)
    show R e m_X8_counted 0 [.val (.ref 127), .val (.int (iI 9))] [] T M F = _
    rw [x_X8_counted_0, x_X8_counted_1]
    show R e m_X8_counted 109 _ _ _ _ _ = _
    have h5 := hW.2.1.2.2.2.1
    rw [show z_cnt S z 9 = S.2.2.1 from rfl, ← h5]
    clear hW hP hb
    simp (disch := omega) only [x_X8_counted_109, x_X8_counted_110, x_X8_counted_113, List.length_cons, List.length_nil, Nat.reduceLeDiff, Nat.zero_add, iI_add, iI_sub, iI_mul, iI_neg, iI_lt, iI_le, iI_eq, jI_iI, B_True, B_False, B_t, B_f, ck_True, gd_True, cb_v, cb_n, p_mv_rw, p_fv_rw, p_rv_some, pA_1, pA_90, pA_92, pA_3, pA_2, pA_93, pA_4, pA_91, pA_95, pS_i, pW_i, pZ_0, pZ_1, pZ_b, bI_e0, u1_s, u1_n, uA_s, uA_n, true_and, and_true, not_true_eq_false, not_false_eq_true, eq_self, iI_z, al1, al2, al3, al4, al90, al91, al92, al93, al95, Int.cast_ofNat_Int, Nat.reduceAdd, Int.reduceNeg, Int.reduceAdd, Int.reduceSub, Int.reduceMul, Int.reduceLT, Int.reduceLE, Int.reduceGT, Int.reduceGE, Int.reduceEq, Int.reduceNe, Nat.reduceEqDiff, Int.zero_add, Int.add_zero, p_ty0, p_ty1, p_ty2, p_ty3, p_ty4, p_ty5, p_ty6, p_ty7, p_ty8, p_ty9, p_ty10, p_ty11, t0, gd_t]
  · refine ⟨T, M, F, lg, N, fun d hd => ?_, hW, rfl, OR.rf⟩
    refine callD_go 8 hd rfl (fun e he => ?_)
    show R e m_X8_counted 0 [.val (.ref 127), .val (.int (iI 10))] [] T M F = _
    rw [x_X8_counted_0, x_X8_counted_1]
    show R e m_X8_counted 114 _ _ _ _ _ = _
    have h5 := hW.2.2.1
    rw [show z_cnt S z 10 = z from rfl, ← h5]
    clear hW hP hb
    simp (disch := omega) only [x_X8_counted_114, x_X8_counted_115, x_X8_counted_118, List.length_cons, List.length_nil, Nat.reduceLeDiff, Nat.zero_add, iI_add, iI_sub, iI_mul, iI_neg, iI_lt, iI_le, iI_eq, jI_iI, B_True, B_False, B_t, B_f, ck_True, gd_True, cb_v, cb_n, p_mv_rw, p_fv_rw, p_rv_some, pA_1, pA_90, pA_92, pA_3, pA_2, pA_93, pA_4, pA_91, pA_95, pS_i, pW_i, pZ_0, pZ_1, pZ_b, bI_e0, u1_s, u1_n, uA_s, uA_n, true_and, and_true, not_true_eq_false, not_false_eq_true, eq_self, iI_z, al1, al2, al3, al4, al90, al91, al92, al93, al95, Int.cast_ofNat_Int, Nat.reduceAdd, Int.reduceNeg, Int.reduceAdd, Int.reduceSub, Int.reduceMul, Int.reduceLT, Int.reduceLE, Int.reduceGT, Int.reduceGE, Int.reduceEq, Int.reduceNe, Nat.reduceEqDiff, Int.zero_add, Int.add_zero, p_ty0, p_ty1, p_ty2, p_ty3, p_ty4, p_ty5, p_ty6, p_ty7, p_ty8, p_ty9, p_ty10, p_ty11, t0, gd_t]
end PYCT
