section PYLT
variable {d bd lg N lg1 N1 : Nat} {T T1 : pT} {M M0 M1 M2 : pM} {F F1 : pF} {bb v w : Int → Int} {t pas q its to as p n i c s x k a b lo hi : Int} {H : List HE} {A L : List Int} {io : Nat} {X Y : Nat → Prop}
/-- the model goes from one state to one like it -/
def YR (X : Nat → Prop) (bd : Nat) (H : List HE) (bb : Int → Int) (t pas q : Int) (T : pT) (M : pM) (F : pF) (lg N : Nat) (T' : pT) (M' : pM) (F' : pF) (lg' N' : Nat) : Prop := YV T' M' F' bd lg' N' H ∧ YS M' bd bb t pas q ∧ (∀ j, j ≠ 10 → j ≠ 11 → j ≠ 12 → j ≠ 14 → M' 127 j = M 127 j) ∧ YC X T M F lg N T' M' F' lg' N'
theorem YR.rf (hV : YV T M F bd lg N H) (hS : YS M bd bb t pas q) : YR X bd H bb t pas q T M F lg N T M F lg N := ⟨hV, hS, fun _ _ _ _ _ => rfl, YC.rf⟩
theorem YR.tr {T2 : pT} {F2 : pF} {lg2 N2 : Nat} (h1 : YR X bd H bb t pas q T M F lg N T1 M1 F1 lg1 N1) (h2 : YR X bd H bb t pas q T1 M1 F1 lg1 N1 T2 M2 F2 lg2 N2) : YR X bd H bb t pas q T M F lg N T2 M2 F2 lg2 N2 := ⟨h2.1, h2.2.1, fun j a1 a2 a3 a4 => (h2.2.2.1 j a1 a2 a3 a4).trans (h1.2.2.1 j a1 a2 a3 a4), h1.2.2.2.tr h2.2.2.2⟩
theorem YR.wk (h : YR X bd H bb t pas q T M F lg N T1 M1 F1 lg1 N1) (hx : ∀ a, X a → Y a) : YR Y bd H bb t pas q T M F lg N T1 M1 F1 lg1 N1 := ⟨h.1, h.2.1, h.2.2.1, h.2.2.2.wk hx⟩
def XA (bd : Nat) : Nat → Prop := fun a => a = 127 ∨ a = bd ∨ a = 136 ∨ a = 137 ∨ a = 138
theorem SP.len (hP : SP bb t pas q) {v : Int → Int} (h : VB v bb) : (lgA bb t pas).length ≤ 840 := lgA_len h hP.1 hP.2.2.2.1 hP.2.2.2.2.1 hP.2.2.1
/-- a board's places can be had -/
theorem vb_of (hb : MB bb) : VB (fun p => if q_cel p = -1 then -1 else cv (bb (q_cel p))) bb := fun p _ => rfl
theorem SP.len' (hP : SP bb t pas q) : (lgA bb t pas).length ≤ 840 := hP.len (vb_of hP.1)
theorem y_listAll (hio : io = 137 ∨ io = 138) (hV : YV T M F bd lg N H) (hS : YS M bd bb t pas q) (hP : SP bb t pas q) (hH : H.length < 614) :
    ∃ T' M' F' lg' N', (∀ d, 6 ≤ d → callD d m_X8_listAll [.ref 127, .ref io] T M F = some (.inl (some (.int (iI ((lgA bb t pas).length : Int)))), T', M', F')) ∧ LMy M' io (lgA bb t pas) ∧ GC N N' H.length ∧ YR (XL bd io) bd H bb t pas q T M F lg N T' M' F' lg' N' := by
  obtain ⟨hb, hu, h20, ht, hps, hq⟩ := id hP
  have hl := hP.len'
  have s1 := hS.2.1
  have s2 := hS.2.2.1
  have hpl := fun e (he : 5 ≤ e) => y_playable (d := e) hV.1 hS.1 (by rw [s1]; exact hb) (by rw [s2]; exact ht) he
  rw [s1, s2] at hpl
  have t0 := hV.1.1
  by_cases c : m_ply bb t
  · have hk : m_king bb t ≠ -1 := by
      rcases ht with z | z
      · rw [z]; exact c.1
      · rw [z]; exact c.2.1
    have hA : lgA bb t pas = lgL bb t pas 91 0 := if_pos c
    rw [hA] at hl ⊢
    obtain ⟨T1, M1, F1, lg1, N1, r1, V1, S1, L1, j1, G1, C1⟩ := la_out (bd := bd) hio hP hH hk 91 0 [] T M F lg N (by omega) (by omega) hV hS (fun j hj => absurd hj (Nat.not_lt_zero j)) (by rw [List.length_nil]; omega)
    rw [List.nil_append] at L1 r1
    refine ⟨T1, M1, F1, lg1, N1, fun d hd => ?_, L1, G1, V1, S1, j1, C1⟩
    refine callD_go 5 hd rfl (fun e he => ?_)
    show R e m_X8_listAll 0 [.val (.ref 127), .val (.ref io), .unset, .unset, .unset] [] T M F = _
    have r1 := fun l4 => r1 e l4 he
    rw [List.length_nil, Int.natCast_zero] at r1
    have hpl := hpl e he
    rw [bI_t c] at hpl
    clear hV hS hP hb hu h20 hps V1 S1 L1 j1 C1
    simp (disch := omega) only [x_X8_listAll_0, x_X8_listAll_1, x_X8_listAll_4, x_X8_listAll_7, x_X8_listAll_8, x_X8_listAll_9, x_X8_listAll_10, x_X8_listAll_11, x_X8_listAll_12, List.length_cons, List.length_nil, Nat.reduceLeDiff, Nat.zero_add, iI_add, iI_sub, iI_mul, iI_neg, iI_lt, iI_le, iI_eq, jI_iI, B_True, B_False, B_t, B_f, ck_True, gd_True, cb_v, cb_n, p_mv_rw, p_fv_rw, p_rv_some, pA_1, pA_90, pA_92, pA_3, pA_2, pA_93, pA_4, pA_91, pA_95, pS_i, pW_i, pZ_0, pZ_1, pZ_b, bI_e0, u1_s, u1_n, uA_s, uA_n, true_and, and_true, not_true_eq_false, not_false_eq_true, eq_self, iI_z, al1, al2, al3, al4, al90, al91, al92, al93, al95, Int.cast_ofNat_Int, Nat.reduceAdd, Int.reduceNeg, Int.reduceAdd, Int.reduceSub, Int.reduceMul, Int.reduceLT, Int.reduceLE, Int.reduceGT, Int.reduceGE, Int.reduceEq, Int.reduceNe, Nat.reduceEqDiff, Int.zero_add, Int.add_zero, p_ty0, p_ty1, p_ty2, p_ty3, p_ty4, p_ty5, p_ty6, p_ty7, p_ty8, p_ty9, p_ty10, p_ty11, t0, hpl, r1, gd_t, B_t, B_f]
  · have hA : lgA bb t pas = [] := if_neg c
    rw [hA]
    refine ⟨T, M, F, lg, N, fun d hd => ?_, fun j hj => absurd hj (Nat.not_lt_zero j), GC.rf, YR.rf hV hS⟩
    refine callD_go 5 hd rfl (fun e he => ?_)
    show R e m_X8_listAll 0 [.val (.ref 127), .val (.ref io), .unset, .unset, .unset] [] T M F = _
    have hpl := hpl e he
    rw [bI_f c] at hpl
    clear hV hS hP hb hu h20 hps
    simp (disch := omega) only [x_X8_listAll_0, x_X8_listAll_1, x_X8_listAll_4, x_X8_listAll_7, x_X8_listAll_8, List.length_cons, List.length_nil, Nat.reduceLeDiff, Nat.zero_add, iI_add, iI_sub, iI_mul, iI_neg, iI_lt, iI_le, iI_eq, jI_iI, B_True, B_False, B_t, B_f, ck_True, gd_True, cb_v, cb_n, p_mv_rw, p_fv_rw, p_rv_some, pA_1, pA_90, pA_92, pA_3, pA_2, pA_93, pA_4, pA_91, pA_95, pS_i, pW_i, pZ_0, pZ_1, pZ_b, bI_e0, u1_s, u1_n, uA_s, uA_n, true_and, and_true, not_true_eq_false, not_false_eq_true, eq_self, iI_z, al1, al2, al3, al4, al90, al91, al92, al93, al95, Int.cast_ofNat_Int, Nat.reduceAdd, Int.reduceNeg, Int.reduceAdd, Int.reduceSub, Int.reduceMul, Int.reduceLT, Int.reduceLE, Int.reduceGT, Int.reduceGE, Int.reduceEq, Int.reduceNe, Nat.reduceEqDiff, Int.zero_add, Int.add_zero, p_ty0, p_ty1, p_ty2, p_ty3, p_ty4, p_ty5, p_ty6, p_ty7, p_ty8, p_ty9, p_ty10, p_ty11, t0, hpl, gd_t, B_t, B_f]
theorem lgQ_le (hP : SP bb t pas q) : (lgQ bb t pas q).length ≤ 840 := lgQ_len hP.len'
theorem y_list (hio : io = 137 ∨ io = 138) (hV : YV T M F bd lg N H) (hS : YS M bd bb t pas q) (hP : SP bb t pas q) (hH : H.length < 614) :
    ∃ T' M' F' lg' N', (∀ d, 7 ≤ d → callD d m_X8_list [.ref 127, .ref io] T M F = some (.inl (some (.int (iI ((lgQ bb t pas q).length : Int)))), T', M', F')) ∧ LMy M' io (lgQ bb t pas q) ∧ GC N N' H.length ∧ YR (XL bd io) bd H bb t pas q T M F lg N T' M' F' lg' N' := by
  have s4 := hS.2.2.2.2
  have t0 := hV.1.1
  have hq := hP.2.2.2.2.2
  have ti : (p_ty T io).1 = 1 := by
    have ty := hV.1
    obtain ⟨ty127, ty128, fy1, ty129, fy4, ty130, fy5, ty131, fy6, ty132, fy7, ty133, fy8, ty136, fy15, ty137, fy16, ty138, fy17, ty139, fy18, ty140, fy19, ty141, fy20, ty142, fy21, ty143, fy22, hbd, tybd, fy9, hlg, tylg, fy13, hN⟩ := ty
    rcases hio with rfl | rfl
    · rw [ty137]
    · rw [ty138]
  by_cases c : 60 ≤ q
  · rw [show lgQ bb t pas q = [] from if_pos c]
    refine ⟨T, M, F, lg, N, fun d hd => ?_, fun j hj => absurd hj (Nat.not_lt_zero j), GC.rf, YR.rf hV hS⟩
    refine callD_go 6 hd rfl (fun e he => ?_)
    show R e m_X8_list 0 [.val (.ref 127), .val (.ref io)] [] T M F = _
    clear hV hS hP
    simp (disch := omega) only [x_X8_list_0, x_X8_list_1, x_X8_list_4, x_X8_list_6, x_X8_list_9, x_X8_list_10, x_X8_list_13, x_X8_list_14, x_X8_list_15, x_X8_list_18, List.length_cons, List.length_nil, Nat.reduceLeDiff, Nat.zero_add, iI_add, iI_sub, iI_mul, iI_neg, iI_lt, iI_le, iI_eq, jI_iI, B_True, B_False, B_t, B_f, ck_True, gd_True, cb_v, cb_n, p_mv_rw, p_fv_rw, p_rv_some, pA_1, pA_90, pA_92, pA_3, pA_2, pA_93, pA_4, pA_91, pA_95, pS_i, pW_i, pZ_0, pZ_1, pZ_b, bI_e0, u1_s, u1_n, uA_s, uA_n, true_and, and_true, not_true_eq_false, not_false_eq_true, eq_self, iI_z, al1, al2, al3, al4, al90, al91, al92, al93, al95, Int.cast_ofNat_Int, Nat.reduceAdd, Int.reduceNeg, Int.reduceAdd, Int.reduceSub, Int.reduceMul, Int.reduceLT, Int.reduceLE, Int.reduceGT, Int.reduceGE, Int.reduceEq, Int.reduceNe, Nat.reduceEqDiff, Int.zero_add, Int.add_zero, p_ty0, p_ty1, p_ty2, p_ty3, p_ty4, p_ty5, p_ty6, p_ty7, p_ty8, p_ty9, p_ty10, p_ty11, t0, s4, gd_t, B_t, B_f]
  · rw [show lgQ bb t pas q = lgA bb t pas from if_neg c]
    obtain ⟨T1, M1, F1, lg1, N1, r1, L1, G1, R1⟩ := y_listAll hio hV hS hP hH
    refine ⟨T1, M1, F1, lg1, N1, fun d hd => ?_, L1, G1, R1⟩
    refine callD_go 6 hd rfl (fun e he => ?_)
    show R e m_X8_list 0 [.val (.ref 127), .val (.ref io)] [] T M F = _
    have r1 := r1 e he
    clear hV hS hP L1 R1
    simp (disch := omega) only [x_X8_list_0, x_X8_list_1, x_X8_list_4, x_X8_list_6, x_X8_list_9, x_X8_list_10, x_X8_list_13, x_X8_list_14, x_X8_list_15, x_X8_list_18, List.length_cons, List.length_nil, Nat.reduceLeDiff, Nat.zero_add, iI_add, iI_sub, iI_mul, iI_neg, iI_lt, iI_le, iI_eq, jI_iI, B_True, B_False, B_t, B_f, ck_True, gd_True, cb_v, cb_n, p_mv_rw, p_fv_rw, p_rv_some, pA_1, pA_90, pA_92, pA_3, pA_2, pA_93, pA_4, pA_91, pA_95, pS_i, pW_i, pZ_0, pZ_1, pZ_b, bI_e0, u1_s, u1_n, uA_s, uA_n, true_and, and_true, not_true_eq_false, not_false_eq_true, eq_self, iI_z, al1, al2, al3, al4, al90, al91, al92, al93, al95, Int.cast_ofNat_Int, Nat.reduceAdd, Int.reduceNeg, Int.reduceAdd, Int.reduceSub, Int.reduceMul, Int.reduceLT, Int.reduceLE, Int.reduceGT, Int.reduceGE, Int.reduceEq, Int.reduceNe, Nat.reduceEqDiff, Int.zero_add, Int.add_zero, p_ty0, p_ty1, p_ty2, p_ty3, p_ty4, p_ty5, p_ty6, p_ty7, p_ty8, p_ty9, p_ty10, p_ty11, t0, ti, s4, r1, gd_t, B_t, B_f]
theorem y_howItIs (hV : YV T M F bd lg N H) (hS : YS M bd bb t pas q) (hP : SP bb t pas q) (hH : H.length < 614) :
    ∃ T' M' F' lg' N', (∀ d, 7 ≤ d → callD d m_X8_howItIs [.ref 127] T M F = some (.inl (some (.int (iI (hw bb t pas q)))), T', M', F')) ∧ YR (XL bd 138) bd H bb t pas q T M F lg N T' M' F' lg' N' := by
  obtain ⟨hb, hu, h20, ht, hps, hq⟩ := id hP
  have s1 := hS.2.1
  have s2 := hS.2.2.1
  have t0 := hV.1.1
  have hpl := fun e (he : 6 ≤ e) => y_playable (d := e) hV.1 hS.1 (by rw [s1]; exact hb) (by rw [s2]; exact ht) (by omega)
  rw [s1, s2] at hpl
  by_cases c : m_ply bb t
  · have hk : m_king bb t ≠ -1 := by
      rcases ht with z | z
      · rw [z]; exact c.1
      · rw [z]; exact c.2.1
    have hck := fun e (he : 6 ≤ e) => y_checked (d := e) (s := t) hV.1 hS.1 (by rw [s1]; exact hb) (by omega) ht (by rw [s1]; exact hk)
    rw [s1] at hck
    obtain ⟨T1, M1, F1, lg1, N1, r1, L1, -, R1⟩ := y_listAll (io := 138) (Or.inr rfl) hV hS hP hH
    have q1 := R1.2.1.2.2.2.2
    have t1 := R1.1.1.1
    have hl := hP.len'
    refine ⟨T1, M1, F1, lg1, N1, fun d hd => ?_, R1⟩
    refine callD_go 6 hd rfl (fun e he => ?_)
    show R e m_X8_howItIs 0 [.val (.ref 127), .unset] [] T M F = _
    have r1 := r1 e he
    have hpl := hpl e he
    rw [bI_t c] at hpl
    have hck := hck e he
    rw [show hw bb t pas q = (if (lgA bb t pas).length = 0 then 3 - bI (m_chk bb t) else if 60 ≤ q then 4 else bI (m_chk bb t)) from if_pos c]
    have ty := hV.1
    obtain ⟨ty127, ty128, fy1, ty129, fy4, ty130, fy5, ty131, fy6, ty132, fy7, ty133, fy8, ty136, fy15, ty137, fy16, ty138, fy17, ty139, fy18, ty140, fy19, ty141, fy20, ty142, fy21, ty143, fy22, hbd, tybd, fy9, hlg, tylg, fy13, hN⟩ := ty
    clear hV hS hP L1 R1 hb hu h20 hps
    by_cases c1 : (lgA bb t pas).length = 0 <;> by_cases c2 : m_chk bb t <;> by_cases c3 : 60 ≤ q
    all_goals (first | rw [bI_t c2] at hck ⊢ | rw [bI_f c2] at hck ⊢)
    all_goals (first | rw [if_pos c1] | rw [if_neg c1])
    all_goals (first | rw [if_pos c3] | rw [if_neg c3] | skip)
    all_goals simp (disch := omega) only [x_X8_howItIs_0, x_X8_howItIs_1, x_X8_howItIs_4, x_X8_howItIs_7, x_X8_howItIs_8, x_X8_howItIs_9, x_X8_howItIs_10, x_X8_howItIs_11, x_X8_howItIs_14, x_X8_howItIs_17, x_X8_howItIs_18, x_X8_howItIs_19, x_X8_howItIs_20, x_X8_howItIs_23, x_X8_howItIs_26, x_X8_howItIs_29, x_X8_howItIs_30, x_X8_howItIs_33, x_X8_howItIs_34, x_X8_howItIs_37, x_X8_howItIs_38, x_X8_howItIs_39, x_X8_howItIs_40, x_X8_howItIs_43, x_X8_howItIs_45, x_X8_howItIs_48, x_X8_howItIs_49, x_X8_howItIs_52, x_X8_howItIs_53, x_X8_howItIs_56, x_X8_howItIs_57, x_X8_howItIs_60, x_X8_howItIs_61, List.length_cons, List.length_nil, Nat.reduceLeDiff, Nat.zero_add, iI_add, iI_sub, iI_mul, iI_neg, iI_lt, iI_le, iI_eq, jI_iI, B_True, B_False, B_t, B_f, ck_True, gd_True, cb_v, cb_n, p_mv_rw, p_fv_rw, p_rv_some, pA_1, pA_90, pA_92, pA_3, pA_2, pA_93, pA_4, pA_91, pA_95, pS_i, pW_i, pZ_0, pZ_1, pZ_b, bI_e0, u1_s, u1_n, uA_s, uA_n, true_and, and_true, not_true_eq_false, not_false_eq_true, eq_self, iI_z, al1, al2, al3, al4, al90, al91, al92, al93, al95, Int.cast_ofNat_Int, Nat.reduceAdd, Int.reduceNeg, Int.reduceAdd, Int.reduceSub, Int.reduceMul, Int.reduceLT, Int.reduceLE, Int.reduceGT, Int.reduceGE, Int.reduceEq, Int.reduceNe, Nat.reduceEqDiff, Int.zero_add, Int.add_zero, p_ty0, p_ty1, p_ty2, p_ty3, p_ty4, p_ty5, p_ty6, p_ty7, p_ty8, p_ty9, p_ty10, p_ty11, ty127, ty128, fy1, ty129, fy4, ty130, fy5, ty131, fy6, ty132, fy7, ty133, fy8, ty136, fy15, ty137, fy16, ty138, fy17, ty139, fy18, ty140, fy19, ty141, fy20, ty142, fy21, ty143, fy22, tybd, fy9, tylg, fy13, t1, s2, hpl, hck, r1, q1, gd_t, B_t, B_f]
  · refine ⟨T, M, F, lg, N, fun d hd => ?_, YR.rf hV hS⟩
    refine callD_go 6 hd rfl (fun e he => ?_)
    show R e m_X8_howItIs 0 [.val (.ref 127), .unset] [] T M F = _
    have hpl := hpl e he
    rw [bI_f c] at hpl
    rw [show hw bb t pas q = 5 from if_neg c]
    clear hV hS hP hb hu h20 hps
    simp (disch := omega) only [x_X8_howItIs_0, x_X8_howItIs_1, x_X8_howItIs_4, x_X8_howItIs_7, x_X8_howItIs_8, List.length_cons, List.length_nil, Nat.reduceLeDiff, Nat.zero_add, iI_add, iI_sub, iI_mul, iI_neg, iI_lt, iI_le, iI_eq, jI_iI, B_True, B_False, B_t, B_f, ck_True, gd_True, cb_v, cb_n, p_mv_rw, p_fv_rw, p_rv_some, pA_1, pA_90, pA_92, pA_3, pA_2, pA_93, pA_4, pA_91, pA_95, pS_i, pW_i, pZ_0, pZ_1, pZ_b, bI_e0, u1_s, u1_n, uA_s, uA_n, true_and, and_true, not_true_eq_false, not_false_eq_true, eq_self, iI_z, al1, al2, al3, al4, al90, al91, al92, al93, al95, Int.cast_ofNat_Int, Nat.reduceAdd, Int.reduceNeg, Int.reduceAdd, Int.reduceSub, Int.reduceMul, Int.reduceLT, Int.reduceLE, Int.reduceGT, Int.reduceGE, Int.reduceEq, Int.reduceNe, Nat.reduceEqDiff, Int.zero_add, Int.add_zero, p_ty0, p_ty1, p_ty2, p_ty3, p_ty4, p_ty5, p_ty6, p_ty7, p_ty8, p_ty9, p_ty10, p_ty11, t0, hpl, gd_t, B_t, B_f]
theorem y_pointsOf (hV : YV T M F bd lg N H) (hS : YS M bd bb t pas q) (hP : SP bb t pas q) (hH : H.length < 614) (hs : s = 0 ∨ s = 1) :
    ∃ T' M' F' lg' N', (∀ d, 8 ≤ d → callD d m_X8_pointsOf [.ref 127, .int (iI s)] T M F = some (.inl (some (.int (iI (pt (hw bb t pas q) t s)))), T', M', F')) ∧ YR (XL bd 138) bd H bb t pas q T M F lg N T' M' F' lg' N' := by
  obtain ⟨T1, M1, F1, lg1, N1, r1, R1⟩ := y_howItIs hV hS hP hH
  refine ⟨T1, M1, F1, lg1, N1, fun d hd => ?_, R1⟩
  refine callD_go 7 hd rfl (fun e he => ?_)
  show R e m_X8_pointsOf 0 [.val (.ref 127), .val (.int (iI s)), .unset] [] T M F = _
  have r1 := r1 e he
  have t0 := hV.1.1
  have t1 := R1.1.1.1
  have q1 := R1.2.1.2.2.1
  have ht := hP.2.2.2.1
  have hr := hw_rg (bb := bb) (t := t) (pas := pas) (q := q)
  clear hV hS hP R1
  generalize hw bb t pas q = hv at *
  unfold pt
  by_cases c2 : hv = 2
  · rw [if_pos c2]
    by_cases c : s = t
    · rw [if_pos c]
      simp (disch := omega) only [x_X8_pointsOf_0, x_X8_pointsOf_1, x_X8_pointsOf_4, x_X8_pointsOf_5, x_X8_pointsOf_6, x_X8_pointsOf_7, x_X8_pointsOf_10, x_X8_pointsOf_11, x_X8_pointsOf_12, x_X8_pointsOf_15, x_X8_pointsOf_18, x_X8_pointsOf_19, x_X8_pointsOf_22, x_X8_pointsOf_23, x_X8_pointsOf_24, x_X8_pointsOf_25, x_X8_pointsOf_26, x_X8_pointsOf_29, x_X8_pointsOf_30, x_X8_pointsOf_31, x_X8_pointsOf_34, x_X8_pointsOf_37, x_X8_pointsOf_38, x_X8_pointsOf_41, x_X8_pointsOf_42, x_X8_pointsOf_43, x_X8_pointsOf_44, x_X8_pointsOf_45, x_X8_pointsOf_48, x_X8_pointsOf_49, x_X8_pointsOf_52, x_X8_pointsOf_53, List.length_cons, List.length_nil, Nat.reduceLeDiff, Nat.zero_add, iI_add, iI_sub, iI_mul, iI_neg, iI_lt, iI_le, iI_eq, jI_iI, B_True, B_False, B_t, B_f, ck_True, gd_True, cb_v, cb_n, p_mv_rw, p_fv_rw, p_rv_some, pA_1, pA_90, pA_92, pA_3, pA_2, pA_93, pA_4, pA_91, pA_95, pS_i, pW_i, pZ_0, pZ_1, pZ_b, bI_e0, u1_s, u1_n, uA_s, uA_n, true_and, and_true, not_true_eq_false, not_false_eq_true, eq_self, iI_z, al1, al2, al3, al4, al90, al91, al92, al93, al95, Int.cast_ofNat_Int, Nat.reduceAdd, Int.reduceNeg, Int.reduceAdd, Int.reduceSub, Int.reduceMul, Int.reduceLT, Int.reduceLE, Int.reduceGT, Int.reduceGE, Int.reduceEq, Int.reduceNe, Nat.reduceEqDiff, Int.zero_add, Int.add_zero, p_ty0, p_ty1, p_ty2, p_ty3, p_ty4, p_ty5, p_ty6, p_ty7, p_ty8, p_ty9, p_ty10, p_ty11, t0, t1, r1, q1, c2, c, gd_t, B_t, B_f]
    · rw [if_neg c]
      simp (disch := omega) only [x_X8_pointsOf_0, x_X8_pointsOf_1, x_X8_pointsOf_4, x_X8_pointsOf_5, x_X8_pointsOf_6, x_X8_pointsOf_7, x_X8_pointsOf_10, x_X8_pointsOf_11, x_X8_pointsOf_12, x_X8_pointsOf_15, x_X8_pointsOf_18, x_X8_pointsOf_19, x_X8_pointsOf_22, x_X8_pointsOf_23, x_X8_pointsOf_24, x_X8_pointsOf_25, x_X8_pointsOf_26, x_X8_pointsOf_29, x_X8_pointsOf_30, x_X8_pointsOf_31, x_X8_pointsOf_34, x_X8_pointsOf_37, x_X8_pointsOf_38, x_X8_pointsOf_41, x_X8_pointsOf_42, x_X8_pointsOf_43, x_X8_pointsOf_44, x_X8_pointsOf_45, x_X8_pointsOf_48, x_X8_pointsOf_49, x_X8_pointsOf_52, x_X8_pointsOf_53, List.length_cons, List.length_nil, Nat.reduceLeDiff, Nat.zero_add, iI_add, iI_sub, iI_mul, iI_neg, iI_lt, iI_le, iI_eq, jI_iI, B_True, B_False, B_t, B_f, ck_True, gd_True, cb_v, cb_n, p_mv_rw, p_fv_rw, p_rv_some, pA_1, pA_90, pA_92, pA_3, pA_2, pA_93, pA_4, pA_91, pA_95, pS_i, pW_i, pZ_0, pZ_1, pZ_b, bI_e0, u1_s, u1_n, uA_s, uA_n, true_and, and_true, not_true_eq_false, not_false_eq_true, eq_self, iI_z, al1, al2, al3, al4, al90, al91, al92, al93, al95, Int.cast_ofNat_Int, Nat.reduceAdd, Int.reduceNeg, Int.reduceAdd, Int.reduceSub, Int.reduceMul, Int.reduceLT, Int.reduceLE, Int.reduceGT, Int.reduceGE, Int.reduceEq, Int.reduceNe, Nat.reduceEqDiff, Int.zero_add, Int.add_zero, p_ty0, p_ty1, p_ty2, p_ty3, p_ty4, p_ty5, p_ty6, p_ty7, p_ty8, p_ty9, p_ty10, p_ty11, t0, t1, r1, q1, c2, gd_t, B_t, B_f]
  · rw [if_neg c2]
    by_cases c3 : hv = 3
    · rw [if_pos c3]
      by_cases c : s = t
      · rw [if_pos c]
        simp (disch := omega) only [x_X8_pointsOf_0, x_X8_pointsOf_1, x_X8_pointsOf_4, x_X8_pointsOf_5, x_X8_pointsOf_6, x_X8_pointsOf_7, x_X8_pointsOf_10, x_X8_pointsOf_11, x_X8_pointsOf_12, x_X8_pointsOf_15, x_X8_pointsOf_18, x_X8_pointsOf_19, x_X8_pointsOf_22, x_X8_pointsOf_23, x_X8_pointsOf_24, x_X8_pointsOf_25, x_X8_pointsOf_26, x_X8_pointsOf_29, x_X8_pointsOf_30, x_X8_pointsOf_31, x_X8_pointsOf_34, x_X8_pointsOf_37, x_X8_pointsOf_38, x_X8_pointsOf_41, x_X8_pointsOf_42, x_X8_pointsOf_43, x_X8_pointsOf_44, x_X8_pointsOf_45, x_X8_pointsOf_48, x_X8_pointsOf_49, x_X8_pointsOf_52, x_X8_pointsOf_53, List.length_cons, List.length_nil, Nat.reduceLeDiff, Nat.zero_add, iI_add, iI_sub, iI_mul, iI_neg, iI_lt, iI_le, iI_eq, jI_iI, B_True, B_False, B_t, B_f, ck_True, gd_True, cb_v, cb_n, p_mv_rw, p_fv_rw, p_rv_some, pA_1, pA_90, pA_92, pA_3, pA_2, pA_93, pA_4, pA_91, pA_95, pS_i, pW_i, pZ_0, pZ_1, pZ_b, bI_e0, u1_s, u1_n, uA_s, uA_n, true_and, and_true, not_true_eq_false, not_false_eq_true, eq_self, iI_z, al1, al2, al3, al4, al90, al91, al92, al93, al95, Int.cast_ofNat_Int, Nat.reduceAdd, Int.reduceNeg, Int.reduceAdd, Int.reduceSub, Int.reduceMul, Int.reduceLT, Int.reduceLE, Int.reduceGT, Int.reduceGE, Int.reduceEq, Int.reduceNe, Nat.reduceEqDiff, Int.zero_add, Int.add_zero, p_ty0, p_ty1, p_ty2, p_ty3, p_ty4, p_ty5, p_ty6, p_ty7, p_ty8, p_ty9, p_ty10, p_ty11, t0, t1, r1, q1, c3, c, gd_t, B_t, B_f]
      · rw [if_neg c]
        simp (disch := omega) only [x_X8_pointsOf_0, x_X8_pointsOf_1, x_X8_pointsOf_4, x_X8_pointsOf_5, x_X8_pointsOf_6, x_X8_pointsOf_7, x_X8_pointsOf_10, x_X8_pointsOf_11, x_X8_pointsOf_12, x_X8_pointsOf_15, x_X8_pointsOf_18, x_X8_pointsOf_19, x_X8_pointsOf_22, x_X8_pointsOf_23, x_X8_pointsOf_24, x_X8_pointsOf_25, x_X8_pointsOf_26, x_X8_pointsOf_29, x_X8_pointsOf_30, x_X8_pointsOf_31, x_X8_pointsOf_34, x_X8_pointsOf_37, x_X8_pointsOf_38, x_X8_pointsOf_41, x_X8_pointsOf_42, x_X8_pointsOf_43, x_X8_pointsOf_44, x_X8_pointsOf_45, x_X8_pointsOf_48, x_X8_pointsOf_49, x_X8_pointsOf_52, x_X8_pointsOf_53, List.length_cons, List.length_nil, Nat.reduceLeDiff, Nat.zero_add, iI_add, iI_sub, iI_mul, iI_neg, iI_lt, iI_le, iI_eq, jI_iI, B_True, B_False, B_t, B_f, ck_True, gd_True, cb_v, cb_n, p_mv_rw, p_fv_rw, p_rv_some, pA_1, pA_90, pA_92, pA_3, pA_2, pA_93, pA_4, pA_91, pA_95, pS_i, pW_i, pZ_0, pZ_1, pZ_b, bI_e0, u1_s, u1_n, uA_s, uA_n, true_and, and_true, not_true_eq_false, not_false_eq_true, eq_self, iI_z, al1, al2, al3, al4, al90, al91, al92, al93, al95, Int.cast_ofNat_Int, Nat.reduceAdd, Int.reduceNeg, Int.reduceAdd, Int.reduceSub, Int.reduceMul, Int.reduceLT, Int.reduceLE, Int.reduceGT, Int.reduceGE, Int.reduceEq, Int.reduceNe, Nat.reduceEqDiff, Int.zero_add, Int.add_zero, p_ty0, p_ty1, p_ty2, p_ty3, p_ty4, p_ty5, p_ty6, p_ty7, p_ty8, p_ty9, p_ty10, p_ty11, t0, t1, r1, q1, c3, gd_t, B_t, B_f]
    · rw [if_neg c3]
      by_cases c4 : hv = 4
      · rw [if_pos c4]
        simp (disch := omega) only [x_X8_pointsOf_0, x_X8_pointsOf_1, x_X8_pointsOf_4, x_X8_pointsOf_5, x_X8_pointsOf_6, x_X8_pointsOf_7, x_X8_pointsOf_10, x_X8_pointsOf_11, x_X8_pointsOf_12, x_X8_pointsOf_15, x_X8_pointsOf_18, x_X8_pointsOf_19, x_X8_pointsOf_22, x_X8_pointsOf_23, x_X8_pointsOf_24, x_X8_pointsOf_25, x_X8_pointsOf_26, x_X8_pointsOf_29, x_X8_pointsOf_30, x_X8_pointsOf_31, x_X8_pointsOf_34, x_X8_pointsOf_37, x_X8_pointsOf_38, x_X8_pointsOf_41, x_X8_pointsOf_42, x_X8_pointsOf_43, x_X8_pointsOf_44, x_X8_pointsOf_45, x_X8_pointsOf_48, x_X8_pointsOf_49, x_X8_pointsOf_52, x_X8_pointsOf_53, List.length_cons, List.length_nil, Nat.reduceLeDiff, Nat.zero_add, iI_add, iI_sub, iI_mul, iI_neg, iI_lt, iI_le, iI_eq, jI_iI, B_True, B_False, B_t, B_f, ck_True, gd_True, cb_v, cb_n, p_mv_rw, p_fv_rw, p_rv_some, pA_1, pA_90, pA_92, pA_3, pA_2, pA_93, pA_4, pA_91, pA_95, pS_i, pW_i, pZ_0, pZ_1, pZ_b, bI_e0, u1_s, u1_n, uA_s, uA_n, true_and, and_true, not_true_eq_false, not_false_eq_true, eq_self, iI_z, al1, al2, al3, al4, al90, al91, al92, al93, al95, Int.cast_ofNat_Int, Nat.reduceAdd, Int.reduceNeg, Int.reduceAdd, Int.reduceSub, Int.reduceMul, Int.reduceLT, Int.reduceLE, Int.reduceGT, Int.reduceGE, Int.reduceEq, Int.reduceNe, Nat.reduceEqDiff, Int.zero_add, Int.add_zero, p_ty0, p_ty1, p_ty2, p_ty3, p_ty4, p_ty5, p_ty6, p_ty7, p_ty8, p_ty9, p_ty10, p_ty11, t0, t1, r1, q1, c4, gd_t, B_t, B_f]
      · rw [if_neg c4]
        simp (disch := omega) only [x_X8_pointsOf_0, x_X8_pointsOf_1, x_X8_pointsOf_4, x_X8_pointsOf_5, x_X8_pointsOf_6, x_X8_pointsOf_7, x_X8_pointsOf_10, x_X8_pointsOf_11, x_X8_pointsOf_12, x_X8_pointsOf_15, x_X8_pointsOf_18, x_X8_pointsOf_19, x_X8_pointsOf_22, x_X8_pointsOf_23, x_X8_pointsOf_24, x_X8_pointsOf_25, x_X8_pointsOf_26, x_X8_pointsOf_29, x_X8_pointsOf_30, x_X8_pointsOf_31, x_X8_pointsOf_34, x_X8_pointsOf_37, x_X8_pointsOf_38, x_X8_pointsOf_41, x_X8_pointsOf_42, x_X8_pointsOf_43, x_X8_pointsOf_44, x_X8_pointsOf_45, x_X8_pointsOf_48, x_X8_pointsOf_49, x_X8_pointsOf_52, x_X8_pointsOf_53, List.length_cons, List.length_nil, Nat.reduceLeDiff, Nat.zero_add, iI_add, iI_sub, iI_mul, iI_neg, iI_lt, iI_le, iI_eq, jI_iI, B_True, B_False, B_t, B_f, ck_True, gd_True, cb_v, cb_n, p_mv_rw, p_fv_rw, p_rv_some, pA_1, pA_90, pA_92, pA_3, pA_2, pA_93, pA_4, pA_91, pA_95, pS_i, pW_i, pZ_0, pZ_1, pZ_b, bI_e0, u1_s, u1_n, uA_s, uA_n, true_and, and_true, not_true_eq_false, not_false_eq_true, eq_self, iI_z, al1, al2, al3, al4, al90, al91, al92, al93, al95, Int.cast_ofNat_Int, Nat.reduceAdd, Int.reduceNeg, Int.reduceAdd, Int.reduceSub, Int.reduceMul, Int.reduceLT, Int.reduceLE, Int.reduceGT, Int.reduceGE, Int.reduceEq, Int.reduceNe, Nat.reduceEqDiff, Int.zero_add, Int.add_zero, p_ty0, p_ty1, p_ty2, p_ty3, p_ty4, p_ty5, p_ty6, p_ty7, p_ty8, p_ty9, p_ty10, p_ty11, t0, t1, r1, q1, gd_t, B_t, B_f]
end PYLT
