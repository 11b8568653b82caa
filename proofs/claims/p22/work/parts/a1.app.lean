section PAPP
variable {d a b n s v : Nat} {T T1 : pT} {M M1 : pM} {F F1 : pF} {tx ws : List Int} {i m o p q c mn k : Int}
theorem jd_coder (h : STx T M F s v ws) (hd : 1 ≤ d) : callD d m_J0_coder_7d493 [.ref s] T M F = some (.inl (some (.int (iI 0))), T, M, F) := by
  refine callD_go 0 hd rfl (fun e he => ?_)
  show R e m_J0_coder_7d493 0 [.val (.ref s)] [] T M F = _
  obtain ⟨⟨x, t0⟩, f0, m0, -⟩ := h
  simp (disch := omega) only [x_J0_coder_7d493_0, x_J0_coder_7d493_3, x_J0_coder_7d493_6, x_J0_coder_7d493_7, x_J0_coder_7d493_10, x_J0_coder_7d493_13, x_J0_coder_7d493_14, List.length_cons, List.length_nil, Nat.reduceLeDiff, Nat.zero_add, iI_add, iI_sub, iI_mul, iI_neg, iI_lt, iI_le, iI_eq, jI_iI, B_True, B_False, B_t, B_f, ck_True, gd_True, cb_v, cb_n, p_mv_rw, p_fv_rw, p_rv_some, pA_1, pA_90, pA_92, pA_3, pA_5, pA_93, pA_4, pA_91, pA_6, pS_i, pB_i, pW_i, pZ_0, pZ_1, pZ_b, bI_e0, u1_s, u1_n, uA_s, uA_n, true_and, and_true, not_true_eq_false, not_false_eq_true, eq_self, iI_z, al1, al5, al3, al4, al90, al91, al92, al93, al6, Int.cast_ofNat_Int, Nat.reduceAdd, Int.reduceNeg, Int.reduceAdd, Int.reduceSub, Int.reduceMul, Int.reduceLT, Int.reduceLE, Int.reduceGT, Int.reduceGE, Int.reduceEq, Int.reduceNe, Nat.reduceEqDiff, Int.zero_add, Int.add_zero, p_ty0, p_ty1, p_ty2, p_ty3, p_ty4, p_ty5, p_ty8, p_ty9, p_ty10, t0, f0, m0, gd_t]
theorem jd_latS (h : STx T M F s v ws) (hd : 1 ≤ d) : callD d m_J0_isLatin1_aae02 [.ref s] T M F = some (.inl (some (.int (iI 1))), T, M, F) := by
  refine callD_go 0 hd rfl (fun e he => ?_)
  show R e m_J0_isLatin1_aae02 0 [.val (.ref s)] [] T M F = _
  obtain ⟨⟨x, t0⟩, f0, m0, -⟩ := h
  simp (disch := omega) only [x_J0_isLatin1_aae02_0, x_J0_isLatin1_aae02_3, x_J0_isLatin1_aae02_6, x_J0_isLatin1_aae02_7, x_J0_isLatin1_aae02_10, x_J0_isLatin1_aae02_13, x_J0_isLatin1_aae02_14, x_J0_isLatin1_aae02_17, x_J0_isLatin1_aae02_18, List.length_cons, List.length_nil, Nat.reduceLeDiff, Nat.zero_add, iI_add, iI_sub, iI_mul, iI_neg, iI_lt, iI_le, iI_eq, jI_iI, B_True, B_False, B_t, B_f, ck_True, gd_True, cb_v, cb_n, p_mv_rw, p_fv_rw, p_rv_some, pA_1, pA_90, pA_92, pA_3, pA_5, pA_93, pA_4, pA_91, pA_6, pS_i, pB_i, pW_i, pZ_0, pZ_1, pZ_b, bI_e0, u1_s, u1_n, uA_s, uA_n, true_and, and_true, not_true_eq_false, not_false_eq_true, eq_self, iI_z, al1, al5, al3, al4, al90, al91, al92, al93, al6, Int.cast_ofNat_Int, Nat.reduceAdd, Int.reduceNeg, Int.reduceAdd, Int.reduceSub, Int.reduceMul, Int.reduceLT, Int.reduceLE, Int.reduceGT, Int.reduceGE, Int.reduceEq, Int.reduceNe, Nat.reduceEqDiff, Int.zero_add, Int.add_zero, p_ty0, p_ty1, p_ty2, p_ty3, p_ty4, p_ty5, p_ty8, p_ty9, p_ty10, t0, f0, m0, gd_t]
theorem jd_length (h : STx T M F s v ws) (hd : 2 ≤ d) : callD d m_J0_length_8abf5 [.ref s] T M F = some (.inl (some (.int (iI (ws.length : Int)))), T, M, F) := by
  refine callD_go 1 hd rfl (fun e he => ?_)
  show R e m_J0_length_8abf5 0 [.val (.ref s)] [] T M F = _
  have h1 := jd_coder (d := e) h (by omega)
  obtain ⟨⟨x, t0⟩, f0, m0, t1, -⟩ := h
  rcases t1 with ⟨t1, -⟩ | ⟨t1, -⟩
  · simp (disch := omega) only [x_J0_length_8abf5_0, x_J0_length_8abf5_1, x_J0_length_8abf5_4, x_J0_length_8abf5_5, x_J0_length_8abf5_6, x_J0_length_8abf5_9, x_J0_length_8abf5_10, List.length_cons, List.length_nil, Nat.reduceLeDiff, Nat.zero_add, iI_add, iI_sub, iI_mul, iI_neg, iI_lt, iI_le, iI_eq, jI_iI, B_True, B_False, B_t, B_f, ck_True, gd_True, cb_v, cb_n, p_mv_rw, p_fv_rw, p_rv_some, pA_1, pA_90, pA_92, pA_3, pA_5, pA_93, pA_4, pA_91, pA_6, pS_i, pB_i, pW_i, pZ_0, pZ_1, pZ_b, bI_e0, u1_s, u1_n, uA_s, uA_n, true_and, and_true, not_true_eq_false, not_false_eq_true, eq_self, iI_z, al1, al5, al3, al4, al90, al91, al92, al93, al6, Int.cast_ofNat_Int, Nat.reduceAdd, Int.reduceNeg, Int.reduceAdd, Int.reduceSub, Int.reduceMul, Int.reduceLT, Int.reduceLE, Int.reduceGT, Int.reduceGE, Int.reduceEq, Int.reduceNe, Nat.reduceEqDiff, Int.zero_add, Int.add_zero, p_ty0, p_ty1, p_ty2, p_ty3, p_ty4, p_ty5, p_ty8, p_ty9, p_ty10, t0, f0, m0, t1, h1, sh0, gd_t]
  · simp (disch := omega) only [x_J0_length_8abf5_0, x_J0_length_8abf5_1, x_J0_length_8abf5_4, x_J0_length_8abf5_5, x_J0_length_8abf5_6, x_J0_length_8abf5_9, x_J0_length_8abf5_10, List.length_cons, List.length_nil, Nat.reduceLeDiff, Nat.zero_add, iI_add, iI_sub, iI_mul, iI_neg, iI_lt, iI_le, iI_eq, jI_iI, B_True, B_False, B_t, B_f, ck_True, gd_True, cb_v, cb_n, p_mv_rw, p_fv_rw, p_rv_some, pA_1, pA_90, pA_92, pA_3, pA_5, pA_93, pA_4, pA_91, pA_6, pS_i, pB_i, pW_i, pZ_0, pZ_1, pZ_b, bI_e0, u1_s, u1_n, uA_s, uA_n, true_and, and_true, not_true_eq_false, not_false_eq_true, eq_self, iI_z, al1, al5, al3, al4, al90, al91, al92, al93, al6, Int.cast_ofNat_Int, Nat.reduceAdd, Int.reduceNeg, Int.reduceAdd, Int.reduceSub, Int.reduceMul, Int.reduceLT, Int.reduceLE, Int.reduceGT, Int.reduceGE, Int.reduceEq, Int.reduceNe, Nat.reduceEqDiff, Int.zero_add, Int.add_zero, p_ty0, p_ty1, p_ty2, p_ty3, p_ty4, p_ty5, p_ty8, p_ty9, p_ty10, t0, f0, m0, t1, h1, sh0, gd_t]
theorem jd_ch (h : STx T M F s v ws) (hi : 0 ≤ i ∧ i < (ws.length : Int)) : p_mv M v i = ws.getD i.toNat 0 ∧ 0 ≤ p_mv M v i ∧ p_mv M v i < 128 := by
  obtain ⟨-, -, -, -, h1, -, h2⟩ := h
  have e := h1 i.toNat (by omega)
  rw [Int.toNat_of_nonneg hi.1] at e
  rw [e, List.getD_eq_getElem?_getD, List.getElem?_eq_getElem (by omega)]
  exact ⟨rfl, h2 _ (List.getElem_mem _)⟩
theorem jd_charL (h : STx T M F s v ws) (hi : 0 ≤ i ∧ i < (ws.length : Int)) (hd : 3 ≤ d) : callD d m_J1_charAt_3b067 [.ref v, .int (iI i)] T M F = some (.inl (some (.int (iI (p_mv M v i)))), T, M, F) := by
  refine callD_go 2 hd rfl (fun e he => ?_)
  show R e m_J1_charAt_3b067 0 [.val (.ref v), .val (.int (iI i))] [] T M F = _
  have hl : ws.length ≤ 1000 := h.2.2.2.2.2.1
  have h1 := s_ci (d := e) (T := T) (M := M) (F := F) (n := (ws.length : Int)) (by omega) hi (by omega)
  have hr := (jd_ch h hi).2
  have ha : iI (p_mv M v i) &&& iI 255 = iI (p_mv M v i) := by
    obtain ⟨n, hn⟩ := Int.eq_ofNat_of_zero_le hr.1
    rw [hn, and255 (by omega), Nat.mod_eq_of_lt (by omega)]
  have hc := i2c_id (x := p_mv M v i) (by omega)
  obtain ⟨⟨x, t0⟩, f0, m0, t1, -⟩ := h
  generalize hy : p_mv M v i = y at *
  rcases t1 with ⟨t1, t2⟩ | ⟨t1, t2⟩
  · rw [p_mv_rw t2] at hy
    simp (disch := omega) only [x_J1_charAt_3b067_0, x_J1_charAt_3b067_1, x_J1_charAt_3b067_2, x_J1_charAt_3b067_3, x_J1_charAt_3b067_6, x_J1_charAt_3b067_7, x_J1_charAt_3b067_8, x_J1_charAt_3b067_9, x_J1_charAt_3b067_12, x_J1_charAt_3b067_13, x_J1_charAt_3b067_14, List.length_cons, List.length_nil, Nat.reduceLeDiff, Nat.zero_add, iI_add, iI_sub, iI_mul, iI_neg, iI_lt, iI_le, iI_eq, jI_iI, B_True, B_False, B_t, B_f, ck_True, gd_True, cb_v, cb_n, p_mv_rw, p_fv_rw, p_rv_some, pA_1, pA_90, pA_92, pA_3, pA_5, pA_93, pA_4, pA_91, pA_6, pS_i, pB_i, pW_i, pZ_0, pZ_1, pZ_b, bI_e0, u1_s, u1_n, uA_s, uA_n, true_and, and_true, not_true_eq_false, not_false_eq_true, eq_self, iI_z, al1, al5, al3, al4, al90, al91, al92, al93, al6, Int.cast_ofNat_Int, Nat.reduceAdd, Int.reduceNeg, Int.reduceAdd, Int.reduceSub, Int.reduceMul, Int.reduceLT, Int.reduceLE, Int.reduceGT, Int.reduceGE, Int.reduceEq, Int.reduceNe, Nat.reduceEqDiff, Int.zero_add, Int.add_zero, p_ty0, p_ty1, p_ty2, p_ty3, p_ty4, p_ty5, p_ty8, p_ty9, p_ty10, t1, h1, hy, ha, hc, gd_t]
  · simp (disch := omega) only [x_J1_charAt_3b067_0, x_J1_charAt_3b067_1, x_J1_charAt_3b067_2, x_J1_charAt_3b067_3, x_J1_charAt_3b067_6, x_J1_charAt_3b067_7, x_J1_charAt_3b067_8, x_J1_charAt_3b067_9, x_J1_charAt_3b067_12, x_J1_charAt_3b067_13, x_J1_charAt_3b067_14, List.length_cons, List.length_nil, Nat.reduceLeDiff, Nat.zero_add, iI_add, iI_sub, iI_mul, iI_neg, iI_lt, iI_le, iI_eq, jI_iI, B_True, B_False, B_t, B_f, ck_True, gd_True, cb_v, cb_n, p_mv_rw, p_fv_rw, p_rv_some, pA_1, pA_90, pA_92, pA_3, pA_5, pA_93, pA_4, pA_91, pA_6, pS_i, pB_i, pW_i, pZ_0, pZ_1, pZ_b, bI_e0, u1_s, u1_n, uA_s, uA_n, true_and, and_true, not_true_eq_false, not_false_eq_true, eq_self, iI_z, al1, al5, al3, al4, al90, al91, al92, al93, al6, Int.cast_ofNat_Int, Nat.reduceAdd, Int.reduceNeg, Int.reduceAdd, Int.reduceSub, Int.reduceMul, Int.reduceLT, Int.reduceLE, Int.reduceGT, Int.reduceGE, Int.reduceEq, Int.reduceNe, Nat.reduceEqDiff, Int.zero_add, Int.add_zero, p_ty0, p_ty1, p_ty2, p_ty3, p_ty4, p_ty5, p_ty8, p_ty9, p_ty10, t1, h1, hy, ha, hc, gd_t]
theorem jd_charAt (h : STx T M F s v ws) (hi : 0 ≤ i ∧ i < (ws.length : Int)) (hd : 4 ≤ d) : callD d m_J0_charAt_5068e [.ref s, .int (iI i)] T M F = some (.inl (some (.int (iI (p_mv M v i)))), T, M, F) := by
  refine callD_go 3 hd rfl (fun e he => ?_)
  show R e m_J0_charAt_5068e 0 [.val (.ref s), .val (.int (iI i))] [] T M F = _
  have h1 := jd_latS (d := e) h (by omega)
  have h2 := jd_charL (d := e) h hi he
  have hr := (jd_ch h hi).2
  obtain ⟨⟨x, t0⟩, f0, m0, t1, -⟩ := h
  generalize hy : p_mv M v i = y at *
  clear hy
  simp (disch := omega) only [x_J0_charAt_5068e_0, x_J0_charAt_5068e_1, x_J0_charAt_5068e_4, x_J0_charAt_5068e_7, x_J0_charAt_5068e_8, x_J0_charAt_5068e_11, x_J0_charAt_5068e_12, x_J0_charAt_5068e_15, x_J0_charAt_5068e_16, x_J0_charAt_5068e_17, x_J0_charAt_5068e_20, x_J0_charAt_5068e_21, x_J0_charAt_5068e_24, List.length_cons, List.length_nil, Nat.reduceLeDiff, Nat.zero_add, iI_add, iI_sub, iI_mul, iI_neg, iI_lt, iI_le, iI_eq, jI_iI, B_True, B_False, B_t, B_f, ck_True, gd_True, cb_v, cb_n, p_mv_rw, p_fv_rw, p_rv_some, pA_1, pA_90, pA_92, pA_3, pA_5, pA_93, pA_4, pA_91, pA_6, pS_i, pB_i, pW_i, pZ_0, pZ_1, pZ_b, bI_e0, u1_s, u1_n, uA_s, uA_n, true_and, and_true, not_true_eq_false, not_false_eq_true, eq_self, iI_z, al1, al5, al3, al4, al90, al91, al92, al93, al6, Int.cast_ofNat_Int, Nat.reduceAdd, Int.reduceNeg, Int.reduceAdd, Int.reduceSub, Int.reduceMul, Int.reduceLT, Int.reduceLE, Int.reduceGT, Int.reduceGE, Int.reduceEq, Int.reduceNe, Nat.reduceEqDiff, Int.zero_add, Int.add_zero, p_ty0, p_ty1, p_ty2, p_ty3, p_ty4, p_ty5, p_ty8, p_ty9, p_ty10, t0, f0, m0, h1, h2, gd_t]
/-- a text's bytes go into a row of bytes -/
theorem jd_getB (h : STx T M F s v ws) (hb : 100 ≤ b) (tb : p_ty T b = (5, n)) (hvb : v ≠ b) (hk : 0 ≤ k ∧ k + ws.length ≤ (n : Int) ∧ n ≤ 10000) (hd : 2 ≤ d) : callD d m_J0_getBytes_840e7 [.ref s, .ref b, .int (iI k), .int (iI 0)] T M F = some (.inl none, T, uA M b (fun j => if k ≤ j ∧ j < k + ws.length then p_mv M v (j - k) else M b j), F) := by
  refine callD_go 1 hd rfl (fun e he => ?_)
  show R e m_J0_getBytes_840e7 0 [.val (.ref s), .val (.ref b), .val (.int (iI k)), .val (.int (iI 0))] [] T M F = _
  have h1 := jd_coder (d := e) h (by omega)
  have hl : ws.length ≤ 1000 := h.2.2.2.2.2.1
  obtain ⟨⟨x, t0⟩, f0, m0, t1, -⟩ := h
  rcases t1 with ⟨t1, t2⟩ | ⟨t1, t2, t3⟩
  · have hv : ∀ j, p_mv M v j = M v j := fun j => p_mv_rw t2
    simp only [hv]
    simp (disch := omega) only [x_J0_getBytes_840e7_0, x_J0_getBytes_840e7_1, x_J0_getBytes_840e7_4, x_J0_getBytes_840e7_5, x_J0_getBytes_840e7_8, x_J0_getBytes_840e7_9, x_J0_getBytes_840e7_12, x_J0_getBytes_840e7_13, x_J0_getBytes_840e7_14, x_J0_getBytes_840e7_15, x_J0_getBytes_840e7_16, x_J0_getBytes_840e7_17, x_J0_getBytes_840e7_18, x_J0_getBytes_840e7_21, x_J0_getBytes_840e7_22, x_J0_getBytes_840e7_25, x_J0_getBytes_840e7_28, x_J0_getBytes_840e7_29, x_J0_getBytes_840e7_32, x_J0_getBytes_840e7_33, x_J0_getBytes_840e7_34, x_J0_getBytes_840e7_35, x_J0_getBytes_840e7_36, x_J0_getBytes_840e7_39, x_J0_getBytes_840e7_40, x_J0_getBytes_840e7_43, List.length_cons, List.length_nil, Nat.reduceLeDiff, Nat.zero_add, iI_add, iI_sub, iI_mul, iI_neg, iI_lt, iI_le, iI_eq, jI_iI, B_True, B_False, B_t, B_f, ck_True, gd_True, cb_v, cb_n, p_mv_rw, p_fv_rw, p_rv_some, pA_1, pA_90, pA_92, pA_3, pA_5, pA_93, pA_4, pA_91, pA_6, pS_i, pB_i, pW_i, pZ_0, pZ_1, pZ_b, bI_e0, u1_s, u1_n, uA_s, uA_n, true_and, and_true, not_true_eq_false, not_false_eq_true, eq_self, iI_z, al1, al5, al3, al4, al90, al91, al92, al93, al6, Int.cast_ofNat_Int, Nat.reduceAdd, Int.reduceNeg, Int.reduceAdd, Int.reduceSub, Int.reduceMul, Int.reduceLT, Int.reduceLE, Int.reduceGT, Int.reduceGE, Int.reduceEq, Int.reduceNe, Nat.reduceEqDiff, Int.zero_add, Int.add_zero, p_ty0, p_ty1, p_ty2, p_ty3, p_ty4, p_ty5, p_ty8, p_ty9, p_ty10, t0, f0, m0, t1, tb, h1, shl0, ck_t, true_or, false_and, false_or, or_false, gd_t, B_t, B_f, Int.zero_add]
  · simp (disch := omega) only [x_J0_getBytes_840e7_0, x_J0_getBytes_840e7_1, x_J0_getBytes_840e7_4, x_J0_getBytes_840e7_5, x_J0_getBytes_840e7_8, x_J0_getBytes_840e7_9, x_J0_getBytes_840e7_12, x_J0_getBytes_840e7_13, x_J0_getBytes_840e7_14, x_J0_getBytes_840e7_15, x_J0_getBytes_840e7_16, x_J0_getBytes_840e7_17, x_J0_getBytes_840e7_18, x_J0_getBytes_840e7_21, x_J0_getBytes_840e7_22, x_J0_getBytes_840e7_25, x_J0_getBytes_840e7_28, x_J0_getBytes_840e7_29, x_J0_getBytes_840e7_32, x_J0_getBytes_840e7_33, x_J0_getBytes_840e7_34, x_J0_getBytes_840e7_35, x_J0_getBytes_840e7_36, x_J0_getBytes_840e7_39, x_J0_getBytes_840e7_40, x_J0_getBytes_840e7_43, List.length_cons, List.length_nil, Nat.reduceLeDiff, Nat.zero_add, iI_add, iI_sub, iI_mul, iI_neg, iI_lt, iI_le, iI_eq, jI_iI, B_True, B_False, B_t, B_f, ck_True, gd_True, cb_v, cb_n, p_mv_rw, p_fv_rw, p_rv_some, pA_1, pA_90, pA_92, pA_3, pA_5, pA_93, pA_4, pA_91, pA_6, pS_i, pB_i, pW_i, pZ_0, pZ_1, pZ_b, bI_e0, u1_s, u1_n, uA_s, uA_n, true_and, and_true, not_true_eq_false, not_false_eq_true, eq_self, iI_z, al1, al5, al3, al4, al90, al91, al92, al93, al6, Int.cast_ofNat_Int, Nat.reduceAdd, Int.reduceNeg, Int.reduceAdd, Int.reduceSub, Int.reduceMul, Int.reduceLT, Int.reduceLE, Int.reduceGT, Int.reduceGE, Int.reduceEq, Int.reduceNe, Nat.reduceEqDiff, Int.zero_add, Int.add_zero, p_ty0, p_ty1, p_ty2, p_ty3, p_ty4, p_ty5, p_ty8, p_ty9, p_ty10, t0, f0, m0, t1, tb, h1, shl0, ck_t, true_or, false_and, false_or, or_false, gd_t, B_t, B_f, Int.zero_add]
theorem jd_infl (hB : SBo T M F a b n tx) (h : STx T M F s v ws) (hd : 2 ≤ d) : callD d m_J5_inflateIfNeededFor_a7421 [.ref a, .ref s] T M F = some (.inl none, T, M, F) := by
  refine callD_go 1 hd rfl (fun e he => ?_)
  show R e m_J5_inflateIfNeededFor_a7421 0 [.val (.ref a), .val (.ref s)] [] T M F = _
  have h1 := jd_coder (d := e) h (by omega)
  obtain ⟨⟨h100, hlt⟩, t0, f0, ⟨hb, hbl⟩, t1, hab, m0, m1, l1, l2, l3⟩ := hB
  obtain ⟨⟨x, ts⟩, -⟩ := h
  clear l3
  simp (disch := omega) only [x_J5_inflateIfNeededFor_a7421_0, x_J5_inflateIfNeededFor_a7421_3, x_J5_inflateIfNeededFor_a7421_6, x_J5_inflateIfNeededFor_a7421_7, x_J5_inflateIfNeededFor_a7421_10, x_J5_inflateIfNeededFor_a7421_11, x_J5_inflateIfNeededFor_a7421_14, x_J5_inflateIfNeededFor_a7421_17, x_J5_inflateIfNeededFor_a7421_18, x_J5_inflateIfNeededFor_a7421_21, List.length_cons, List.length_nil, Nat.reduceLeDiff, Nat.zero_add, iI_add, iI_sub, iI_mul, iI_neg, iI_lt, iI_le, iI_eq, jI_iI, B_True, B_False, B_t, B_f, ck_True, gd_True, cb_v, cb_n, p_mv_rw, p_fv_rw, p_rv_some, pA_1, pA_90, pA_92, pA_3, pA_5, pA_93, pA_4, pA_91, pA_6, pS_i, pB_i, pW_i, pZ_0, pZ_1, pZ_b, bI_e0, u1_s, u1_n, uA_s, uA_n, true_and, and_true, not_true_eq_false, not_false_eq_true, eq_self, iI_z, al1, al5, al3, al4, al90, al91, al92, al93, al6, Int.cast_ofNat_Int, Nat.reduceAdd, Int.reduceNeg, Int.reduceAdd, Int.reduceSub, Int.reduceMul, Int.reduceLT, Int.reduceLE, Int.reduceGT, Int.reduceGE, Int.reduceEq, Int.reduceNe, Nat.reduceEqDiff, Int.zero_add, Int.add_zero, p_ty0, p_ty1, p_ty2, p_ty3, p_ty4, p_ty5, p_ty8, p_ty9, p_ty10, t0, m0, ts, h1, gd_t, B_t, B_f]
theorem jd_lat (hB : SBo T M F a b n tx) (hd : 1 ≤ d) : callD d m_J5_isLatin1_aae02 [.ref a] T M F = some (.inl (some (.int (iI 1))), T, M, F) := by
  refine callD_go 0 hd rfl (fun e he => ?_)
  show R e m_J5_isLatin1_aae02 0 [.val (.ref a)] [] T M F = _
  obtain ⟨⟨h100, hlt⟩, t0, f0, ⟨hb, hbl⟩, t1, hab, m0, m1, l1, l2, l3⟩ := hB
  clear l3
  simp (disch := omega) only [x_J5_isLatin1_aae02_0, x_J5_isLatin1_aae02_3, x_J5_isLatin1_aae02_6, x_J5_isLatin1_aae02_7, x_J5_isLatin1_aae02_10, x_J5_isLatin1_aae02_13, x_J5_isLatin1_aae02_14, x_J5_isLatin1_aae02_17, x_J5_isLatin1_aae02_18, List.length_cons, List.length_nil, Nat.reduceLeDiff, Nat.zero_add, iI_add, iI_sub, iI_mul, iI_neg, iI_lt, iI_le, iI_eq, jI_iI, B_True, B_False, B_t, B_f, ck_True, gd_True, cb_v, cb_n, p_mv_rw, p_fv_rw, p_rv_some, pA_1, pA_90, pA_92, pA_3, pA_5, pA_93, pA_4, pA_91, pA_6, pS_i, pB_i, pW_i, pZ_0, pZ_1, pZ_b, bI_e0, u1_s, u1_n, uA_s, uA_n, true_and, and_true, not_true_eq_false, not_false_eq_true, eq_self, iI_z, al1, al5, al3, al4, al90, al91, al92, al93, al6, Int.cast_ofNat_Int, Nat.reduceAdd, Int.reduceNeg, Int.reduceAdd, Int.reduceSub, Int.reduceMul, Int.reduceLT, Int.reduceLE, Int.reduceGT, Int.reduceGE, Int.reduceEq, Int.reduceNe, Nat.reduceEqDiff, Int.zero_add, Int.add_zero, p_ty0, p_ty1, p_ty2, p_ty3, p_ty4, p_ty5, p_ty8, p_ty9, p_ty10, t0, m0, gd_t, B_t, B_f]
theorem jd_putS (hB : SBo T M F a b n tx) (h : STx T M F s v ws) (hvb : v ≠ b) (hk : (tx.length : Int) + ws.length ≤ (n : Int)) (hd : 3 ≤ d) : callD d m_J5_putStringAt_47b60 [.ref a, .int (iI (tx.length : Int)), .ref s] T M F = some (.inl none, T, uA M b (fun j => if (tx.length : Int) ≤ j ∧ j < (tx.length : Int) + ws.length then p_mv M v (j - (tx.length : Int)) else M b j), F) := by
  refine callD_go 2 hd rfl (fun e he => ?_)
  show R e m_J5_putStringAt_47b60 0 [.val (.ref a), .val (.int (iI (tx.length : Int))), .val (.ref s)] [] T M F = _
  have h1 := jd_infl (d := e) hB h (by omega)
  obtain ⟨⟨h100, hlt⟩, t0, f0, ⟨hb, hbl⟩, t1, hab, m0, m1, l1, l2, l3⟩ := hB
  have h2 := jd_getB (d := e) h hb t1 hvb (k := (tx.length : Int)) (by omega) (by omega)
  obtain ⟨⟨x, ts⟩, -⟩ := h
  clear l3
  simp (disch := omega) only [x_J5_putStringAt_47b60_0, x_J5_putStringAt_47b60_1, x_J5_putStringAt_47b60_2, x_J5_putStringAt_47b60_5, x_J5_putStringAt_47b60_6, x_J5_putStringAt_47b60_7, x_J5_putStringAt_47b60_10, x_J5_putStringAt_47b60_11, x_J5_putStringAt_47b60_12, x_J5_putStringAt_47b60_15, x_J5_putStringAt_47b60_18, List.length_cons, List.length_nil, Nat.reduceLeDiff, Nat.zero_add, iI_add, iI_sub, iI_mul, iI_neg, iI_lt, iI_le, iI_eq, jI_iI, B_True, B_False, B_t, B_f, ck_True, gd_True, cb_v, cb_n, p_mv_rw, p_fv_rw, p_rv_some, pA_1, pA_90, pA_92, pA_3, pA_5, pA_93, pA_4, pA_91, pA_6, pS_i, pB_i, pW_i, pZ_0, pZ_1, pZ_b, bI_e0, u1_s, u1_n, uA_s, uA_n, true_and, and_true, not_true_eq_false, not_false_eq_true, eq_self, iI_z, al1, al5, al3, al4, al90, al91, al92, al93, al6, Int.cast_ofNat_Int, Nat.reduceAdd, Int.reduceNeg, Int.reduceAdd, Int.reduceSub, Int.reduceMul, Int.reduceLT, Int.reduceLE, Int.reduceGT, Int.reduceGE, Int.reduceEq, Int.reduceNe, Nat.reduceEqDiff, Int.zero_add, Int.add_zero, p_ty0, p_ty1, p_ty2, p_ty3, p_ty4, p_ty5, p_ty8, p_ty9, p_ty10, t0, f0, m0, ts, h1, h2, gd_t]
/-- a text is still what it was -/
theorem STx.kp (h : STx T M F s v ws) (hm : s_mono T T1) (hs : s < T.1.1) (hv : v < T.1.1) (h1 : M1 s = M s) (h2 : M1 v = M v) (h3 : F1 s = F s) : STx T1 M1 F1 s v ws := by
  obtain ⟨⟨x, t0⟩, f0, m0, t1, c1, l1, b1⟩ := h
  have es : ∀ i, p_mv M1 s i = p_mv M s i := fun i => by unfold p_mv; rw [h1]
  have ev : ∀ i, p_mv M1 v i = p_mv M v i := fun i => by unfold p_mv; rw [h2]
  have ef : ∀ i, p_fv F1 s i = p_fv F s i := fun i => by unfold p_fv; rw [h3]
  refine ⟨⟨x, by rw [hm.2.2 s hs]; exact t0⟩, by rw [ef]; exact f0, by rw [es]; exact m0, ?_, fun j hj => by rw [ev]; exact c1 j hj, l1, b1⟩
  rw [hm.2.2 v hv]; exact t1
theorem getD_ap1 (A B : List Int) {j : Nat} (h : j < A.length) : (A ++ B).getD j 0 = A.getD j 0 := by
  rw [List.getD_eq_getElem?_getD, List.getD_eq_getElem?_getD, List.getElem?_append_left h]
theorem getD_ap2 (A B : List Int) {j : Nat} (h : A.length ≤ j) : (A ++ B).getD j 0 = B.getD (j - A.length) 0 := by
  rw [List.getD_eq_getElem?_getD, List.getD_eq_getElem?_getD, List.getElem?_append_right h]
/-- what an append leaves: the builder with its new text, all else as it was, so many cells more -/
def SBx (T : pT) (M : pM) (F : pF) (T1 : pT) (M1 : pM) (F1 : pF) (a b : Nat) (n : Nat) (tx : List Int) : Prop := ∃ b' n', SBo T1 M1 F1 a b' n' tx ∧ (n' = n ∨ n' ≤ 2 * tx.length) ∧ (b' = b ∨ T.1.1 ≤ b') ∧ SBk T M F M1 F1 a b ∧ (∀ j, j ≠ 0 → F1 a j = F a j) ∧ s_mono T T1 ∧ T1.1.1 ≤ T.1.1 + 1 ∧ T1.1.2 ≤ T.1.2 + 2 * tx.length
theorem jd_app5 (hB : SBo T M F a b n tx) (h : STx T M F s v ws) (hs : s < T.1.1 ∧ v < T.1.1 ∧ s ≠ a ∧ s ≠ b ∧ v ≠ a ∧ v ≠ b) (hl : tx.length + ws.length ≤ 2000) : ∃ T' M' F', (∀ d, 5 ≤ d → callD d m_J5_append_cf1ce [.ref a, .ref s] T M F = some (.inl (some (.ref a)), T', M', F')) ∧ SBx T M F T' M' F' a b n (tx ++ ws) := by
  obtain ⟨T1, M1, F1, b1, n1, e1, B1, k1, k2, fr, kb, fa, ma⟩ := jd_ens hB (mn := (tx.length : Int) + ws.length) (by omega)
  have hmo : s_mono T T1 := by
    rcases kb with ⟨-, rfl⟩ | ⟨-, -, -⟩
    · exact .rf
    · exact callD_T 4 _ _ _ _ _ _ (e1 4 (Nat.le_refl _))
  have hb1 : v ≠ b1 := by rcases kb with ⟨z, -⟩ | ⟨z, -⟩ <;> omega
  have S1 : STx T1 M1 F1 s v ws := h.kp hmo hs.1 hs.2.1 (fr.1 s hs.1 hs.2.2.1 hs.2.2.2.1) (fr.1 v hs.2.1 hs.2.2.2.2.1 hs.2.2.2.2.2) (fr.2 s hs.1 hs.2.2.1)
  obtain ⟨⟨h100, hlt⟩, t0, f0, ⟨hb, hbl⟩, t1, hab, m0, m1, l1, l2, l3⟩ := id hB
  obtain ⟨⟨x1, hlt'⟩, t0', f0', ⟨hb', hbl'⟩, t1', hab', m0', m1', l1', l2', l3'⟩ := id B1
  obtain ⟨M2, hM2⟩ : ∃ M2 : pM, M2 = uA (uA M1 b1 (fun j => if (tx.length : Int) ≤ j ∧ j < (tx.length : Int) + ws.length then p_mv M1 v (j - (tx.length : Int)) else M1 b1 j)) a (u1 (M1 a) 3 ((tx.length : Int) + ws.length)) := ⟨_, rfl⟩
  refine ⟨T1, M2, F1, fun d hd => ?_, b1, n1, ⟨⟨x1, hlt'⟩, t0', f0', ⟨hb', hbl'⟩, t1', hab', ?_, ?_, ?_, l2', fun j hj => ?_⟩, ?_, ?_, ⟨fun c c1 c2 c3 => ?_, fr.2⟩, fa, hmo, ?_, ?_⟩
  · refine callD_go 4 hd rfl (fun e he => ?_)
    show R e m_J5_append_cf1ce 0 [.val (.ref a), .val (.ref s), .unset] [] T M F = _
    have e0 := jd_length (d := e) h (by omega)
    have e1 := e1 e he
    have e2 := jd_putS (d := e) B1 S1 hb1 (by omega) (by omega)
    obtain ⟨⟨x, ts⟩, -⟩ := id h
    have m1a : M1 a 3 = tx.length := m1'
    have ma2 : uA M1 b1 (fun j => if (tx.length : Int) ≤ j ∧ j < (tx.length : Int) + ws.length then p_mv M1 v (j - (tx.length : Int)) else M1 b1 j) a = M1 a := uA_n hab'
    rw [hM2]
    clear l3 l3' hB B1 S1 h fr kb fa hM2
    simp (disch := omega) only [x_J5_append_cf1ce_0, x_J5_append_cf1ce_1, x_J5_append_cf1ce_9, x_J5_append_cf1ce_10, x_J5_append_cf1ce_13, x_J5_append_cf1ce_14, x_J5_append_cf1ce_15, x_J5_append_cf1ce_16, x_J5_append_cf1ce_19, x_J5_append_cf1ce_20, x_J5_append_cf1ce_21, x_J5_append_cf1ce_24, x_J5_append_cf1ce_25, x_J5_append_cf1ce_26, x_J5_append_cf1ce_29, x_J5_append_cf1ce_30, x_J5_append_cf1ce_33, x_J5_append_cf1ce_34, x_J5_append_cf1ce_35, x_J5_append_cf1ce_38, x_J5_append_cf1ce_39, x_J5_append_cf1ce_40, x_J5_append_cf1ce_43, x_J5_append_cf1ce_44, List.length_cons, List.length_nil, Nat.reduceLeDiff, Nat.zero_add, iI_add, iI_sub, iI_mul, iI_neg, iI_lt, iI_le, iI_eq, jI_iI, B_True, B_False, B_t, B_f, ck_True, gd_True, cb_v, cb_n, p_mv_rw, p_fv_rw, p_rv_some, pA_1, pA_90, pA_92, pA_3, pA_5, pA_93, pA_4, pA_91, pA_6, pS_i, pB_i, pW_i, pZ_0, pZ_1, pZ_b, bI_e0, u1_s, u1_n, uA_s, uA_n, true_and, and_true, not_true_eq_false, not_false_eq_true, eq_self, iI_z, al1, al5, al3, al4, al90, al91, al92, al93, al6, Int.cast_ofNat_Int, Nat.reduceAdd, Int.reduceNeg, Int.reduceAdd, Int.reduceSub, Int.reduceMul, Int.reduceLT, Int.reduceLE, Int.reduceGT, Int.reduceGE, Int.reduceEq, Int.reduceNe, Nat.reduceEqDiff, Int.zero_add, Int.add_zero, p_ty0, p_ty1, p_ty2, p_ty3, p_ty4, p_ty5, p_ty8, p_ty9, p_ty10, t0, t0', ts, m1, m1a, ma2, e0, e1, e2, gd_t, B_t, B_f]
  · rw [hM2, uA_s, u1_n (by decide)]; exact m0'
  · rw [hM2, uA_s, u1_s, List.length_append]; omega
  · rw [List.length_append]; omega
  · rw [hM2, uA_n hab'.symm, uA_s]
    rw [List.length_append] at hj
    by_cases c : (tx.length : Int) ≤ (j : Int)
    · rw [if_pos ⟨c, by omega⟩, getD_ap2 _ _ (by omega)]
      have := S1.2.2.2.2.1 (j - tx.length) (by omega)
      rw [← this]
      congr 1; omega
    · rw [if_neg (by omega), getD_ap1 _ _ (by omega)]
      exact l3' j (by omega)
  · rw [List.length_append]; omega
  · rcases kb with ⟨z, -⟩ | ⟨z, -⟩ <;> omega
  · rw [hM2, uA_n c2, uA_n (by rcases kb with ⟨z, -⟩ | ⟨z, -⟩ <;> omega)]
    exact fr.1 c c1 c2 c3
  · rcases kb with ⟨-, rfl⟩ | ⟨-, z, -⟩ <;> omega
  · rw [List.length_append]
    rcases kb with ⟨-, rfl⟩ | ⟨-, -, z, z2⟩
    · omega
    · omega
theorem jd_appS (hB : SBo T M F a b n tx) (h : STx T M F s v ws) (hs : s < T.1.1 ∧ v < T.1.1 ∧ s ≠ a ∧ s ≠ b ∧ v ≠ a ∧ v ≠ b) (hl : tx.length + ws.length ≤ 2000) : ∃ T' M' F', (∀ d, 6 ≤ d → callD d m_J4_append_15ec4 [.ref a, .ref s] T M F = some (.inl (some (.ref a)), T', M', F')) ∧ SBx T M F T' M' F' a b n (tx ++ ws) := by
  obtain ⟨T', M', F', e1, hx⟩ := jd_app5 hB h hs hl
  refine ⟨T', M', F', fun d hd => ?_, hx⟩
  refine callD_go 5 hd rfl (fun e he => ?_)
  show R e m_J4_append_15ec4 0 [.val (.ref a), .val (.ref s)] [] T M F = _
  have e1 := e1 e he
  obtain ⟨b', n', B', -⟩ := hx
  have t0 := hB.2.1
  have t0' := B'.2.1
  clear hB h B'
  simp (disch := omega) only [x_J4_append_15ec4_0, x_J4_append_15ec4_1, x_J4_append_15ec4_2, x_J4_append_15ec4_5, x_J4_append_15ec4_6, x_J4_append_15ec4_7, List.length_cons, List.length_nil, Nat.reduceLeDiff, Nat.zero_add, iI_add, iI_sub, iI_mul, iI_neg, iI_lt, iI_le, iI_eq, jI_iI, B_True, B_False, B_t, B_f, ck_True, gd_True, cb_v, cb_n, p_mv_rw, p_fv_rw, p_rv_some, pA_1, pA_90, pA_92, pA_3, pA_5, pA_93, pA_4, pA_91, pA_6, pS_i, pB_i, pW_i, pZ_0, pZ_1, pZ_b, bI_e0, u1_s, u1_n, uA_s, uA_n, true_and, and_true, not_true_eq_false, not_false_eq_true, eq_self, iI_z, al1, al5, al3, al4, al90, al91, al92, al93, al6, Int.cast_ofNat_Int, Nat.reduceAdd, Int.reduceNeg, Int.reduceAdd, Int.reduceSub, Int.reduceMul, Int.reduceLT, Int.reduceLE, Int.reduceGT, Int.reduceGE, Int.reduceEq, Int.reduceNe, Nat.reduceEqDiff, Int.zero_add, Int.add_zero, p_ty0, p_ty1, p_ty2, p_ty3, p_ty4, p_ty5, p_ty8, p_ty9, p_ty10, t0, t0', e1, gd_t]
end PAPP
