section PNAM
variable {d s b n a : Nat} {T T1 T2 T3 : pT} {M M1 M2 M3 : pM} {F F1 F2 F3 : pF} {k t i c p x y : Int} {tx : List Int}
theorem z_nmL (e : Nat) (he : 1 ≤ e) {l0 : Slot} {col : Int} (hcol : 0 ≤ col ∧ col ≤ 10) : ∀ (m : Nat) (c x : Int), 0 ≤ c → c + m = col → -200 ≤ x - 11 * m → x ≤ 200 → R e m_L_nameOf 14 [l0, .val (.int (iI col)), .val (.int (iI x)), .val (.int (iI c))] [] T M F = R e m_L_nameOf 37 [l0, .val (.int (iI col)), .val (.int (iI (nmf m c x))), .val (.int (iI col))] [] T M F
  | 0, c, x, h0, hm, hx, hx2 => by
    obtain rfl : c = col := by omega
    rw [nmf]
    simp (disch := omega) only [x_L_nameOf_14, x_L_nameOf_15, x_L_nameOf_16, List.length_cons, List.length_nil, Nat.reduceLeDiff, Nat.zero_add, iI_add, iI_sub, iI_mul, iI_neg, iI_lt, iI_le, iI_eq, jI_iI, B_True, B_False, B_t, B_f, ck_True, gd_True, cb_v, cb_n, p_mv_rw, p_fv_rw, p_rv_some, pA_1, pA_90, pA_92, pA_3, pA_5, pA_93, pA_4, pA_91, pA_6, pS_i, pB_i, pW_i, pZ_0, pZ_1, pZ_b, bI_e0, u1_s, u1_n, uA_s, uA_n, true_and, and_true, not_true_eq_false, not_false_eq_true, eq_self, iI_z, al1, al5, al3, al4, al90, al91, al92, al93, al6, Int.cast_ofNat_Int, Nat.reduceAdd, Int.reduceNeg, Int.reduceAdd, Int.reduceSub, Int.reduceMul, Int.reduceLT, Int.reduceLE, Int.reduceGT, Int.reduceGE, Int.reduceEq, Int.reduceNe, Nat.reduceEqDiff, Int.zero_add, Int.add_zero, p_ty0, p_ty1, p_ty2, p_ty3, p_ty4, p_ty5, p_ty8, p_ty9, p_ty10, B_t, B_f]
  | m + 1, c, x, h0, hm, hx, hx2 => by
    have a1 := z_abs (d := e) (T := T) (M := M) (F := F) (n := c - 5) he (by omega)
    have r1 := ab_rg (c - 5)
    have r2 : ab (c - 5) ≤ 5 := by omega
    rw [nmf, ← z_nmL e he hcol m (c + 1) (x - (11 - ab (c - 5))) (by omega) (by omega) (by omega) (by omega)]
    generalize ab (c - 5) = u at *
    rw [x_L_nameOf_14]
    simp (disch := omega) only [x_L_nameOf_15, x_L_nameOf_16, x_L_nameOf_19, x_L_nameOf_20, x_L_nameOf_22, x_L_nameOf_23, x_L_nameOf_24, x_L_nameOf_25, x_L_nameOf_28, x_L_nameOf_29, x_L_nameOf_30, x_L_nameOf_31, x_L_nameOf_34, List.length_cons, List.length_nil, Nat.reduceLeDiff, Nat.zero_add, iI_add, iI_sub, iI_mul, iI_neg, iI_lt, iI_le, iI_eq, jI_iI, B_True, B_False, B_t, B_f, ck_True, gd_True, cb_v, cb_n, p_mv_rw, p_fv_rw, p_rv_some, pA_1, pA_90, pA_92, pA_3, pA_5, pA_93, pA_4, pA_91, pA_6, pS_i, pB_i, pW_i, pZ_0, pZ_1, pZ_b, bI_e0, u1_s, u1_n, uA_s, uA_n, true_and, and_true, not_true_eq_false, not_false_eq_true, eq_self, iI_z, al1, al5, al3, al4, al90, al91, al92, al93, al6, Int.cast_ofNat_Int, Nat.reduceAdd, Int.reduceNeg, Int.reduceAdd, Int.reduceSub, Int.reduceMul, Int.reduceLT, Int.reduceLE, Int.reduceGT, Int.reduceGE, Int.reduceEq, Int.reduceNe, Nat.reduceEqDiff, Int.zero_add, Int.add_zero, p_ty0, p_ty1, p_ty2, p_ty3, p_ty4, p_ty5, p_ty8, p_ty9, p_ty10, a1, gd_t, ck_t, B_t, B_f]
/-- what only lays cells above -/
theorem SBx.ix {b0 b : Nat} (h : SBx T M F T1 M1 F1 a b n tx) (ha : b0 ≤ a) (hb : b0 ≤ b) (h0 : b0 ≤ T.1.1) : IX b0 T M F T1 M1 F1 := by
  obtain ⟨b', n', h1, h2, h3, h4, h5, h6, h7⟩ := h
  exact ⟨h6, fun c hc => ⟨h4.1 c (by omega) (by omega) (by omega), h4.2 c (by omega) (by omega)⟩⟩
theorem SBo.pl (h : SBo T M F a b n tx) : (100 ≤ a ∧ a < T.1.1) ∧ (100 ≤ b ∧ b < T.1.1) ∧ a ≠ b ∧ p_ty T a = (19, 4) := ⟨h.1, h.2.2.2.1, h.2.2.2.2.2.1, h.2.1⟩
theorem z_nameOf (h100 : 100 ≤ T.1.1) (hc : 0 ≤ c ∧ c < 91) : ∃ (T' : pT) (M' : pM) (F' : pF) (r : Nat), (∀ d, 7 ≤ d → callD d m_L_nameOf [.int (iI c)] T M F = some (.inl (some (.ref r)), T', M', F')) ∧ STx T' M' F' r (r + 1) (nmW c) ∧ (T.1.1 ≤ r ∧ r + 1 < T'.1.1) ∧ IX T.1.1 T M F T' M' F' ∧ T'.1.1 ≤ T.1.1 + 10 ∧ T'.1.2 ≤ T.1.2 + 60 := by
  obtain ⟨n1, n2, n3, n4, n5, n6⟩ := nm_ok hc
  have r1 := gxy_rg hc
  have k1 := (c1_pl1 hc).2.1
  have p1 := pl1_xy hc
  -- the builder
  obtain ⟨Ta, hTa⟩ : ∃ Ta : pT, Ta = p_new T 19 4 := ⟨_, rfl⟩
  have ya : s_mono T Ta := by rw [hTa]; exact s_mono.new
  have na : Ta.1.1 = T.1.1 + 1 := by rw [hTa]; rfl
  have sa : Ta.1.2 = T.1.2 + 4 := by rw [hTa]; rfl
  have ta : p_ty Ta T.1.1 = (19, 4) := by rw [hTa]; exact p_ty_nw h100
  obtain ⟨M2, F2, e2, B2, f2⟩ := jd_init (a := T.1.1) (T := Ta) (M := uA M T.1.1 (fun _ => 0)) (F := uA F T.1.1 (fun _ => none)) ⟨h100, na.symm⟩ ta uA_s uA_s
  obtain ⟨Tb, hTb⟩ : ∃ Tb : pT, Tb = p_new Ta 5 16 := ⟨_, rfl⟩
  have yb : s_mono Ta Tb := by rw [hTb]; exact s_mono.new
  have nb : Tb.1.1 = Ta.1.1 + 1 := by rw [hTb]; rfl
  have sb : Tb.1.2 = Ta.1.2 + 16 := by rw [hTb]; rfl
  rw [← hTb] at B2 e2
  obtain ⟨T3, M3, F3, e3, X3⟩ := jd_appC B2 (c := 97 + (gx c + 5)) (by omega) (by decide)
  have I3 := X3.ix (b0 := T.1.1) (Nat.le_refl _) (by omega) (by omega)
  obtain ⟨b3, m3, B3, q3, v3, -, -, y3, c3, d3⟩ := X3
  rw [List.nil_append] at B3 d3
  have w44 : STx T3 M3 F3 44 78 (p_roL 78) := STx.w (SW.k 14 (by omega))
  rw [show p_roL 78 = [] from rfl] at w44
  have a3 := B3.pl
  have nm3 := y3.1
  obtain ⟨T4, M4, F4, e4, X4⟩ := jd_appS B3 w44 ⟨by omega, by omega, by omega, by omega, by omega, by omega⟩ (by simp)
  have I4 := X4.ix (b0 := T.1.1) (Nat.le_refl _) (by omega) (by omega)
  obtain ⟨b4, m4, B4, q4, v4, -, -, y4, c4, d4⟩ := X4
  rw [List.append_nil] at B4 d4
  have nm4 := y4.1
  obtain ⟨T5, M5, F5, e5, X5⟩ := jd_appI B4 n4 (by simp)
  have I5 := X5.ix (b0 := T.1.1) (Nat.le_refl _) (by omega) (by omega)
  obtain ⟨b5, m5, B5, q5, v5, -, -, y5, c5, d5⟩ := X5
  have etx : [97 + (gx c + 5)] ++ nmD (num c) = nmW c := rfl
  rw [etx] at B5 d5
  have nm5 := y5.1
  obtain ⟨T6, M6, F6, e6, S6, y6, f6, c6, d6⟩ := jd_toS B5 (fun x hx => by have := n6 x hx; omega) (by omega)
  have l1 : ([97 + (gx c + 5)] : List Int).length = 1 := rfl
  rw [l1] at d3 d4
  refine ⟨T6, M6, F6, T5.1.1, fun d hd => ?_, S6, ⟨by omega, by omega⟩, ?_, by omega, by omega⟩
  · refine callD_go 6 hd rfl (fun e he => ?_)
    show R e m_L_nameOf 0 [.val (.int (iI c)), .unset, .unset, .unset] [] T M F = _
    have pl := z_placeOf (d := e) (T := T) (M := M) (F := F) hc (by omega)
    have d1 : iI (pl1 c) / iI 11 = iI (gx c + 5) := by rw [(idv11 (by omega)).1, p1.1]
    have e2 := e2 e (by omega)
    have e3 := e3 e (by omega)
    have e4 := e4 e (by omega)
    have e5 := e5 e (by omega)
    have e6 := e6 e (by omega)
    have t2 := B2.pl.2.2.2
    have t3 := B3.pl.2.2.2
    have t4 := B4.pl.2.2.2
    have t5 := B5.pl.2.2.2
    have hL := z_nmL e (by omega) (l0 := .val (.int (iI c))) (T := T) (M := M) (F := F) (col := gx c + 5) (by omega) (gx c + 5).toNat 0 (c + 1) (by omega) (by omega) (by omega) (by omega)
    have hi := i2c_id (x := 97 + (gx c + 5)) (by omega)
    rw [show R e m_L_nameOf 0 [.val (.int (iI c)), .unset, .unset, .unset] [] T M F = R e m_L_nameOf 14 [.val (.int (iI c)), .val (.int (iI (gx c + 5))), .val (.int (iI (c + 1))), .val (.int (iI 0))] [] T M F by
      clear hL e2 e3 e4 e5 e6 hi
      generalize gx c + 5 = col at *
      simp (disch := omega) only [x_L_nameOf_0, x_L_nameOf_1, x_L_nameOf_4, x_L_nameOf_6, x_L_nameOf_7, x_L_nameOf_8, x_L_nameOf_9, x_L_nameOf_10, x_L_nameOf_11, x_L_nameOf_12, x_L_nameOf_13, List.length_cons, List.length_nil, Nat.reduceLeDiff, Nat.zero_add, iI_add, iI_sub, iI_mul, iI_neg, iI_lt, iI_le, iI_eq, jI_iI, B_True, B_False, B_t, B_f, ck_True, gd_True, cb_v, cb_n, p_mv_rw, p_fv_rw, p_rv_some, pA_1, pA_90, pA_92, pA_3, pA_5, pA_93, pA_4, pA_91, pA_6, pS_i, pB_i, pW_i, pZ_0, pZ_1, pZ_b, bI_e0, u1_s, u1_n, uA_s, uA_n, true_and, and_true, not_true_eq_false, not_false_eq_true, eq_self, iI_z, al1, al5, al3, al4, al90, al91, al92, al93, al6, Int.cast_ofNat_Int, Nat.reduceAdd, Int.reduceNeg, Int.reduceAdd, Int.reduceSub, Int.reduceMul, Int.reduceLT, Int.reduceLE, Int.reduceGT, Int.reduceGE, Int.reduceEq, Int.reduceNe, Nat.reduceEqDiff, Int.zero_add, Int.add_zero, p_ty0, p_ty1, p_ty2, p_ty3, p_ty4, p_ty5, p_ty8, p_ty9, p_ty10, pl, d1, gd_t, ck_t, B_t, B_f]]
    rw [hL]
    obtain ⟨x6, t6⟩ := S6.1
    clear hL B2 B3 B4 B5 I3 I4 I5 S6 w44 f2 f6 pl
    rw [show nmf (gx c + 5).toNat 0 (c + 1) = num c from rfl]
    generalize num c = nu at *
    generalize gx c + 5 = col at *
    rw [hTa] at e2 ta
    simp (disch := omega) only [x_L_nameOf_37, x_L_nameOf_40, x_L_nameOf_41, x_L_nameOf_44, x_L_nameOf_46, x_L_nameOf_47, x_L_nameOf_48, x_L_nameOf_49, x_L_nameOf_52, x_L_nameOf_54, x_L_nameOf_57, x_L_nameOf_58, x_L_nameOf_61, x_L_nameOf_64, List.length_cons, List.length_nil, Nat.reduceLeDiff, Nat.zero_add, iI_add, iI_sub, iI_mul, iI_neg, iI_lt, iI_le, iI_eq, jI_iI, B_True, B_False, B_t, B_f, ck_True, gd_True, cb_v, cb_n, p_mv_rw, p_fv_rw, p_rv_some, pA_1, pA_90, pA_92, pA_3, pA_5, pA_93, pA_4, pA_91, pA_6, pS_i, pB_i, pW_i, pZ_0, pZ_1, pZ_b, bI_e0, u1_s, u1_n, uA_s, uA_n, true_and, and_true, not_true_eq_false, not_false_eq_true, eq_self, iI_z, al1, al5, al3, al4, al90, al91, al92, al93, al6, Int.cast_ofNat_Int, Nat.reduceAdd, Int.reduceNeg, Int.reduceAdd, Int.reduceSub, Int.reduceMul, Int.reduceLT, Int.reduceLE, Int.reduceGT, Int.reduceGE, Int.reduceEq, Int.reduceNe, Nat.reduceEqDiff, Int.zero_add, Int.add_zero, p_ty0, p_ty1, p_ty2, p_ty3, p_ty4, p_ty5, p_ty8, p_ty9, p_ty10, ta, t2, t3, t4, t5, t6, e2, e3, e4, e5, e6, hi, gd_t, ck_t, B_t, B_f]
  · refine ⟨ya.tr (yb.tr (y3.tr (y4.tr (y5.tr y6)))), fun c hc => ⟨?_, ?_⟩⟩
    · rw [(f6 c (by omega)).1, (I5.2 c hc).1, (I4.2 c hc).1, (I3.2 c hc).1, (f2 c (by omega) (by omega)).1, uA_n (by omega)]
    · rw [(f6 c (by omega)).2, (I5.2 c hc).2, (I4.2 c hc).2, (I3.2 c hc).2, (f2 c (by omega) (by omega)).2, uA_n (by omega)]
end PNAM
