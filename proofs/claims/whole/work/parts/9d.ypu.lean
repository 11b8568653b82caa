section PYPU
variable {d bd lg N lg1 N1 cs ss : Nat} {T T1 T2 : pT} {M M0 M1 M2 : pM} {F F1 F2 : pF} {bs bb : Int → Int} {z c x n1 w s t pas q er p : Int} {k i m n j : Nat} {S : GSx} {R' : List TKn}
def XTc (bd : Nat) : Nat → Prop := fun a => a = 127 ∨ a = bd ∨ a = 136 ∨ a = 137 ∨ a = 138
/-- the model while a game is taught -/
def YQ (T : pT) (M : pM) (F : pF) (bd lg N : Nat) (S : GSx) : Prop := YV T M F bd lg N S.2.2.2.2 ∧ YS M bd S.1 S.2.1 S.2.2.1 S.2.2.2.1
def YPR (T : pT) (M : pM) (F : pF) (bd lg N : Nat) (md : pC) (as : List Value) (D cs ss : Nat) (r : Int × Int × GSx) : Prop :=
  ∃ T' M' F' lg' N', (∀ d, D ≤ d → callD d md as T M F = some (.inl (some (.int (iI r.1))), T', M', F')) ∧ YQ T' M' F' bd lg' N' r.2.2 ∧ (0 ≤ r.1 ∧ r.1 ≤ 5) ∧ (r.1 ≠ 0 → M' 127 3 = r.2.1) ∧ (r.1 = 0 → M' 127 3 = M 127 3) ∧ (∀ j, j ≠ 3 → j ≠ 10 → j ≠ 11 → j ≠ 12 → j ≠ 14 → M' 127 j = M 127 j) ∧ YCs (XTc bd) cs ss T M F lg N T' M' F' lg' N'
theorem YQ.w3 (h : YQ T M F bd lg N S) : YQ T (uA M 127 (u1 (M 127) 3 p)) F bd lg N S := by
  obtain ⟨⟨a1, a2, a3, a4, a5, a6⟩, ⟨b1, b2, b3, b4, b5⟩⟩ := h
  obtain ⟨d0, d0', d1, d2, d3, d4⟩ := id a2
  have f : ∀ a, a ≠ 127 → uA M 127 (u1 (M 127) 3 p) a = M a := fun a ha => uA_n ha
  have g : ∀ j, j ≠ 3 → uA M 127 (u1 (M 127) 3 p) 127 j = M 127 j := fun j hj => by rw [uA_s, u1_n hj]
  refine ⟨⟨a1, a2, a3, ?_, a5, ?_⟩, ⟨?_, ?_, ?_, ?_, ?_⟩⟩
  · rw [f lg (by omega)]; exact a4
  · rw [g 14 (by omega)]; exact a6
  · unfold YG at *
    rw [f 129 (by omega), f 130 (by omega), f 131 (by omega), f 132 (by omega), f 133 (by omega)]
    exact b1
  · rw [f bd (by omega)]; exact b2
  · rw [g 10 (by omega)]; exact b3
  · rw [g 11 (by omega)]; exact b4
  · rw [g 12 (by omega)]; exact b5
/-- an error is told -/
theorem YPR.bad {md : pC} {v : List Value} {D : Nat} (hR : YR (XTc bd) bd S.2.2.2.2 S.1 S.2.1 S.2.2.1 S.2.2.2.1 T M F lg N T1 M1 F1 lg1 N1) (hgd : GD N N1) (he : 1 ≤ er ∧ er ≤ 5) (h : ∀ d, D ≤ d → callD d md v T M F = some (.inl (some (.int (iI er))), T1, uA M1 127 (u1 (M1 127) 3 p), F1)) : YPR T M F bd lg N md v D 0 0 (er, p, S) := by
  obtain ⟨V1, S1, j1, C1⟩ := hR
  refine ⟨T1, uA M1 127 (u1 (M1 127) 3 p), F1, lg1, N1, h, YQ.w3 ⟨V1, S1⟩, ⟨by show 0 ≤ er; omega, he.2⟩, fun _ => by rw [uA_s, u1_s], fun z => absurd z (by show ¬ er = 0; omega), fun j a1 a2 a3 a4 a5 => by rw [uA_s, u1_n a1]; exact j1 j a2 a3 a4 a5, (C1.tr (YC.wr (fun a ha => uA_n (fun z => ha (Or.inl z))))).sl hgd⟩
theorem SP.putS (hP : SP bb t pas q) (hs : s = 0 ∨ s = 1) (hx : 1 ≤ x ∧ x ≤ 6) (hc : 0 ≤ c ∧ c < 91) (h0 : bb c = 0) (hl : ¬ 20 ≤ sm (a_pc bb s) 91) (hk : ¬ (x = 1 ∧ m_king bb s ≠ -1)) : SP (u1 bb c (10 * s + x)) t (-1) 0 := by
  obtain ⟨hb, hu, h20, ht, hps, hq⟩ := hP
  refine ⟨fun k => ?_, fun s' hs' k y k0 k1 y0 y1 e1 e2 => ?_, h20.put hs hx hc h0 hl, ht, Or.inl rfl, by omega⟩
  · by_cases e : k = c
    · rw [e, u1_s]; omega
    · rw [u1_n e]; exact hb k
  · have hno : x = 1 → ∀ j, 0 ≤ j → j < 91 → bb j ≠ 10 * s + 1 := fun z j j0 j1 => by
      have h9 : m_king bb s = -1 := by
        refine Classical.byContradiction (fun y => hk ⟨z, y⟩)
      exact m_kg_no 91 0 h9 (by omega) j j0 (by omega)
    by_cases z1 : k = c
    · by_cases z2 : y = c
      · rw [z1, z2]
      · rw [z1, u1_s] at e1
        rw [u1_n z2] at e2
        have hx1 : x = 1 ∧ s' = s := by omega
        exact absurd (by rw [← hx1.2]; exact e2) (hno hx1.1 y y0 y1)
    · by_cases z2 : y = c
      · rw [z2, u1_s] at e2
        rw [u1_n z1] at e1
        have hx1 : x = 1 ∧ s' = s := by omega
        exact absurd (by rw [← hx1.2]; exact e1) (hno hx1.1 k k0 k1)
      · rw [u1_n z1] at e1
        rw [u1_n z2] at e2
        exact hu s' hs' k y k0 k1 y0 y1 e1 e2
theorem kd_kc (hj : kcn bs z j < 22) : kcn bs z j = mcd (tkn bs z j).2.1 := (kcn_lt hj).2.2
theorem y_put {x1 x2 x3 : TKn} (hQ : YQ T M F bd lg N S) (hP : SPx S) (hz : ZB S.1) (hK : TKM M bs z m) (hT : YTp M bs z) (hi : i + 4 ≤ m) (e1 : x1 = tkn bs z (i + 1)) (e2 : x2 = tkn bs z (i + 2)) (e3 : x3 = tkn bs z (i + 3)) (k1 : x1.2.1 = 5 ∨ x1.2.1 = 6) (k2 : 7 ≤ x2.2.1 ∧ x2.2.1 ≤ 12) (k3 : x3.2.1 = 14) :
    YPR T M F bd lg N m_X8_put [.ref 127, .int (iI (i : Int))] 5 0 0 (d_put (x1 :: x2 :: x3 :: R') S) := by
  have hQ0 := hQ
  obtain ⟨hV, hS⟩ := hQ
  have hY := hV.1
  have hD := hV.2.1
  obtain ⟨d0, d0', d1, d2, d3, d4⟩ := id hD
  have hm := hK.1
  have tk := hK.2.2.2.1
  have many := hK.2.2.2.2
  have hlt := hK.2.2.1
  have c1 := kd_kc (hlt (i + 1) (by omega))
  have c2 := kd_kc (hlt (i + 2) (by omega))
  have c3 := kd_kc (hlt (i + 3) (by omega))
  rw [← e1] at c1
  rw [← e2] at c2
  rw [← e3] at c3
  have hs : knum x1.2.1 = 0 ∨ knum x1.2.1 = 1 := by
    rcases k1 with e | e <;> rw [e]
    · exact Or.inl rfl
    · exact Or.inr rfl
  have n1 : kcn bs z (i + 1) = knum x1.2.1 + 5 := by
    rw [c1]; rcases k1 with e | e <;> rw [e] <;> rfl
  have hx : 1 ≤ knum x2.2.1 ∧ knum x2.2.1 ≤ 6 := by
    unfold knum
    rw [if_neg (by omega), if_neg (by omega), if_pos (by omega)]
    omega
  have n2 : kcn bs z (i + 2) = knum x2.2.1 + 6 := by
    rw [c2]; unfold mcd knum
    rw [if_pos (by omega), if_neg (by omega), if_neg (by omega), if_pos (by omega)]
    omega
  have a1 := (tk (i + 1) (by omega)).2
  have a2 := (tk (i + 2) (by omega)).2
  rw [n1] at a1
  rw [n2] at a2
  have g1 := (tk (i + 1) (by omega)).1
  have g2 := (tk (i + 2) (by omega)).1
  have g3 := (tk (i + 3) (by omega)).1
  have p1 : spn bs z (i + 1) = x1.1 := by rw [e1]; rfl
  have p2 : spn bs z (i + 2) = x2.1 := by rw [e2]; rfl
  have p3 : spn bs z (i + 3) = x3.1 := by rw [e3]; rfl
  have sp3 := (kcn_lt (hlt (i + 3) (by omega))).1
  have sp1 := (kcn_lt (hlt (i + 1) (by omega))).1
  have sp2 := (kcn_lt (hlt (i + 2) (by omega))).1
  have z0 := fun j => spn_rg (bs := bs) hT.2.2.1 j
  have hz2 := hT.2.2.1
  have w3 := many (i + 3) (by omega)
  have hE := t_end_rg (bs := bs) (p := spn bs z (i + 3)) (z := z) ⟨z0 _, sp3⟩
  have hL : t_L (t_b bs z (spn bs z (i + 3))) := by
    have h14 : t_kd bs z (spn bs z (i + 3)) (t_end bs z (spn bs z (i + 3))) = 14 := by rw [e3] at k3; exact k3
    have hc := kd_code (bs := bs) (p := spn bs z (i + 3)) (z := z) ⟨z0 _, sp3⟩
    rw [h14] at hc
    refine Classical.byContradiction (fun q => ?_)
    rw [if_neg q] at hc
    have : mcd 14 = 20 := rfl
    rw [this] at hc
    split at hc <;> omega
  have nm := fun e (he : 3 ≤ e) => y_named (d := e) (j := i + 3) hY hS.1 hT (z0 _) hE hL (by omega) g3 w3 he
  have t3 : t_cs bs z (spn bs z (i + 3)) (t_end bs z (spn bs z (i + 3))) = x3.2.2 := by rw [e3]; rfl
  rw [t3] at nm
  have hb := hP.1.1
  have s1 := hS.2.1
  have s10 := hS.2.2.1
  have ht := hP.1.2.2.2.1
  have hpc := fun e (he : 3 ≤ e) => y_piecesOf (d := e) (s := knum x1.2.1) hY hb s1 hs (by omega)
  have hpr : 0 ≤ sm (a_pc S.1 (knum x1.2.1)) 91 ∧ sm (a_pc S.1 (knum x1.2.1)) 91 ≤ 91 := by
    have := sm_rg (f := a_pc S.1 (knum x1.2.1)) (a := 0) (b := 1) (fun i => bI_rg _) 91
    omega
  have hkg := fun e (he : 3 ≤ e) => y_kingOf (d := e) (M := M) (s := knum x1.2.1) hY (by rw [s1]; exact hb) (by omega) hs
  rw [s1] at hkg
  have hkr := m_king_rg S.1 (knum x1.2.1)
  have b1 := fun er (he : 0 ≤ er ∧ er ≤ 10) e (h2 : 3 ≤ e) => y_wrong (d := e) (er := er) (j := i + 1) hY (by omega) g1 (by have := z0 (i + 1); omega) he (by omega)
  have b2 := fun er (he : 0 ≤ er ∧ er ≤ 10) e (h2 : 3 ≤ e) => y_wrong (d := e) (er := er) (j := i + 2) hY (by omega) g2 (by have := z0 (i + 2); omega) he (by omega)
  have b3 := fun er (he : 0 ≤ er ∧ er ≤ 10) e (h2 : 3 ≤ e) => y_wrong (d := e) (er := er) (j := i + 3) hY (by omega) g3 (by have := z0 (i + 3); omega) he (by omega)
  rw [p1] at b1
  rw [p2] at b2
  rw [p3] at b3
  have e1' : (i : Int) + 1 = ((i + 1 : Nat) : Int) := by omega
  have e2' : (i : Int) + 2 = ((i + 2 : Nat) : Int) := by omega
  have e3' : (i : Int) + 3 = ((i + 3 : Nat) : Int) := by omega
  have d0' : (x1 :: x2 :: x3 :: R').getD 0 tk0 = x1 := rfl
  have d1' : (x1 :: x2 :: x3 :: R').getD 1 tk0 = x2 := rfl
  have d2' : (x1 :: x2 :: x3 :: R').getD 2 tk0 = x3 := rfl
  have rf : YR (XTc bd) bd S.2.2.2.2 S.1 S.2.1 S.2.2.1 S.2.2.2.1 T M F lg N T M F lg N := YR.rf hV hS
  have ty := hY
  obtain ⟨ty127, ty128, fy1, ty129, fy4, ty130, fy5, ty131, fy6, ty132, fy7, ty133, fy8, ty136, fy15, ty137, fy16, ty138, fy17, ty139, fy18, ty140, fy19, ty141, fy20, ty142, fy21, ty143, fy22, hbd, tybd, fy9, hlg, tylg, fy13, hN⟩ := ty
  have e5 : knum x1.2.1 + 5 - 5 = knum x1.2.1 := by omega
  have e6 : knum x2.2.1 + 6 - 7 + 1 = knum x2.2.1 := by omega
  have ocs : -1 ≤ x3.2.2 ∧ x3.2.2 < 91 := by rw [← t3]; exact t_cs_rg hT.2.2.2
  unfold d_put
  rw [d0', d1', d2']
  by_cases q1 : 20 ≤ sm (a_pc S.1 (knum x1.2.1)) 91
  · rw [if_pos q1]
    refine YPR.bad rf GD.rf (by omega) (fun d hd => ?_)
    refine callD_go 4 hd rfl (fun e he => ?_)
    show R e m_X8_put 0 [.val (.ref 127), .val (.int (iI (i : Int))), .unset, .unset, .unset] [] T M F = _
    have hpc := hpc e (by omega)
    have b1 := b1 4 (by omega) e (by omega)
    clear hQ0 hV hS hP hz hK hT hD rf nm hkg b2 b3 hY many tk hlt hb z0 hL
    simp (disch := omega) only [x_X8_put_0, x_X8_put_1, x_X8_put_4, x_X8_put_5, x_X8_put_6, x_X8_put_7, x_X8_put_8, x_X8_put_9, x_X8_put_10, x_X8_put_11, x_X8_put_12, x_X8_put_15, x_X8_put_16, x_X8_put_17, x_X8_put_18, x_X8_put_19, x_X8_put_21, x_X8_put_22, x_X8_put_23, x_X8_put_24, x_X8_put_25, x_X8_put_26, x_X8_put_27, x_X8_put_30, x_X8_put_32, x_X8_put_35, x_X8_put_36, x_X8_put_37, x_X8_put_38, x_X8_put_39, x_X8_put_40, x_X8_put_43, List.length_cons, List.length_nil, Nat.reduceLeDiff, Nat.zero_add, iI_add, iI_sub, iI_mul, iI_neg, iI_lt, iI_le, iI_eq, jI_iI, B_True, B_False, B_t, B_f, ck_True, gd_True, cb_v, cb_n, p_mv_rw, p_fv_rw, p_rv_some, pA_1, pA_90, pA_92, pA_3, pA_2, pA_93, pA_4, pA_91, pA_95, pS_i, pW_i, pZ_0, pZ_1, pZ_b, bI_e0, u1_s, u1_n, uA_s, uA_n, true_and, and_true, not_true_eq_false, not_false_eq_true, eq_self, iI_z, al1, al2, al3, al4, al90, al91, al92, al93, al95, Int.cast_ofNat_Int, Nat.reduceAdd, Int.reduceNeg, Int.reduceAdd, Int.reduceSub, Int.reduceMul, Int.reduceLT, Int.reduceLE, Int.reduceGT, Int.reduceGE, Int.reduceEq, Int.reduceNe, Nat.reduceEqDiff, Int.zero_add, Int.add_zero, p_ty0, p_ty1, p_ty2, p_ty3, p_ty4, p_ty5, p_ty6, p_ty7, p_ty8, p_ty9, p_ty10, p_ty11, ty127, ty128, fy1, ty129, fy4, ty130, fy5, ty131, fy6, ty132, fy7, ty133, fy8, ty136, fy15, ty137, fy16, ty138, fy17, ty139, fy18, ty140, fy19, ty141, fy20, ty142, fy21, ty143, fy22, tybd, fy9, tylg, fy13, a1, a2, e1', e2', e5, e6, hpc, b1, gd_t, B_t, B_f]
  rw [if_neg q1]
  by_cases q2 : knum x2.2.1 = 1 ∧ m_king S.1 (knum x1.2.1) ≠ -1
  · rw [if_pos q2]
    refine YPR.bad rf GD.rf (by omega) (fun d hd => ?_)
    refine callD_go 4 hd rfl (fun e he => ?_)
    show R e m_X8_put 0 [.val (.ref 127), .val (.int (iI (i : Int))), .unset, .unset, .unset] [] T M F = _
    have hpc := hpc e (by omega)
    have hkg := hkg e (by omega)
    have b2 := b2 3 (by omega) e (by omega)
    obtain ⟨q2, q2'⟩ := q2
    rw [q2] at a2 e6
    clear hQ0 hV hS hP hz hK hT hD rf nm b1 b3 hY many tk hlt hb z0 hL
    simp (disch := omega) only [x_X8_put_0, x_X8_put_1, x_X8_put_4, x_X8_put_5, x_X8_put_6, x_X8_put_7, x_X8_put_8, x_X8_put_9, x_X8_put_10, x_X8_put_11, x_X8_put_12, x_X8_put_15, x_X8_put_16, x_X8_put_17, x_X8_put_18, x_X8_put_19, x_X8_put_21, x_X8_put_22, x_X8_put_23, x_X8_put_24, x_X8_put_25, x_X8_put_26, x_X8_put_27, x_X8_put_30, x_X8_put_32, x_X8_put_35, x_X8_put_36, x_X8_put_37, x_X8_put_38, x_X8_put_39, x_X8_put_40, x_X8_put_43, x_X8_put_44, x_X8_put_45, x_X8_put_46, x_X8_put_49, x_X8_put_50, x_X8_put_51, x_X8_put_54, x_X8_put_55, x_X8_put_58, x_X8_put_59, x_X8_put_60, x_X8_put_61, x_X8_put_62, x_X8_put_63, x_X8_put_66, List.length_cons, List.length_nil, Nat.reduceLeDiff, Nat.zero_add, iI_add, iI_sub, iI_mul, iI_neg, iI_lt, iI_le, iI_eq, jI_iI, B_True, B_False, B_t, B_f, ck_True, gd_True, cb_v, cb_n, p_mv_rw, p_fv_rw, p_rv_some, pA_1, pA_90, pA_92, pA_3, pA_2, pA_93, pA_4, pA_91, pA_95, pS_i, pW_i, pZ_0, pZ_1, pZ_b, bI_e0, u1_s, u1_n, uA_s, uA_n, true_and, and_true, not_true_eq_false, not_false_eq_true, eq_self, iI_z, al1, al2, al3, al4, al90, al91, al92, al93, al95, Int.cast_ofNat_Int, Nat.reduceAdd, Int.reduceNeg, Int.reduceAdd, Int.reduceSub, Int.reduceMul, Int.reduceLT, Int.reduceLE, Int.reduceGT, Int.reduceGE, Int.reduceEq, Int.reduceNe, Nat.reduceEqDiff, Int.zero_add, Int.add_zero, p_ty0, p_ty1, p_ty2, p_ty3, p_ty4, p_ty5, p_ty6, p_ty7, p_ty8, p_ty9, p_ty10, p_ty11, ty127, ty128, fy1, ty129, fy4, ty130, fy5, ty131, fy6, ty132, fy7, ty133, fy8, ty136, fy15, ty137, fy16, ty138, fy17, ty139, fy18, ty140, fy19, ty141, fy20, ty142, fy21, ty143, fy22, tybd, fy9, tylg, fy13, a1, a2, e1', e2', e5, hpc, hkg, b2, gd_t, B_t, B_f]
  rw [if_neg q2]
  have pre : ∀ e, 4 ≤ e → R e m_X8_put 0 [.val (.ref 127), .val (.int (iI (i : Int))), .unset, .unset, .unset] [] T M F = R e m_X8_put 76 [.val (.ref 127), .val (.int (iI (i : Int))), .val (.int (iI (knum x1.2.1))), .val (.int (iI (knum x2.2.1))), .val (.int (iI x3.2.2))] [] T M F := by
    intro e he
    have hpc := hpc e (by omega)
    have hkg := hkg e (by omega)
    have nm := nm e (by omega)
    clear hQ0 hV hS hP hz hK hT hD rf b1 b2 b3 hY many tk hlt hb z0 hL
    by_cases q3 : knum x2.2.1 = 1
    · have q4 : m_king S.1 (knum x1.2.1) = -1 := Classical.byContradiction (fun z => q2 ⟨q3, z⟩)
      rw [q4] at hkg
      simp (disch := omega) only [x_X8_put_0, x_X8_put_1, x_X8_put_4, x_X8_put_5, x_X8_put_6, x_X8_put_7, x_X8_put_8, x_X8_put_9, x_X8_put_10, x_X8_put_11, x_X8_put_12, x_X8_put_15, x_X8_put_16, x_X8_put_17, x_X8_put_18, x_X8_put_19, x_X8_put_21, x_X8_put_22, x_X8_put_23, x_X8_put_24, x_X8_put_25, x_X8_put_26, x_X8_put_27, x_X8_put_30, x_X8_put_32, x_X8_put_35, x_X8_put_36, x_X8_put_37, x_X8_put_38, x_X8_put_39, x_X8_put_40, x_X8_put_43, x_X8_put_44, x_X8_put_45, x_X8_put_46, x_X8_put_49, x_X8_put_50, x_X8_put_51, x_X8_put_54, x_X8_put_55, x_X8_put_58, x_X8_put_59, x_X8_put_60, x_X8_put_61, x_X8_put_62, x_X8_put_63, x_X8_put_66, x_X8_put_67, x_X8_put_68, x_X8_put_69, x_X8_put_70, x_X8_put_71, x_X8_put_74, List.length_cons, List.length_nil, Nat.reduceLeDiff, Nat.zero_add, iI_add, iI_sub, iI_mul, iI_neg, iI_lt, iI_le, iI_eq, jI_iI, B_True, B_False, B_t, B_f, ck_True, gd_True, cb_v, cb_n, p_mv_rw, p_fv_rw, p_rv_some, pA_1, pA_90, pA_92, pA_3, pA_2, pA_93, pA_4, pA_91, pA_95, pS_i, pW_i, pZ_0, pZ_1, pZ_b, bI_e0, u1_s, u1_n, uA_s, uA_n, true_and, and_true, not_true_eq_false, not_false_eq_true, eq_self, iI_z, al1, al2, al3, al4, al90, al91, al92, al93, al95, Int.cast_ofNat_Int, Nat.reduceAdd, Int.reduceNeg, Int.reduceAdd, Int.reduceSub, Int.reduceMul, Int.reduceLT, Int.reduceLE, Int.reduceGT, Int.reduceGE, Int.reduceEq, Int.reduceNe, Nat.reduceEqDiff, Int.zero_add, Int.add_zero, p_ty0, p_ty1, p_ty2, p_ty3, p_ty4, p_ty5, p_ty6, p_ty7, p_ty8, p_ty9, p_ty10, p_ty11, ty127, ty128, fy1, ty129, fy4, ty130, fy5, ty131, fy6, ty132, fy7, ty133, fy8, ty136, fy15, ty137, fy16, ty138, fy17, ty139, fy18, ty140, fy19, ty141, fy20, ty142, fy21, ty143, fy22, tybd, fy9, tylg, fy13, a1, a2, e1', e2', e3', e5, e6, hpc, hkg, nm, gd_t, B_t, B_f]
    · simp (disch := omega) only [x_X8_put_0, x_X8_put_1, x_X8_put_4, x_X8_put_5, x_X8_put_6, x_X8_put_7, x_X8_put_8, x_X8_put_9, x_X8_put_10, x_X8_put_11, x_X8_put_12, x_X8_put_15, x_X8_put_16, x_X8_put_17, x_X8_put_18, x_X8_put_19, x_X8_put_21, x_X8_put_22, x_X8_put_23, x_X8_put_24, x_X8_put_25, x_X8_put_26, x_X8_put_27, x_X8_put_30, x_X8_put_32, x_X8_put_35, x_X8_put_36, x_X8_put_37, x_X8_put_38, x_X8_put_39, x_X8_put_40, x_X8_put_43, x_X8_put_44, x_X8_put_45, x_X8_put_46, x_X8_put_49, x_X8_put_50, x_X8_put_51, x_X8_put_54, x_X8_put_55, x_X8_put_58, x_X8_put_59, x_X8_put_60, x_X8_put_61, x_X8_put_62, x_X8_put_63, x_X8_put_66, x_X8_put_67, x_X8_put_68, x_X8_put_69, x_X8_put_70, x_X8_put_71, x_X8_put_74, List.length_cons, List.length_nil, Nat.reduceLeDiff, Nat.zero_add, iI_add, iI_sub, iI_mul, iI_neg, iI_lt, iI_le, iI_eq, jI_iI, B_True, B_False, B_t, B_f, ck_True, gd_True, cb_v, cb_n, p_mv_rw, p_fv_rw, p_rv_some, pA_1, pA_90, pA_92, pA_3, pA_2, pA_93, pA_4, pA_91, pA_95, pS_i, pW_i, pZ_0, pZ_1, pZ_b, bI_e0, u1_s, u1_n, uA_s, uA_n, true_and, and_true, not_true_eq_false, not_false_eq_true, eq_self, iI_z, al1, al2, al3, al4, al90, al91, al92, al93, al95, Int.cast_ofNat_Int, Nat.reduceAdd, Int.reduceNeg, Int.reduceAdd, Int.reduceSub, Int.reduceMul, Int.reduceLT, Int.reduceLE, Int.reduceGT, Int.reduceGE, Int.reduceEq, Int.reduceNe, Nat.reduceEqDiff, Int.zero_add, Int.add_zero, p_ty0, p_ty1, p_ty2, p_ty3, p_ty4, p_ty5, p_ty6, p_ty7, p_ty8, p_ty9, p_ty10, p_ty11, ty127, ty128, fy1, ty129, fy4, ty130, fy5, ty131, fy6, ty132, fy7, ty133, fy8, ty136, fy15, ty137, fy16, ty138, fy17, ty139, fy18, ty140, fy19, ty141, fy20, ty142, fy21, ty143, fy22, tybd, fy9, tylg, fy13, a1, a2, e1', e2', e3', e5, e6, hpc, nm, gd_t, B_t, B_f]
  by_cases q5 : x3.2.2 = -1
  · rw [if_pos q5]
    refine YPR.bad rf GD.rf (by omega) (fun d hd => ?_)
    refine callD_go 4 hd rfl (fun e he => ?_)
    show R e m_X8_put 0 [.val (.ref 127), .val (.int (iI (i : Int))), .unset, .unset, .unset] [] T M F = _
    rw [pre e he, q5]
    have b3 := b3 2 (by omega) e (by omega)
    clear hQ0 hV hS hP hz hK hT hD rf nm b1 b2 hY many tk hlt hb z0 hL hpc hkg pre
    simp (disch := omega) only [x_X8_put_76, x_X8_put_78, x_X8_put_79, x_X8_put_82, x_X8_put_83, x_X8_put_84, x_X8_put_85, x_X8_put_86, x_X8_put_87, x_X8_put_90, List.length_cons, List.length_nil, Nat.reduceLeDiff, Nat.zero_add, iI_add, iI_sub, iI_mul, iI_neg, iI_lt, iI_le, iI_eq, jI_iI, B_True, B_False, B_t, B_f, ck_True, gd_True, cb_v, cb_n, p_mv_rw, p_fv_rw, p_rv_some, pA_1, pA_90, pA_92, pA_3, pA_2, pA_93, pA_4, pA_91, pA_95, pS_i, pW_i, pZ_0, pZ_1, pZ_b, bI_e0, u1_s, u1_n, uA_s, uA_n, true_and, and_true, not_true_eq_false, not_false_eq_true, eq_self, iI_z, al1, al2, al3, al4, al90, al91, al92, al93, al95, Int.cast_ofNat_Int, Nat.reduceAdd, Int.reduceNeg, Int.reduceAdd, Int.reduceSub, Int.reduceMul, Int.reduceLT, Int.reduceLE, Int.reduceGT, Int.reduceGE, Int.reduceEq, Int.reduceNe, Nat.reduceEqDiff, Int.zero_add, Int.add_zero, p_ty0, p_ty1, p_ty2, p_ty3, p_ty4, p_ty5, p_ty6, p_ty7, p_ty8, p_ty9, p_ty10, p_ty11, ty127, e3', b3, gd_t, B_t, B_f]
  rw [if_neg q5]
  by_cases q6 : S.1 x3.2.2 = 0
  · rw [if_neg (fun q => q q6)]
    obtain ⟨M1, hM1⟩ : ∃ M1 : pM, M1 = uA M bd (u1 S.1 x3.2.2 (10 * knum x1.2.1 + knum x2.2.1)) := ⟨_, rfl⟩
    have f1 : ∀ a, a ≠ 127 → a ≠ bd → y_bg M1 S.2.1 a = M a := fun a h1 h2 => by unfold y_bg; rw [uA_n h1, hM1, uA_n h2]
    have f127 : y_bg M1 S.2.1 127 = u1 (u1 (u1 (u1 (M 127) 14 0) 11 (-1)) 12 0) 10 S.2.1 := by unfold y_bg; rw [uA_s, hM1, uA_n (by omega)]
    refine ⟨T, y_bg M1 S.2.1, F, lg, N, fun d hd => ?_, ⟨⟨hY, hD, hV.2.2.1, trivial, by show 7 * 0 ≤ N; omega, ?_⟩, ⟨?_, ?_, ?_, ?_, ?_⟩⟩, ⟨Int.le_refl _, by show (0 : Int) ≤ 5; omega⟩, fun q => absurd rfl q, fun _ => ?_, fun j j3 j10 j11 j12 j14 => ?_, (YC.wr (fun a ha => f1 a (fun z => ha (Or.inl z)) (fun z => ha (Or.inr (Or.inl z))))).sl GD.rf⟩
    · refine callD_go 4 hd rfl (fun e he => ?_)
      show R e m_X8_put 0 [.val (.ref 127), .val (.int (iI (i : Int))), .unset, .unset, .unset] [] T M F = _
      rw [pre e he]
      have hbg := y_begin (d := e) (M := M1) (F := F) (s := S.2.1) hY.1 ht (by omega)
      have m10 : M1 127 10 = S.2.1 := by rw [hM1, uA_n (by omega)]; exact s10
      rw [hM1] at hbg m10
      show _ = (some (.inl (some (.int (iI 0))), T, y_bg M1 S.2.1, F) : Option pR)
      rw [hM1]
      clear hQ0 hV hS hP hz hK hT hD rf nm b1 b2 b3 hY many tk hlt hb z0 hL hpc hkg pre f1 f127 hM1
      simp (disch := omega) only [x_X8_put_76, x_X8_put_78, x_X8_put_79, x_X8_put_82, x_X8_put_83, x_X8_put_84, x_X8_put_85, x_X8_put_86, x_X8_put_87, x_X8_put_90, x_X8_put_91, x_X8_put_92, x_X8_put_95, x_X8_put_97, x_X8_put_98, x_X8_put_101, x_X8_put_102, x_X8_put_103, x_X8_put_104, x_X8_put_105, x_X8_put_106, x_X8_put_109, x_X8_put_110, x_X8_put_111, x_X8_put_114, x_X8_put_116, x_X8_put_118, x_X8_put_119, x_X8_put_120, x_X8_put_121, x_X8_put_122, x_X8_put_123, x_X8_put_124, x_X8_put_125, x_X8_put_128, x_X8_put_131, x_X8_put_132, List.length_cons, List.length_nil, Nat.reduceLeDiff, Nat.zero_add, iI_add, iI_sub, iI_mul, iI_neg, iI_lt, iI_le, iI_eq, jI_iI, B_True, B_False, B_t, B_f, ck_True, gd_True, cb_v, cb_n, p_mv_rw, p_fv_rw, p_rv_some, pA_1, pA_90, pA_92, pA_3, pA_2, pA_93, pA_4, pA_91, pA_95, pS_i, pW_i, pZ_0, pZ_1, pZ_b, bI_e0, u1_s, u1_n, uA_s, uA_n, true_and, and_true, not_true_eq_false, not_false_eq_true, eq_self, iI_z, al1, al2, al3, al4, al90, al91, al92, al93, al95, Int.cast_ofNat_Int, Nat.reduceAdd, Int.reduceNeg, Int.reduceAdd, Int.reduceSub, Int.reduceMul, Int.reduceLT, Int.reduceLE, Int.reduceGT, Int.reduceGE, Int.reduceEq, Int.reduceNe, Nat.reduceEqDiff, Int.zero_add, Int.add_zero, p_ty0, p_ty1, p_ty2, p_ty3, p_ty4, p_ty5, p_ty6, p_ty7, p_ty8, p_ty9, p_ty10, p_ty11, ty127, ty128, fy1, ty129, fy4, ty130, fy5, ty131, fy6, ty132, fy7, ty133, fy8, ty136, fy15, ty137, fy16, ty138, fy17, ty139, fy18, ty140, fy19, ty141, fy20, ty142, fy21, ty143, fy22, tybd, fy9, tylg, fy13, s1, q6, hbg, m10, gd_t, B_t, B_f]
    · rw [f127, u1_n (by omega), u1_n (by omega), u1_n (by omega), u1_s]; rfl
    · exact hS.1.brd d0 (fun a h1 h2 => f1 a h2 h1)
    · unfold y_bg; rw [uA_n (by omega), hM1, uA_s]
    · rw [f127, u1_s]
    · rw [f127, u1_n (by omega), u1_n (by omega), u1_s]
    · rw [f127, u1_n (by omega), u1_s]
    · rw [f127, u1_n (by omega), u1_n (by omega), u1_n (by omega), u1_n (by omega)]
    · rw [f127, u1_n j10, u1_n j12, u1_n j11, u1_n j14]
  · rw [if_pos q6]
    refine YPR.bad rf GD.rf (by omega) (fun d hd => ?_)
    refine callD_go 4 hd rfl (fun e he => ?_)
    show R e m_X8_put 0 [.val (.ref 127), .val (.int (iI (i : Int))), .unset, .unset, .unset] [] T M F = _
    rw [pre e he]
    have b3 := b3 3 (by omega) e (by omega)
    have hbc := hb x3.2.2
    clear hQ0 hV hS hP hz hK hT hD rf nm b1 b2 hY many tk hlt hb z0 hL hpc hkg pre
    simp (disch := omega) only [x_X8_put_76, x_X8_put_78, x_X8_put_79, x_X8_put_82, x_X8_put_83, x_X8_put_84, x_X8_put_85, x_X8_put_86, x_X8_put_87, x_X8_put_90, x_X8_put_91, x_X8_put_92, x_X8_put_95, x_X8_put_97, x_X8_put_98, x_X8_put_101, x_X8_put_102, x_X8_put_103, x_X8_put_104, x_X8_put_105, x_X8_put_106, x_X8_put_109, List.length_cons, List.length_nil, Nat.reduceLeDiff, Nat.zero_add, iI_add, iI_sub, iI_mul, iI_neg, iI_lt, iI_le, iI_eq, jI_iI, B_True, B_False, B_t, B_f, ck_True, gd_True, cb_v, cb_n, p_mv_rw, p_fv_rw, p_rv_some, pA_1, pA_90, pA_92, pA_3, pA_2, pA_93, pA_4, pA_91, pA_95, pS_i, pW_i, pZ_0, pZ_1, pZ_b, bI_e0, u1_s, u1_n, uA_s, uA_n, true_and, and_true, not_true_eq_false, not_false_eq_true, eq_self, iI_z, al1, al2, al3, al4, al90, al91, al92, al93, al95, Int.cast_ofNat_Int, Nat.reduceAdd, Int.reduceNeg, Int.reduceAdd, Int.reduceSub, Int.reduceMul, Int.reduceLT, Int.reduceLE, Int.reduceGT, Int.reduceGE, Int.reduceEq, Int.reduceNe, Nat.reduceEqDiff, Int.zero_add, Int.add_zero, p_ty0, p_ty1, p_ty2, p_ty3, p_ty4, p_ty5, p_ty6, p_ty7, p_ty8, p_ty9, p_ty10, p_ty11, ty127, ty128, fy1, ty129, fy4, ty130, fy5, ty131, fy6, ty132, fy7, ty133, fy8, ty136, fy15, ty137, fy16, ty138, fy17, ty139, fy18, ty140, fy19, ty141, fy20, ty142, fy21, ty143, fy22, tybd, fy9, tylg, fy13, s1, e3', b3, gd_t, B_t, B_f]
end PYPU
