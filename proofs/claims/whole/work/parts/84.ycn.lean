section PYCN
variable {d bd lg N lg1 N1 : Nat} {T T1 : pT} {M M0 M1 M2 : pM} {F F1 : pF} {bb v w : Int → Int} {t pas q its to as p n i c s x k a b z acc : Int} {H : List HE} {A L : List Int} {io : Nat} {S : GSx}
theorem y_worthOf (hY : YT T F bd lg N) (hb : MB bb) (s1 : M bd = bb) (hs : s = 0 ∨ s = 1) (hd : 2 ≤ d) : callD d m_X8_worthOf [.ref 127, .int (iI s)] T M F = some (.inl (some (.int (iI (sm (a_wo bb s) 91)))), T, M, F) := by
  refine callD_go 1 hd rfl (fun e he => ?_)
  show R e m_X8_worthOf 0 [.val (.ref 127), .val (.int (iI s)), .unset, .unset, .unset, .unset, .unset] [] T M F = _
  obtain ⟨ty127, ty128, fy1, ty129, fy4, ty130, fy5, ty131, fy6, ty132, fy7, ty133, fy8, ty136, fy15, ty137, fy16, ty138, fy17, ty139, fy18, ty140, fy19, ty141, fy20, ty142, fy21, ty143, fy22, hbd, tybd, fy9, hlg, tylg, fy13, hN⟩ := hY
  have key : ∀ (n : Nat) (k : Int) (l6 : Slot), k = 91 - (n : Int) → 0 ≤ k → R e m_X8_worthOf 14 [.val (.ref 127), .val (.int (iI s)), .val (.int (iI (sm (a_wo bb s) k.toNat))), .val (.ref bd), .val (.int (iI 91)), .val (.int (iI k)), l6] [] T M F = some (.inl (some (.int (iI (sm (a_wo bb s) 91)))), T, M, F) := by
    intro n
    induction n with
    | zero =>
      intro k l6 hk h0
      obtain rfl : k = 91 := by omega
      simp (disch := omega) only [x_X8_worthOf_14, x_X8_worthOf_16, x_X8_worthOf_18, x_X8_worthOf_57, x_X8_worthOf_58, List.length_cons, List.length_nil, Nat.reduceLeDiff, Nat.zero_add, iI_add, iI_sub, iI_mul, iI_neg, iI_lt, iI_le, iI_eq, jI_iI, B_True, B_False, B_t, B_f, ck_True, gd_True, cb_v, cb_n, p_mv_rw, p_fv_rw, p_rv_some, pA_1, pA_90, pA_92, pA_3, pA_2, pA_93, pA_4, pA_91, pA_95, pS_i, pW_i, pZ_0, pZ_1, pZ_b, bI_e0, u1_s, u1_n, uA_s, uA_n, true_and, and_true, not_true_eq_false, not_false_eq_true, eq_self, iI_z, al1, al2, al3, al4, al90, al91, al92, al93, al95, Int.cast_ofNat_Int, Nat.reduceAdd, Int.reduceNeg, Int.reduceAdd, Int.reduceSub, Int.reduceMul, Int.reduceLT, Int.reduceLE, Int.reduceGT, Int.reduceGE, Int.reduceEq, Int.reduceNe, Nat.reduceEqDiff, Int.zero_add, Int.add_zero, p_ty0, p_ty1, p_ty2, p_ty3, p_ty4, p_ty5, p_ty6, p_ty7, p_ty8, p_ty9, p_ty10, p_ty11, B_t, B_f]
      rfl
    | succ n ih =>
      intro k l6 hk h0
      have hbk := hb k
      have hms := m_side_rg (x := bb k) hbk
      have hss := sm_s (f := a_wo bb s) h0
      have p1 := y_side (d := e) (T := T) (M := M) (F := F) (n := bb k) (by omega) (by omega)
      have p2 := y_piece (d := e) (T := T) (M := M) (F := F) (n := bb k) (by omega) (by omega)
      have p3 := y_worth (d := e) (T := T) (M := M) (F := F) (n := bb k % 10) (by omega) (by omega)
      have ih := fun l6 => ih (k + 1) l6 (by omega) (by omega)
      rw [hss] at ih
      rw [x_X8_worthOf_14]
      by_cases c : m_side (bb k) = s
      · rw [show a_wo bb s k = m_wor (bb k % 10) from if_pos c] at ih
        clear hb hss
        simp (disch := omega) only [x_X8_worthOf_16, x_X8_worthOf_18, x_X8_worthOf_21, x_X8_worthOf_22, x_X8_worthOf_24, x_X8_worthOf_25, x_X8_worthOf_27, x_X8_worthOf_28, x_X8_worthOf_30, x_X8_worthOf_33, x_X8_worthOf_34, x_X8_worthOf_37, x_X8_worthOf_39, x_X8_worthOf_42, x_X8_worthOf_45, x_X8_worthOf_48, x_X8_worthOf_49, x_X8_worthOf_50, x_X8_worthOf_51, x_X8_worthOf_54, List.length_cons, List.length_nil, Nat.reduceLeDiff, Nat.zero_add, iI_add, iI_sub, iI_mul, iI_neg, iI_lt, iI_le, iI_eq, jI_iI, B_True, B_False, B_t, B_f, ck_True, gd_True, cb_v, cb_n, p_mv_rw, p_fv_rw, p_rv_some, pA_1, pA_90, pA_92, pA_3, pA_2, pA_93, pA_4, pA_91, pA_95, pS_i, pW_i, pZ_0, pZ_1, pZ_b, bI_e0, u1_s, u1_n, uA_s, uA_n, true_and, and_true, not_true_eq_false, not_false_eq_true, eq_self, iI_z, al1, al2, al3, al4, al90, al91, al92, al93, al95, Int.cast_ofNat_Int, Nat.reduceAdd, Int.reduceNeg, Int.reduceAdd, Int.reduceSub, Int.reduceMul, Int.reduceLT, Int.reduceLE, Int.reduceGT, Int.reduceGE, Int.reduceEq, Int.reduceNe, Nat.reduceEqDiff, Int.zero_add, Int.add_zero, p_ty0, p_ty1, p_ty2, p_ty3, p_ty4, p_ty5, p_ty6, p_ty7, p_ty8, p_ty9, p_ty10, p_ty11, ty127, ty128, fy1, ty129, fy4, ty130, fy5, ty131, fy6, ty132, fy7, ty133, fy8, ty136, fy15, ty137, fy16, ty138, fy17, ty139, fy18, ty140, fy19, ty141, fy20, ty142, fy21, ty143, fy22, tybd, fy9, tylg, fy13, s1, p1, p2, p3, c, ih, gd_t, B_t, B_f]
      · rw [show a_wo bb s k = 0 from if_neg c, Int.add_zero] at ih
        clear hb hss
        simp (disch := omega) only [x_X8_worthOf_16, x_X8_worthOf_18, x_X8_worthOf_21, x_X8_worthOf_22, x_X8_worthOf_24, x_X8_worthOf_25, x_X8_worthOf_27, x_X8_worthOf_28, x_X8_worthOf_30, x_X8_worthOf_33, x_X8_worthOf_34, x_X8_worthOf_37, x_X8_worthOf_39, x_X8_worthOf_42, x_X8_worthOf_45, x_X8_worthOf_48, x_X8_worthOf_49, x_X8_worthOf_50, x_X8_worthOf_51, x_X8_worthOf_54, List.length_cons, List.length_nil, Nat.reduceLeDiff, Nat.zero_add, iI_add, iI_sub, iI_mul, iI_neg, iI_lt, iI_le, iI_eq, jI_iI, B_True, B_False, B_t, B_f, ck_True, gd_True, cb_v, cb_n, p_mv_rw, p_fv_rw, p_rv_some, pA_1, pA_90, pA_92, pA_3, pA_2, pA_93, pA_4, pA_91, pA_95, pS_i, pW_i, pZ_0, pZ_1, pZ_b, bI_e0, u1_s, u1_n, uA_s, uA_n, true_and, and_true, not_true_eq_false, not_false_eq_true, eq_self, iI_z, al1, al2, al3, al4, al90, al91, al92, al93, al95, Int.cast_ofNat_Int, Nat.reduceAdd, Int.reduceNeg, Int.reduceAdd, Int.reduceSub, Int.reduceMul, Int.reduceLT, Int.reduceLE, Int.reduceGT, Int.reduceGE, Int.reduceEq, Int.reduceNe, Nat.reduceEqDiff, Int.zero_add, Int.add_zero, p_ty0, p_ty1, p_ty2, p_ty3, p_ty4, p_ty5, p_ty6, p_ty7, p_ty8, p_ty9, p_ty10, p_ty11, ty127, ty128, fy1, ty129, fy4, ty130, fy5, ty131, fy6, ty132, fy7, ty133, fy8, ty136, fy15, ty137, fy16, ty138, fy17, ty139, fy18, ty140, fy19, ty141, fy20, ty142, fy21, ty143, fy22, tybd, fy9, tylg, fy13, s1, p1, ih, gd_t, B_t, B_f]
  have h9 := fun l6 => key 91 0 l6 (by omega) (by omega)
  rw [show sm (a_wo bb s) (0 : Int).toNat = 0 from rfl] at h9
  clear key hb
  simp (disch := omega) only [x_X8_worthOf_0, x_X8_worthOf_1, x_X8_worthOf_2, x_X8_worthOf_3, x_X8_worthOf_6, x_X8_worthOf_7, x_X8_worthOf_8, x_X8_worthOf_9, x_X8_worthOf_11, x_X8_worthOf_12, List.length_cons, List.length_nil, Nat.reduceLeDiff, Nat.zero_add, iI_add, iI_sub, iI_mul, iI_neg, iI_lt, iI_le, iI_eq, jI_iI, B_True, B_False, B_t, B_f, ck_True, gd_True, cb_v, cb_n, p_mv_rw, p_fv_rw, p_rv_some, pA_1, pA_90, pA_92, pA_3, pA_2, pA_93, pA_4, pA_91, pA_95, pS_i, pW_i, pZ_0, pZ_1, pZ_b, bI_e0, u1_s, u1_n, uA_s, uA_n, true_and, and_true, not_true_eq_false, not_false_eq_true, eq_self, iI_z, al1, al2, al3, al4, al90, al91, al92, al93, al95, Int.cast_ofNat_Int, Nat.reduceAdd, Int.reduceNeg, Int.reduceAdd, Int.reduceSub, Int.reduceMul, Int.reduceLT, Int.reduceLE, Int.reduceGT, Int.reduceGE, Int.reduceEq, Int.reduceNe, Nat.reduceEqDiff, Int.zero_add, Int.add_zero, p_ty0, p_ty1, p_ty2, p_ty3, p_ty4, p_ty5, p_ty6, p_ty7, p_ty8, p_ty9, p_ty10, p_ty11, ty127, ty128, fy1, ty129, fy4, ty130, fy5, ty131, fy6, ty132, fy7, ty133, fy8, ty136, fy15, ty137, fy16, ty138, fy17, ty139, fy18, ty140, fy19, ty141, fy20, ty142, fy21, ty143, fy22, tybd, fy9, tylg, fy13, h9, gd_t]
theorem y_piecesOf (hY : YT T F bd lg N) (hb : MB bb) (s1 : M bd = bb) (hs : s = 0 ∨ s = 1) (hd : 2 ≤ d) : callD d m_X8_piecesOf [.ref 127, .int (iI s)] T M F = some (.inl (some (.int (iI (sm (a_pc bb s) 91)))), T, M, F) := by
  refine callD_go 1 hd rfl (fun e he => ?_)
  show R e m_X8_piecesOf 0 [.val (.ref 127), .val (.int (iI s)), .unset, .unset, .unset, .unset, .unset] [] T M F = _
  obtain ⟨ty127, ty128, fy1, ty129, fy4, ty130, fy5, ty131, fy6, ty132, fy7, ty133, fy8, ty136, fy15, ty137, fy16, ty138, fy17, ty139, fy18, ty140, fy19, ty141, fy20, ty142, fy21, ty143, fy22, hbd, tybd, fy9, hlg, tylg, fy13, hN⟩ := hY
  have key : ∀ (n : Nat) (k : Int) (l6 : Slot), k = 91 - (n : Int) → 0 ≤ k → R e m_X8_piecesOf 14 [.val (.ref 127), .val (.int (iI s)), .val (.int (iI (sm (a_pc bb s) k.toNat))), .val (.ref bd), .val (.int (iI 91)), .val (.int (iI k)), l6] [] T M F = some (.inl (some (.int (iI (sm (a_pc bb s) 91)))), T, M, F) := by
    intro n
    induction n with
    | zero =>
      intro k l6 hk h0
      obtain rfl : k = 91 := by omega
      simp (disch := omega) only [x_X8_piecesOf_14, x_X8_piecesOf_16, x_X8_piecesOf_18, x_X8_piecesOf_50, x_X8_piecesOf_51, List.length_cons, List.length_nil, Nat.reduceLeDiff, Nat.zero_add, iI_add, iI_sub, iI_mul, iI_neg, iI_lt, iI_le, iI_eq, jI_iI, B_True, B_False, B_t, B_f, ck_True, gd_True, cb_v, cb_n, p_mv_rw, p_fv_rw, p_rv_some, pA_1, pA_90, pA_92, pA_3, pA_2, pA_93, pA_4, pA_91, pA_95, pS_i, pW_i, pZ_0, pZ_1, pZ_b, bI_e0, u1_s, u1_n, uA_s, uA_n, true_and, and_true, not_true_eq_false, not_false_eq_true, eq_self, iI_z, al1, al2, al3, al4, al90, al91, al92, al93, al95, Int.cast_ofNat_Int, Nat.reduceAdd, Int.reduceNeg, Int.reduceAdd, Int.reduceSub, Int.reduceMul, Int.reduceLT, Int.reduceLE, Int.reduceGT, Int.reduceGE, Int.reduceEq, Int.reduceNe, Nat.reduceEqDiff, Int.zero_add, Int.add_zero, p_ty0, p_ty1, p_ty2, p_ty3, p_ty4, p_ty5, p_ty6, p_ty7, p_ty8, p_ty9, p_ty10, p_ty11, B_t, B_f]
      rfl
    | succ n ih =>
      intro k l6 hk h0
      have hbk := hb k
      have hms := m_side_rg (x := bb k) hbk
      have hss := sm_s (f := a_pc bb s) h0
      have p1 := y_side (d := e) (T := T) (M := M) (F := F) (n := bb k) (by omega) (by omega)
      have ih := fun l6 => ih (k + 1) l6 (by omega) (by omega)
      rw [hss] at ih
      rw [x_X8_piecesOf_14]
      by_cases c : m_side (bb k) = s
      · rw [show a_pc bb s k = 1 from bI_t c] at ih
        clear hb hss
        simp (disch := omega) only [x_X8_piecesOf_16, x_X8_piecesOf_18, x_X8_piecesOf_21, x_X8_piecesOf_22, x_X8_piecesOf_24, x_X8_piecesOf_25, x_X8_piecesOf_27, x_X8_piecesOf_28, x_X8_piecesOf_30, x_X8_piecesOf_33, x_X8_piecesOf_34, x_X8_piecesOf_37, x_X8_piecesOf_38, x_X8_piecesOf_41, x_X8_piecesOf_42, x_X8_piecesOf_43, x_X8_piecesOf_44, x_X8_piecesOf_47, List.length_cons, List.length_nil, Nat.reduceLeDiff, Nat.zero_add, iI_add, iI_sub, iI_mul, iI_neg, iI_lt, iI_le, iI_eq, jI_iI, B_True, B_False, B_t, B_f, ck_True, gd_True, cb_v, cb_n, p_mv_rw, p_fv_rw, p_rv_some, pA_1, pA_90, pA_92, pA_3, pA_2, pA_93, pA_4, pA_91, pA_95, pS_i, pW_i, pZ_0, pZ_1, pZ_b, bI_e0, u1_s, u1_n, uA_s, uA_n, true_and, and_true, not_true_eq_false, not_false_eq_true, eq_self, iI_z, al1, al2, al3, al4, al90, al91, al92, al93, al95, Int.cast_ofNat_Int, Nat.reduceAdd, Int.reduceNeg, Int.reduceAdd, Int.reduceSub, Int.reduceMul, Int.reduceLT, Int.reduceLE, Int.reduceGT, Int.reduceGE, Int.reduceEq, Int.reduceNe, Nat.reduceEqDiff, Int.zero_add, Int.add_zero, p_ty0, p_ty1, p_ty2, p_ty3, p_ty4, p_ty5, p_ty6, p_ty7, p_ty8, p_ty9, p_ty10, p_ty11, ty127, ty128, fy1, ty129, fy4, ty130, fy5, ty131, fy6, ty132, fy7, ty133, fy8, ty136, fy15, ty137, fy16, ty138, fy17, ty139, fy18, ty140, fy19, ty141, fy20, ty142, fy21, ty143, fy22, tybd, fy9, tylg, fy13, s1, p1, c, ih, gd_t, B_t, B_f]
      · rw [show a_pc bb s k = 0 from bI_f c, Int.add_zero] at ih
        clear hb hss
        simp (disch := omega) only [x_X8_piecesOf_16, x_X8_piecesOf_18, x_X8_piecesOf_21, x_X8_piecesOf_22, x_X8_piecesOf_24, x_X8_piecesOf_25, x_X8_piecesOf_27, x_X8_piecesOf_28, x_X8_piecesOf_30, x_X8_piecesOf_33, x_X8_piecesOf_34, x_X8_piecesOf_37, x_X8_piecesOf_38, x_X8_piecesOf_41, x_X8_piecesOf_42, x_X8_piecesOf_43, x_X8_piecesOf_44, x_X8_piecesOf_47, List.length_cons, List.length_nil, Nat.reduceLeDiff, Nat.zero_add, iI_add, iI_sub, iI_mul, iI_neg, iI_lt, iI_le, iI_eq, jI_iI, B_True, B_False, B_t, B_f, ck_True, gd_True, cb_v, cb_n, p_mv_rw, p_fv_rw, p_rv_some, pA_1, pA_90, pA_92, pA_3, pA_2, pA_93, pA_4, pA_91, pA_95, pS_i, pW_i, pZ_0, pZ_1, pZ_b, bI_e0, u1_s, u1_n, uA_s, uA_n, true_and, and_true, not_true_eq_false, not_false_eq_true, eq_self, iI_z, al1, al2, al3, al4, al90, al91, al92, al93, al95, Int.cast_ofNat_Int, Nat.reduceAdd, Int.reduceNeg, Int.reduceAdd, Int.reduceSub, Int.reduceMul, Int.reduceLT, Int.reduceLE, Int.reduceGT, Int.reduceGE, Int.reduceEq, Int.reduceNe, Nat.reduceEqDiff, Int.zero_add, Int.add_zero, p_ty0, p_ty1, p_ty2, p_ty3, p_ty4, p_ty5, p_ty6, p_ty7, p_ty8, p_ty9, p_ty10, p_ty11, ty127, ty128, fy1, ty129, fy4, ty130, fy5, ty131, fy6, ty132, fy7, ty133, fy8, ty136, fy15, ty137, fy16, ty138, fy17, ty139, fy18, ty140, fy19, ty141, fy20, ty142, fy21, ty143, fy22, tybd, fy9, tylg, fy13, s1, p1, ih, gd_t, B_t, B_f]
  have h9 := fun l6 => key 91 0 l6 (by omega) (by omega)
  rw [show sm (a_pc bb s) (0 : Int).toNat = 0 from rfl] at h9
  clear key hb
  simp (disch := omega) only [x_X8_piecesOf_0, x_X8_piecesOf_1, x_X8_piecesOf_2, x_X8_piecesOf_3, x_X8_piecesOf_6, x_X8_piecesOf_7, x_X8_piecesOf_8, x_X8_piecesOf_9, x_X8_piecesOf_11, x_X8_piecesOf_12, List.length_cons, List.length_nil, Nat.reduceLeDiff, Nat.zero_add, iI_add, iI_sub, iI_mul, iI_neg, iI_lt, iI_le, iI_eq, jI_iI, B_True, B_False, B_t, B_f, ck_True, gd_True, cb_v, cb_n, p_mv_rw, p_fv_rw, p_rv_some, pA_1, pA_90, pA_92, pA_3, pA_2, pA_93, pA_4, pA_91, pA_95, pS_i, pW_i, pZ_0, pZ_1, pZ_b, bI_e0, u1_s, u1_n, uA_s, uA_n, true_and, and_true, not_true_eq_false, not_false_eq_true, eq_self, iI_z, al1, al2, al3, al4, al90, al91, al92, al93, al95, Int.cast_ofNat_Int, Nat.reduceAdd, Int.reduceNeg, Int.reduceAdd, Int.reduceSub, Int.reduceMul, Int.reduceLT, Int.reduceLE, Int.reduceGT, Int.reduceGE, Int.reduceEq, Int.reduceNe, Nat.reduceEqDiff, Int.zero_add, Int.add_zero, p_ty0, p_ty1, p_ty2, p_ty3, p_ty4, p_ty5, p_ty6, p_ty7, p_ty8, p_ty9, p_ty10, p_ty11, ty127, ty128, fy1, ty129, fy4, ty130, fy5, ty131, fy6, ty132, fy7, ty133, fy8, ty136, fy15, ty137, fy16, ty138, fy17, ty139, fy18, ty140, fy19, ty141, fy20, ty142, fy21, ty143, fy22, tybd, fy9, tylg, fy13, h9, gd_t]
theorem lgQ_rg (h : x ∈ lgQ bb t pas q) : 0 ≤ x ∧ x < 8281 := lgA_rg (lgQ_sub h).1
theorem y_movesFrom (hV : YV T M F bd lg N H) (hS : YS M bd bb t pas q) (hP : SP bb t pas q) (hH : H.length < 614) (hk : 0 ≤ k ∧ k < 91) :
    ∃ T' M' F' lg' N', (∀ d, 8 ≤ d → callD d m_X8_movesFrom [.ref 127, .int (iI k)] T M F = some (.inl (some (.int (iI (cntF k (lgQ bb t pas q))))), T', M', F')) ∧ YR (XL bd 137) bd H bb t pas q T M F lg N T' M' F' lg' N' := by
  obtain ⟨T1, M1, F1, lg1, N1, r1, L1, -, R1⟩ := y_list (io := 137) (Or.inl rfl) hV hS hP hH
  refine ⟨T1, M1, F1, lg1, N1, fun d hd => ?_, R1⟩
  refine callD_go 7 hd rfl (fun e he => ?_)
  show R e m_X8_movesFrom 0 [.val (.ref 127), .val (.int (iI k)), .unset, .unset, .unset] [] T M F = _
  have r1 := r1 e he
  have hl := lgQ_le hP
  have ty := R1.1.1
  obtain ⟨ty127, ty128, fy1, ty129, fy4, ty130, fy5, ty131, fy6, ty132, fy7, ty133, fy8, ty136, fy15, ty137, fy16, ty138, fy17, ty139, fy18, ty140, fy19, ty141, fy20, ty142, fy21, ty143, fy22, hbd, tybd, fy9, hlg, tylg, fy13, hN⟩ := ty
  have key : ∀ (Q P : List Int) (acc : Int), P ++ Q = lgQ bb t pas q → 0 ≤ acc ∧ acc ≤ P.length → R e m_X8_movesFrom 14 [.val (.ref 127), .val (.int (iI k)), .val (.int (iI ((lgQ bb t pas q).length : Int))), .val (.int (iI acc)), .val (.int (iI (P.length : Int)))] [] T1 M1 F1 = some (.inl (some (.int (iI (acc + cntF k Q)))), T1, M1, F1) := by
    intro Q
    induction Q with
    | nil =>
      intro P acc hP' ha
      rw [List.append_nil] at hP'
      rw [← hP'] at hl ⊢
      rw [cntF, Int.add_zero]
      clear hV hS hP R1 r1 L1
      simp (disch := omega) only [x_X8_movesFrom_14, x_X8_movesFrom_16, x_X8_movesFrom_17, x_X8_movesFrom_48, x_X8_movesFrom_49, List.length_cons, List.length_nil, Nat.reduceLeDiff, Nat.zero_add, iI_add, iI_sub, iI_mul, iI_neg, iI_lt, iI_le, iI_eq, jI_iI, B_True, B_False, B_t, B_f, ck_True, gd_True, cb_v, cb_n, p_mv_rw, p_fv_rw, p_rv_some, pA_1, pA_90, pA_92, pA_3, pA_2, pA_93, pA_4, pA_91, pA_95, pS_i, pW_i, pZ_0, pZ_1, pZ_b, bI_e0, u1_s, u1_n, uA_s, uA_n, true_and, and_true, not_true_eq_false, not_false_eq_true, eq_self, iI_z, al1, al2, al3, al4, al90, al91, al92, al93, al95, Int.cast_ofNat_Int, Nat.reduceAdd, Int.reduceNeg, Int.reduceAdd, Int.reduceSub, Int.reduceMul, Int.reduceLT, Int.reduceLE, Int.reduceGT, Int.reduceGE, Int.reduceEq, Int.reduceNe, Nat.reduceEqDiff, Int.zero_add, Int.add_zero, p_ty0, p_ty1, p_ty2, p_ty3, p_ty4, p_ty5, p_ty6, p_ty7, p_ty8, p_ty9, p_ty10, p_ty11, B_t, B_f]
    | cons x Q ih =>
      intro P acc hP' ha
      have hPl : P.length + 1 + Q.length = (lgQ bb t pas q).length := by rw [← hP']; simp; omega
      have hxr := lgQ_rg (x := x) (bb := bb) (t := t) (pas := pas) (q := q) (by rw [← hP']; simp)
      have hx : M1 137 (P.length : Int) = x := by rw [L1 P.length (by omega), ← hP', getD_mid]
      rw [x_X8_movesFrom_14, cntF]
      by_cases c : x / 91 = k
      · have ih := ih (P ++ [x]) (acc + 1) (by rw [List.append_assoc]; exact hP') (by rw [List.length_append, List.length_singleton]; omega)
        rw [List.length_append, List.length_singleton, Int.natCast_add_one] at ih
        rw [bI_t c, show acc + (1 + cntF k Q) = acc + 1 + cntF k Q by omega, ← ih]
        clear hV hS hP R1 r1 L1 ih hP'
        simp (disch := omega) only [x_X8_movesFrom_16, x_X8_movesFrom_17, x_X8_movesFrom_20, x_X8_movesFrom_21, x_X8_movesFrom_22, x_X8_movesFrom_25, x_X8_movesFrom_27, x_X8_movesFrom_28, x_X8_movesFrom_30, x_X8_movesFrom_31, x_X8_movesFrom_32, x_X8_movesFrom_35, x_X8_movesFrom_36, x_X8_movesFrom_39, x_X8_movesFrom_40, x_X8_movesFrom_41, x_X8_movesFrom_42, x_X8_movesFrom_45, List.length_cons, List.length_nil, Nat.reduceLeDiff, Nat.zero_add, iI_add, iI_sub, iI_mul, iI_neg, iI_lt, iI_le, iI_eq, jI_iI, B_True, B_False, B_t, B_f, ck_True, gd_True, cb_v, cb_n, p_mv_rw, p_fv_rw, p_rv_some, pA_1, pA_90, pA_92, pA_3, pA_2, pA_93, pA_4, pA_91, pA_95, pS_i, pW_i, pZ_0, pZ_1, pZ_b, bI_e0, u1_s, u1_n, uA_s, uA_n, true_and, and_true, not_true_eq_false, not_false_eq_true, eq_self, iI_z, al1, al2, al3, al4, al90, al91, al92, al93, al95, Int.cast_ofNat_Int, Nat.reduceAdd, Int.reduceNeg, Int.reduceAdd, Int.reduceSub, Int.reduceMul, Int.reduceLT, Int.reduceLE, Int.reduceGT, Int.reduceGE, Int.reduceEq, Int.reduceNe, Nat.reduceEqDiff, Int.zero_add, Int.add_zero, p_ty0, p_ty1, p_ty2, p_ty3, p_ty4, p_ty5, p_ty6, p_ty7, p_ty8, p_ty9, p_ty10, p_ty11, ty127, ty128, fy1, ty129, fy4, ty130, fy5, ty131, fy6, ty132, fy7, ty133, fy8, ty136, fy15, ty137, fy16, ty138, fy17, ty139, fy18, ty140, fy19, ty141, fy20, ty142, fy21, ty143, fy22, tybd, fy9, tylg, fy13, hx, iI_div, gd_t, B_t, B_f]
      · have ih := ih (P ++ [x]) acc (by rw [List.append_assoc]; exact hP') (by rw [List.length_append, List.length_singleton]; omega)
        rw [List.length_append, List.length_singleton, Int.natCast_add_one] at ih
        rw [bI_f c, Int.zero_add, ← ih]
        clear hV hS hP R1 r1 L1 ih hP'
        simp (disch := omega) only [x_X8_movesFrom_16, x_X8_movesFrom_17, x_X8_movesFrom_20, x_X8_movesFrom_21, x_X8_movesFrom_22, x_X8_movesFrom_25, x_X8_movesFrom_27, x_X8_movesFrom_28, x_X8_movesFrom_30, x_X8_movesFrom_31, x_X8_movesFrom_32, x_X8_movesFrom_35, x_X8_movesFrom_36, x_X8_movesFrom_39, x_X8_movesFrom_40, x_X8_movesFrom_41, x_X8_movesFrom_42, x_X8_movesFrom_45, List.length_cons, List.length_nil, Nat.reduceLeDiff, Nat.zero_add, iI_add, iI_sub, iI_mul, iI_neg, iI_lt, iI_le, iI_eq, jI_iI, B_True, B_False, B_t, B_f, ck_True, gd_True, cb_v, cb_n, p_mv_rw, p_fv_rw, p_rv_some, pA_1, pA_90, pA_92, pA_3, pA_2, pA_93, pA_4, pA_91, pA_95, pS_i, pW_i, pZ_0, pZ_1, pZ_b, bI_e0, u1_s, u1_n, uA_s, uA_n, true_and, and_true, not_true_eq_false, not_false_eq_true, eq_self, iI_z, al1, al2, al3, al4, al90, al91, al92, al93, al95, Int.cast_ofNat_Int, Nat.reduceAdd, Int.reduceNeg, Int.reduceAdd, Int.reduceSub, Int.reduceMul, Int.reduceLT, Int.reduceLE, Int.reduceGT, Int.reduceGE, Int.reduceEq, Int.reduceNe, Nat.reduceEqDiff, Int.zero_add, Int.add_zero, p_ty0, p_ty1, p_ty2, p_ty3, p_ty4, p_ty5, p_ty6, p_ty7, p_ty8, p_ty9, p_ty10, p_ty11, ty127, ty128, fy1, ty129, fy4, ty130, fy5, ty131, fy6, ty132, fy7, ty133, fy8, ty136, fy15, ty137, fy16, ty138, fy17, ty139, fy18, ty140, fy19, ty141, fy20, ty142, fy21, ty143, fy22, tybd, fy9, tylg, fy13, hx, iI_div, gd_t, B_t, B_f]
  have h9 := key (lgQ bb t pas q) [] 0 (List.nil_append _) ⟨Int.le_refl _, Int.le_refl _⟩
  rw [Int.zero_add, List.length_nil, Int.natCast_zero] at h9
  rw [← h9]
  have t9 := hV.1
  obtain ⟨v127, -, -, -, -, -, -, -, -, -, -, -, -, -, -, v137, w16, -⟩ := t9
  clear h9 key hV hS hP R1 L1 hl
  simp (disch := omega) only [x_X8_movesFrom_0, x_X8_movesFrom_1, x_X8_movesFrom_2, x_X8_movesFrom_5, x_X8_movesFrom_8, x_X8_movesFrom_9, x_X8_movesFrom_10, x_X8_movesFrom_11, x_X8_movesFrom_12, List.length_cons, List.length_nil, Nat.reduceLeDiff, Nat.zero_add, iI_add, iI_sub, iI_mul, iI_neg, iI_lt, iI_le, iI_eq, jI_iI, B_True, B_False, B_t, B_f, ck_True, gd_True, cb_v, cb_n, p_mv_rw, p_fv_rw, p_rv_some, pA_1, pA_90, pA_92, pA_3, pA_2, pA_93, pA_4, pA_91, pA_95, pS_i, pW_i, pZ_0, pZ_1, pZ_b, bI_e0, u1_s, u1_n, uA_s, uA_n, true_and, and_true, not_true_eq_false, not_false_eq_true, eq_self, iI_z, al1, al2, al3, al4, al90, al91, al92, al93, al95, Int.cast_ofNat_Int, Nat.reduceAdd, Int.reduceNeg, Int.reduceAdd, Int.reduceSub, Int.reduceMul, Int.reduceLT, Int.reduceLE, Int.reduceGT, Int.reduceGE, Int.reduceEq, Int.reduceNe, Nat.reduceEqDiff, Int.zero_add, Int.add_zero, p_ty0, p_ty1, p_ty2, p_ty3, p_ty4, p_ty5, p_ty6, p_ty7, p_ty8, p_ty9, p_ty10, p_ty11, v127, w16, v137, r1, gd_t]
theorem y_placeOf (hV : YV T M F bd lg N H) (hS : YS M bd bb t pas q) (hP : SP bb t pas q) (hH : H.length < 614) (hk : 0 ≤ k ∧ k < 8281) :
    ∃ T' M' F' lg' N' r, (∀ d, 8 ≤ d → callD d m_X8_placeOf [.ref 127, .int (iI k)] T M F = some (.inl (some (.int (iI r))), T', M', F')) ∧ (-1 ≤ r ∧ r < 1000) ∧ (r ≠ -1 ↔ k ∈ lgQ bb t pas q) ∧ YR (XL bd 137) bd H bb t pas q T M F lg N T' M' F' lg' N' := by
  obtain ⟨T1, M1, F1, lg1, N1, r1, L1, -, R1⟩ := y_list (io := 137) (Or.inl rfl) hV hS hP hH
  have hl := lgQ_le hP
  have key : ∀ (Q P : List Int), P ++ Q = lgQ bb t pas q → ∃ r : Int, (-1 ≤ r ∧ r < 1000) ∧ (r ≠ -1 ↔ k ∈ Q) ∧ ∀ e, R e m_X8_placeOf 11 [.val (.ref 127), .val (.int (iI k)), .val (.int (iI ((lgQ bb t pas q).length : Int))), .val (.int (iI (P.length : Int)))] [] T1 M1 F1 = some (.inl (some (.int (iI r))), T1, M1, F1) := by
    have ty := R1.1.1
    obtain ⟨ty127, ty128, fy1, ty129, fy4, ty130, fy5, ty131, fy6, ty132, fy7, ty133, fy8, ty136, fy15, ty137, fy16, ty138, fy17, ty139, fy18, ty140, fy19, ty141, fy20, ty142, fy21, ty143, fy22, hbd, tybd, fy9, hlg, tylg, fy13, hN⟩ := ty
    intro Q
    induction Q with
    | nil =>
      intro P hP'
      rw [List.append_nil] at hP'
      refine ⟨-1, by omega, ⟨fun z => absurd rfl z, fun z => absurd z List.not_mem_nil⟩, fun e => ?_⟩
      rw [← hP'] at hl ⊢
      clear hV hS hP R1 r1 L1
      simp (disch := omega) only [x_X8_placeOf_11, x_X8_placeOf_12, x_X8_placeOf_13, x_X8_placeOf_34, x_X8_placeOf_35, List.length_cons, List.length_nil, Nat.reduceLeDiff, Nat.zero_add, iI_add, iI_sub, iI_mul, iI_neg, iI_lt, iI_le, iI_eq, jI_iI, B_True, B_False, B_t, B_f, ck_True, gd_True, cb_v, cb_n, p_mv_rw, p_fv_rw, p_rv_some, pA_1, pA_90, pA_92, pA_3, pA_2, pA_93, pA_4, pA_91, pA_95, pS_i, pW_i, pZ_0, pZ_1, pZ_b, bI_e0, u1_s, u1_n, uA_s, uA_n, true_and, and_true, not_true_eq_false, not_false_eq_true, eq_self, iI_z, al1, al2, al3, al4, al90, al91, al92, al93, al95, Int.cast_ofNat_Int, Nat.reduceAdd, Int.reduceNeg, Int.reduceAdd, Int.reduceSub, Int.reduceMul, Int.reduceLT, Int.reduceLE, Int.reduceGT, Int.reduceGE, Int.reduceEq, Int.reduceNe, Nat.reduceEqDiff, Int.zero_add, Int.add_zero, p_ty0, p_ty1, p_ty2, p_ty3, p_ty4, p_ty5, p_ty6, p_ty7, p_ty8, p_ty9, p_ty10, p_ty11, B_t, B_f]
    | cons x Q ih =>
      intro P hP'
      have hPl : P.length + 1 + Q.length = (lgQ bb t pas q).length := by rw [← hP']; simp; omega
      have hxr := lgQ_rg (x := x) (bb := bb) (t := t) (pas := pas) (q := q) (by rw [← hP']; simp)
      have hx : M1 137 (P.length : Int) = x := by rw [L1 P.length (by omega), ← hP', getD_mid]
      by_cases c : x = k
      · refine ⟨(P.length : Int), by omega, ⟨fun _ => by rw [c]; exact List.mem_cons_self, fun _ => by omega⟩, fun e => ?_⟩
        clear hV hS hP R1 r1 L1 ih hP'
        simp (disch := omega) only [x_X8_placeOf_11, x_X8_placeOf_12, x_X8_placeOf_13, x_X8_placeOf_16, x_X8_placeOf_17, x_X8_placeOf_20, x_X8_placeOf_21, x_X8_placeOf_22, x_X8_placeOf_23, x_X8_placeOf_26, x_X8_placeOf_27, List.length_cons, List.length_nil, Nat.reduceLeDiff, Nat.zero_add, iI_add, iI_sub, iI_mul, iI_neg, iI_lt, iI_le, iI_eq, jI_iI, B_True, B_False, B_t, B_f, ck_True, gd_True, cb_v, cb_n, p_mv_rw, p_fv_rw, p_rv_some, pA_1, pA_90, pA_92, pA_3, pA_2, pA_93, pA_4, pA_91, pA_95, pS_i, pW_i, pZ_0, pZ_1, pZ_b, bI_e0, u1_s, u1_n, uA_s, uA_n, true_and, and_true, not_true_eq_false, not_false_eq_true, eq_self, iI_z, al1, al2, al3, al4, al90, al91, al92, al93, al95, Int.cast_ofNat_Int, Nat.reduceAdd, Int.reduceNeg, Int.reduceAdd, Int.reduceSub, Int.reduceMul, Int.reduceLT, Int.reduceLE, Int.reduceGT, Int.reduceGE, Int.reduceEq, Int.reduceNe, Nat.reduceEqDiff, Int.zero_add, Int.add_zero, p_ty0, p_ty1, p_ty2, p_ty3, p_ty4, p_ty5, p_ty6, p_ty7, p_ty8, p_ty9, p_ty10, p_ty11, ty127, ty128, fy1, ty129, fy4, ty130, fy5, ty131, fy6, ty132, fy7, ty133, fy8, ty136, fy15, ty137, fy16, ty138, fy17, ty139, fy18, ty140, fy19, ty141, fy20, ty142, fy21, ty143, fy22, tybd, fy9, tylg, fy13, hx, c, gd_t, B_t, B_f]
      · obtain ⟨r, h1, h2, h3⟩ := ih (P ++ [x]) (by rw [List.append_assoc]; exact hP')
        refine ⟨r, h1, ⟨fun z => List.mem_cons_of_mem _ (h2.mp z), fun z => h2.mpr ((List.mem_cons.mp z).resolve_left (fun y => c y.symm))⟩, fun e => ?_⟩
        have h3 := h3 e
        rw [List.length_append, List.length_singleton, Int.natCast_add_one] at h3
        rw [← h3, x_X8_placeOf_11]
        clear hV hS hP R1 r1 L1 ih hP' h3 h2
        simp (disch := omega) only [x_X8_placeOf_12, x_X8_placeOf_13, x_X8_placeOf_16, x_X8_placeOf_17, x_X8_placeOf_20, x_X8_placeOf_21, x_X8_placeOf_22, x_X8_placeOf_23, x_X8_placeOf_26, x_X8_placeOf_27, x_X8_placeOf_28, x_X8_placeOf_31, List.length_cons, List.length_nil, Nat.reduceLeDiff, Nat.zero_add, iI_add, iI_sub, iI_mul, iI_neg, iI_lt, iI_le, iI_eq, jI_iI, B_True, B_False, B_t, B_f, ck_True, gd_True, cb_v, cb_n, p_mv_rw, p_fv_rw, p_rv_some, pA_1, pA_90, pA_92, pA_3, pA_2, pA_93, pA_4, pA_91, pA_95, pS_i, pW_i, pZ_0, pZ_1, pZ_b, bI_e0, u1_s, u1_n, uA_s, uA_n, true_and, and_true, not_true_eq_false, not_false_eq_true, eq_self, iI_z, al1, al2, al3, al4, al90, al91, al92, al93, al95, Int.cast_ofNat_Int, Nat.reduceAdd, Int.reduceNeg, Int.reduceAdd, Int.reduceSub, Int.reduceMul, Int.reduceLT, Int.reduceLE, Int.reduceGT, Int.reduceGE, Int.reduceEq, Int.reduceNe, Nat.reduceEqDiff, Int.zero_add, Int.add_zero, p_ty0, p_ty1, p_ty2, p_ty3, p_ty4, p_ty5, p_ty6, p_ty7, p_ty8, p_ty9, p_ty10, p_ty11, ty127, ty128, fy1, ty129, fy4, ty130, fy5, ty131, fy6, ty132, fy7, ty133, fy8, ty136, fy15, ty137, fy16, ty138, fy17, ty139, fy18, ty140, fy19, ty141, fy20, ty142, fy21, ty143, fy22, tybd, fy9, tylg, fy13, hx, gd_t, B_t, B_f]
  obtain ⟨r, h1, h2, h3⟩ := key (lgQ bb t pas q) [] (List.nil_append _)
  refine ⟨T1, M1, F1, lg1, N1, r, fun d hd => ?_, h1, h2, R1⟩
  refine callD_go 7 hd rfl (fun e he => ?_)
  show R e m_X8_placeOf 0 [.val (.ref 127), .val (.int (iI k)), .unset, .unset] [] T M F = _
  have r1 := r1 e he
  have h3 := h3 e
  rw [List.length_nil, Int.natCast_zero] at h3
  have t9 := hV.1
  obtain ⟨v127, -, -, -, -, -, -, -, -, -, -, -, -, -, -, v137, w16, -⟩ := t9
  clear key hV hS hP R1 L1 hl h2
  simp (disch := omega) only [x_X8_placeOf_0, x_X8_placeOf_1, x_X8_placeOf_2, x_X8_placeOf_5, x_X8_placeOf_8, x_X8_placeOf_9, x_X8_placeOf_10, List.length_cons, List.length_nil, Nat.reduceLeDiff, Nat.zero_add, iI_add, iI_sub, iI_mul, iI_neg, iI_lt, iI_le, iI_eq, jI_iI, B_True, B_False, B_t, B_f, ck_True, gd_True, cb_v, cb_n, p_mv_rw, p_fv_rw, p_rv_some, pA_1, pA_90, pA_92, pA_3, pA_2, pA_93, pA_4, pA_91, pA_95, pS_i, pW_i, pZ_0, pZ_1, pZ_b, bI_e0, u1_s, u1_n, uA_s, uA_n, true_and, and_true, not_true_eq_false, not_false_eq_true, eq_self, iI_z, al1, al2, al3, al4, al90, al91, al92, al93, al95, Int.cast_ofNat_Int, Nat.reduceAdd, Int.reduceNeg, Int.reduceAdd, Int.reduceSub, Int.reduceMul, Int.reduceLT, Int.reduceLE, Int.reduceGT, Int.reduceGE, Int.reduceEq, Int.reduceNe, Nat.reduceEqDiff, Int.zero_add, Int.add_zero, p_ty0, p_ty1, p_ty2, p_ty3, p_ty4, p_ty5, p_ty6, p_ty7, p_ty8, p_ty9, p_ty10, p_ty11, v127, w16, v137, r1, h3, gd_t]
end PYCN
