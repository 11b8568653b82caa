section PH9
def GT (T : pT) (F : pF) (g : Nat) : Prop := 100 ≤ g ∧ p_ty T g = (11, 14) ∧ F g 0 = some (g + 1) ∧ BT T F (g + 1) ∧ p_ty T (g + 3) = (3, 620) ∧ F g 4 = some (g + 3) ∧ p_ty T (g + 4) = (1, 840) ∧ F g 6 = some (g + 4) ∧ p_ty T (g + 5) = (1, 42) ∧ F g 9 = some (g + 5) ∧ p_ty T (g + 6) = (1, 12) ∧ F g 11 = some (g + 6)
def q_pp (pas : Int) : Int := if pas = -1 then -1 else q_pl pas
def GS (M : pM) (g : Nat) (bb : Int → Int) (t pas q : Int) : Prop := RB M (g + 1) bb ∧ M g 1 = t ∧ M g 2 = q ∧ M g 3 = q_pp pas ∧ (t = 0 ∨ t = 1) ∧ (0 ≤ q ∧ q ≤ 200) ∧ (pas = -1 ∨ (0 ≤ pas ∧ pas < 91 ∧ bb pas = 0 ∧ 0 ≤ gn pas (m_ah (1 - t)) ∧ bb (gn pas (m_ah (1 - t))) = 10 * (1 - t) + 6))
variable {d : Nat} {T : pT} {M : pM} {F : pF} {b g : Nat} {bb : Int → Int} {p s k x c n t pas q : Int}
noncomputable def a_pc (b : Int → Int) (s k : Int) : Int := bI (m_side (b k) = s)
noncomputable def a_wo (b : Int → Int) (s k : Int) : Int := if m_side (b k) = s then m_wor (b k % 10) else 0
theorem VB.pl {v bb : Int → Int} (h : VB v bb) (hb : MB bb) (hk : 0 ≤ k ∧ k < 91) : q_on v (q_pl k) = cv (bb k) := by
  have hq := q_pl_nn hk
  rw [h.on hb (by omega), geo1 hk]
  have := hb k
  unfold cm m_on
  rw [if_neg (by omega), if_neg (by omega)]
theorem cv_facts (hb : MB bb) (k : Int) : (0 ≤ cv (bb k) ∧ cv (bb k) ≤ 14) ∧ q_side (cv (bb k)) = m_side (bb k) ∧ q_kind (cv (bb k)) = bb k % 10 := by
  have := hb k
  refine ⟨?_, ?_, ?_⟩
  · unfold cv; split <;> omega
  · unfold cv q_side m_side; (repeat' split) <;> omega
  · unfold cv q_kind; (repeat' split) <;> omega
theorem wor_eq : ∀ n : Nat, n < 7 → q_wor (n : Int) = m_wor (n : Int) := by decide +kernel
theorem wor_eq' (h : 0 ≤ x ∧ x < 7) : q_wor x = m_wor x := by
  have h2 := wor_eq x.toNat (by omega)
  rwa [Int.toNat_of_nonneg h.1] at h2
theorem m_side_rg (h : VX x) : -1 ≤ m_side x ∧ m_side x ≤ 1 := by unfold VX at h; unfold m_side; split <;> omega
theorem c_pieces (hB : BT T F b) (hR : RB M b bb) (hd : 2 ≤ d) (hs : s = 0 ∨ s = 1) : callD d m_X0_pieces [.ref b, .int (iI s)] T M F = some (.inl (some (.int (iI (sm (a_pc bb s) 91)))), T, M, F) := by
  refine callD_go 1 hd rfl (fun e he => ?_)
  show R e m_X0_pieces 0 [.val (.ref b), .val (.int (iI s)), .unset, .unset] [] T M F = _
  have hB' := hB
  obtain ⟨hb, t0, t1, f0⟩ := hB
  have key : ∀ (n : Nat) (k : Int), k = 91 - (n : Int) → 0 ≤ k → R e m_X0_pieces 4 [.val (.ref b), .val (.int (iI s)), .val (.int (iI (sm (a_pc bb s) k.toNat))), .val (.int (iI k))] [] T M F = some (.inl (some (.int (iI (sm (a_pc bb s) 91)))), T, M, F) := by
    intro n
    induction n with
    | zero =>
      intro k hk h0
      obtain rfl : k = 91 := by omega
      simp (disch := omega) only [x_X0_pieces_0, x_X0_pieces_1, x_X0_pieces_2, x_X0_pieces_3, x_X0_pieces_4, x_X0_pieces_5, x_X0_pieces_7, x_X0_pieces_10, x_X0_pieces_11, x_X0_pieces_12, x_X0_pieces_15, x_X0_pieces_18, x_X0_pieces_21, x_X0_pieces_22, x_X0_pieces_25, x_X0_pieces_28, x_X0_pieces_31, x_X0_pieces_34, x_X0_pieces_35, List.length_cons, List.length_nil, Nat.reduceLeDiff, Nat.zero_add, iI_add, iI_sub, iI_mul, iI_neg, iI_lt, iI_le, iI_eq, jI_iI, B_True, B_False, B_t, B_f, ck_True, gd_True, cb_v, cb_n, p_mv_rw, p_fv_rw, p_rv_some, pA_1, pA_90, pA_92, pA_3, pA_5, pA_93, pA_4, pA_91, pA_6, pS_i, pB_i, pW_i, pZ_0, pZ_1, pZ_b, bI_e0, u1_s, u1_n, uA_s, uA_n, true_and, and_true, not_true_eq_false, not_false_eq_true, eq_self, iI_z, al1, al5, al3, al4, al90, al91, al92, al93, al6, Int.cast_ofNat_Int, Nat.reduceAdd, Int.reduceNeg, Int.reduceAdd, Int.reduceSub, Int.reduceMul, Int.reduceLT, Int.reduceLE, Int.reduceGT, Int.reduceGE, Int.reduceEq, Int.reduceNe, Nat.reduceEqDiff, Int.zero_add, Int.add_zero, p_ty0, p_ty1, p_ty2, p_ty3, p_ty4, p_ty5, p_ty8, p_ty9, p_ty10]
      rfl
    | succ n ih =>
      intro k hk h0
      have hk' : 0 ≤ k ∧ k < 91 := by omega
      have hq := q_pl_nn hk'
      have hon := hR.2.1.pl hR.2.2.1 hk'
      obtain ⟨f1, f2, f3⟩ := cv_facts hR.2.2.1 k
      have hms := m_side_rg (x := bb k) (hR.2.2.1 k)
      have hss := sm_s (f := a_pc bb s) h0
      rw [x_X0_pieces_4]
      repeat' (first | (refine B_splitn (fun _ => ?_) (fun _ => ?_)) | (refine B_split (fun _ => ?_) (fun _ => ?_)) | (simp (disch := omega) only [x_X0_pieces_0, x_X0_pieces_1, x_X0_pieces_2, x_X0_pieces_3, x_X0_pieces_5, x_X0_pieces_7, x_X0_pieces_10, x_X0_pieces_11, x_X0_pieces_12, x_X0_pieces_15, x_X0_pieces_18, x_X0_pieces_21, x_X0_pieces_22, x_X0_pieces_25, x_X0_pieces_28, x_X0_pieces_31, x_X0_pieces_34, x_X0_pieces_35, List.length_cons, List.length_nil, Nat.reduceLeDiff, Nat.zero_add, iI_add, iI_sub, iI_mul, iI_neg, iI_lt, iI_le, iI_eq, jI_iI, B_True, B_False, B_t, B_f, ck_True, gd_True, cb_v, cb_n, p_mv_rw, p_fv_rw, p_rv_some, pA_1, pA_90, pA_92, pA_3, pA_5, pA_93, pA_4, pA_91, pA_6, pS_i, pB_i, pW_i, pZ_0, pZ_1, pZ_b, bI_e0, u1_s, u1_n, uA_s, uA_n, true_and, and_true, not_true_eq_false, not_false_eq_true, eq_self, iI_z, al1, al5, al3, al4, al90, al91, al92, al93, al6, Int.cast_ofNat_Int, Nat.reduceAdd, Int.reduceNeg, Int.reduceAdd, Int.reduceSub, Int.reduceMul, Int.reduceLT, Int.reduceLE, Int.reduceGT, Int.reduceGE, Int.reduceEq, Int.reduceNe, Nat.reduceEqDiff, Int.zero_add, Int.add_zero, p_ty0, p_ty1, p_ty2, p_ty3, p_ty4, p_ty5, p_ty8, p_ty9, p_ty10, t0, c_placeOf, c_on hB', hon, c_side, f2, gd_t]))
      all_goals first
        | (rw [show sm (a_pc bb s) k.toNat + 1 = sm (a_pc bb s) (k + 1).toNat by rw [hss, show a_pc bb s k = 1 from bI_t (by assumption)]]; exact ih (k + 1) (by omega) (by omega))
        | (rw [show sm (a_pc bb s) k.toNat = sm (a_pc bb s) (k + 1).toNat by rw [hss, show a_pc bb s k = 0 from bI_f (by assumption)]; omega]; exact ih (k + 1) (by omega) (by omega))
        | trace_state
  simp (disch := omega) only [x_X0_pieces_0, x_X0_pieces_1, x_X0_pieces_2, x_X0_pieces_3, x_X0_pieces_5, x_X0_pieces_7, x_X0_pieces_10, x_X0_pieces_11, x_X0_pieces_12, x_X0_pieces_15, x_X0_pieces_18, x_X0_pieces_21, x_X0_pieces_22, x_X0_pieces_25, x_X0_pieces_28, x_X0_pieces_31, x_X0_pieces_34, x_X0_pieces_35, List.length_cons, List.length_nil, Nat.reduceLeDiff, Nat.zero_add, iI_add, iI_sub, iI_mul, iI_neg, iI_lt, iI_le, iI_eq, jI_iI, B_True, B_False, B_t, B_f, ck_True, gd_True, cb_v, cb_n, p_mv_rw, p_fv_rw, p_rv_some, pA_1, pA_90, pA_92, pA_3, pA_5, pA_93, pA_4, pA_91, pA_6, pS_i, pB_i, pW_i, pZ_0, pZ_1, pZ_b, bI_e0, u1_s, u1_n, uA_s, uA_n, true_and, and_true, not_true_eq_false, not_false_eq_true, eq_self, iI_z, al1, al5, al3, al4, al90, al91, al92, al93, al6, Int.cast_ofNat_Int, Nat.reduceAdd, Int.reduceNeg, Int.reduceAdd, Int.reduceSub, Int.reduceMul, Int.reduceLT, Int.reduceLE, Int.reduceGT, Int.reduceGE, Int.reduceEq, Int.reduceNe, Nat.reduceEqDiff, Int.zero_add, Int.add_zero, p_ty0, p_ty1, p_ty2, p_ty3, p_ty4, p_ty5, p_ty8, p_ty9, p_ty10]
  exact key 91 0 (by omega) (by omega)
theorem c_worth (hB : BT T F b) (hR : RB M b bb) (hd : 2 ≤ d) (hs : s = 0 ∨ s = 1) : callD d m_X0_worth [.ref b, .int (iI s)] T M F = some (.inl (some (.int (iI (sm (a_wo bb s) 91)))), T, M, F) := by
  refine callD_go 1 hd rfl (fun e he => ?_)
  show R e m_X0_worth 0 [.val (.ref b), .val (.int (iI s)), .unset, .unset, .unset] [] T M F = _
  have hB' := hB
  obtain ⟨hb, t0, t1, f0⟩ := hB
  have key : ∀ (n : Nat) (k : Int) (l4 : Slot), k = 91 - (n : Int) → 0 ≤ k → R e m_X0_worth 4 [.val (.ref b), .val (.int (iI s)), .val (.int (iI (sm (a_wo bb s) k.toNat))), .val (.int (iI k)), l4] [] T M F = some (.inl (some (.int (iI (sm (a_wo bb s) 91)))), T, M, F) := by
    intro n
    induction n with
    | zero =>
      intro k l4 hk h0
      obtain rfl : k = 91 := by omega
      simp (disch := omega) only [x_X0_worth_0, x_X0_worth_1, x_X0_worth_2, x_X0_worth_3, x_X0_worth_4, x_X0_worth_5, x_X0_worth_7, x_X0_worth_10, x_X0_worth_11, x_X0_worth_12, x_X0_worth_15, x_X0_worth_18, x_X0_worth_20, x_X0_worth_22, x_X0_worth_25, x_X0_worth_26, x_X0_worth_29, x_X0_worth_30, x_X0_worth_32, x_X0_worth_35, x_X0_worth_38, x_X0_worth_39, x_X0_worth_40, x_X0_worth_43, x_X0_worth_46, x_X0_worth_47, List.length_cons, List.length_nil, Nat.reduceLeDiff, Nat.zero_add, iI_add, iI_sub, iI_mul, iI_neg, iI_lt, iI_le, iI_eq, jI_iI, B_True, B_False, B_t, B_f, ck_True, gd_True, cb_v, cb_n, p_mv_rw, p_fv_rw, p_rv_some, pA_1, pA_90, pA_92, pA_3, pA_5, pA_93, pA_4, pA_91, pA_6, pS_i, pB_i, pW_i, pZ_0, pZ_1, pZ_b, bI_e0, u1_s, u1_n, uA_s, uA_n, true_and, and_true, not_true_eq_false, not_false_eq_true, eq_self, iI_z, al1, al5, al3, al4, al90, al91, al92, al93, al6, Int.cast_ofNat_Int, Nat.reduceAdd, Int.reduceNeg, Int.reduceAdd, Int.reduceSub, Int.reduceMul, Int.reduceLT, Int.reduceLE, Int.reduceGT, Int.reduceGE, Int.reduceEq, Int.reduceNe, Nat.reduceEqDiff, Int.zero_add, Int.add_zero, p_ty0, p_ty1, p_ty2, p_ty3, p_ty4, p_ty5, p_ty8, p_ty9, p_ty10]
      rfl
    | succ n ih =>
      intro k l4 hk h0
      have hk' : 0 ≤ k ∧ k < 91 := by omega
      have hq := q_pl_nn hk'
      have hon := hR.2.1.pl hR.2.2.1 hk'
      obtain ⟨f1, f2, f3⟩ := cv_facts hR.2.2.1 k
      have hms := m_side_rg (x := bb k) (hR.2.2.1 k)
      have hbk := hR.2.2.1 k
      have hw := wor_eq' (x := bb k % 10) (by omega)
      have hss := sm_s (f := a_wo bb s) h0
      rw [x_X0_worth_4]
      repeat' (first | (refine B_splitn (fun _ => ?_) (fun _ => ?_)) | (refine B_split (fun _ => ?_) (fun _ => ?_)) | (simp (disch := omega) only [x_X0_worth_0, x_X0_worth_1, x_X0_worth_2, x_X0_worth_3, x_X0_worth_5, x_X0_worth_7, x_X0_worth_10, x_X0_worth_11, x_X0_worth_12, x_X0_worth_15, x_X0_worth_18, x_X0_worth_20, x_X0_worth_22, x_X0_worth_25, x_X0_worth_26, x_X0_worth_29, x_X0_worth_30, x_X0_worth_32, x_X0_worth_35, x_X0_worth_38, x_X0_worth_39, x_X0_worth_40, x_X0_worth_43, x_X0_worth_46, x_X0_worth_47, List.length_cons, List.length_nil, Nat.reduceLeDiff, Nat.zero_add, iI_add, iI_sub, iI_mul, iI_neg, iI_lt, iI_le, iI_eq, jI_iI, B_True, B_False, B_t, B_f, ck_True, gd_True, cb_v, cb_n, p_mv_rw, p_fv_rw, p_rv_some, pA_1, pA_90, pA_92, pA_3, pA_5, pA_93, pA_4, pA_91, pA_6, pS_i, pB_i, pW_i, pZ_0, pZ_1, pZ_b, bI_e0, u1_s, u1_n, uA_s, uA_n, true_and, and_true, not_true_eq_false, not_false_eq_true, eq_self, iI_z, al1, al5, al3, al4, al90, al91, al92, al93, al6, Int.cast_ofNat_Int, Nat.reduceAdd, Int.reduceNeg, Int.reduceAdd, Int.reduceSub, Int.reduceMul, Int.reduceLT, Int.reduceLE, Int.reduceGT, Int.reduceGE, Int.reduceEq, Int.reduceNe, Nat.reduceEqDiff, Int.zero_add, Int.add_zero, p_ty0, p_ty1, p_ty2, p_ty3, p_ty4, p_ty5, p_ty8, p_ty9, p_ty10, t0, c_placeOf, c_on hB', hon, c_side, c_kind, c_wor, f2, f3, hw, gd_t]))
      all_goals first
        | (rw [show sm (a_wo bb s) k.toNat + m_wor (bb k % 10) = sm (a_wo bb s) (k + 1).toNat by rw [hss, show a_wo bb s k = m_wor (bb k % 10) from if_pos (by assumption)]]; exact ih (k + 1) _ (by omega) (by omega))
        | (rw [show sm (a_wo bb s) k.toNat = sm (a_wo bb s) (k + 1).toNat by rw [hss, show a_wo bb s k = 0 from if_neg (by assumption)]; omega]; exact ih (k + 1) _ (by omega) (by omega))
        | trace_state
  simp (disch := omega) only [x_X0_worth_0, x_X0_worth_1, x_X0_worth_2, x_X0_worth_3, x_X0_worth_5, x_X0_worth_7, x_X0_worth_10, x_X0_worth_11, x_X0_worth_12, x_X0_worth_15, x_X0_worth_18, x_X0_worth_20, x_X0_worth_22, x_X0_worth_25, x_X0_worth_26, x_X0_worth_29, x_X0_worth_30, x_X0_worth_32, x_X0_worth_35, x_X0_worth_38, x_X0_worth_39, x_X0_worth_40, x_X0_worth_43, x_X0_worth_46, x_X0_worth_47, List.length_cons, List.length_nil, Nat.reduceLeDiff, Nat.zero_add, iI_add, iI_sub, iI_mul, iI_neg, iI_lt, iI_le, iI_eq, jI_iI, B_True, B_False, B_t, B_f, ck_True, gd_True, cb_v, cb_n, p_mv_rw, p_fv_rw, p_rv_some, pA_1, pA_90, pA_92, pA_3, pA_5, pA_93, pA_4, pA_91, pA_6, pS_i, pB_i, pW_i, pZ_0, pZ_1, pZ_b, bI_e0, u1_s, u1_n, uA_s, uA_n, true_and, and_true, not_true_eq_false, not_false_eq_true, eq_self, iI_z, al1, al5, al3, al4, al90, al91, al92, al93, al6, Int.cast_ofNat_Int, Nat.reduceAdd, Int.reduceNeg, Int.reduceAdd, Int.reduceSub, Int.reduceMul, Int.reduceLT, Int.reduceLE, Int.reduceGT, Int.reduceGE, Int.reduceEq, Int.reduceNe, Nat.reduceEqDiff, Int.zero_add, Int.add_zero, p_ty0, p_ty1, p_ty2, p_ty3, p_ty4, p_ty5, p_ty8, p_ty9, p_ty10]
  exact key 91 0 _ (by omega) (by omega)
end PH9
