section PSLF
/-! the simulation's leaves -/
variable {d s b n : Nat} {T T1 : pT} {M M1 : pM} {F F1 : pF} {bb : Int → Int} {k t pas q its to as i c p x y j mv side : Int}
def ab (n : Int) : Int := if n < 0 then -n else n
theorem ab_rg (n : Int) : 0 ≤ ab n ∧ (ab n ≤ 5 ↔ -5 ≤ n ∧ n ≤ 5) ∧ (ab n = n ∨ ab n = -n) ∧ (ab n = 0 ↔ n = 0) ∧ n ≤ ab n ∧ -n ≤ ab n := by unfold ab; split <;> omega
theorem z_abs {n : Int} (hd : 1 ≤ d) (h : -1000000 ≤ n ∧ n ≤ 1000000) : callD d m_J9_abs_0f7a4 [.int (iI n)] T M F = some (.inl (some (.int (iI (ab n)))), T, M, F) := y_abs hd h
def onP (x y : Int) : Prop := (-5 ≤ x ∧ x ≤ 5) ∧ (-5 ≤ y ∧ y ≤ 5) ∧ -5 ≤ x + y ∧ x + y ≤ 5
def onPd (x y : Int) : Decidable (onP x y) := by unfold onP; infer_instance
theorem onP_cA : onP x y ↔ cA x y ≠ -1 := by
  constructor
  · rintro ⟨h1, h2, h3⟩; exact cA_of h1 h2 h3
  · intro h
    obtain ⟨-, -, h1, h2, h3⟩ := cA_ok h
    exact ⟨h1, h2, h3⟩
theorem z_isOn (hx : -1000 ≤ x ∧ x ≤ 1000) (hy : -1000 ≤ y ∧ y ≤ 1000) (hd : 2 ≤ d) : callD d m_X8_isOn [.int (iI x), .int (iI y)] T M F = some (.inl (some (.int (iI (bI (onP x y))))), T, M, F) := by
  refine callD_go 1 hd rfl (fun e he => ?_)
  show R e m_X8_isOn 0 [.val (.int (iI x)), .val (.int (iI y))] [] T M F = _
  have e1 := z_abs (d := e) (T := T) (M := M) (F := F) (n := x) he (by omega)
  have e2 := z_abs (d := e) (T := T) (M := M) (F := F) (n := y) he (by omega)
  have e3 := z_abs (d := e) (T := T) (M := M) (F := F) (n := x + y) he (by omega)
  have r1 := ab_rg x
  have r2 := ab_rg y
  have r3 := ab_rg (x + y)
  have ho : onP x y ↔ ab x ≤ 5 ∧ ab y ≤ 5 ∧ ab (x + y) ≤ 5 := by unfold onP; omega
  generalize ab x = ax at *
  generalize ab y = ay at *
  generalize ab (x + y) = az at *
  by_cases c1 : ax ≤ 5
  · by_cases c2 : ay ≤ 5
    · by_cases c3 : az ≤ 5
      · rw [bI_t (ho.mpr ⟨c1, c2, c3⟩)]
        simp (disch := omega) only [x_X8_isOn_0, x_X8_isOn_1, x_X8_isOn_4, x_X8_isOn_5, x_X8_isOn_8, x_X8_isOn_9, x_X8_isOn_12, x_X8_isOn_13, x_X8_isOn_16, x_X8_isOn_17, x_X8_isOn_18, x_X8_isOn_19, x_X8_isOn_22, x_X8_isOn_23, x_X8_isOn_26, x_X8_isOn_27, x_X8_isOn_30, x_X8_isOn_31, List.length_cons, List.length_nil, Nat.reduceLeDiff, Nat.zero_add, iI_add, iI_sub, iI_mul, iI_neg, iI_lt, iI_le, iI_eq, jI_iI, B_True, B_False, B_t, B_f, ck_True, gd_True, cb_v, cb_n, p_mv_rw, p_fv_rw, p_rv_some, pA_1, pA_90, pA_92, pA_3, pA_5, pA_93, pA_4, pA_91, pA_6, pS_i, pB_i, pW_i, pZ_0, pZ_1, pZ_b, bI_e0, u1_s, u1_n, uA_s, uA_n, true_and, and_true, not_true_eq_false, not_false_eq_true, eq_self, iI_z, al1, al5, al3, al4, al90, al91, al92, al93, al6, Int.cast_ofNat_Int, Nat.reduceAdd, Int.reduceNeg, Int.reduceAdd, Int.reduceSub, Int.reduceMul, Int.reduceLT, Int.reduceLE, Int.reduceGT, Int.reduceGE, Int.reduceEq, Int.reduceNe, Nat.reduceEqDiff, Int.zero_add, Int.add_zero, p_ty0, p_ty1, p_ty2, p_ty3, p_ty4, p_ty5, p_ty8, p_ty9, p_ty10, e1, e2, e3, gd_t, B_t, B_f]
      · rw [bI_f (fun z => c3 (ho.mp z).2.2)]
        simp (disch := omega) only [x_X8_isOn_0, x_X8_isOn_1, x_X8_isOn_4, x_X8_isOn_5, x_X8_isOn_8, x_X8_isOn_9, x_X8_isOn_12, x_X8_isOn_13, x_X8_isOn_16, x_X8_isOn_17, x_X8_isOn_18, x_X8_isOn_19, x_X8_isOn_22, x_X8_isOn_23, x_X8_isOn_26, x_X8_isOn_27, x_X8_isOn_30, x_X8_isOn_31, List.length_cons, List.length_nil, Nat.reduceLeDiff, Nat.zero_add, iI_add, iI_sub, iI_mul, iI_neg, iI_lt, iI_le, iI_eq, jI_iI, B_True, B_False, B_t, B_f, ck_True, gd_True, cb_v, cb_n, p_mv_rw, p_fv_rw, p_rv_some, pA_1, pA_90, pA_92, pA_3, pA_5, pA_93, pA_4, pA_91, pA_6, pS_i, pB_i, pW_i, pZ_0, pZ_1, pZ_b, bI_e0, u1_s, u1_n, uA_s, uA_n, true_and, and_true, not_true_eq_false, not_false_eq_true, eq_self, iI_z, al1, al5, al3, al4, al90, al91, al92, al93, al6, Int.cast_ofNat_Int, Nat.reduceAdd, Int.reduceNeg, Int.reduceAdd, Int.reduceSub, Int.reduceMul, Int.reduceLT, Int.reduceLE, Int.reduceGT, Int.reduceGE, Int.reduceEq, Int.reduceNe, Nat.reduceEqDiff, Int.zero_add, Int.add_zero, p_ty0, p_ty1, p_ty2, p_ty3, p_ty4, p_ty5, p_ty8, p_ty9, p_ty10, e1, e2, e3, gd_t, B_t, B_f]
    · rw [bI_f (fun z => c2 (ho.mp z).2.1)]
      simp (disch := omega) only [x_X8_isOn_0, x_X8_isOn_1, x_X8_isOn_4, x_X8_isOn_5, x_X8_isOn_8, x_X8_isOn_9, x_X8_isOn_12, x_X8_isOn_13, x_X8_isOn_16, x_X8_isOn_17, x_X8_isOn_18, x_X8_isOn_19, x_X8_isOn_22, x_X8_isOn_23, x_X8_isOn_26, x_X8_isOn_27, x_X8_isOn_30, x_X8_isOn_31, List.length_cons, List.length_nil, Nat.reduceLeDiff, Nat.zero_add, iI_add, iI_sub, iI_mul, iI_neg, iI_lt, iI_le, iI_eq, jI_iI, B_True, B_False, B_t, B_f, ck_True, gd_True, cb_v, cb_n, p_mv_rw, p_fv_rw, p_rv_some, pA_1, pA_90, pA_92, pA_3, pA_5, pA_93, pA_4, pA_91, pA_6, pS_i, pB_i, pW_i, pZ_0, pZ_1, pZ_b, bI_e0, u1_s, u1_n, uA_s, uA_n, true_and, and_true, not_true_eq_false, not_false_eq_true, eq_self, iI_z, al1, al5, al3, al4, al90, al91, al92, al93, al6, Int.cast_ofNat_Int, Nat.reduceAdd, Int.reduceNeg, Int.reduceAdd, Int.reduceSub, Int.reduceMul, Int.reduceLT, Int.reduceLE, Int.reduceGT, Int.reduceGE, Int.reduceEq, Int.reduceNe, Nat.reduceEqDiff, Int.zero_add, Int.add_zero, p_ty0, p_ty1, p_ty2, p_ty3, p_ty4, p_ty5, p_ty8, p_ty9, p_ty10, e1, e2, e3, gd_t, B_t, B_f]
  · rw [bI_f (fun z => c1 (ho.mp z).1)]
    simp (disch := omega) only [x_X8_isOn_0, x_X8_isOn_1, x_X8_isOn_4, x_X8_isOn_5, x_X8_isOn_8, x_X8_isOn_9, x_X8_isOn_12, x_X8_isOn_13, x_X8_isOn_16, x_X8_isOn_17, x_X8_isOn_18, x_X8_isOn_19, x_X8_isOn_22, x_X8_isOn_23, x_X8_isOn_26, x_X8_isOn_27, x_X8_isOn_30, x_X8_isOn_31, List.length_cons, List.length_nil, Nat.reduceLeDiff, Nat.zero_add, iI_add, iI_sub, iI_mul, iI_neg, iI_lt, iI_le, iI_eq, jI_iI, B_True, B_False, B_t, B_f, ck_True, gd_True, cb_v, cb_n, p_mv_rw, p_fv_rw, p_rv_some, pA_1, pA_90, pA_92, pA_3, pA_5, pA_93, pA_4, pA_91, pA_6, pS_i, pB_i, pW_i, pZ_0, pZ_1, pZ_b, bI_e0, u1_s, u1_n, uA_s, uA_n, true_and, and_true, not_true_eq_false, not_false_eq_true, eq_self, iI_z, al1, al5, al3, al4, al90, al91, al92, al93, al6, Int.cast_ofNat_Int, Nat.reduceAdd, Int.reduceNeg, Int.reduceAdd, Int.reduceSub, Int.reduceMul, Int.reduceLT, Int.reduceLE, Int.reduceGT, Int.reduceGE, Int.reduceEq, Int.reduceNe, Nat.reduceEqDiff, Int.zero_add, Int.add_zero, p_ty0, p_ty1, p_ty2, p_ty3, p_ty4, p_ty5, p_ty8, p_ty9, p_ty10, e1, e2, e3, gd_t, B_t, B_f]
def pf : Nat → Int → Int → Int
  | 0, _, _ => 0
  | m + 1, col, left => if 11 - ab (col - 5) ≤ left then pf m (col + 1) (left - (11 - ab (col - 5))) else 11 * col + left - (if col - 5 < 0 then col - 5 else 0)
def pfo : Nat → Int → Int → Bool
  | 0, _, _ => false
  | m + 1, col, left => if 11 - ab (col - 5) ≤ left then pfo m (col + 1) (left - (11 - ab (col - 5))) else true
theorem pfN : ∀ c : Nat, c < 91 → pfo 12 0 (c : Int) = true ∧ pf 12 0 (c : Int) = pl1 c := by decide +kernel
theorem z_plL (e : Nat) (he : 1 ≤ e) (l0 l3 : Slot) : ∀ (m : Nat) (col left : Int), (0 ≤ col ∧ col + m ≤ 12) → (0 ≤ left ∧ left ≤ 200) → pfo m col left = true → R e m_X8_placeOf 4 [l0, .val (.int (iI col)), .val (.int (iI left)), l3] [] T M F = some (.inl (some (.int (iI (pf m col left)))), T, M, F)
  | 0, col, left, _, _, h => by cases h
  | m + 1, col, left, hc, hl, h => by
    rw [pfo] at h
    rw [pf]
    have e1 := z_abs (d := e) (T := T) (M := M) (F := F) (n := col - 5) he (by omega)
    have r1 := ab_rg (col - 5)
    have r2 : ab (col - 5) ≤ 7 := by omega
    by_cases c : 11 - ab (col - 5) ≤ left
    · rw [if_pos c] at h ⊢
      rw [← z_plL e he l0 l3 m (col + 1) (left - (11 - ab (col - 5))) (by omega) (by omega) h]
      generalize ab (col - 5) = z at *
      rw [x_X8_placeOf_4]
      simp (disch := omega) only [x_X8_placeOf_5, x_X8_placeOf_7, x_X8_placeOf_8, x_X8_placeOf_9, x_X8_placeOf_10, x_X8_placeOf_13, x_X8_placeOf_14, x_X8_placeOf_17, x_X8_placeOf_18, x_X8_placeOf_20, x_X8_placeOf_21, x_X8_placeOf_22, x_X8_placeOf_23, x_X8_placeOf_26, x_X8_placeOf_27, x_X8_placeOf_28, x_X8_placeOf_29, x_X8_placeOf_32, List.length_cons, List.length_nil, Nat.reduceLeDiff, Nat.zero_add, iI_add, iI_sub, iI_mul, iI_neg, iI_lt, iI_le, iI_eq, jI_iI, B_True, B_False, B_t, B_f, ck_True, gd_True, cb_v, cb_n, p_mv_rw, p_fv_rw, p_rv_some, pA_1, pA_90, pA_92, pA_3, pA_5, pA_93, pA_4, pA_91, pA_6, pS_i, pB_i, pW_i, pZ_0, pZ_1, pZ_b, bI_e0, u1_s, u1_n, uA_s, uA_n, true_and, and_true, not_true_eq_false, not_false_eq_true, eq_self, iI_z, al1, al5, al3, al4, al90, al91, al92, al93, al6, Int.cast_ofNat_Int, Nat.reduceAdd, Int.reduceNeg, Int.reduceAdd, Int.reduceSub, Int.reduceMul, Int.reduceLT, Int.reduceLE, Int.reduceGT, Int.reduceGE, Int.reduceEq, Int.reduceNe, Nat.reduceEqDiff, Int.zero_add, Int.add_zero, p_ty0, p_ty1, p_ty2, p_ty3, p_ty4, p_ty5, p_ty8, p_ty9, p_ty10, e1, gd_t, B_t, B_f]
    · rw [if_neg c] at h ⊢
      generalize ab (col - 5) = z at *
      by_cases c2 : col - 5 < 0
      · rw [if_pos c2]
        simp (disch := omega) only [x_X8_placeOf_0, x_X8_placeOf_1, x_X8_placeOf_2, x_X8_placeOf_3, x_X8_placeOf_4, x_X8_placeOf_5, x_X8_placeOf_7, x_X8_placeOf_8, x_X8_placeOf_9, x_X8_placeOf_10, x_X8_placeOf_13, x_X8_placeOf_14, x_X8_placeOf_17, x_X8_placeOf_18, x_X8_placeOf_20, x_X8_placeOf_21, x_X8_placeOf_22, x_X8_placeOf_23, x_X8_placeOf_26, x_X8_placeOf_27, x_X8_placeOf_28, x_X8_placeOf_29, x_X8_placeOf_32, x_X8_placeOf_35, x_X8_placeOf_36, x_X8_placeOf_37, x_X8_placeOf_38, x_X8_placeOf_39, x_X8_placeOf_41, x_X8_placeOf_42, x_X8_placeOf_43, x_X8_placeOf_44, x_X8_placeOf_45, x_X8_placeOf_46, x_X8_placeOf_49, x_X8_placeOf_50, x_X8_placeOf_53, x_X8_placeOf_54, x_X8_placeOf_55, List.length_cons, List.length_nil, Nat.reduceLeDiff, Nat.zero_add, iI_add, iI_sub, iI_mul, iI_neg, iI_lt, iI_le, iI_eq, jI_iI, B_True, B_False, B_t, B_f, ck_True, gd_True, cb_v, cb_n, p_mv_rw, p_fv_rw, p_rv_some, pA_1, pA_90, pA_92, pA_3, pA_5, pA_93, pA_4, pA_91, pA_6, pS_i, pB_i, pW_i, pZ_0, pZ_1, pZ_b, bI_e0, u1_s, u1_n, uA_s, uA_n, true_and, and_true, not_true_eq_false, not_false_eq_true, eq_self, iI_z, al1, al5, al3, al4, al90, al91, al92, al93, al6, Int.cast_ofNat_Int, Nat.reduceAdd, Int.reduceNeg, Int.reduceAdd, Int.reduceSub, Int.reduceMul, Int.reduceLT, Int.reduceLE, Int.reduceGT, Int.reduceGE, Int.reduceEq, Int.reduceNe, Nat.reduceEqDiff, Int.zero_add, Int.add_zero, p_ty0, p_ty1, p_ty2, p_ty3, p_ty4, p_ty5, p_ty8, p_ty9, p_ty10, e1, gd_t, B_t, B_f]
      · rw [if_neg c2]
        simp (disch := omega) only [x_X8_placeOf_0, x_X8_placeOf_1, x_X8_placeOf_2, x_X8_placeOf_3, x_X8_placeOf_4, x_X8_placeOf_5, x_X8_placeOf_7, x_X8_placeOf_8, x_X8_placeOf_9, x_X8_placeOf_10, x_X8_placeOf_13, x_X8_placeOf_14, x_X8_placeOf_17, x_X8_placeOf_18, x_X8_placeOf_20, x_X8_placeOf_21, x_X8_placeOf_22, x_X8_placeOf_23, x_X8_placeOf_26, x_X8_placeOf_27, x_X8_placeOf_28, x_X8_placeOf_29, x_X8_placeOf_32, x_X8_placeOf_35, x_X8_placeOf_36, x_X8_placeOf_37, x_X8_placeOf_38, x_X8_placeOf_39, x_X8_placeOf_41, x_X8_placeOf_42, x_X8_placeOf_43, x_X8_placeOf_44, x_X8_placeOf_45, x_X8_placeOf_46, x_X8_placeOf_49, x_X8_placeOf_50, x_X8_placeOf_53, x_X8_placeOf_54, x_X8_placeOf_55, List.length_cons, List.length_nil, Nat.reduceLeDiff, Nat.zero_add, iI_add, iI_sub, iI_mul, iI_neg, iI_lt, iI_le, iI_eq, jI_iI, B_True, B_False, B_t, B_f, ck_True, gd_True, cb_v, cb_n, p_mv_rw, p_fv_rw, p_rv_some, pA_1, pA_90, pA_92, pA_3, pA_5, pA_93, pA_4, pA_91, pA_6, pS_i, pB_i, pW_i, pZ_0, pZ_1, pZ_b, bI_e0, u1_s, u1_n, uA_s, uA_n, true_and, and_true, not_true_eq_false, not_false_eq_true, eq_self, iI_z, al1, al5, al3, al4, al90, al91, al92, al93, al6, Int.cast_ofNat_Int, Nat.reduceAdd, Int.reduceNeg, Int.reduceAdd, Int.reduceSub, Int.reduceMul, Int.reduceLT, Int.reduceLE, Int.reduceGT, Int.reduceGE, Int.reduceEq, Int.reduceNe, Nat.reduceEqDiff, Int.zero_add, Int.add_zero, p_ty0, p_ty1, p_ty2, p_ty3, p_ty4, p_ty5, p_ty8, p_ty9, p_ty10, e1, gd_t, B_t, B_f]
theorem z_placeOf (hk : 0 ≤ k ∧ k < 91) (hd : 2 ≤ d) : callD d m_X8_placeOf [.int (iI k)] T M F = some (.inl (some (.int (iI (pl1 k)))), T, M, F) := by
  refine callD_go 1 hd rfl (fun e he => ?_)
  show R e m_X8_placeOf 0 [.val (.int (iI k)), .unset, .unset, .unset] [] T M F = _
  have h := pfN k.toNat (by omega)
  rw [Int.toNat_of_nonneg hk.1] at h
  rw [← h.2, ← z_plL e he (.val (.int (iI k))) .unset 12 0 k (by omega) (by omega) h.1]
  simp (disch := omega) only [x_X8_placeOf_0, x_X8_placeOf_1, x_X8_placeOf_2, x_X8_placeOf_3, List.length_cons, List.length_nil, Nat.reduceLeDiff, Nat.zero_add, iI_add, iI_sub, iI_mul, iI_neg, iI_lt, iI_le, iI_eq, jI_iI, B_True, B_False, B_t, B_f, ck_True, gd_True, cb_v, cb_n, p_mv_rw, p_fv_rw, p_rv_some, pA_1, pA_90, pA_92, pA_3, pA_5, pA_93, pA_4, pA_91, pA_6, pS_i, pB_i, pW_i, pZ_0, pZ_1, pZ_b, bI_e0, u1_s, u1_n, uA_s, uA_n, true_and, and_true, not_true_eq_false, not_false_eq_true, eq_self, iI_z, al1, al5, al3, al4, al90, al91, al92, al93, al6, Int.cast_ofNat_Int, Nat.reduceAdd, Int.reduceNeg, Int.reduceAdd, Int.reduceSub, Int.reduceMul, Int.reduceLT, Int.reduceLE, Int.reduceGT, Int.reduceGE, Int.reduceEq, Int.reduceNe, Nat.reduceEqDiff, Int.zero_add, Int.add_zero, p_ty0, p_ty1, p_ty2, p_ty3, p_ty4, p_ty5, p_ty8, p_ty9, p_ty10]
def cf : Nat → Int → Int
  | 0, _ => 0
  | m + 1, k => (@ite Int (onP (k / 11 - 5) (k % 11 - 5)) (onPd (k / 11 - 5) (k % 11 - 5)) 1 0) + cf m (k + 1)
theorem cfN : ∀ c : Nat, c < 91 → cf (pl1 (c : Int)).toNat 0 = c := by decide +kernel
theorem idv11 {k : Int} (h : 0 ≤ k ∧ k ≤ 1000) : iI k / iI 11 = iI (k / 11) ∧ k - k / 11 * 11 = k % 11 := ⟨iI_div (a := k) (b := 11) (by omega) (by omega) (by decide) (by decide), by omega⟩
theorem z_clL (e : Nat) (he : 2 ≤ e) (hp : 0 ≤ p ∧ p ≤ 121) : ∀ (m : Nat) (sum k : Int), (0 ≤ sum ∧ sum ≤ k) → 0 ≤ k → k + m = p → R e m_X8_cellOf 4 [.val (.int (iI p)), .val (.int (iI sum)), .val (.int (iI k))] [] T M F = some (.inl (some (.int (iI (sum + cf m k)))), T, M, F)
  | 0, sum, k, hs, hk, hm => by
    rw [cf, Int.add_zero]
    obtain rfl : k = p := by omega
    simp (disch := omega) only [x_X8_cellOf_0, x_X8_cellOf_1, x_X8_cellOf_2, x_X8_cellOf_3, x_X8_cellOf_4, x_X8_cellOf_5, x_X8_cellOf_6, x_X8_cellOf_9, x_X8_cellOf_10, x_X8_cellOf_11, x_X8_cellOf_13, x_X8_cellOf_14, x_X8_cellOf_15, x_X8_cellOf_16, x_X8_cellOf_17, x_X8_cellOf_19, x_X8_cellOf_20, x_X8_cellOf_21, x_X8_cellOf_22, x_X8_cellOf_25, x_X8_cellOf_28, x_X8_cellOf_29, x_X8_cellOf_32, x_X8_cellOf_33, x_X8_cellOf_34, x_X8_cellOf_35, x_X8_cellOf_38, x_X8_cellOf_41, x_X8_cellOf_42, List.length_cons, List.length_nil, Nat.reduceLeDiff, Nat.zero_add, iI_add, iI_sub, iI_mul, iI_neg, iI_lt, iI_le, iI_eq, jI_iI, B_True, B_False, B_t, B_f, ck_True, gd_True, cb_v, cb_n, p_mv_rw, p_fv_rw, p_rv_some, pA_1, pA_90, pA_92, pA_3, pA_5, pA_93, pA_4, pA_91, pA_6, pS_i, pB_i, pW_i, pZ_0, pZ_1, pZ_b, bI_e0, u1_s, u1_n, uA_s, uA_n, true_and, and_true, not_true_eq_false, not_false_eq_true, eq_self, iI_z, al1, al5, al3, al4, al90, al91, al92, al93, al6, Int.cast_ofNat_Int, Nat.reduceAdd, Int.reduceNeg, Int.reduceAdd, Int.reduceSub, Int.reduceMul, Int.reduceLT, Int.reduceLE, Int.reduceGT, Int.reduceGE, Int.reduceEq, Int.reduceNe, Nat.reduceEqDiff, Int.zero_add, Int.add_zero, p_ty0, p_ty1, p_ty2, p_ty3, p_ty4, p_ty5, p_ty8, p_ty9, p_ty10, B_t, B_f]
  | m + 1, sum, k, hs, hk, hm => by
    rw [cf]
    obtain ⟨d1, d2⟩ := idv11 (k := k) (by omega)
    have e1 := z_isOn (d := e) (T := T) (M := M) (F := F) (x := k / 11 - 5) (y := k % 11 - 5) (by omega) (by omega) he
    by_cases c : onP (k / 11 - 5) (k % 11 - 5)
    · rw [if_pos c, ← Int.add_assoc, ← z_clL e he hp m (sum + 1) (k + 1) (by omega) (by omega) (by omega)]
      rw [bI_t c] at e1
      rw [x_X8_cellOf_4]
      simp (disch := omega) only [x_X8_cellOf_5, x_X8_cellOf_6, x_X8_cellOf_9, x_X8_cellOf_10, x_X8_cellOf_11, x_X8_cellOf_13, x_X8_cellOf_14, x_X8_cellOf_15, x_X8_cellOf_16, x_X8_cellOf_17, x_X8_cellOf_19, x_X8_cellOf_20, x_X8_cellOf_21, x_X8_cellOf_22, x_X8_cellOf_25, x_X8_cellOf_28, x_X8_cellOf_29, x_X8_cellOf_32, x_X8_cellOf_33, x_X8_cellOf_34, x_X8_cellOf_35, x_X8_cellOf_38, List.length_cons, List.length_nil, Nat.reduceLeDiff, Nat.zero_add, iI_add, iI_sub, iI_mul, iI_neg, iI_lt, iI_le, iI_eq, jI_iI, B_True, B_False, B_t, B_f, ck_True, gd_True, cb_v, cb_n, p_mv_rw, p_fv_rw, p_rv_some, pA_1, pA_90, pA_92, pA_3, pA_5, pA_93, pA_4, pA_91, pA_6, pS_i, pB_i, pW_i, pZ_0, pZ_1, pZ_b, bI_e0, u1_s, u1_n, uA_s, uA_n, true_and, and_true, not_true_eq_false, not_false_eq_true, eq_self, iI_z, al1, al5, al3, al4, al90, al91, al92, al93, al6, Int.cast_ofNat_Int, Nat.reduceAdd, Int.reduceNeg, Int.reduceAdd, Int.reduceSub, Int.reduceMul, Int.reduceLT, Int.reduceLE, Int.reduceGT, Int.reduceGE, Int.reduceEq, Int.reduceNe, Nat.reduceEqDiff, Int.zero_add, Int.add_zero, p_ty0, p_ty1, p_ty2, p_ty3, p_ty4, p_ty5, p_ty8, p_ty9, p_ty10, d1, d2, e1, gd_t, B_t, B_f]
    · rw [if_neg c, Int.zero_add, ← z_clL e he hp m sum (k + 1) (by omega) (by omega) (by omega)]
      rw [bI_f c] at e1
      rw [x_X8_cellOf_4]
      simp (disch := omega) only [x_X8_cellOf_5, x_X8_cellOf_6, x_X8_cellOf_9, x_X8_cellOf_10, x_X8_cellOf_11, x_X8_cellOf_13, x_X8_cellOf_14, x_X8_cellOf_15, x_X8_cellOf_16, x_X8_cellOf_17, x_X8_cellOf_19, x_X8_cellOf_20, x_X8_cellOf_21, x_X8_cellOf_22, x_X8_cellOf_25, x_X8_cellOf_28, x_X8_cellOf_29, x_X8_cellOf_32, x_X8_cellOf_33, x_X8_cellOf_34, x_X8_cellOf_35, x_X8_cellOf_38, List.length_cons, List.length_nil, Nat.reduceLeDiff, Nat.zero_add, iI_add, iI_sub, iI_mul, iI_neg, iI_lt, iI_le, iI_eq, jI_iI, B_True, B_False, B_t, B_f, ck_True, gd_True, cb_v, cb_n, p_mv_rw, p_fv_rw, p_rv_some, pA_1, pA_90, pA_92, pA_3, pA_5, pA_93, pA_4, pA_91, pA_6, pS_i, pB_i, pW_i, pZ_0, pZ_1, pZ_b, bI_e0, u1_s, u1_n, uA_s, uA_n, true_and, and_true, not_true_eq_false, not_false_eq_true, eq_self, iI_z, al1, al5, al3, al4, al90, al91, al92, al93, al6, Int.cast_ofNat_Int, Nat.reduceAdd, Int.reduceNeg, Int.reduceAdd, Int.reduceSub, Int.reduceMul, Int.reduceLT, Int.reduceLE, Int.reduceGT, Int.reduceGE, Int.reduceEq, Int.reduceNe, Nat.reduceEqDiff, Int.zero_add, Int.add_zero, p_ty0, p_ty1, p_ty2, p_ty3, p_ty4, p_ty5, p_ty8, p_ty9, p_ty10, d1, d2, e1, gd_t, B_t, B_f]
theorem z_cellOf (hk : 0 ≤ k ∧ k < 91) (hd : 3 ≤ d) : callD d m_X8_cellOf [.int (iI (pl1 k))] T M F = some (.inl (some (.int (iI k))), T, M, F) := by
  refine callD_go 2 hd rfl (fun e he => ?_)
  show R e m_X8_cellOf 0 [.val (.int (iI (pl1 k))), .unset, .unset] [] T M F = _
  have h := cfN k.toNat (by omega)
  rw [Int.toNat_of_nonneg hk.1] at h
  obtain ⟨-, hp, -⟩ := c1_pl1 hk
  have e1 := z_clL (T := T) (M := M) (F := F) e he (p := pl1 k) (by omega) (pl1 k).toNat 0 0 (by omega) (by omega) (by omega)
  rw [Int.zero_add, h] at e1
  rw [← e1]
  simp (disch := omega) only [x_X8_cellOf_0, x_X8_cellOf_1, x_X8_cellOf_2, x_X8_cellOf_3, List.length_cons, List.length_nil, Nat.reduceLeDiff, Nat.zero_add, iI_add, iI_sub, iI_mul, iI_neg, iI_lt, iI_le, iI_eq, jI_iI, B_True, B_False, B_t, B_f, ck_True, gd_True, cb_v, cb_n, p_mv_rw, p_fv_rw, p_rv_some, pA_1, pA_90, pA_92, pA_3, pA_5, pA_93, pA_4, pA_91, pA_6, pS_i, pB_i, pW_i, pZ_0, pZ_1, pZ_b, bI_e0, u1_s, u1_n, uA_s, uA_n, true_and, and_true, not_true_eq_false, not_false_eq_true, eq_self, iI_z, al1, al5, al3, al4, al90, al91, al92, al93, al6, Int.cast_ofNat_Int, Nat.reduceAdd, Int.reduceNeg, Int.reduceAdd, Int.reduceSub, Int.reduceMul, Int.reduceLT, Int.reduceLE, Int.reduceGT, Int.reduceGE, Int.reduceEq, Int.reduceNe, Nat.reduceEqDiff, Int.zero_add, Int.add_zero, p_ty0, p_ty1, p_ty2, p_ty3, p_ty4, p_ty5, p_ty8, p_ty9, p_ty10]
/-! the object -/
def SI (T : pT) (F : pF) (s b : Nat) : Prop := 100 ≤ s ∧ p_ty T s = (18, 5) ∧ F s 0 = some b ∧ 100 ≤ b ∧ p_ty T b = (1, 121) ∧ s ≠ b
def pp1 (c : Int) : Int := if c = -1 then -1 else pl1 c
def SM (M : pM) (s b : Nat) (bb : Int → Int) (t pas q mv : Int) : Prop := (SB1 (M b) bb ∧ MB bb) ∧ M s 1 = t ∧ M s 2 = pp1 pas ∧ M s 3 = q ∧ M s 4 = mv ∧ (t = 0 ∨ t = 1) ∧ (pas = -1 ∨ 0 ≤ pas ∧ pas < 91) ∧ (0 ≤ q ∧ q ≤ 1000) ∧ (0 ≤ mv ∧ mv ≤ 1000)
def isw (bb : Int → Int) (p side : Int) : Prop := c1 p ≠ -1 ∧ m_side (bb (c1 p)) = side
theorem SB1.own {v : Int → Int} (h : SB1 v bb) (hb : MB bb) (hp : 0 ≤ p ∧ p < 121) (hs : side = 0 ∨ side = 1) : (isw bb p side ↔ v p ≠ 0 ∧ v p ≠ 99 ∧ (0 < v p ↔ side = 0)) ∧ -6 ≤ v p ∧ v p ≤ 99 ∧ (isw bb p side → v p = sv (bb (c1 p)) ∧ (0 ≤ c1 p ∧ c1 p < 91) ∧ pl1 (c1 p) = p) := by
  have h1 := h p hp
  unfold isw
  rcases pl1_c1 hp with c | ⟨c, c2⟩
  · rw [if_pos c] at h1
    rw [h1, c]
    refine ⟨⟨fun z => absurd rfl z.1, fun z => absurd rfl z.2.1⟩, by omega, by omega, fun z => absurd rfl z.1⟩
  · rw [if_neg (by omega)] at h1
    obtain ⟨f1, f2, f3, f4, -⟩ := sv_f hb (c1 p)
    rw [h1]
    refine ⟨⟨fun z => ?_, fun z => ⟨by omega, ?_⟩⟩, by omega, by omega, fun _ => ⟨rfl, c, c2⟩⟩
    · rcases hs with rfl | rfl
      · have := f3.mpr z.2; omega
      · have := f4.mpr z.2; omega
    · rcases hs with rfl | rfl
      · exact f3.mp (by omega)
      · exact f4.mp (by omega)
theorem z_isOwn (hI : SI T F s b) (hS : SB1 (M b) bb ∧ MB bb) (hp : 0 ≤ p ∧ p < 121) (hs : side = 0 ∨ side = 1) (hd : 1 ≤ d) : callD d m_X8_isOwn [.ref s, .int (iI p), .int (iI side)] T M F = some (.inl (some (.int (iI (bI (isw bb p side))))), T, M, F) := by
  refine callD_go 0 hd rfl (fun e he => ?_)
  show R e m_X8_isOwn 0 [.val (.ref s), .val (.int (iI p)), .val (.int (iI side))] [] T M F = _
  obtain ⟨h100, t0, f0, hb, t1, hsb⟩ := hI
  obtain ⟨h1, h2, h3, -⟩ := hS.1.own hS.2 hp hs
  rw [bI_iff h1]
  clear h1 hS
  generalize hv : M b p = v at *
  by_cases c1 : v = 0
  · rw [bI_f (fun z => z.1 c1)]
    simp (disch := omega) only [x_X8_isOwn_0, x_X8_isOwn_1, x_X8_isOwn_4, x_X8_isOwn_5, x_X8_isOwn_6, x_X8_isOwn_9, x_X8_isOwn_10, x_X8_isOwn_13, x_X8_isOwn_14, x_X8_isOwn_15, x_X8_isOwn_17, x_X8_isOwn_20, x_X8_isOwn_21, x_X8_isOwn_24, x_X8_isOwn_25, x_X8_isOwn_26, x_X8_isOwn_29, x_X8_isOwn_30, x_X8_isOwn_33, x_X8_isOwn_34, x_X8_isOwn_35, x_X8_isOwn_38, x_X8_isOwn_39, x_X8_isOwn_42, x_X8_isOwn_43, x_X8_isOwn_46, x_X8_isOwn_47, x_X8_isOwn_50, x_X8_isOwn_51, List.length_cons, List.length_nil, Nat.reduceLeDiff, Nat.zero_add, iI_add, iI_sub, iI_mul, iI_neg, iI_lt, iI_le, iI_eq, jI_iI, B_True, B_False, B_t, B_f, ck_True, gd_True, cb_v, cb_n, p_mv_rw, p_fv_rw, p_rv_some, pA_1, pA_90, pA_92, pA_3, pA_5, pA_93, pA_4, pA_91, pA_6, pS_i, pB_i, pW_i, pZ_0, pZ_1, pZ_b, bI_e0, u1_s, u1_n, uA_s, uA_n, true_and, and_true, not_true_eq_false, not_false_eq_true, eq_self, iI_z, al1, al5, al3, al4, al90, al91, al92, al93, al6, Int.cast_ofNat_Int, Nat.reduceAdd, Int.reduceNeg, Int.reduceAdd, Int.reduceSub, Int.reduceMul, Int.reduceLT, Int.reduceLE, Int.reduceGT, Int.reduceGE, Int.reduceEq, Int.reduceNe, Nat.reduceEqDiff, Int.zero_add, Int.add_zero, p_ty0, p_ty1, p_ty2, p_ty3, p_ty4, p_ty5, p_ty8, p_ty9, p_ty10, t0, f0, t1, hv, B_t, B_f]
  · by_cases c2 : v = 99
    · rw [bI_f (fun z => z.2.1 c2)]
      simp (disch := omega) only [x_X8_isOwn_0, x_X8_isOwn_1, x_X8_isOwn_4, x_X8_isOwn_5, x_X8_isOwn_6, x_X8_isOwn_9, x_X8_isOwn_10, x_X8_isOwn_13, x_X8_isOwn_14, x_X8_isOwn_15, x_X8_isOwn_17, x_X8_isOwn_20, x_X8_isOwn_21, x_X8_isOwn_24, x_X8_isOwn_25, x_X8_isOwn_26, x_X8_isOwn_29, x_X8_isOwn_30, x_X8_isOwn_33, x_X8_isOwn_34, x_X8_isOwn_35, x_X8_isOwn_38, x_X8_isOwn_39, x_X8_isOwn_42, x_X8_isOwn_43, x_X8_isOwn_46, x_X8_isOwn_47, x_X8_isOwn_50, x_X8_isOwn_51, List.length_cons, List.length_nil, Nat.reduceLeDiff, Nat.zero_add, iI_add, iI_sub, iI_mul, iI_neg, iI_lt, iI_le, iI_eq, jI_iI, B_True, B_False, B_t, B_f, ck_True, gd_True, cb_v, cb_n, p_mv_rw, p_fv_rw, p_rv_some, pA_1, pA_90, pA_92, pA_3, pA_5, pA_93, pA_4, pA_91, pA_6, pS_i, pB_i, pW_i, pZ_0, pZ_1, pZ_b, bI_e0, u1_s, u1_n, uA_s, uA_n, true_and, and_true, not_true_eq_false, not_false_eq_true, eq_self, iI_z, al1, al5, al3, al4, al90, al91, al92, al93, al6, Int.cast_ofNat_Int, Nat.reduceAdd, Int.reduceNeg, Int.reduceAdd, Int.reduceSub, Int.reduceMul, Int.reduceLT, Int.reduceLE, Int.reduceGT, Int.reduceGE, Int.reduceEq, Int.reduceNe, Nat.reduceEqDiff, Int.zero_add, Int.add_zero, p_ty0, p_ty1, p_ty2, p_ty3, p_ty4, p_ty5, p_ty8, p_ty9, p_ty10, t0, f0, t1, hv, B_t, B_f]
    · by_cases c3 : 0 < v
      · by_cases c4 : side = 0
        · rw [bI_t ⟨c1, c2, by omega⟩]
          simp (disch := omega) only [x_X8_isOwn_0, x_X8_isOwn_1, x_X8_isOwn_4, x_X8_isOwn_5, x_X8_isOwn_6, x_X8_isOwn_9, x_X8_isOwn_10, x_X8_isOwn_13, x_X8_isOwn_14, x_X8_isOwn_15, x_X8_isOwn_17, x_X8_isOwn_20, x_X8_isOwn_21, x_X8_isOwn_24, x_X8_isOwn_25, x_X8_isOwn_26, x_X8_isOwn_29, x_X8_isOwn_30, x_X8_isOwn_33, x_X8_isOwn_34, x_X8_isOwn_35, x_X8_isOwn_38, x_X8_isOwn_39, x_X8_isOwn_42, x_X8_isOwn_43, x_X8_isOwn_46, x_X8_isOwn_47, x_X8_isOwn_50, x_X8_isOwn_51, List.length_cons, List.length_nil, Nat.reduceLeDiff, Nat.zero_add, iI_add, iI_sub, iI_mul, iI_neg, iI_lt, iI_le, iI_eq, jI_iI, B_True, B_False, B_t, B_f, ck_True, gd_True, cb_v, cb_n, p_mv_rw, p_fv_rw, p_rv_some, pA_1, pA_90, pA_92, pA_3, pA_5, pA_93, pA_4, pA_91, pA_6, pS_i, pB_i, pW_i, pZ_0, pZ_1, pZ_b, bI_e0, u1_s, u1_n, uA_s, uA_n, true_and, and_true, not_true_eq_false, not_false_eq_true, eq_self, iI_z, al1, al5, al3, al4, al90, al91, al92, al93, al6, Int.cast_ofNat_Int, Nat.reduceAdd, Int.reduceNeg, Int.reduceAdd, Int.reduceSub, Int.reduceMul, Int.reduceLT, Int.reduceLE, Int.reduceGT, Int.reduceGE, Int.reduceEq, Int.reduceNe, Nat.reduceEqDiff, Int.zero_add, Int.add_zero, p_ty0, p_ty1, p_ty2, p_ty3, p_ty4, p_ty5, p_ty8, p_ty9, p_ty10, t0, f0, t1, hv, B_t, B_f]
        · rw [bI_f (fun z => by have := z.2.2; omega)]
          simp (disch := omega) only [x_X8_isOwn_0, x_X8_isOwn_1, x_X8_isOwn_4, x_X8_isOwn_5, x_X8_isOwn_6, x_X8_isOwn_9, x_X8_isOwn_10, x_X8_isOwn_13, x_X8_isOwn_14, x_X8_isOwn_15, x_X8_isOwn_17, x_X8_isOwn_20, x_X8_isOwn_21, x_X8_isOwn_24, x_X8_isOwn_25, x_X8_isOwn_26, x_X8_isOwn_29, x_X8_isOwn_30, x_X8_isOwn_33, x_X8_isOwn_34, x_X8_isOwn_35, x_X8_isOwn_38, x_X8_isOwn_39, x_X8_isOwn_42, x_X8_isOwn_43, x_X8_isOwn_46, x_X8_isOwn_47, x_X8_isOwn_50, x_X8_isOwn_51, List.length_cons, List.length_nil, Nat.reduceLeDiff, Nat.zero_add, iI_add, iI_sub, iI_mul, iI_neg, iI_lt, iI_le, iI_eq, jI_iI, B_True, B_False, B_t, B_f, ck_True, gd_True, cb_v, cb_n, p_mv_rw, p_fv_rw, p_rv_some, pA_1, pA_90, pA_92, pA_3, pA_5, pA_93, pA_4, pA_91, pA_6, pS_i, pB_i, pW_i, pZ_0, pZ_1, pZ_b, bI_e0, u1_s, u1_n, uA_s, uA_n, true_and, and_true, not_true_eq_false, not_false_eq_true, eq_self, iI_z, al1, al5, al3, al4, al90, al91, al92, al93, al6, Int.cast_ofNat_Int, Nat.reduceAdd, Int.reduceNeg, Int.reduceAdd, Int.reduceSub, Int.reduceMul, Int.reduceLT, Int.reduceLE, Int.reduceGT, Int.reduceGE, Int.reduceEq, Int.reduceNe, Nat.reduceEqDiff, Int.zero_add, Int.add_zero, p_ty0, p_ty1, p_ty2, p_ty3, p_ty4, p_ty5, p_ty8, p_ty9, p_ty10, t0, f0, t1, hv, B_t, B_f]
      · by_cases c4 : side = 0
        · rw [bI_f (fun z => by have := z.2.2; omega)]
          simp (disch := omega) only [x_X8_isOwn_0, x_X8_isOwn_1, x_X8_isOwn_4, x_X8_isOwn_5, x_X8_isOwn_6, x_X8_isOwn_9, x_X8_isOwn_10, x_X8_isOwn_13, x_X8_isOwn_14, x_X8_isOwn_15, x_X8_isOwn_17, x_X8_isOwn_20, x_X8_isOwn_21, x_X8_isOwn_24, x_X8_isOwn_25, x_X8_isOwn_26, x_X8_isOwn_29, x_X8_isOwn_30, x_X8_isOwn_33, x_X8_isOwn_34, x_X8_isOwn_35, x_X8_isOwn_38, x_X8_isOwn_39, x_X8_isOwn_42, x_X8_isOwn_43, x_X8_isOwn_46, x_X8_isOwn_47, x_X8_isOwn_50, x_X8_isOwn_51, List.length_cons, List.length_nil, Nat.reduceLeDiff, Nat.zero_add, iI_add, iI_sub, iI_mul, iI_neg, iI_lt, iI_le, iI_eq, jI_iI, B_True, B_False, B_t, B_f, ck_True, gd_True, cb_v, cb_n, p_mv_rw, p_fv_rw, p_rv_some, pA_1, pA_90, pA_92, pA_3, pA_5, pA_93, pA_4, pA_91, pA_6, pS_i, pB_i, pW_i, pZ_0, pZ_1, pZ_b, bI_e0, u1_s, u1_n, uA_s, uA_n, true_and, and_true, not_true_eq_false, not_false_eq_true, eq_self, iI_z, al1, al5, al3, al4, al90, al91, al92, al93, al6, Int.cast_ofNat_Int, Nat.reduceAdd, Int.reduceNeg, Int.reduceAdd, Int.reduceSub, Int.reduceMul, Int.reduceLT, Int.reduceLE, Int.reduceGT, Int.reduceGE, Int.reduceEq, Int.reduceNe, Nat.reduceEqDiff, Int.zero_add, Int.add_zero, p_ty0, p_ty1, p_ty2, p_ty3, p_ty4, p_ty5, p_ty8, p_ty9, p_ty10, t0, f0, t1, hv, B_t, B_f]
        · rw [bI_t ⟨c1, c2, by omega⟩]
          simp (disch := omega) only [x_X8_isOwn_0, x_X8_isOwn_1, x_X8_isOwn_4, x_X8_isOwn_5, x_X8_isOwn_6, x_X8_isOwn_9, x_X8_isOwn_10, x_X8_isOwn_13, x_X8_isOwn_14, x_X8_isOwn_15, x_X8_isOwn_17, x_X8_isOwn_20, x_X8_isOwn_21, x_X8_isOwn_24, x_X8_isOwn_25, x_X8_isOwn_26, x_X8_isOwn_29, x_X8_isOwn_30, x_X8_isOwn_33, x_X8_isOwn_34, x_X8_isOwn_35, x_X8_isOwn_38, x_X8_isOwn_39, x_X8_isOwn_42, x_X8_isOwn_43, x_X8_isOwn_46, x_X8_isOwn_47, x_X8_isOwn_50, x_X8_isOwn_51, List.length_cons, List.length_nil, Nat.reduceLeDiff, Nat.zero_add, iI_add, iI_sub, iI_mul, iI_neg, iI_lt, iI_le, iI_eq, jI_iI, B_True, B_False, B_t, B_f, ck_True, gd_True, cb_v, cb_n, p_mv_rw, p_fv_rw, p_rv_some, pA_1, pA_90, pA_92, pA_3, pA_5, pA_93, pA_4, pA_91, pA_6, pS_i, pB_i, pW_i, pZ_0, pZ_1, pZ_b, bI_e0, u1_s, u1_n, uA_s, uA_n, true_and, and_true, not_true_eq_false, not_false_eq_true, eq_self, iI_z, al1, al5, al3, al4, al90, al91, al92, al93, al6, Int.cast_ofNat_Int, Nat.reduceAdd, Int.reduceNeg, Int.reduceAdd, Int.reduceSub, Int.reduceMul, Int.reduceLT, Int.reduceLE, Int.reduceGT, Int.reduceGE, Int.reduceEq, Int.reduceNe, Nat.reduceEqDiff, Int.zero_add, Int.add_zero, p_ty0, p_ty1, p_ty2, p_ty3, p_ty4, p_ty5, p_ty8, p_ty9, p_ty10, t0, f0, t1, hv, B_t, B_f]
theorem z_frL (e : Nat) (hI : SI T F s b) {st n9 fr : Int} (hr : ∀ j, 1 ≤ j → j < n9 → 0 ≤ fr + j * st ∧ fr + j * st < 121) (hv : ∀ p, 0 ≤ p → p < 121 → -6 ≤ M b p ∧ M b p ≤ 99) (hn : n9 ≤ 20 ∧ 0 ≤ fr ∧ fr < 121 ∧ -100 ≤ st ∧ st ≤ 100) : ∀ (m : Nat) (k : Int), 1 ≤ k → k + m = n9 → R e m_X8_isFree 3 [.val (.ref s), .val (.int (iI fr)), .val (.int (iI st)), .val (.int (iI n9)), .val (.int (iI k))] [] T M F = some (.inl (some (.int (iI (bI (∀ j, k ≤ j → j < n9 → M b (fr + j * st) = 0))))), T, M, F)
  | 0, k, hk, hm => by
    have hm : k = n9 := by omega
    rw [bI_t (fun j j1 j2 => by omega)]
    obtain ⟨h100, t0, f0, hb, t1, hsb⟩ := hI
    clear hr hv
    subst hm
    simp (disch := omega) only [x_X8_isFree_0, x_X8_isFree_1, x_X8_isFree_3, x_X8_isFree_5, x_X8_isFree_6, x_X8_isFree_9, x_X8_isFree_10, x_X8_isFree_13, x_X8_isFree_14, x_X8_isFree_16, x_X8_isFree_17, x_X8_isFree_18, x_X8_isFree_19, x_X8_isFree_20, x_X8_isFree_23, x_X8_isFree_24, x_X8_isFree_25, x_X8_isFree_28, x_X8_isFree_31, x_X8_isFree_32, List.length_cons, List.length_nil, Nat.reduceLeDiff, Nat.zero_add, iI_add, iI_sub, iI_mul, iI_neg, iI_lt, iI_le, iI_eq, jI_iI, B_True, B_False, B_t, B_f, ck_True, gd_True, cb_v, cb_n, p_mv_rw, p_fv_rw, p_rv_some, pA_1, pA_90, pA_92, pA_3, pA_5, pA_93, pA_4, pA_91, pA_6, pS_i, pB_i, pW_i, pZ_0, pZ_1, pZ_b, bI_e0, u1_s, u1_n, uA_s, uA_n, true_and, and_true, not_true_eq_false, not_false_eq_true, eq_self, iI_z, al1, al5, al3, al4, al90, al91, al92, al93, al6, Int.cast_ofNat_Int, Nat.reduceAdd, Int.reduceNeg, Int.reduceAdd, Int.reduceSub, Int.reduceMul, Int.reduceLT, Int.reduceLE, Int.reduceGT, Int.reduceGE, Int.reduceEq, Int.reduceNe, Nat.reduceEqDiff, Int.zero_add, Int.add_zero, p_ty0, p_ty1, p_ty2, p_ty3, p_ty4, p_ty5, p_ty8, p_ty9, p_ty10, B_t, B_f]
  | m + 1, k, hk, hm => by
    have hm1 : k + 1 + m = n9 := by omega
    have hr1 := hr k hk (by omega)
    have hv1 := hv _ hr1.1 hr1.2
    have e2 : -2000 ≤ k * st ∧ k * st ≤ 2000 := by
      have a1 : k * st ≤ 20 * 100 := by
        have : k * st ≤ k * 100 := Int.mul_le_mul_of_nonneg_left (by omega) (by omega)
        omega
      have a2 : k * (-100) ≤ k * st := Int.mul_le_mul_of_nonneg_left (by omega) (by omega)
      omega
    have ih := z_frL e hI (st := st) hr hv hn m (k + 1) (by omega) (by omega)
    obtain ⟨h100, t0, f0, hb, t1, hsb⟩ := hI
    by_cases c : M b (fr + k * st) = 0
    · have hE : (∀ j, k ≤ j → j < n9 → M b (fr + j * st) = 0) ↔ (∀ j, k + 1 ≤ j → j < n9 → M b (fr + j * st) = 0) := ⟨fun h j j1 j2 => h j (by omega) j2, fun h j j1 j2 => by
        by_cases z : j = k
        · rw [z]; exact c
        · exact h j (by omega) j2⟩
      rw [bI_iff hE, ← ih]
      clear hr hv ih hE
      generalize hz : k * st = z at *
      rw [x_X8_isFree_3]
      simp (disch := omega) only [x_X8_isFree_5, x_X8_isFree_6, x_X8_isFree_9, x_X8_isFree_10, x_X8_isFree_13, x_X8_isFree_14, x_X8_isFree_16, x_X8_isFree_17, x_X8_isFree_18, x_X8_isFree_19, x_X8_isFree_20, x_X8_isFree_23, x_X8_isFree_24, x_X8_isFree_25, x_X8_isFree_28, List.length_cons, List.length_nil, Nat.reduceLeDiff, Nat.zero_add, iI_add, iI_sub, iI_mul, iI_neg, iI_lt, iI_le, iI_eq, jI_iI, B_True, B_False, B_t, B_f, ck_True, gd_True, cb_v, cb_n, p_mv_rw, p_fv_rw, p_rv_some, pA_1, pA_90, pA_92, pA_3, pA_5, pA_93, pA_4, pA_91, pA_6, pS_i, pB_i, pW_i, pZ_0, pZ_1, pZ_b, bI_e0, u1_s, u1_n, uA_s, uA_n, true_and, and_true, not_true_eq_false, not_false_eq_true, eq_self, iI_z, al1, al5, al3, al4, al90, al91, al92, al93, al6, Int.cast_ofNat_Int, Nat.reduceAdd, Int.reduceNeg, Int.reduceAdd, Int.reduceSub, Int.reduceMul, Int.reduceLT, Int.reduceLE, Int.reduceGT, Int.reduceGE, Int.reduceEq, Int.reduceNe, Nat.reduceEqDiff, Int.zero_add, Int.add_zero, p_ty0, p_ty1, p_ty2, p_ty3, p_ty4, p_ty5, p_ty8, p_ty9, p_ty10, t0, f0, t1, hz, c, B_t, B_f]
    · rw [bI_f (fun h => c (h k (Int.le_refl _) (by omega)))]
      clear hr hv ih
      generalize hz : k * st = z at *
      generalize hv : M b (fr + z) = v at *
      simp (disch := omega) only [x_X8_isFree_0, x_X8_isFree_1, x_X8_isFree_3, x_X8_isFree_5, x_X8_isFree_6, x_X8_isFree_9, x_X8_isFree_10, x_X8_isFree_13, x_X8_isFree_14, x_X8_isFree_16, x_X8_isFree_17, x_X8_isFree_18, x_X8_isFree_19, x_X8_isFree_20, x_X8_isFree_23, x_X8_isFree_24, x_X8_isFree_25, x_X8_isFree_28, x_X8_isFree_31, x_X8_isFree_32, List.length_cons, List.length_nil, Nat.reduceLeDiff, Nat.zero_add, iI_add, iI_sub, iI_mul, iI_neg, iI_lt, iI_le, iI_eq, jI_iI, B_True, B_False, B_t, B_f, ck_True, gd_True, cb_v, cb_n, p_mv_rw, p_fv_rw, p_rv_some, pA_1, pA_90, pA_92, pA_3, pA_5, pA_93, pA_4, pA_91, pA_6, pS_i, pB_i, pW_i, pZ_0, pZ_1, pZ_b, bI_e0, u1_s, u1_n, uA_s, uA_n, true_and, and_true, not_true_eq_false, not_false_eq_true, eq_self, iI_z, al1, al5, al3, al4, al90, al91, al92, al93, al6, Int.cast_ofNat_Int, Nat.reduceAdd, Int.reduceNeg, Int.reduceAdd, Int.reduceSub, Int.reduceMul, Int.reduceLT, Int.reduceLE, Int.reduceGT, Int.reduceGE, Int.reduceEq, Int.reduceNe, Nat.reduceEqDiff, Int.zero_add, Int.add_zero, p_ty0, p_ty1, p_ty2, p_ty3, p_ty4, p_ty5, p_ty8, p_ty9, p_ty10, t0, f0, t1, hz, hv, B_t, B_f]
end PSLF
