section PKGA
variable {d s b n : Nat} {T T1 : pT} {M M1 : pM} {F F1 : pF} {bb : Int → Int} {k t pas q its to as i c p x y X Y mv side f g st n9 fr : Int}
def k1 (v : Int → Int) (side : Int) : Nat → Int → Int
  | 0, _ => -1
  | m + 1, p => if v p = (if side = 0 then 1 else -1) then p else k1 v side m (p + 1)
theorem k1_sp {v : Int → Int} : ∀ (m : Nat) (p : Int), 0 ≤ p → (k1 v side m p = -1 ∧ ∀ q, p ≤ q → q < p + m → v q ≠ (if side = 0 then 1 else -1)) ∨ ((p ≤ k1 v side m p ∧ k1 v side m p < p + m) ∧ v (k1 v side m p) = (if side = 0 then 1 else -1) ∧ ∀ q, p ≤ q → q < k1 v side m p → v q ≠ (if side = 0 then 1 else -1))
  | 0, p, hp => Or.inl ⟨rfl, fun q h1 h2 => by omega⟩
  | m + 1, p, hp => by
    rw [k1]
    by_cases c : v p = (if side = 0 then 1 else -1)
    · rw [if_pos c]
      exact Or.inr ⟨⟨by omega, by omega⟩, c, fun q h1 h2 => by omega⟩
    · rw [if_neg c]
      rcases k1_sp m (p + 1) (by omega) with ⟨h1, h2⟩ | ⟨h1, h2, h3⟩
      · refine Or.inl ⟨h1, fun q q1 q2 => ?_⟩
        by_cases e : q = p
        · rw [e]; exact c
        · exact h2 q (by omega) (by omega)
      · refine Or.inr ⟨⟨by omega, by omega⟩, h2, fun q q1 q2 => ?_⟩
        by_cases e : q = p
        · rw [e]; exact c
        · exact h3 q (by omega) q2
theorem pl1_stepN : ∀ k : Nat, k < 90 → pl1 (k : Int) < pl1 ((k : Int) + 1) := by decide +kernel
theorem pl1_mono : ∀ (m : Nat) (k : Int), 0 ≤ k → k + m < 91 → pl1 k ≤ pl1 (k + m) - m
  | 0, k, _, _ => by rw [show k + ((0 : Nat) : Int) = k by omega]; omega
  | m + 1, k, h0, h1 => by
    have a := pl1_mono m k h0 (by omega)
    have b := pl1_stepN (k + m).toNat (by omega)
    rw [Int.toNat_of_nonneg (by omega)] at b
    rw [show k + ((m + 1 : Nat) : Int) = k + m + 1 by omega]
    omega
theorem m_kg_min {b : Int → Int} {s : Int} : ∀ (n : Nat) (k : Int), 0 ≤ k → ∀ j, k ≤ j → j < m_kg b s n k → b j ≠ 10 * s + 1
  | 0, k, h0, j, h1, h2 => by rw [m_kg] at h2; omega
  | n + 1, k, h0, j, h1, h2 => by
    rw [m_kg] at h2
    by_cases e : b k = 10 * s + 1
    · rw [if_pos e] at h2; omega
    · rw [if_neg e] at h2
      by_cases c : j = k
      · rw [c]; exact e
      · exact m_kg_min n (k + 1) (by omega) j (by omega) h2
theorem k1_eq {v : Int → Int} (h : SB1 v bb) (hb : MB bb) (hs : side = 0 ∨ side = 1) : k1 v side 121 0 = pp1 (m_king bb side) := by
  have hv : ∀ q, 0 ≤ q → q < 121 → (v q = (if side = 0 then 1 else -1) ↔ (c1 q ≠ -1 ∧ bb (c1 q) = 10 * side + 1)) := by
    intro q q0 q1
    rw [h q ⟨q0, q1⟩]
    by_cases c : c1 q = -1
    · rw [if_pos c]
      constructor
      · intro z; rcases hs with rfl | rfl
        · rw [if_pos rfl] at z; omega
        · rw [if_neg (show ¬ (1 : Int) = 0 by decide)] at z; omega
      · exact fun z => absurd c z.1
    · rw [if_neg c]
      have := hb (c1 q)
      unfold sv
      rcases hs with rfl | rfl
      · rw [if_pos (show (0 : Int) = 0 from rfl)]; split <;> omega
      · rw [if_neg (show ¬ (1 : Int) = 0 by decide)]; split <;> omega
  unfold pp1
  rcases m_king_rg bb side with hk | ⟨hk0, hk1, hk2⟩
  · rw [if_pos hk]
    rcases k1_sp (v := v) (side := side) 121 0 (by omega) with ⟨h1, -⟩ | ⟨h1, h2, -⟩
    · exact h1
    · have h3 := (hv _ (by omega) (by omega)).mp h2
      have h4 := (pl1_c1 ⟨h1.1, by omega⟩).resolve_left h3.1
      exact absurd h3.2 (m_kg_no 91 0 hk (by omega) _ h4.1.1 (by omega))
  · rw [if_neg (by omega)]
    have hp := c1_pl1 ⟨hk0, hk1⟩
    have hat : v (pl1 (m_king bb side)) = (if side = 0 then 1 else -1) := (hv _ hp.2.1.1 hp.2.1.2).mpr ⟨by rw [hp.1.1]; omega, by rw [hp.1.1]; exact hk2⟩
    rcases k1_sp (v := v) (side := side) 121 0 (by omega) with ⟨h1, h2⟩ | ⟨h1, h2, h3⟩
    · exact absurd hat (h2 _ hp.2.1.1 (by omega))
    · have h4 := (hv _ (by omega) (by omega)).mp h2
      have h5 := (pl1_c1 ⟨h1.1, by omega⟩).resolve_left h4.1
      have h6 : k1 v side 121 0 ≤ pl1 (m_king bb side) := by
        rcases Int.lt_or_le (pl1 (m_king bb side)) (k1 v side 121 0) with z | z
        · exact absurd hat (h3 _ hp.2.1.1 z)
        · exact z
      have h7 : m_king bb side ≤ c1 (k1 v side 121 0) := by
        rcases Int.lt_or_le (c1 (k1 v side 121 0)) (m_king bb side) with z | z
        · exact absurd h4.2 (m_kg_min 91 0 (by omega) _ h5.1.1 z)
        · exact z
      have h8 := pl1_mono (c1 (k1 v side 121 0) - m_king bb side).toNat (m_king bb side) hk0 (by omega)
      rw [Int.toNat_of_nonneg (by omega), show m_king bb side + (c1 (k1 v side 121 0) - m_king bb side) = c1 (k1 v side 121 0) by omega, h5.2] at h8
      omega
theorem z_kgL (e : Nat) (hI : SI T F s b) (hv : ∀ p, 0 ≤ p → p < 121 → -6 ≤ M b p ∧ M b p ≤ 99) (hs : side = 0 ∨ side = 1) : ∀ (m : Nat) (p : Int), 0 ≤ p → p + m = 121 → R e m_X8_king 2 [.val (.ref s), .val (.int (iI side)), .val (.int (iI p))] [] T M F = some (.inl (some (.int (iI (k1 (M b) side m p)))), T, M, F)
  | 0, p, hp, hm => by
    obtain rfl : p = 121 := by omega
    rw [k1]
    simp (disch := omega) only [x_X8_king_0, x_X8_king_1, x_X8_king_2, x_X8_king_3, x_X8_king_5, x_X8_king_8, x_X8_king_9, x_X8_king_12, x_X8_king_13, x_X8_king_14, x_X8_king_15, x_X8_king_18, x_X8_king_19, x_X8_king_22, x_X8_king_23, x_X8_king_26, x_X8_king_27, x_X8_king_28, x_X8_king_31, x_X8_king_34, x_X8_king_35, List.length_cons, List.length_nil, Nat.reduceLeDiff, Nat.zero_add, iI_add, iI_sub, iI_mul, iI_neg, iI_lt, iI_le, iI_eq, jI_iI, B_True, B_False, B_t, B_f, ck_True, gd_True, cb_v, cb_n, p_mv_rw, p_fv_rw, p_rv_some, pA_1, pA_90, pA_92, pA_3, pA_5, pA_93, pA_4, pA_91, pA_6, pS_i, pB_i, pW_i, pZ_0, pZ_1, pZ_b, bI_e0, u1_s, u1_n, uA_s, uA_n, true_and, and_true, not_true_eq_false, not_false_eq_true, eq_self, iI_z, al1, al5, al3, al4, al90, al91, al92, al93, al6, Int.cast_ofNat_Int, Nat.reduceAdd, Int.reduceNeg, Int.reduceAdd, Int.reduceSub, Int.reduceMul, Int.reduceLT, Int.reduceLE, Int.reduceGT, Int.reduceGE, Int.reduceEq, Int.reduceNe, Nat.reduceEqDiff, Int.zero_add, Int.add_zero, p_ty0, p_ty1, p_ty2, p_ty3, p_ty4, p_ty5, p_ty8, p_ty9, p_ty10, B_t, B_f]
  | m + 1, p, hp, hm => by
    have ih := z_kgL e hI hv hs m (p + 1) (by omega) (by omega)
    have hv1 := hv p hp (by omega)
    obtain ⟨h100, t0, f0, hb, t1, hsb⟩ := hI
    rw [k1]
    clear hv
    rcases hs with rfl | rfl
    · rw [if_pos rfl]
      by_cases c : M b p = 1
      · rw [if_pos c]
        simp (disch := omega) only [x_X8_king_0, x_X8_king_1, x_X8_king_2, x_X8_king_3, x_X8_king_5, x_X8_king_8, x_X8_king_9, x_X8_king_12, x_X8_king_13, x_X8_king_14, x_X8_king_15, x_X8_king_18, x_X8_king_19, x_X8_king_22, x_X8_king_23, x_X8_king_26, x_X8_king_27, x_X8_king_28, x_X8_king_31, x_X8_king_34, x_X8_king_35, List.length_cons, List.length_nil, Nat.reduceLeDiff, Nat.zero_add, iI_add, iI_sub, iI_mul, iI_neg, iI_lt, iI_le, iI_eq, jI_iI, B_True, B_False, B_t, B_f, ck_True, gd_True, cb_v, cb_n, p_mv_rw, p_fv_rw, p_rv_some, pA_1, pA_90, pA_92, pA_3, pA_5, pA_93, pA_4, pA_91, pA_6, pS_i, pB_i, pW_i, pZ_0, pZ_1, pZ_b, bI_e0, u1_s, u1_n, uA_s, uA_n, true_and, and_true, not_true_eq_false, not_false_eq_true, eq_self, iI_z, al1, al5, al3, al4, al90, al91, al92, al93, al6, Int.cast_ofNat_Int, Nat.reduceAdd, Int.reduceNeg, Int.reduceAdd, Int.reduceSub, Int.reduceMul, Int.reduceLT, Int.reduceLE, Int.reduceGT, Int.reduceGE, Int.reduceEq, Int.reduceNe, Nat.reduceEqDiff, Int.zero_add, Int.add_zero, p_ty0, p_ty1, p_ty2, p_ty3, p_ty4, p_ty5, p_ty8, p_ty9, p_ty10, t0, f0, t1, c, B_t, B_f]
      · rw [if_neg c, ← ih]
        clear ih
        generalize hz : M b p = z at *
        rw [x_X8_king_2]
        simp (disch := omega) only [x_X8_king_3, x_X8_king_5, x_X8_king_8, x_X8_king_9, x_X8_king_12, x_X8_king_13, x_X8_king_14, x_X8_king_15, x_X8_king_18, x_X8_king_19, x_X8_king_22, x_X8_king_23, x_X8_king_26, x_X8_king_27, x_X8_king_28, x_X8_king_31, List.length_cons, List.length_nil, Nat.reduceLeDiff, Nat.zero_add, iI_add, iI_sub, iI_mul, iI_neg, iI_lt, iI_le, iI_eq, jI_iI, B_True, B_False, B_t, B_f, ck_True, gd_True, cb_v, cb_n, p_mv_rw, p_fv_rw, p_rv_some, pA_1, pA_90, pA_92, pA_3, pA_5, pA_93, pA_4, pA_91, pA_6, pS_i, pB_i, pW_i, pZ_0, pZ_1, pZ_b, bI_e0, u1_s, u1_n, uA_s, uA_n, true_and, and_true, not_true_eq_false, not_false_eq_true, eq_self, iI_z, al1, al5, al3, al4, al90, al91, al92, al93, al6, Int.cast_ofNat_Int, Nat.reduceAdd, Int.reduceNeg, Int.reduceAdd, Int.reduceSub, Int.reduceMul, Int.reduceLT, Int.reduceLE, Int.reduceGT, Int.reduceGE, Int.reduceEq, Int.reduceNe, Nat.reduceEqDiff, Int.zero_add, Int.add_zero, p_ty0, p_ty1, p_ty2, p_ty3, p_ty4, p_ty5, p_ty8, p_ty9, p_ty10, t0, f0, t1, hz, B_t, B_f]
    · rw [if_neg (show ¬ (1 : Int) = 0 by decide)]
      by_cases c : M b p = -1
      · rw [if_pos c]
        simp (disch := omega) only [x_X8_king_0, x_X8_king_1, x_X8_king_2, x_X8_king_3, x_X8_king_5, x_X8_king_8, x_X8_king_9, x_X8_king_12, x_X8_king_13, x_X8_king_14, x_X8_king_15, x_X8_king_18, x_X8_king_19, x_X8_king_22, x_X8_king_23, x_X8_king_26, x_X8_king_27, x_X8_king_28, x_X8_king_31, x_X8_king_34, x_X8_king_35, List.length_cons, List.length_nil, Nat.reduceLeDiff, Nat.zero_add, iI_add, iI_sub, iI_mul, iI_neg, iI_lt, iI_le, iI_eq, jI_iI, B_True, B_False, B_t, B_f, ck_True, gd_True, cb_v, cb_n, p_mv_rw, p_fv_rw, p_rv_some, pA_1, pA_90, pA_92, pA_3, pA_5, pA_93, pA_4, pA_91, pA_6, pS_i, pB_i, pW_i, pZ_0, pZ_1, pZ_b, bI_e0, u1_s, u1_n, uA_s, uA_n, true_and, and_true, not_true_eq_false, not_false_eq_true, eq_self, iI_z, al1, al5, al3, al4, al90, al91, al92, al93, al6, Int.cast_ofNat_Int, Nat.reduceAdd, Int.reduceNeg, Int.reduceAdd, Int.reduceSub, Int.reduceMul, Int.reduceLT, Int.reduceLE, Int.reduceGT, Int.reduceGE, Int.reduceEq, Int.reduceNe, Nat.reduceEqDiff, Int.zero_add, Int.add_zero, p_ty0, p_ty1, p_ty2, p_ty3, p_ty4, p_ty5, p_ty8, p_ty9, p_ty10, t0, f0, t1, c, B_t, B_f]
      · rw [if_neg c, ← ih]
        clear ih
        generalize hz : M b p = z at *
        rw [x_X8_king_2]
        simp (disch := omega) only [x_X8_king_3, x_X8_king_5, x_X8_king_8, x_X8_king_9, x_X8_king_12, x_X8_king_13, x_X8_king_14, x_X8_king_15, x_X8_king_18, x_X8_king_19, x_X8_king_22, x_X8_king_23, x_X8_king_26, x_X8_king_27, x_X8_king_28, x_X8_king_31, List.length_cons, List.length_nil, Nat.reduceLeDiff, Nat.zero_add, iI_add, iI_sub, iI_mul, iI_neg, iI_lt, iI_le, iI_eq, jI_iI, B_True, B_False, B_t, B_f, ck_True, gd_True, cb_v, cb_n, p_mv_rw, p_fv_rw, p_rv_some, pA_1, pA_90, pA_92, pA_3, pA_5, pA_93, pA_4, pA_91, pA_6, pS_i, pB_i, pW_i, pZ_0, pZ_1, pZ_b, bI_e0, u1_s, u1_n, uA_s, uA_n, true_and, and_true, not_true_eq_false, not_false_eq_true, eq_self, iI_z, al1, al5, al3, al4, al90, al91, al92, al93, al6, Int.cast_ofNat_Int, Nat.reduceAdd, Int.reduceNeg, Int.reduceAdd, Int.reduceSub, Int.reduceMul, Int.reduceLT, Int.reduceLE, Int.reduceGT, Int.reduceGE, Int.reduceEq, Int.reduceNe, Nat.reduceEqDiff, Int.zero_add, Int.add_zero, p_ty0, p_ty1, p_ty2, p_ty3, p_ty4, p_ty5, p_ty8, p_ty9, p_ty10, t0, f0, t1, hz, B_t, B_f]
theorem SB1.hv {v : Int → Int} (h : SB1 v bb) (hb : MB bb) : ∀ p, 0 ≤ p → p < 121 → -6 ≤ v p ∧ v p ≤ 99 := fun p p0 p1 => ⟨(h.own hb ⟨p0, p1⟩ (Or.inl rfl)).2.1, (h.own hb ⟨p0, p1⟩ (Or.inl rfl)).2.2.1⟩
theorem z_king (hI : SI T F s b) (hS : SB1 (M b) bb ∧ MB bb) (hs : side = 0 ∨ side = 1) (hd : 1 ≤ d) : callD d m_X8_king [.ref s, .int (iI side)] T M F = some (.inl (some (.int (iI (pp1 (m_king bb side))))), T, M, F) := by
  refine callD_go 0 hd rfl (fun e he => ?_)
  show R e m_X8_king 0 [.val (.ref s), .val (.int (iI side)), .unset] [] T M F = _
  rw [← k1_eq hS.1 hS.2 hs, ← z_kgL e hI (hS.1.hv hS.2) hs 121 0 (by omega) (by omega)]
  simp (disch := omega) only [x_X8_king_0, x_X8_king_1, List.length_cons, List.length_nil, Nat.reduceLeDiff, Nat.zero_add, iI_add, iI_sub, iI_mul, iI_neg, iI_lt, iI_le, iI_eq, jI_iI, B_True, B_False, B_t, B_f, ck_True, gd_True, cb_v, cb_n, p_mv_rw, p_fv_rw, p_rv_some, pA_1, pA_90, pA_92, pA_3, pA_5, pA_93, pA_4, pA_91, pA_6, pS_i, pB_i, pW_i, pZ_0, pZ_1, pZ_b, bI_e0, u1_s, u1_n, uA_s, uA_n, true_and, and_true, not_true_eq_false, not_false_eq_true, eq_self, iI_z, al1, al5, al3, al4, al90, al91, al92, al93, al6, Int.cast_ofNat_Int, Nat.reduceAdd, Int.reduceNeg, Int.reduceAdd, Int.reduceSub, Int.reduceMul, Int.reduceLT, Int.reduceLE, Int.reduceGT, Int.reduceGE, Int.reduceEq, Int.reduceNe, Nat.reduceEqDiff, Int.zero_add, Int.add_zero, p_ty0, p_ty1, p_ty2, p_ty3, p_ty4, p_ty5, p_ty8, p_ty9, p_ty10]
noncomputable def fa (bb : Int → Int) (side to p : Int) : Int := bI (isw bb p side ∧ AT bb (c1 p) to)
theorem fa_sum (hb : MB bb) (ht : 0 ≤ to ∧ to < 91) (hs : side = 0 ∨ side = 1) : sm (fa bb side to) 121 = m_att bb to side := by
  rw [← m_att_AT hb ht hs, ← sm_pl]
  refine sm_eq 121 (fun p p0 p1 => ?_)
  unfold fa isw
  by_cases c : c1 p = -1
  · rw [if_pos c, bI_f (fun z => z.1.1 c)]
  · rw [if_neg c]
    exact bI_iff ⟨fun z => ⟨z.1.2, z.2⟩, fun z => ⟨⟨c, z.1⟩, z.2⟩⟩
theorem z_atL (e : Nat) (he : 2 ≤ e) (hI : SI T F s b) (hS : SB1 (M b) bb ∧ MB bb) (ht : 0 ≤ to ∧ to < 91) (hs : side = 0 ∨ side = 1) : ∀ (m : Nat) (p : Int), 0 ≤ p → p + m = 121 → R e m_X8_attackers 5 [.val (.ref s), .val (.int (iI (pl1 to))), .val (.int (iI side)), .val (.int (iI (sm (fa bb side to) p.toNat))), .val (.int (iI p))] [] T M F = some (.inl (some (.int (iI (sm (fa bb side to) 121)))), T, M, F)
  | 0, p, hp, hm => by
    obtain rfl : p = 121 := by omega
    rw [show (121 : Int).toNat = 121 from rfl]
    generalize sm (fa bb side to) 121 = z
    simp (disch := omega) only [x_X8_attackers_0, x_X8_attackers_1, x_X8_attackers_2, x_X8_attackers_3, x_X8_attackers_5, x_X8_attackers_7, x_X8_attackers_9, x_X8_attackers_12, x_X8_attackers_13, x_X8_attackers_14, x_X8_attackers_16, x_X8_attackers_17, x_X8_attackers_20, x_X8_attackers_23, x_X8_attackers_24, x_X8_attackers_26, x_X8_attackers_27, x_X8_attackers_30, x_X8_attackers_33, x_X8_attackers_34, x_X8_attackers_37, x_X8_attackers_38, x_X8_attackers_39, x_X8_attackers_40, x_X8_attackers_43, x_X8_attackers_46, x_X8_attackers_47, List.length_cons, List.length_nil, Nat.reduceLeDiff, Nat.zero_add, iI_add, iI_sub, iI_mul, iI_neg, iI_lt, iI_le, iI_eq, jI_iI, B_True, B_False, B_t, B_f, ck_True, gd_True, cb_v, cb_n, p_mv_rw, p_fv_rw, p_rv_some, pA_1, pA_90, pA_92, pA_3, pA_5, pA_93, pA_4, pA_91, pA_6, pS_i, pB_i, pW_i, pZ_0, pZ_1, pZ_b, bI_e0, u1_s, u1_n, uA_s, uA_n, true_and, and_true, not_true_eq_false, not_false_eq_true, eq_self, iI_z, al1, al5, al3, al4, al90, al91, al92, al93, al6, Int.cast_ofNat_Int, Nat.reduceAdd, Int.reduceNeg, Int.reduceAdd, Int.reduceSub, Int.reduceMul, Int.reduceLT, Int.reduceLE, Int.reduceGT, Int.reduceGE, Int.reduceEq, Int.reduceNe, Nat.reduceEqDiff, Int.zero_add, Int.add_zero, p_ty0, p_ty1, p_ty2, p_ty3, p_ty4, p_ty5, p_ty8, p_ty9, p_ty10, B_t, B_f]
  | m + 1, p, hp, hm => by
    have ih := z_atL e he hI hS ht hs m (p + 1) (by omega) (by omega)
    rw [sm_s hp] at ih
    have o1 := z_isOwn (d := e) hI hS (p := p) ⟨hp, by omega⟩ hs (by omega)
    obtain ⟨w1, w2, w3, w4⟩ := hS.1.own hS.2 (p := p) ⟨hp, by omega⟩ hs
    by_cases c : isw bb p side
    · obtain ⟨w5, w6, w7⟩ := w4 c
      have h0 : bb (c1 p) ≠ 0 := by have := c.2; unfold m_side at this; intro z; rw [if_pos z] at this; omega
      have o2 := z_att (d := e) hI hS w6 ht h0 he
      rw [w7] at o2
      rw [bI_t c] at o1
      obtain ⟨h100, t0, f0, hb, t1, hsb⟩ := hI
      have k2 := (c1_pl1 ht).2.1
      generalize sm (fa bb side to) p.toNat = z at *
      by_cases c2 : AT bb (c1 p) to
      · rw [bI_t c2] at o2
        rw [show fa bb side to p = 1 from bI_t ⟨c, c2⟩] at ih
        rw [← ih]
        clear hS ih w1 w4
        rw [x_X8_attackers_5]
        simp (disch := omega) only [x_X8_attackers_7, x_X8_attackers_9, x_X8_attackers_12, x_X8_attackers_13, x_X8_attackers_14, x_X8_attackers_16, x_X8_attackers_17, x_X8_attackers_20, x_X8_attackers_23, x_X8_attackers_24, x_X8_attackers_26, x_X8_attackers_27, x_X8_attackers_30, x_X8_attackers_33, x_X8_attackers_34, x_X8_attackers_37, x_X8_attackers_38, x_X8_attackers_39, x_X8_attackers_40, x_X8_attackers_43, List.length_cons, List.length_nil, Nat.reduceLeDiff, Nat.zero_add, iI_add, iI_sub, iI_mul, iI_neg, iI_lt, iI_le, iI_eq, jI_iI, B_True, B_False, B_t, B_f, ck_True, gd_True, cb_v, cb_n, p_mv_rw, p_fv_rw, p_rv_some, pA_1, pA_90, pA_92, pA_3, pA_5, pA_93, pA_4, pA_91, pA_6, pS_i, pB_i, pW_i, pZ_0, pZ_1, pZ_b, bI_e0, u1_s, u1_n, uA_s, uA_n, true_and, and_true, not_true_eq_false, not_false_eq_true, eq_self, iI_z, al1, al5, al3, al4, al90, al91, al92, al93, al6, Int.cast_ofNat_Int, Nat.reduceAdd, Int.reduceNeg, Int.reduceAdd, Int.reduceSub, Int.reduceMul, Int.reduceLT, Int.reduceLE, Int.reduceGT, Int.reduceGE, Int.reduceEq, Int.reduceNe, Nat.reduceEqDiff, Int.zero_add, Int.add_zero, p_ty0, p_ty1, p_ty2, p_ty3, p_ty4, p_ty5, p_ty8, p_ty9, p_ty10, o1, o2, t0, gd_t, B_t, B_f]
      · rw [bI_f c2] at o2
        rw [show fa bb side to p = 0 from bI_f (fun z => c2 z.2)] at ih
        rw [← ih]
        clear hS ih w1 w4
        rw [x_X8_attackers_5]
        simp (disch := omega) only [x_X8_attackers_7, x_X8_attackers_9, x_X8_attackers_12, x_X8_attackers_13, x_X8_attackers_14, x_X8_attackers_16, x_X8_attackers_17, x_X8_attackers_20, x_X8_attackers_23, x_X8_attackers_24, x_X8_attackers_26, x_X8_attackers_27, x_X8_attackers_30, x_X8_attackers_33, x_X8_attackers_34, x_X8_attackers_37, x_X8_attackers_38, x_X8_attackers_39, x_X8_attackers_40, x_X8_attackers_43, List.length_cons, List.length_nil, Nat.reduceLeDiff, Nat.zero_add, iI_add, iI_sub, iI_mul, iI_neg, iI_lt, iI_le, iI_eq, jI_iI, B_True, B_False, B_t, B_f, ck_True, gd_True, cb_v, cb_n, p_mv_rw, p_fv_rw, p_rv_some, pA_1, pA_90, pA_92, pA_3, pA_5, pA_93, pA_4, pA_91, pA_6, pS_i, pB_i, pW_i, pZ_0, pZ_1, pZ_b, bI_e0, u1_s, u1_n, uA_s, uA_n, true_and, and_true, not_true_eq_false, not_false_eq_true, eq_self, iI_z, al1, al5, al3, al4, al90, al91, al92, al93, al6, Int.cast_ofNat_Int, Nat.reduceAdd, Int.reduceNeg, Int.reduceAdd, Int.reduceSub, Int.reduceMul, Int.reduceLT, Int.reduceLE, Int.reduceGT, Int.reduceGE, Int.reduceEq, Int.reduceNe, Nat.reduceEqDiff, Int.zero_add, Int.add_zero, p_ty0, p_ty1, p_ty2, p_ty3, p_ty4, p_ty5, p_ty8, p_ty9, p_ty10, o1, o2, t0, gd_t, B_t, B_f]
    · rw [bI_f c] at o1
      obtain ⟨h100, t0, f0, hb, t1, hsb⟩ := hI
      have k2 := (c1_pl1 ht).2.1
      generalize sm (fa bb side to) p.toNat = z at *
      rw [show fa bb side to p = 0 from bI_f (fun z => c z.1)] at ih
      rw [← ih]
      clear hS ih w1 w4
      rw [x_X8_attackers_5]
      simp (disch := omega) only [x_X8_attackers_7, x_X8_attackers_9, x_X8_attackers_12, x_X8_attackers_13, x_X8_attackers_14, x_X8_attackers_16, x_X8_attackers_17, x_X8_attackers_20, x_X8_attackers_23, x_X8_attackers_24, x_X8_attackers_26, x_X8_attackers_27, x_X8_attackers_30, x_X8_attackers_33, x_X8_attackers_34, x_X8_attackers_37, x_X8_attackers_38, x_X8_attackers_39, x_X8_attackers_40, x_X8_attackers_43, List.length_cons, List.length_nil, Nat.reduceLeDiff, Nat.zero_add, iI_add, iI_sub, iI_mul, iI_neg, iI_lt, iI_le, iI_eq, jI_iI, B_True, B_False, B_t, B_f, ck_True, gd_True, cb_v, cb_n, p_mv_rw, p_fv_rw, p_rv_some, pA_1, pA_90, pA_92, pA_3, pA_5, pA_93, pA_4, pA_91, pA_6, pS_i, pB_i, pW_i, pZ_0, pZ_1, pZ_b, bI_e0, u1_s, u1_n, uA_s, uA_n, true_and, and_true, not_true_eq_false, not_false_eq_true, eq_self, iI_z, al1, al5, al3, al4, al90, al91, al92, al93, al6, Int.cast_ofNat_Int, Nat.reduceAdd, Int.reduceNeg, Int.reduceAdd, Int.reduceSub, Int.reduceMul, Int.reduceLT, Int.reduceLE, Int.reduceGT, Int.reduceGE, Int.reduceEq, Int.reduceNe, Nat.reduceEqDiff, Int.zero_add, Int.add_zero, p_ty0, p_ty1, p_ty2, p_ty3, p_ty4, p_ty5, p_ty8, p_ty9, p_ty10, o1, t0, gd_t, B_t, B_f]
theorem z_attackers (hI : SI T F s b) (hS : SB1 (M b) bb ∧ MB bb) (ht : 0 ≤ to ∧ to < 91) (hs : side = 0 ∨ side = 1) (hd : 3 ≤ d) : callD d m_X8_attackers [.ref s, .int (iI (pl1 to)), .int (iI side)] T M F = some (.inl (some (.int (iI (m_att bb to side)))), T, M, F) := by
  refine callD_go 2 hd rfl (fun e he => ?_)
  show R e m_X8_attackers 0 [.val (.ref s), .val (.int (iI (pl1 to))), .val (.int (iI side)), .unset, .unset] [] T M F = _
  rw [← fa_sum hS.2 ht hs, ← z_atL e he hI hS ht hs 121 0 (by omega) (by omega)]
  show _ = R e m_X8_attackers 5 [.val (.ref s), .val (.int (iI (pl1 to))), .val (.int (iI side)), .val (.int (iI 0)), .val (.int (iI 0))] [] T M F
  simp (disch := omega) only [x_X8_attackers_0, x_X8_attackers_1, x_X8_attackers_2, x_X8_attackers_3, List.length_cons, List.length_nil, Nat.reduceLeDiff, Nat.zero_add, iI_add, iI_sub, iI_mul, iI_neg, iI_lt, iI_le, iI_eq, jI_iI, B_True, B_False, B_t, B_f, ck_True, gd_True, cb_v, cb_n, p_mv_rw, p_fv_rw, p_rv_some, pA_1, pA_90, pA_92, pA_3, pA_5, pA_93, pA_4, pA_91, pA_6, pS_i, pB_i, pW_i, pZ_0, pZ_1, pZ_b, bI_e0, u1_s, u1_n, uA_s, uA_n, true_and, and_true, not_true_eq_false, not_false_eq_true, eq_self, iI_z, al1, al5, al3, al4, al90, al91, al92, al93, al6, Int.cast_ofNat_Int, Nat.reduceAdd, Int.reduceNeg, Int.reduceAdd, Int.reduceSub, Int.reduceMul, Int.reduceLT, Int.reduceLE, Int.reduceGT, Int.reduceGE, Int.reduceEq, Int.reduceNe, Nat.reduceEqDiff, Int.zero_add, Int.add_zero, p_ty0, p_ty1, p_ty2, p_ty3, p_ty4, p_ty5, p_ty8, p_ty9, p_ty10]
end PKGA
