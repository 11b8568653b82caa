section PH8
variable {d : Nat} {T : pT} {M : pM} {F : pF} {b : Nat} {bb : Int → Int} {p s k x c n : Int}
def namc (c n : Nat) : Bool := decide (n < 1) || decide (q_csz (c : Int) < (n : Int)) || (decide (0 ≤ q_nam (c : Int) (n : Int)) && decide (q_nam (c : Int) (n : Int) < 91) && decide (gx (q_nam (c : Int) (n : Int)) = (c : Int) - 5) && decide (gy (q_nam (c : Int) (n : Int)) = (n : Int) - 1 + q_low (c : Int)))
theorem namN : ∀ c : Nat, c < 11 → ∀ n : Nat, n < 12 → namc c n = true := by decide +kernel
theorem q_csz_rg (hc : 0 ≤ c ∧ c < 11) : 6 ≤ q_csz c ∧ q_csz c ≤ 11 := by unfold q_csz; split <;> omega
theorem nam_rg (hc : 0 ≤ c ∧ c < 11) (hn : 1 ≤ n ∧ n ≤ q_csz c) : (0 ≤ q_nam c n ∧ q_nam c n < 91) ∧ gx (q_nam c n) = c - 5 ∧ gy (q_nam c n) = n - 1 + q_low c := by
  have h1 := q_csz_rg hc
  have h2 := namN c.toNat (by omega) n.toNat (by omega)
  unfold namc at h2
  rw [Int.toNat_of_nonneg hc.1, Int.toNat_of_nonneg (by omega)] at h2
  simp only [Bool.or_eq_true, Bool.and_eq_true, decide_eq_true_eq] at h2
  rcases h2 with (h2 | h2) | h2
  · omega
  · omega
  · exact ⟨⟨h2.1.1.1, h2.1.1.2⟩, h2.1.2, h2.2⟩
theorem c_setR (hB : BT T F b) (hR : RB M b bb) (hc : 0 ≤ c ∧ c < 91) (hx : VX x) (hu : ∀ s, s = 0 ∨ s = 1 → x = 10 * s + 1 → ∀ k, 0 ≤ k → k < 91 → k ≠ c → bb k ≠ 10 * s + 1) :
    ∃ M', (∀ d, 1 ≤ d → callD d m_X0_set [.ref b, .int (iI (q_pl c)), .int (iI (cv x))] T M F = some (.inl none, T, M', F)) ∧ RB M' b (u1 bb c x) ∧ (∀ a, a ≠ b → a ≠ b + 1 → M' a = M a) := by
  have hq := q_pl_nn hc
  have hcx : 0 ≤ cv x ∧ cv x ≤ 14 := by unfold cv; unfold VX at hx; split <;> omega
  exact ⟨_, fun d hd => c_set hB hR.1 hR.K hd (by omega) (by omega), hR.set hc hx hu, fun a h1 h2 => q_set_n h1 h2⟩
theorem c_setBoth (hB : BT T F b) (hR : RB M b bb) (hk : 1 ≤ k ∧ k ≤ 5) (hc : 0 ≤ c ∧ c < 11) (hn : 1 ≤ n ∧ n ≤ q_csz c) (hu : k = 1 → ∀ j, 0 ≤ j → j < 91 → bb j ≠ 1 ∧ bb j ≠ 11) :
    ∃ M', (∀ d, 3 ≤ d → callD d m_X0_setBoth [.ref b, .int (iI k), .int (iI c), .int (iI n)] T M F = some (.inl none, T, M', F)) ∧ RB M' b (u1 (u1 bb (q_nam c n) k) (q_nam c (q_csz c + 1 - n)) (10 + k)) ∧ (∀ a, a ≠ b → a ≠ b + 1 → M' a = M a) := by
  have hcs := q_csz_rg hc
  have n1 := (nam_rg hc hn).1
  have n2 := (nam_rg (n := q_csz c + 1 - n) hc (by omega)).1
  have p1 := q_pl_nn n1
  have p2 := q_pl_nn n2
  have v0 : q_val 0 k = cv k := by unfold q_val cv; (repeat' split) <;> omega
  have v1 : q_val 1 k = cv (10 + k) := by unfold q_val cv; (repeat' split) <;> omega
  have r0 : 0 ≤ cv k ∧ cv k ≤ 14 := by unfold cv; split <;> omega
  obtain ⟨M1, e1, R1, F1⟩ := c_setR (T := T) (F := F) (c := q_nam c n) (x := k) hB hR n1 (by unfold VX; omega) (fun s hs hx j h0 h1 _ => by have := hu (by omega) j h0 h1; rcases hs with rfl | rfl <;> omega)
  obtain ⟨M2, e2, R2, F2⟩ := c_setR (T := T) (F := F) (c := q_nam c (q_csz c + 1 - n)) (x := 10 + k) hB R1 n2 (by unfold VX; omega) (fun s hs hx j h0 h1 _ => by
    have h9 : k = 1 := by rcases hs with rfl | rfl <;> omega
    have := hu h9 j h0 h1
    unfold u1
    rcases hs with rfl | rfl <;> split <;> omega)
  refine ⟨M2, fun d hd => ?_, R2, fun a h1 h2 => (F2 a h1 h2).trans (F1 a h1 h2)⟩
  refine callD_go 2 hd rfl (fun e he => ?_)
  show R e m_X0_setBoth 0 [.val (.ref b), .val (.int (iI k)), .val (.int (iI c)), .val (.int (iI n)), .unset] [] T M F = _
  obtain ⟨hb, t0, t1, f0⟩ := hB
  simp (disch := omega) only [x_X0_setBoth_0, x_X0_setBoth_1, x_X0_setBoth_4, x_X0_setBoth_5, x_X0_setBoth_6, x_X0_setBoth_7, x_X0_setBoth_8, x_X0_setBoth_10, x_X0_setBoth_11, x_X0_setBoth_12, x_X0_setBoth_13, x_X0_setBoth_16, x_X0_setBoth_19, x_X0_setBoth_20, x_X0_setBoth_21, x_X0_setBoth_24, x_X0_setBoth_27, x_X0_setBoth_28, x_X0_setBoth_29, x_X0_setBoth_31, x_X0_setBoth_34, x_X0_setBoth_37, x_X0_setBoth_38, x_X0_setBoth_39, x_X0_setBoth_42, x_X0_setBoth_45, List.length_cons, List.length_nil, Nat.reduceLeDiff, Nat.zero_add, iI_add, iI_sub, iI_mul, iI_neg, iI_lt, iI_le, iI_eq, jI_iI, B_True, B_False, B_t, B_f, ck_True, gd_True, cb_v, cb_n, p_mv_rw, p_fv_rw, p_rv_some, pA_1, pA_90, pA_92, pA_3, pA_5, pA_93, pA_4, pA_91, pA_6, pS_i, pB_i, pW_i, pZ_0, pZ_1, pZ_b, bI_e0, u1_s, u1_n, uA_s, uA_n, true_and, and_true, not_true_eq_false, not_false_eq_true, eq_self, iI_z, al1, al5, al3, al4, al90, al91, al92, al93, al6, Int.cast_ofNat_Int, Nat.reduceAdd, Int.reduceNeg, Int.reduceAdd, Int.reduceSub, Int.reduceMul, Int.reduceLT, Int.reduceLE, Int.reduceGT, Int.reduceGE, Int.reduceEq, Int.reduceNe, Nat.reduceEqDiff, Int.zero_add, Int.add_zero, p_ty0, p_ty1, p_ty2, p_ty3, p_ty4, p_ty5, p_ty8, p_ty9, p_ty10, t0, c_csz, c_nam, c_placeOf, c_val, v0, v1, gd_t, e1, e2]
/-- the pawns of the first set-up, so far as those of the cells ahead of k -/
def pwB (p s : Int) : Bool := decide (-4 ≤ (p / 17 - 8) * q_fwd s) && decide ((p / 17 - 8) * q_fwd s ≤ 4) && decide ((p % 17 - 8) * q_fwd s = if (p / 17 - 8) * q_fwd s > 0 then -1 - (p / 17 - 8) * q_fwd s else -1)
theorem pwB_iff (p s : Int) : q_fst p s ↔ pwB p s = true := by
  unfold q_fst pwB
  simp only [Bool.and_eq_true, decide_eq_true_eq, and_assoc]
def pw (k : Int) : Int := if pwB (q_pl k) 1 = true then 16 else if pwB (q_pl k) 0 = true then 6 else 0
def pwn (k : Int) : Int → Int := fun j => if 0 ≤ j ∧ j < k then pw j else 0
theorem pwn_s {k : Int} (h : 0 ≤ k) : pwn (k + 1) = u1 (pwn k) k (pw k) := by
  funext j
  simp only [pwn, u1]
  by_cases e : j = k
  · subst e; rw [if_pos (by omega), if_pos rfl]
  · rw [if_neg e]; (repeat' split) <;> first | rfl | omega
theorem pw_v (k : Int) : pw k = 0 ∨ pw k = 6 ∨ pw k = 16 := by unfold pw; (repeat' split) <;> omega
theorem pwn_v (k j : Int) : pwn k j = 0 ∨ pwn k j = 6 ∨ pwn k j = 16 := by
  unfold pwn
  split
  · exact pw_v j
  · omega
theorem c_pawns (hB : BT T F b) : ∀ (m : Nat) (k : Int) (l2 : Slot) (M : pM), k = 91 - (m : Int) → 0 ≤ k → RB M b (pwn k) →
    ∃ M' l2', (∀ e, 3 ≤ e → R e m_X0_setUp 6 [.val (.ref b), .val (.int (iI k)), l2] [] T M F = R e m_X0_setUp 61 [.val (.ref b), .val (.int (iI 91)), l2'] [] T M' F) ∧ RB M' b (pwn 91) ∧ (∀ a, a ≠ b → a ≠ b + 1 → M' a = M a) := by
  intro m
  induction m with
  | zero =>
    intro k l2 M hk h0 hR
    obtain rfl : k = 91 := by omega
    refine ⟨M, l2, fun e he => ?_, hR, fun _ _ _ => rfl⟩
    simp (disch := omega) only [x_X0_setUp_6, x_X0_setUp_7, x_X0_setUp_9, List.length_cons, List.length_nil, Nat.reduceLeDiff, Nat.zero_add, iI_add, iI_sub, iI_mul, iI_neg, iI_lt, iI_le, iI_eq, jI_iI, B_True, B_False, B_t, B_f, ck_True, gd_True, cb_v, cb_n, p_mv_rw, p_fv_rw, p_rv_some, pA_1, pA_90, pA_92, pA_3, pA_5, pA_93, pA_4, pA_91, pA_6, pS_i, pB_i, pW_i, pZ_0, pZ_1, pZ_b, bI_e0, u1_s, u1_n, uA_s, uA_n, true_and, and_true, not_true_eq_false, not_false_eq_true, eq_self, iI_z, al1, al5, al3, al4, al90, al91, al92, al93, al6, Int.cast_ofNat_Int, Nat.reduceAdd, Int.reduceNeg, Int.reduceAdd, Int.reduceSub, Int.reduceMul, Int.reduceLT, Int.reduceLE, Int.reduceGT, Int.reduceGE, Int.reduceEq, Int.reduceNe, Nat.reduceEqDiff, Int.zero_add, Int.add_zero, p_ty0, p_ty1, p_ty2, p_ty3, p_ty4, p_ty5, p_ty8, p_ty9, p_ty10]
  | succ m ih =>
    intro k l2 M hk h0 hR
    have hk' : 0 ≤ k ∧ k < 91 := by omega
    have hq := q_pl_nn hk'
    have hB' := hB
    obtain ⟨hb, t0, t1, f0⟩ := hB
    have w0 : q_val 0 6 = cv 6 := rfl
    have w1 : q_val 1 6 = cv 16 := rfl
    have b0 := pwB_iff (q_pl k) 0
    have b1 := pwB_iff (q_pl k) 1
    have nk : ∀ j, pwn k j ≠ 1 ∧ pwn k j ≠ 11 := fun j => by have := pwn_v k j; omega
    by_cases c0 : q_fst (q_pl k) 0
    · obtain ⟨M1, e1, R1, F1⟩ := c_setR (T := T) (F := F) (c := k) (x := 6) hB' hR hk' (by unfold VX; omega) (fun s hs hx => by omega)
      by_cases c1 : q_fst (q_pl k) 1
      · obtain ⟨M2, e2, R2, F2⟩ := c_setR (T := T) (F := F) (c := k) (x := 16) hB' R1 hk' (by unfold VX; omega) (fun s hs hx => by omega)
        have hpw : pw k = 16 := by unfold pw; rw [if_pos (b1.mp c1)]
        obtain ⟨M3, l3, e3, R3, F3⟩ := ih (k + 1) (.val (.int (iI (q_pl k)))) M2 (by omega) (by omega) (by rw [pwn_s h0, hpw]; rw [u1_u1] at R2; exact R2)
        refine ⟨M3, l3, fun e he => ?_, R3, fun a h1 h2 => (F3 a h1 h2).trans ((F2 a h1 h2).trans (F1 a h1 h2))⟩
        rw [x_X0_setUp_6]
        simp (disch := omega) only [x_X0_setUp_7, x_X0_setUp_9, x_X0_setUp_12, x_X0_setUp_13, x_X0_setUp_16, x_X0_setUp_17, x_X0_setUp_18, x_X0_setUp_19, x_X0_setUp_22, x_X0_setUp_25, x_X0_setUp_26, x_X0_setUp_27, x_X0_setUp_28, x_X0_setUp_30, x_X0_setUp_33, x_X0_setUp_36, x_X0_setUp_37, x_X0_setUp_38, x_X0_setUp_41, x_X0_setUp_44, x_X0_setUp_45, x_X0_setUp_46, x_X0_setUp_47, x_X0_setUp_49, x_X0_setUp_52, x_X0_setUp_55, x_X0_setUp_58, List.length_cons, List.length_nil, Nat.reduceLeDiff, Nat.zero_add, iI_add, iI_sub, iI_mul, iI_neg, iI_lt, iI_le, iI_eq, jI_iI, B_True, B_False, B_t, B_f, ck_True, gd_True, cb_v, cb_n, p_mv_rw, p_fv_rw, p_rv_some, pA_1, pA_90, pA_92, pA_3, pA_5, pA_93, pA_4, pA_91, pA_6, pS_i, pB_i, pW_i, pZ_0, pZ_1, pZ_b, bI_e0, u1_s, u1_n, uA_s, uA_n, true_and, and_true, not_true_eq_false, not_false_eq_true, eq_self, iI_z, al1, al5, al3, al4, al90, al91, al92, al93, al6, Int.cast_ofNat_Int, Nat.reduceAdd, Int.reduceNeg, Int.reduceAdd, Int.reduceSub, Int.reduceMul, Int.reduceLT, Int.reduceLE, Int.reduceGT, Int.reduceGE, Int.reduceEq, Int.reduceNe, Nat.reduceEqDiff, Int.zero_add, Int.add_zero, p_ty0, p_ty1, p_ty2, p_ty3, p_ty4, p_ty5, p_ty8, p_ty9, p_ty10, t0, c_placeOf, c_fst, bI_t c0, bI_t c1, B_f, B_t, c_val, w0, w1, e1, e2, gd_t]
        exact e3 e he
      · have hpw : pw k = 6 := by unfold pw; rw [if_neg (fun q => c1 (b1.mpr q)), if_pos (b0.mp c0)]
        obtain ⟨M3, l3, e3, R3, F3⟩ := ih (k + 1) (.val (.int (iI (q_pl k)))) M1 (by omega) (by omega) (by rw [pwn_s h0, hpw]; exact R1)
        refine ⟨M3, l3, fun e he => ?_, R3, fun a h1 h2 => (F3 a h1 h2).trans (F1 a h1 h2)⟩
        rw [x_X0_setUp_6]
        simp (disch := omega) only [x_X0_setUp_7, x_X0_setUp_9, x_X0_setUp_12, x_X0_setUp_13, x_X0_setUp_16, x_X0_setUp_17, x_X0_setUp_18, x_X0_setUp_19, x_X0_setUp_22, x_X0_setUp_25, x_X0_setUp_26, x_X0_setUp_27, x_X0_setUp_28, x_X0_setUp_30, x_X0_setUp_33, x_X0_setUp_36, x_X0_setUp_37, x_X0_setUp_38, x_X0_setUp_41, x_X0_setUp_44, x_X0_setUp_45, x_X0_setUp_46, x_X0_setUp_47, x_X0_setUp_49, x_X0_setUp_52, x_X0_setUp_55, x_X0_setUp_58, List.length_cons, List.length_nil, Nat.reduceLeDiff, Nat.zero_add, iI_add, iI_sub, iI_mul, iI_neg, iI_lt, iI_le, iI_eq, jI_iI, B_True, B_False, B_t, B_f, ck_True, gd_True, cb_v, cb_n, p_mv_rw, p_fv_rw, p_rv_some, pA_1, pA_90, pA_92, pA_3, pA_5, pA_93, pA_4, pA_91, pA_6, pS_i, pB_i, pW_i, pZ_0, pZ_1, pZ_b, bI_e0, u1_s, u1_n, uA_s, uA_n, true_and, and_true, not_true_eq_false, not_false_eq_true, eq_self, iI_z, al1, al5, al3, al4, al90, al91, al92, al93, al6, Int.cast_ofNat_Int, Nat.reduceAdd, Int.reduceNeg, Int.reduceAdd, Int.reduceSub, Int.reduceMul, Int.reduceLT, Int.reduceLE, Int.reduceGT, Int.reduceGE, Int.reduceEq, Int.reduceNe, Nat.reduceEqDiff, Int.zero_add, Int.add_zero, p_ty0, p_ty1, p_ty2, p_ty3, p_ty4, p_ty5, p_ty8, p_ty9, p_ty10, t0, c_placeOf, c_fst, bI_t c0, bI_f c1, B_f, B_t, c_val, w0, w1, e1, gd_t]
        exact e3 e he
    · by_cases c1 : q_fst (q_pl k) 1
      · obtain ⟨M2, e2, R2, F2⟩ := c_setR (T := T) (F := F) (c := k) (x := 16) hB' hR hk' (by unfold VX; omega) (fun s hs hx => by omega)
        have hpw : pw k = 16 := by unfold pw; rw [if_pos (b1.mp c1)]
        obtain ⟨M3, l3, e3, R3, F3⟩ := ih (k + 1) (.val (.int (iI (q_pl k)))) M2 (by omega) (by omega) (by rw [pwn_s h0, hpw]; exact R2)
        refine ⟨M3, l3, fun e he => ?_, R3, fun a h1 h2 => (F3 a h1 h2).trans (F2 a h1 h2)⟩
        rw [x_X0_setUp_6]
        simp (disch := omega) only [x_X0_setUp_7, x_X0_setUp_9, x_X0_setUp_12, x_X0_setUp_13, x_X0_setUp_16, x_X0_setUp_17, x_X0_setUp_18, x_X0_setUp_19, x_X0_setUp_22, x_X0_setUp_25, x_X0_setUp_26, x_X0_setUp_27, x_X0_setUp_28, x_X0_setUp_30, x_X0_setUp_33, x_X0_setUp_36, x_X0_setUp_37, x_X0_setUp_38, x_X0_setUp_41, x_X0_setUp_44, x_X0_setUp_45, x_X0_setUp_46, x_X0_setUp_47, x_X0_setUp_49, x_X0_setUp_52, x_X0_setUp_55, x_X0_setUp_58, List.length_cons, List.length_nil, Nat.reduceLeDiff, Nat.zero_add, iI_add, iI_sub, iI_mul, iI_neg, iI_lt, iI_le, iI_eq, jI_iI, B_True, B_False, B_t, B_f, ck_True, gd_True, cb_v, cb_n, p_mv_rw, p_fv_rw, p_rv_some, pA_1, pA_90, pA_92, pA_3, pA_5, pA_93, pA_4, pA_91, pA_6, pS_i, pB_i, pW_i, pZ_0, pZ_1, pZ_b, bI_e0, u1_s, u1_n, uA_s, uA_n, true_and, and_true, not_true_eq_false, not_false_eq_true, eq_self, iI_z, al1, al5, al3, al4, al90, al91, al92, al93, al6, Int.cast_ofNat_Int, Nat.reduceAdd, Int.reduceNeg, Int.reduceAdd, Int.reduceSub, Int.reduceMul, Int.reduceLT, Int.reduceLE, Int.reduceGT, Int.reduceGE, Int.reduceEq, Int.reduceNe, Nat.reduceEqDiff, Int.zero_add, Int.add_zero, p_ty0, p_ty1, p_ty2, p_ty3, p_ty4, p_ty5, p_ty8, p_ty9, p_ty10, t0, c_placeOf, c_fst, bI_f c0, bI_t c1, B_f, B_t, c_val, w0, w1, e2, gd_t]
        exact e3 e he
      · have hpw : pw k = 0 := by unfold pw; rw [if_neg (fun q => c1 (b1.mpr q)), if_neg (fun q => c0 (b0.mpr q))]
        have hid : u1 (pwn k) k 0 = pwn k := by
          funext j
          unfold u1
          by_cases e : j = k
          · subst e; rw [if_pos rfl]; unfold pwn; rw [if_neg (by omega)]
          · rw [if_neg e]
        obtain ⟨M3, l3, e3, R3, F3⟩ := ih (k + 1) (.val (.int (iI (q_pl k)))) M (by omega) (by omega) (by rw [pwn_s h0, hpw, hid]; exact hR)
        refine ⟨M3, l3, fun e he => ?_, R3, F3⟩
        rw [x_X0_setUp_6]
        simp (disch := omega) only [x_X0_setUp_7, x_X0_setUp_9, x_X0_setUp_12, x_X0_setUp_13, x_X0_setUp_16, x_X0_setUp_17, x_X0_setUp_18, x_X0_setUp_19, x_X0_setUp_22, x_X0_setUp_25, x_X0_setUp_26, x_X0_setUp_27, x_X0_setUp_28, x_X0_setUp_30, x_X0_setUp_33, x_X0_setUp_36, x_X0_setUp_37, x_X0_setUp_38, x_X0_setUp_41, x_X0_setUp_44, x_X0_setUp_45, x_X0_setUp_46, x_X0_setUp_47, x_X0_setUp_49, x_X0_setUp_52, x_X0_setUp_55, x_X0_setUp_58, List.length_cons, List.length_nil, Nat.reduceLeDiff, Nat.zero_add, iI_add, iI_sub, iI_mul, iI_neg, iI_lt, iI_le, iI_eq, jI_iI, B_True, B_False, B_t, B_f, ck_True, gd_True, cb_v, cb_n, p_mv_rw, p_fv_rw, p_rv_some, pA_1, pA_90, pA_92, pA_3, pA_5, pA_93, pA_4, pA_91, pA_6, pS_i, pB_i, pW_i, pZ_0, pZ_1, pZ_b, bI_e0, u1_s, u1_n, uA_s, uA_n, true_and, and_true, not_true_eq_false, not_false_eq_true, eq_self, iI_z, al1, al5, al3, al4, al90, al91, al92, al93, al6, Int.cast_ofNat_Int, Nat.reduceAdd, Int.reduceNeg, Int.reduceAdd, Int.reduceSub, Int.reduceMul, Int.reduceLT, Int.reduceLE, Int.reduceGT, Int.reduceGE, Int.reduceEq, Int.reduceNe, Nat.reduceEqDiff, Int.zero_add, Int.add_zero, p_ty0, p_ty1, p_ty2, p_ty3, p_ty4, p_ty5, p_ty8, p_ty9, p_ty10, t0, c_placeOf, c_fst, bI_f c0, bI_f c1, B_f, B_t, c_val, w0, w1, gd_t]
        exact e3 e he
/-- the first set-up, as the class makes it -/
def q_sb : Int → Int :=
  let z := fun (f : Int → Int) (k c n : Int) => u1 (u1 f (q_nam c n) k) (q_nam c (q_csz c + 1 - n)) (10 + k)
  z (z (z (z (z (z (z (z (z (pwn 91) 3 2 1) 5 3 1) 2 4 1) 4 5 1) 4 5 2) 4 5 3) 1 6 1) 5 7 1) 3 8 1
theorem u1_v {f : Int → Int} {i v : Int} (h : ∀ j, f j ≠ 1 ∧ f j ≠ 11) (hv : v ≠ 1 ∧ v ≠ 11) : ∀ j, u1 f i v j ≠ 1 ∧ u1 f i v j ≠ 11 := fun j => by
  unfold u1; split
  · exact hv
  · exact h j
theorem c_setUpB (hB : BT T F b) (hv : BV (M (b + 1))) :
    ∃ M', (∀ d, 4 ≤ d → callD d m_X0_setUp [.ref b] T M F = some (.inl none, T, M', F)) ∧ RB M' b q_sb ∧ (∀ a, a ≠ b → a ≠ b + 1 → M' a = M a) := by
  obtain ⟨M0, e0, R0, F0⟩ := c_clear (M := M) hB
  have R0 := R0 hv
  rw [show (fun _ : Int => (0 : Int)) = pwn 0 from funext fun j => (by unfold pwn; rw [if_neg (by omega)])] at R0
  obtain ⟨M1, l1, e1, R1, F1⟩ := c_pawns hB 91 0 .unset M0 (by omega) (by omega) R0
  have nk : ∀ j, pwn 91 j ≠ 1 ∧ pwn 91 j ≠ 11 := fun j => by have := pwn_v 91 j; omega
  obtain ⟨M2, e2, R2, F2⟩ := c_setBoth (T := T) (F := F) (k := 3) (c := 2) (n := 1) hB R1 (by omega) (by omega) (by decide) (fun q => by omega)
  obtain ⟨M3, e3, R3, F3⟩ := c_setBoth (T := T) (F := F) (k := 5) (c := 3) (n := 1) hB R2 (by omega) (by omega) (by decide) (fun q => by omega)
  obtain ⟨M4, e4, R4, F4⟩ := c_setBoth (T := T) (F := F) (k := 2) (c := 4) (n := 1) hB R3 (by omega) (by omega) (by decide) (fun q => by omega)
  obtain ⟨M5, e5, R5, F5⟩ := c_setBoth (T := T) (F := F) (k := 4) (c := 5) (n := 1) hB R4 (by omega) (by omega) (by decide) (fun q => by omega)
  obtain ⟨M6, e6, R6, F6⟩ := c_setBoth (T := T) (F := F) (k := 4) (c := 5) (n := 2) hB R5 (by omega) (by omega) (by decide) (fun q => by omega)
  obtain ⟨M7, e7, R7, F7⟩ := c_setBoth (T := T) (F := F) (k := 4) (c := 5) (n := 3) hB R6 (by omega) (by omega) (by decide) (fun q => by omega)
  have P7 := u1_v (i := q_nam 5 (q_csz 5 + 1 - 3)) (v := 10 + 4) (u1_v (i := q_nam 5 3) (v := 4) (u1_v (i := q_nam 5 (q_csz 5 + 1 - 2)) (v := 10 + 4) (u1_v (i := q_nam 5 2) (v := 4) (u1_v (i := q_nam 5 (q_csz 5 + 1 - 1)) (v := 10 + 4) (u1_v (i := q_nam 5 1) (v := 4) (u1_v (i := q_nam 4 (q_csz 4 + 1 - 1)) (v := 10 + 2) (u1_v (i := q_nam 4 1) (v := 2) (u1_v (i := q_nam 3 (q_csz 3 + 1 - 1)) (v := 10 + 5) (u1_v (i := q_nam 3 1) (v := 5) (u1_v (i := q_nam 2 (q_csz 2 + 1 - 1)) (v := 10 + 3) (u1_v (i := q_nam 2 1) (v := 3) nk (by omega)) (by omega)) (by omega)) (by omega)) (by omega)) (by omega)) (by omega)) (by omega)) (by omega)) (by omega)) (by omega)) (by omega)
  obtain ⟨M8, e8, R8, F8⟩ := c_setBoth (T := T) (F := F) (k := 1) (c := 6) (n := 1) hB R7 (by omega) (by omega) (by decide) (fun _ j _ _ => P7 j)
  obtain ⟨M9, e9, R9, F9⟩ := c_setBoth (T := T) (F := F) (k := 5) (c := 7) (n := 1) hB R8 (by omega) (by omega) (by decide) (fun q => by omega)
  obtain ⟨MA, eA, RA, FA⟩ := c_setBoth (T := T) (F := F) (k := 3) (c := 8) (n := 1) hB R9 (by omega) (by omega) (by decide) (fun q => by omega)
  refine ⟨MA, fun d hd => ?_, RA, fun a h1 h2 => by rw [FA a h1 h2, F9 a h1 h2, F8 a h1 h2, F7 a h1 h2, F6 a h1 h2, F5 a h1 h2, F4 a h1 h2, F3 a h1 h2, F2 a h1 h2, F1 a h1 h2, F0 a h1 h2]⟩
  refine callD_go 3 hd rfl (fun e he => ?_)
  show R e m_X0_setUp 0 [.val (.ref b), .unset, .unset] [] T M F = _
  obtain ⟨hb, t0, t1, f0⟩ := hB
  simp (disch := omega) only [x_X0_setUp_0, x_X0_setUp_1, x_X0_setUp_4, x_X0_setUp_5, List.length_cons, List.length_nil, Nat.reduceLeDiff, Nat.zero_add, iI_add, iI_sub, iI_mul, iI_neg, iI_lt, iI_le, iI_eq, jI_iI, B_True, B_False, B_t, B_f, ck_True, gd_True, cb_v, cb_n, p_mv_rw, p_fv_rw, p_rv_some, pA_1, pA_90, pA_92, pA_3, pA_5, pA_93, pA_4, pA_91, pA_6, pS_i, pB_i, pW_i, pZ_0, pZ_1, pZ_b, bI_e0, u1_s, u1_n, uA_s, uA_n, true_and, and_true, not_true_eq_false, not_false_eq_true, eq_self, iI_z, al1, al5, al3, al4, al90, al91, al92, al93, al6, Int.cast_ofNat_Int, Nat.reduceAdd, Int.reduceNeg, Int.reduceAdd, Int.reduceSub, Int.reduceMul, Int.reduceLT, Int.reduceLE, Int.reduceGT, Int.reduceGE, Int.reduceEq, Int.reduceNe, Nat.reduceEqDiff, Int.zero_add, Int.add_zero, p_ty0, p_ty1, p_ty2, p_ty3, p_ty4, p_ty5, p_ty8, p_ty9, p_ty10, t0, e0, gd_t]
  rw [e1 e he]
  simp (disch := omega) only [x_X0_setUp_61, x_X0_setUp_62, x_X0_setUp_63, x_X0_setUp_64, x_X0_setUp_65, x_X0_setUp_68, x_X0_setUp_69, x_X0_setUp_70, x_X0_setUp_71, x_X0_setUp_72, x_X0_setUp_75, x_X0_setUp_76, x_X0_setUp_77, x_X0_setUp_78, x_X0_setUp_79, x_X0_setUp_82, x_X0_setUp_83, x_X0_setUp_84, x_X0_setUp_85, x_X0_setUp_86, x_X0_setUp_89, x_X0_setUp_90, x_X0_setUp_91, x_X0_setUp_92, x_X0_setUp_93, x_X0_setUp_96, x_X0_setUp_97, x_X0_setUp_98, x_X0_setUp_99, x_X0_setUp_100, x_X0_setUp_103, x_X0_setUp_104, x_X0_setUp_105, x_X0_setUp_107, x_X0_setUp_108, x_X0_setUp_111, x_X0_setUp_112, x_X0_setUp_113, x_X0_setUp_115, x_X0_setUp_116, x_X0_setUp_119, x_X0_setUp_120, x_X0_setUp_121, x_X0_setUp_123, x_X0_setUp_124, x_X0_setUp_127, List.length_cons, List.length_nil, Nat.reduceLeDiff, Nat.zero_add, iI_add, iI_sub, iI_mul, iI_neg, iI_lt, iI_le, iI_eq, jI_iI, B_True, B_False, B_t, B_f, ck_True, gd_True, cb_v, cb_n, p_mv_rw, p_fv_rw, p_rv_some, pA_1, pA_90, pA_92, pA_3, pA_5, pA_93, pA_4, pA_91, pA_6, pS_i, pB_i, pW_i, pZ_0, pZ_1, pZ_b, bI_e0, u1_s, u1_n, uA_s, uA_n, true_and, and_true, not_true_eq_false, not_false_eq_true, eq_self, iI_z, al1, al5, al3, al4, al90, al91, al92, al93, al6, Int.cast_ofNat_Int, Nat.reduceAdd, Int.reduceNeg, Int.reduceAdd, Int.reduceSub, Int.reduceMul, Int.reduceLT, Int.reduceLE, Int.reduceGT, Int.reduceGE, Int.reduceEq, Int.reduceNe, Nat.reduceEqDiff, Int.zero_add, Int.add_zero, p_ty0, p_ty1, p_ty2, p_ty3, p_ty4, p_ty5, p_ty8, p_ty9, p_ty10, t0, gd_t, e2, e3, e4, e5, e6, e7, e8, e9, eA]
end PH8
