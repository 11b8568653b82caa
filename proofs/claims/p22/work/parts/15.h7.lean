section PH7
variable {d : Nat} {T : pT} {M : pM} {F : pF} {b g a n : Nat} {p s k x : Int}
theorem c_fill (ta : p_ty T a = (1, n)) (ha : 100 ≤ a) (hn : n ≤ 100000) (hd : 1 ≤ d) :
    callD d m_J7_fill_53178 [.ref a, .int (iI x)] T M F = some (.inl none, T, uA M a (fun j => if 0 ≤ j ∧ j < n then jI (iI x) else M a j), F) := by
  refine callD_go 0 hd rfl (fun e he => ?_)
  show R e m_J7_fill_53178 0 [.val (.ref a), .val (.int (iI x)), .unset, .unset] [] T M F = _
  have key : ∀ (m : Nat) (k : Int), k = n - (m : Int) → 0 ≤ k → R e m_J7_fill_53178 5 [.val (.ref a), .val (.int (iI x)), .val (.int (iI k)), .val (.int (iI n))] [] T (uA M a (fun j => if 0 ≤ j ∧ j < k then jI (iI x) else M a j)) F = some (.inl none, T, uA M a (fun j => if 0 ≤ j ∧ j < n then jI (iI x) else M a j), F) := by
    intro m
    induction m with
    | zero =>
      intro k hk h0
      obtain rfl : k = n := by omega
      simp (disch := omega) only [x_J7_fill_53178_0, x_J7_fill_53178_1, x_J7_fill_53178_2, x_J7_fill_53178_3, x_J7_fill_53178_4, x_J7_fill_53178_5, x_J7_fill_53178_6, x_J7_fill_53178_7, x_J7_fill_53178_10, x_J7_fill_53178_11, x_J7_fill_53178_12, x_J7_fill_53178_13, x_J7_fill_53178_14, x_J7_fill_53178_17, x_J7_fill_53178_20, List.length_cons, List.length_nil, Nat.reduceLeDiff, Nat.zero_add, iI_add, iI_sub, iI_mul, iI_neg, iI_lt, iI_le, iI_eq, jI_iI, B_True, B_False, B_t, B_f, ck_True, gd_True, cb_v, cb_n, p_mv_rw, p_fv_rw, p_rv_some, pA_1, pA_90, pA_92, pA_3, pA_5, pA_93, pA_4, pA_91, pA_6, pS_i, pB_i, pW_i, pZ_0, pZ_1, pZ_b, bI_e0, u1_s, u1_n, uA_s, uA_n, true_and, and_true, not_true_eq_false, not_false_eq_true, eq_self, iI_z, al1, al5, al3, al4, al90, al91, al92, al93, al6, Int.cast_ofNat_Int, Nat.reduceAdd, Int.reduceNeg, Int.reduceAdd, Int.reduceSub, Int.reduceMul, Int.reduceLT, Int.reduceLE, Int.reduceGT, Int.reduceGE, Int.reduceEq, Int.reduceNe, Nat.reduceEqDiff, Int.zero_add, Int.add_zero, p_ty0, p_ty1, p_ty2, p_ty3, p_ty4, p_ty5, p_ty8, p_ty9, p_ty10, ta]
    | succ m ih =>
      intro k hk h0
      rw [x_J7_fill_53178_5]
      simp (disch := omega) only [x_J7_fill_53178_0, x_J7_fill_53178_1, x_J7_fill_53178_2, x_J7_fill_53178_3, x_J7_fill_53178_4, x_J7_fill_53178_6, x_J7_fill_53178_7, x_J7_fill_53178_10, x_J7_fill_53178_11, x_J7_fill_53178_12, x_J7_fill_53178_13, x_J7_fill_53178_14, x_J7_fill_53178_17, x_J7_fill_53178_20, List.length_cons, List.length_nil, Nat.reduceLeDiff, Nat.zero_add, iI_add, iI_sub, iI_mul, iI_neg, iI_lt, iI_le, iI_eq, jI_iI, B_True, B_False, B_t, B_f, ck_True, gd_True, cb_v, cb_n, p_mv_rw, p_fv_rw, p_rv_some, pA_1, pA_90, pA_92, pA_3, pA_5, pA_93, pA_4, pA_91, pA_6, pS_i, pB_i, pW_i, pZ_0, pZ_1, pZ_b, bI_e0, u1_s, u1_n, uA_s, uA_n, true_and, and_true, not_true_eq_false, not_false_eq_true, eq_self, iI_z, al1, al5, al3, al4, al90, al91, al92, al93, al6, Int.cast_ofNat_Int, Nat.reduceAdd, Int.reduceNeg, Int.reduceAdd, Int.reduceSub, Int.reduceMul, Int.reduceLT, Int.reduceLE, Int.reduceGT, Int.reduceGE, Int.reduceEq, Int.reduceNe, Nat.reduceEqDiff, Int.zero_add, Int.add_zero, p_ty0, p_ty1, p_ty2, p_ty3, p_ty4, p_ty5, p_ty8, p_ty9, p_ty10, ta, B_f]
      rw [show uA (uA M a (fun j => if 0 ≤ j ∧ j < k then jI (iI x) else M a j)) a (u1 (fun j => if 0 ≤ j ∧ j < k then jI (iI x) else M a j) k (jI (iI x))) = uA M a (fun j => if 0 ≤ j ∧ j < k + 1 then jI (iI x) else M a j) by
        rw [uA_uA]
        congr 1
        funext j
        simp only [u1]
        (repeat' split) <;> first | rfl | omega]
      exact ih (k + 1) (by omega) (by omega)
  simp (disch := omega) only [x_J7_fill_53178_0, x_J7_fill_53178_1, x_J7_fill_53178_2, x_J7_fill_53178_3, x_J7_fill_53178_4, x_J7_fill_53178_6, x_J7_fill_53178_7, x_J7_fill_53178_10, x_J7_fill_53178_11, x_J7_fill_53178_12, x_J7_fill_53178_13, x_J7_fill_53178_14, x_J7_fill_53178_17, x_J7_fill_53178_20, List.length_cons, List.length_nil, Nat.reduceLeDiff, Nat.zero_add, iI_add, iI_sub, iI_mul, iI_neg, iI_lt, iI_le, iI_eq, jI_iI, B_True, B_False, B_t, B_f, ck_True, gd_True, cb_v, cb_n, p_mv_rw, p_fv_rw, p_rv_some, pA_1, pA_90, pA_92, pA_3, pA_5, pA_93, pA_4, pA_91, pA_6, pS_i, pB_i, pW_i, pZ_0, pZ_1, pZ_b, bI_e0, u1_s, u1_n, uA_s, uA_n, true_and, and_true, not_true_eq_false, not_false_eq_true, eq_self, iI_z, al1, al5, al3, al4, al90, al91, al92, al93, al6, Int.cast_ofNat_Int, Nat.reduceAdd, Int.reduceNeg, Int.reduceAdd, Int.reduceSub, Int.reduceMul, Int.reduceLT, Int.reduceLE, Int.reduceGT, Int.reduceGE, Int.reduceEq, Int.reduceNe, Nat.reduceEqDiff, Int.zero_add, Int.add_zero, p_ty0, p_ty1, p_ty2, p_ty3, p_ty4, p_ty5, p_ty8, p_ty9, p_ty10, ta]
  have h9 := key n 0 (by omega) (by omega)
  rw [show (fun j : Int => if 0 ≤ j ∧ j < 0 then jI (iI x) else M a j) = M a from funext fun j => if_neg (by omega), uA_id] at h9
  exact h9
theorem c_clear (hB : BT T F b) :
    ∃ M', (∀ d, 2 ≤ d → callD d m_X0_clear [.ref b] T M F = some (.inl none, T, M', F)) ∧ (BV (M (b + 1)) → RB M' b (fun _ => 0)) ∧ ∀ a, a ≠ b → a ≠ b + 1 → M' a = M a := by
  obtain ⟨hb, t0, t1, f0⟩ := hB
  have key : ∀ (e : Nat) (he : 1 ≤ e) (m : Nat) (k : Int) (l2 : Slot), k = 91 - (m : Int) → 0 ≤ k → R e m_X0_clear 10 [.val (.ref b), .val (.int (iI k)), l2] [] T (uA M (b + 1) (fun j => if 0 ≤ j ∧ j < 289 then (if q_cel j ≠ -1 ∧ q_cel j < k then 0 else -1) else M (b + 1) j)) F = some (.inl none, T, uA (uA M (b + 1) (fun j => if 0 ≤ j ∧ j < 289 then (if q_cel j ≠ -1 ∧ q_cel j < 91 then 0 else -1) else M (b + 1) j)) b (u1 (u1 (M b) 1 (-1)) 2 (-1)), F) := by
    intro e he m
    induction m with
    | zero =>
      intro k l2 hk h0
      obtain rfl : k = 91 := by omega
      simp (disch := omega) only [x_X0_clear_0, x_X0_clear_1, x_X0_clear_4, x_X0_clear_5, x_X0_clear_8, x_X0_clear_9, x_X0_clear_10, x_X0_clear_11, x_X0_clear_13, x_X0_clear_16, x_X0_clear_17, x_X0_clear_20, x_X0_clear_21, x_X0_clear_22, x_X0_clear_25, x_X0_clear_26, x_X0_clear_27, x_X0_clear_30, x_X0_clear_31, x_X0_clear_34, x_X0_clear_35, x_X0_clear_38, x_X0_clear_39, x_X0_clear_40, x_X0_clear_41, x_X0_clear_44, x_X0_clear_47, x_X0_clear_48, x_X0_clear_49, x_X0_clear_52, x_X0_clear_53, x_X0_clear_54, x_X0_clear_57, List.length_cons, List.length_nil, Nat.reduceLeDiff, Nat.zero_add, iI_add, iI_sub, iI_mul, iI_neg, iI_lt, iI_le, iI_eq, jI_iI, B_True, B_False, B_t, B_f, ck_True, gd_True, cb_v, cb_n, p_mv_rw, p_fv_rw, p_rv_some, pA_1, pA_90, pA_92, pA_3, pA_5, pA_93, pA_4, pA_91, pA_6, pS_i, pB_i, pW_i, pZ_0, pZ_1, pZ_b, bI_e0, u1_s, u1_n, uA_s, uA_n, true_and, and_true, not_true_eq_false, not_false_eq_true, eq_self, iI_z, al1, al5, al3, al4, al90, al91, al92, al93, al6, Int.cast_ofNat_Int, Nat.reduceAdd, Int.reduceNeg, Int.reduceAdd, Int.reduceSub, Int.reduceMul, Int.reduceLT, Int.reduceLE, Int.reduceGT, Int.reduceGE, Int.reduceEq, Int.reduceNe, Nat.reduceEqDiff, Int.zero_add, Int.add_zero, p_ty0, p_ty1, p_ty2, p_ty3, p_ty4, p_ty5, p_ty8, p_ty9, p_ty10, t0, t1, f0]
      rw [uA_uA]
    | succ m ih =>
      intro k l2 hk h0
      have hq := q_pl_nn (k := k) (by omega)
      rw [x_X0_clear_10]
      simp (disch := omega) only [x_X0_clear_0, x_X0_clear_1, x_X0_clear_4, x_X0_clear_5, x_X0_clear_8, x_X0_clear_9, x_X0_clear_11, x_X0_clear_13, x_X0_clear_16, x_X0_clear_17, x_X0_clear_20, x_X0_clear_21, x_X0_clear_22, x_X0_clear_25, x_X0_clear_26, x_X0_clear_27, x_X0_clear_30, x_X0_clear_31, x_X0_clear_34, x_X0_clear_35, x_X0_clear_38, x_X0_clear_39, x_X0_clear_40, x_X0_clear_41, x_X0_clear_44, x_X0_clear_47, x_X0_clear_48, x_X0_clear_49, x_X0_clear_52, x_X0_clear_53, x_X0_clear_54, x_X0_clear_57, List.length_cons, List.length_nil, Nat.reduceLeDiff, Nat.zero_add, iI_add, iI_sub, iI_mul, iI_neg, iI_lt, iI_le, iI_eq, jI_iI, B_True, B_False, B_t, B_f, ck_True, gd_True, cb_v, cb_n, p_mv_rw, p_fv_rw, p_rv_some, pA_1, pA_90, pA_92, pA_3, pA_5, pA_93, pA_4, pA_91, pA_6, pS_i, pB_i, pW_i, pZ_0, pZ_1, pZ_b, bI_e0, u1_s, u1_n, uA_s, uA_n, true_and, and_true, not_true_eq_false, not_false_eq_true, eq_self, iI_z, al1, al5, al3, al4, al90, al91, al92, al93, al6, Int.cast_ofNat_Int, Nat.reduceAdd, Int.reduceNeg, Int.reduceAdd, Int.reduceSub, Int.reduceMul, Int.reduceLT, Int.reduceLE, Int.reduceGT, Int.reduceGE, Int.reduceEq, Int.reduceNe, Nat.reduceEqDiff, Int.zero_add, Int.add_zero, p_ty0, p_ty1, p_ty2, p_ty3, p_ty4, p_ty5, p_ty8, p_ty9, p_ty10, t0, t1, f0, B_f, B_t, c_placeOf, gd_t]
      rw [show uA (uA M (b + 1) (fun j => if 0 ≤ j ∧ j < 289 then (if q_cel j ≠ -1 ∧ q_cel j < k then 0 else -1) else M (b + 1) j)) (b + 1) (u1 (fun j => if 0 ≤ j ∧ j < 289 then (if q_cel j ≠ -1 ∧ q_cel j < k then 0 else -1) else M (b + 1) j) (q_pl k) 0) = uA M (b + 1) (fun j => if 0 ≤ j ∧ j < 289 then (if q_cel j ≠ -1 ∧ q_cel j < k + 1 then 0 else -1) else M (b + 1) j) by
        rw [uA_uA]
        congr 1
        funext j
        simp only [u1]
        by_cases e1 : j = q_pl k
        · subst e1
          have := geo1 (k := k) (by omega)
          rw [if_pos rfl, if_pos (by omega), if_pos (by omega)]
        · rw [if_neg e1]
          by_cases e2 : 0 ≤ j ∧ j < 289
          · rw [if_pos e2, if_pos e2]
            rcases geo2 e2 with g | ⟨g1, g2, g3⟩
            · rw [if_neg (fun z => z.1 g), if_neg (fun z => z.1 g)]
            · have : q_cel j ≠ k := fun z => e1 (by rw [← g3, z])
              (repeat' split) <;> first | rfl | omega
          · rw [if_neg e2, if_neg e2]]
      exact ih (k + 1) _ (by omega) (by omega)
  refine ⟨uA (uA M (b + 1) (fun j => if 0 ≤ j ∧ j < 289 then (if q_cel j ≠ -1 ∧ q_cel j < 91 then 0 else -1) else M (b + 1) j)) b (u1 (u1 (M b) 1 (-1)) 2 (-1)), fun d hd => ?_, fun hv => ?_, fun a h1 h2 => ?_⟩
  · refine callD_go 1 hd rfl (fun e he => ?_)
    show R e m_X0_clear 0 [.val (.ref b), .unset, .unset] [] T M F = _
    have hf := c_fill (T := T) (M := M) (F := F) (d := e) (x := -1) t1 (by omega) (by omega) he
    simp (disch := omega) only [x_X0_clear_0, x_X0_clear_1, x_X0_clear_4, x_X0_clear_5, x_X0_clear_8, x_X0_clear_9, x_X0_clear_11, x_X0_clear_13, x_X0_clear_16, x_X0_clear_17, x_X0_clear_20, x_X0_clear_21, x_X0_clear_22, x_X0_clear_25, x_X0_clear_26, x_X0_clear_27, x_X0_clear_30, x_X0_clear_31, x_X0_clear_34, x_X0_clear_35, x_X0_clear_38, x_X0_clear_39, x_X0_clear_40, x_X0_clear_41, x_X0_clear_44, x_X0_clear_47, x_X0_clear_48, x_X0_clear_49, x_X0_clear_52, x_X0_clear_53, x_X0_clear_54, x_X0_clear_57, List.length_cons, List.length_nil, Nat.reduceLeDiff, Nat.zero_add, iI_add, iI_sub, iI_mul, iI_neg, iI_lt, iI_le, iI_eq, jI_iI, B_True, B_False, B_t, B_f, ck_True, gd_True, cb_v, cb_n, p_mv_rw, p_fv_rw, p_rv_some, pA_1, pA_90, pA_92, pA_3, pA_5, pA_93, pA_4, pA_91, pA_6, pS_i, pB_i, pW_i, pZ_0, pZ_1, pZ_b, bI_e0, u1_s, u1_n, uA_s, uA_n, true_and, and_true, not_true_eq_false, not_false_eq_true, eq_self, iI_z, al1, al5, al3, al4, al90, al91, al92, al93, al6, Int.cast_ofNat_Int, Nat.reduceAdd, Int.reduceNeg, Int.reduceAdd, Int.reduceSub, Int.reduceMul, Int.reduceLT, Int.reduceLE, Int.reduceGT, Int.reduceGE, Int.reduceEq, Int.reduceNe, Nat.reduceEqDiff, Int.zero_add, Int.add_zero, p_ty0, p_ty1, p_ty2, p_ty3, p_ty4, p_ty5, p_ty8, p_ty9, p_ty10, t0, t1, f0, hf, gd_t]
    have h9 := key e he 91 0 .unset (by omega) (by omega)
    rw [show (fun j : Int => if 0 ≤ j ∧ j < 289 then (if q_cel j ≠ -1 ∧ q_cel j < 0 then (0 : Int) else -1) else M (b + 1) j) = fun j => if 0 ≤ j ∧ j < ((289 : Nat) : Int) then jI (iI (-1)) else M (b + 1) j from funext fun j => by
      by_cases e2 : 0 ≤ j ∧ j < 289
      · rw [if_pos e2, if_pos (show 0 ≤ j ∧ j < ((289 : Nat) : Int) from e2)]
        rcases geo2 e2 with g | ⟨g1, g2, g3⟩
        · rw [if_neg (fun z => z.1 g)]; rfl
        · rw [if_neg (by omega)]; rfl
      · rw [if_neg e2, if_neg (show ¬ (0 ≤ j ∧ j < ((289 : Nat) : Int)) from e2)]] at h9
    exact h9
  · have hbb : ¬ b + 1 = b := by omega
    have e1 : uA (uA M (b + 1) (fun j => if 0 ≤ j ∧ j < 289 then (if q_cel j ≠ -1 ∧ q_cel j < 91 then 0 else -1) else M (b + 1) j)) b (u1 (u1 (M b) 1 (-1)) 2 (-1)) (b + 1) = fun j => if 0 ≤ j ∧ j < 289 then (if q_cel j ≠ -1 ∧ q_cel j < 91 then 0 else -1) else M (b + 1) j := by
      unfold uA; rw [if_neg hbb, if_pos rfl]
    have e2 : uA (uA M (b + 1) (fun j => if 0 ≤ j ∧ j < 289 then (if q_cel j ≠ -1 ∧ q_cel j < 91 then 0 else -1) else M (b + 1) j)) b (u1 (u1 (M b) 1 (-1)) 2 (-1)) b = u1 (u1 (M b) 1 (-1)) 2 (-1) := uA_s
    have kr : ∀ s, s = 0 ∨ s = 1 → KR (-1) (fun _ => 0) s := fun s hs => ⟨Or.inl rfl, fun k h0 h1 => ⟨fun q => by have q' : (0 : Int) = 10 * s + 1 := q; omega, fun q => by have := q_pl_nn ⟨h0, h1⟩; omega⟩⟩
    refine ⟨?_, ?_, fun k => Or.inl rfl, ?_, ?_⟩
    · rw [e1]
      intro i
      have := hv i
      dsimp only
      (repeat' split) <;> omega
    · rw [e1]
      intro p hp
      dsimp only
      rw [if_pos hp]
      rcases geo2 hp with g | ⟨g1, g2, g3⟩
      · rw [if_neg (fun z => z.1 g), if_pos g]
      · rw [if_pos (by omega), if_neg (by omega)]; rfl
    · rw [e2]; exact kr 0 (Or.inl rfl)
    · rw [e2]; exact kr 1 (Or.inr rfl)
  · unfold uA; rw [if_neg h1, if_neg h2]
end PH7
