section PHB
variable {d : Nat} {T : pT} {M : pM} {F : pF} {b g : Nat} {bb : Int → Int} {p s k x c n t pas q : Int}
def GF (M M' : pM) (g : Nat) : Prop := ∀ a, (a < g ∨ g + 6 < a) → M' a = M a
theorem GF.rf : GF M M g := fun _ _ => rfl
theorem GF.tr {M M1 M2 : pM} (h1 : GF M M1 g) (h2 : GF M1 M2 g) : GF M M2 g := fun a h => (h2 a h).trans (h1 a h)
/-- a fresh game behind startAnew -/
def q_new (M : pM) (g : Nat) (t : Int) : pM := uA M g (u1 (u1 (u1 (u1 (u1 (M g) 1 t) 2 0) 3 (-1)) 5 0) 8 0)
theorem q_new_GS {M M0 : pM} (hR : RB M (g + 1) bb) (ht : t = 0 ∨ t = 1) : GS (q_new M g t) g bb t (-1) 0 ∧ q_new M g t g 5 = 0 ∧ q_new M g t g 8 = 0 ∧ GF M (q_new M g t) g := by
  have e0 : q_new M g t g = u1 (u1 (u1 (u1 (u1 (M g) 1 t) 2 0) 3 (-1)) 5 0) 8 0 := uA_s
  have e1 : q_new M g t (g + 1) = M (g + 1) := uA_n (by omega)
  have e2 : q_new M g t (g + 1 + 1) = M (g + 1 + 1) := uA_n (by omega)
  refine ⟨⟨?_, ?_, ?_, ?_, ht, by omega, Or.inl rfl⟩, ?_, ?_, fun a h => uA_n (by omega)⟩
  · unfold RB; rw [e1, e2]; exact hR
  · rw [e0]; rfl
  · rw [e0]; rfl
  · rw [e0]; rfl
  · rw [e0]; rfl
  · rw [e0]; rfl
theorem c_gclear (hG : GT T F g) (hv : BV (M (g + 1 + 1))) : ∃ M', (∀ d, 3 ≤ d → callD d m_X1_clear [.ref g] T M F = some (.inl none, T, M', F)) ∧ GS M' g (fun _ => 0) 0 (-1) 0 ∧ M' g 5 = 0 ∧ M' g 8 = 0 ∧ GF M M' g := by
  have hG' := hG
  obtain ⟨hg, t0, f0, hB, -⟩ := hG
  have hb0 := hB.2.1
  obtain ⟨M1, e1, R1, F1⟩ := c_clear (M := M) hB
  have R1 := R1 hv
  obtain ⟨h1, h2, h3, h4⟩ := q_new_GS (M := M1) (M0 := M) (t := 0) R1 (Or.inl rfl)
  refine ⟨q_new M1 g 0, fun d hd => ?_, h1, h2, h3, GF.tr (fun a h => F1 a (by omega) (by omega)) h4⟩
  refine callD_go 2 hd rfl (fun e he => ?_)
  show R e m_X1_clear 0 [.val (.ref g)] [] T M F = _
  simp (disch := omega) only [x_X1_clear_0, x_X1_clear_1, x_X1_clear_4, x_X1_clear_7, x_X1_clear_8, x_X1_clear_9, x_X1_clear_12, x_X1_clear_13, x_X1_clear_16, List.length_cons, List.length_nil, Nat.reduceLeDiff, Nat.zero_add, iI_add, iI_sub, iI_mul, iI_neg, iI_lt, iI_le, iI_eq, jI_iI, B_True, B_False, B_t, B_f, ck_True, gd_True, cb_v, cb_n, p_mv_rw, p_fv_rw, p_rv_some, pA_1, pA_90, pA_92, pA_3, pA_5, pA_93, pA_4, pA_91, pA_6, pS_i, pB_i, pW_i, pZ_0, pZ_1, pZ_b, bI_e0, u1_s, u1_n, uA_s, uA_n, true_and, and_true, not_true_eq_false, not_false_eq_true, eq_self, iI_z, al1, al5, al3, al4, al90, al91, al92, al93, al6, Int.cast_ofNat_Int, Nat.reduceAdd, Int.reduceNeg, Int.reduceAdd, Int.reduceSub, Int.reduceMul, Int.reduceLT, Int.reduceLE, Int.reduceGT, Int.reduceGE, Int.reduceEq, Int.reduceNe, Nat.reduceEqDiff, Int.zero_add, Int.add_zero, p_ty0, p_ty1, p_ty2, p_ty3, p_ty4, p_ty5, p_ty8, p_ty9, p_ty10, t0, f0, hb0, e1, c_startAnew hG', gd_t, uA_uA]
  rfl
theorem c_gsetUp (hG : GT T F g) (hv : BV (M (g + 1 + 1))) : ∃ M', (∀ d, 5 ≤ d → callD d m_X1_setUp [.ref g] T M F = some (.inl none, T, M', F)) ∧ GS M' g q_sb 0 (-1) 0 ∧ M' g 5 = 0 ∧ M' g 8 = 0 ∧ GF M M' g := by
  have hG' := hG
  obtain ⟨hg, t0, f0, hB, -⟩ := hG
  have hb0 := hB.2.1
  obtain ⟨M1, e1, R1, F1⟩ := c_setUpB (M := M) hB hv
  obtain ⟨h1, h2, h3, h4⟩ := q_new_GS (M := M1) (M0 := M) (t := 0) R1 (Or.inl rfl)
  refine ⟨q_new M1 g 0, fun d hd => ?_, h1, h2, h3, GF.tr (fun a h => F1 a (by omega) (by omega)) h4⟩
  refine callD_go 4 hd rfl (fun e he => ?_)
  show R e m_X1_setUp 0 [.val (.ref g)] [] T M F = _
  simp (disch := omega) only [x_X1_setUp_0, x_X1_setUp_1, x_X1_setUp_4, x_X1_setUp_7, x_X1_setUp_8, x_X1_setUp_9, x_X1_setUp_12, x_X1_setUp_13, x_X1_setUp_16, List.length_cons, List.length_nil, Nat.reduceLeDiff, Nat.zero_add, iI_add, iI_sub, iI_mul, iI_neg, iI_lt, iI_le, iI_eq, jI_iI, B_True, B_False, B_t, B_f, ck_True, gd_True, cb_v, cb_n, p_mv_rw, p_fv_rw, p_rv_some, pA_1, pA_90, pA_92, pA_3, pA_5, pA_93, pA_4, pA_91, pA_6, pS_i, pB_i, pW_i, pZ_0, pZ_1, pZ_b, bI_e0, u1_s, u1_n, uA_s, uA_n, true_and, and_true, not_true_eq_false, not_false_eq_true, eq_self, iI_z, al1, al5, al3, al4, al90, al91, al92, al93, al6, Int.cast_ofNat_Int, Nat.reduceAdd, Int.reduceNeg, Int.reduceAdd, Int.reduceSub, Int.reduceMul, Int.reduceLT, Int.reduceLE, Int.reduceGT, Int.reduceGE, Int.reduceEq, Int.reduceNe, Nat.reduceEqDiff, Int.zero_add, Int.add_zero, p_ty0, p_ty1, p_ty2, p_ty3, p_ty4, p_ty5, p_ty8, p_ty9, p_ty10, t0, f0, hb0, e1, c_startAnew hG', gd_t, uA_uA]
  rfl
theorem c_giveTurn (hG : GT T F g) (hR : RB M (g + 1) bb) (ht : t = 0 ∨ t = 1) : ∃ M', (∀ d, 2 ≤ d → callD d m_X1_giveTurn [.ref g, .int (iI t)] T M F = some (.inl none, T, M', F)) ∧ GS M' g bb t (-1) 0 ∧ M' g 5 = 0 ∧ M' g 8 = 0 ∧ GF M M' g := by
  have hG' := hG
  obtain ⟨hg, t0, f0, hB, -⟩ := hG
  obtain ⟨h1, h2, h3, h4⟩ := q_new_GS (M := M) (M0 := M) (t := t) hR ht
  refine ⟨q_new M g t, fun d hd => ?_, h1, h2, h3, h4⟩
  refine callD_go 1 hd rfl (fun e he => ?_)
  show R e m_X1_giveTurn 0 [.val (.ref g), .val (.int (iI t))] [] T M F = _
  simp (disch := omega) only [x_X1_giveTurn_0, x_X1_giveTurn_1, x_X1_giveTurn_2, x_X1_giveTurn_5, x_X1_giveTurn_6, x_X1_giveTurn_9, List.length_cons, List.length_nil, Nat.reduceLeDiff, Nat.zero_add, iI_add, iI_sub, iI_mul, iI_neg, iI_lt, iI_le, iI_eq, jI_iI, B_True, B_False, B_t, B_f, ck_True, gd_True, cb_v, cb_n, p_mv_rw, p_fv_rw, p_rv_some, pA_1, pA_90, pA_92, pA_3, pA_5, pA_93, pA_4, pA_91, pA_6, pS_i, pB_i, pW_i, pZ_0, pZ_1, pZ_b, bI_e0, u1_s, u1_n, uA_s, uA_n, true_and, and_true, not_true_eq_false, not_false_eq_true, eq_self, iI_z, al1, al5, al3, al4, al90, al91, al92, al93, al6, Int.cast_ofNat_Int, Nat.reduceAdd, Int.reduceNeg, Int.reduceAdd, Int.reduceSub, Int.reduceMul, Int.reduceLT, Int.reduceLE, Int.reduceGT, Int.reduceGE, Int.reduceEq, Int.reduceNe, Nat.reduceEqDiff, Int.zero_add, Int.add_zero, p_ty0, p_ty1, p_ty2, p_ty3, p_ty4, p_ty5, p_ty8, p_ty9, p_ty10, t0, f0, c_startAnew hG', gd_t, uA_uA]
  rfl
theorem c_gput (hG : GT T F g) (hS : GS M g bb t pas q) (hs : s = 0 ∨ s = 1) (hx : 1 ≤ x ∧ x ≤ 6) (hk : 0 ≤ k ∧ k < 91) (hu : x = 1 → ∀ j, 0 ≤ j → j < 91 → bb j ≠ 10 * s + 1) : ∃ M', (∀ d, 3 ≤ d → callD d m_X1_put [.ref g, .int (iI s), .int (iI x), .int (iI k)] T M F = some (.inl none, T, M', F)) ∧ GS M' g (u1 bb k (10 * s + x)) t (-1) 0 ∧ M' g 5 = 0 ∧ M' g 8 = 0 ∧ GF M M' g := by
  have hG' := hG
  obtain ⟨hg, t0, f0, hB, -⟩ := hG
  obtain ⟨hR, s1, s2, s3, s4, s5, s6⟩ := hS
  have hb0 := hB.2.1
  have hv : q_val s x = cv (10 * s + x) := by unfold q_val cv; (repeat' split) <;> omega
  have hvx : VX (10 * s + x) := by unfold VX; omega
  obtain ⟨M1, e1, R1, F1⟩ := c_setR (T := T) (F := F) (c := k) (x := 10 * s + x) hB hR hk hvx (fun s' hs' hx' j h0 h1 _ => by
    have h9 : s' = s ∧ x = 1 := by rcases hs with rfl | rfl <;> rcases hs' with rfl | rfl <;> omega
    rw [h9.1]; exact hu h9.2 j h0 h1)
  have hg1 : M1 g = M g := F1 g (by omega) (by omega)
  obtain ⟨h1, h2, h3, h4⟩ := q_new_GS (M := M1) (M0 := M) (t := t) R1 s4
  refine ⟨q_new M1 g t, fun d hd => ?_, h1, h2, h3, GF.tr (fun a h => F1 a (by omega) (by omega)) h4⟩
  refine callD_go 2 hd rfl (fun e he => ?_)
  show R e m_X1_put 0 [.val (.ref g), .val (.int (iI s)), .val (.int (iI x)), .val (.int (iI k))] [] T M F = _
  have hq := q_pl_nn hk
  simp (disch := omega) only [x_X1_put_0, x_X1_put_1, x_X1_put_4, x_X1_put_5, x_X1_put_8, x_X1_put_9, x_X1_put_10, x_X1_put_13, x_X1_put_16, x_X1_put_17, x_X1_put_20, List.length_cons, List.length_nil, Nat.reduceLeDiff, Nat.zero_add, iI_add, iI_sub, iI_mul, iI_neg, iI_lt, iI_le, iI_eq, jI_iI, B_True, B_False, B_t, B_f, ck_True, gd_True, cb_v, cb_n, p_mv_rw, p_fv_rw, p_rv_some, pA_1, pA_90, pA_92, pA_3, pA_5, pA_93, pA_4, pA_91, pA_6, pS_i, pB_i, pW_i, pZ_0, pZ_1, pZ_b, bI_e0, u1_s, u1_n, uA_s, uA_n, true_and, and_true, not_true_eq_false, not_false_eq_true, eq_self, iI_z, al1, al5, al3, al4, al90, al91, al92, al93, al6, Int.cast_ofNat_Int, Nat.reduceAdd, Int.reduceNeg, Int.reduceAdd, Int.reduceSub, Int.reduceMul, Int.reduceLT, Int.reduceLE, Int.reduceGT, Int.reduceGE, Int.reduceEq, Int.reduceNe, Nat.reduceEqDiff, Int.zero_add, Int.add_zero, p_ty0, p_ty1, p_ty2, p_ty3, p_ty4, p_ty5, p_ty8, p_ty9, p_ty10, t0, f0, hb0, c_placeOf, c_val, hv, e1, c_startAnew hG', gd_t, uA_uA]
  unfold q_new
  rw [show u1 (M1 g) 1 t = M1 g by rw [hg1, ← s1]; exact u1_id]
end PHB
