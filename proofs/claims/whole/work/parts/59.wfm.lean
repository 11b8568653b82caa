section PWFM
variable {d : Nat} {T : pT} {M M0 M1 M2 : pM} {F : pF} {w n A : Nat} {k c m kd a b i p hi lo ro : Int} {S : WSt}
theorem wf_loop (hW : WT T F w) (hk : kd = 1 ∨ kd = 2 ∨ kd = 3 ∨ kd = 4 ∨ kd = 5) (ha : 0 ≤ a ∧ a < 91) (hb : 0 ≤ b ∧ b < 91) : ∀ (n k : Nat) (M : pM) (S : WSt), k + n = 91 → RB M (w + 1) (fun _ => 0) → WS M w S → WI S →
    ∃ M', (∀ e, 3 ≤ e → R e m_X6_fewestMoves 22 [.val (.ref w), .val (.int (iI kd)), .val (.int (iI (q_pl a))), .val (.int (iI (q_pl b))), .val (.int (iI (k : Int)))] [] T M F = some (.inl (some (.int (iI ((w_l kd n k S).1 b)))), T, M', F)) ∧ FW M M' w := by
  intro n
  induction n with
  | zero =>
    intro k M S hn hR hS hI
    refine ⟨M, fun e he => ?_, FW.rf⟩
    have hl := hI.len
    have h2 := hS.2.1
    have hdi := c_wdist (d := e) (T := T) (F := F) hW hS hb (by omega)
    have hrg := hI.rg hb
    have hq := q_pl_nn hb
    obtain ⟨hw, t0, f0, hB, t3, f3, t4, f4⟩ := hW
    clear hR hS hI hB
    rw [w_l]
    simp (disch := omega) only [x_X6_fewestMoves_22, x_X6_fewestMoves_24, x_X6_fewestMoves_25, x_X6_fewestMoves_28, x_X6_fewestMoves_59, x_X6_fewestMoves_60, x_X6_fewestMoves_61, x_X6_fewestMoves_64, List.length_cons, List.length_nil, Nat.reduceLeDiff, Nat.zero_add, iI_add, iI_sub, iI_mul, iI_neg, iI_lt, iI_le, iI_eq, jI_iI, B_True, B_False, B_t, B_f, ck_True, gd_True, cb_v, cb_n, p_mv_rw, p_fv_rw, p_rv_some, pA_1, pA_90, pA_92, pA_3, pA_2, pA_93, pA_4, pA_91, pA_95, pS_i, pW_i, pZ_0, pZ_1, pZ_b, bI_e0, u1_s, u1_n, uA_s, uA_n, true_and, and_true, not_true_eq_false, not_false_eq_true, eq_self, iI_z, al1, al2, al3, al4, al90, al91, al92, al93, al95, Int.cast_ofNat_Int, Nat.reduceAdd, Int.reduceNeg, Int.reduceAdd, Int.reduceSub, Int.reduceMul, Int.reduceLT, Int.reduceLE, Int.reduceGT, Int.reduceGE, Int.reduceEq, Int.reduceNe, Nat.reduceEqDiff, Int.zero_add, Int.add_zero, p_ty0, p_ty1, p_ty2, p_ty3, p_ty4, p_ty5, p_ty6, p_ty7, p_ty8, p_ty9, p_ty10, p_ty11, t0, h2, hdi, gd_t, B_t, B_f]
  | succ n ih =>
    intro k M S hn hR hS hI
    have hl := hI.len
    have h2 := hS.2.1
    have hq := q_pl_nn hb
    by_cases e1 : k < S.2.length
    · have hin := WI.at e1
      have h3 := hS.2.2 k e1
      have hc := hI.1 _ hin
      have hqc := q_pl_nn hc
      obtain ⟨M1, r1, S1, f1⟩ := c_goOn (T := T) (F := F) hW hk hin hR hS hI
      have hI1 := hI.g (kd := kd) hin
      have hw := hW.1
      have hR1 : RB M1 (w + 1) (fun _ => 0) := by
        unfold RB at hR ⊢
        rw [f1 (w + 1) (by omega) (by omega) (by omega), f1 (w + 1 + 1) (by omega) (by omega) (by omega)]; exact hR
      obtain ⟨M2, r2, f2⟩ := ih (k + 1) M1 _ (by omega) hR1 S1 hI1.1
      refine ⟨M2, fun e he => ?_, f1.tr f2⟩
      have r1 := r1 e he
      have r2 := r2 e he
      rw [Int.natCast_add_one] at r2
      rw [w_l, if_pos e1, ← r2]
      obtain ⟨-, t0, f0, hB, t3, f3, t4, f4⟩ := hW
      clear hR hS hI hB r2 ih S1 f1 f2 hR1 hI1
      rw [x_X6_fewestMoves_22]
      simp (disch := omega) only [x_X6_fewestMoves_24, x_X6_fewestMoves_25, x_X6_fewestMoves_28, x_X6_fewestMoves_31, x_X6_fewestMoves_33, x_X6_fewestMoves_34, x_X6_fewestMoves_37, x_X6_fewestMoves_38, x_X6_fewestMoves_41, x_X6_fewestMoves_42, x_X6_fewestMoves_43, x_X6_fewestMoves_44, x_X6_fewestMoves_47, x_X6_fewestMoves_49, x_X6_fewestMoves_50, x_X6_fewestMoves_53, x_X6_fewestMoves_56, List.length_cons, List.length_nil, Nat.reduceLeDiff, Nat.zero_add, iI_add, iI_sub, iI_mul, iI_neg, iI_lt, iI_le, iI_eq, jI_iI, B_True, B_False, B_t, B_f, ck_True, gd_True, cb_v, cb_n, p_mv_rw, p_fv_rw, p_rv_some, pA_1, pA_90, pA_92, pA_3, pA_2, pA_93, pA_4, pA_91, pA_95, pS_i, pW_i, pZ_0, pZ_1, pZ_b, bI_e0, u1_s, u1_n, uA_s, uA_n, true_and, and_true, not_true_eq_false, not_false_eq_true, eq_self, iI_z, al1, al2, al3, al4, al90, al91, al92, al93, al95, Int.cast_ofNat_Int, Nat.reduceAdd, Int.reduceNeg, Int.reduceAdd, Int.reduceSub, Int.reduceMul, Int.reduceLT, Int.reduceLE, Int.reduceGT, Int.reduceGE, Int.reduceEq, Int.reduceNe, Nat.reduceEqDiff, Int.zero_add, Int.add_zero, p_ty0, p_ty1, p_ty2, p_ty3, p_ty4, p_ty5, p_ty6, p_ty7, p_ty8, p_ty9, p_ty10, p_ty11, t0, h2, h3, t4, f4, r1, gd_t, B_t, B_f]
    · refine ⟨M, fun e he => ?_, FW.rf⟩
      have hdi := c_wdist (d := e) (T := T) (F := F) hW hS hb (by omega)
      have hrg := hI.rg hb
      obtain ⟨hw, t0, f0, hB, t3, f3, t4, f4⟩ := hW
      clear hR hS hI hB ih
      rw [w_l, if_neg e1]
      simp (disch := omega) only [x_X6_fewestMoves_22, x_X6_fewestMoves_24, x_X6_fewestMoves_25, x_X6_fewestMoves_28, x_X6_fewestMoves_59, x_X6_fewestMoves_60, x_X6_fewestMoves_61, x_X6_fewestMoves_64, List.length_cons, List.length_nil, Nat.reduceLeDiff, Nat.zero_add, iI_add, iI_sub, iI_mul, iI_neg, iI_lt, iI_le, iI_eq, jI_iI, B_True, B_False, B_t, B_f, ck_True, gd_True, cb_v, cb_n, p_mv_rw, p_fv_rw, p_rv_some, pA_1, pA_90, pA_92, pA_3, pA_2, pA_93, pA_4, pA_91, pA_95, pS_i, pW_i, pZ_0, pZ_1, pZ_b, bI_e0, u1_s, u1_n, uA_s, uA_n, true_and, and_true, not_true_eq_false, not_false_eq_true, eq_self, iI_z, al1, al2, al3, al4, al90, al91, al92, al93, al95, Int.cast_ofNat_Int, Nat.reduceAdd, Int.reduceNeg, Int.reduceAdd, Int.reduceSub, Int.reduceMul, Int.reduceLT, Int.reduceLE, Int.reduceGT, Int.reduceGE, Int.reduceEq, Int.reduceNe, Nat.reduceEqDiff, Int.zero_add, Int.add_zero, p_ty0, p_ty1, p_ty2, p_ty3, p_ty4, p_ty5, p_ty6, p_ty7, p_ty8, p_ty9, p_ty10, p_ty11, t0, h2, hdi, gd_t, B_t, B_f]
theorem c_fewest (hW : WT T F w) (hk : kd = 1 ∨ kd = 2 ∨ kd = 3 ∨ kd = 4 ∨ kd = 5) (ha : 0 ≤ a ∧ a < 91) (hb : 0 ≤ b ∧ b < 91) (hR : RB M (w + 1) (fun _ => 0)) :
    ∃ M', (∀ d, 4 ≤ d → callD d m_X6_fewestMoves [.ref w, .int (iI kd), .int (iI (q_pl a)), .int (iI (q_pl b))] T M F = some (.inl (some (.int (iI (w_far kd a b)))), T, M', F)) ∧ FW M M' w := by
  have hW' := hW
  obtain ⟨hw, t0, f0, hB, t3, f3, t4, f4⟩ := hW
  have hfl := fun d (hd : 1 ≤ d) => c_fill (d := d) (T := T) (M := M) (F := F) (x := -1) t3 (by omega) (by omega) hd
  obtain ⟨M1, hM1⟩ : ∃ M1 : pM, M1 = uA M (w + 3) (fun j => if 0 ≤ j ∧ j < ((289 : Nat) : Int) then jI (iI (-1)) else M (w + 3) j) := ⟨_, rfl⟩
  obtain ⟨M2, hM2⟩ : ∃ M2 : pM, M2 = uA M1 w (u1 (M1 w) 3 0) := ⟨_, rfl⟩
  have f2 : FW M M2 w := fun a a1 a2 a3 => by rw [hM2, uA_n a1, hM1, uA_n a2]
  have hS2 : WS M2 w (fun _ => -1, []) := by
    refine ⟨fun c c0 c1 => ?_, by rw [hM2, uA_s]; rfl, fun j hj => absurd hj (Nat.not_lt_zero j)⟩
    have := q_pl_nn ⟨c0, c1⟩
    rw [hM2, uA_n (by omega), hM1, uA_s, if_pos (by omega)]
    rfl
  obtain ⟨M3, r3, S3, f3'⟩ := c_wreach (T := T) (F := F) hW' hS2 WI.init ha (m := 0) ⟨Int.le_refl _, by rw [List.length_nil]; omega⟩
  have hI3 := WI.init.r (c := a) (m := 0) (by omega) ⟨Int.le_refl _, by rw [List.length_nil]; omega⟩
  have f13 := f2.tr f3'
  have hR3 : RB M3 (w + 1) (fun _ => 0) := by
    unfold RB at hR ⊢
    rw [f13 (w + 1) (by omega) (by omega) (by omega), f13 (w + 1 + 1) (by omega) (by omega) (by omega)]; exact hR
  obtain ⟨M4, r4, f4'⟩ := wf_loop (T := T) (F := F) hW' hk ha hb 91 0 M3 _ (by omega) hR3 S3 hI3
  refine ⟨M4, fun d hd => ?_, f13.tr f4'⟩
  refine callD_go 3 hd rfl (fun e he => ?_)
  show R e m_X6_fewestMoves 0 [.val (.ref w), .val (.int (iI kd)), .val (.int (iI (q_pl a))), .val (.int (iI (q_pl b))), .unset] [] T M F = _
  have hfl := hfl e (by omega)
  rw [← hM1] at hfl
  have r3 := r3 e (by omega)
  have r4 := r4 e he
  rw [hM2] at r3
  have hq := q_pl_nn ha
  unfold w_far
  rw [← r4]
  clear r4 f4' f13 hR3 hI3 S3 f3' hS2 f2 hR hB hM1 hM2
  simp (disch := omega) only [x_X6_fewestMoves_0, x_X6_fewestMoves_1, x_X6_fewestMoves_4, x_X6_fewestMoves_5, x_X6_fewestMoves_8, x_X6_fewestMoves_9, x_X6_fewestMoves_10, x_X6_fewestMoves_13, x_X6_fewestMoves_14, x_X6_fewestMoves_15, x_X6_fewestMoves_16, x_X6_fewestMoves_19, x_X6_fewestMoves_20, List.length_cons, List.length_nil, Nat.reduceLeDiff, Nat.zero_add, iI_add, iI_sub, iI_mul, iI_neg, iI_lt, iI_le, iI_eq, jI_iI, B_True, B_False, B_t, B_f, ck_True, gd_True, cb_v, cb_n, p_mv_rw, p_fv_rw, p_rv_some, pA_1, pA_90, pA_92, pA_3, pA_2, pA_93, pA_4, pA_91, pA_95, pS_i, pW_i, pZ_0, pZ_1, pZ_b, bI_e0, u1_s, u1_n, uA_s, uA_n, true_and, and_true, not_true_eq_false, not_false_eq_true, eq_self, iI_z, al1, al2, al3, al4, al90, al91, al92, al93, al95, Int.cast_ofNat_Int, Nat.reduceAdd, Int.reduceNeg, Int.reduceAdd, Int.reduceSub, Int.reduceMul, Int.reduceLT, Int.reduceLE, Int.reduceGT, Int.reduceGE, Int.reduceEq, Int.reduceNe, Nat.reduceEqDiff, Int.zero_add, Int.add_zero, p_ty0, p_ty1, p_ty2, p_ty3, p_ty4, p_ty5, p_ty6, p_ty7, p_ty8, p_ty9, p_ty10, p_ty11, t0, f3, t3, hfl, r3, gd_t, B_t, B_f, Int.natCast_zero]
end PWFM
