section PWGO
variable {d : Nat} {T : pT} {M M0 M1 M2 : pM} {F : pF} {w n A : Nat} {k c m kd a i p hi lo ro : Int} {S : WSt}
theorem eb_on (hR : RB M (w + 1) (fun _ => 0)) (hp : 0 ≤ p ∧ p < 289) : q_on (M (w + 1 + 1)) p = if q_cel p = -1 then -1 else 0 := by
  rw [hR.2.1.on hR.2.2.1 hp]
  unfold cm m_on cv
  by_cases e : q_cel p = -1
  · rw [if_pos e]; rfl
  · rw [if_neg e]; rfl
def WA (A : Nat) (kd : Int) : Prop := (A = 2 ∧ kd ≠ 5) ∨ (A = 3 ∧ kd = 5)
theorem WA.nx (hA : WA A kd) : q_cel (q_pl c + p_roM A i) = w_nx kd i c := by
  unfold w_nx gn gj
  rcases hA with ⟨rfl, h⟩ | ⟨rfl, h⟩
  · rw [if_neg h]
  · rw [if_pos h]
theorem WA.rg (hA : WA A kd) (hi : 0 ≤ i ∧ i < 12) : -50 ≤ p_roM A i ∧ p_roM A i ≤ 50 := by
  rcases hA with ⟨rfl, -⟩ | ⟨rfl, -⟩
  · exact ro2 hi
  · exact ro3 hi
theorem wg_in (hA : WA A kd) (hW : WT T F w) (ha : 0 ≤ a ∧ a < 91) (hi12 : 0 ≤ i ∧ i < 12) (hh : 0 ≤ hi ∧ hi ≤ 12) {rc : Nat} (hrc : rc ≤ 17) : ∀ (n : Nat) (k p : Int) (M : pM) (S : WSt), k + n = rc → 0 ≤ k → (9 ≤ p ∧ p < 280) → RB M (w + 1) (fun _ => 0) → WS M w S → WI S → (0 ≤ m ∧ m ≤ S.2.length) →
    ∃ M' p' k', (∀ e, 2 ≤ e → R e m_X6_goOn 57 [.val (.ref w), .val (.int (iI kd)), .val (.int (iI (q_pl a))), .val (.int (iI m)), .val (.ref A), .val (.int (iI hi)), .val (.int (iI (rc : Int))), .val (.int (iI i)), .val (.int (iI p)), .val (.int (iI k))] [] T M F = R e m_X6_goOn 99 [.val (.ref w), .val (.int (iI kd)), .val (.int (iI (q_pl a))), .val (.int (iI m)), .val (.ref A), .val (.int (iI hi)), .val (.int (iI (rc : Int))), .val (.int (iI i)), .val (.int (iI p')), .val (.int (iI k'))] [] T M' F) ∧ WS M' w (w_s (w_nx kd i) m n (q_cel p) S) ∧ FW M M' w := by
  intro n
  have hW' := hW
  obtain ⟨hw, t0, f0, hB, t3, f3, t4, f4⟩ := hW
  have hb0 := hB.2.1
  have hro := hA.rg hi12
  induction n with
  | zero =>
    intro k p M S hk h0 hp hR hS hI hm
    refine ⟨M, p, k, fun e he => ?_, hS, FW.rf⟩
    clear hR hS hI hB hA
    simp (disch := omega) only [x_X6_goOn_57, x_X6_goOn_59, x_X6_goOn_61, List.length_cons, List.length_nil, Nat.reduceLeDiff, Nat.zero_add, iI_add, iI_sub, iI_mul, iI_neg, iI_lt, iI_le, iI_eq, jI_iI, B_True, B_False, B_t, B_f, ck_True, gd_True, cb_v, cb_n, p_mv_rw, p_fv_rw, p_rv_some, pA_1, pA_90, pA_92, pA_3, pA_2, pA_93, pA_4, pA_91, pA_95, pS_i, pW_i, pZ_0, pZ_1, pZ_b, bI_e0, u1_s, u1_n, uA_s, uA_n, true_and, and_true, not_true_eq_false, not_false_eq_true, eq_self, iI_z, al1, al2, al3, al4, al90, al91, al92, al93, al95, Int.cast_ofNat_Int, Nat.reduceAdd, Int.reduceNeg, Int.reduceAdd, Int.reduceSub, Int.reduceMul, Int.reduceLT, Int.reduceLE, Int.reduceGT, Int.reduceGE, Int.reduceEq, Int.reduceNe, Nat.reduceEqDiff, Int.zero_add, Int.add_zero, p_ty0, p_ty1, p_ty2, p_ty3, p_ty4, p_ty5, p_ty6, p_ty7, p_ty8, p_ty9, p_ty10, p_ty11, B_t, B_f]
  | succ n ih =>
    intro k p M S hk h0 hp hR hS hI hm
    have hl := hI.len
    have hon := eb_on hR (p := p) (by omega)
    by_cases e1 : q_cel p = -1
    · rw [if_pos e1] at hon
      refine ⟨M, p, k, fun e he => ?_, by rw [w_s, if_pos e1]; exact hS, FW.rf⟩
      have hc := c_on (d := e) (T := T) (M := M) (F := F) (p := p) hB (by omega) (by omega)
      rw [hon] at hc
      clear hR hS hI hB hA ih hon
      simp (disch := omega) only [x_X6_goOn_57, x_X6_goOn_59, x_X6_goOn_61, x_X6_goOn_64, x_X6_goOn_65, x_X6_goOn_68, x_X6_goOn_70, x_X6_goOn_73, List.length_cons, List.length_nil, Nat.reduceLeDiff, Nat.zero_add, iI_add, iI_sub, iI_mul, iI_neg, iI_lt, iI_le, iI_eq, jI_iI, B_True, B_False, B_t, B_f, ck_True, gd_True, cb_v, cb_n, p_mv_rw, p_fv_rw, p_rv_some, pA_1, pA_90, pA_92, pA_3, pA_2, pA_93, pA_4, pA_91, pA_95, pS_i, pW_i, pZ_0, pZ_1, pZ_b, bI_e0, u1_s, u1_n, uA_s, uA_n, true_and, and_true, not_true_eq_false, not_false_eq_true, eq_self, iI_z, al1, al2, al3, al4, al90, al91, al92, al93, al95, Int.cast_ofNat_Int, Nat.reduceAdd, Int.reduceNeg, Int.reduceAdd, Int.reduceSub, Int.reduceMul, Int.reduceLT, Int.reduceLE, Int.reduceGT, Int.reduceGE, Int.reduceEq, Int.reduceNe, Nat.reduceEqDiff, Int.zero_add, Int.add_zero, p_ty0, p_ty1, p_ty2, p_ty3, p_ty4, p_ty5, p_ty6, p_ty7, p_ty8, p_ty9, p_ty10, p_ty11, t0, f0, hb0, hc, gd_t, B_t, B_f]
    · rw [if_neg e1] at hon
      obtain ⟨g1, g2, g3⟩ := (geo2 (p := p) (by omega)).resolve_left e1
      obtain ⟨M1, r1, S1, f1⟩ := c_wreach (T := T) (F := F) hW' hS hI (c := q_cel p) (m := m) ⟨g1, g2⟩ hm
      have hI1 := hI.r (c := q_cel p) (m := m) (by omega) hm
      have hR1 : RB M1 (w + 1) (fun _ => 0) := by
        unfold RB at hR ⊢
        rw [f1 (w + 1) (by omega) (by omega) (by omega), f1 (w + 1 + 1) (by omega) (by omega) (by omega)]; exact hR
      have hlr := w_r_len (S := S) (c := q_cel p) (m := m)
      have hpr := q_pl_nn ⟨g1, g2⟩
      obtain ⟨M2, p2, k2, r2, S2, f2⟩ := ih (k + 1) (p + p_roM A i) M1 _ (by omega) (by omega) (by omega) hR1 S1 hI1 (by omega)
      rw [← g3, hA.nx, g3] at S2
      refine ⟨M2, p2, k2, fun e he => ?_, by rw [w_s, if_neg e1]; exact S2, f1.tr f2⟩
      have hc := c_on (d := e) (T := T) (M := M) (F := F) (p := p) hB (by omega) (by omega)
      rw [hon] at hc
      have r1 := r1 e (by omega)
      rw [g3] at r1
      rw [← r2 e he]
      clear hR hS hI hB ih hon r2 S1 S2 f1 f2 hR1 hI1 hlr g3 g1 g2 hpr e1
      rw [x_X6_goOn_57]
      rcases hA with ⟨rfl, h5⟩ | ⟨rfl, h5⟩
      · simp (disch := omega) only [x_X6_goOn_59, x_X6_goOn_61, x_X6_goOn_64, x_X6_goOn_65, x_X6_goOn_68, x_X6_goOn_70, x_X6_goOn_73, x_X6_goOn_76, x_X6_goOn_77, x_X6_goOn_79, x_X6_goOn_80, x_X6_goOn_83, x_X6_goOn_85, x_X6_goOn_87, x_X6_goOn_89, x_X6_goOn_90, x_X6_goOn_91, x_X6_goOn_93, x_X6_goOn_96, List.length_cons, List.length_nil, Nat.reduceLeDiff, Nat.zero_add, iI_add, iI_sub, iI_mul, iI_neg, iI_lt, iI_le, iI_eq, jI_iI, B_True, B_False, B_t, B_f, ck_True, gd_True, cb_v, cb_n, p_mv_rw, p_fv_rw, p_rv_some, pA_1, pA_90, pA_92, pA_3, pA_2, pA_93, pA_4, pA_91, pA_95, pS_i, pW_i, pZ_0, pZ_1, pZ_b, bI_e0, u1_s, u1_n, uA_s, uA_n, true_and, and_true, not_true_eq_false, not_false_eq_true, eq_self, iI_z, al1, al2, al3, al4, al90, al91, al92, al93, al95, Int.cast_ofNat_Int, Nat.reduceAdd, Int.reduceNeg, Int.reduceAdd, Int.reduceSub, Int.reduceMul, Int.reduceLT, Int.reduceLE, Int.reduceGT, Int.reduceGE, Int.reduceEq, Int.reduceNe, Nat.reduceEqDiff, Int.zero_add, Int.add_zero, p_ty0, p_ty1, p_ty2, p_ty3, p_ty4, p_ty5, p_ty6, p_ty7, p_ty8, p_ty9, p_ty10, p_ty11, t0, f0, hb0, hc, r1, p_mv_ro, p_ty2, p_ty3, gd_t, B_t, B_f]
      · simp (disch := omega) only [x_X6_goOn_59, x_X6_goOn_61, x_X6_goOn_64, x_X6_goOn_65, x_X6_goOn_68, x_X6_goOn_70, x_X6_goOn_73, x_X6_goOn_76, x_X6_goOn_77, x_X6_goOn_79, x_X6_goOn_80, x_X6_goOn_83, x_X6_goOn_85, x_X6_goOn_87, x_X6_goOn_89, x_X6_goOn_90, x_X6_goOn_91, x_X6_goOn_93, x_X6_goOn_96, List.length_cons, List.length_nil, Nat.reduceLeDiff, Nat.zero_add, iI_add, iI_sub, iI_mul, iI_neg, iI_lt, iI_le, iI_eq, jI_iI, B_True, B_False, B_t, B_f, ck_True, gd_True, cb_v, cb_n, p_mv_rw, p_fv_rw, p_rv_some, pA_1, pA_90, pA_92, pA_3, pA_2, pA_93, pA_4, pA_91, pA_95, pS_i, pW_i, pZ_0, pZ_1, pZ_b, bI_e0, u1_s, u1_n, uA_s, uA_n, true_and, and_true, not_true_eq_false, not_false_eq_true, eq_self, iI_z, al1, al2, al3, al4, al90, al91, al92, al93, al95, Int.cast_ofNat_Int, Nat.reduceAdd, Int.reduceNeg, Int.reduceAdd, Int.reduceSub, Int.reduceMul, Int.reduceLT, Int.reduceLE, Int.reduceGT, Int.reduceGE, Int.reduceEq, Int.reduceNe, Nat.reduceEqDiff, Int.zero_add, Int.add_zero, p_ty0, p_ty1, p_ty2, p_ty3, p_ty4, p_ty5, p_ty6, p_ty7, p_ty8, p_ty9, p_ty10, p_ty11, t0, f0, hb0, hc, r1, p_mv_ro, p_ty2, p_ty3, gd_t, B_t, B_f]
theorem wg_out (hA : WA A kd) (hW : WT T F w) (ha : 0 ≤ a ∧ a < 91) (hh : 0 ≤ hi ∧ hi ≤ 12) {rc : Nat} (hrc : rc = w_rn kd) (hkd : (kd = 3 → hi ≤ 6) ∧ (kd = 4 → 6 ≤ lo)) : ∀ (n : Nat) (i : Int) (M : pM) (S : WSt), i + n = hi → 0 ≤ i → lo ≤ i → RB M (w + 1) (fun _ => 0) → WS M w S → WI S → (0 ≤ m ∧ m ≤ S.2.length) →
    ∃ M', (∀ e l8 l9, 2 ≤ e → R e m_X6_goOn 38 [.val (.ref w), .val (.int (iI kd)), .val (.int (iI (q_pl a))), .val (.int (iI m)), .val (.ref A), .val (.int (iI hi)), .val (.int (iI (rc : Int))), .val (.int (iI i)), l8, l9] [] T M F = some (.inl none, T, M', F)) ∧ WS M' w (w_o kd a m n i S) ∧ FW M M' w := by
  intro n
  induction n with
  | zero =>
    intro i M S hi0 h0 hlo hR hS hI hm
    refine ⟨M, fun e l8 l9 he => ?_, hS, FW.rf⟩
    obtain ⟨hw, t0, f0, hB, t3, f3, t4, f4⟩ := hW
    clear hR hS hI hB hA
    simp (disch := omega) only [x_X6_goOn_38, x_X6_goOn_40, x_X6_goOn_42, x_X6_goOn_105, List.length_cons, List.length_nil, Nat.reduceLeDiff, Nat.zero_add, iI_add, iI_sub, iI_mul, iI_neg, iI_lt, iI_le, iI_eq, jI_iI, B_True, B_False, B_t, B_f, ck_True, gd_True, cb_v, cb_n, p_mv_rw, p_fv_rw, p_rv_some, pA_1, pA_90, pA_92, pA_3, pA_2, pA_93, pA_4, pA_91, pA_95, pS_i, pW_i, pZ_0, pZ_1, pZ_b, bI_e0, u1_s, u1_n, uA_s, uA_n, true_and, and_true, not_true_eq_false, not_false_eq_true, eq_self, iI_z, al1, al2, al3, al4, al90, al91, al92, al93, al95, Int.cast_ofNat_Int, Nat.reduceAdd, Int.reduceNeg, Int.reduceAdd, Int.reduceSub, Int.reduceMul, Int.reduceLT, Int.reduceLE, Int.reduceGT, Int.reduceGE, Int.reduceEq, Int.reduceNe, Nat.reduceEqDiff, Int.zero_add, Int.add_zero, p_ty0, p_ty1, p_ty2, p_ty3, p_ty4, p_ty5, p_ty6, p_ty7, p_ty8, p_ty9, p_ty10, p_ty11, B_t, B_f]
  | succ n ih =>
    intro i M S hi0 h0 hlo hR hS hI hm
    have hi12 : 0 ≤ i ∧ i < 12 := by omega
    have hpa := q_pl_nn ha
    have hro := hA.rg hi12
    have hrc17 : rc ≤ 17 := by rw [hrc]; unfold w_rn; split <;> omega
    obtain ⟨M1, p1, k1, r1, S1, f1⟩ := wg_in (T := T) (F := F) (m := m) hA hW ha hi12 hh hrc17 rc 0 (q_pl a + p_roM A i) M S (by omega) (by omega) (by omega) hR hS hI hm
    rw [hA.nx] at S1
    have hwk : w_k kd a m i S = w_s (w_nx kd i) m rc (w_nx kd i a) S := by
      unfold w_k
      rw [if_neg, hrc]
      rintro (⟨z, z2⟩ | ⟨z, z2⟩)
      · have := hkd.1 z; omega
      · have := hkd.2 z; omega
    rw [← hwk] at S1
    have hI1 := hI.kk (kd := kd) ha hi12 hm
    have hw := hW.1
    have hR1 : RB M1 (w + 1) (fun _ => 0) := by
      unfold RB at hR ⊢
      rw [f1 (w + 1) (by omega) (by omega) (by omega), f1 (w + 1 + 1) (by omega) (by omega) (by omega)]; exact hR
    obtain ⟨M2, r2, S2, f2⟩ := ih (i + 1) M1 _ (by omega) (by omega) (by omega) hR1 S1 hI1.1 (by omega)
    refine ⟨M2, fun e l8 l9 he => ?_, by rw [w_o]; exact S2, f1.tr f2⟩
    have r1 := r1 e he
    have r2 := fun l8 l9 => r2 e l8 l9 he
    obtain ⟨-, t0, f0, hB, t3, f3, t4, f4⟩ := hW
    clear hR hS hI hB ih S1 S2 f1 f2 hR1 hI1 hwk hkd
    rcases hA with ⟨rfl, h5⟩ | ⟨rfl, h5⟩
    · rw [x_X6_goOn_38]
      simp (disch := omega) only [x_X6_goOn_40, x_X6_goOn_42, x_X6_goOn_45, x_X6_goOn_46, x_X6_goOn_48, x_X6_goOn_50, x_X6_goOn_51, x_X6_goOn_52, x_X6_goOn_54, x_X6_goOn_55, List.length_cons, List.length_nil, Nat.reduceLeDiff, Nat.zero_add, iI_add, iI_sub, iI_mul, iI_neg, iI_lt, iI_le, iI_eq, jI_iI, B_True, B_False, B_t, B_f, ck_True, gd_True, cb_v, cb_n, p_mv_rw, p_fv_rw, p_rv_some, pA_1, pA_90, pA_92, pA_3, pA_2, pA_93, pA_4, pA_91, pA_95, pS_i, pW_i, pZ_0, pZ_1, pZ_b, bI_e0, u1_s, u1_n, uA_s, uA_n, true_and, and_true, not_true_eq_false, not_false_eq_true, eq_self, iI_z, al1, al2, al3, al4, al90, al91, al92, al93, al95, Int.cast_ofNat_Int, Nat.reduceAdd, Int.reduceNeg, Int.reduceAdd, Int.reduceSub, Int.reduceMul, Int.reduceLT, Int.reduceLE, Int.reduceGT, Int.reduceGE, Int.reduceEq, Int.reduceNe, Nat.reduceEqDiff, Int.zero_add, Int.add_zero, p_ty0, p_ty1, p_ty2, p_ty3, p_ty4, p_ty5, p_ty6, p_ty7, p_ty8, p_ty9, p_ty10, p_ty11, p_mv_ro, p_ty2, p_ty3, gd_t, B_t, B_f]
      rw [r1]
      simp (disch := omega) only [x_X6_goOn_99, x_X6_goOn_102, List.length_cons, List.length_nil, Nat.reduceLeDiff, Nat.zero_add, iI_add, iI_sub, iI_mul, iI_neg, iI_lt, iI_le, iI_eq, jI_iI, B_True, B_False, B_t, B_f, ck_True, gd_True, cb_v, cb_n, p_mv_rw, p_fv_rw, p_rv_some, pA_1, pA_90, pA_92, pA_3, pA_2, pA_93, pA_4, pA_91, pA_95, pS_i, pW_i, pZ_0, pZ_1, pZ_b, bI_e0, u1_s, u1_n, uA_s, uA_n, true_and, and_true, not_true_eq_false, not_false_eq_true, eq_self, iI_z, al1, al2, al3, al4, al90, al91, al92, al93, al95, Int.cast_ofNat_Int, Nat.reduceAdd, Int.reduceNeg, Int.reduceAdd, Int.reduceSub, Int.reduceMul, Int.reduceLT, Int.reduceLE, Int.reduceGT, Int.reduceGE, Int.reduceEq, Int.reduceNe, Nat.reduceEqDiff, Int.zero_add, Int.add_zero, p_ty0, p_ty1, p_ty2, p_ty3, p_ty4, p_ty5, p_ty6, p_ty7, p_ty8, p_ty9, p_ty10, p_ty11, r2]
    · rw [x_X6_goOn_38]
      simp (disch := omega) only [x_X6_goOn_40, x_X6_goOn_42, x_X6_goOn_45, x_X6_goOn_46, x_X6_goOn_48, x_X6_goOn_50, x_X6_goOn_51, x_X6_goOn_52, x_X6_goOn_54, x_X6_goOn_55, List.length_cons, List.length_nil, Nat.reduceLeDiff, Nat.zero_add, iI_add, iI_sub, iI_mul, iI_neg, iI_lt, iI_le, iI_eq, jI_iI, B_True, B_False, B_t, B_f, ck_True, gd_True, cb_v, cb_n, p_mv_rw, p_fv_rw, p_rv_some, pA_1, pA_90, pA_92, pA_3, pA_2, pA_93, pA_4, pA_91, pA_95, pS_i, pW_i, pZ_0, pZ_1, pZ_b, bI_e0, u1_s, u1_n, uA_s, uA_n, true_and, and_true, not_true_eq_false, not_false_eq_true, eq_self, iI_z, al1, al2, al3, al4, al90, al91, al92, al93, al95, Int.cast_ofNat_Int, Nat.reduceAdd, Int.reduceNeg, Int.reduceAdd, Int.reduceSub, Int.reduceMul, Int.reduceLT, Int.reduceLE, Int.reduceGT, Int.reduceGE, Int.reduceEq, Int.reduceNe, Nat.reduceEqDiff, Int.zero_add, Int.add_zero, p_ty0, p_ty1, p_ty2, p_ty3, p_ty4, p_ty5, p_ty6, p_ty7, p_ty8, p_ty9, p_ty10, p_ty11, p_mv_ro, p_ty2, p_ty3, gd_t, B_t, B_f]
      rw [r1]
      simp (disch := omega) only [x_X6_goOn_99, x_X6_goOn_102, List.length_cons, List.length_nil, Nat.reduceLeDiff, Nat.zero_add, iI_add, iI_sub, iI_mul, iI_neg, iI_lt, iI_le, iI_eq, jI_iI, B_True, B_False, B_t, B_f, ck_True, gd_True, cb_v, cb_n, p_mv_rw, p_fv_rw, p_rv_some, pA_1, pA_90, pA_92, pA_3, pA_2, pA_93, pA_4, pA_91, pA_95, pS_i, pW_i, pZ_0, pZ_1, pZ_b, bI_e0, u1_s, u1_n, uA_s, uA_n, true_and, and_true, not_true_eq_false, not_false_eq_true, eq_self, iI_z, al1, al2, al3, al4, al90, al91, al92, al93, al95, Int.cast_ofNat_Int, Nat.reduceAdd, Int.reduceNeg, Int.reduceAdd, Int.reduceSub, Int.reduceMul, Int.reduceLT, Int.reduceLE, Int.reduceGT, Int.reduceGE, Int.reduceEq, Int.reduceNe, Nat.reduceEqDiff, Int.zero_add, Int.add_zero, p_ty0, p_ty1, p_ty2, p_ty3, p_ty4, p_ty5, p_ty6, p_ty7, p_ty8, p_ty9, p_ty10, p_ty11, r2]
theorem c_goOn (hW : WT T F w) (hk : kd = 1 ∨ kd = 2 ∨ kd = 3 ∨ kd = 4 ∨ kd = 5) (ha : a ∈ S.2) (hR : RB M (w + 1) (fun _ => 0)) (hS : WS M w S) (hI : WI S) :
    ∃ M', (∀ d, 3 ≤ d → callD d m_X6_goOn [.ref w, .int (iI kd), .int (iI (q_pl a))] T M F = some (.inl none, T, M', F)) ∧ WS M' w (w_g kd a S) ∧ FW M M' w := by
  have ha0 := hI.1 a ha
  have hm := hI.mm ha
  have hrg := hI.rg ha0
  have hq := q_pl_nn ha0
  have hA : WA (if kd = 5 then 3 else 2) kd := by
    by_cases e : kd = 5
    · rw [if_pos e]; exact Or.inr ⟨rfl, e⟩
    · rw [if_neg e]; exact Or.inl ⟨rfl, e⟩
  have hlo : 0 ≤ q_lo kd ∧ q_lo kd ≤ q_hi kd ∧ q_hi kd ≤ 12 ∧ (kd = 3 → q_hi kd ≤ 6) ∧ (kd = 4 → 6 ≤ q_lo kd) := by
    rcases hk with rfl | rfl | rfl | rfl | rfl <;> decide
  have hrc : q_rch kd = (w_rn kd : Int) := by unfold q_rch w_rn; split <;> rfl
  obtain ⟨M', r1, S1, f1⟩ := wg_out (T := T) (F := F) (m := S.1 a + 1) (hi := q_hi kd) (lo := q_lo kd) (rc := w_rn kd) hA hW ha0 (by omega) rfl ⟨hlo.2.2.2.1, hlo.2.2.2.2⟩ (q_hi kd - q_lo kd).toNat (q_lo kd) M S (by omega) (by omega) (by omega) hR hS hI hm
  refine ⟨M', fun d hd => ?_, by unfold w_g; rw [w_o_part hk]; exact S1, f1⟩
  refine callD_go 2 hd rfl (fun e he => ?_)
  show R e m_X6_goOn 0 [.val (.ref w), .val (.int (iI kd)), .val (.int (iI (q_pl a))), .unset, .unset, .unset, .unset, .unset, .unset, .unset] [] T M F = _
  have r1 := fun l8 l9 => r1 e l8 l9 he
  have hdi := c_wdist (d := e) (T := T) (F := F) hW hS ha0 (by omega)
  have st := c_steps (d := e) (T := T) (M := M) (F := F) (k := kd) (by omega) (by omega)
  have lo := c_lo (d := e) (T := T) (M := M) (F := F) (k := kd) (by omega) (by omega)
  have hi := c_hi (d := e) (T := T) (M := M) (F := F) (k := kd) (by omega) (by omega)
  have rc := c_rch (d := e) (T := T) (M := M) (F := F) (k := kd) (by omega) (by omega)
  have mi := y_min (d := e) (T := T) (M := M) (F := F) (a := q_hi kd) (n := 12) (by omega) (by omega) (by omega)
  rw [if_neg (by omega)] at mi
  rw [hrc] at rc
  have ht : p_ty T (if kd = 5 then 3 else 2) = (90, 12) := by split <;> rfl
  obtain ⟨hw, t0, f0, hB, t3, f3, t4, f4⟩ := hW
  clear hR hS hI hB S1 f1 hA hrc
  simp (disch := omega) only [x_X6_goOn_0, x_X6_goOn_1, x_X6_goOn_2, x_X6_goOn_5, x_X6_goOn_6, x_X6_goOn_7, x_X6_goOn_8, x_X6_goOn_9, x_X6_goOn_12, x_X6_goOn_14, x_X6_goOn_15, x_X6_goOn_18, x_X6_goOn_20, x_X6_goOn_21, x_X6_goOn_24, x_X6_goOn_26, x_X6_goOn_27, x_X6_goOn_30, x_X6_goOn_32, x_X6_goOn_33, x_X6_goOn_36, List.length_cons, List.length_nil, Nat.reduceLeDiff, Nat.zero_add, iI_add, iI_sub, iI_mul, iI_neg, iI_lt, iI_le, iI_eq, jI_iI, B_True, B_False, B_t, B_f, ck_True, gd_True, cb_v, cb_n, p_mv_rw, p_fv_rw, p_rv_some, pA_1, pA_90, pA_92, pA_3, pA_2, pA_93, pA_4, pA_91, pA_95, pS_i, pW_i, pZ_0, pZ_1, pZ_b, bI_e0, u1_s, u1_n, uA_s, uA_n, true_and, and_true, not_true_eq_false, not_false_eq_true, eq_self, iI_z, al1, al2, al3, al4, al90, al91, al92, al93, al95, Int.cast_ofNat_Int, Nat.reduceAdd, Int.reduceNeg, Int.reduceAdd, Int.reduceSub, Int.reduceMul, Int.reduceLT, Int.reduceLE, Int.reduceGT, Int.reduceGE, Int.reduceEq, Int.reduceNe, Nat.reduceEqDiff, Int.zero_add, Int.add_zero, p_ty0, p_ty1, p_ty2, p_ty3, p_ty4, p_ty5, p_ty6, p_ty7, p_ty8, p_ty9, p_ty10, p_ty11, t0, hdi, st, lo, hi, rc, mi, ht, r1, gd_t, B_t, B_f]
end PWGO
