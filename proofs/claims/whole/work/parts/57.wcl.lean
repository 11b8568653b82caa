section PWCL
variable {d : Nat} {T : pT} {M M0 M1 M2 : pM} {F : pF} {w n : Nat} {k c m kd a i p : Int} {S : WSt}
/-- the class's walk: its cells, its state -/
def WT (T : pT) (F : pF) (w : Nat) : Prop := 100 ≤ w ∧ p_ty T w = (16, 4) ∧ F w 0 = some (w + 1) ∧ BT T F (w + 1) ∧ p_ty T (w + 3) = (1, 289) ∧ F w 1 = some (w + 3) ∧ p_ty T (w + 4) = (1, 91) ∧ F w 2 = some (w + 4)
def WS (M : pM) (w : Nat) (S : WSt) : Prop := (∀ c, 0 ≤ c → c < 91 → M (w + 3) (q_pl c) = S.1 c) ∧ M w 3 = S.2.length ∧ ∀ j : Nat, j < S.2.length → M (w + 4) (j : Int) = q_pl (S.2.getD j 0)
def FW (M M' : pM) (w : Nat) : Prop := ∀ a, a ≠ w → a ≠ w + 3 → a ≠ w + 4 → M' a = M a
theorem FW.rf : FW M M w := fun _ _ _ _ => rfl
theorem FW.tr (h1 : FW M M1 w) (h2 : FW M1 M2 w) : FW M M2 w := fun a a1 a2 a3 => (h2 a a1 a2 a3).trans (h1 a a1 a2 a3)
theorem c_wdist (hW : WT T F w) (hS : WS M w S) (hc : 0 ≤ c ∧ c < 91) (hd : 1 ≤ d) : callD d m_X6_distanceOf [.ref w, .int (iI (q_pl c))] T M F = some (.inl (some (.int (iI (S.1 c)))), T, M, F) := by
  refine callD_go 0 hd rfl (fun e he => ?_)
  show R e m_X6_distanceOf 0 [.val (.ref w), .val (.int (iI (q_pl c)))] [] T M F = _
  have h1 := hS.1 c hc.1 hc.2
  have hq := q_pl_nn hc
  obtain ⟨hw, t0, f0, hB, t3, f3, t4, f4⟩ := hW
  clear hS hB
  simp (disch := omega) only [x_X6_distanceOf_0, x_X6_distanceOf_1, x_X6_distanceOf_4, x_X6_distanceOf_5, x_X6_distanceOf_6, x_X6_distanceOf_9, x_X6_distanceOf_10, x_X6_distanceOf_13, x_X6_distanceOf_14, x_X6_distanceOf_17, x_X6_distanceOf_18, x_X6_distanceOf_19, x_X6_distanceOf_22, x_X6_distanceOf_23, List.length_cons, List.length_nil, Nat.reduceLeDiff, Nat.zero_add, iI_add, iI_sub, iI_mul, iI_neg, iI_lt, iI_le, iI_eq, jI_iI, B_True, B_False, B_t, B_f, ck_True, gd_True, cb_v, cb_n, p_mv_rw, p_fv_rw, p_rv_some, pA_1, pA_90, pA_92, pA_3, pA_2, pA_93, pA_4, pA_91, pA_95, pS_i, pW_i, pZ_0, pZ_1, pZ_b, bI_e0, u1_s, u1_n, uA_s, uA_n, true_and, and_true, not_true_eq_false, not_false_eq_true, eq_self, iI_z, al1, al2, al3, al4, al90, al91, al92, al93, al95, Int.cast_ofNat_Int, Nat.reduceAdd, Int.reduceNeg, Int.reduceAdd, Int.reduceSub, Int.reduceMul, Int.reduceLT, Int.reduceLE, Int.reduceGT, Int.reduceGE, Int.reduceEq, Int.reduceNe, Nat.reduceEqDiff, Int.zero_add, Int.add_zero, p_ty0, p_ty1, p_ty2, p_ty3, p_ty4, p_ty5, p_ty6, p_ty7, p_ty8, p_ty9, p_ty10, p_ty11, t0, t3, f3, h1, B_t, B_f]
theorem c_wreach (hW : WT T F w) (hS : WS M w S) (hI : WI S) (hc : 0 ≤ c ∧ c < 91) (hm : 0 ≤ m ∧ m ≤ S.2.length) :
    ∃ M', (∀ d, 1 ≤ d → callD d m_X6_reach [.ref w, .int (iI (q_pl c)), .int (iI m)] T M F = some (.inl none, T, M', F)) ∧ WS M' w (w_r S c m) ∧ FW M M' w := by
  have h1 := hS.1 c hc.1 hc.2
  have hq := q_pl_nn hc
  have hr := hI.rg hc
  have hl := hI.len
  unfold w_r
  by_cases e9 : S.1 c = -1
  · have hlt := hI.lt hc e9
    rw [if_neg (by rintro (z | z) <;> omega)]
    refine ⟨uA (uA (uA M (w + 3) (u1 (M (w + 3)) (q_pl c) m)) (w + 4) (u1 (M (w + 4)) (S.2.length : Int) (q_pl c))) w (u1 (M w) 3 ((S.2.length : Int) + 1)), fun d hd => ?_, ⟨fun k k0 k1 => ?_, ?_, fun j hj => ?_⟩, fun a a1 a2 a3 => ?_⟩
    · refine callD_go 0 hd rfl (fun e he => ?_)
      show R e m_X6_reach 0 [.val (.ref w), .val (.int (iI (q_pl c))), .val (.int (iI m))] [] T M F = _
      have h2 := hS.2.1
      obtain ⟨hw, t0, f0, hB, t3, f3, t4, f4⟩ := hW
      clear hS hB hI
      simp (disch := omega) only [x_X6_reach_0, x_X6_reach_1, x_X6_reach_4, x_X6_reach_5, x_X6_reach_6, x_X6_reach_9, x_X6_reach_10, x_X6_reach_13, x_X6_reach_14, x_X6_reach_17, x_X6_reach_18, x_X6_reach_19, x_X6_reach_20, x_X6_reach_23, x_X6_reach_24, x_X6_reach_27, x_X6_reach_30, x_X6_reach_31, x_X6_reach_34, x_X6_reach_35, x_X6_reach_38, x_X6_reach_39, x_X6_reach_42, x_X6_reach_43, x_X6_reach_46, x_X6_reach_47, x_X6_reach_48, x_X6_reach_49, x_X6_reach_50, x_X6_reach_53, x_X6_reach_54, x_X6_reach_57, x_X6_reach_58, x_X6_reach_59, x_X6_reach_60, x_X6_reach_61, x_X6_reach_64, x_X6_reach_65, x_X6_reach_66, x_X6_reach_69, List.length_cons, List.length_nil, Nat.reduceLeDiff, Nat.zero_add, iI_add, iI_sub, iI_mul, iI_neg, iI_lt, iI_le, iI_eq, jI_iI, B_True, B_False, B_t, B_f, ck_True, gd_True, cb_v, cb_n, p_mv_rw, p_fv_rw, p_rv_some, pA_1, pA_90, pA_92, pA_3, pA_2, pA_93, pA_4, pA_91, pA_95, pS_i, pW_i, pZ_0, pZ_1, pZ_b, bI_e0, u1_s, u1_n, uA_s, uA_n, true_and, and_true, not_true_eq_false, not_false_eq_true, eq_self, iI_z, al1, al2, al3, al4, al90, al91, al92, al93, al95, Int.cast_ofNat_Int, Nat.reduceAdd, Int.reduceNeg, Int.reduceAdd, Int.reduceSub, Int.reduceMul, Int.reduceLT, Int.reduceLE, Int.reduceGT, Int.reduceGE, Int.reduceEq, Int.reduceNe, Nat.reduceEqDiff, Int.zero_add, Int.add_zero, p_ty0, p_ty1, p_ty2, p_ty3, p_ty4, p_ty5, p_ty6, p_ty7, p_ty8, p_ty9, p_ty10, p_ty11, t0, t3, f3, t4, f4, h1, h2, e9, B_t, B_f]
    · rw [uA_n (by omega), uA_n (by omega), uA_s]
      show u1 (M (w + 3)) (q_pl c) m (q_pl k) = u1 S.1 c m k
      by_cases e2 : k = c
      · rw [e2, u1_s, u1_s]
      · rw [u1_n e2, u1_n (fun z => e2 (q_inj ⟨k0, k1⟩ hc z))]
        exact hS.1 k k0 k1
    · rw [uA_s, u1_s]; show _ = ((S.2 ++ [c]).length : Int); rw [List.length_append, List.length_singleton]; omega
    · show _ = q_pl ((S.2 ++ [c]).getD j 0)
      have hj : j < (S.2 ++ [c]).length := hj
      rw [List.length_append, List.length_singleton] at hj
      rw [uA_n (by omega), uA_s]
      by_cases e2 : j = S.2.length
      · rw [e2, u1_s]
        have := getD_mid S.2 c []
        rw [this]
      · rw [u1_n (by omega), getD_app _ _ (by omega)]
        exact hS.2.2 j (by omega)
    · rw [uA_n a1, uA_n a3, uA_n a2]
  · rw [if_pos (Or.inr e9)]
    refine ⟨M, fun d hd => ?_, hS, FW.rf⟩
    refine callD_go 0 hd rfl (fun e he => ?_)
    show R e m_X6_reach 0 [.val (.ref w), .val (.int (iI (q_pl c))), .val (.int (iI m))] [] T M F = _
    obtain ⟨hw, t0, f0, hB, t3, f3, t4, f4⟩ := hW
    clear hS hB hI
    simp (disch := omega) only [x_X6_reach_0, x_X6_reach_1, x_X6_reach_4, x_X6_reach_5, x_X6_reach_6, x_X6_reach_9, x_X6_reach_10, x_X6_reach_13, x_X6_reach_14, x_X6_reach_17, x_X6_reach_18, x_X6_reach_19, x_X6_reach_20, x_X6_reach_23, x_X6_reach_24, x_X6_reach_27, x_X6_reach_30, x_X6_reach_31, x_X6_reach_34, x_X6_reach_35, x_X6_reach_38, x_X6_reach_39, x_X6_reach_42, x_X6_reach_43, x_X6_reach_46, x_X6_reach_47, x_X6_reach_48, x_X6_reach_49, x_X6_reach_50, x_X6_reach_53, x_X6_reach_54, x_X6_reach_57, x_X6_reach_58, x_X6_reach_59, x_X6_reach_60, x_X6_reach_61, x_X6_reach_64, x_X6_reach_65, x_X6_reach_66, x_X6_reach_69, List.length_cons, List.length_nil, Nat.reduceLeDiff, Nat.zero_add, iI_add, iI_sub, iI_mul, iI_neg, iI_lt, iI_le, iI_eq, jI_iI, B_True, B_False, B_t, B_f, ck_True, gd_True, cb_v, cb_n, p_mv_rw, p_fv_rw, p_rv_some, pA_1, pA_90, pA_92, pA_3, pA_2, pA_93, pA_4, pA_91, pA_95, pS_i, pW_i, pZ_0, pZ_1, pZ_b, bI_e0, u1_s, u1_n, uA_s, uA_n, true_and, and_true, not_true_eq_false, not_false_eq_true, eq_self, iI_z, al1, al2, al3, al4, al90, al91, al92, al93, al95, Int.cast_ofNat_Int, Nat.reduceAdd, Int.reduceNeg, Int.reduceAdd, Int.reduceSub, Int.reduceMul, Int.reduceLT, Int.reduceLE, Int.reduceGT, Int.reduceGE, Int.reduceEq, Int.reduceNe, Nat.reduceEqDiff, Int.zero_add, Int.add_zero, p_ty0, p_ty1, p_ty2, p_ty3, p_ty4, p_ty5, p_ty6, p_ty7, p_ty8, p_ty9, p_ty10, p_ty11, t0, t3, f3, h1, B_t, B_f]
end PWCL
