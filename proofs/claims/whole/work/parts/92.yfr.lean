section PYFR
variable {d bd lg N : Nat} {T : pT} {M M0 M1 M2 : pM} {F : pF} {bb bs : Int → Int} {k c m kd a b i p z ea last : Int} {S S1 : WSt} {n : Nat}
def YWS (M : pM) (S : WSt) : Prop := (∀ c, 0 ≤ c → c < 91 → M 139 c = S.1 c) ∧ ∀ j : Nat, j < S.2.length → M 140 (j : Int) = S.2.getD j 0
theorem w_r_ne (h : S.1 k ≠ -1) : (w_r S c m).1 k = S.1 k := by
  unfold w_r
  by_cases e : c = -1 ∨ S.1 c ≠ -1
  · rw [if_pos e]
  · rw [if_neg e]
    show u1 S.1 c m k = _
    rw [u1_n (fun z => by rw [z] at h; exact e (Or.inr h))]
theorem w_s_ne {nx : Int → Int} : ∀ (n : Nat) (c : Int) (S : WSt), S.1 k ≠ -1 → (w_s nx m n c S).1 k = S.1 k
  | 0, c, S, h => rfl
  | n + 1, c, S, h => by
    rw [w_s]
    by_cases e : c = -1
    · rw [if_pos e]
    · rw [if_neg e]
      have h1 := w_r_ne (c := c) (m := m) h
      rw [w_s_ne n (nx c) _ (by rw [h1]; exact h), h1]
theorem w_k_ne {k' : Int} (h : S.1 k' ≠ -1) : (w_k kd k m i S).1 k' = S.1 k' := by
  unfold w_k
  split
  · rfl
  · exact w_s_ne _ _ _ h
theorem y_reach (hY : YT T F bd lg N) (hS : YWS M S) (hI : WI S) (hc : -1 ≤ c ∧ c < 91) (hm : 0 ≤ m ∧ m ≤ S.2.length) :
    ∃ M', (∀ d, 1 ≤ d → callD d m_X8_reach [.ref 127, .int (iI c), .int (iI m), .int (iI (S.2.length : Int))] T M F = some (.inl (some (.int (iI ((w_r S c m).2.length : Int)))), T, M', F)) ∧ YWS M' (w_r S c m) ∧ ∀ a, a ≠ 139 → a ≠ 140 → M' a = M a := by
  have hl := hI.len
  unfold w_r
  by_cases e9 : c = -1
  · rw [if_pos (Or.inl e9)]
    refine ⟨M, fun d hd => ?_, hS, fun _ _ _ => rfl⟩
    refine callD_go 0 hd rfl (fun e he => ?_)
    show R e m_X8_reach 0 [.val (.ref 127), .val (.int (iI c)), .val (.int (iI m)), .val (.int (iI (S.2.length : Int)))] [] T M F = _
    clear hS hI hY
    simp (disch := omega) only [x_X8_reach_0, x_X8_reach_1, x_X8_reach_2, x_X8_reach_5, x_X8_reach_6, x_X8_reach_9, x_X8_reach_10, x_X8_reach_11, x_X8_reach_12, x_X8_reach_15, x_X8_reach_16, List.length_cons, List.length_nil, Nat.reduceLeDiff, Nat.zero_add, iI_add, iI_sub, iI_mul, iI_neg, iI_lt, iI_le, iI_eq, jI_iI, B_True, B_False, B_t, B_f, ck_True, gd_True, cb_v, cb_n, p_mv_rw, p_fv_rw, p_rv_some, pA_1, pA_90, pA_92, pA_3, pA_2, pA_93, pA_4, pA_91, pA_95, pS_i, pW_i, pZ_0, pZ_1, pZ_b, bI_e0, u1_s, u1_n, uA_s, uA_n, true_and, and_true, not_true_eq_false, not_false_eq_true, eq_self, iI_z, al1, al2, al3, al4, al90, al91, al92, al93, al95, Int.cast_ofNat_Int, Nat.reduceAdd, Int.reduceNeg, Int.reduceAdd, Int.reduceSub, Int.reduceMul, Int.reduceLT, Int.reduceLE, Int.reduceGT, Int.reduceGE, Int.reduceEq, Int.reduceNe, Nat.reduceEqDiff, Int.zero_add, Int.add_zero, p_ty0, p_ty1, p_ty2, p_ty3, p_ty4, p_ty5, p_ty6, p_ty7, p_ty8, p_ty9, p_ty10, p_ty11, e9, B_t, B_f]
  · have c0 : 0 ≤ c ∧ c < 91 := by omega
    have h1 := hS.1 c c0.1 c0.2
    have hr := hI.rg c0
    by_cases e8 : S.1 c = -1
    · have hlt := hI.lt c0 e8
      rw [if_neg (by rintro (z | z) <;> omega)]
      refine ⟨uA (uA M 139 (u1 (M 139) c m)) 140 (u1 (M 140) (S.2.length : Int) c), fun d hd => ?_, ⟨fun k k0 k1 => ?_, fun j hj => ?_⟩, fun a a1 a2 => by rw [uA_n a2, uA_n a1]⟩
      · refine callD_go 0 hd rfl (fun e he => ?_)
        show R e m_X8_reach 0 [.val (.ref 127), .val (.int (iI c)), .val (.int (iI m)), .val (.int (iI (S.2.length : Int)))] [] T M F = _
        obtain ⟨ty127, ty128, fy1, ty129, fy4, ty130, fy5, ty131, fy6, ty132, fy7, ty133, fy8, ty136, fy15, ty137, fy16, ty138, fy17, ty139, fy18, ty140, fy19, ty141, fy20, ty142, fy21, ty143, fy22, hbd, tybd, fy9, hlg, tylg, fy13, hN⟩ := hY
        have e7 : ((S.2 ++ [c]).length : Int) = (S.2.length : Int) + 1 := by rw [List.length_append, List.length_singleton]; omega
        show _ = (some (.inl (some (.int (iI ((S.2 ++ [c]).length : Int)))), T, _, F) : Option pR)
        rw [e7]
        clear hS hI
        simp (disch := omega) only [x_X8_reach_0, x_X8_reach_1, x_X8_reach_2, x_X8_reach_5, x_X8_reach_6, x_X8_reach_9, x_X8_reach_10, x_X8_reach_11, x_X8_reach_12, x_X8_reach_15, x_X8_reach_16, x_X8_reach_17, x_X8_reach_18, x_X8_reach_21, x_X8_reach_22, x_X8_reach_23, x_X8_reach_24, x_X8_reach_25, x_X8_reach_28, x_X8_reach_29, x_X8_reach_30, x_X8_reach_31, x_X8_reach_32, x_X8_reach_33, x_X8_reach_34, List.length_cons, List.length_nil, Nat.reduceLeDiff, Nat.zero_add, iI_add, iI_sub, iI_mul, iI_neg, iI_lt, iI_le, iI_eq, jI_iI, B_True, B_False, B_t, B_f, ck_True, gd_True, cb_v, cb_n, p_mv_rw, p_fv_rw, p_rv_some, pA_1, pA_90, pA_92, pA_3, pA_2, pA_93, pA_4, pA_91, pA_95, pS_i, pW_i, pZ_0, pZ_1, pZ_b, bI_e0, u1_s, u1_n, uA_s, uA_n, true_and, and_true, not_true_eq_false, not_false_eq_true, eq_self, iI_z, al1, al2, al3, al4, al90, al91, al92, al93, al95, Int.cast_ofNat_Int, Nat.reduceAdd, Int.reduceNeg, Int.reduceAdd, Int.reduceSub, Int.reduceMul, Int.reduceLT, Int.reduceLE, Int.reduceGT, Int.reduceGE, Int.reduceEq, Int.reduceNe, Nat.reduceEqDiff, Int.zero_add, Int.add_zero, p_ty0, p_ty1, p_ty2, p_ty3, p_ty4, p_ty5, p_ty6, p_ty7, p_ty8, p_ty9, p_ty10, p_ty11, ty127, ty128, fy1, ty129, fy4, ty130, fy5, ty131, fy6, ty132, fy7, ty133, fy8, ty136, fy15, ty137, fy16, ty138, fy17, ty139, fy18, ty140, fy19, ty141, fy20, ty142, fy21, ty143, fy22, tybd, fy9, tylg, fy13, h1, e8, B_t, B_f]
      · rw [uA_n (by omega), uA_s]
        show u1 (M 139) c m k = u1 S.1 c m k
        by_cases e2 : k = c
        · rw [e2, u1_s, u1_s]
        · rw [u1_n e2, u1_n e2]; exact hS.1 k k0 k1
      · show _ = (S.2 ++ [c]).getD j 0
        have hj : j < (S.2 ++ [c]).length := hj
        rw [List.length_append, List.length_singleton] at hj
        rw [uA_s]
        by_cases e2 : j = S.2.length
        · rw [e2, u1_s]; exact (getD_mid S.2 c []).symm
        · rw [u1_n (by omega), getD_app _ _ (by omega)]
          exact hS.2 j (by omega)
    · rw [if_pos (Or.inr e8)]
      refine ⟨M, fun d hd => ?_, hS, fun _ _ _ => rfl⟩
      refine callD_go 0 hd rfl (fun e he => ?_)
      show R e m_X8_reach 0 [.val (.ref 127), .val (.int (iI c)), .val (.int (iI m)), .val (.int (iI (S.2.length : Int)))] [] T M F = _
      obtain ⟨ty127, ty128, fy1, ty129, fy4, ty130, fy5, ty131, fy6, ty132, fy7, ty133, fy8, ty136, fy15, ty137, fy16, ty138, fy17, ty139, fy18, ty140, fy19, ty141, fy20, ty142, fy21, ty143, fy22, hbd, tybd, fy9, hlg, tylg, fy13, hN⟩ := hY
      clear hS hI
      simp (disch := omega) only [x_X8_reach_0, x_X8_reach_1, x_X8_reach_2, x_X8_reach_5, x_X8_reach_6, x_X8_reach_9, x_X8_reach_10, x_X8_reach_11, x_X8_reach_12, x_X8_reach_15, x_X8_reach_16, List.length_cons, List.length_nil, Nat.reduceLeDiff, Nat.zero_add, iI_add, iI_sub, iI_mul, iI_neg, iI_lt, iI_le, iI_eq, jI_iI, B_True, B_False, B_t, B_f, ck_True, gd_True, cb_v, cb_n, p_mv_rw, p_fv_rw, p_rv_some, pA_1, pA_90, pA_92, pA_3, pA_2, pA_93, pA_4, pA_91, pA_95, pS_i, pW_i, pZ_0, pZ_1, pZ_b, bI_e0, u1_s, u1_n, uA_s, uA_n, true_and, and_true, not_true_eq_false, not_false_eq_true, eq_self, iI_z, al1, al2, al3, al4, al90, al91, al92, al93, al95, Int.cast_ofNat_Int, Nat.reduceAdd, Int.reduceNeg, Int.reduceAdd, Int.reduceSub, Int.reduceMul, Int.reduceLT, Int.reduceLE, Int.reduceGT, Int.reduceGE, Int.reduceEq, Int.reduceNe, Nat.reduceEqDiff, Int.zero_add, Int.add_zero, p_ty0, p_ty1, p_ty2, p_ty3, p_ty4, p_ty5, p_ty6, p_ty7, p_ty8, p_ty9, p_ty10, p_ty11, ty127, ty128, fy1, ty129, fy4, ty130, fy5, ty131, fy6, ty132, fy7, ty133, fy8, ty136, fy15, ty137, fy16, ty138, fy17, ty139, fy18, ty140, fy19, ty141, fy20, ty142, fy21, ty143, fy22, tybd, fy9, tylg, fy13, h1, B_t, B_f]
theorem ys_in (hY : YT T F bd lg N) (hk : 0 ≤ k ∧ k < 91) (hi : 0 ≤ i ∧ i < 12) (hkd : 1 ≤ kd ∧ kd ≤ 5) : ∀ (n : Nat) (c : Int) (M : pM) (S : WSt), -1 ≤ c ∧ c < 91 → rayO i n c = true → YG M → YWS M S → WI S → S.1 k + 1 = m → S.1 k ≠ -1 → (0 ≤ m ∧ m ≤ S.2.length) →
    ∃ M' c', (∀ e l3, 1 ≤ e → R e m_X8_spread 116 [.val (.ref 127), .val (.int (iI kd)), .val (.int (iI k)), l3, .val (.int (iI (S.2.length : Int))), .val (.int (iI i)), .val (.int (iI 1)), .val (.int (iI c))] [] T M F = R e m_X8_spread 158 [.val (.ref 127), .val (.int (iI kd)), .val (.int (iI k)), l3, .val (.int (iI ((w_s (fun c => gn c i) m (n + 1) c S).2.length : Int))), .val (.int (iI i)), .val (.int (iI 1)), .val (.int (iI c'))] [] T M' F) ∧ YWS M' (w_s (fun c => gn c i) m (n + 1) c S) ∧ ∀ a, a ≠ 139 → a ≠ 140 → M' a = M a := by
  intro n
  induction n with
  | zero =>
    intro c M S hc ho hG hS hI h1 h2 hm
    obtain rfl : c = -1 := of_decide_eq_true ho
    refine ⟨M, -1, fun e l3 he => ?_, hS, fun _ _ _ => rfl⟩
    rw [show w_s (fun c => gn c i) m (0 + 1) (-1) S = S from if_pos rfl]
    clear hG hS hI hY
    simp (disch := omega) only [x_X8_spread_116, x_X8_spread_118, x_X8_spread_119, x_X8_spread_122, x_X8_spread_124, List.length_cons, List.length_nil, Nat.reduceLeDiff, Nat.zero_add, iI_add, iI_sub, iI_mul, iI_neg, iI_lt, iI_le, iI_eq, jI_iI, B_True, B_False, B_t, B_f, ck_True, gd_True, cb_v, cb_n, p_mv_rw, p_fv_rw, p_rv_some, pA_1, pA_90, pA_92, pA_3, pA_2, pA_93, pA_4, pA_91, pA_95, pS_i, pW_i, pZ_0, pZ_1, pZ_b, bI_e0, u1_s, u1_n, uA_s, uA_n, true_and, and_true, not_true_eq_false, not_false_eq_true, eq_self, iI_z, al1, al2, al3, al4, al90, al91, al92, al93, al95, Int.cast_ofNat_Int, Nat.reduceAdd, Int.reduceNeg, Int.reduceAdd, Int.reduceSub, Int.reduceMul, Int.reduceLT, Int.reduceLE, Int.reduceGT, Int.reduceGE, Int.reduceEq, Int.reduceNe, Nat.reduceEqDiff, Int.zero_add, Int.add_zero, p_ty0, p_ty1, p_ty2, p_ty3, p_ty4, p_ty5, p_ty6, p_ty7, p_ty8, p_ty9, p_ty10, p_ty11, B_t, B_f]
  | succ n ih =>
    intro c M S hc ho hG hS hI h1 h2 hm
    rw [rayO, Bool.or_eq_true] at ho
    rw [w_s]
    by_cases e1 : c = -1
    · subst e1
      rw [if_pos rfl]
      refine ⟨M, -1, fun e l3 he => ?_, hS, fun _ _ _ => rfl⟩
      clear hG hS hI hY ih
      simp (disch := omega) only [x_X8_spread_116, x_X8_spread_118, x_X8_spread_119, x_X8_spread_122, x_X8_spread_124, List.length_cons, List.length_nil, Nat.reduceLeDiff, Nat.zero_add, iI_add, iI_sub, iI_mul, iI_neg, iI_lt, iI_le, iI_eq, jI_iI, B_True, B_False, B_t, B_f, ck_True, gd_True, cb_v, cb_n, p_mv_rw, p_fv_rw, p_rv_some, pA_1, pA_90, pA_92, pA_3, pA_2, pA_93, pA_4, pA_91, pA_95, pS_i, pW_i, pZ_0, pZ_1, pZ_b, bI_e0, u1_s, u1_n, uA_s, uA_n, true_and, and_true, not_true_eq_false, not_false_eq_true, eq_self, iI_z, al1, al2, al3, al4, al90, al91, al92, al93, al95, Int.cast_ofNat_Int, Nat.reduceAdd, Int.reduceNeg, Int.reduceAdd, Int.reduceSub, Int.reduceMul, Int.reduceLT, Int.reduceLE, Int.reduceGT, Int.reduceGE, Int.reduceEq, Int.reduceNe, Nat.reduceEqDiff, Int.zero_add, Int.add_zero, p_ty0, p_ty1, p_ty2, p_ty3, p_ty4, p_ty5, p_ty6, p_ty7, p_ty8, p_ty9, p_ty10, p_ty11, B_t, B_f]
    · rw [if_neg e1]
      have ho2 : rayO i n (gn c i) = true := by
        rcases ho with ho | ho
        · exact absurd (of_decide_eq_true ho) e1
        · exact ho
      have hg := gn_rg (k := c) (i := i) (by omega) hi
      obtain ⟨M1, r1, S1', f1⟩ := y_reach hY hS hI hc hm
      have hI1 := hI.r hc hm
      have hG1 : YG M1 := by
        unfold YG at *
        rw [f1 129 (by omega) (by omega), f1 130 (by omega) (by omega), f1 131 (by omega) (by omega), f1 132 (by omega) (by omega), f1 133 (by omega) (by omega)]
        exact hG
      have hne := w_r_ne (c := c) (m := m) h2
      have hlr := w_r_len (S := S) (c := c) (m := m)
      obtain ⟨M2, c2, r2, S2, f2⟩ := ih (gn c i) M1 _ hg ho2 hG1 S1' hI1 (by rw [hne]; exact h1) (by rw [hne]; exact h2) (by omega)
      refine ⟨M2, c2, fun e l3 he => ?_, S2, fun a a1 a2 => (f2 a a1 a2).trans (f1 a a1 a2)⟩
      have r1 := r1 e he
      have r2 := r2 e l3 he
      rw [← r2]
      have hst := y_step (d := e) (M := M1) (k := c) (i := i) hY hG1 he hc hi
      rw [show m_st c i = gn c i from if_neg e1] at hst
      have h9 := hS.1 k hk.1 hk.2
      have hrg := hI.rg hk
      have hl := hI.len
      obtain ⟨ty127, ty128, fy1, ty129, fy4, ty130, fy5, ty131, fy6, ty132, fy7, ty133, fy8, ty136, fy15, ty137, fy16, ty138, fy17, ty139, fy18, ty140, fy19, ty141, fy20, ty142, fy21, ty143, fy22, hbd, tybd, fy9, hlg, tylg, fy13, hN⟩ := hY
      clear hG hS hI ih r2 S1' hI1 hG1 S2 f1 f2 hlr hne
      rw [x_X8_spread_116]
      simp (disch := omega) only [x_X8_spread_118, x_X8_spread_119, x_X8_spread_122, x_X8_spread_124, x_X8_spread_127, x_X8_spread_128, x_X8_spread_130, x_X8_spread_131, x_X8_spread_134, x_X8_spread_135, x_X8_spread_136, x_X8_spread_137, x_X8_spread_138, x_X8_spread_140, x_X8_spread_143, x_X8_spread_145, x_X8_spread_146, x_X8_spread_148, x_X8_spread_150, x_X8_spread_153, x_X8_spread_155, List.length_cons, List.length_nil, Nat.reduceLeDiff, Nat.zero_add, iI_add, iI_sub, iI_mul, iI_neg, iI_lt, iI_le, iI_eq, jI_iI, B_True, B_False, B_t, B_f, ck_True, gd_True, cb_v, cb_n, p_mv_rw, p_fv_rw, p_rv_some, pA_1, pA_90, pA_92, pA_3, pA_2, pA_93, pA_4, pA_91, pA_95, pS_i, pW_i, pZ_0, pZ_1, pZ_b, bI_e0, u1_s, u1_n, uA_s, uA_n, true_and, and_true, not_true_eq_false, not_false_eq_true, eq_self, iI_z, al1, al2, al3, al4, al90, al91, al92, al93, al95, Int.cast_ofNat_Int, Nat.reduceAdd, Int.reduceNeg, Int.reduceAdd, Int.reduceSub, Int.reduceMul, Int.reduceLT, Int.reduceLE, Int.reduceGT, Int.reduceGE, Int.reduceEq, Int.reduceNe, Nat.reduceEqDiff, Int.zero_add, Int.add_zero, p_ty0, p_ty1, p_ty2, p_ty3, p_ty4, p_ty5, p_ty6, p_ty7, p_ty8, p_ty9, p_ty10, p_ty11, ty127, ty128, fy1, ty129, fy4, ty130, fy5, ty131, fy6, ty132, fy7, ty133, fy8, ty136, fy15, ty137, fy16, ty138, fy17, ty139, fy18, ty140, fy19, ty141, fy20, ty142, fy21, ty143, fy22, tybd, fy9, tylg, fy13, h9, h1, r1, hst, gd_t, B_t, B_f]
theorem ys_out (hY : YT T F bd lg N) (hk : 0 ≤ k ∧ k < 91) (hkd : 1 ≤ kd ∧ kd ≤ 5) : ∀ (n : Nat) (i : Int) (M : pM) (S : WSt), i + n = 12 → 0 ≤ i → YG M → YWS M S → WI S → S.1 k + 1 = m → S.1 k ≠ -1 → (0 ≤ m ∧ m ≤ S.2.length) →
    ∃ M', (∀ e l3 l6 l7, 1 ≤ e → R e m_X8_spread 6 [.val (.ref 127), .val (.int (iI kd)), .val (.int (iI k)), l3, .val (.int (iI (S.2.length : Int))), .val (.int (iI i)), l6, l7] [] T M F = some (.inl (some (.int (iI ((w_o kd k m n i S).2.length : Int)))), T, M', F)) ∧ YWS M' (w_o kd k m n i S) ∧ ∀ a, a ≠ 139 → a ≠ 140 → M' a = M a := by
  intro n
  induction n with
  | zero =>
    intro i M S hi h0 hG hS hI h1 h2 hm
    obtain rfl : i = 12 := by omega
    refine ⟨M, fun e l3 l6 l7 he => ?_, hS, fun _ _ _ => rfl⟩
    rw [w_o]
    have hl := hI.len
    clear hG hS hI hY
    simp (disch := omega) only [x_X8_spread_6, x_X8_spread_8, x_X8_spread_10, x_X8_spread_164, x_X8_spread_166, List.length_cons, List.length_nil, Nat.reduceLeDiff, Nat.zero_add, iI_add, iI_sub, iI_mul, iI_neg, iI_lt, iI_le, iI_eq, jI_iI, B_True, B_False, B_t, B_f, ck_True, gd_True, cb_v, cb_n, p_mv_rw, p_fv_rw, p_rv_some, pA_1, pA_90, pA_92, pA_3, pA_2, pA_93, pA_4, pA_91, pA_95, pS_i, pW_i, pZ_0, pZ_1, pZ_b, bI_e0, u1_s, u1_n, uA_s, uA_n, true_and, and_true, not_true_eq_false, not_false_eq_true, eq_self, iI_z, al1, al2, al3, al4, al90, al91, al92, al93, al95, Int.cast_ofNat_Int, Nat.reduceAdd, Int.reduceNeg, Int.reduceAdd, Int.reduceSub, Int.reduceMul, Int.reduceLT, Int.reduceLE, Int.reduceGT, Int.reduceGE, Int.reduceEq, Int.reduceNe, Nat.reduceEqDiff, Int.zero_add, Int.add_zero, p_ty0, p_ty1, p_ty2, p_ty3, p_ty4, p_ty5, p_ty6, p_ty7, p_ty8, p_ty9, p_ty10, p_ty11, B_t, B_f]
  | succ n ih =>
    intro i M S hi h0 hG hS hI h1 h2 hm
    have hi12 : 0 ≤ i ∧ i < 12 := by omega
    have hg := gn_rg hk hi12
    have hj := gj_rg hk hi12
    have n1 := hG.2.2.2.1 k i hk.1 hk.2 hi12.1 hi12.2
    have n2 := hG.2.2.2.2 k i hk.1 hk.2 hi12.1 hi12.2
    have h9 := hS.1 k hk.1 hk.2
    have hrg := hI.rg hk
    have hl := hI.len
    have hIk := hI.kk (kd := kd) hk hi12 hm
    have hne := w_k_ne (kd := kd) (k := k) (m := m) (i := i) h2
    -- one direction
    have one : ∃ M1, (∀ e l3 l6 l7, 1 ≤ e → ∃ l6' l7', R e m_X8_spread 6 [.val (.ref 127), .val (.int (iI kd)), .val (.int (iI k)), l3, .val (.int (iI (S.2.length : Int))), .val (.int (iI i)), l6, l7] [] T M F = R e m_X8_spread 158 [.val (.ref 127), .val (.int (iI kd)), .val (.int (iI k)), l3, .val (.int (iI ((w_k kd k m i S).2.length : Int))), .val (.int (iI i)), l6', l7'] [] T M1 F) ∧ YWS M1 (w_k kd k m i S) ∧ ∀ a, a ≠ 139 → a ≠ 140 → M1 a = M a := by
      unfold w_k
      by_cases k5 : kd = 5
      · rw [if_neg (by omega)]
        subst k5
        have hws : w_s (w_nx 5 i) m (w_rn 5) (w_nx 5 i k) S = w_r S (gj k i) m := by
          show (if gj k i = -1 then S else w_r S (gj k i) m) = _
          by_cases e : gj k i = -1
          · rw [if_pos e]; unfold w_r; rw [if_pos (Or.inl e)]
          · rw [if_neg e]
        rw [hws]
        obtain ⟨M1, r1, S1', f1⟩ := y_reach hY hS hI hj hm
        refine ⟨M1, fun e l3 l6 l7 he => ⟨.val (.int (iI 0)), .val (.int (iI (gn k i))), ?_⟩, S1', f1⟩
        have r1 := r1 e he
        have hG1 : YG M1 := by
          unfold YG at *
          rw [f1 129 (by omega) (by omega), f1 130 (by omega) (by omega), f1 131 (by omega) (by omega), f1 132 (by omega) (by omega), f1 133 (by omega) (by omega)]
          exact hG
        have hst := y_step (d := e) (M := M1) (k := k) (i := i) hY hG1 he (by omega) hi12
        rw [show m_st k i = gn k i from if_neg (by omega)] at hst
        obtain ⟨ty127, ty128, fy1, ty129, fy4, ty130, fy5, ty131, fy6, ty132, fy7, ty133, fy8, ty136, fy15, ty137, fy16, ty138, fy17, ty139, fy18, ty140, fy19, ty141, fy20, ty142, fy21, ty143, fy22, hbd, tybd, fy9, hlg, tylg, fy13, hN⟩ := hY
        clear hG hS hI ih S1' hG1 f1 hIk hne hws
        by_cases c6 : i < 6
        · simp (disch := omega) only [x_X8_spread_6, x_X8_spread_8, x_X8_spread_10, x_X8_spread_13, x_X8_spread_14, x_X8_spread_15, x_X8_spread_18, x_X8_spread_19, x_X8_spread_20, x_X8_spread_23, x_X8_spread_25, x_X8_spread_26, x_X8_spread_27, x_X8_spread_29, x_X8_spread_30, x_X8_spread_31, x_X8_spread_32, x_X8_spread_35, x_X8_spread_36, x_X8_spread_37, x_X8_spread_38, x_X8_spread_39, x_X8_spread_41, x_X8_spread_44, x_X8_spread_46, x_X8_spread_47, x_X8_spread_48, x_X8_spread_51, x_X8_spread_52, x_X8_spread_53, x_X8_spread_56, x_X8_spread_58, x_X8_spread_59, x_X8_spread_60, x_X8_spread_62, x_X8_spread_63, x_X8_spread_64, x_X8_spread_65, x_X8_spread_68, x_X8_spread_69, x_X8_spread_70, x_X8_spread_71, x_X8_spread_72, x_X8_spread_74, x_X8_spread_77, x_X8_spread_79, x_X8_spread_80, x_X8_spread_81, x_X8_spread_84, x_X8_spread_85, x_X8_spread_87, x_X8_spread_89, x_X8_spread_92, x_X8_spread_93, x_X8_spread_96, x_X8_spread_97, x_X8_spread_100, x_X8_spread_101, x_X8_spread_104, x_X8_spread_105, x_X8_spread_107, x_X8_spread_108, x_X8_spread_109, x_X8_spread_111, x_X8_spread_114, x_X8_spread_116, x_X8_spread_118, x_X8_spread_119, x_X8_spread_122, x_X8_spread_124, List.length_cons, List.length_nil, Nat.reduceLeDiff, Nat.zero_add, iI_add, iI_sub, iI_mul, iI_neg, iI_lt, iI_le, iI_eq, jI_iI, B_True, B_False, B_t, B_f, ck_True, gd_True, cb_v, cb_n, p_mv_rw, p_fv_rw, p_rv_some, pA_1, pA_90, pA_92, pA_3, pA_2, pA_93, pA_4, pA_91, pA_95, pS_i, pW_i, pZ_0, pZ_1, pZ_b, bI_e0, u1_s, u1_n, uA_s, uA_n, true_and, and_true, not_true_eq_false, not_false_eq_true, eq_self, iI_z, al1, al2, al3, al4, al90, al91, al92, al93, al95, Int.cast_ofNat_Int, Nat.reduceAdd, Int.reduceNeg, Int.reduceAdd, Int.reduceSub, Int.reduceMul, Int.reduceLT, Int.reduceLE, Int.reduceGT, Int.reduceGE, Int.reduceEq, Int.reduceNe, Nat.reduceEqDiff, Int.zero_add, Int.add_zero, p_ty0, p_ty1, p_ty2, p_ty3, p_ty4, p_ty5, p_ty6, p_ty7, p_ty8, p_ty9, p_ty10, p_ty11, ty127, ty128, fy1, ty129, fy4, ty130, fy5, ty131, fy6, ty132, fy7, ty133, fy8, ty136, fy15, ty137, fy16, ty138, fy17, ty139, fy18, ty140, fy19, ty141, fy20, ty142, fy21, ty143, fy22, tybd, fy9, tylg, fy13, n2, h9, h1, r1, hst, gd_t, B_t, B_f]
          refine B_split (fun _ => rfl) (fun _ => ?_)
          simp (disch := omega) only [x_X8_spread_122, x_X8_spread_124, List.length_cons, List.length_nil, Nat.reduceLeDiff, Nat.zero_add, iI_add, iI_sub, iI_mul, iI_neg, iI_lt, iI_le, iI_eq, jI_iI, B_True, B_False, B_t, B_f, ck_True, gd_True, cb_v, cb_n, p_mv_rw, p_fv_rw, p_rv_some, pA_1, pA_90, pA_92, pA_3, pA_2, pA_93, pA_4, pA_91, pA_95, pS_i, pW_i, pZ_0, pZ_1, pZ_b, bI_e0, u1_s, u1_n, uA_s, uA_n, true_and, and_true, not_true_eq_false, not_false_eq_true, eq_self, iI_z, al1, al2, al3, al4, al90, al91, al92, al93, al95, Int.cast_ofNat_Int, Nat.reduceAdd, Int.reduceNeg, Int.reduceAdd, Int.reduceSub, Int.reduceMul, Int.reduceLT, Int.reduceLE, Int.reduceGT, Int.reduceGE, Int.reduceEq, Int.reduceNe, Nat.reduceEqDiff, Int.zero_add, Int.add_zero, p_ty0, p_ty1, p_ty2, p_ty3, p_ty4, p_ty5, p_ty6, p_ty7, p_ty8, p_ty9, p_ty10, p_ty11, B_t, B_f]
        · simp (disch := omega) only [x_X8_spread_6, x_X8_spread_8, x_X8_spread_10, x_X8_spread_13, x_X8_spread_14, x_X8_spread_15, x_X8_spread_18, x_X8_spread_19, x_X8_spread_20, x_X8_spread_23, x_X8_spread_25, x_X8_spread_26, x_X8_spread_27, x_X8_spread_29, x_X8_spread_30, x_X8_spread_31, x_X8_spread_32, x_X8_spread_35, x_X8_spread_36, x_X8_spread_37, x_X8_spread_38, x_X8_spread_39, x_X8_spread_41, x_X8_spread_44, x_X8_spread_46, x_X8_spread_47, x_X8_spread_48, x_X8_spread_51, x_X8_spread_52, x_X8_spread_53, x_X8_spread_56, x_X8_spread_58, x_X8_spread_59, x_X8_spread_60, x_X8_spread_62, x_X8_spread_63, x_X8_spread_64, x_X8_spread_65, x_X8_spread_68, x_X8_spread_69, x_X8_spread_70, x_X8_spread_71, x_X8_spread_72, x_X8_spread_74, x_X8_spread_77, x_X8_spread_79, x_X8_spread_80, x_X8_spread_81, x_X8_spread_84, x_X8_spread_85, x_X8_spread_87, x_X8_spread_89, x_X8_spread_92, x_X8_spread_93, x_X8_spread_96, x_X8_spread_97, x_X8_spread_100, x_X8_spread_101, x_X8_spread_104, x_X8_spread_105, x_X8_spread_107, x_X8_spread_108, x_X8_spread_109, x_X8_spread_111, x_X8_spread_114, x_X8_spread_116, x_X8_spread_118, x_X8_spread_119, x_X8_spread_122, x_X8_spread_124, List.length_cons, List.length_nil, Nat.reduceLeDiff, Nat.zero_add, iI_add, iI_sub, iI_mul, iI_neg, iI_lt, iI_le, iI_eq, jI_iI, B_True, B_False, B_t, B_f, ck_True, gd_True, cb_v, cb_n, p_mv_rw, p_fv_rw, p_rv_some, pA_1, pA_90, pA_92, pA_3, pA_2, pA_93, pA_4, pA_91, pA_95, pS_i, pW_i, pZ_0, pZ_1, pZ_b, bI_e0, u1_s, u1_n, uA_s, uA_n, true_and, and_true, not_true_eq_false, not_false_eq_true, eq_self, iI_z, al1, al2, al3, al4, al90, al91, al92, al93, al95, Int.cast_ofNat_Int, Nat.reduceAdd, Int.reduceNeg, Int.reduceAdd, Int.reduceSub, Int.reduceMul, Int.reduceLT, Int.reduceLE, Int.reduceGT, Int.reduceGE, Int.reduceEq, Int.reduceNe, Nat.reduceEqDiff, Int.zero_add, Int.add_zero, p_ty0, p_ty1, p_ty2, p_ty3, p_ty4, p_ty5, p_ty6, p_ty7, p_ty8, p_ty9, p_ty10, p_ty11, ty127, ty128, fy1, ty129, fy4, ty130, fy5, ty131, fy6, ty132, fy7, ty133, fy8, ty136, fy15, ty137, fy16, ty138, fy17, ty139, fy18, ty140, fy19, ty141, fy20, ty142, fy21, ty143, fy22, tybd, fy9, tylg, fy13, n2, h9, h1, r1, hst, gd_t, B_t, B_f]
          refine B_split (fun _ => rfl) (fun _ => ?_)
          simp (disch := omega) only [x_X8_spread_122, x_X8_spread_124, List.length_cons, List.length_nil, Nat.reduceLeDiff, Nat.zero_add, iI_add, iI_sub, iI_mul, iI_neg, iI_lt, iI_le, iI_eq, jI_iI, B_True, B_False, B_t, B_f, ck_True, gd_True, cb_v, cb_n, p_mv_rw, p_fv_rw, p_rv_some, pA_1, pA_90, pA_92, pA_3, pA_2, pA_93, pA_4, pA_91, pA_95, pS_i, pW_i, pZ_0, pZ_1, pZ_b, bI_e0, u1_s, u1_n, uA_s, uA_n, true_and, and_true, not_true_eq_false, not_false_eq_true, eq_self, iI_z, al1, al2, al3, al4, al90, al91, al92, al93, al95, Int.cast_ofNat_Int, Nat.reduceAdd, Int.reduceNeg, Int.reduceAdd, Int.reduceSub, Int.reduceMul, Int.reduceLT, Int.reduceLE, Int.reduceGT, Int.reduceGE, Int.reduceEq, Int.reduceNe, Nat.reduceEqDiff, Int.zero_add, Int.add_zero, p_ty0, p_ty1, p_ty2, p_ty3, p_ty4, p_ty5, p_ty6, p_ty7, p_ty8, p_ty9, p_ty10, p_ty11, B_t, B_f]
      · by_cases k1 : kd = 1
        · rw [if_neg (by omega)]
          subst k1
          have hws : w_s (w_nx 1 i) m (w_rn 1) (w_nx 1 i k) S = w_r S (gn k i) m := by
            show (if gn k i = -1 then S else w_r S (gn k i) m) = _
            by_cases e : gn k i = -1
            · rw [if_pos e]; unfold w_r; rw [if_pos (Or.inl e)]
            · rw [if_neg e]
          rw [hws]
          obtain ⟨M1, r1, S1', f1⟩ := y_reach hY hS hI hg hm
          refine ⟨M1, fun e l3 l6 l7 he => ⟨.val (.int (iI 0)), .val (.int (iI (gn k i))), ?_⟩, S1', f1⟩
          have r1 := r1 e he
          have hG1 : YG M1 := by
            unfold YG at *
            rw [f1 129 (by omega) (by omega), f1 130 (by omega) (by omega), f1 131 (by omega) (by omega), f1 132 (by omega) (by omega), f1 133 (by omega) (by omega)]
            exact hG
          have hst := y_step (d := e) (M := M1) (k := k) (i := i) hY hG1 he (by omega) hi12
          rw [show m_st k i = gn k i from if_neg (by omega)] at hst
          obtain ⟨ty127, ty128, fy1, ty129, fy4, ty130, fy5, ty131, fy6, ty132, fy7, ty133, fy8, ty136, fy15, ty137, fy16, ty138, fy17, ty139, fy18, ty140, fy19, ty141, fy20, ty142, fy21, ty143, fy22, hbd, tybd, fy9, hlg, tylg, fy13, hN⟩ := hY
          clear hG hS hI ih S1' hG1 f1 hIk hne hws
          by_cases c6 : i < 6
          · simp (disch := omega) only [x_X8_spread_6, x_X8_spread_8, x_X8_spread_10, x_X8_spread_13, x_X8_spread_14, x_X8_spread_15, x_X8_spread_18, x_X8_spread_19, x_X8_spread_20, x_X8_spread_23, x_X8_spread_25, x_X8_spread_26, x_X8_spread_27, x_X8_spread_29, x_X8_spread_30, x_X8_spread_31, x_X8_spread_32, x_X8_spread_35, x_X8_spread_36, x_X8_spread_37, x_X8_spread_38, x_X8_spread_39, x_X8_spread_41, x_X8_spread_44, x_X8_spread_46, x_X8_spread_47, x_X8_spread_48, x_X8_spread_51, x_X8_spread_52, x_X8_spread_53, x_X8_spread_56, x_X8_spread_58, x_X8_spread_59, x_X8_spread_60, x_X8_spread_62, x_X8_spread_63, x_X8_spread_64, x_X8_spread_65, x_X8_spread_68, x_X8_spread_69, x_X8_spread_70, x_X8_spread_71, x_X8_spread_72, x_X8_spread_74, x_X8_spread_77, x_X8_spread_79, x_X8_spread_80, x_X8_spread_81, x_X8_spread_84, x_X8_spread_85, x_X8_spread_87, x_X8_spread_89, x_X8_spread_92, x_X8_spread_93, x_X8_spread_96, x_X8_spread_97, x_X8_spread_100, x_X8_spread_101, x_X8_spread_104, x_X8_spread_105, x_X8_spread_107, x_X8_spread_108, x_X8_spread_109, x_X8_spread_111, x_X8_spread_114, x_X8_spread_116, x_X8_spread_118, x_X8_spread_119, x_X8_spread_122, x_X8_spread_124, List.length_cons, List.length_nil, Nat.reduceLeDiff, Nat.zero_add, iI_add, iI_sub, iI_mul, iI_neg, iI_lt, iI_le, iI_eq, jI_iI, B_True, B_False, B_t, B_f, ck_True, gd_True, cb_v, cb_n, p_mv_rw, p_fv_rw, p_rv_some, pA_1, pA_90, pA_92, pA_3, pA_2, pA_93, pA_4, pA_91, pA_95, pS_i, pW_i, pZ_0, pZ_1, pZ_b, bI_e0, u1_s, u1_n, uA_s, uA_n, true_and, and_true, not_true_eq_false, not_false_eq_true, eq_self, iI_z, al1, al2, al3, al4, al90, al91, al92, al93, al95, Int.cast_ofNat_Int, Nat.reduceAdd, Int.reduceNeg, Int.reduceAdd, Int.reduceSub, Int.reduceMul, Int.reduceLT, Int.reduceLE, Int.reduceGT, Int.reduceGE, Int.reduceEq, Int.reduceNe, Nat.reduceEqDiff, Int.zero_add, Int.add_zero, p_ty0, p_ty1, p_ty2, p_ty3, p_ty4, p_ty5, p_ty6, p_ty7, p_ty8, p_ty9, p_ty10, p_ty11, ty127, ty128, fy1, ty129, fy4, ty130, fy5, ty131, fy6, ty132, fy7, ty133, fy8, ty136, fy15, ty137, fy16, ty138, fy17, ty139, fy18, ty140, fy19, ty141, fy20, ty142, fy21, ty143, fy22, tybd, fy9, tylg, fy13, n1, h9, h1, r1, hst, gd_t, B_t, B_f]
            refine B_split (fun _ => rfl) (fun _ => ?_)
            simp (disch := omega) only [x_X8_spread_122, x_X8_spread_124, List.length_cons, List.length_nil, Nat.reduceLeDiff, Nat.zero_add, iI_add, iI_sub, iI_mul, iI_neg, iI_lt, iI_le, iI_eq, jI_iI, B_True, B_False, B_t, B_f, ck_True, gd_True, cb_v, cb_n, p_mv_rw, p_fv_rw, p_rv_some, pA_1, pA_90, pA_92, pA_3, pA_2, pA_93, pA_4, pA_91, pA_95, pS_i, pW_i, pZ_0, pZ_1, pZ_b, bI_e0, u1_s, u1_n, uA_s, uA_n, true_and, and_true, not_true_eq_false, not_false_eq_true, eq_self, iI_z, al1, al2, al3, al4, al90, al91, al92, al93, al95, Int.cast_ofNat_Int, Nat.reduceAdd, Int.reduceNeg, Int.reduceAdd, Int.reduceSub, Int.reduceMul, Int.reduceLT, Int.reduceLE, Int.reduceGT, Int.reduceGE, Int.reduceEq, Int.reduceNe, Nat.reduceEqDiff, Int.zero_add, Int.add_zero, p_ty0, p_ty1, p_ty2, p_ty3, p_ty4, p_ty5, p_ty6, p_ty7, p_ty8, p_ty9, p_ty10, p_ty11, B_t, B_f]
          · simp (disch := omega) only [x_X8_spread_6, x_X8_spread_8, x_X8_spread_10, x_X8_spread_13, x_X8_spread_14, x_X8_spread_15, x_X8_spread_18, x_X8_spread_19, x_X8_spread_20, x_X8_spread_23, x_X8_spread_25, x_X8_spread_26, x_X8_spread_27, x_X8_spread_29, x_X8_spread_30, x_X8_spread_31, x_X8_spread_32, x_X8_spread_35, x_X8_spread_36, x_X8_spread_37, x_X8_spread_38, x_X8_spread_39, x_X8_spread_41, x_X8_spread_44, x_X8_spread_46, x_X8_spread_47, x_X8_spread_48, x_X8_spread_51, x_X8_spread_52, x_X8_spread_53, x_X8_spread_56, x_X8_spread_58, x_X8_spread_59, x_X8_spread_60, x_X8_spread_62, x_X8_spread_63, x_X8_spread_64, x_X8_spread_65, x_X8_spread_68, x_X8_spread_69, x_X8_spread_70, x_X8_spread_71, x_X8_spread_72, x_X8_spread_74, x_X8_spread_77, x_X8_spread_79, x_X8_spread_80, x_X8_spread_81, x_X8_spread_84, x_X8_spread_85, x_X8_spread_87, x_X8_spread_89, x_X8_spread_92, x_X8_spread_93, x_X8_spread_96, x_X8_spread_97, x_X8_spread_100, x_X8_spread_101, x_X8_spread_104, x_X8_spread_105, x_X8_spread_107, x_X8_spread_108, x_X8_spread_109, x_X8_spread_111, x_X8_spread_114, x_X8_spread_116, x_X8_spread_118, x_X8_spread_119, x_X8_spread_122, x_X8_spread_124, List.length_cons, List.length_nil, Nat.reduceLeDiff, Nat.zero_add, iI_add, iI_sub, iI_mul, iI_neg, iI_lt, iI_le, iI_eq, jI_iI, B_True, B_False, B_t, B_f, ck_True, gd_True, cb_v, cb_n, p_mv_rw, p_fv_rw, p_rv_some, pA_1, pA_90, pA_92, pA_3, pA_2, pA_93, pA_4, pA_91, pA_95, pS_i, pW_i, pZ_0, pZ_1, pZ_b, bI_e0, u1_s, u1_n, uA_s, uA_n, true_and, and_true, not_true_eq_false, not_false_eq_true, eq_self, iI_z, al1, al2, al3, al4, al90, al91, al92, al93, al95, Int.cast_ofNat_Int, Nat.reduceAdd, Int.reduceNeg, Int.reduceAdd, Int.reduceSub, Int.reduceMul, Int.reduceLT, Int.reduceLE, Int.reduceGT, Int.reduceGE, Int.reduceEq, Int.reduceNe, Nat.reduceEqDiff, Int.zero_add, Int.add_zero, p_ty0, p_ty1, p_ty2, p_ty3, p_ty4, p_ty5, p_ty6, p_ty7, p_ty8, p_ty9, p_ty10, p_ty11, ty127, ty128, fy1, ty129, fy4, ty130, fy5, ty131, fy6, ty132, fy7, ty133, fy8, ty136, fy15, ty137, fy16, ty138, fy17, ty139, fy18, ty140, fy19, ty141, fy20, ty142, fy21, ty143, fy22, tybd, fy9, tylg, fy13, n1, h9, h1, r1, hst, gd_t, B_t, B_f]
            refine B_split (fun _ => rfl) (fun _ => ?_)
            simp (disch := omega) only [x_X8_spread_122, x_X8_spread_124, List.length_cons, List.length_nil, Nat.reduceLeDiff, Nat.zero_add, iI_add, iI_sub, iI_mul, iI_neg, iI_lt, iI_le, iI_eq, jI_iI, B_True, B_False, B_t, B_f, ck_True, gd_True, cb_v, cb_n, p_mv_rw, p_fv_rw, p_rv_some, pA_1, pA_90, pA_92, pA_3, pA_2, pA_93, pA_4, pA_91, pA_95, pS_i, pW_i, pZ_0, pZ_1, pZ_b, bI_e0, u1_s, u1_n, uA_s, uA_n, true_and, and_true, not_true_eq_false, not_false_eq_true, eq_self, iI_z, al1, al2, al3, al4, al90, al91, al92, al93, al95, Int.cast_ofNat_Int, Nat.reduceAdd, Int.reduceNeg, Int.reduceAdd, Int.reduceSub, Int.reduceMul, Int.reduceLT, Int.reduceLE, Int.reduceGT, Int.reduceGE, Int.reduceEq, Int.reduceNe, Nat.reduceEqDiff, Int.zero_add, Int.add_zero, p_ty0, p_ty1, p_ty2, p_ty3, p_ty4, p_ty5, p_ty6, p_ty7, p_ty8, p_ty9, p_ty10, p_ty11, B_t, B_f]
        · have hst : ∀ e, 1 ≤ e → callD e m_X8_step [.ref 127, .int (iI k), .int (iI i)] T M F = some (.inl (some (.int (iI (gn k i)))), T, M, F) := fun e he => by
            have := y_step (d := e) (M := M) (k := k) (i := i) hY hG he (by omega) hi12
            rwa [show m_st k i = gn k i from if_neg (by omega)] at this
          by_cases cn : (kd = 3 ∧ 6 ≤ i) ∨ (kd = 4 ∧ i < 6)
          · rw [if_pos cn]
            refine ⟨M, fun e l3 l6 l7 he => ⟨.val (.int (iI 0)), .val (.int (iI (gn k i))), ?_⟩, hS, fun _ _ _ => rfl⟩
            have hst := hst e he
            have t0 := hY.1
            clear hG hS hI ih hIk hne hY
            rcases cn with ⟨z1, z2⟩ | ⟨z1, z2⟩
            · simp (disch := omega) only [x_X8_spread_6, x_X8_spread_8, x_X8_spread_10, x_X8_spread_13, x_X8_spread_14, x_X8_spread_15, x_X8_spread_18, x_X8_spread_19, x_X8_spread_20, x_X8_spread_23, x_X8_spread_25, x_X8_spread_26, x_X8_spread_27, x_X8_spread_29, x_X8_spread_30, x_X8_spread_31, x_X8_spread_32, x_X8_spread_35, x_X8_spread_36, x_X8_spread_37, x_X8_spread_38, x_X8_spread_39, x_X8_spread_41, x_X8_spread_44, x_X8_spread_46, x_X8_spread_47, x_X8_spread_48, x_X8_spread_51, x_X8_spread_52, x_X8_spread_53, x_X8_spread_56, x_X8_spread_58, x_X8_spread_59, x_X8_spread_60, x_X8_spread_62, x_X8_spread_63, x_X8_spread_64, x_X8_spread_65, x_X8_spread_68, x_X8_spread_69, x_X8_spread_70, x_X8_spread_71, x_X8_spread_72, x_X8_spread_74, x_X8_spread_77, x_X8_spread_79, x_X8_spread_80, x_X8_spread_81, x_X8_spread_84, x_X8_spread_85, x_X8_spread_87, x_X8_spread_89, x_X8_spread_92, x_X8_spread_93, x_X8_spread_96, x_X8_spread_97, x_X8_spread_100, x_X8_spread_101, x_X8_spread_104, x_X8_spread_105, x_X8_spread_107, x_X8_spread_108, x_X8_spread_109, x_X8_spread_111, x_X8_spread_114, x_X8_spread_116, x_X8_spread_118, x_X8_spread_119, x_X8_spread_122, x_X8_spread_124, List.length_cons, List.length_nil, Nat.reduceLeDiff, Nat.zero_add, iI_add, iI_sub, iI_mul, iI_neg, iI_lt, iI_le, iI_eq, jI_iI, B_True, B_False, B_t, B_f, ck_True, gd_True, cb_v, cb_n, p_mv_rw, p_fv_rw, p_rv_some, pA_1, pA_90, pA_92, pA_3, pA_2, pA_93, pA_4, pA_91, pA_95, pS_i, pW_i, pZ_0, pZ_1, pZ_b, bI_e0, u1_s, u1_n, uA_s, uA_n, true_and, and_true, not_true_eq_false, not_false_eq_true, eq_self, iI_z, al1, al2, al3, al4, al90, al91, al92, al93, al95, Int.cast_ofNat_Int, Nat.reduceAdd, Int.reduceNeg, Int.reduceAdd, Int.reduceSub, Int.reduceMul, Int.reduceLT, Int.reduceLE, Int.reduceGT, Int.reduceGE, Int.reduceEq, Int.reduceNe, Nat.reduceEqDiff, Int.zero_add, Int.add_zero, p_ty0, p_ty1, p_ty2, p_ty3, p_ty4, p_ty5, p_ty6, p_ty7, p_ty8, p_ty9, p_ty10, p_ty11, t0, hst, z1, gd_t, B_t, B_f]
              refine B_split (fun _ => rfl) (fun _ => ?_)
              simp (disch := omega) only [x_X8_spread_122, x_X8_spread_124, List.length_cons, List.length_nil, Nat.reduceLeDiff, Nat.zero_add, iI_add, iI_sub, iI_mul, iI_neg, iI_lt, iI_le, iI_eq, jI_iI, B_True, B_False, B_t, B_f, ck_True, gd_True, cb_v, cb_n, p_mv_rw, p_fv_rw, p_rv_some, pA_1, pA_90, pA_92, pA_3, pA_2, pA_93, pA_4, pA_91, pA_95, pS_i, pW_i, pZ_0, pZ_1, pZ_b, bI_e0, u1_s, u1_n, uA_s, uA_n, true_and, and_true, not_true_eq_false, not_false_eq_true, eq_self, iI_z, al1, al2, al3, al4, al90, al91, al92, al93, al95, Int.cast_ofNat_Int, Nat.reduceAdd, Int.reduceNeg, Int.reduceAdd, Int.reduceSub, Int.reduceMul, Int.reduceLT, Int.reduceLE, Int.reduceGT, Int.reduceGE, Int.reduceEq, Int.reduceNe, Nat.reduceEqDiff, Int.zero_add, Int.add_zero, p_ty0, p_ty1, p_ty2, p_ty3, p_ty4, p_ty5, p_ty6, p_ty7, p_ty8, p_ty9, p_ty10, p_ty11, B_t, B_f]
            · simp (disch := omega) only [x_X8_spread_6, x_X8_spread_8, x_X8_spread_10, x_X8_spread_13, x_X8_spread_14, x_X8_spread_15, x_X8_spread_18, x_X8_spread_19, x_X8_spread_20, x_X8_spread_23, x_X8_spread_25, x_X8_spread_26, x_X8_spread_27, x_X8_spread_29, x_X8_spread_30, x_X8_spread_31, x_X8_spread_32, x_X8_spread_35, x_X8_spread_36, x_X8_spread_37, x_X8_spread_38, x_X8_spread_39, x_X8_spread_41, x_X8_spread_44, x_X8_spread_46, x_X8_spread_47, x_X8_spread_48, x_X8_spread_51, x_X8_spread_52, x_X8_spread_53, x_X8_spread_56, x_X8_spread_58, x_X8_spread_59, x_X8_spread_60, x_X8_spread_62, x_X8_spread_63, x_X8_spread_64, x_X8_spread_65, x_X8_spread_68, x_X8_spread_69, x_X8_spread_70, x_X8_spread_71, x_X8_spread_72, x_X8_spread_74, x_X8_spread_77, x_X8_spread_79, x_X8_spread_80, x_X8_spread_81, x_X8_spread_84, x_X8_spread_85, x_X8_spread_87, x_X8_spread_89, x_X8_spread_92, x_X8_spread_93, x_X8_spread_96, x_X8_spread_97, x_X8_spread_100, x_X8_spread_101, x_X8_spread_104, x_X8_spread_105, x_X8_spread_107, x_X8_spread_108, x_X8_spread_109, x_X8_spread_111, x_X8_spread_114, x_X8_spread_116, x_X8_spread_118, x_X8_spread_119, x_X8_spread_122, x_X8_spread_124, List.length_cons, List.length_nil, Nat.reduceLeDiff, Nat.zero_add, iI_add, iI_sub, iI_mul, iI_neg, iI_lt, iI_le, iI_eq, jI_iI, B_True, B_False, B_t, B_f, ck_True, gd_True, cb_v, cb_n, p_mv_rw, p_fv_rw, p_rv_some, pA_1, pA_90, pA_92, pA_3, pA_2, pA_93, pA_4, pA_91, pA_95, pS_i, pW_i, pZ_0, pZ_1, pZ_b, bI_e0, u1_s, u1_n, uA_s, uA_n, true_and, and_true, not_true_eq_false, not_false_eq_true, eq_self, iI_z, al1, al2, al3, al4, al90, al91, al92, al93, al95, Int.cast_ofNat_Int, Nat.reduceAdd, Int.reduceNeg, Int.reduceAdd, Int.reduceSub, Int.reduceMul, Int.reduceLT, Int.reduceLE, Int.reduceGT, Int.reduceGE, Int.reduceEq, Int.reduceNe, Nat.reduceEqDiff, Int.zero_add, Int.add_zero, p_ty0, p_ty1, p_ty2, p_ty3, p_ty4, p_ty5, p_ty6, p_ty7, p_ty8, p_ty9, p_ty10, p_ty11, t0, hst, z1, gd_t, B_t, B_f]
              refine B_split (fun _ => rfl) (fun _ => ?_)
              simp (disch := omega) only [x_X8_spread_122, x_X8_spread_124, List.length_cons, List.length_nil, Nat.reduceLeDiff, Nat.zero_add, iI_add, iI_sub, iI_mul, iI_neg, iI_lt, iI_le, iI_eq, jI_iI, B_True, B_False, B_t, B_f, ck_True, gd_True, cb_v, cb_n, p_mv_rw, p_fv_rw, p_rv_some, pA_1, pA_90, pA_92, pA_3, pA_2, pA_93, pA_4, pA_91, pA_95, pS_i, pW_i, pZ_0, pZ_1, pZ_b, bI_e0, u1_s, u1_n, uA_s, uA_n, true_and, and_true, not_true_eq_false, not_false_eq_true, eq_self, iI_z, al1, al2, al3, al4, al90, al91, al92, al93, al95, Int.cast_ofNat_Int, Nat.reduceAdd, Int.reduceNeg, Int.reduceAdd, Int.reduceSub, Int.reduceMul, Int.reduceLT, Int.reduceLE, Int.reduceGT, Int.reduceGE, Int.reduceEq, Int.reduceNe, Nat.reduceEqDiff, Int.zero_add, Int.add_zero, p_ty0, p_ty1, p_ty2, p_ty3, p_ty4, p_ty5, p_ty6, p_ty7, p_ty8, p_ty9, p_ty10, p_ty11, B_t, B_f]
          · rw [if_neg cn]
            have hnx : w_nx kd i = fun c => gn c i := by funext c; unfold w_nx; rw [if_neg k5]
            have hrn : w_rn kd = 16 + 1 := by unfold w_rn; rw [if_neg (by omega)]
            rw [hnx, hrn]
            obtain ⟨M1, c1, r1, S1', f1⟩ := ys_in (m := m) hY hk hi12 hkd 16 (gn k i) M S hg (rayO_ok hk hi12) hG hS hI h1 h2 hm
            refine ⟨M1, fun e l3 l6 l7 he => ⟨.val (.int (iI 1)), .val (.int (iI c1)), ?_⟩, S1', f1⟩
            have r1 := r1 e l3 he
            have hst := hst e he
            rw [← r1]
            have t0 := hY.1
            clear hG hS hI ih hIk hne hY r1 S1' f1 hnx hrn
            by_cases k2 : kd = 2
            · simp (disch := omega) only [x_X8_spread_6, x_X8_spread_8, x_X8_spread_10, x_X8_spread_13, x_X8_spread_14, x_X8_spread_15, x_X8_spread_18, x_X8_spread_19, x_X8_spread_20, x_X8_spread_23, x_X8_spread_25, x_X8_spread_26, x_X8_spread_27, x_X8_spread_29, x_X8_spread_30, x_X8_spread_31, x_X8_spread_32, x_X8_spread_35, x_X8_spread_36, x_X8_spread_37, x_X8_spread_38, x_X8_spread_39, x_X8_spread_41, x_X8_spread_44, x_X8_spread_46, x_X8_spread_47, x_X8_spread_48, x_X8_spread_51, x_X8_spread_52, x_X8_spread_53, x_X8_spread_56, x_X8_spread_58, x_X8_spread_59, x_X8_spread_60, x_X8_spread_62, x_X8_spread_63, x_X8_spread_64, x_X8_spread_65, x_X8_spread_68, x_X8_spread_69, x_X8_spread_70, x_X8_spread_71, x_X8_spread_72, x_X8_spread_74, x_X8_spread_77, x_X8_spread_79, x_X8_spread_80, x_X8_spread_81, x_X8_spread_84, x_X8_spread_85, x_X8_spread_87, x_X8_spread_89, x_X8_spread_92, x_X8_spread_93, x_X8_spread_96, x_X8_spread_97, x_X8_spread_100, x_X8_spread_101, x_X8_spread_104, x_X8_spread_105, x_X8_spread_107, x_X8_spread_108, x_X8_spread_109, x_X8_spread_111, x_X8_spread_114, List.length_cons, List.length_nil, Nat.reduceLeDiff, Nat.zero_add, iI_add, iI_sub, iI_mul, iI_neg, iI_lt, iI_le, iI_eq, jI_iI, B_True, B_False, B_t, B_f, ck_True, gd_True, cb_v, cb_n, p_mv_rw, p_fv_rw, p_rv_some, pA_1, pA_90, pA_92, pA_3, pA_2, pA_93, pA_4, pA_91, pA_95, pS_i, pW_i, pZ_0, pZ_1, pZ_b, bI_e0, u1_s, u1_n, uA_s, uA_n, true_and, and_true, not_true_eq_false, not_false_eq_true, eq_self, iI_z, al1, al2, al3, al4, al90, al91, al92, al93, al95, Int.cast_ofNat_Int, Nat.reduceAdd, Int.reduceNeg, Int.reduceAdd, Int.reduceSub, Int.reduceMul, Int.reduceLT, Int.reduceLE, Int.reduceGT, Int.reduceGE, Int.reduceEq, Int.reduceNe, Nat.reduceEqDiff, Int.zero_add, Int.add_zero, p_ty0, p_ty1, p_ty2, p_ty3, p_ty4, p_ty5, p_ty6, p_ty7, p_ty8, p_ty9, p_ty10, p_ty11, t0, hst, k2, gd_t, B_t, B_f]
            · by_cases c6 : i < 6
              · have k3 : kd = 3 := by
                  have : ¬ (kd = 4 ∧ i < 6) := fun z => cn (Or.inr z)
                  omega
                simp (disch := omega) only [x_X8_spread_6, x_X8_spread_8, x_X8_spread_10, x_X8_spread_13, x_X8_spread_14, x_X8_spread_15, x_X8_spread_18, x_X8_spread_19, x_X8_spread_20, x_X8_spread_23, x_X8_spread_25, x_X8_spread_26, x_X8_spread_27, x_X8_spread_29, x_X8_spread_30, x_X8_spread_31, x_X8_spread_32, x_X8_spread_35, x_X8_spread_36, x_X8_spread_37, x_X8_spread_38, x_X8_spread_39, x_X8_spread_41, x_X8_spread_44, x_X8_spread_46, x_X8_spread_47, x_X8_spread_48, x_X8_spread_51, x_X8_spread_52, x_X8_spread_53, x_X8_spread_56, x_X8_spread_58, x_X8_spread_59, x_X8_spread_60, x_X8_spread_62, x_X8_spread_63, x_X8_spread_64, x_X8_spread_65, x_X8_spread_68, x_X8_spread_69, x_X8_spread_70, x_X8_spread_71, x_X8_spread_72, x_X8_spread_74, x_X8_spread_77, x_X8_spread_79, x_X8_spread_80, x_X8_spread_81, x_X8_spread_84, x_X8_spread_85, x_X8_spread_87, x_X8_spread_89, x_X8_spread_92, x_X8_spread_93, x_X8_spread_96, x_X8_spread_97, x_X8_spread_100, x_X8_spread_101, x_X8_spread_104, x_X8_spread_105, x_X8_spread_107, x_X8_spread_108, x_X8_spread_109, x_X8_spread_111, x_X8_spread_114, List.length_cons, List.length_nil, Nat.reduceLeDiff, Nat.zero_add, iI_add, iI_sub, iI_mul, iI_neg, iI_lt, iI_le, iI_eq, jI_iI, B_True, B_False, B_t, B_f, ck_True, gd_True, cb_v, cb_n, p_mv_rw, p_fv_rw, p_rv_some, pA_1, pA_90, pA_92, pA_3, pA_2, pA_93, pA_4, pA_91, pA_95, pS_i, pW_i, pZ_0, pZ_1, pZ_b, bI_e0, u1_s, u1_n, uA_s, uA_n, true_and, and_true, not_true_eq_false, not_false_eq_true, eq_self, iI_z, al1, al2, al3, al4, al90, al91, al92, al93, al95, Int.cast_ofNat_Int, Nat.reduceAdd, Int.reduceNeg, Int.reduceAdd, Int.reduceSub, Int.reduceMul, Int.reduceLT, Int.reduceLE, Int.reduceGT, Int.reduceGE, Int.reduceEq, Int.reduceNe, Nat.reduceEqDiff, Int.zero_add, Int.add_zero, p_ty0, p_ty1, p_ty2, p_ty3, p_ty4, p_ty5, p_ty6, p_ty7, p_ty8, p_ty9, p_ty10, p_ty11, t0, hst, k3, gd_t, B_t, B_f]
              · have k4 : kd = 4 := by
                  have : ¬ (kd = 3 ∧ 6 ≤ i) := fun z => cn (Or.inl z)
                  omega
                simp (disch := omega) only [x_X8_spread_6, x_X8_spread_8, x_X8_spread_10, x_X8_spread_13, x_X8_spread_14, x_X8_spread_15, x_X8_spread_18, x_X8_spread_19, x_X8_spread_20, x_X8_spread_23, x_X8_spread_25, x_X8_spread_26, x_X8_spread_27, x_X8_spread_29, x_X8_spread_30, x_X8_spread_31, x_X8_spread_32, x_X8_spread_35, x_X8_spread_36, x_X8_spread_37, x_X8_spread_38, x_X8_spread_39, x_X8_spread_41, x_X8_spread_44, x_X8_spread_46, x_X8_spread_47, x_X8_spread_48, x_X8_spread_51, x_X8_spread_52, x_X8_spread_53, x_X8_spread_56, x_X8_spread_58, x_X8_spread_59, x_X8_spread_60, x_X8_spread_62, x_X8_spread_63, x_X8_spread_64, x_X8_spread_65, x_X8_spread_68, x_X8_spread_69, x_X8_spread_70, x_X8_spread_71, x_X8_spread_72, x_X8_spread_74, x_X8_spread_77, x_X8_spread_79, x_X8_spread_80, x_X8_spread_81, x_X8_spread_84, x_X8_spread_85, x_X8_spread_87, x_X8_spread_89, x_X8_spread_92, x_X8_spread_93, x_X8_spread_96, x_X8_spread_97, x_X8_spread_100, x_X8_spread_101, x_X8_spread_104, x_X8_spread_105, x_X8_spread_107, x_X8_spread_108, x_X8_spread_109, x_X8_spread_111, x_X8_spread_114, List.length_cons, List.length_nil, Nat.reduceLeDiff, Nat.zero_add, iI_add, iI_sub, iI_mul, iI_neg, iI_lt, iI_le, iI_eq, jI_iI, B_True, B_False, B_t, B_f, ck_True, gd_True, cb_v, cb_n, p_mv_rw, p_fv_rw, p_rv_some, pA_1, pA_90, pA_92, pA_3, pA_2, pA_93, pA_4, pA_91, pA_95, pS_i, pW_i, pZ_0, pZ_1, pZ_b, bI_e0, u1_s, u1_n, uA_s, uA_n, true_and, and_true, not_true_eq_false, not_false_eq_true, eq_self, iI_z, al1, al2, al3, al4, al90, al91, al92, al93, al95, Int.cast_ofNat_Int, Nat.reduceAdd, Int.reduceNeg, Int.reduceAdd, Int.reduceSub, Int.reduceMul, Int.reduceLT, Int.reduceLE, Int.reduceGT, Int.reduceGE, Int.reduceEq, Int.reduceNe, Nat.reduceEqDiff, Int.zero_add, Int.add_zero, p_ty0, p_ty1, p_ty2, p_ty3, p_ty4, p_ty5, p_ty6, p_ty7, p_ty8, p_ty9, p_ty10, p_ty11, t0, hst, k4, gd_t, B_t, B_f]
    obtain ⟨M1, r1, S1', f1⟩ := one
    have hG1 : YG M1 := by
      unfold YG at *
      rw [f1 129 (by omega) (by omega), f1 130 (by omega) (by omega), f1 131 (by omega) (by omega), f1 132 (by omega) (by omega), f1 133 (by omega) (by omega)]
      exact hG
    obtain ⟨M2, r2, S2, f2⟩ := ih (i + 1) M1 _ (by omega) (by omega) hG1 S1' hIk.1 (by rw [hne]; exact h1) (by rw [hne]; exact h2) (by omega)
    refine ⟨M2, fun e l3 l6 l7 he => ?_, by rw [w_o]; exact S2, fun a a1 a2 => (f2 a a1 a2).trans (f1 a a1 a2)⟩
    obtain ⟨l6', l7', r1⟩ := r1 e l3 l6 l7 he
    have r2 := fun l6 l7 => r2 e l3 l6 l7 he
    rw [r1, w_o]
    clear hG hS hI ih hIk hne hY r1 S1' f1 S2 f2 hG1
    simp (disch := omega) only [x_X8_spread_158, x_X8_spread_161, List.length_cons, List.length_nil, Nat.reduceLeDiff, Nat.zero_add, iI_add, iI_sub, iI_mul, iI_neg, iI_lt, iI_le, iI_eq, jI_iI, B_True, B_False, B_t, B_f, ck_True, gd_True, cb_v, cb_n, p_mv_rw, p_fv_rw, p_rv_some, pA_1, pA_90, pA_92, pA_3, pA_2, pA_93, pA_4, pA_91, pA_95, pS_i, pW_i, pZ_0, pZ_1, pZ_b, bI_e0, u1_s, u1_n, uA_s, uA_n, true_and, and_true, not_true_eq_false, not_false_eq_true, eq_self, iI_z, al1, al2, al3, al4, al90, al91, al92, al93, al95, Int.cast_ofNat_Int, Nat.reduceAdd, Int.reduceNeg, Int.reduceAdd, Int.reduceSub, Int.reduceMul, Int.reduceLT, Int.reduceLE, Int.reduceGT, Int.reduceGE, Int.reduceEq, Int.reduceNe, Nat.reduceEqDiff, Int.zero_add, Int.add_zero, p_ty0, p_ty1, p_ty2, p_ty3, p_ty4, p_ty5, p_ty6, p_ty7, p_ty8, p_ty9, p_ty10, p_ty11, r2]
theorem y_spread (hY : YT T F bd lg N) (hkd : 1 ≤ kd ∧ kd ≤ 5) (hG : YG M) (hS : YWS M S) (hI : WI S) (hk : k ∈ S.2) :
    ∃ M', (∀ d, 2 ≤ d → callD d m_X8_spread [.ref 127, .int (iI kd), .int (iI k), .int (iI (S.2.length : Int))] T M F = some (.inl (some (.int (iI ((w_g kd k S).2.length : Int)))), T, M', F)) ∧ YWS M' (w_g kd k S) ∧ ∀ a, a ≠ 139 → a ≠ 140 → M' a = M a := by
  have hk0 := hI.1 k hk
  have hm := hI.mm hk
  obtain ⟨M1, r1, S1', f1⟩ := ys_out (m := S.1 k + 1) hY hk0 hkd 12 0 M S (by omega) (by omega) hG hS hI rfl ((hI.2.2.1 k hk0.1 hk0.2).mpr hk) hm
  refine ⟨M1, fun d hd => ?_, S1', f1⟩
  refine callD_go 1 hd rfl (fun e he => ?_)
  show R e m_X8_spread 0 [.val (.ref 127), .val (.int (iI kd)), .val (.int (iI k)), .val (.int (iI (S.2.length : Int))), .unset, .unset, .unset, .unset] [] T M F = _
  have r1 := fun l3 l6 l7 => r1 e l3 l6 l7 he
  unfold w_g
  clear hG hS hI hY S1' f1
  simp (disch := omega) only [x_X8_spread_0, x_X8_spread_1, x_X8_spread_3, x_X8_spread_4, List.length_cons, List.length_nil, Nat.reduceLeDiff, Nat.zero_add, iI_add, iI_sub, iI_mul, iI_neg, iI_lt, iI_le, iI_eq, jI_iI, B_True, B_False, B_t, B_f, ck_True, gd_True, cb_v, cb_n, p_mv_rw, p_fv_rw, p_rv_some, pA_1, pA_90, pA_92, pA_3, pA_2, pA_93, pA_4, pA_91, pA_95, pS_i, pW_i, pZ_0, pZ_1, pZ_b, bI_e0, u1_s, u1_n, uA_s, uA_n, true_and, and_true, not_true_eq_false, not_false_eq_true, eq_self, iI_z, al1, al2, al3, al4, al90, al91, al92, al93, al95, Int.cast_ofNat_Int, Nat.reduceAdd, Int.reduceNeg, Int.reduceAdd, Int.reduceSub, Int.reduceMul, Int.reduceLT, Int.reduceLE, Int.reduceGT, Int.reduceGE, Int.reduceEq, Int.reduceNe, Nat.reduceEqDiff, Int.zero_add, Int.add_zero, p_ty0, p_ty1, p_ty2, p_ty3, p_ty4, p_ty5, p_ty6, p_ty7, p_ty8, p_ty9, p_ty10, p_ty11, r1]
end PYFR
