section PGRT
variable {d : Nat} {T : pT} {M M0 M1 M2 : pM} {F : pF} {b g : Nat} {bb v w : Int → Int} {k s t pas q its to as c x p kc i acc en : Int} {A Z P L Q : List Int} {n : Nat}
theorem c_greediest (hG : GT T F g) (h : GK M g bb t pas q) : ∃ M', (∀ d, 7 ≤ d → callD d m_X1_greediest [.ref g] T M F = some (.inl (some (.int (iI (grd bb t pas (lgQ bb t pas q) (-1) 0)))), T, M', F)) ∧ GKL M' g bb t pas q ∧ (∀ a, a ≠ g → a ≠ g + 1 → a ≠ g + 1 + 1 → a ≠ g + 4 → a ≠ g + 5 → a ≠ g + 6 → M' a = M a) ∧ M' g 5 = M g 5 := by
  obtain ⟨M1, e1, f1, K1⟩ := c_moveCount (T := T) (F := F) hG h
  have t0 := hG.2.1
  have hg := hG.1
  by_cases hq : 60 ≤ q
  · have hlq : lgQ bb t pas q = [] := if_pos hq
    rw [hlq] at e1 ⊢
    refine ⟨M1, fun d hd => ?_, K1, fun a a1 _ _ a2 a3 a4 => f1.1 a a1 a2 a3 a4, f1.2 5 (by omega) (by omega) (by omega) (by omega) (by omega)⟩
    refine callD_go 6 hd rfl (fun e he => ?_)
    show R e m_X1_greediest 0 [.val (.ref g), .unset, .unset, .unset, .unset, .unset] [] T M F = _
    have e1 := e1 e he
    rw [show ((([] : List Int).length : Nat) : Int) = 0 from rfl] at e1
    rw [grd]
    clear K1 f1 h
    simp (disch := omega) only [x_X1_greediest_0, x_X1_greediest_1, x_X1_greediest_2, x_X1_greediest_3, x_X1_greediest_4, x_X1_greediest_5, x_X1_greediest_8, x_X1_greediest_9, x_X1_greediest_10, x_X1_greediest_12, x_X1_greediest_14, x_X1_greediest_15, x_X1_greediest_53, x_X1_greediest_54, List.length_cons, List.length_nil, Nat.reduceLeDiff, Nat.zero_add, iI_add, iI_sub, iI_mul, iI_neg, iI_lt, iI_le, iI_eq, jI_iI, B_True, B_False, B_t, B_f, ck_True, gd_True, cb_v, cb_n, p_mv_rw, p_fv_rw, p_rv_some, pA_1, pA_90, pA_92, pA_3, pA_2, pA_93, pA_4, pA_91, pA_95, pS_i, pW_i, pZ_0, pZ_1, pZ_b, bI_e0, u1_s, u1_n, uA_s, uA_n, true_and, and_true, not_true_eq_false, not_false_eq_true, eq_self, iI_z, al1, al2, al3, al4, al90, al91, al92, al93, al95, Int.cast_ofNat_Int, Nat.reduceAdd, Int.reduceNeg, Int.reduceAdd, Int.reduceSub, Int.reduceMul, Int.reduceLT, Int.reduceLE, Int.reduceGT, Int.reduceGE, Int.reduceEq, Int.reduceNe, Nat.reduceEqDiff, Int.zero_add, Int.add_zero, p_ty0, p_ty1, p_ty2, p_ty3, p_ty4, p_ty5, p_ty6, p_ty7, p_ty8, p_ty9, p_ty10, p_ty11, t0, e1, gd_t]
  · have hlq : lgQ bb t pas q = lgA bb t pas := if_neg hq
    rw [hlq] at e1 ⊢
    obtain ⟨M', e2, K2, f2⟩ := gr_loop (T := T) (F := F) hG hlq (lgA bb t pas) [] (-1) 0 .unset M1 (List.nil_append _) (by omega) (by omega) K1
    refine ⟨M', fun d hd => ?_, K2, fun a a1 a5 a6 a2 a3 a4 => (f2.2 a a1 a5 a6 a3 a4).trans (f1.1 a a1 a2 a3 a4), (f2.1 5 (by omega) (by omega) (by omega) (by omega) (by omega) (by omega)).trans (f1.2 5 (by omega) (by omega) (by omega) (by omega) (by omega))⟩
    refine callD_go 6 hd rfl (fun e he => ?_)
    show R e m_X1_greediest 0 [.val (.ref g), .unset, .unset, .unset, .unset, .unset] [] T M F = _
    have e1 := e1 e he
    have e2 := e2 e (by omega)
    rw [← e2]
    clear e2 K1 K2 f1 f2 h
    simp (disch := omega) only [x_X1_greediest_0, x_X1_greediest_1, x_X1_greediest_2, x_X1_greediest_3, x_X1_greediest_4, x_X1_greediest_5, x_X1_greediest_8, x_X1_greediest_9, x_X1_greediest_10, List.length_cons, List.length_nil, Nat.reduceLeDiff, Nat.zero_add, iI_add, iI_sub, iI_mul, iI_neg, iI_lt, iI_le, iI_eq, jI_iI, B_True, B_False, B_t, B_f, ck_True, gd_True, cb_v, cb_n, p_mv_rw, p_fv_rw, p_rv_some, pA_1, pA_90, pA_92, pA_3, pA_2, pA_93, pA_4, pA_91, pA_95, pS_i, pW_i, pZ_0, pZ_1, pZ_b, bI_e0, u1_s, u1_n, uA_s, uA_n, true_and, and_true, not_true_eq_false, not_false_eq_true, eq_self, iI_z, al1, al2, al3, al4, al90, al91, al92, al93, al95, Int.cast_ofNat_Int, Nat.reduceAdd, Int.reduceNeg, Int.reduceAdd, Int.reduceSub, Int.reduceMul, Int.reduceLT, Int.reduceLE, Int.reduceGT, Int.reduceGE, Int.reduceEq, Int.reduceNe, Nat.reduceEqDiff, Int.zero_add, Int.add_zero, p_ty0, p_ty1, p_ty2, p_ty3, p_ty4, p_ty5, p_ty6, p_ty7, p_ty8, p_ty9, p_ty10, p_ty11, t0, e1, gd_t]
end PGRT
