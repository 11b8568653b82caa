section PREP
variable {d : Nat} {T : pT} {M M0 M1 M2 : pM} {F : pF} {b g : Nat} {bb v w : Int → Int} {k s t pas q its to as c x p kc i acc en : Int} {A Z P L Q : List Int} {n : Nat}
theorem FTr.rf : FTr M M g := ⟨fun _ _ _ _ _ _ _ => rfl, fun _ _ _ _ _ _ => rfl⟩
theorem FTr.tr (f1 : FTr M M1 g) (f : FTr M1 M2 g) : FTr M M2 g := ⟨fun j j1 j2 j3 j4 j5 j6 => (f.1 j j1 j2 j3 j4 j5 j6).trans (f1.1 j j1 j2 j3 j4 j5 j6), fun a a1 a2 a3 a4 a5 => (f.2 a a1 a2 a3 a4 a5).trans (f1.2 a a1 a2 a3 a4 a5)⟩
/-- behind trying, only this has changed -/
theorem FTr.all (f2 : FTr M1 M2 g) (f1 : FMv M M1 g) : (∀ a, a ≠ g → a ≠ g + 1 → a ≠ g + 1 + 1 → a ≠ g + 4 → a ≠ g + 5 → a ≠ g + 6 → M2 a = M a) ∧ M2 g 5 = M g 5 :=
  ⟨fun a a1 a5 a6 a2 a3 a4 => (f2.2 a a1 a5 a6 a3 a4).trans (f1.1 a a1 a2 a3 a4), (f2.1 5 (by omega) (by omega) (by omega) (by omega) (by omega) (by omega)).trans (f1.2 5 (by omega) (by omega) (by omega) (by omega) (by omega))⟩
/-- how many replies there are to a move -/
noncomputable def rpn (bb : Int → Int) (t pas q its to : Int) : Int := ((lgQ (mk_bb bb pas its to 2) (1 - t) (mk_ps bb its to) (mk_q bb pas q its to)).length : Int)
noncomputable def rpl (bb : Int → Int) (t pas q : Int) : List Int → Int
  | [] => 0
  | x :: L => rpn bb t pas q (x / 91) (x % 91) + rpl bb t pas q L
theorem rp_loop (hG : GT T F g) (hq : q < 60) : ∀ (Q P : List Int) (acc : Int) (M : pM), P ++ Q = lgA bb t pas → (0 ≤ acc ∧ acc ≤ 840 * P.length) → GKL M g bb t pas q →
    ∃ M', (∀ e l4 l5, 6 ≤ e → R e m_X1_repliesToAll 9 [.val (.ref g), .val (.int (iI acc)), .val (.int (iI ((lgA bb t pas).length : Int))), .val (.int (iI (P.length : Int))), l4, l5] [] T M F = some (.inl (some (.int (iI (acc + rpl bb t pas q Q)))), T, M', F)) ∧ GKL M' g bb t pas q ∧ FTr M M' g := by
  intro Q
  have t0 := hG.2.1
  have hg := hG.1
  induction Q with
  | nil =>
    intro P acc M hP ha h
    refine ⟨M, fun e l4 l5 he => ?_, h, FTr.rf⟩
    have hl := h.len
    rw [List.append_nil] at hP
    rw [rpl, ← hP, Int.add_zero]
    rw [← hP] at hl
    clear h
    simp (disch := omega) only [x_X1_repliesToAll_9, x_X1_repliesToAll_10, x_X1_repliesToAll_11, x_X1_repliesToAll_52, x_X1_repliesToAll_53, List.length_cons, List.length_nil, Nat.reduceLeDiff, Nat.zero_add, iI_add, iI_sub, iI_mul, iI_neg, iI_lt, iI_le, iI_eq, jI_iI, B_True, B_False, B_t, B_f, ck_True, gd_True, cb_v, cb_n, p_mv_rw, p_fv_rw, p_rv_some, pA_1, pA_90, pA_92, pA_3, pA_5, pA_93, pA_4, pA_91, pA_6, pS_i, pB_i, pW_i, pZ_0, pZ_1, pZ_b, bI_e0, u1_s, u1_n, uA_s, uA_n, true_and, and_true, not_true_eq_false, not_false_eq_true, eq_self, iI_z, al1, al5, al3, al4, al90, al91, al92, al93, al6, Int.cast_ofNat_Int, Nat.reduceAdd, Int.reduceNeg, Int.reduceAdd, Int.reduceSub, Int.reduceMul, Int.reduceLT, Int.reduceLE, Int.reduceGT, Int.reduceGE, Int.reduceEq, Int.reduceNe, Nat.reduceEqDiff, Int.zero_add, Int.add_zero, p_ty0, p_ty1, p_ty2, p_ty3, p_ty4, p_ty5, p_ty8, p_ty9, p_ty10]
  | cons x Q ih =>
    intro P acc M hP ha h
    have hl := h.len
    have hPl : P.length + 1 + Q.length = (lgA bb t pas).length := by rw [← hP]; simp; omega
    have hx : (lgA bb t pas).getD P.length 0 = x := by rw [← hP, getD_mid]
    have hm := lgA_at (n := P.length) (bb := bb) (t := t) (pas := pas) (by omega)
    rw [hx] at hm
    obtain ⟨hy, hV, hs⟩ := lg_move hm
    have hb := h.1.1.2.2.1
    have ht := h.1.2.2.2.2.1
    have hq0 := h.1.2.2.2.2.2.1
    obtain ⟨M1, e1, S1, n1, n2⟩ := c_playListed (T := T) (F := F) hG h (n := P.length) (by omega) hx
    have hy' := ply_mk hb ht h.1.PS hy hV (as := 2) (by omega) hs
    have h20 := h.2.2.2.1.mk hb ht h.1.PS hV (as := 2) (by omega)
    have hq1 := mk_q_rg (bb := bb) (pas := pas) (its := x / 91) (to := x % 91) ⟨hq0.1, hq⟩
    have hl1 := lgA_len S1.1.2.1 S1.1.2.2.1 S1.2.2.2.2.1 S1.PS h20
    have hA : lgA (mk_bb bb pas (x / 91) (x % 91) 2) (1 - t) (mk_ps bb (x / 91) (x % 91)) = lgL (mk_bb bb pas (x / 91) (x % 91) 2) (1 - t) (mk_ps bb (x / 91) (x % 91)) 91 0 := if_pos hy'
    have hk : m_king (mk_bb bb pas (x / 91) (x % 91) 2) (1 - t) ≠ -1 := by
      rcases S1.2.2.2.2.1 with z | z
      · rw [z] at hy' ⊢; exact hy'.1
      · rw [z] at hy' ⊢; exact hy'.2.1
    rw [hA] at hl1
    have s2 := S1.2.2.1
    by_cases c1 : mk_q bb pas q (x / 91) (x % 91) < 60
    · have hr : rpn bb t pas q (x / 91) (x % 91) = ((lgL (mk_bb bb pas (x / 91) (x % 91) 2) (1 - t) (mk_ps bb (x / 91) (x % 91)) 91 0).length : Int) := by
        unfold rpn lgQ; rw [if_neg (by omega), hA]
      obtain ⟨M2, e2, S2, f2⟩ := c_countMoves (T := T) (F := F) hG S1 (by omega) hk (en := 840) (by omega)
      rw [if_neg (by omega), ← hr] at e2
      obtain ⟨M3, e3, K3, f3, f4⟩ := c_again (T := T) (F := F) hG h hV (as := 2) (by omega) S2 (fun j j1 j2 j3 j4 j5 j6 => (f2.2 j j4 j5 j6).trans (n1 j j1 j2 j3)) (fun a a1 a2 a3 a4 a5 => (f2.1 a a1 a4 a5).trans (n2 a a1 a2 a3))
      obtain ⟨M', e4, K4, f5⟩ := ih (P ++ [x]) (acc + rpn bb t pas q (x / 91) (x % 91)) M3 (by rw [List.append_assoc]; exact hP) (by rw [List.length_append, List.length_singleton]; omega) K3
      refine ⟨M', fun e l4 l5 he => ?_, K4, FTr.tr ⟨f3, f4⟩ f5⟩
      have e1 := e1 e (by omega)
      have e2 := e2 e (by omega)
      have e3 := e3 e (by omega)
      have e4 := fun l4 l5 => e4 e l4 l5 he
      have hrr : 0 ≤ rpn bb t pas q (x / 91) (x % 91) ∧ rpn bb t pas q (x / 91) (x % 91) ≤ 840 := by omega
      rw [List.length_append, List.length_singleton, Int.natCast_add_one] at e4
      rw [rpl, ← Int.add_assoc]
      clear ih K4 f5 f3 f4 f2 K3 S2 S1 n1 n2 h hP hA hV hs hy hm hy' h20 hb hr hl1 hk
      rw [x_X1_repliesToAll_9]
      simp (disch := omega) only [x_X1_repliesToAll_10, x_X1_repliesToAll_11, x_X1_repliesToAll_14, x_X1_repliesToAll_15, x_X1_repliesToAll_16, x_X1_repliesToAll_19, x_X1_repliesToAll_21, x_X1_repliesToAll_22, x_X1_repliesToAll_25, x_X1_repliesToAll_27, x_X1_repliesToAll_30, x_X1_repliesToAll_31, x_X1_repliesToAll_32, x_X1_repliesToAll_35, x_X1_repliesToAll_38, x_X1_repliesToAll_39, x_X1_repliesToAll_40, x_X1_repliesToAll_41, x_X1_repliesToAll_43, x_X1_repliesToAll_46, x_X1_repliesToAll_49, List.length_cons, List.length_nil, Nat.reduceLeDiff, Nat.zero_add, iI_add, iI_sub, iI_mul, iI_neg, iI_lt, iI_le, iI_eq, jI_iI, B_True, B_False, B_t, B_f, ck_True, gd_True, cb_v, cb_n, p_mv_rw, p_fv_rw, p_rv_some, pA_1, pA_90, pA_92, pA_3, pA_5, pA_93, pA_4, pA_91, pA_6, pS_i, pB_i, pW_i, pZ_0, pZ_1, pZ_b, bI_e0, u1_s, u1_n, uA_s, uA_n, true_and, and_true, not_true_eq_false, not_false_eq_true, eq_self, iI_z, al1, al5, al3, al4, al90, al91, al92, al93, al6, Int.cast_ofNat_Int, Nat.reduceAdd, Int.reduceNeg, Int.reduceAdd, Int.reduceSub, Int.reduceMul, Int.reduceLT, Int.reduceLE, Int.reduceGT, Int.reduceGE, Int.reduceEq, Int.reduceNe, Nat.reduceEqDiff, Int.zero_add, Int.add_zero, p_ty0, p_ty1, p_ty2, p_ty3, p_ty4, p_ty5, p_ty8, p_ty9, p_ty10, t0, e1, e2, e3, e4, s2, gd_t]
    · have hr : rpn bb t pas q (x / 91) (x % 91) = 0 := by
        unfold rpn lgQ; rw [if_pos (by omega)]; rfl
      obtain ⟨M3, e3, K3, f3, f4⟩ := c_again (T := T) (F := F) hG h hV (as := 2) (by omega) S1 (fun j j1 j2 j3 _ _ _ => n1 j j1 j2 j3) (fun a a1 a2 a3 _ _ => n2 a a1 a2 a3)
      obtain ⟨M', e4, K4, f5⟩ := ih (P ++ [x]) acc M3 (by rw [List.append_assoc]; exact hP) (by rw [List.length_append, List.length_singleton]; omega) K3
      refine ⟨M', fun e l4 l5 he => ?_, K4, FTr.tr ⟨f3, f4⟩ f5⟩
      have e1 := e1 e (by omega)
      have e3 := e3 e (by omega)
      have e4 := fun l4 l5 => e4 e l4 l5 he
      rw [List.length_append, List.length_singleton, Int.natCast_add_one] at e4
      rw [rpl, hr, Int.zero_add]
      clear ih K4 f5 f3 f4 K3 S1 n1 n2 h hP hA hV hs hy hm hy' h20 hb hr hl1 hk
      rw [x_X1_repliesToAll_9]
      simp (disch := omega) only [x_X1_repliesToAll_10, x_X1_repliesToAll_11, x_X1_repliesToAll_14, x_X1_repliesToAll_15, x_X1_repliesToAll_16, x_X1_repliesToAll_19, x_X1_repliesToAll_21, x_X1_repliesToAll_22, x_X1_repliesToAll_25, x_X1_repliesToAll_27, x_X1_repliesToAll_30, x_X1_repliesToAll_31, x_X1_repliesToAll_32, x_X1_repliesToAll_35, x_X1_repliesToAll_38, x_X1_repliesToAll_39, x_X1_repliesToAll_40, x_X1_repliesToAll_41, x_X1_repliesToAll_43, x_X1_repliesToAll_46, x_X1_repliesToAll_49, List.length_cons, List.length_nil, Nat.reduceLeDiff, Nat.zero_add, iI_add, iI_sub, iI_mul, iI_neg, iI_lt, iI_le, iI_eq, jI_iI, B_True, B_False, B_t, B_f, ck_True, gd_True, cb_v, cb_n, p_mv_rw, p_fv_rw, p_rv_some, pA_1, pA_90, pA_92, pA_3, pA_5, pA_93, pA_4, pA_91, pA_6, pS_i, pB_i, pW_i, pZ_0, pZ_1, pZ_b, bI_e0, u1_s, u1_n, uA_s, uA_n, true_and, and_true, not_true_eq_false, not_false_eq_true, eq_self, iI_z, al1, al5, al3, al4, al90, al91, al92, al93, al6, Int.cast_ofNat_Int, Nat.reduceAdd, Int.reduceNeg, Int.reduceAdd, Int.reduceSub, Int.reduceMul, Int.reduceLT, Int.reduceLE, Int.reduceGT, Int.reduceGE, Int.reduceEq, Int.reduceNe, Nat.reduceEqDiff, Int.zero_add, Int.add_zero, p_ty0, p_ty1, p_ty2, p_ty3, p_ty4, p_ty5, p_ty8, p_ty9, p_ty10, t0, e1, e3, e4, s2, gd_t]
theorem c_repliesToAll (hG : GT T F g) (h : GK M g bb t pas q) : ∃ M', (∀ d, 7 ≤ d → callD d m_X1_repliesToAll [.ref g] T M F = some (.inl (some (.int (iI (rpl bb t pas q (lgQ bb t pas q))))), T, M', F)) ∧ GKL M' g bb t pas q ∧ (∀ a, a ≠ g → a ≠ g + 1 → a ≠ g + 1 + 1 → a ≠ g + 4 → a ≠ g + 5 → a ≠ g + 6 → M' a = M a) ∧ M' g 5 = M g 5 := by
  obtain ⟨M1, e1, f1, K1⟩ := c_moveCount (T := T) (F := F) hG h
  have t0 := hG.2.1
  have hg := hG.1
  by_cases hq : 60 ≤ q
  · have hlq : lgQ bb t pas q = [] := if_pos hq
    rw [hlq] at e1 ⊢
    refine ⟨M1, fun d hd => ?_, K1, FTr.all FTr.rf f1⟩
    refine callD_go 6 hd rfl (fun e he => ?_)
    show R e m_X1_repliesToAll 0 [.val (.ref g), .unset, .unset, .unset, .unset, .unset] [] T M F = _
    have e1 := e1 e he
    rw [show ((([] : List Int).length : Nat) : Int) = 0 from rfl] at e1
    rw [rpl]
    clear K1 f1 h
    simp (disch := omega) only [x_X1_repliesToAll_0, x_X1_repliesToAll_1, x_X1_repliesToAll_2, x_X1_repliesToAll_3, x_X1_repliesToAll_6, x_X1_repliesToAll_7, x_X1_repliesToAll_8, x_X1_repliesToAll_9, x_X1_repliesToAll_10, x_X1_repliesToAll_11, x_X1_repliesToAll_52, x_X1_repliesToAll_53, List.length_cons, List.length_nil, Nat.reduceLeDiff, Nat.zero_add, iI_add, iI_sub, iI_mul, iI_neg, iI_lt, iI_le, iI_eq, jI_iI, B_True, B_False, B_t, B_f, ck_True, gd_True, cb_v, cb_n, p_mv_rw, p_fv_rw, p_rv_some, pA_1, pA_90, pA_92, pA_3, pA_5, pA_93, pA_4, pA_91, pA_6, pS_i, pB_i, pW_i, pZ_0, pZ_1, pZ_b, bI_e0, u1_s, u1_n, uA_s, uA_n, true_and, and_true, not_true_eq_false, not_false_eq_true, eq_self, iI_z, al1, al5, al3, al4, al90, al91, al92, al93, al6, Int.cast_ofNat_Int, Nat.reduceAdd, Int.reduceNeg, Int.reduceAdd, Int.reduceSub, Int.reduceMul, Int.reduceLT, Int.reduceLE, Int.reduceGT, Int.reduceGE, Int.reduceEq, Int.reduceNe, Nat.reduceEqDiff, Int.zero_add, Int.add_zero, p_ty0, p_ty1, p_ty2, p_ty3, p_ty4, p_ty5, p_ty8, p_ty9, p_ty10, t0, e1, gd_t]
  · have hlq : lgQ bb t pas q = lgA bb t pas := if_neg hq
    rw [hlq] at e1 ⊢
    obtain ⟨M', e2, K2, f2⟩ := rp_loop (T := T) (F := F) hG (by omega) (lgA bb t pas) [] 0 M1 (List.nil_append _) (by rw [List.length_nil]; omega) K1
    refine ⟨M', fun d hd => ?_, K2, FTr.all f2 f1⟩
    refine callD_go 6 hd rfl (fun e he => ?_)
    show R e m_X1_repliesToAll 0 [.val (.ref g), .unset, .unset, .unset, .unset, .unset] [] T M F = _
    have e1 := e1 e he
    have e2 := fun l4 l5 => e2 e l4 l5 he
    rw [Int.zero_add, List.length_nil, Int.natCast_zero] at e2
    clear K1 K2 f1 f2 h
    simp (disch := omega) only [x_X1_repliesToAll_0, x_X1_repliesToAll_1, x_X1_repliesToAll_2, x_X1_repliesToAll_3, x_X1_repliesToAll_6, x_X1_repliesToAll_7, x_X1_repliesToAll_8, List.length_cons, List.length_nil, Nat.reduceLeDiff, Nat.zero_add, iI_add, iI_sub, iI_mul, iI_neg, iI_lt, iI_le, iI_eq, jI_iI, B_True, B_False, B_t, B_f, ck_True, gd_True, cb_v, cb_n, p_mv_rw, p_fv_rw, p_rv_some, pA_1, pA_90, pA_92, pA_3, pA_5, pA_93, pA_4, pA_91, pA_6, pS_i, pB_i, pW_i, pZ_0, pZ_1, pZ_b, bI_e0, u1_s, u1_n, uA_s, uA_n, true_and, and_true, not_true_eq_false, not_false_eq_true, eq_self, iI_z, al1, al5, al3, al4, al90, al91, al92, al93, al6, Int.cast_ofNat_Int, Nat.reduceAdd, Int.reduceNeg, Int.reduceAdd, Int.reduceSub, Int.reduceMul, Int.reduceLT, Int.reduceLE, Int.reduceGT, Int.reduceGE, Int.reduceEq, Int.reduceNe, Nat.reduceEqDiff, Int.zero_add, Int.add_zero, p_ty0, p_ty1, p_ty2, p_ty3, p_ty4, p_ty5, p_ty8, p_ty9, p_ty10, t0, e1, e2, gd_t]
end PREP
