section PHOW
variable {d : Nat} {T : pT} {M M0 M1 : pM} {F : pF} {b g : Nat} {bb v : Int → Int} {k s t pas q its to as c x p kc i acc : Int} {A Z P L : List Int}
theorem c_allows (hG : GT T F g) (h : GK M g bb t pas q) (hk : 0 ≤ k ∧ k < 91) (hc : 0 ≤ c ∧ c < 91) : ∃ M', (∀ d, 7 ≤ d → callD d m_X1_allows [.ref g, .int (iI k), .int (iI c)] T M F = some (.inl (some (.int (iI (bI (91 * k + c ∈ lgQ bb t pas q))))), T, M', F)) ∧ FMv M M' g ∧ GKL M' g bb t pas q := by
  obtain ⟨M', e1, f, l⟩ := c_listK hG h
  refine ⟨M', fun d hd => ?_, f, l⟩
  refine callD_go 6 hd rfl (fun e he => ?_)
  show R e m_X1_allows 0 [.val (.ref g), .val (.int (iI k)), .val (.int (iI c)), .unset, .unset] [] T M F = _
  have e1 := e1 e (by omega)
  have e2 := c_openMoves (d := e) (T := T) (F := F) hG l (by omega)
  have hl := l.len
  have hlm := l.2.2.1
  have hlq := lgQ_len (q := q) hl
  have t0 := hG.2.1
  have key : ∀ (Q P : List Int), P ++ Q = lgQ bb t pas q → R e m_X1_allows 12 [.val (.ref g), .val (.int (iI k)), .val (.int (iI c)), .val (.int (iI ((lgQ bb t pas q).length : Int))), .val (.int (iI (P.length : Int)))] [] T M' F = some (.inl (some (.int (iI (bI (91 * k + c ∈ Q))))), T, M', F) := by
    intro Q
    induction Q with
    | nil =>
      intro P hP
      rw [List.append_nil] at hP
      rw [← hP]
      rw [← hP] at hlq
      rw [bI_f (List.not_mem_nil), x_X1_allows_12]
      clear l f h e1 e2 hlm hl
      simp (disch := omega) only [x_X1_allows_14, x_X1_allows_15, x_X1_allows_18, x_X1_allows_19, x_X1_allows_21, x_X1_allows_24, x_X1_allows_25, x_X1_allows_27, x_X1_allows_28, x_X1_allows_29, x_X1_allows_30, x_X1_allows_33, x_X1_allows_34, x_X1_allows_35, x_X1_allows_38, x_X1_allows_41, x_X1_allows_42, List.length_cons, List.length_nil, Nat.reduceLeDiff, Nat.zero_add, iI_add, iI_sub, iI_mul, iI_neg, iI_lt, iI_le, iI_eq, jI_iI, B_True, B_False, B_t, B_f, ck_True, gd_True, cb_v, cb_n, p_mv_rw, p_fv_rw, p_rv_some, pA_1, pA_90, pA_92, pA_3, pA_5, pA_93, pA_4, pA_91, pA_6, pS_i, pB_i, pW_i, pZ_0, pZ_1, pZ_b, bI_e0, u1_s, u1_n, uA_s, uA_n, true_and, and_true, not_true_eq_false, not_false_eq_true, eq_self, iI_z, al1, al5, al3, al4, al90, al91, al92, al93, al6, Int.cast_ofNat_Int, Nat.reduceAdd, Int.reduceNeg, Int.reduceAdd, Int.reduceSub, Int.reduceMul, Int.reduceLT, Int.reduceLE, Int.reduceGT, Int.reduceGE, Int.reduceEq, Int.reduceNe, Nat.reduceEqDiff, Int.zero_add, Int.add_zero, p_ty0, p_ty1, p_ty2, p_ty3, p_ty4, p_ty5, p_ty8, p_ty9, p_ty10]
    | cons x Q ih =>
      intro P hP
      have hPl : P.length + 1 + Q.length = (lgQ bb t pas q).length := by rw [← hP]; simp; omega
      have hx := lgQ_sub (x := x) (bb := bb) (t := t) (pas := pas) (q := q) (by rw [← hP]; simp)
      have hxr := lgA_rg hx.1
      have hm := c_moveAt (d := e) (T := T) (F := F) hG hlm hl (n := P.length) (by rw [← hx.2]; omega) (by omega)
      rw [← hx.2, ← hP, getD_mid] at hm
      have e9 : k * 91 + c = 91 * k + c := by omega
      rw [x_X1_allows_12]
      by_cases c1 : x = 91 * k + c
      · rw [bI_t (show 91 * k + c ∈ x :: Q by rw [c1]; exact List.mem_cons_self)]
        clear l f h e1 e2 hlm hl ih hP
        simp (disch := omega) only [x_X1_allows_14, x_X1_allows_15, x_X1_allows_18, x_X1_allows_19, x_X1_allows_21, x_X1_allows_24, x_X1_allows_25, x_X1_allows_27, x_X1_allows_28, x_X1_allows_29, x_X1_allows_30, x_X1_allows_33, x_X1_allows_34, x_X1_allows_35, x_X1_allows_38, x_X1_allows_41, x_X1_allows_42, List.length_cons, List.length_nil, Nat.reduceLeDiff, Nat.zero_add, iI_add, iI_sub, iI_mul, iI_neg, iI_lt, iI_le, iI_eq, jI_iI, B_True, B_False, B_t, B_f, ck_True, gd_True, cb_v, cb_n, p_mv_rw, p_fv_rw, p_rv_some, pA_1, pA_90, pA_92, pA_3, pA_5, pA_93, pA_4, pA_91, pA_6, pS_i, pB_i, pW_i, pZ_0, pZ_1, pZ_b, bI_e0, u1_s, u1_n, uA_s, uA_n, true_and, and_true, not_true_eq_false, not_false_eq_true, eq_self, iI_z, al1, al5, al3, al4, al90, al91, al92, al93, al6, Int.cast_ofNat_Int, Nat.reduceAdd, Int.reduceNeg, Int.reduceAdd, Int.reduceSub, Int.reduceMul, Int.reduceLT, Int.reduceLE, Int.reduceGT, Int.reduceGE, Int.reduceEq, Int.reduceNe, Nat.reduceEqDiff, Int.zero_add, Int.add_zero, p_ty0, p_ty1, p_ty2, p_ty3, p_ty4, p_ty5, p_ty8, p_ty9, p_ty10, t0, hm, e9, gd_t]
      · have ih := ih (P ++ [x]) (by rw [List.append_assoc]; exact hP)
        rw [List.length_append, List.length_singleton, Int.natCast_add_one] at ih
        rw [bI_iff (show 91 * k + c ∈ x :: Q ↔ 91 * k + c ∈ Q by rw [List.mem_cons]; exact ⟨fun z => z.resolve_left (fun z => c1 z.symm), Or.inr⟩), ← ih]
        clear l f h e1 e2 hlm hl ih hP
        simp (disch := omega) only [x_X1_allows_14, x_X1_allows_15, x_X1_allows_18, x_X1_allows_19, x_X1_allows_21, x_X1_allows_24, x_X1_allows_25, x_X1_allows_27, x_X1_allows_28, x_X1_allows_29, x_X1_allows_30, x_X1_allows_33, x_X1_allows_34, x_X1_allows_35, x_X1_allows_38, x_X1_allows_41, x_X1_allows_42, List.length_cons, List.length_nil, Nat.reduceLeDiff, Nat.zero_add, iI_add, iI_sub, iI_mul, iI_neg, iI_lt, iI_le, iI_eq, jI_iI, B_True, B_False, B_t, B_f, ck_True, gd_True, cb_v, cb_n, p_mv_rw, p_fv_rw, p_rv_some, pA_1, pA_90, pA_92, pA_3, pA_5, pA_93, pA_4, pA_91, pA_6, pS_i, pB_i, pW_i, pZ_0, pZ_1, pZ_b, bI_e0, u1_s, u1_n, uA_s, uA_n, true_and, and_true, not_true_eq_false, not_false_eq_true, eq_self, iI_z, al1, al5, al3, al4, al90, al91, al92, al93, al6, Int.cast_ofNat_Int, Nat.reduceAdd, Int.reduceNeg, Int.reduceAdd, Int.reduceSub, Int.reduceMul, Int.reduceLT, Int.reduceLE, Int.reduceGT, Int.reduceGE, Int.reduceEq, Int.reduceNe, Nat.reduceEqDiff, Int.zero_add, Int.add_zero, p_ty0, p_ty1, p_ty2, p_ty3, p_ty4, p_ty5, p_ty8, p_ty9, p_ty10, t0, hm, e9, gd_t]
  have := key (lgQ bb t pas q) [] (List.nil_append _)
  rw [← this]
  clear this key l f h hlm hl
  simp (disch := omega) only [x_X1_allows_0, x_X1_allows_1, x_X1_allows_4, x_X1_allows_5, x_X1_allows_8, x_X1_allows_9, x_X1_allows_10, List.length_cons, List.length_nil, Nat.reduceLeDiff, Nat.zero_add, iI_add, iI_sub, iI_mul, iI_neg, iI_lt, iI_le, iI_eq, jI_iI, B_True, B_False, B_t, B_f, ck_True, gd_True, cb_v, cb_n, p_mv_rw, p_fv_rw, p_rv_some, pA_1, pA_90, pA_92, pA_3, pA_5, pA_93, pA_4, pA_91, pA_6, pS_i, pB_i, pW_i, pZ_0, pZ_1, pZ_b, bI_e0, u1_s, u1_n, uA_s, uA_n, true_and, and_true, not_true_eq_false, not_false_eq_true, eq_self, iI_z, al1, al5, al3, al4, al90, al91, al92, al93, al6, Int.cast_ofNat_Int, Nat.reduceAdd, Int.reduceNeg, Int.reduceAdd, Int.reduceSub, Int.reduceMul, Int.reduceLT, Int.reduceLE, Int.reduceGT, Int.reduceGE, Int.reduceEq, Int.reduceNe, Nat.reduceEqDiff, Int.zero_add, Int.add_zero, p_ty0, p_ty1, p_ty2, p_ty3, p_ty4, p_ty5, p_ty8, p_ty9, p_ty10, t0, e1, e2, gd_t]
/-- how a position is -/
noncomputable def hw (bb : Int → Int) (t pas q : Int) : Int := @ite _ (m_ply bb t) (Classical.propDecidable _) (if (lgA bb t pas).length = 0 then 3 - bI (m_chk bb t) else if 60 ≤ q then 4 else bI (m_chk bb t)) 5
def pt (h t s : Int) : Int := if h = 2 then (if s = t then 0 else 4) else if h = 3 then (if s = t then 1 else 3) else if h = 4 then 2 else 0
theorem hw_rg : 0 ≤ hw bb t pas q ∧ hw bb t pas q ≤ 5 := by
  have := bI_rg (m_chk bb t)
  unfold hw
  split
  · split
    · omega
    · split <;> omega
  · omega
theorem GK.fr (h : GK M g bb t pas q) (f : FMv M M1 g) (h8 : M1 g 8 = M g 8) (h7 : M1 g 7 = M g 7) (h4 : M1 (g + 4) = M (g + 4)) : GK M1 g bb t pas q := by
  obtain ⟨h1, h2, h3, h4'⟩ := h
  refine ⟨h1.fr (f.1 _ (by omega) (by omega) (by omega) (by omega)) (f.1 _ (by omega) (by omega) (by omega) (by omega)) (f.2 _ (by omega) (by omega) (by omega) (by omega) (by omega)) (f.2 _ (by omega) (by omega) (by omega) (by omega) (by omega)) (f.2 _ (by omega) (by omega) (by omega) (by omega) (by omega)), ?_, h3, h4'⟩
  unfold GL LM
  rw [h8, h7, h4]
  exact h2
theorem c_howItIs (hG : GT T F g) (h : GK M g bb t pas q) : ∃ M', (∀ d, 6 ≤ d → callD d m_X1_howItIs [.ref g] T M F = some (.inl (some (.int (iI (hw bb t pas q)))), T, M', F)) ∧ FMv M M' g ∧ GK M' g bb t pas q := by
  have hS := h.1
  have t0 := hG.2.1
  by_cases hp : m_ply bb t
  · obtain ⟨M', e1, f, l⟩ := c_listK hG h
    refine ⟨M', fun d hd => ?_, f, l.gk⟩
    refine callD_go 5 hd rfl (fun e he => ?_)
    show R e m_X1_howItIs 0 [.val (.ref g), .unset] [] T M F = _
    have hg := hG.1
    have hpl := c_playable (d := e) (T := T) (F := F) hG hS (by omega)
    rw [bI_t hp] at hpl
    have e1 := e1 e he
    have ht := hS.2.2.2.2.1
    have hk : m_king bb t ≠ -1 := by
      rcases ht with rfl | rfl
      · exact hp.1
      · exact hp.2.1
    have hat := c_isAttacked (d := e) (T := T) (F := F) hG l.1.1 (by omega) ht hk
    have hl := l.len
    have s1 := l.1.2.1
    have s2 := l.1.2.2.1
    have h7 := l.2.2.1.1
    have hq := l.1.2.2.2.2.2.1
    rw [show hw bb t pas q = (if (lgA bb t pas).length = 0 then 3 - bI (m_chk bb t) else if 60 ≤ q then 4 else bI (m_chk bb t)) from if_pos hp]
    clear l h hS f
    by_cases c1 : (lgA bb t pas).length = 0 <;> by_cases c2 : m_chk bb t <;> by_cases c3 : 60 ≤ q
    all_goals (first | rw [bI_t c2] at hat ⊢ | rw [bI_f c2] at hat ⊢)
    all_goals (first | rw [if_pos c1] | rw [if_neg c1])
    all_goals (first | rw [if_pos c3] | rw [if_neg c3] | skip)
    all_goals simp (disch := omega) only [x_X1_howItIs_0, x_X1_howItIs_1, x_X1_howItIs_4, x_X1_howItIs_7, x_X1_howItIs_8, x_X1_howItIs_9, x_X1_howItIs_10, x_X1_howItIs_13, x_X1_howItIs_14, x_X1_howItIs_15, x_X1_howItIs_18, x_X1_howItIs_21, x_X1_howItIs_22, x_X1_howItIs_23, x_X1_howItIs_26, x_X1_howItIs_29, x_X1_howItIs_30, x_X1_howItIs_33, x_X1_howItIs_34, x_X1_howItIs_37, x_X1_howItIs_38, x_X1_howItIs_39, x_X1_howItIs_40, x_X1_howItIs_43, x_X1_howItIs_45, x_X1_howItIs_48, x_X1_howItIs_49, x_X1_howItIs_50, x_X1_howItIs_51, x_X1_howItIs_54, x_X1_howItIs_55, x_X1_howItIs_58, x_X1_howItIs_59, List.length_cons, List.length_nil, Nat.reduceLeDiff, Nat.zero_add, iI_add, iI_sub, iI_mul, iI_neg, iI_lt, iI_le, iI_eq, jI_iI, B_True, B_False, B_t, B_f, ck_True, gd_True, cb_v, cb_n, p_mv_rw, p_fv_rw, p_rv_some, pA_1, pA_90, pA_92, pA_3, pA_5, pA_93, pA_4, pA_91, pA_6, pS_i, pB_i, pW_i, pZ_0, pZ_1, pZ_b, bI_e0, u1_s, u1_n, uA_s, uA_n, true_and, and_true, not_true_eq_false, not_false_eq_true, eq_self, iI_z, al1, al5, al3, al4, al90, al91, al92, al93, al6, Int.cast_ofNat_Int, Nat.reduceAdd, Int.reduceNeg, Int.reduceAdd, Int.reduceSub, Int.reduceMul, Int.reduceLT, Int.reduceLE, Int.reduceGT, Int.reduceGE, Int.reduceEq, Int.reduceNe, Nat.reduceEqDiff, Int.zero_add, Int.add_zero, p_ty0, p_ty1, p_ty2, p_ty3, p_ty4, p_ty5, p_ty8, p_ty9, p_ty10, t0, hpl, e1, hat, s1, s2, h7, gd_t, B_t, B_f]
  · refine ⟨M, fun d hd => ?_, FMv.rf, h⟩
    refine callD_go 5 hd rfl (fun e he => ?_)
    show R e m_X1_howItIs 0 [.val (.ref g), .unset] [] T M F = _
    have hpl := c_playable (d := e) (T := T) (F := F) hG hS (by omega)
    rw [bI_f hp] at hpl
    rw [show hw bb t pas q = 5 from if_neg hp]
    clear h hS
    simp (disch := omega) only [x_X1_howItIs_0, x_X1_howItIs_1, x_X1_howItIs_4, x_X1_howItIs_7, x_X1_howItIs_8, List.length_cons, List.length_nil, Nat.reduceLeDiff, Nat.zero_add, iI_add, iI_sub, iI_mul, iI_neg, iI_lt, iI_le, iI_eq, jI_iI, B_True, B_False, B_t, B_f, ck_True, gd_True, cb_v, cb_n, p_mv_rw, p_fv_rw, p_rv_some, pA_1, pA_90, pA_92, pA_3, pA_5, pA_93, pA_4, pA_91, pA_6, pS_i, pB_i, pW_i, pZ_0, pZ_1, pZ_b, bI_e0, u1_s, u1_n, uA_s, uA_n, true_and, and_true, not_true_eq_false, not_false_eq_true, eq_self, iI_z, al1, al5, al3, al4, al90, al91, al92, al93, al6, Int.cast_ofNat_Int, Nat.reduceAdd, Int.reduceNeg, Int.reduceAdd, Int.reduceSub, Int.reduceMul, Int.reduceLT, Int.reduceLE, Int.reduceGT, Int.reduceGE, Int.reduceEq, Int.reduceNe, Nat.reduceEqDiff, Int.zero_add, Int.add_zero, p_ty0, p_ty1, p_ty2, p_ty3, p_ty4, p_ty5, p_ty8, p_ty9, p_ty10, t0, hpl, gd_t, B_t, B_f]
theorem c_pointsOf (hG : GT T F g) (h : GK M g bb t pas q) (hs : s = 0 ∨ s = 1) : ∃ M', (∀ d, 7 ≤ d → callD d m_X1_pointsOf [.ref g, .int (iI s)] T M F = some (.inl (some (.int (iI (pt (hw bb t pas q) t s)))), T, M', F)) ∧ FMv M M' g ∧ GK M' g bb t pas q := by
  obtain ⟨M', e1, f, l⟩ := c_howItIs hG h
  refine ⟨M', fun d hd => ?_, f, l⟩
  refine callD_go 6 hd rfl (fun e he => ?_)
  show R e m_X1_pointsOf 0 [.val (.ref g), .val (.int (iI s))] [] T M F = _
  have t0 := hG.2.1
  have e1 := e1 e he
  have s1 := l.1.2.1
  have hr := hw_rg (bb := bb) (t := t) (pas := pas) (q := q)
  have ht := l.1.2.2.2.2.1
  clear l h f
  generalize hw bb t pas q = hv at *
  have hg := hG.1
  obtain rfl | rfl | rfl | rfl | rfl | rfl : hv = 0 ∨ hv = 1 ∨ hv = 2 ∨ hv = 3 ∨ hv = 4 ∨ hv = 5 := by omega
  all_goals by_cases c1 : s = t
  all_goals (unfold pt; first | rw [if_pos c1] | rw [if_neg c1])
  all_goals simp (disch := omega) only [x_X1_pointsOf_0, x_X1_pointsOf_1, x_X1_pointsOf_4, x_X1_pointsOf_32, x_X1_pointsOf_33, x_X1_pointsOf_34, x_X1_pointsOf_37, x_X1_pointsOf_40, x_X1_pointsOf_41, x_X1_pointsOf_44, x_X1_pointsOf_45, x_X1_pointsOf_46, x_X1_pointsOf_47, x_X1_pointsOf_48, x_X1_pointsOf_51, x_X1_pointsOf_54, x_X1_pointsOf_55, x_X1_pointsOf_58, x_X1_pointsOf_59, x_X1_pointsOf_60, x_X1_pointsOf_61, x_X1_pointsOf_62, x_X1_pointsOf_63, List.length_cons, List.length_nil, Nat.reduceLeDiff, Nat.zero_add, iI_add, iI_sub, iI_mul, iI_neg, iI_lt, iI_le, iI_eq, jI_iI, B_True, B_False, B_t, B_f, ck_True, gd_True, cb_v, cb_n, p_mv_rw, p_fv_rw, p_rv_some, pA_1, pA_90, pA_92, pA_3, pA_5, pA_93, pA_4, pA_91, pA_6, pS_i, pB_i, pW_i, pZ_0, pZ_1, pZ_b, bI_e0, u1_s, u1_n, uA_s, uA_n, true_and, and_true, not_true_eq_false, not_false_eq_true, eq_self, iI_z, al1, al5, al3, al4, al90, al91, al92, al93, al6, Int.cast_ofNat_Int, Nat.reduceAdd, Int.reduceNeg, Int.reduceAdd, Int.reduceSub, Int.reduceMul, Int.reduceLT, Int.reduceLE, Int.reduceGT, Int.reduceGE, Int.reduceEq, Int.reduceNe, Nat.reduceEqDiff, Int.zero_add, Int.add_zero, p_ty0, p_ty1, p_ty2, p_ty3, p_ty4, p_ty5, p_ty8, p_ty9, p_ty10, t0, e1, s1, c1, gd_t, B_t, B_f, ts, if_true, if_false, show ([32, 46, 60] : List Nat).getD (0 : Int).toNat 0 = 32 from rfl, show ([32, 46, 60] : List Nat).getD (1 : Int).toNat 0 = 46 from rfl, show ([32, 46, 60] : List Nat).getD (2 : Int).toNat 0 = 60 from rfl]
end PHOW
