section PTGT
variable {d : Nat} {T : pT} {M M1 : pM} {F : pF} {b g : Nat} {bb : Int → Int} {k s t pas q its to as c x p kc i : Int} {L : List Int}
def TG (M M' : pM) (g : Nat) (L : List Int) : Prop := M' g 10 = L.length ∧ (∀ j : Nat, j < L.length → M' (g + 5) (j : Int) = L.getD j 0) ∧ (∀ j, j ≠ 10 → M' g j = M g j) ∧ (∀ a, a ≠ g → a ≠ g + 5 → M' a = M a)
theorem c_keep (hG : GT T F g) (h : TG M M1 g L) (hL : L.length < 42) (hp : -100000 ≤ p ∧ p ≤ 100000) : ∃ M2, (∀ d, 1 ≤ d → callD d m_X1_keepTarget [.ref g, .int (iI p)] T M1 F = some (.inl none, T, M2, F)) ∧ TG M M2 g (L ++ [p]) := by
  obtain ⟨hg, t0, f0, hB, t3, f4, t4, f6, t5, f9, t6, f11⟩ := hG
  obtain ⟨h1, h2, h3, h4⟩ := h
  have w0 : uA (uA M1 (g + 5) (u1 (M1 (g + 5)) (M1 g 10) p)) g (u1 (M1 g) 10 (M1 g 10 + 1)) g = u1 (M1 g) 10 (M1 g 10 + 1) := uA_s
  have w5 : uA (uA M1 (g + 5) (u1 (M1 (g + 5)) (M1 g 10) p)) g (u1 (M1 g) 10 (M1 g 10 + 1)) (g + 5) = u1 (M1 (g + 5)) (M1 g 10) p := by rw [uA_n (by omega), uA_s]
  refine ⟨uA (uA M1 (g + 5) (u1 (M1 (g + 5)) (M1 g 10) p)) g (u1 (M1 g) 10 (M1 g 10 + 1)), fun d hd => ?_, ?_, fun j hj => ?_, fun j hj => ?_, fun a a1 a2 => ?_⟩
  · refine callD_go 0 hd rfl (fun e he => ?_)
    show R e m_X1_keepTarget 0 [.val (.ref g), .val (.int (iI p))] [] T M1 F = _
    simp (disch := omega) only [x_X1_keepTarget_0, x_X1_keepTarget_1, x_X1_keepTarget_4, x_X1_keepTarget_7, x_X1_keepTarget_8, x_X1_keepTarget_11, x_X1_keepTarget_12, x_X1_keepTarget_15, x_X1_keepTarget_16, x_X1_keepTarget_19, x_X1_keepTarget_20, x_X1_keepTarget_23, x_X1_keepTarget_24, x_X1_keepTarget_27, x_X1_keepTarget_28, x_X1_keepTarget_29, x_X1_keepTarget_30, x_X1_keepTarget_31, x_X1_keepTarget_34, x_X1_keepTarget_35, x_X1_keepTarget_36, x_X1_keepTarget_39, List.length_cons, List.length_nil, Nat.reduceLeDiff, Nat.zero_add, iI_add, iI_sub, iI_mul, iI_neg, iI_lt, iI_le, iI_eq, jI_iI, B_True, B_False, B_t, B_f, ck_True, gd_True, cb_v, cb_n, p_mv_rw, p_fv_rw, p_rv_some, pA_1, pA_90, pA_92, pA_3, pA_5, pA_93, pA_4, pA_91, pA_6, pS_i, pB_i, pW_i, pZ_0, pZ_1, pZ_b, bI_e0, u1_s, u1_n, uA_s, uA_n, true_and, and_true, not_true_eq_false, not_false_eq_true, eq_self, iI_z, al1, al5, al3, al4, al90, al91, al92, al93, al6, Int.cast_ofNat_Int, Nat.reduceAdd, Int.reduceNeg, Int.reduceAdd, Int.reduceSub, Int.reduceMul, Int.reduceLT, Int.reduceLE, Int.reduceGT, Int.reduceGE, Int.reduceEq, Int.reduceNe, Nat.reduceEqDiff, Int.zero_add, Int.add_zero, p_ty0, p_ty1, p_ty2, p_ty3, p_ty4, p_ty5, p_ty8, p_ty9, p_ty10, t0, f9, t5, B_t, B_f]
  · rw [w0, List.length_append, List.length_singleton]
    show M1 g 10 + 1 = _
    rw [h1]; rfl
  · rw [w5]
    unfold u1
    rw [List.length_append, List.length_singleton] at hj
    by_cases e : j = L.length
    · rw [if_pos (by rw [h1, e]), e, List.getD_eq_getElem?_getD, List.getElem?_append_right (Nat.le_refl _)]
      simp
    · rw [if_neg (by rw [h1]; omega), h2 j (by omega), List.getD_eq_getElem?_getD, List.getD_eq_getElem?_getD, List.getElem?_append_left (by omega)]
  · rw [w0]; unfold u1; rw [if_neg hj]; exact h3 j hj
  · rw [uA_n a1, uA_n a2]; exact h4 a a1 a2
theorem TG.RB (h : TG M M1 g L) (hR : RB M (g + 1) bb) : RB M1 (g + 1) bb := by
  show BV (M1 (g + 1 + 1)) ∧ VB (M1 (g + 1 + 1)) bb ∧ MB bb ∧ KR (M1 (g + 1) 1) bb 0 ∧ KR (M1 (g + 1) 2) bb 1
  rw [h.2.2.2 (g + 1) (by omega) (by omega), h.2.2.2 (g + 1 + 1) (by omega) (by omega)]
  exact hR
/-- what is taken as a target -/
def offL (v : Int → Int) (t p : Int) : List Int := if q_on v p ≠ -1 ∧ q_side (q_on v p) ≠ t then [p] else []
theorem offL_len (v : Int → Int) (t p : Int) : (offL v t p).length ≤ 1 := by unfold offL; split <;> simp
theorem c_offer (hG : GT T F g) (hR : RB M (g + 1) bb) (s1 : M g 1 = t) (ht : t = 0 ∨ t = 1) (h : TG M M1 g L) (hL : L.length < 42 ∨ q_on (M (g + 1 + 1)) p = -1) (hp : -100000 ≤ p ∧ p ≤ 100000) : ∃ M2, (∀ d, 2 ≤ d → callD d m_X1_offer [.ref g, .int (iI p)] T M1 F = some (.inl (some (.int (iI (bI (q_on (M (g + 1 + 1)) p = 0))))), T, M2, F)) ∧ TG M M2 g (L ++ offL (M (g + 1 + 1)) t p) := by
  have hG' := hG
  have hR1 := h.RB hR
  obtain ⟨hg, t0, f0, hB, -⟩ := hG
  have hb0 := hB.2.1
  have hv : M1 (g + 1 + 1) = M (g + 1 + 1) := h.2.2.2 _ (by omega) (by omega)
  have m1 : M1 g 1 = t := by rw [h.2.2.1 1 (by omega)]; exact s1
  have hon := q_on_rg hR.1 p
  have hsd := q_side_rg (q_on (M (g + 1 + 1)) p)
  by_cases c1 : q_on (M (g + 1 + 1)) p ≠ -1 ∧ q_side (q_on (M (g + 1 + 1)) p) ≠ t
  · obtain ⟨M2, e2, T2⟩ := c_keep (T := T) (F := F) (p := p) hG' h (hL.resolve_right c1.1) hp
    refine ⟨M2, fun d hd => ?_, by unfold offL; rw [if_pos c1]; exact T2⟩
    refine callD_go 1 hd rfl (fun e he => ?_)
    show R e m_X1_offer 0 [.val (.ref g), .val (.int (iI p)), .unset] [] T M1 F = _
    obtain ⟨c2, c3⟩ := c1
    by_cases c4 : q_on (M (g + 1 + 1)) p = 0
    · rw [bI_t c4]
      simp (disch := omega) only [x_X1_offer_0, x_X1_offer_1, x_X1_offer_4, x_X1_offer_5, x_X1_offer_8, x_X1_offer_9, x_X1_offer_10, x_X1_offer_11, x_X1_offer_14, x_X1_offer_15, x_X1_offer_18, x_X1_offer_19, x_X1_offer_22, x_X1_offer_25, x_X1_offer_26, x_X1_offer_27, x_X1_offer_30, x_X1_offer_31, x_X1_offer_34, x_X1_offer_35, x_X1_offer_38, x_X1_offer_39, List.length_cons, List.length_nil, Nat.reduceLeDiff, Nat.zero_add, iI_add, iI_sub, iI_mul, iI_neg, iI_lt, iI_le, iI_eq, jI_iI, B_True, B_False, B_t, B_f, ck_True, gd_True, cb_v, cb_n, p_mv_rw, p_fv_rw, p_rv_some, pA_1, pA_90, pA_92, pA_3, pA_5, pA_93, pA_4, pA_91, pA_6, pS_i, pB_i, pW_i, pZ_0, pZ_1, pZ_b, bI_e0, u1_s, u1_n, uA_s, uA_n, true_and, and_true, not_true_eq_false, not_false_eq_true, eq_self, iI_z, al1, al5, al3, al4, al90, al91, al92, al93, al6, Int.cast_ofNat_Int, Nat.reduceAdd, Int.reduceNeg, Int.reduceAdd, Int.reduceSub, Int.reduceMul, Int.reduceLT, Int.reduceLE, Int.reduceGT, Int.reduceGE, Int.reduceEq, Int.reduceNe, Nat.reduceEqDiff, Int.zero_add, Int.add_zero, p_ty0, p_ty1, p_ty2, p_ty3, p_ty4, p_ty5, p_ty8, p_ty9, p_ty10, t0, f0, hb0, m1, c_on hB, hv, c_side, e2, B_t, B_f, gd_t]
    · rw [bI_f c4]
      simp (disch := omega) only [x_X1_offer_0, x_X1_offer_1, x_X1_offer_4, x_X1_offer_5, x_X1_offer_8, x_X1_offer_9, x_X1_offer_10, x_X1_offer_11, x_X1_offer_14, x_X1_offer_15, x_X1_offer_18, x_X1_offer_19, x_X1_offer_22, x_X1_offer_25, x_X1_offer_26, x_X1_offer_27, x_X1_offer_30, x_X1_offer_31, x_X1_offer_34, x_X1_offer_35, x_X1_offer_38, x_X1_offer_39, List.length_cons, List.length_nil, Nat.reduceLeDiff, Nat.zero_add, iI_add, iI_sub, iI_mul, iI_neg, iI_lt, iI_le, iI_eq, jI_iI, B_True, B_False, B_t, B_f, ck_True, gd_True, cb_v, cb_n, p_mv_rw, p_fv_rw, p_rv_some, pA_1, pA_90, pA_92, pA_3, pA_5, pA_93, pA_4, pA_91, pA_6, pS_i, pB_i, pW_i, pZ_0, pZ_1, pZ_b, bI_e0, u1_s, u1_n, uA_s, uA_n, true_and, and_true, not_true_eq_false, not_false_eq_true, eq_self, iI_z, al1, al5, al3, al4, al90, al91, al92, al93, al6, Int.cast_ofNat_Int, Nat.reduceAdd, Int.reduceNeg, Int.reduceAdd, Int.reduceSub, Int.reduceMul, Int.reduceLT, Int.reduceLE, Int.reduceGT, Int.reduceGE, Int.reduceEq, Int.reduceNe, Nat.reduceEqDiff, Int.zero_add, Int.add_zero, p_ty0, p_ty1, p_ty2, p_ty3, p_ty4, p_ty5, p_ty8, p_ty9, p_ty10, t0, f0, hb0, m1, c_on hB, hv, c_side, e2, B_t, B_f, gd_t]
  · refine ⟨M1, fun d hd => ?_, by unfold offL; rw [if_neg c1, List.append_nil]; exact h⟩
    refine callD_go 1 hd rfl (fun e he => ?_)
    show R e m_X1_offer 0 [.val (.ref g), .val (.int (iI p)), .unset] [] T M1 F = _
    by_cases c2 : q_on (M (g + 1 + 1)) p = -1
    · rw [bI_f (by omega)]
      simp (disch := omega) only [x_X1_offer_0, x_X1_offer_1, x_X1_offer_4, x_X1_offer_5, x_X1_offer_8, x_X1_offer_9, x_X1_offer_10, x_X1_offer_11, x_X1_offer_14, x_X1_offer_15, x_X1_offer_18, x_X1_offer_19, x_X1_offer_22, x_X1_offer_25, x_X1_offer_26, x_X1_offer_27, x_X1_offer_30, x_X1_offer_31, x_X1_offer_34, x_X1_offer_35, x_X1_offer_38, x_X1_offer_39, List.length_cons, List.length_nil, Nat.reduceLeDiff, Nat.zero_add, iI_add, iI_sub, iI_mul, iI_neg, iI_lt, iI_le, iI_eq, jI_iI, B_True, B_False, B_t, B_f, ck_True, gd_True, cb_v, cb_n, p_mv_rw, p_fv_rw, p_rv_some, pA_1, pA_90, pA_92, pA_3, pA_5, pA_93, pA_4, pA_91, pA_6, pS_i, pB_i, pW_i, pZ_0, pZ_1, pZ_b, bI_e0, u1_s, u1_n, uA_s, uA_n, true_and, and_true, not_true_eq_false, not_false_eq_true, eq_self, iI_z, al1, al5, al3, al4, al90, al91, al92, al93, al6, Int.cast_ofNat_Int, Nat.reduceAdd, Int.reduceNeg, Int.reduceAdd, Int.reduceSub, Int.reduceMul, Int.reduceLT, Int.reduceLE, Int.reduceGT, Int.reduceGE, Int.reduceEq, Int.reduceNe, Nat.reduceEqDiff, Int.zero_add, Int.add_zero, p_ty0, p_ty1, p_ty2, p_ty3, p_ty4, p_ty5, p_ty8, p_ty9, p_ty10, t0, f0, hb0, m1, c_on hB, hv, c_side, B_t, B_f, gd_t]
    · have c3 : q_side (q_on (M (g + 1 + 1)) p) = t := Classical.byContradiction (fun z => c1 ⟨c2, z⟩)
      have c4 : q_on (M (g + 1 + 1)) p ≠ 0 := by intro z; rw [z] at c3; unfold q_side at c3; simp at c3; omega
      rw [bI_f c4]
      simp (disch := omega) only [x_X1_offer_0, x_X1_offer_1, x_X1_offer_4, x_X1_offer_5, x_X1_offer_8, x_X1_offer_9, x_X1_offer_10, x_X1_offer_11, x_X1_offer_14, x_X1_offer_15, x_X1_offer_18, x_X1_offer_19, x_X1_offer_22, x_X1_offer_25, x_X1_offer_26, x_X1_offer_27, x_X1_offer_30, x_X1_offer_31, x_X1_offer_34, x_X1_offer_35, x_X1_offer_38, x_X1_offer_39, List.length_cons, List.length_nil, Nat.reduceLeDiff, Nat.zero_add, iI_add, iI_sub, iI_mul, iI_neg, iI_lt, iI_le, iI_eq, jI_iI, B_True, B_False, B_t, B_f, ck_True, gd_True, cb_v, cb_n, p_mv_rw, p_fv_rw, p_rv_some, pA_1, pA_90, pA_92, pA_3, pA_5, pA_93, pA_4, pA_91, pA_6, pS_i, pB_i, pW_i, pZ_0, pZ_1, pZ_b, bI_e0, u1_s, u1_n, uA_s, uA_n, true_and, and_true, not_true_eq_false, not_false_eq_true, eq_self, iI_z, al1, al5, al3, al4, al90, al91, al92, al93, al6, Int.cast_ofNat_Int, Nat.reduceAdd, Int.reduceNeg, Int.reduceAdd, Int.reduceSub, Int.reduceMul, Int.reduceLT, Int.reduceLE, Int.reduceGT, Int.reduceGE, Int.reduceEq, Int.reduceNe, Nat.reduceEqDiff, Int.zero_add, Int.add_zero, p_ty0, p_ty1, p_ty2, p_ty3, p_ty4, p_ty5, p_ty8, p_ty9, p_ty10, t0, f0, hb0, m1, c_on hB, hv, c_side, B_t, B_f, gd_t]
/-- a slide's targets -/
def slP (v : Int → Int) (t st : Int) : Nat → Int → List Int
  | 0, _ => []
  | n + 1, p => offL v t p ++ (if q_on v p = 0 then slP v t st n (p + st) else [])
def slN (v : Int → Int) (st : Int) : Nat → Int → Nat
  | 0, _ => 0
  | n + 1, p => if q_on v p = -1 then 0 else 1 + (if q_on v p = 0 then slN v st n (p + st) else 0)
theorem slP_len (v : Int → Int) (t st : Int) : ∀ (n : Nat) (p : Int), (slP v t st n p).length ≤ slN v st n p
  | 0, p => Nat.le_refl _
  | n + 1, p => by
    unfold slP slN
    have h1 := offL_len v t p
    have h2 := slP_len v t st n (p + st)
    rw [List.length_append]
    by_cases c : q_on v p = -1
    · rw [if_pos c, if_neg (by omega)]
      have : offL v t p = [] := by unfold offL; rw [if_neg (fun z => z.1 c)]
      rw [this]; simp
    · rw [if_neg c]
      split <;> simp <;> omega
/-- one slide of the loop -/
theorem c_slide {A : Nat} {v0 kd en rc ix st : Int} (hA : A = 2 ∨ A = 3) (hG : GT T F g) (hR : RB M (g + 1) bb) (s1 : M g 1 = t) (ht : t = 0 ∨ t = 1) (hix : 0 ≤ ix ∧ ix < 12) (hst : p_roM A ix = st) (hs50 : -50 ≤ st ∧ st ≤ 50) (hrc : 0 ≤ rc ∧ rc ≤ 17) {l1 : Slot} :
    ∀ (n : Nat) (k p : Int) (M1 : pM) (L : List Int), k = rc - (n : Int) → 0 ≤ k → (-10000 ≤ p - 50 * n ∧ p + 50 * n ≤ 10000) → TG M M1 g L → L.length + slN (M (g + 1 + 1)) st n p ≤ 42 →
      ∃ M2 l8 l9, (∀ e, 2 ≤ e → R e m_X1_gatherTargets 92 [.val (.ref g), l1, .val (.int (iI v0)), .val (.int (iI kd)), .val (.ref A), .val (.int (iI en)), .val (.int (iI rc)), .val (.int (iI ix)), .val (.int (iI p)), .val (.int (iI k))] [] T M1 F = R e m_X1_gatherTargets 124 [.val (.ref g), l1, .val (.int (iI v0)), .val (.int (iI kd)), .val (.ref A), .val (.int (iI en)), .val (.int (iI rc)), .val (.int (iI ix)), l8, l9] [] T M2 F) ∧ TG M M2 g (L ++ slP (M (g + 1 + 1)) t st n p) := by
  intro n
  induction n with
  | zero =>
    intro k p M1 L hk h0 hp h hl
    refine ⟨M1, .val (.int (iI p)), .val (.int (iI k)), fun e he => ?_, by unfold slP; rw [List.append_nil]; exact h⟩
    simp (disch := omega) only [x_X1_gatherTargets_92, x_X1_gatherTargets_94, x_X1_gatherTargets_96, x_X1_gatherTargets_99, x_X1_gatherTargets_100, x_X1_gatherTargets_102, x_X1_gatherTargets_105, x_X1_gatherTargets_108, x_X1_gatherTargets_110, x_X1_gatherTargets_112, x_X1_gatherTargets_114, x_X1_gatherTargets_115, x_X1_gatherTargets_116, x_X1_gatherTargets_118, x_X1_gatherTargets_121, List.length_cons, List.length_nil, Nat.reduceLeDiff, Nat.zero_add, iI_add, iI_sub, iI_mul, iI_neg, iI_lt, iI_le, iI_eq, jI_iI, B_True, B_False, B_t, B_f, ck_True, gd_True, cb_v, cb_n, p_mv_rw, p_fv_rw, p_rv_some, pA_1, pA_90, pA_92, pA_3, pA_5, pA_93, pA_4, pA_91, pA_6, pS_i, pB_i, pW_i, pZ_0, pZ_1, pZ_b, bI_e0, u1_s, u1_n, uA_s, uA_n, true_and, and_true, not_true_eq_false, not_false_eq_true, eq_self, iI_z, al1, al5, al3, al4, al90, al91, al92, al93, al6, Int.cast_ofNat_Int, Nat.reduceAdd, Int.reduceNeg, Int.reduceAdd, Int.reduceSub, Int.reduceMul, Int.reduceLT, Int.reduceLE, Int.reduceGT, Int.reduceGE, Int.reduceEq, Int.reduceNe, Nat.reduceEqDiff, Int.zero_add, Int.add_zero, p_ty0, p_ty1, p_ty2, p_ty3, p_ty4, p_ty5, p_ty8, p_ty9, p_ty10, B_t, B_f]
  | succ n ih =>
    intro k p M1 L hk h0 hp h hl
    have hG' := hG
    obtain ⟨hg, t0, f0, hB, -⟩ := hG
    rw [slN] at hl
    obtain ⟨M2, e2, T2⟩ := c_offer (T := T) (F := F) (p := p) hG' hR s1 ht h (by
      by_cases c : q_on (M (g + 1 + 1)) p = -1
      · exact Or.inr c
      · rw [if_neg c] at hl; left; omega) (by omega)
    by_cases c0 : q_on (M (g + 1 + 1)) p = 0
    · rw [if_neg (by omega), if_pos c0] at hl
      have ho := offL_len (M (g + 1 + 1)) t p
      obtain ⟨M3, l8, l9, e3, T3⟩ := ih (k + 1) (p + st) M2 _ (by omega) (by omega) (by omega) T2 (by rw [List.length_append]; omega)
      refine ⟨M3, l8, l9, fun e he => ?_, by rw [slP, if_pos c0, ← List.append_assoc]; exact T3⟩
      rw [← e3 e he, x_X1_gatherTargets_92]
      clear hR ih e3 T3 h T2
      rcases hA with rfl | rfl
      · simp (disch := omega) only [x_X1_gatherTargets_94, x_X1_gatherTargets_96, x_X1_gatherTargets_99, x_X1_gatherTargets_100, x_X1_gatherTargets_102, x_X1_gatherTargets_105, x_X1_gatherTargets_108, x_X1_gatherTargets_110, x_X1_gatherTargets_112, x_X1_gatherTargets_114, x_X1_gatherTargets_115, x_X1_gatherTargets_116, x_X1_gatherTargets_118, x_X1_gatherTargets_121, List.length_cons, List.length_nil, Nat.reduceLeDiff, Nat.zero_add, iI_add, iI_sub, iI_mul, iI_neg, iI_lt, iI_le, iI_eq, jI_iI, B_True, B_False, B_t, B_f, ck_True, gd_True, cb_v, cb_n, p_mv_rw, p_fv_rw, p_rv_some, pA_1, pA_90, pA_92, pA_3, pA_5, pA_93, pA_4, pA_91, pA_6, pS_i, pB_i, pW_i, pZ_0, pZ_1, pZ_b, bI_e0, u1_s, u1_n, uA_s, uA_n, true_and, and_true, not_true_eq_false, not_false_eq_true, eq_self, iI_z, al1, al5, al3, al4, al90, al91, al92, al93, al6, Int.cast_ofNat_Int, Nat.reduceAdd, Int.reduceNeg, Int.reduceAdd, Int.reduceSub, Int.reduceMul, Int.reduceLT, Int.reduceLE, Int.reduceGT, Int.reduceGE, Int.reduceEq, Int.reduceNe, Nat.reduceEqDiff, Int.zero_add, Int.add_zero, p_ty0, p_ty1, p_ty2, p_ty3, p_ty4, p_ty5, p_ty8, p_ty9, p_ty10, t0, e2, bI_t c0, p_mv_ro, hst, B_t, B_f, gd_t]
      · simp (disch := omega) only [x_X1_gatherTargets_94, x_X1_gatherTargets_96, x_X1_gatherTargets_99, x_X1_gatherTargets_100, x_X1_gatherTargets_102, x_X1_gatherTargets_105, x_X1_gatherTargets_108, x_X1_gatherTargets_110, x_X1_gatherTargets_112, x_X1_gatherTargets_114, x_X1_gatherTargets_115, x_X1_gatherTargets_116, x_X1_gatherTargets_118, x_X1_gatherTargets_121, List.length_cons, List.length_nil, Nat.reduceLeDiff, Nat.zero_add, iI_add, iI_sub, iI_mul, iI_neg, iI_lt, iI_le, iI_eq, jI_iI, B_True, B_False, B_t, B_f, ck_True, gd_True, cb_v, cb_n, p_mv_rw, p_fv_rw, p_rv_some, pA_1, pA_90, pA_92, pA_3, pA_5, pA_93, pA_4, pA_91, pA_6, pS_i, pB_i, pW_i, pZ_0, pZ_1, pZ_b, bI_e0, u1_s, u1_n, uA_s, uA_n, true_and, and_true, not_true_eq_false, not_false_eq_true, eq_self, iI_z, al1, al5, al3, al4, al90, al91, al92, al93, al6, Int.cast_ofNat_Int, Nat.reduceAdd, Int.reduceNeg, Int.reduceAdd, Int.reduceSub, Int.reduceMul, Int.reduceLT, Int.reduceLE, Int.reduceGT, Int.reduceGE, Int.reduceEq, Int.reduceNe, Nat.reduceEqDiff, Int.zero_add, Int.add_zero, p_ty0, p_ty1, p_ty2, p_ty3, p_ty4, p_ty5, p_ty8, p_ty9, p_ty10, t0, e2, bI_t c0, p_mv_ro, hst, B_t, B_f, gd_t]
    · refine ⟨M2, .val (.int (iI p)), .val (.int (iI k)), fun e he => ?_, by rw [slP, if_neg c0, List.append_nil]; exact T2⟩
      rw [x_X1_gatherTargets_92]
      clear hR ih h T2
      simp (disch := omega) only [x_X1_gatherTargets_94, x_X1_gatherTargets_96, x_X1_gatherTargets_99, x_X1_gatherTargets_100, x_X1_gatherTargets_102, x_X1_gatherTargets_105, x_X1_gatherTargets_108, x_X1_gatherTargets_110, x_X1_gatherTargets_112, x_X1_gatherTargets_114, x_X1_gatherTargets_115, x_X1_gatherTargets_116, x_X1_gatherTargets_118, x_X1_gatherTargets_121, List.length_cons, List.length_nil, Nat.reduceLeDiff, Nat.zero_add, iI_add, iI_sub, iI_mul, iI_neg, iI_lt, iI_le, iI_eq, jI_iI, B_True, B_False, B_t, B_f, ck_True, gd_True, cb_v, cb_n, p_mv_rw, p_fv_rw, p_rv_some, pA_1, pA_90, pA_92, pA_3, pA_5, pA_93, pA_4, pA_91, pA_6, pS_i, pB_i, pW_i, pZ_0, pZ_1, pZ_b, bI_e0, u1_s, u1_n, uA_s, uA_n, true_and, and_true, not_true_eq_false, not_false_eq_true, eq_self, iI_z, al1, al5, al3, al4, al90, al91, al92, al93, al6, Int.cast_ofNat_Int, Nat.reduceAdd, Int.reduceNeg, Int.reduceAdd, Int.reduceSub, Int.reduceMul, Int.reduceLT, Int.reduceLE, Int.reduceGT, Int.reduceGE, Int.reduceEq, Int.reduceNe, Nat.reduceEqDiff, Int.zero_add, Int.add_zero, p_ty0, p_ty1, p_ty2, p_ty3, p_ty4, p_ty5, p_ty8, p_ty9, p_ty10, t0, e2, bI_f c0, B_t, B_f, gd_t]
end PTGT
