section PCNU
variable {d : Nat} {T : pT} {M M0 M1 M2 : pM} {F : pF} {b g : Nat} {bb v w : Int → Int} {k s t pas q its to as c x p kc i acc en : Int} {A Z P L Q : List Int} {n : Nat}
/-- what counting leaves alone -/
def FCn (M M' : pM) (g : Nat) : Prop := (∀ a, a ≠ g → a ≠ g + 5 → a ≠ g + 6 → M' a = M a) ∧ (∀ j, j ≠ 10 → j ≠ 12 → j ≠ 13 → M' g j = M g j)
/-- the state of counting -/
def CI (M0 : pM) (g : Nat) (bb : Int → Int) (t pas q : Int) (M : pM) : Prop := GS M g bb t pas q ∧ PN M g bb t (m_king bb t) 12 ∧ M g 13 = bI (m_chk bb t) ∧ FCn M0 M g
theorem CI.tg (h : CI M0 g bb t pas q M) (ht : TG M M1 g L) : CI M0 g bb t pas q M1 := by
  obtain ⟨h1, h2, h3, h4⟩ := h
  obtain ⟨-, -, t3, t4⟩ := ht
  refine ⟨h1.fr (t4 _ (by omega) (by omega)) (t4 _ (by omega) (by omega)) (t3 _ (by omega)) (t3 _ (by omega)) (t3 _ (by omega)), ?_, ?_, ?_, ?_⟩
  · unfold PN; rw [t3 12 (by omega), t4 (g + 6) (by omega) (by omega)]; exact h2
  · rw [t3 13 (by omega)]; exact h3
  · intro a a1 a2 a3; exact (t4 a a1 a2).trans (h4.1 a a1 a2 a3)
  · intro j j1 j2 j3; exact (t3 j j1).trans (h4.2 j j1 j2 j3)
theorem cm_out (hG : GT T F g) (hq : q ≤ 190) (hk : m_king bb t ≠ -1) (hen : 1 ≤ en ∧ en ≤ 840) : ∀ (m : Nat) (i : Int) (l4 l5 : Slot) (n : Nat) (M : pM), i + m = 91 → 0 ≤ i → (n : Int) ≤ 42 * i → CI M0 g bb t pas q M →
    ∃ M', (∀ e, 4 ≤ e → R e m_X1_countMoves 8 [.val (.ref g), .val (.int (iI en)), .val (.int (iI (n : Int))), .val (.int (iI i)), l4, l5] [] T M F = some (.inl (some (.int (iI (if en < ((n + (lgL bb t pas m i).length : Nat) : Int) then en else ((n + (lgL bb t pas m i).length : Nat) : Int))))), T, M', F)) ∧ CI M0 g bb t pas q M' := by
  intro m
  induction m with
  | zero =>
    intro i l4 l5 n M hi h0 hn hI
    obtain rfl : i = 91 := by omega
    refine ⟨M, fun e he => ?_, hI⟩
    have hmin := y_min (d := e) (T := T) (M := M) (F := F) (a := n) (n := en) (by omega) (by omega) (by omega)
    rw [lgL, List.length_nil, Nat.add_zero]
    clear hI
    simp (disch := omega) only [x_X1_countMoves_8, x_X1_countMoves_9, x_X1_countMoves_11, x_X1_countMoves_84, x_X1_countMoves_85, x_X1_countMoves_86, x_X1_countMoves_89, List.length_cons, List.length_nil, Nat.reduceLeDiff, Nat.zero_add, iI_add, iI_sub, iI_mul, iI_neg, iI_lt, iI_le, iI_eq, jI_iI, B_True, B_False, B_t, B_f, ck_True, gd_True, cb_v, cb_n, p_mv_rw, p_fv_rw, p_rv_some, pA_1, pA_90, pA_92, pA_3, pA_5, pA_93, pA_4, pA_91, pA_6, pS_i, pB_i, pW_i, pZ_0, pZ_1, pZ_b, bI_e0, u1_s, u1_n, uA_s, uA_n, true_and, and_true, not_true_eq_false, not_false_eq_true, eq_self, iI_z, al1, al5, al3, al4, al90, al91, al92, al93, al6, Int.cast_ofNat_Int, Nat.reduceAdd, Int.reduceNeg, Int.reduceAdd, Int.reduceSub, Int.reduceMul, Int.reduceLT, Int.reduceLE, Int.reduceGT, Int.reduceGE, Int.reduceEq, Int.reduceNe, Nat.reduceEqDiff, Int.zero_add, Int.add_zero, p_ty0, p_ty1, p_ty2, p_ty3, p_ty4, p_ty5, p_ty8, p_ty9, p_ty10, hmin]
  | succ m ih =>
    intro i l4 l5 n M hi h0 hn hI
    by_cases hne : en ≤ n
    · refine ⟨M, fun e he => ?_, hI⟩
      have hmin := y_min (d := e) (T := T) (M := M) (F := F) (a := n) (n := en) (by omega) (by omega) (by omega)
      have e1 : (if en < (n : Int) then en else (n : Int)) = en := by split <;> omega
      have e2 : (if en < ((n + (lgL bb t pas (m + 1) i).length : Nat) : Int) then en else ((n + (lgL bb t pas (m + 1) i).length : Nat) : Int)) = en := by split <;> omega
      rw [e1] at hmin
      rw [e2]
      clear hI e1 e2 ih
      simp (disch := omega) only [x_X1_countMoves_8, x_X1_countMoves_9, x_X1_countMoves_11, x_X1_countMoves_14, x_X1_countMoves_15, x_X1_countMoves_16, x_X1_countMoves_84, x_X1_countMoves_85, x_X1_countMoves_86, x_X1_countMoves_89, List.length_cons, List.length_nil, Nat.reduceLeDiff, Nat.zero_add, iI_add, iI_sub, iI_mul, iI_neg, iI_lt, iI_le, iI_eq, jI_iI, B_True, B_False, B_t, B_f, ck_True, gd_True, cb_v, cb_n, p_mv_rw, p_fv_rw, p_rv_some, pA_1, pA_90, pA_92, pA_3, pA_5, pA_93, pA_4, pA_91, pA_6, pS_i, pB_i, pW_i, pZ_0, pZ_1, pZ_b, bI_e0, u1_s, u1_n, uA_s, uA_n, true_and, and_true, not_true_eq_false, not_false_eq_true, eq_self, iI_z, al1, al5, al3, al4, al90, al91, al92, al93, al6, Int.cast_ofNat_Int, Nat.reduceAdd, Int.reduceNeg, Int.reduceAdd, Int.reduceSub, Int.reduceMul, Int.reduceLT, Int.reduceLE, Int.reduceGT, Int.reduceGE, Int.reduceEq, Int.reduceNe, Nat.reduceEqDiff, Int.zero_add, Int.add_zero, p_ty0, p_ty1, p_ty2, p_ty3, p_ty4, p_ty5, p_ty8, p_ty9, p_ty10, hmin]
    · have hi91 : 0 ≤ i ∧ i < 91 := by omega
      obtain ⟨hR, s1, s2, s3, ht, s5, hp⟩ := hI.1
      have hb := hR.2.2.1
      have hps := hI.1.PS
      obtain ⟨M1, e1, T1⟩ := c_gather (T := T) (F := F) hG hI.1 hi91
      obtain ⟨gn1, gn2⟩ := gaL_ok hR.2.1 hb ht hps hi91
      have hI1 := hI.tg T1
      have hcl := cSn_gaL hR.2.1 hb ht hps hi91
      have hcn := cSn_len (bb := bb) (t := t) (pas := pas) (its := i) (gaL (M (g + 1 + 1)) bb t pas i)
      obtain ⟨M', e4, I4⟩ := ih (i + 1) (.val (.int (iI (q_pl i)))) (.val (.int (iI ((gaL (M (g + 1 + 1)) bb t pas i).length : Int)))) (n + (lgC bb t pas i).length) M1 (by omega) (by omega) (by omega) hI1
      refine ⟨M', fun e he => ?_, I4⟩
      have e4 := e4 e he
      have e1 := e1 e he
      have e3 := cm_in (e := e) (T := T) (F := F) (en := en) hG hI1.1 hq hk hI1.2.2.1 hI1.2.1 hi91 hen (Z := gaL (M (g + 1 + 1)) bb t pas i) (fun x hx => (gaL_mem hR.2.1 hb ht hps hi91).mp hx) gn2 T1.1 T1.2.1 he (gaL (M (g + 1 + 1)) bb t pas i) [] n (List.nil_append _) (by omega)
      rw [hcl] at e3
      rw [lgL, List.length_append, List.length_map, ← Nat.add_assoc, ← e4, ← e3]
      have hpl := c_placeOf (d := e) (T := T) (M := M) (F := F) (k := i) (by omega) (by omega)
      have hqi := q_pl_nn hi91
      have t0 := hG.2.1
      have hg := hG.1
      clear e3 e4 ih hI hI1 T1 gn1 gn2 hR hb hps hp hcl hcn I4
      simp (disch := omega) only [x_X1_countMoves_8, x_X1_countMoves_9, x_X1_countMoves_11, x_X1_countMoves_14, x_X1_countMoves_15, x_X1_countMoves_16, x_X1_countMoves_19, x_X1_countMoves_20, x_X1_countMoves_23, x_X1_countMoves_25, x_X1_countMoves_26, x_X1_countMoves_28, x_X1_countMoves_31, x_X1_countMoves_32, List.length_cons, List.length_nil, Nat.reduceLeDiff, Nat.zero_add, iI_add, iI_sub, iI_mul, iI_neg, iI_lt, iI_le, iI_eq, jI_iI, B_True, B_False, B_t, B_f, ck_True, gd_True, cb_v, cb_n, p_mv_rw, p_fv_rw, p_rv_some, pA_1, pA_90, pA_92, pA_3, pA_5, pA_93, pA_4, pA_91, pA_6, pS_i, pB_i, pW_i, pZ_0, pZ_1, pZ_b, bI_e0, u1_s, u1_n, uA_s, uA_n, true_and, and_true, not_true_eq_false, not_false_eq_true, eq_self, iI_z, al1, al5, al3, al4, al90, al91, al92, al93, al6, Int.cast_ofNat_Int, Nat.reduceAdd, Int.reduceNeg, Int.reduceAdd, Int.reduceSub, Int.reduceMul, Int.reduceLT, Int.reduceLE, Int.reduceGT, Int.reduceGE, Int.reduceEq, Int.reduceNe, Nat.reduceEqDiff, Int.zero_add, Int.add_zero, p_ty0, p_ty1, p_ty2, p_ty3, p_ty4, p_ty5, p_ty8, p_ty9, p_ty10, t0, gd_t, hpl, e1]
theorem c_countMoves (hG : GT T F g) (hS : GS M g bb t pas q) (hq : q ≤ 190) (hk : m_king bb t ≠ -1) (hen : 1 ≤ en ∧ en ≤ 840) : ∃ M', (∀ d, 5 ≤ d → callD d m_X1_countMoves [.ref g, .int (iI en)] T M F = some (.inl (some (.int (iI (if en < ((lgL bb t pas 91 0).length : Int) then en else ((lgL bb t pas 91 0).length : Int))))), T, M', F)) ∧ GS M' g bb t pas q ∧ FCn M M' g := by
  obtain ⟨M2, e2, n13, pn, n1, n2⟩ := c_look (T := T) (F := F) hG hS hk
  have I2 : CI M g bb t pas q M2 := ⟨hS.fr (n2 _ (by omega) (by omega)) (n2 _ (by omega) (by omega)) (n1 _ (by omega) (by omega)) (n1 _ (by omega) (by omega)) (n1 _ (by omega) (by omega)), pn, n13, fun a a1 a2 a3 => n2 a a1 a3, fun j j1 j2 j3 => n1 j j2 j3⟩
  obtain ⟨M3, e3, I3⟩ := cm_out (T := T) (F := F) (M0 := M) hG hq hk hen 91 0 .unset .unset 0 M2 (by omega) (by omega) (by omega) I2
  refine ⟨M3, fun d hd => ?_, I3.1, I3.2.2.2⟩
  refine callD_go 4 hd rfl (fun e he => ?_)
  show R e m_X1_countMoves 0 [.val (.ref g), .val (.int (iI en)), .unset, .unset, .unset, .unset] [] T M F = _
  have e2 := e2 e (by omega)
  have e3 := e3 e he
  rw [Nat.zero_add] at e3
  rw [← e3]
  have t0 := hG.2.1
  have hg := hG.1
  clear e3 I3 I2 pn hS
  simp (disch := omega) only [x_X1_countMoves_0, x_X1_countMoves_1, x_X1_countMoves_4, x_X1_countMoves_5, x_X1_countMoves_6, x_X1_countMoves_7, List.length_cons, List.length_nil, Nat.reduceLeDiff, Nat.zero_add, iI_add, iI_sub, iI_mul, iI_neg, iI_lt, iI_le, iI_eq, jI_iI, B_True, B_False, B_t, B_f, ck_True, gd_True, cb_v, cb_n, p_mv_rw, p_fv_rw, p_rv_some, pA_1, pA_90, pA_92, pA_3, pA_5, pA_93, pA_4, pA_91, pA_6, pS_i, pB_i, pW_i, pZ_0, pZ_1, pZ_b, bI_e0, u1_s, u1_n, uA_s, uA_n, true_and, and_true, not_true_eq_false, not_false_eq_true, eq_self, iI_z, al1, al5, al3, al4, al90, al91, al92, al93, al6, Int.cast_ofNat_Int, Nat.reduceAdd, Int.reduceNeg, Int.reduceAdd, Int.reduceSub, Int.reduceMul, Int.reduceLT, Int.reduceLE, Int.reduceGT, Int.reduceGE, Int.reduceEq, Int.reduceNe, Nat.reduceEqDiff, Int.zero_add, Int.add_zero, p_ty0, p_ty1, p_ty2, p_ty3, p_ty4, p_ty5, p_ty8, p_ty9, p_ty10, t0, gd_t, e2]
end PCNU
