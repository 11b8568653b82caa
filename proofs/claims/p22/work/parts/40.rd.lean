section PRD
variable {d : Nat} {T : pT} {M M0 M1 : pM} {F : pF} {b g : Nat} {bb v : Int → Int} {k s t pas q its to as c x p kc i acc : Int} {A Z P L : List Int}
/-- a game's state with its list -/
def GK (M : pM) (g : Nat) (bb : Int → Int) (t pas q : Int) : Prop := GS M g bb t pas q ∧ GL M g bb t pas ∧ P20 bb ∧ q ≤ 60
/-- the state behind a listing -/
def GKL (M : pM) (g : Nat) (bb : Int → Int) (t pas q : Int) : Prop := GS M g bb t pas q ∧ M g 8 = 1 ∧ LM M g (lgA bb t pas) ∧ P20 bb ∧ q ≤ 60
theorem GKL.gk (h : GKL M g bb t pas q) : GK M g bb t pas q := ⟨h.1, Or.inr ⟨h.2.1, h.2.2.1⟩, h.2.2.2.1, h.2.2.2.2⟩
theorem GKL.len (h : GKL M g bb t pas q) : (lgA bb t pas).length ≤ 840 := lgA_len h.1.1.2.1 h.1.1.2.2.1 h.1.2.2.2.2.1 h.1.PS h.2.2.2.1
theorem FMv.rf : FMv M M g := ⟨fun _ _ _ _ _ => rfl, fun _ _ _ _ _ _ => rfl⟩
noncomputable def lgQ (bb : Int → Int) (t pas q : Int) : List Int := if 60 ≤ q then [] else lgA bb t pas
theorem lgQ_len (h : (lgA bb t pas).length ≤ 840) : (lgQ bb t pas q).length ≤ 840 := by
  unfold lgQ; split
  · exact Nat.zero_le _
  · exact h
theorem c_listK (hG : GT T F g) (h : GK M g bb t pas q) : ∃ M', (∀ d, 5 ≤ d → callD d m_X1_listMoves [.ref g] T M F = some (.inl none, T, M', F)) ∧ FMv M M' g ∧ GKL M' g bb t pas q := by
  obtain ⟨h1, h2, h3, h4⟩ := h
  obtain ⟨M', e, f, l1, l2⟩ := c_listMoves hG h1 h2 (by omega) h3
  refine ⟨M', e, f, h1.fr (f.1 _ (by omega) (by omega) (by omega) (by omega)) (f.1 _ (by omega) (by omega) (by omega) (by omega)) (f.2 _ (by omega) (by omega) (by omega) (by omega) (by omega)) (f.2 _ (by omega) (by omega) (by omega) (by omega) (by omega)) (f.2 _ (by omega) (by omega) (by omega) (by omega) (by omega)), l1, l2, h3, h4⟩
theorem c_openMoves (hG : GT T F g) (h : GKL M g bb t pas q) (hd : 1 ≤ d) : callD d m_X1_openMoves [.ref g] T M F = some (.inl (some (.int (iI ((lgQ bb t pas q).length : Int)))), T, M, F) := by
  refine callD_go 0 hd rfl (fun e he => ?_)
  show R e m_X1_openMoves 0 [.val (.ref g)] [] T M F = _
  have s2 := h.1.2.2.1
  have h7 := h.2.2.1.1
  have hl := h.len
  have hq := h.1.2.2.2.2.2.1
  obtain ⟨hg, t0, f0, hB, -⟩ := hG
  clear h
  unfold lgQ
  by_cases c : 60 ≤ q
  · rw [if_pos c]
    simp (disch := omega) only [x_X1_openMoves_0, x_X1_openMoves_1, x_X1_openMoves_4, x_X1_openMoves_6, x_X1_openMoves_9, x_X1_openMoves_10, x_X1_openMoves_13, x_X1_openMoves_14, x_X1_openMoves_17, List.length_cons, List.length_nil, Nat.reduceLeDiff, Nat.zero_add, iI_add, iI_sub, iI_mul, iI_neg, iI_lt, iI_le, iI_eq, jI_iI, B_True, B_False, B_t, B_f, ck_True, gd_True, cb_v, cb_n, p_mv_rw, p_fv_rw, p_rv_some, pA_1, pA_90, pA_92, pA_3, pA_5, pA_93, pA_4, pA_91, pA_6, pS_i, pB_i, pW_i, pZ_0, pZ_1, pZ_b, bI_e0, u1_s, u1_n, uA_s, uA_n, true_and, and_true, not_true_eq_false, not_false_eq_true, eq_self, iI_z, al1, al5, al3, al4, al90, al91, al92, al93, al6, Int.cast_ofNat_Int, Nat.reduceAdd, Int.reduceNeg, Int.reduceAdd, Int.reduceSub, Int.reduceMul, Int.reduceLT, Int.reduceLE, Int.reduceGT, Int.reduceGE, Int.reduceEq, Int.reduceNe, Nat.reduceEqDiff, Int.zero_add, Int.add_zero, p_ty0, p_ty1, p_ty2, p_ty3, p_ty4, p_ty5, p_ty8, p_ty9, p_ty10, t0, s2, h7, gd_t]
  · rw [if_neg c]
    simp (disch := omega) only [x_X1_openMoves_0, x_X1_openMoves_1, x_X1_openMoves_4, x_X1_openMoves_6, x_X1_openMoves_9, x_X1_openMoves_10, x_X1_openMoves_13, x_X1_openMoves_14, x_X1_openMoves_17, List.length_cons, List.length_nil, Nat.reduceLeDiff, Nat.zero_add, iI_add, iI_sub, iI_mul, iI_neg, iI_lt, iI_le, iI_eq, jI_iI, B_True, B_False, B_t, B_f, ck_True, gd_True, cb_v, cb_n, p_mv_rw, p_fv_rw, p_rv_some, pA_1, pA_90, pA_92, pA_3, pA_5, pA_93, pA_4, pA_91, pA_6, pS_i, pB_i, pW_i, pZ_0, pZ_1, pZ_b, bI_e0, u1_s, u1_n, uA_s, uA_n, true_and, and_true, not_true_eq_false, not_false_eq_true, eq_self, iI_z, al1, al5, al3, al4, al90, al91, al92, al93, al6, Int.cast_ofNat_Int, Nat.reduceAdd, Int.reduceNeg, Int.reduceAdd, Int.reduceSub, Int.reduceMul, Int.reduceLT, Int.reduceLE, Int.reduceGT, Int.reduceGE, Int.reduceEq, Int.reduceNe, Nat.reduceEqDiff, Int.zero_add, Int.add_zero, p_ty0, p_ty1, p_ty2, p_ty3, p_ty4, p_ty5, p_ty8, p_ty9, p_ty10, t0, s2, h7, gd_t]
theorem c_moveCount (hG : GT T F g) (h : GK M g bb t pas q) : ∃ M', (∀ d, 6 ≤ d → callD d m_X1_moveCount [.ref g] T M F = some (.inl (some (.int (iI ((lgQ bb t pas q).length : Int)))), T, M', F)) ∧ FMv M M' g ∧ GKL M' g bb t pas q := by
  obtain ⟨M', e1, f, l⟩ := c_listK hG h
  refine ⟨M', fun d hd => ?_, f, l⟩
  refine callD_go 5 hd rfl (fun e he => ?_)
  show R e m_X1_moveCount 0 [.val (.ref g)] [] T M F = _
  have e1 := e1 e he
  have e2 := c_openMoves (d := e) (T := T) (F := F) hG l (by omega)
  have t0 := hG.2.1
  clear h l f
  simp (disch := omega) only [x_X1_moveCount_0, x_X1_moveCount_1, x_X1_moveCount_4, x_X1_moveCount_5, x_X1_moveCount_8, List.length_cons, List.length_nil, Nat.reduceLeDiff, Nat.zero_add, iI_add, iI_sub, iI_mul, iI_neg, iI_lt, iI_le, iI_eq, jI_iI, B_True, B_False, B_t, B_f, ck_True, gd_True, cb_v, cb_n, p_mv_rw, p_fv_rw, p_rv_some, pA_1, pA_90, pA_92, pA_3, pA_5, pA_93, pA_4, pA_91, pA_6, pS_i, pB_i, pW_i, pZ_0, pZ_1, pZ_b, bI_e0, u1_s, u1_n, uA_s, uA_n, true_and, and_true, not_true_eq_false, not_false_eq_true, eq_self, iI_z, al1, al5, al3, al4, al90, al91, al92, al93, al6, Int.cast_ofNat_Int, Nat.reduceAdd, Int.reduceNeg, Int.reduceAdd, Int.reduceSub, Int.reduceMul, Int.reduceLT, Int.reduceLE, Int.reduceGT, Int.reduceGE, Int.reduceEq, Int.reduceNe, Nat.reduceEqDiff, Int.zero_add, Int.add_zero, p_ty0, p_ty1, p_ty2, p_ty3, p_ty4, p_ty5, p_ty8, p_ty9, p_ty10, t0, e1, e2, gd_t]
theorem c_moveAt (hG : GT T F g) (hL : LM M g A) (hl : A.length ≤ 840) {n : Nat} (hn : n < A.length) (hd : 1 ≤ d) : callD d m_X1_moveAt [.ref g, .int (iI (n : Int))] T M F = some (.inl (some (.int (iI (A.getD n 0)))), T, M, F) := by
  refine callD_go 0 hd rfl (fun e he => ?_)
  show R e m_X1_moveAt 0 [.val (.ref g), .val (.int (iI (n : Int)))] [] T M F = _
  have hx := hL.2 n hn
  obtain ⟨hg, t0, f0, hB, t3, f4, t4, f6, t5, f9, t6, f11⟩ := hG
  clear hL
  simp (disch := omega) only [x_X1_moveAt_0, x_X1_moveAt_1, x_X1_moveAt_4, x_X1_moveAt_5, x_X1_moveAt_6, x_X1_moveAt_9, x_X1_moveAt_10, x_X1_moveAt_13, x_X1_moveAt_14, x_X1_moveAt_17, x_X1_moveAt_18, x_X1_moveAt_19, x_X1_moveAt_22, x_X1_moveAt_23, List.length_cons, List.length_nil, Nat.reduceLeDiff, Nat.zero_add, iI_add, iI_sub, iI_mul, iI_neg, iI_lt, iI_le, iI_eq, jI_iI, B_True, B_False, B_t, B_f, ck_True, gd_True, cb_v, cb_n, p_mv_rw, p_fv_rw, p_rv_some, pA_1, pA_90, pA_92, pA_3, pA_5, pA_93, pA_4, pA_91, pA_6, pS_i, pB_i, pW_i, pZ_0, pZ_1, pZ_b, bI_e0, u1_s, u1_n, uA_s, uA_n, true_and, and_true, not_true_eq_false, not_false_eq_true, eq_self, iI_z, al1, al5, al3, al4, al90, al91, al92, al93, al6, Int.cast_ofNat_Int, Nat.reduceAdd, Int.reduceNeg, Int.reduceAdd, Int.reduceSub, Int.reduceMul, Int.reduceLT, Int.reduceLE, Int.reduceGT, Int.reduceGE, Int.reduceEq, Int.reduceNe, Nat.reduceEqDiff, Int.zero_add, Int.add_zero, p_ty0, p_ty1, p_ty2, p_ty3, p_ty4, p_ty5, p_ty8, p_ty9, p_ty10, t0, f6, t4, hx, B_t, B_f, gd_t]
theorem lgL_mem : ∀ (n : Nat) (i : Int), x ∈ lgL bb t pas n i ↔ ∃ its c, i ≤ its ∧ its < i + n ∧ x = 91 * its + c ∧ MV bb t pas its c ∧ ¬ m_chk (mk_bb bb pas its c 2) t
  | 0, i => by rw [lgL]; exact ⟨fun h => absurd h List.not_mem_nil, fun ⟨its, c, h1, h2, _⟩ => by omega⟩
  | n + 1, i => by
    rw [lgL, List.mem_append, lgL_mem n (i + 1), List.mem_map]
    constructor
    · rintro (⟨c, h1, h2⟩ | ⟨its, c, h1, h2, h3⟩)
      · have := (flt_mem _ 91 0).mp h1
        exact ⟨i, c, by omega, by omega, h2.symm, this.2.2⟩
      · exact ⟨its, c, by omega, by omega, h3⟩
    · rintro ⟨its, c, h1, h2, h3, h4⟩
      by_cases e : its = i
      · subst e
        have := h4.1.2.1
        exact Or.inl ⟨c, (flt_mem _ 91 0).mpr ⟨by omega, by omega, h4⟩, h3.symm⟩
      · exact Or.inr ⟨its, c, by omega, by omega, h3, h4⟩
theorem lgA_mem : x ∈ lgA bb t pas ↔ (m_ply bb t ∧ ∃ its c, x = 91 * its + c ∧ MV bb t pas its c ∧ ¬ m_chk (mk_bb bb pas its c 2) t) := by
  unfold lgA
  by_cases h : m_ply bb t
  · rw [if_pos h, lgL_mem]
    constructor
    · rintro ⟨its, c, -, -, h3⟩; exact ⟨h, its, c, h3⟩
    · rintro ⟨-, its, c, h3, h4⟩
      have := h4.1.1
      exact ⟨its, c, by omega, by omega, h3, h4⟩
  · rw [if_neg h]
    exact ⟨fun z => absurd z List.not_mem_nil, fun z => absurd z.1 h⟩
theorem lgA_rg (h : x ∈ lgA bb t pas) : 0 ≤ x ∧ x < 8281 := by
  obtain ⟨-, its, c, h1, h2, -⟩ := lgA_mem.mp h
  have := h2.1; have := h2.2.1
  omega
/-- how many of a list are from a cell -/
noncomputable def cntF (k : Int) : List Int → Int
  | [] => 0
  | x :: A => bI (x / 91 = k) + cntF k A
theorem cntF_rg : ∀ A : List Int, 0 ≤ cntF k A ∧ cntF k A ≤ A.length
  | [] => by rw [cntF]; exact ⟨Int.le_refl _, Int.le_refl _⟩
  | x :: A => by
    have := cntF_rg A
    have := bI_rg (c := x / 91 = k)
    rw [cntF, List.length_cons]
    omega
theorem lgQ_sub (h : x ∈ lgQ bb t pas q) : x ∈ lgA bb t pas ∧ lgQ bb t pas q = lgA bb t pas := by
  unfold lgQ at h ⊢
  split at h
  · exact absurd h List.not_mem_nil
  · rename_i h2; exact ⟨h, if_neg h2⟩
theorem c_movesFrom (hG : GT T F g) (h : GK M g bb t pas q) (hk : 0 ≤ k ∧ k < 91) : ∃ M', (∀ d, 7 ≤ d → callD d m_X1_movesFrom [.ref g, .int (iI k)] T M F = some (.inl (some (.int (iI (cntF k (lgQ bb t pas q))))), T, M', F)) ∧ FMv M M' g ∧ GKL M' g bb t pas q := by
  obtain ⟨M', e1, f, l⟩ := c_listK hG h
  refine ⟨M', fun d hd => ?_, f, l⟩
  refine callD_go 6 hd rfl (fun e he => ?_)
  show R e m_X1_movesFrom 0 [.val (.ref g), .val (.int (iI k)), .unset, .unset, .unset] [] T M F = _
  have e1 := e1 e (by omega)
  have e2 := c_openMoves (d := e) (T := T) (F := F) hG l (by omega)
  have hl := l.len
  have hlm := l.2.2.1
  have hlq := lgQ_len (q := q) hl
  have t0 := hG.2.1
  have key : ∀ (Q P : List Int) (acc : Int), P ++ Q = lgQ bb t pas q → 0 ≤ acc ∧ acc ≤ P.length → R e m_X1_movesFrom 14 [.val (.ref g), .val (.int (iI k)), .val (.int (iI acc)), .val (.int (iI ((lgQ bb t pas q).length : Int))), .val (.int (iI (P.length : Int)))] [] T M' F = some (.inl (some (.int (iI (acc + cntF k Q)))), T, M', F) := by
    intro Q
    induction Q with
    | nil =>
      intro P acc hP ha
      rw [List.append_nil] at hP
      rw [← hP]
      rw [← hP] at hlq
      rw [cntF, Int.add_zero, x_X1_movesFrom_14]
      clear l f h e1 e2 hlm hl
      simp (disch := omega) only [x_X1_movesFrom_16, x_X1_movesFrom_17, x_X1_movesFrom_20, x_X1_movesFrom_21, x_X1_movesFrom_23, x_X1_movesFrom_26, x_X1_movesFrom_28, x_X1_movesFrom_29, x_X1_movesFrom_30, x_X1_movesFrom_33, x_X1_movesFrom_36, x_X1_movesFrom_39, x_X1_movesFrom_42, x_X1_movesFrom_43, List.length_cons, List.length_nil, Nat.reduceLeDiff, Nat.zero_add, iI_add, iI_sub, iI_mul, iI_neg, iI_lt, iI_le, iI_eq, jI_iI, B_True, B_False, B_t, B_f, ck_True, gd_True, cb_v, cb_n, p_mv_rw, p_fv_rw, p_rv_some, pA_1, pA_90, pA_92, pA_3, pA_5, pA_93, pA_4, pA_91, pA_6, pS_i, pB_i, pW_i, pZ_0, pZ_1, pZ_b, bI_e0, u1_s, u1_n, uA_s, uA_n, true_and, and_true, not_true_eq_false, not_false_eq_true, eq_self, iI_z, al1, al5, al3, al4, al90, al91, al92, al93, al6, Int.cast_ofNat_Int, Nat.reduceAdd, Int.reduceNeg, Int.reduceAdd, Int.reduceSub, Int.reduceMul, Int.reduceLT, Int.reduceLE, Int.reduceGT, Int.reduceGE, Int.reduceEq, Int.reduceNe, Nat.reduceEqDiff, Int.zero_add, Int.add_zero, p_ty0, p_ty1, p_ty2, p_ty3, p_ty4, p_ty5, p_ty8, p_ty9, p_ty10]
    | cons x Q ih =>
      intro P acc hP ha
      have hPl : P.length + 1 + Q.length = (lgQ bb t pas q).length := by rw [← hP]; simp; omega
      have hx := lgQ_sub (x := x) (bb := bb) (t := t) (pas := pas) (q := q) (by rw [← hP]; simp)
      have hxr := lgA_rg hx.1
      have hm := c_moveAt (d := e) (T := T) (F := F) hG hlm hl (n := P.length) (by rw [← hx.2]; omega) (by omega)
      rw [← hx.2, ← hP, getD_mid] at hm
      rw [x_X1_movesFrom_14, cntF]
      by_cases c : x / 91 = k
      · have ih := ih (P ++ [x]) (acc + 1) (by rw [List.append_assoc]; exact hP) (by rw [List.length_append, List.length_singleton]; omega)
        rw [List.length_append, List.length_singleton, Int.natCast_add_one] at ih
        rw [bI_t c, show acc + (1 + cntF k Q) = acc + 1 + cntF k Q by omega, ← ih]
        clear l f h e1 e2 hlm hl ih hP
        simp (disch := omega) only [x_X1_movesFrom_16, x_X1_movesFrom_17, x_X1_movesFrom_20, x_X1_movesFrom_21, x_X1_movesFrom_23, x_X1_movesFrom_26, x_X1_movesFrom_28, x_X1_movesFrom_29, x_X1_movesFrom_30, x_X1_movesFrom_33, x_X1_movesFrom_36, x_X1_movesFrom_39, x_X1_movesFrom_42, x_X1_movesFrom_43, List.length_cons, List.length_nil, Nat.reduceLeDiff, Nat.zero_add, iI_add, iI_sub, iI_mul, iI_neg, iI_lt, iI_le, iI_eq, jI_iI, B_True, B_False, B_t, B_f, ck_True, gd_True, cb_v, cb_n, p_mv_rw, p_fv_rw, p_rv_some, pA_1, pA_90, pA_92, pA_3, pA_5, pA_93, pA_4, pA_91, pA_6, pS_i, pB_i, pW_i, pZ_0, pZ_1, pZ_b, bI_e0, u1_s, u1_n, uA_s, uA_n, true_and, and_true, not_true_eq_false, not_false_eq_true, eq_self, iI_z, al1, al5, al3, al4, al90, al91, al92, al93, al6, Int.cast_ofNat_Int, Nat.reduceAdd, Int.reduceNeg, Int.reduceAdd, Int.reduceSub, Int.reduceMul, Int.reduceLT, Int.reduceLE, Int.reduceGT, Int.reduceGE, Int.reduceEq, Int.reduceNe, Nat.reduceEqDiff, Int.zero_add, Int.add_zero, p_ty0, p_ty1, p_ty2, p_ty3, p_ty4, p_ty5, p_ty8, p_ty9, p_ty10, t0, hm, gd_t, iI_div]
      · have ih := ih (P ++ [x]) acc (by rw [List.append_assoc]; exact hP) (by rw [List.length_append, List.length_singleton]; omega)
        rw [List.length_append, List.length_singleton, Int.natCast_add_one] at ih
        rw [bI_f c, Int.zero_add, ← ih]
        clear l f h e1 e2 hlm hl ih hP
        simp (disch := omega) only [x_X1_movesFrom_16, x_X1_movesFrom_17, x_X1_movesFrom_20, x_X1_movesFrom_21, x_X1_movesFrom_23, x_X1_movesFrom_26, x_X1_movesFrom_28, x_X1_movesFrom_29, x_X1_movesFrom_30, x_X1_movesFrom_33, x_X1_movesFrom_36, x_X1_movesFrom_39, x_X1_movesFrom_42, x_X1_movesFrom_43, List.length_cons, List.length_nil, Nat.reduceLeDiff, Nat.zero_add, iI_add, iI_sub, iI_mul, iI_neg, iI_lt, iI_le, iI_eq, jI_iI, B_True, B_False, B_t, B_f, ck_True, gd_True, cb_v, cb_n, p_mv_rw, p_fv_rw, p_rv_some, pA_1, pA_90, pA_92, pA_3, pA_5, pA_93, pA_4, pA_91, pA_6, pS_i, pB_i, pW_i, pZ_0, pZ_1, pZ_b, bI_e0, u1_s, u1_n, uA_s, uA_n, true_and, and_true, not_true_eq_false, not_false_eq_true, eq_self, iI_z, al1, al5, al3, al4, al90, al91, al92, al93, al6, Int.cast_ofNat_Int, Nat.reduceAdd, Int.reduceNeg, Int.reduceAdd, Int.reduceSub, Int.reduceMul, Int.reduceLT, Int.reduceLE, Int.reduceGT, Int.reduceGE, Int.reduceEq, Int.reduceNe, Nat.reduceEqDiff, Int.zero_add, Int.add_zero, p_ty0, p_ty1, p_ty2, p_ty3, p_ty4, p_ty5, p_ty8, p_ty9, p_ty10, t0, hm, gd_t, iI_div]
  have := key (lgQ bb t pas q) [] 0 (List.nil_append _) ⟨Int.le_refl _, Int.le_refl _⟩
  rw [Int.zero_add] at this
  rw [← this]
  clear this key l f h hlm hl
  simp (disch := omega) only [x_X1_movesFrom_0, x_X1_movesFrom_1, x_X1_movesFrom_4, x_X1_movesFrom_5, x_X1_movesFrom_6, x_X1_movesFrom_7, x_X1_movesFrom_10, x_X1_movesFrom_11, x_X1_movesFrom_12, List.length_cons, List.length_nil, Nat.reduceLeDiff, Nat.zero_add, iI_add, iI_sub, iI_mul, iI_neg, iI_lt, iI_le, iI_eq, jI_iI, B_True, B_False, B_t, B_f, ck_True, gd_True, cb_v, cb_n, p_mv_rw, p_fv_rw, p_rv_some, pA_1, pA_90, pA_92, pA_3, pA_5, pA_93, pA_4, pA_91, pA_6, pS_i, pB_i, pW_i, pZ_0, pZ_1, pZ_b, bI_e0, u1_s, u1_n, uA_s, uA_n, true_and, and_true, not_true_eq_false, not_false_eq_true, eq_self, iI_z, al1, al5, al3, al4, al90, al91, al92, al93, al6, Int.cast_ofNat_Int, Nat.reduceAdd, Int.reduceNeg, Int.reduceAdd, Int.reduceSub, Int.reduceMul, Int.reduceLT, Int.reduceLE, Int.reduceGT, Int.reduceGE, Int.reduceEq, Int.reduceNe, Nat.reduceEqDiff, Int.zero_add, Int.add_zero, p_ty0, p_ty1, p_ty2, p_ty3, p_ty4, p_ty5, p_ty8, p_ty9, p_ty10, t0, e1, e2, gd_t]
end PRD
