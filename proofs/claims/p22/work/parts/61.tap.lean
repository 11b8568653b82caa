section PTAP
variable {d a : Nat} {T : pT} {M M0 M1 M2 : pM} {F : pF} {p z s e0 n i : Int} {bs : Int → Int}
/-- the class's tape -/
def TT (T : pT) (F : pF) (a : Nat) : Prop := 100 ≤ a ∧ p_ty T a = (14, 2) ∧ F a 0 = some (a + 1) ∧ p_ty T (a + 1) = (1, 2000)
def TS (M : pM) (a : Nat) (bs : Int → Int) (z : Int) : Prop := M (a + 1) = bs ∧ M a 1 = z ∧ (0 ≤ z ∧ z ≤ 2000) ∧ ∀ i, 0 ≤ bs i ∧ bs i < 256
theorem TS.fr (h : TS M a bs z) (h1 : M1 a = M a) (h2 : M1 (a + 1) = M (a + 1)) : TS M1 a bs z := by
  unfold TS at *; rw [h1, h2]; exact h
def t_b (bs : Int → Int) (z p : Int) : Int := if 0 ≤ p ∧ p < z then bs p else -1
theorem t_b_rg (hb : ∀ i, 0 ≤ bs i ∧ bs i < 256) : -1 ≤ t_b bs z p ∧ t_b bs z p < 256 := by
  have := hb p
  unfold t_b; split <;> omega
def t_L (b : Int) : Prop := 97 ≤ b ∧ b ≤ 122
def t_D (b : Int) : Prop := 48 ≤ b ∧ b ≤ 57
noncomputable def t_bk (bs : Int → Int) (z : Int) : Nat → Int → Int
  | 0, p => p
  | n + 1, p => if t_b bs z p = 32 ∨ t_b bs z p = 10 then t_bk bs z n (p + 1) else p
noncomputable def t_tk (bs : Int → Int) (z : Int) : Nat → Int → Int
  | 0, p => p
  | n + 1, p => @ite _ (t_L (t_b bs z p) ∨ t_D (t_b bs z p)) (Classical.propDecidable _) (t_tk bs z n (p + 1)) p
noncomputable def t_end (bs : Int → Int) (z p : Int) : Int := @ite _ (t_L (t_b bs z p)) (Classical.propDecidable _) (t_tk bs z 2000 (p + 1)) (p + 1)
theorem t_bk_rg : ∀ (n : Nat) (p : Int), p ≤ t_bk bs z n p ∧ t_bk bs z n p ≤ p + n
  | 0, p => by rw [t_bk]; omega
  | n + 1, p => by
    have := t_bk_rg n (p + 1)
    rw [t_bk]; split <;> omega
theorem t_tk_rg : ∀ (n : Nat) (p : Int), p ≤ t_tk bs z n p ∧ t_tk bs z n p ≤ p + n
  | 0, p => by rw [t_tk]; omega
  | n + 1, p => by
    have := t_tk_rg n (p + 1)
    rw [t_tk]; split <;> omega
theorem t_bk_z : ∀ (n : Nat) (p : Int), p ≤ z → t_bk bs z n p ≤ z
  | 0, p, h => h
  | n + 1, p, h => by
    rw [t_bk]
    split
    · rename_i c
      refine t_bk_z n (p + 1) ?_
      unfold t_b at c
      split at c <;> omega
    · exact h
theorem t_tk_z : ∀ (n : Nat) (p : Int), p ≤ z → t_tk bs z n p ≤ z
  | 0, p, h => h
  | n + 1, p, h => by
    rw [t_tk]
    split
    · rename_i c
      refine t_tk_z n (p + 1) ?_
      unfold t_b t_L t_D at c
      split at c <;> omega
    · exact h
theorem t_end_rg (h : 0 ≤ p ∧ p < z) : p < t_end bs z p ∧ t_end bs z p ≤ z := by
  unfold t_end
  split
  · have h1 := t_tk_rg 2000 (p + 1) (bs := bs) (z := z)
    have h2 := t_tk_z 2000 (p + 1) (bs := bs) (z := z) (by omega)
    omega
  · omega
theorem c_byteAt (hT : TT T F a) (hS : TS M a bs z) (hd : 1 ≤ d) (hp : -100000 ≤ p ∧ p ≤ 100000) : callD d m_X4_byteAt [.ref a, .int (iI p)] T M F = some (.inl (some (.int (iI (t_b bs z p)))), T, M, F) := by
  refine callD_go 0 hd rfl (fun e he => ?_)
  show R e m_X4_byteAt 0 [.val (.ref a), .val (.int (iI p))] [] T M F = _
  obtain ⟨ha, t0, f0, t1⟩ := hT
  obtain ⟨h1, h2, h3, h4⟩ := hS
  clear h4
  unfold t_b
  by_cases c : 0 ≤ p ∧ p < z
  · rw [if_pos c]
    simp (disch := omega) only [x_X4_byteAt_0, x_X4_byteAt_1, x_X4_byteAt_4, x_X4_byteAt_5, x_X4_byteAt_6, x_X4_byteAt_9, x_X4_byteAt_12, x_X4_byteAt_13, x_X4_byteAt_14, x_X4_byteAt_17, x_X4_byteAt_18, x_X4_byteAt_21, x_X4_byteAt_22, x_X4_byteAt_25, x_X4_byteAt_26, x_X4_byteAt_27, x_X4_byteAt_30, x_X4_byteAt_31, List.length_cons, List.length_nil, Nat.reduceLeDiff, Nat.zero_add, iI_add, iI_sub, iI_mul, iI_neg, iI_lt, iI_le, iI_eq, jI_iI, B_True, B_False, B_t, B_f, ck_True, gd_True, cb_v, cb_n, p_mv_rw, p_fv_rw, p_rv_some, pA_1, pA_90, pA_92, pA_3, pA_5, pA_93, pA_4, pA_91, pA_6, pS_i, pB_i, pW_i, pZ_0, pZ_1, pZ_b, bI_e0, u1_s, u1_n, uA_s, uA_n, true_and, and_true, not_true_eq_false, not_false_eq_true, eq_self, iI_z, al1, al5, al3, al4, al90, al91, al92, al93, al6, Int.cast_ofNat_Int, Nat.reduceAdd, Int.reduceNeg, Int.reduceAdd, Int.reduceSub, Int.reduceMul, Int.reduceLT, Int.reduceLE, Int.reduceGT, Int.reduceGE, Int.reduceEq, Int.reduceNe, Nat.reduceEqDiff, Int.zero_add, Int.add_zero, p_ty0, p_ty1, p_ty2, p_ty3, p_ty4, p_ty5, p_ty8, p_ty9, p_ty10, t0, f0, t1, h1, h2, gd_t, B_t, B_f]
  · rw [if_neg c]
    by_cases c0 : 0 ≤ p
    · simp (disch := omega) only [x_X4_byteAt_0, x_X4_byteAt_1, x_X4_byteAt_4, x_X4_byteAt_5, x_X4_byteAt_6, x_X4_byteAt_9, x_X4_byteAt_12, x_X4_byteAt_13, x_X4_byteAt_14, x_X4_byteAt_17, x_X4_byteAt_18, x_X4_byteAt_21, x_X4_byteAt_22, x_X4_byteAt_25, x_X4_byteAt_26, x_X4_byteAt_27, x_X4_byteAt_30, x_X4_byteAt_31, List.length_cons, List.length_nil, Nat.reduceLeDiff, Nat.zero_add, iI_add, iI_sub, iI_mul, iI_neg, iI_lt, iI_le, iI_eq, jI_iI, B_True, B_False, B_t, B_f, ck_True, gd_True, cb_v, cb_n, p_mv_rw, p_fv_rw, p_rv_some, pA_1, pA_90, pA_92, pA_3, pA_5, pA_93, pA_4, pA_91, pA_6, pS_i, pB_i, pW_i, pZ_0, pZ_1, pZ_b, bI_e0, u1_s, u1_n, uA_s, uA_n, true_and, and_true, not_true_eq_false, not_false_eq_true, eq_self, iI_z, al1, al5, al3, al4, al90, al91, al92, al93, al6, Int.cast_ofNat_Int, Nat.reduceAdd, Int.reduceNeg, Int.reduceAdd, Int.reduceSub, Int.reduceMul, Int.reduceLT, Int.reduceLE, Int.reduceGT, Int.reduceGE, Int.reduceEq, Int.reduceNe, Nat.reduceEqDiff, Int.zero_add, Int.add_zero, p_ty0, p_ty1, p_ty2, p_ty3, p_ty4, p_ty5, p_ty8, p_ty9, p_ty10, t0, f0, t1, h1, h2, gd_t, B_t, B_f]
    · simp (disch := omega) only [x_X4_byteAt_0, x_X4_byteAt_1, x_X4_byteAt_4, x_X4_byteAt_5, x_X4_byteAt_6, x_X4_byteAt_9, x_X4_byteAt_12, x_X4_byteAt_13, x_X4_byteAt_14, x_X4_byteAt_17, x_X4_byteAt_18, x_X4_byteAt_21, x_X4_byteAt_22, x_X4_byteAt_25, x_X4_byteAt_26, x_X4_byteAt_27, x_X4_byteAt_30, x_X4_byteAt_31, List.length_cons, List.length_nil, Nat.reduceLeDiff, Nat.zero_add, iI_add, iI_sub, iI_mul, iI_neg, iI_lt, iI_le, iI_eq, jI_iI, B_True, B_False, B_t, B_f, ck_True, gd_True, cb_v, cb_n, p_mv_rw, p_fv_rw, p_rv_some, pA_1, pA_90, pA_92, pA_3, pA_5, pA_93, pA_4, pA_91, pA_6, pS_i, pB_i, pW_i, pZ_0, pZ_1, pZ_b, bI_e0, u1_s, u1_n, uA_s, uA_n, true_and, and_true, not_true_eq_false, not_false_eq_true, eq_self, iI_z, al1, al5, al3, al4, al90, al91, al92, al93, al6, Int.cast_ofNat_Int, Nat.reduceAdd, Int.reduceNeg, Int.reduceAdd, Int.reduceSub, Int.reduceMul, Int.reduceLT, Int.reduceLE, Int.reduceGT, Int.reduceGE, Int.reduceEq, Int.reduceNe, Nat.reduceEqDiff, Int.zero_add, Int.add_zero, p_ty0, p_ty1, p_ty2, p_ty3, p_ty4, p_ty5, p_ty8, p_ty9, p_ty10, t0, f0, t1, h1, h2, gd_t, B_t, B_f]
theorem c_isLetter (hT : TT T F a) (hS : TS M a bs z) (hd : 2 ≤ d) (hp : -100000 ≤ p ∧ p ≤ 100000) : callD d m_X4_isLetter [.ref a, .int (iI p)] T M F = some (.inl (some (.int (iI (bI (t_L (t_b bs z p)))))), T, M, F) := by
  refine callD_go 1 hd rfl (fun e he => ?_)
  show R e m_X4_isLetter 0 [.val (.ref a), .val (.int (iI p))] [] T M F = _
  have h1 := c_byteAt (d := e) hT hS (by omega) hp
  have h2 := t_b_rg (p := p) (z := z) hS.2.2.2
  have t0 := hT.2.1
  clear hS hT
  unfold t_L
  by_cases c1 : 97 ≤ t_b bs z p
  · by_cases c2 : t_b bs z p ≤ 122
    · rw [bI_t ⟨c1, c2⟩]
      simp (disch := omega) only [x_X4_isLetter_0, x_X4_isLetter_1, x_X4_isLetter_2, x_X4_isLetter_5, x_X4_isLetter_7, x_X4_isLetter_10, x_X4_isLetter_11, x_X4_isLetter_12, x_X4_isLetter_15, x_X4_isLetter_17, x_X4_isLetter_20, x_X4_isLetter_21, x_X4_isLetter_24, x_X4_isLetter_25, List.length_cons, List.length_nil, Nat.reduceLeDiff, Nat.zero_add, iI_add, iI_sub, iI_mul, iI_neg, iI_lt, iI_le, iI_eq, jI_iI, B_True, B_False, B_t, B_f, ck_True, gd_True, cb_v, cb_n, p_mv_rw, p_fv_rw, p_rv_some, pA_1, pA_90, pA_92, pA_3, pA_5, pA_93, pA_4, pA_91, pA_6, pS_i, pB_i, pW_i, pZ_0, pZ_1, pZ_b, bI_e0, u1_s, u1_n, uA_s, uA_n, true_and, and_true, not_true_eq_false, not_false_eq_true, eq_self, iI_z, al1, al5, al3, al4, al90, al91, al92, al93, al6, Int.cast_ofNat_Int, Nat.reduceAdd, Int.reduceNeg, Int.reduceAdd, Int.reduceSub, Int.reduceMul, Int.reduceLT, Int.reduceLE, Int.reduceGT, Int.reduceGE, Int.reduceEq, Int.reduceNe, Nat.reduceEqDiff, Int.zero_add, Int.add_zero, p_ty0, p_ty1, p_ty2, p_ty3, p_ty4, p_ty5, p_ty8, p_ty9, p_ty10, t0, h1, gd_t, B_t, B_f]
    · rw [bI_f (fun z => c2 z.2)]
      simp (disch := omega) only [x_X4_isLetter_0, x_X4_isLetter_1, x_X4_isLetter_2, x_X4_isLetter_5, x_X4_isLetter_7, x_X4_isLetter_10, x_X4_isLetter_11, x_X4_isLetter_12, x_X4_isLetter_15, x_X4_isLetter_17, x_X4_isLetter_20, x_X4_isLetter_21, x_X4_isLetter_24, x_X4_isLetter_25, List.length_cons, List.length_nil, Nat.reduceLeDiff, Nat.zero_add, iI_add, iI_sub, iI_mul, iI_neg, iI_lt, iI_le, iI_eq, jI_iI, B_True, B_False, B_t, B_f, ck_True, gd_True, cb_v, cb_n, p_mv_rw, p_fv_rw, p_rv_some, pA_1, pA_90, pA_92, pA_3, pA_5, pA_93, pA_4, pA_91, pA_6, pS_i, pB_i, pW_i, pZ_0, pZ_1, pZ_b, bI_e0, u1_s, u1_n, uA_s, uA_n, true_and, and_true, not_true_eq_false, not_false_eq_true, eq_self, iI_z, al1, al5, al3, al4, al90, al91, al92, al93, al6, Int.cast_ofNat_Int, Nat.reduceAdd, Int.reduceNeg, Int.reduceAdd, Int.reduceSub, Int.reduceMul, Int.reduceLT, Int.reduceLE, Int.reduceGT, Int.reduceGE, Int.reduceEq, Int.reduceNe, Nat.reduceEqDiff, Int.zero_add, Int.add_zero, p_ty0, p_ty1, p_ty2, p_ty3, p_ty4, p_ty5, p_ty8, p_ty9, p_ty10, t0, h1, gd_t, B_t, B_f]
  · rw [bI_f (fun z => c1 z.1)]
    simp (disch := omega) only [x_X4_isLetter_0, x_X4_isLetter_1, x_X4_isLetter_2, x_X4_isLetter_5, x_X4_isLetter_7, x_X4_isLetter_10, x_X4_isLetter_11, x_X4_isLetter_12, x_X4_isLetter_15, x_X4_isLetter_17, x_X4_isLetter_20, x_X4_isLetter_21, x_X4_isLetter_24, x_X4_isLetter_25, List.length_cons, List.length_nil, Nat.reduceLeDiff, Nat.zero_add, iI_add, iI_sub, iI_mul, iI_neg, iI_lt, iI_le, iI_eq, jI_iI, B_True, B_False, B_t, B_f, ck_True, gd_True, cb_v, cb_n, p_mv_rw, p_fv_rw, p_rv_some, pA_1, pA_90, pA_92, pA_3, pA_5, pA_93, pA_4, pA_91, pA_6, pS_i, pB_i, pW_i, pZ_0, pZ_1, pZ_b, bI_e0, u1_s, u1_n, uA_s, uA_n, true_and, and_true, not_true_eq_false, not_false_eq_true, eq_self, iI_z, al1, al5, al3, al4, al90, al91, al92, al93, al6, Int.cast_ofNat_Int, Nat.reduceAdd, Int.reduceNeg, Int.reduceAdd, Int.reduceSub, Int.reduceMul, Int.reduceLT, Int.reduceLE, Int.reduceGT, Int.reduceGE, Int.reduceEq, Int.reduceNe, Nat.reduceEqDiff, Int.zero_add, Int.add_zero, p_ty0, p_ty1, p_ty2, p_ty3, p_ty4, p_ty5, p_ty8, p_ty9, p_ty10, t0, h1, gd_t, B_t, B_f]
theorem c_isDigit (hT : TT T F a) (hS : TS M a bs z) (hd : 2 ≤ d) (hp : -100000 ≤ p ∧ p ≤ 100000) : callD d m_X4_isDigit [.ref a, .int (iI p)] T M F = some (.inl (some (.int (iI (bI (t_D (t_b bs z p)))))), T, M, F) := by
  refine callD_go 1 hd rfl (fun e he => ?_)
  show R e m_X4_isDigit 0 [.val (.ref a), .val (.int (iI p))] [] T M F = _
  have h1 := c_byteAt (d := e) hT hS (by omega) hp
  have h2 := t_b_rg (p := p) (z := z) hS.2.2.2
  have t0 := hT.2.1
  clear hS hT
  unfold t_D
  by_cases c1 : 48 ≤ t_b bs z p
  · by_cases c2 : t_b bs z p ≤ 57
    · rw [bI_t ⟨c1, c2⟩]
      simp (disch := omega) only [x_X4_isDigit_0, x_X4_isDigit_1, x_X4_isDigit_2, x_X4_isDigit_5, x_X4_isDigit_7, x_X4_isDigit_10, x_X4_isDigit_11, x_X4_isDigit_12, x_X4_isDigit_15, x_X4_isDigit_17, x_X4_isDigit_20, x_X4_isDigit_21, x_X4_isDigit_24, x_X4_isDigit_25, List.length_cons, List.length_nil, Nat.reduceLeDiff, Nat.zero_add, iI_add, iI_sub, iI_mul, iI_neg, iI_lt, iI_le, iI_eq, jI_iI, B_True, B_False, B_t, B_f, ck_True, gd_True, cb_v, cb_n, p_mv_rw, p_fv_rw, p_rv_some, pA_1, pA_90, pA_92, pA_3, pA_5, pA_93, pA_4, pA_91, pA_6, pS_i, pB_i, pW_i, pZ_0, pZ_1, pZ_b, bI_e0, u1_s, u1_n, uA_s, uA_n, true_and, and_true, not_true_eq_false, not_false_eq_true, eq_self, iI_z, al1, al5, al3, al4, al90, al91, al92, al93, al6, Int.cast_ofNat_Int, Nat.reduceAdd, Int.reduceNeg, Int.reduceAdd, Int.reduceSub, Int.reduceMul, Int.reduceLT, Int.reduceLE, Int.reduceGT, Int.reduceGE, Int.reduceEq, Int.reduceNe, Nat.reduceEqDiff, Int.zero_add, Int.add_zero, p_ty0, p_ty1, p_ty2, p_ty3, p_ty4, p_ty5, p_ty8, p_ty9, p_ty10, t0, h1, gd_t, B_t, B_f]
    · rw [bI_f (fun z => c2 z.2)]
      simp (disch := omega) only [x_X4_isDigit_0, x_X4_isDigit_1, x_X4_isDigit_2, x_X4_isDigit_5, x_X4_isDigit_7, x_X4_isDigit_10, x_X4_isDigit_11, x_X4_isDigit_12, x_X4_isDigit_15, x_X4_isDigit_17, x_X4_isDigit_20, x_X4_isDigit_21, x_X4_isDigit_24, x_X4_isDigit_25, List.length_cons, List.length_nil, Nat.reduceLeDiff, Nat.zero_add, iI_add, iI_sub, iI_mul, iI_neg, iI_lt, iI_le, iI_eq, jI_iI, B_True, B_False, B_t, B_f, ck_True, gd_True, cb_v, cb_n, p_mv_rw, p_fv_rw, p_rv_some, pA_1, pA_90, pA_92, pA_3, pA_5, pA_93, pA_4, pA_91, pA_6, pS_i, pB_i, pW_i, pZ_0, pZ_1, pZ_b, bI_e0, u1_s, u1_n, uA_s, uA_n, true_and, and_true, not_true_eq_false, not_false_eq_true, eq_self, iI_z, al1, al5, al3, al4, al90, al91, al92, al93, al6, Int.cast_ofNat_Int, Nat.reduceAdd, Int.reduceNeg, Int.reduceAdd, Int.reduceSub, Int.reduceMul, Int.reduceLT, Int.reduceLE, Int.reduceGT, Int.reduceGE, Int.reduceEq, Int.reduceNe, Nat.reduceEqDiff, Int.zero_add, Int.add_zero, p_ty0, p_ty1, p_ty2, p_ty3, p_ty4, p_ty5, p_ty8, p_ty9, p_ty10, t0, h1, gd_t, B_t, B_f]
  · rw [bI_f (fun z => c1 z.1)]
    simp (disch := omega) only [x_X4_isDigit_0, x_X4_isDigit_1, x_X4_isDigit_2, x_X4_isDigit_5, x_X4_isDigit_7, x_X4_isDigit_10, x_X4_isDigit_11, x_X4_isDigit_12, x_X4_isDigit_15, x_X4_isDigit_17, x_X4_isDigit_20, x_X4_isDigit_21, x_X4_isDigit_24, x_X4_isDigit_25, List.length_cons, List.length_nil, Nat.reduceLeDiff, Nat.zero_add, iI_add, iI_sub, iI_mul, iI_neg, iI_lt, iI_le, iI_eq, jI_iI, B_True, B_False, B_t, B_f, ck_True, gd_True, cb_v, cb_n, p_mv_rw, p_fv_rw, p_rv_some, pA_1, pA_90, pA_92, pA_3, pA_5, pA_93, pA_4, pA_91, pA_6, pS_i, pB_i, pW_i, pZ_0, pZ_1, pZ_b, bI_e0, u1_s, u1_n, uA_s, uA_n, true_and, and_true, not_true_eq_false, not_false_eq_true, eq_self, iI_z, al1, al5, al3, al4, al90, al91, al92, al93, al6, Int.cast_ofNat_Int, Nat.reduceAdd, Int.reduceNeg, Int.reduceAdd, Int.reduceSub, Int.reduceMul, Int.reduceLT, Int.reduceLE, Int.reduceGT, Int.reduceGE, Int.reduceEq, Int.reduceNe, Nat.reduceEqDiff, Int.zero_add, Int.add_zero, p_ty0, p_ty1, p_ty2, p_ty3, p_ty4, p_ty5, p_ty8, p_ty9, p_ty10, t0, h1, gd_t, B_t, B_f]
theorem c_blanks (hT : TT T F a) (hS : TS M a bs z) (hd : 2 ≤ d) (hp : 0 ≤ p ∧ p ≤ 2000) : callD d m_X4_behindBlanks [.ref a, .int (iI p)] T M F = some (.inl (some (.int (iI (t_bk bs z 2000 p)))), T, M, F) := by
  refine callD_go 1 hd rfl (fun e he => ?_)
  show R e m_X4_behindBlanks 0 [.val (.ref a), .val (.int (iI p)), .unset, .unset] [] T M F = _
  have t0 := hT.2.1
  have key : ∀ (n : Nat) (k x : Int), k + n = 2000 → 0 ≤ k → (0 ≤ x ∧ x ≤ 2000 + k) → R e m_X4_behindBlanks 4 [.val (.ref a), .val (.int (iI p)), .val (.int (iI x)), .val (.int (iI k))] [] T M F = some (.inl (some (.int (iI (t_bk bs z n x)))), T, M, F) := by
    intro n
    induction n with
    | zero =>
      intro k x hk h0 hx
      rw [t_bk]
      clear hS hT
      simp (disch := omega) only [x_X4_behindBlanks_4, x_X4_behindBlanks_5, x_X4_behindBlanks_8, x_X4_behindBlanks_43, x_X4_behindBlanks_44, List.length_cons, List.length_nil, Nat.reduceLeDiff, Nat.zero_add, iI_add, iI_sub, iI_mul, iI_neg, iI_lt, iI_le, iI_eq, jI_iI, B_True, B_False, B_t, B_f, ck_True, gd_True, cb_v, cb_n, p_mv_rw, p_fv_rw, p_rv_some, pA_1, pA_90, pA_92, pA_3, pA_5, pA_93, pA_4, pA_91, pA_6, pS_i, pB_i, pW_i, pZ_0, pZ_1, pZ_b, bI_e0, u1_s, u1_n, uA_s, uA_n, true_and, and_true, not_true_eq_false, not_false_eq_true, eq_self, iI_z, al1, al5, al3, al4, al90, al91, al92, al93, al6, Int.cast_ofNat_Int, Nat.reduceAdd, Int.reduceNeg, Int.reduceAdd, Int.reduceSub, Int.reduceMul, Int.reduceLT, Int.reduceLE, Int.reduceGT, Int.reduceGE, Int.reduceEq, Int.reduceNe, Nat.reduceEqDiff, Int.zero_add, Int.add_zero, p_ty0, p_ty1, p_ty2, p_ty3, p_ty4, p_ty5, p_ty8, p_ty9, p_ty10, B_t, B_f]
    | succ n ih =>
      intro k x hk h0 hx
      have h1 := c_byteAt (d := e) (p := x) hT hS (by omega) (by omega)
      have h2 := t_b_rg (p := x) (z := z) hS.2.2.2
      have ih := ih (k + 1) (x + 1) (by omega) (by omega) (by omega)
      rw [t_bk]
      clear hS hT
      by_cases c1 : t_b bs z x = 32
      · rw [if_pos (Or.inl c1), ← ih, x_X4_behindBlanks_4]
        simp (disch := omega) only [x_X4_behindBlanks_5, x_X4_behindBlanks_8, x_X4_behindBlanks_11, x_X4_behindBlanks_12, x_X4_behindBlanks_13, x_X4_behindBlanks_16, x_X4_behindBlanks_18, x_X4_behindBlanks_21, x_X4_behindBlanks_22, x_X4_behindBlanks_23, x_X4_behindBlanks_26, x_X4_behindBlanks_28, x_X4_behindBlanks_31, x_X4_behindBlanks_34, x_X4_behindBlanks_37, x_X4_behindBlanks_40, List.length_cons, List.length_nil, Nat.reduceLeDiff, Nat.zero_add, iI_add, iI_sub, iI_mul, iI_neg, iI_lt, iI_le, iI_eq, jI_iI, B_True, B_False, B_t, B_f, ck_True, gd_True, cb_v, cb_n, p_mv_rw, p_fv_rw, p_rv_some, pA_1, pA_90, pA_92, pA_3, pA_5, pA_93, pA_4, pA_91, pA_6, pS_i, pB_i, pW_i, pZ_0, pZ_1, pZ_b, bI_e0, u1_s, u1_n, uA_s, uA_n, true_and, and_true, not_true_eq_false, not_false_eq_true, eq_self, iI_z, al1, al5, al3, al4, al90, al91, al92, al93, al6, Int.cast_ofNat_Int, Nat.reduceAdd, Int.reduceNeg, Int.reduceAdd, Int.reduceSub, Int.reduceMul, Int.reduceLT, Int.reduceLE, Int.reduceGT, Int.reduceGE, Int.reduceEq, Int.reduceNe, Nat.reduceEqDiff, Int.zero_add, Int.add_zero, p_ty0, p_ty1, p_ty2, p_ty3, p_ty4, p_ty5, p_ty8, p_ty9, p_ty10, t0, h1, gd_t, B_t, B_f]
      · by_cases c2 : t_b bs z x = 10
        · rw [if_pos (Or.inr c2), ← ih, x_X4_behindBlanks_4]
          simp (disch := omega) only [x_X4_behindBlanks_5, x_X4_behindBlanks_8, x_X4_behindBlanks_11, x_X4_behindBlanks_12, x_X4_behindBlanks_13, x_X4_behindBlanks_16, x_X4_behindBlanks_18, x_X4_behindBlanks_21, x_X4_behindBlanks_22, x_X4_behindBlanks_23, x_X4_behindBlanks_26, x_X4_behindBlanks_28, x_X4_behindBlanks_31, x_X4_behindBlanks_34, x_X4_behindBlanks_37, x_X4_behindBlanks_40, List.length_cons, List.length_nil, Nat.reduceLeDiff, Nat.zero_add, iI_add, iI_sub, iI_mul, iI_neg, iI_lt, iI_le, iI_eq, jI_iI, B_True, B_False, B_t, B_f, ck_True, gd_True, cb_v, cb_n, p_mv_rw, p_fv_rw, p_rv_some, pA_1, pA_90, pA_92, pA_3, pA_5, pA_93, pA_4, pA_91, pA_6, pS_i, pB_i, pW_i, pZ_0, pZ_1, pZ_b, bI_e0, u1_s, u1_n, uA_s, uA_n, true_and, and_true, not_true_eq_false, not_false_eq_true, eq_self, iI_z, al1, al5, al3, al4, al90, al91, al92, al93, al6, Int.cast_ofNat_Int, Nat.reduceAdd, Int.reduceNeg, Int.reduceAdd, Int.reduceSub, Int.reduceMul, Int.reduceLT, Int.reduceLE, Int.reduceGT, Int.reduceGE, Int.reduceEq, Int.reduceNe, Nat.reduceEqDiff, Int.zero_add, Int.add_zero, p_ty0, p_ty1, p_ty2, p_ty3, p_ty4, p_ty5, p_ty8, p_ty9, p_ty10, t0, h1, gd_t, B_t, B_f]
        · rw [if_neg (by rintro (q | q) <;> contradiction), x_X4_behindBlanks_4]
          clear ih
          simp (disch := omega) only [x_X4_behindBlanks_5, x_X4_behindBlanks_8, x_X4_behindBlanks_11, x_X4_behindBlanks_12, x_X4_behindBlanks_13, x_X4_behindBlanks_16, x_X4_behindBlanks_18, x_X4_behindBlanks_21, x_X4_behindBlanks_22, x_X4_behindBlanks_23, x_X4_behindBlanks_26, x_X4_behindBlanks_28, x_X4_behindBlanks_31, x_X4_behindBlanks_34, x_X4_behindBlanks_37, x_X4_behindBlanks_40, x_X4_behindBlanks_43, x_X4_behindBlanks_44, List.length_cons, List.length_nil, Nat.reduceLeDiff, Nat.zero_add, iI_add, iI_sub, iI_mul, iI_neg, iI_lt, iI_le, iI_eq, jI_iI, B_True, B_False, B_t, B_f, ck_True, gd_True, cb_v, cb_n, p_mv_rw, p_fv_rw, p_rv_some, pA_1, pA_90, pA_92, pA_3, pA_5, pA_93, pA_4, pA_91, pA_6, pS_i, pB_i, pW_i, pZ_0, pZ_1, pZ_b, bI_e0, u1_s, u1_n, uA_s, uA_n, true_and, and_true, not_true_eq_false, not_false_eq_true, eq_self, iI_z, al1, al5, al3, al4, al90, al91, al92, al93, al6, Int.cast_ofNat_Int, Nat.reduceAdd, Int.reduceNeg, Int.reduceAdd, Int.reduceSub, Int.reduceMul, Int.reduceLT, Int.reduceLE, Int.reduceGT, Int.reduceGE, Int.reduceEq, Int.reduceNe, Nat.reduceEqDiff, Int.zero_add, Int.add_zero, p_ty0, p_ty1, p_ty2, p_ty3, p_ty4, p_ty5, p_ty8, p_ty9, p_ty10, t0, h1, gd_t, B_t, B_f]
  have h9 := key 2000 0 p (by omega) (by omega) (by omega)
  rw [← h9]
  clear h9 key hS hT
  simp (disch := omega) only [x_X4_behindBlanks_0, x_X4_behindBlanks_1, x_X4_behindBlanks_2, x_X4_behindBlanks_3, List.length_cons, List.length_nil, Nat.reduceLeDiff, Nat.zero_add, iI_add, iI_sub, iI_mul, iI_neg, iI_lt, iI_le, iI_eq, jI_iI, B_True, B_False, B_t, B_f, ck_True, gd_True, cb_v, cb_n, p_mv_rw, p_fv_rw, p_rv_some, pA_1, pA_90, pA_92, pA_3, pA_5, pA_93, pA_4, pA_91, pA_6, pS_i, pB_i, pW_i, pZ_0, pZ_1, pZ_b, bI_e0, u1_s, u1_n, uA_s, uA_n, true_and, and_true, not_true_eq_false, not_false_eq_true, eq_self, iI_z, al1, al5, al3, al4, al90, al91, al92, al93, al6, Int.cast_ofNat_Int, Nat.reduceAdd, Int.reduceNeg, Int.reduceAdd, Int.reduceSub, Int.reduceMul, Int.reduceLT, Int.reduceLE, Int.reduceGT, Int.reduceGE, Int.reduceEq, Int.reduceNe, Nat.reduceEqDiff, Int.zero_add, Int.add_zero, p_ty0, p_ty1, p_ty2, p_ty3, p_ty4, p_ty5, p_ty8, p_ty9, p_ty10]
theorem c_token (hT : TT T F a) (hS : TS M a bs z) (hd : 3 ≤ d) (hp : 0 ≤ p ∧ p ≤ 2000) : callD d m_X4_behindToken [.ref a, .int (iI p)] T M F = some (.inl (some (.int (iI (t_end bs z p)))), T, M, F) := by
  refine callD_go 2 hd rfl (fun e he => ?_)
  show R e m_X4_behindToken 0 [.val (.ref a), .val (.int (iI p)), .unset, .unset] [] T M F = _
  have t0 := hT.2.1
  have key : ∀ (n : Nat) (k x : Int), k + n = 2000 → 0 ≤ k → (0 ≤ x ∧ x ≤ 2001 + k) → R e m_X4_behindToken 18 [.val (.ref a), .val (.int (iI p)), .val (.int (iI x)), .val (.int (iI k))] [] T M F = some (.inl (some (.int (iI (t_tk bs z n x)))), T, M, F) := by
    intro n
    induction n with
    | zero =>
      intro k x hk h0 hx
      rw [t_tk]
      clear hS hT
      simp (disch := omega) only [x_X4_behindToken_18, x_X4_behindToken_19, x_X4_behindToken_22, x_X4_behindToken_50, x_X4_behindToken_51, List.length_cons, List.length_nil, Nat.reduceLeDiff, Nat.zero_add, iI_add, iI_sub, iI_mul, iI_neg, iI_lt, iI_le, iI_eq, jI_iI, B_True, B_False, B_t, B_f, ck_True, gd_True, cb_v, cb_n, p_mv_rw, p_fv_rw, p_rv_some, pA_1, pA_90, pA_92, pA_3, pA_5, pA_93, pA_4, pA_91, pA_6, pS_i, pB_i, pW_i, pZ_0, pZ_1, pZ_b, bI_e0, u1_s, u1_n, uA_s, uA_n, true_and, and_true, not_true_eq_false, not_false_eq_true, eq_self, iI_z, al1, al5, al3, al4, al90, al91, al92, al93, al6, Int.cast_ofNat_Int, Nat.reduceAdd, Int.reduceNeg, Int.reduceAdd, Int.reduceSub, Int.reduceMul, Int.reduceLT, Int.reduceLE, Int.reduceGT, Int.reduceGE, Int.reduceEq, Int.reduceNe, Nat.reduceEqDiff, Int.zero_add, Int.add_zero, p_ty0, p_ty1, p_ty2, p_ty3, p_ty4, p_ty5, p_ty8, p_ty9, p_ty10, B_t, B_f]
    | succ n ih =>
      intro k x hk h0 hx
      have h1 := c_isLetter (d := e) (p := x) hT hS (by omega) (by omega)
      have h2 := c_isDigit (d := e) (p := x) hT hS (by omega) (by omega)
      have ih := ih (k + 1) (x + 1) (by omega) (by omega) (by omega)
      rw [t_tk]
      clear hS hT
      by_cases c1 : t_L (t_b bs z x)
      · rw [if_pos (Or.inl c1), ← ih, x_X4_behindToken_18]
        rw [bI_t c1] at h1
        simp (disch := omega) only [x_X4_behindToken_19, x_X4_behindToken_22, x_X4_behindToken_25, x_X4_behindToken_26, x_X4_behindToken_27, x_X4_behindToken_30, x_X4_behindToken_33, x_X4_behindToken_34, x_X4_behindToken_35, x_X4_behindToken_38, x_X4_behindToken_41, x_X4_behindToken_44, x_X4_behindToken_47, List.length_cons, List.length_nil, Nat.reduceLeDiff, Nat.zero_add, iI_add, iI_sub, iI_mul, iI_neg, iI_lt, iI_le, iI_eq, jI_iI, B_True, B_False, B_t, B_f, ck_True, gd_True, cb_v, cb_n, p_mv_rw, p_fv_rw, p_rv_some, pA_1, pA_90, pA_92, pA_3, pA_5, pA_93, pA_4, pA_91, pA_6, pS_i, pB_i, pW_i, pZ_0, pZ_1, pZ_b, bI_e0, u1_s, u1_n, uA_s, uA_n, true_and, and_true, not_true_eq_false, not_false_eq_true, eq_self, iI_z, al1, al5, al3, al4, al90, al91, al92, al93, al6, Int.cast_ofNat_Int, Nat.reduceAdd, Int.reduceNeg, Int.reduceAdd, Int.reduceSub, Int.reduceMul, Int.reduceLT, Int.reduceLE, Int.reduceGT, Int.reduceGE, Int.reduceEq, Int.reduceNe, Nat.reduceEqDiff, Int.zero_add, Int.add_zero, p_ty0, p_ty1, p_ty2, p_ty3, p_ty4, p_ty5, p_ty8, p_ty9, p_ty10, t0, h1, gd_t, B_t, B_f]
      · rw [bI_f c1] at h1
        by_cases c2 : t_D (t_b bs z x)
        · rw [bI_t c2] at h2
          rw [if_pos (Or.inr c2), ← ih, x_X4_behindToken_18]
          simp (disch := omega) only [x_X4_behindToken_19, x_X4_behindToken_22, x_X4_behindToken_25, x_X4_behindToken_26, x_X4_behindToken_27, x_X4_behindToken_30, x_X4_behindToken_33, x_X4_behindToken_34, x_X4_behindToken_35, x_X4_behindToken_38, x_X4_behindToken_41, x_X4_behindToken_44, x_X4_behindToken_47, List.length_cons, List.length_nil, Nat.reduceLeDiff, Nat.zero_add, iI_add, iI_sub, iI_mul, iI_neg, iI_lt, iI_le, iI_eq, jI_iI, B_True, B_False, B_t, B_f, ck_True, gd_True, cb_v, cb_n, p_mv_rw, p_fv_rw, p_rv_some, pA_1, pA_90, pA_92, pA_3, pA_5, pA_93, pA_4, pA_91, pA_6, pS_i, pB_i, pW_i, pZ_0, pZ_1, pZ_b, bI_e0, u1_s, u1_n, uA_s, uA_n, true_and, and_true, not_true_eq_false, not_false_eq_true, eq_self, iI_z, al1, al5, al3, al4, al90, al91, al92, al93, al6, Int.cast_ofNat_Int, Nat.reduceAdd, Int.reduceNeg, Int.reduceAdd, Int.reduceSub, Int.reduceMul, Int.reduceLT, Int.reduceLE, Int.reduceGT, Int.reduceGE, Int.reduceEq, Int.reduceNe, Nat.reduceEqDiff, Int.zero_add, Int.add_zero, p_ty0, p_ty1, p_ty2, p_ty3, p_ty4, p_ty5, p_ty8, p_ty9, p_ty10, t0, h1, h2, gd_t, B_t, B_f]
        · rw [bI_f c2] at h2
          rw [if_neg (by rintro (q | q) <;> contradiction), x_X4_behindToken_18]
          clear ih
          simp (disch := omega) only [x_X4_behindToken_19, x_X4_behindToken_22, x_X4_behindToken_25, x_X4_behindToken_26, x_X4_behindToken_27, x_X4_behindToken_30, x_X4_behindToken_33, x_X4_behindToken_34, x_X4_behindToken_35, x_X4_behindToken_38, x_X4_behindToken_41, x_X4_behindToken_44, x_X4_behindToken_47, x_X4_behindToken_50, x_X4_behindToken_51, List.length_cons, List.length_nil, Nat.reduceLeDiff, Nat.zero_add, iI_add, iI_sub, iI_mul, iI_neg, iI_lt, iI_le, iI_eq, jI_iI, B_True, B_False, B_t, B_f, ck_True, gd_True, cb_v, cb_n, p_mv_rw, p_fv_rw, p_rv_some, pA_1, pA_90, pA_92, pA_3, pA_5, pA_93, pA_4, pA_91, pA_6, pS_i, pB_i, pW_i, pZ_0, pZ_1, pZ_b, bI_e0, u1_s, u1_n, uA_s, uA_n, true_and, and_true, not_true_eq_false, not_false_eq_true, eq_self, iI_z, al1, al5, al3, al4, al90, al91, al92, al93, al6, Int.cast_ofNat_Int, Nat.reduceAdd, Int.reduceNeg, Int.reduceAdd, Int.reduceSub, Int.reduceMul, Int.reduceLT, Int.reduceLE, Int.reduceGT, Int.reduceGE, Int.reduceEq, Int.reduceNe, Nat.reduceEqDiff, Int.zero_add, Int.add_zero, p_ty0, p_ty1, p_ty2, p_ty3, p_ty4, p_ty5, p_ty8, p_ty9, p_ty10, t0, h1, h2, gd_t, B_t, B_f]
  have h1 := c_isLetter (d := e) (p := p) hT hS (by omega) (by omega)
  have h9 := key 2000 0 (p + 1) (by omega) (by omega) (by omega)
  unfold t_end
  clear key hS hT
  by_cases c1 : t_L (t_b bs z p)
  · rw [bI_t c1] at h1
    rw [if_pos c1, ← h9]
    clear h9
    simp (disch := omega) only [x_X4_behindToken_0, x_X4_behindToken_1, x_X4_behindToken_2, x_X4_behindToken_5, x_X4_behindToken_8, x_X4_behindToken_9, x_X4_behindToken_10, x_X4_behindToken_11, x_X4_behindToken_12, x_X4_behindToken_13, x_X4_behindToken_14, x_X4_behindToken_15, x_X4_behindToken_16, x_X4_behindToken_17, List.length_cons, List.length_nil, Nat.reduceLeDiff, Nat.zero_add, iI_add, iI_sub, iI_mul, iI_neg, iI_lt, iI_le, iI_eq, jI_iI, B_True, B_False, B_t, B_f, ck_True, gd_True, cb_v, cb_n, p_mv_rw, p_fv_rw, p_rv_some, pA_1, pA_90, pA_92, pA_3, pA_5, pA_93, pA_4, pA_91, pA_6, pS_i, pB_i, pW_i, pZ_0, pZ_1, pZ_b, bI_e0, u1_s, u1_n, uA_s, uA_n, true_and, and_true, not_true_eq_false, not_false_eq_true, eq_self, iI_z, al1, al5, al3, al4, al90, al91, al92, al93, al6, Int.cast_ofNat_Int, Nat.reduceAdd, Int.reduceNeg, Int.reduceAdd, Int.reduceSub, Int.reduceMul, Int.reduceLT, Int.reduceLE, Int.reduceGT, Int.reduceGE, Int.reduceEq, Int.reduceNe, Nat.reduceEqDiff, Int.zero_add, Int.add_zero, p_ty0, p_ty1, p_ty2, p_ty3, p_ty4, p_ty5, p_ty8, p_ty9, p_ty10, t0, h1, gd_t, B_t, B_f]
  · rw [bI_f c1] at h1
    rw [if_neg c1]
    clear h9
    simp (disch := omega) only [x_X4_behindToken_0, x_X4_behindToken_1, x_X4_behindToken_2, x_X4_behindToken_5, x_X4_behindToken_8, x_X4_behindToken_9, x_X4_behindToken_10, x_X4_behindToken_11, x_X4_behindToken_12, x_X4_behindToken_13, x_X4_behindToken_14, x_X4_behindToken_15, x_X4_behindToken_16, x_X4_behindToken_17, List.length_cons, List.length_nil, Nat.reduceLeDiff, Nat.zero_add, iI_add, iI_sub, iI_mul, iI_neg, iI_lt, iI_le, iI_eq, jI_iI, B_True, B_False, B_t, B_f, ck_True, gd_True, cb_v, cb_n, p_mv_rw, p_fv_rw, p_rv_some, pA_1, pA_90, pA_92, pA_3, pA_5, pA_93, pA_4, pA_91, pA_6, pS_i, pB_i, pW_i, pZ_0, pZ_1, pZ_b, bI_e0, u1_s, u1_n, uA_s, uA_n, true_and, and_true, not_true_eq_false, not_false_eq_true, eq_self, iI_z, al1, al5, al3, al4, al90, al91, al92, al93, al6, Int.cast_ofNat_Int, Nat.reduceAdd, Int.reduceNeg, Int.reduceAdd, Int.reduceSub, Int.reduceMul, Int.reduceLT, Int.reduceLE, Int.reduceGT, Int.reduceGE, Int.reduceEq, Int.reduceNe, Nat.reduceEqDiff, Int.zero_add, Int.add_zero, p_ty0, p_ty1, p_ty2, p_ty3, p_ty4, p_ty5, p_ty8, p_ty9, p_ty10, t0, h1, gd_t, B_t, B_f]
theorem c_shorten (hT : TT T F a) (hS : TS M a bs z) (hn : 0 ≤ n ∧ n ≤ 2000) : ∃ M', (∀ d, 1 ≤ d → callD d m_X4_shorten [.ref a, .int (iI n)] T M F = some (.inl none, T, M', F)) ∧ TS M' a bs n ∧ ∀ b, b ≠ a → M' b = M b := by
  refine ⟨uA M a (u1 (M a) 1 n), fun d hd => ?_, ⟨?_, ?_, hn, hS.2.2.2⟩, fun b hb => uA_n hb⟩
  · refine callD_go 0 hd rfl (fun e he => ?_)
    show R e m_X4_shorten 0 [.val (.ref a), .val (.int (iI n))] [] T M F = _
    obtain ⟨ha, t0, f0, t1⟩ := hT
    clear hS
    simp (disch := omega) only [x_X4_shorten_0, x_X4_shorten_1, x_X4_shorten_2, x_X4_shorten_5, List.length_cons, List.length_nil, Nat.reduceLeDiff, Nat.zero_add, iI_add, iI_sub, iI_mul, iI_neg, iI_lt, iI_le, iI_eq, jI_iI, B_True, B_False, B_t, B_f, ck_True, gd_True, cb_v, cb_n, p_mv_rw, p_fv_rw, p_rv_some, pA_1, pA_90, pA_92, pA_3, pA_5, pA_93, pA_4, pA_91, pA_6, pS_i, pB_i, pW_i, pZ_0, pZ_1, pZ_b, bI_e0, u1_s, u1_n, uA_s, uA_n, true_and, and_true, not_true_eq_false, not_false_eq_true, eq_self, iI_z, al1, al5, al3, al4, al90, al91, al92, al93, al6, Int.cast_ofNat_Int, Nat.reduceAdd, Int.reduceNeg, Int.reduceAdd, Int.reduceSub, Int.reduceMul, Int.reduceLT, Int.reduceLE, Int.reduceGT, Int.reduceGE, Int.reduceEq, Int.reduceNe, Nat.reduceEqDiff, Int.zero_add, Int.add_zero, p_ty0, p_ty1, p_ty2, p_ty3, p_ty4, p_ty5, p_ty8, p_ty9, p_ty10, t0, gd_t]
  · rw [uA_n (by omega)]; exact hS.1
  · rw [uA_s, u1_s]
/-- one more byte -/
def t_put (bs : Int → Int) (z x : Int) : Int → Int := u1 bs z x
theorem c_appB (hT : TT T F a) (hS : TS M a bs z) (hz : z < 2000) (hx : 0 ≤ n ∧ n < 256) : ∃ M', (∀ d, 1 ≤ d → callD d m_X4_appendByte [.ref a, .int (iI n)] T M F = some (.inl none, T, M', F)) ∧ TS M' a (u1 bs z n) (z + 1) ∧ ∀ b, b ≠ a → b ≠ a + 1 → M' b = M b := by
  obtain ⟨h1, h2, h3, h4⟩ := hS
  refine ⟨uA (uA M (a + 1) (u1 (M (a + 1)) z n)) a (u1 (M a) 1 (z + 1)), fun d hd => ?_, ⟨?_, ?_, by omega, fun i => ?_⟩, fun b hb hb2 => ?_⟩
  · refine callD_go 0 hd rfl (fun e he => ?_)
    show R e m_X4_appendByte 0 [.val (.ref a), .val (.int (iI n))] [] T M F = _
    obtain ⟨ha, t0, f0, t1⟩ := hT
    clear h4
    simp (disch := omega) only [x_X4_appendByte_0, x_X4_appendByte_1, x_X4_appendByte_4, x_X4_appendByte_7, x_X4_appendByte_8, x_X4_appendByte_11, x_X4_appendByte_12, x_X4_appendByte_15, x_X4_appendByte_16, x_X4_appendByte_19, x_X4_appendByte_20, x_X4_appendByte_23, x_X4_appendByte_24, x_X4_appendByte_27, x_X4_appendByte_28, x_X4_appendByte_29, x_X4_appendByte_30, x_X4_appendByte_31, x_X4_appendByte_34, x_X4_appendByte_35, x_X4_appendByte_36, x_X4_appendByte_39, List.length_cons, List.length_nil, Nat.reduceLeDiff, Nat.zero_add, iI_add, iI_sub, iI_mul, iI_neg, iI_lt, iI_le, iI_eq, jI_iI, B_True, B_False, B_t, B_f, ck_True, gd_True, cb_v, cb_n, p_mv_rw, p_fv_rw, p_rv_some, pA_1, pA_90, pA_92, pA_3, pA_5, pA_93, pA_4, pA_91, pA_6, pS_i, pB_i, pW_i, pZ_0, pZ_1, pZ_b, bI_e0, u1_s, u1_n, uA_s, uA_n, true_and, and_true, not_true_eq_false, not_false_eq_true, eq_self, iI_z, al1, al5, al3, al4, al90, al91, al92, al93, al6, Int.cast_ofNat_Int, Nat.reduceAdd, Int.reduceNeg, Int.reduceAdd, Int.reduceSub, Int.reduceMul, Int.reduceLT, Int.reduceLE, Int.reduceGT, Int.reduceGE, Int.reduceEq, Int.reduceNe, Nat.reduceEqDiff, Int.zero_add, Int.add_zero, p_ty0, p_ty1, p_ty2, p_ty3, p_ty4, p_ty5, p_ty8, p_ty9, p_ty10, t0, f0, t1, h2, gd_t, B_t, B_f]
  · rw [uA_n (by omega), uA_s, h1]
  · rw [uA_s, u1_s]
  · unfold u1
    have := h4 i
    split <;> omega
  · rw [uA_n hb, uA_n hb2]
def t_p4 (bs : Int → Int) (z : Int) (x : Int32) : Int → Int := u1 (u1 (u1 (u1 bs z (nbt x 0)) (z + 1) (nbt x 1)) (z + 1 + 1) (nbt x 2)) (z + 1 + 1 + 1) (nbt x 3)
theorem c_append (hT : TT T F a) (hS : TS M a bs z) (hz : z + 4 ≤ 2000) (x : Int32) : ∃ M', (∀ d, 2 ≤ d → callD d m_X4_append [.ref a, .int x] T M F = some (.inl none, T, M', F)) ∧ TS M' a (t_p4 bs z x) (z + 4) ∧ ∀ b, b ≠ a → b ≠ a + 1 → M' b = M b := by
  obtain ⟨M1, r1, S1, f1⟩ := c_appB hT hS (by omega) (nbt_rg x 0)
  obtain ⟨M2, r2, S2, f2⟩ := c_appB hT S1 (by omega) (nbt_rg x 1)
  obtain ⟨M3, r3, S3, f3⟩ := c_appB hT S2 (by omega) (nbt_rg x 2)
  obtain ⟨M4, r4, S4, f4⟩ := c_appB hT S3 (by omega) (nbt_rg x 3)
  rw [show z + 1 + 1 + 1 + 1 = z + 4 by omega] at S4
  refine ⟨M4, fun d hd => ?_, S4, fun b b1 b2 => ?_⟩
  · refine callD_go 1 hd rfl (fun e he => ?_)
    show R e m_X4_append 0 [.val (.ref a), .val (.int x)] [] T M F = _
    have r1 := r1 e he
    have r2 := r2 e he
    have r3 := r3 e he
    have r4 := r4 e he
    have t0 := hT.2.1
    clear S1 S2 S3 S4 f1 f2 f3 f4 hS hT
    simp (disch := omega) only [x_X4_append_0, x_X4_append_1, x_X4_append_2, x_X4_append_4, x_X4_append_5, x_X4_append_8, x_X4_append_9, x_X4_append_10, x_X4_append_12, x_X4_append_13, x_X4_append_16, x_X4_append_17, x_X4_append_20, x_X4_append_21, x_X4_append_22, x_X4_append_24, x_X4_append_25, x_X4_append_28, x_X4_append_29, x_X4_append_32, x_X4_append_33, x_X4_append_34, x_X4_append_37, x_X4_append_38, x_X4_append_41, List.length_cons, List.length_nil, Nat.reduceLeDiff, Nat.zero_add, iI_add, iI_sub, iI_mul, iI_neg, iI_lt, iI_le, iI_eq, jI_iI, B_True, B_False, B_t, B_f, ck_True, gd_True, cb_v, cb_n, p_mv_rw, p_fv_rw, p_rv_some, pA_1, pA_90, pA_92, pA_3, pA_5, pA_93, pA_4, pA_91, pA_6, pS_i, pB_i, pW_i, pZ_0, pZ_1, pZ_b, bI_e0, u1_s, u1_n, uA_s, uA_n, true_and, and_true, not_true_eq_false, not_false_eq_true, eq_self, iI_z, al1, al5, al3, al4, al90, al91, al92, al93, al6, Int.cast_ofNat_Int, Nat.reduceAdd, Int.reduceNeg, Int.reduceAdd, Int.reduceSub, Int.reduceMul, Int.reduceLT, Int.reduceLE, Int.reduceGT, Int.reduceGE, Int.reduceEq, Int.reduceNe, Nat.reduceEqDiff, Int.zero_add, Int.add_zero, p_ty0, p_ty1, p_ty2, p_ty3, p_ty4, p_ty5, p_ty8, p_ty9, p_ty10, t0, nbt0, nbt1, nbt2, nbt3 x, r1, r2, r3, r4, gd_t]
  · rw [f4 b b1 b2, f3 b b1 b2, f2 b b1 b2, f1 b b1 b2]
end PTAP
