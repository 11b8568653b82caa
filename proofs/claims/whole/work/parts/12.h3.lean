section PH3
/-! the model: its cells, its geometry -/
def YT (T : pT) (F : pF) (bd lg N : Nat) : Prop := p_ty T 127 = (18, 24) ∧ p_ty T 128 = (1, 2000) ∧ F 127 1 = some 128 ∧ p_ty T 129 = (1, 91) ∧ F 127 4 = some 129 ∧ p_ty T 130 = (1, 91) ∧ F 127 5 = some 130 ∧ p_ty T 131 = (1, 12) ∧ F 127 6 = some 131 ∧ p_ty T 132 = (1, 1092) ∧ F 127 7 = some 132 ∧ p_ty T 133 = (1, 1092) ∧ F 127 8 = some 133 ∧ p_ty T 136 = (2, 91) ∧ F 127 15 = some 136 ∧ p_ty T 137 = (1, 2000) ∧ F 127 16 = some 137 ∧ p_ty T 138 = (1, 2000) ∧ F 127 17 = some 138 ∧ p_ty T 139 = (1, 91) ∧ F 127 18 = some 139 ∧ p_ty T 140 = (1, 91) ∧ F 127 19 = some 140 ∧ p_ty T 141 = (1, 401) ∧ F 127 20 = some 141 ∧ p_ty T 142 = (1, 401) ∧ F 127 21 = some 142 ∧ p_ty T 143 = (1, 401) ∧ F 127 22 = some 143 ∧ 100 ≤ bd ∧ p_ty T bd = (1, 91) ∧ F 127 9 = some bd ∧ 100 ≤ lg ∧ p_ty T lg = (1, N) ∧ F 127 13 = some lg ∧ 448 ≤ N
def gx (k : Int) : Int := q_pl k / 17 - 8
def gy (k : Int) : Int := q_pl k % 17 - 8
def gn (k d : Int) : Int := q_cel (q_pl k + p_roM 2 d)
def gj (k d : Int) : Int := q_cel (q_pl k + p_roM 3 d)
def YG (M : pM) : Prop := (∀ k, 0 ≤ k → k < 91 → M 129 k = gx k) ∧ (∀ k, 0 ≤ k → k < 91 → M 130 k = gy k) ∧ (∀ c, 0 ≤ c → c < 11 → M 131 c = p_roM 1 c) ∧ (∀ k i, 0 ≤ k → k < 91 → 0 ≤ i → i < 12 → M 132 (12 * k + i) = gn k i) ∧ (∀ k i, 0 ≤ k → k < 91 → 0 ≤ i → i < 12 → M 133 (12 * k + i) = gj k i)
def MB (b : Int → Int) : Prop := ∀ k, b k = 0 ∨ (1 ≤ b k ∧ b k ≤ 6) ∨ (11 ≤ b k ∧ b k ≤ 16)
set_option maxRecDepth 20000 in
theorem gn_rgN : ∀ k : Nat, k < 91 → ∀ i : Nat, i < 12 → (-1 ≤ gn (k : Int) (i : Int) ∧ gn (k : Int) (i : Int) < 91) ∧ (-1 ≤ gj (k : Int) (i : Int) ∧ gj (k : Int) (i : Int) < 91) := by decide +kernel
theorem gn_rg {k i : Int} (h : 0 ≤ k ∧ k < 91) (hi : 0 ≤ i ∧ i < 12) : -1 ≤ gn k i ∧ gn k i < 91 := by
  have h2 := (gn_rgN k.toNat (by omega) i.toNat (by omega)).1
  rwa [Int.toNat_of_nonneg h.1, Int.toNat_of_nonneg hi.1] at h2
theorem gj_rg {k i : Int} (h : 0 ≤ k ∧ k < 91) (hi : 0 ≤ i ∧ i < 12) : -1 ≤ gj k i ∧ gj k i < 91 := by
  have h2 := (gn_rgN k.toNat (by omega) i.toNat (by omega)).2
  rwa [Int.toNat_of_nonneg h.1, Int.toNat_of_nonneg hi.1] at h2
theorem gxy_N : ∀ k : Nat, k < 91 → (-5 ≤ gx (k : Int) ∧ gx (k : Int) ≤ 5) ∧ (-5 ≤ gy (k : Int) ∧ gy (k : Int) ≤ 5) := by decide +kernel
theorem gxy_rg {k : Int} (h : 0 ≤ k ∧ k < 91) : (-5 ≤ gx k ∧ gx k ≤ 5) ∧ (-5 ≤ gy k ∧ gy k ≤ 5) := by
  have h2 := gxy_N k.toNat (by omega)
  rwa [Int.toNat_of_nonneg h.1] at h2
def m_on (b : Int → Int) (c : Int) : Int := if c = -1 then -1 else b c
def m_st (c i : Int) : Int := if c = -1 then -1 else gn c i
def m_tk (s k : Int) : Int := if s = 0 then (if k = 0 then 1 else 5) else if k = 0 then 4 else 2
def m_side (x : Int) : Int := if x = 0 then -1 else x / 10
def m_ah (s : Int) : Int := if s = 0 then 0 else 3
def m_wor (x : Int) : Int := if x = 2 then 10 else if x = 3 then 5 else if x = 5 then 4 else if x = 4 then 3 else if x = 6 then 1 else 0
def m_fst (k s : Int) : Prop := -4 ≤ gx k ∧ gx k ≤ 4 ∧ gy k = if s = 0 then (if 0 < gx k then -1 - gx k else -1) else (if gx k < 0 then 1 - gx k else 1)
def m_kg (b : Int → Int) (s : Int) : Nat → Int → Int
  | 0, _ => -1
  | n + 1, k => if b k = 10 * s + 1 then k else m_kg b s n (k + 1)
def m_king (b : Int → Int) (s : Int) : Int := m_kg b s 91 0
def rayC (b : Int → Int) (i : Int) : Nat → Int → Int
  | 0, c => c
  | n + 1, c => if c = -1 ∨ b c ≠ 0 then c else rayC b i n (gn c i)
def rayO (i : Int) : Nat → Int → Bool
  | 0, c => decide (c = -1)
  | n + 1, c => decide (c = -1) || rayO i n (gn c i)
set_option maxRecDepth 20000 in
theorem rayO_N : ∀ k : Nat, k < 91 → ∀ i : Nat, i < 12 → rayO (i : Int) 16 (gn (k : Int) (i : Int)) = true := by decide +kernel
theorem rayO_ok {k i : Int} (h : 0 ≤ k ∧ k < 91) (hi : 0 ≤ i ∧ i < 12) : rayO i 16 (gn k i) = true := by
  have h2 := rayO_N k.toNat (by omega) i.toNat (by omega)
  rwa [Int.toNat_of_nonneg h.1, Int.toNat_of_nonneg hi.1] at h2
theorem rayC_rg {b : Int → Int} {i : Int} (hi : 0 ≤ i ∧ i < 12) : ∀ (n : Nat) (c : Int), -1 ≤ c ∧ c < 91 → -1 ≤ rayC b i n c ∧ rayC b i n c < 91
  | 0, c, h => h
  | n + 1, c, h => by
    unfold rayC
    split
    · exact h
    · exact rayC_rg hi n _ (gn_rg (by omega) hi)
noncomputable def m_sl (b : Int → Int) (k s i : Int) : Int := bI (m_on b (rayC b i 16 (gn k i)) = 10 * s + 2 ∨ m_on b (rayC b i 16 (gn k i)) = 10 * s + (if i < 6 then 3 else 4))
noncomputable def m_kk (b : Int → Int) (k s i : Int) : Int := bI (m_on b (gn k i) = 10 * s + 1) + bI (m_on b (gj k i) = 10 * s + 5)
noncomputable def m_pn (b : Int → Int) (k s i : Int) : Int := bI (m_on b (m_st k (m_tk (1 - s) i)) = 10 * s + 6)
noncomputable def m_att (b : Int → Int) (k s : Int) : Int := sm (m_sl b k s) 12 + sm (m_kk b k s) 12 + sm (m_pn b k s) 2
theorem m_on_rg {b : Int → Int} (hb : MB b) (c : Int) : -1 ≤ m_on b c ∧ m_on b c ≤ 16 := by
  unfold m_on
  have h := hb c
  split <;> omega
variable {d : Nat} {T : pT} {M : pM} {F : pF} {bd lg N : Nat} {p s k : Int}
theorem y_abs {n : Int} (hd : 1 ≤ d) (h : -1000000 ≤ n ∧ n ≤ 1000000) : callD d m_J9_abs_0f7a4 [.int (iI n)] T M F = some (.inl (some (.int (iI (if n < 0 then -n else n)))), T, M, F) := by
  refine callD_go 0 hd rfl (fun e he => ?_)
  show R e m_J9_abs_0f7a4 0 [.val (.int (iI n))] [] T M F = _
  repeat' (first | (refine B_splitn (fun _ => ?_) (fun _ => ?_)) | (refine B_split (fun _ => ?_) (fun _ => ?_)) | (simp (disch := omega) only [x_J9_abs_0f7a4_0, x_J9_abs_0f7a4_1, x_J9_abs_0f7a4_4, x_J9_abs_0f7a4_5, x_J9_abs_0f7a4_6, x_J9_abs_0f7a4_9, x_J9_abs_0f7a4_10, List.length_cons, List.length_nil, Nat.reduceLeDiff, Nat.zero_add, iI_add, iI_sub, iI_mul, iI_neg, iI_lt, iI_le, iI_eq, jI_iI, B_True, B_False, B_t, B_f, ck_True, gd_True, cb_v, cb_n, p_mv_rw, p_fv_rw, p_rv_some, pA_1, pA_90, pA_92, pA_3, pA_2, pA_93, pA_4, pA_91, pA_95, pS_i, pW_i, pZ_0, pZ_1, pZ_b, bI_e0, u1_s, u1_n, uA_s, uA_n, true_and, and_true, not_true_eq_false, not_false_eq_true, eq_self, iI_z, al1, al2, al3, al4, al90, al91, al92, al93, al95, Int.cast_ofNat_Int, Nat.reduceAdd, Int.reduceNeg, Int.reduceAdd, Int.reduceSub, Int.reduceMul, Int.reduceLT, Int.reduceLE, Int.reduceGT, Int.reduceGE, Int.reduceEq, Int.reduceNe, Nat.reduceEqDiff, Int.zero_add, Int.add_zero, p_ty0, p_ty1, p_ty2, p_ty3, p_ty4, p_ty5, p_ty6, p_ty7, p_ty8, p_ty9, p_ty10, p_ty11]))
  all_goals exact ri (by split <;> omega)
theorem y_max {a n : Int} (hd : 1 ≤ d) (h : -1000000 ≤ n ∧ n ≤ 1000000) (ha : -1000000 ≤ a ∧ a ≤ 1000000) : callD d m_J9_max_7cf53 [.int (iI a), .int (iI n)] T M F = some (.inl (some (.int (iI (if a < n then n else a)))), T, M, F) := by
  refine callD_go 0 hd rfl (fun e he => ?_)
  show R e m_J9_max_7cf53 0 [.val (.int (iI a)), .val (.int (iI n))] [] T M F = _
  repeat' (first | (refine B_splitn (fun _ => ?_) (fun _ => ?_)) | (refine B_split (fun _ => ?_) (fun _ => ?_)) | (simp (disch := omega) only [x_J9_max_7cf53_0, x_J9_max_7cf53_1, x_J9_max_7cf53_2, x_J9_max_7cf53_5, x_J9_max_7cf53_6, x_J9_max_7cf53_9, x_J9_max_7cf53_10, List.length_cons, List.length_nil, Nat.reduceLeDiff, Nat.zero_add, iI_add, iI_sub, iI_mul, iI_neg, iI_lt, iI_le, iI_eq, jI_iI, B_True, B_False, B_t, B_f, ck_True, gd_True, cb_v, cb_n, p_mv_rw, p_fv_rw, p_rv_some, pA_1, pA_90, pA_92, pA_3, pA_2, pA_93, pA_4, pA_91, pA_95, pS_i, pW_i, pZ_0, pZ_1, pZ_b, bI_e0, u1_s, u1_n, uA_s, uA_n, true_and, and_true, not_true_eq_false, not_false_eq_true, eq_self, iI_z, al1, al2, al3, al4, al90, al91, al92, al93, al95, Int.cast_ofNat_Int, Nat.reduceAdd, Int.reduceNeg, Int.reduceAdd, Int.reduceSub, Int.reduceMul, Int.reduceLT, Int.reduceLE, Int.reduceGT, Int.reduceGE, Int.reduceEq, Int.reduceNe, Nat.reduceEqDiff, Int.zero_add, Int.add_zero, p_ty0, p_ty1, p_ty2, p_ty3, p_ty4, p_ty5, p_ty6, p_ty7, p_ty8, p_ty9, p_ty10, p_ty11]))
  all_goals exact ri (by split <;> omega)
theorem y_min {a n : Int} (hd : 1 ≤ d) (h : -1000000 ≤ n ∧ n ≤ 1000000) (ha : -1000000 ≤ a ∧ a ≤ 1000000) : callD d m_J9_min_7cf53 [.int (iI a), .int (iI n)] T M F = some (.inl (some (.int (iI (if n < a then n else a)))), T, M, F) := by
  refine callD_go 0 hd rfl (fun e he => ?_)
  show R e m_J9_min_7cf53 0 [.val (.int (iI a)), .val (.int (iI n))] [] T M F = _
  repeat' (first | (refine B_splitn (fun _ => ?_) (fun _ => ?_)) | (refine B_split (fun _ => ?_) (fun _ => ?_)) | (simp (disch := omega) only [x_J9_min_7cf53_0, x_J9_min_7cf53_1, x_J9_min_7cf53_2, x_J9_min_7cf53_5, x_J9_min_7cf53_6, x_J9_min_7cf53_9, x_J9_min_7cf53_10, List.length_cons, List.length_nil, Nat.reduceLeDiff, Nat.zero_add, iI_add, iI_sub, iI_mul, iI_neg, iI_lt, iI_le, iI_eq, jI_iI, B_True, B_False, B_t, B_f, ck_True, gd_True, cb_v, cb_n, p_mv_rw, p_fv_rw, p_rv_some, pA_1, pA_90, pA_92, pA_3, pA_2, pA_93, pA_4, pA_91, pA_95, pS_i, pW_i, pZ_0, pZ_1, pZ_b, bI_e0, u1_s, u1_n, uA_s, uA_n, true_and, and_true, not_true_eq_false, not_false_eq_true, eq_self, iI_z, al1, al2, al3, al4, al90, al91, al92, al93, al95, Int.cast_ofNat_Int, Nat.reduceAdd, Int.reduceNeg, Int.reduceAdd, Int.reduceSub, Int.reduceMul, Int.reduceLT, Int.reduceLE, Int.reduceGT, Int.reduceGE, Int.reduceEq, Int.reduceNe, Nat.reduceEqDiff, Int.zero_add, Int.add_zero, p_ty0, p_ty1, p_ty2, p_ty3, p_ty4, p_ty5, p_ty6, p_ty7, p_ty8, p_ty9, p_ty10, p_ty11]))
  all_goals exact ri (by split <;> omega)
theorem y_isIn {n a c : Int} (hd : 1 ≤ d) (h : -2147483648 ≤ n ∧ n < 2147483648) (ha : -2147483648 ≤ a ∧ a < 2147483648) (hc : -2147483648 ≤ c ∧ c < 2147483648) : callD d m_X8_isIn [.int (iI n), .int (iI a), .int (iI c)] T M F = some (.inl (some (.int (iI (bI (a ≤ n ∧ n ≤ c))))), T, M, F) := by
  refine callD_go 0 hd rfl (fun e he => ?_)
  show R e m_X8_isIn 0 [.val (.int (iI n)), .val (.int (iI a)), .val (.int (iI c))] [] T M F = _
  repeat' (first | (refine B_splitn (fun _ => ?_) (fun _ => ?_)) | (refine B_split (fun _ => ?_) (fun _ => ?_)) | (simp (disch := omega) only [x_X8_isIn_0, x_X8_isIn_1, x_X8_isIn_2, x_X8_isIn_5, x_X8_isIn_6, x_X8_isIn_7, x_X8_isIn_10, x_X8_isIn_11, x_X8_isIn_14, x_X8_isIn_15, List.length_cons, List.length_nil, Nat.reduceLeDiff, Nat.zero_add, iI_add, iI_sub, iI_mul, iI_neg, iI_lt, iI_le, iI_eq, jI_iI, B_True, B_False, B_t, B_f, ck_True, gd_True, cb_v, cb_n, p_mv_rw, p_fv_rw, p_rv_some, pA_1, pA_90, pA_92, pA_3, pA_2, pA_93, pA_4, pA_91, pA_95, pS_i, pW_i, pZ_0, pZ_1, pZ_b, bI_e0, u1_s, u1_n, uA_s, uA_n, true_and, and_true, not_true_eq_false, not_false_eq_true, eq_self, iI_z, al1, al2, al3, al4, al90, al91, al92, al93, al95, Int.cast_ofNat_Int, Nat.reduceAdd, Int.reduceNeg, Int.reduceAdd, Int.reduceSub, Int.reduceMul, Int.reduceLT, Int.reduceLE, Int.reduceGT, Int.reduceGE, Int.reduceEq, Int.reduceNe, Nat.reduceEqDiff, Int.zero_add, Int.add_zero, p_ty0, p_ty1, p_ty2, p_ty3, p_ty4, p_ty5, p_ty6, p_ty7, p_ty8, p_ty9, p_ty10, p_ty11]))
  all_goals first | exact rb1 (by omega) | exact rb0 (by omega)
theorem y_isCell {n : Int} (hd : 2 ≤ d) (h : -2147483648 ≤ n ∧ n < 2147483648) : callD d m_X8_isCell [.int (iI n)] T M F = some (.inl (some (.int (iI (bI (0 ≤ n ∧ n ≤ 90))))), T, M, F) := by
  refine callD_go 1 hd rfl (fun e he => ?_)
  show R e m_X8_isCell 0 [.val (.int (iI n))] [] T M F = _
  repeat' (first | (refine B_splitn (fun _ => ?_) (fun _ => ?_)) | (refine B_split (fun _ => ?_) (fun _ => ?_)) | (simp (disch := omega) only [x_X8_isCell_0, x_X8_isCell_1, x_X8_isCell_2, x_X8_isCell_4, x_X8_isCell_7, List.length_cons, List.length_nil, Nat.reduceLeDiff, Nat.zero_add, iI_add, iI_sub, iI_mul, iI_neg, iI_lt, iI_le, iI_eq, jI_iI, B_True, B_False, B_t, B_f, ck_True, gd_True, cb_v, cb_n, p_mv_rw, p_fv_rw, p_rv_some, pA_1, pA_90, pA_92, pA_3, pA_2, pA_93, pA_4, pA_91, pA_95, pS_i, pW_i, pZ_0, pZ_1, pZ_b, bI_e0, u1_s, u1_n, uA_s, uA_n, true_and, and_true, not_true_eq_false, not_false_eq_true, eq_self, iI_z, al1, al2, al3, al4, al90, al91, al92, al93, al95, Int.cast_ofNat_Int, Nat.reduceAdd, Int.reduceNeg, Int.reduceAdd, Int.reduceSub, Int.reduceMul, Int.reduceLT, Int.reduceLE, Int.reduceGT, Int.reduceGE, Int.reduceEq, Int.reduceNe, Nat.reduceEqDiff, Int.zero_add, Int.add_zero, p_ty0, p_ty1, p_ty2, p_ty3, p_ty4, p_ty5, p_ty6, p_ty7, p_ty8, p_ty9, p_ty10, p_ty11, y_isIn]))
theorem y_sizeOf {n : Int} (hd : 2 ≤ d) (h : -10000 ≤ n ∧ n ≤ 10000) : callD d m_X8_sizeOf [.int (iI n)] T M F = some (.inl (some (.int (iI (q_csz n)))), T, M, F) := by
  refine callD_go 1 hd rfl (fun e he => ?_)
  show R e m_X8_sizeOf 0 [.val (.int (iI n))] [] T M F = _
  repeat' (first | (refine B_splitn (fun _ => ?_) (fun _ => ?_)) | (refine B_split (fun _ => ?_) (fun _ => ?_)) | (simp (disch := omega) only [x_X8_sizeOf_0, x_X8_sizeOf_2, x_X8_sizeOf_3, x_X8_sizeOf_4, x_X8_sizeOf_5, x_X8_sizeOf_8, x_X8_sizeOf_9, List.length_cons, List.length_nil, Nat.reduceLeDiff, Nat.zero_add, iI_add, iI_sub, iI_mul, iI_neg, iI_lt, iI_le, iI_eq, jI_iI, B_True, B_False, B_t, B_f, ck_True, gd_True, cb_v, cb_n, p_mv_rw, p_fv_rw, p_rv_some, pA_1, pA_90, pA_92, pA_3, pA_2, pA_93, pA_4, pA_91, pA_95, pS_i, pW_i, pZ_0, pZ_1, pZ_b, bI_e0, u1_s, u1_n, uA_s, uA_n, true_and, and_true, not_true_eq_false, not_false_eq_true, eq_self, iI_z, al1, al2, al3, al4, al90, al91, al92, al93, al95, Int.cast_ofNat_Int, Nat.reduceAdd, Int.reduceNeg, Int.reduceAdd, Int.reduceSub, Int.reduceMul, Int.reduceLT, Int.reduceLE, Int.reduceGT, Int.reduceGE, Int.reduceEq, Int.reduceNe, Nat.reduceEqDiff, Int.zero_add, Int.add_zero, p_ty0, p_ty1, p_ty2, p_ty3, p_ty4, p_ty5, p_ty6, p_ty7, p_ty8, p_ty9, p_ty10, p_ty11, y_abs]))
  all_goals exact ri (by unfold q_csz; repeat' split <;> omega)
theorem y_piece {n : Int} (hd : 1 ≤ d) (h : 0 ≤ n ∧ n ≤ 10000) : callD d m_X8_pieceOf [.int (iI n)] T M F = some (.inl (some (.int (iI (n % 10)))), T, M, F) := by
  refine callD_go 0 hd rfl (fun e he => ?_)
  show R e m_X8_pieceOf 0 [.val (.int (iI n))] [] T M F = _
  repeat' (first | (refine B_splitn (fun _ => ?_) (fun _ => ?_)) | (refine B_split (fun _ => ?_) (fun _ => ?_)) | (simp (disch := omega) only [x_X8_pieceOf_0, x_X8_pieceOf_1, x_X8_pieceOf_3, x_X8_pieceOf_4, List.length_cons, List.length_nil, Nat.reduceLeDiff, Nat.zero_add, iI_add, iI_sub, iI_mul, iI_neg, iI_lt, iI_le, iI_eq, jI_iI, B_True, B_False, B_t, B_f, ck_True, gd_True, cb_v, cb_n, p_mv_rw, p_fv_rw, p_rv_some, pA_1, pA_90, pA_92, pA_3, pA_2, pA_93, pA_4, pA_91, pA_95, pS_i, pW_i, pZ_0, pZ_1, pZ_b, bI_e0, u1_s, u1_n, uA_s, uA_n, true_and, and_true, not_true_eq_false, not_false_eq_true, eq_self, iI_z, al1, al2, al3, al4, al90, al91, al92, al93, al95, Int.cast_ofNat_Int, Nat.reduceAdd, Int.reduceNeg, Int.reduceAdd, Int.reduceSub, Int.reduceMul, Int.reduceLT, Int.reduceLE, Int.reduceGT, Int.reduceGE, Int.reduceEq, Int.reduceNe, Nat.reduceEqDiff, Int.zero_add, Int.add_zero, p_ty0, p_ty1, p_ty2, p_ty3, p_ty4, p_ty5, p_ty6, p_ty7, p_ty8, p_ty9, p_ty10, p_ty11, iI_div]))
  all_goals exact ri (by omega)
theorem y_side {n : Int} (hd : 1 ≤ d) (h : 0 ≤ n ∧ n ≤ 10000) : callD d m_X8_sideOf [.int (iI n)] T M F = some (.inl (some (.int (iI (m_side n)))), T, M, F) := by
  refine callD_go 0 hd rfl (fun e he => ?_)
  show R e m_X8_sideOf 0 [.val (.int (iI n))] [] T M F = _
  repeat' (first | (refine B_splitn (fun _ => ?_) (fun _ => ?_)) | (refine B_split (fun _ => ?_) (fun _ => ?_)) | (simp (disch := omega) only [x_X8_sideOf_0, x_X8_sideOf_1, x_X8_sideOf_4, x_X8_sideOf_5, x_X8_sideOf_8, x_X8_sideOf_9, x_X8_sideOf_11, x_X8_sideOf_12, List.length_cons, List.length_nil, Nat.reduceLeDiff, Nat.zero_add, iI_add, iI_sub, iI_mul, iI_neg, iI_lt, iI_le, iI_eq, jI_iI, B_True, B_False, B_t, B_f, ck_True, gd_True, cb_v, cb_n, p_mv_rw, p_fv_rw, p_rv_some, pA_1, pA_90, pA_92, pA_3, pA_2, pA_93, pA_4, pA_91, pA_95, pS_i, pW_i, pZ_0, pZ_1, pZ_b, bI_e0, u1_s, u1_n, uA_s, uA_n, true_and, and_true, not_true_eq_false, not_false_eq_true, eq_self, iI_z, al1, al2, al3, al4, al90, al91, al92, al93, al95, Int.cast_ofNat_Int, Nat.reduceAdd, Int.reduceNeg, Int.reduceAdd, Int.reduceSub, Int.reduceMul, Int.reduceLT, Int.reduceLE, Int.reduceGT, Int.reduceGE, Int.reduceEq, Int.reduceNe, Nat.reduceEqDiff, Int.zero_add, Int.add_zero, p_ty0, p_ty1, p_ty2, p_ty3, p_ty4, p_ty5, p_ty6, p_ty7, p_ty8, p_ty9, p_ty10, p_ty11, iI_div]))
  all_goals exact ri (by unfold m_side; split <;> first | rfl | omega)
theorem y_worth {n : Int} (hd : 1 ≤ d) (h : 0 ≤ n ∧ n ≤ 6) : callD d m_X8_worth [.int (iI n)] T M F = some (.inl (some (.int (iI (m_wor n)))), T, M, F) := by
  refine callD_go 0 hd rfl (fun e he => ?_)
  show R e m_X8_worth 0 [.val (.int (iI n))] [] T M F = _
  have h7 : n = 0 ∨ n = 1 ∨ n = 2 ∨ n = 3 ∨ n = 4 ∨ n = 5 ∨ n = 6 := by omega
  rcases h7 with rfl | rfl | rfl | rfl | rfl | rfl | rfl
  · rw [x_X8_worth_0, x_X8_worth_1]; exact x_X8_worth_47.trans x_X8_worth_48
  · rw [x_X8_worth_0, x_X8_worth_1]; exact x_X8_worth_47.trans x_X8_worth_48
  · rw [x_X8_worth_0, x_X8_worth_1]; exact x_X8_worth_36.trans x_X8_worth_38
  · rw [x_X8_worth_0, x_X8_worth_1]; exact x_X8_worth_39.trans x_X8_worth_40
  · rw [x_X8_worth_0, x_X8_worth_1]; exact x_X8_worth_43.trans x_X8_worth_44
  · rw [x_X8_worth_0, x_X8_worth_1]; exact x_X8_worth_41.trans x_X8_worth_42
  · rw [x_X8_worth_0, x_X8_worth_1]; exact x_X8_worth_45.trans x_X8_worth_46
theorem y_ahead (hd : 1 ≤ d) (h : s = 0 ∨ s = 1) : callD d m_X8_ahead [.int (iI s)] T M F = some (.inl (some (.int (iI (m_ah s)))), T, M, F) := by
  refine callD_go 0 hd rfl (fun e he => ?_)
  show R e m_X8_ahead 0 [.val (.int (iI s))] [] T M F = _
  repeat' (first | (refine B_splitn (fun _ => ?_) (fun _ => ?_)) | (refine B_split (fun _ => ?_) (fun _ => ?_)) | (simp (disch := omega) only [x_X8_ahead_0, x_X8_ahead_1, x_X8_ahead_4, x_X8_ahead_5, x_X8_ahead_8, x_X8_ahead_9, List.length_cons, List.length_nil, Nat.reduceLeDiff, Nat.zero_add, iI_add, iI_sub, iI_mul, iI_neg, iI_lt, iI_le, iI_eq, jI_iI, B_True, B_False, B_t, B_f, ck_True, gd_True, cb_v, cb_n, p_mv_rw, p_fv_rw, p_rv_some, pA_1, pA_90, pA_92, pA_3, pA_2, pA_93, pA_4, pA_91, pA_95, pS_i, pW_i, pZ_0, pZ_1, pZ_b, bI_e0, u1_s, u1_n, uA_s, uA_n, true_and, and_true, not_true_eq_false, not_false_eq_true, eq_self, iI_z, al1, al2, al3, al4, al90, al91, al92, al93, al95, Int.cast_ofNat_Int, Nat.reduceAdd, Int.reduceNeg, Int.reduceAdd, Int.reduceSub, Int.reduceMul, Int.reduceLT, Int.reduceLE, Int.reduceGT, Int.reduceGE, Int.reduceEq, Int.reduceNe, Nat.reduceEqDiff, Int.zero_add, Int.add_zero, p_ty0, p_ty1, p_ty2, p_ty3, p_ty4, p_ty5, p_ty6, p_ty7, p_ty8, p_ty9, p_ty10, p_ty11]))
  all_goals exact ri (by unfold m_ah; split <;> first | rfl | omega)
theorem y_taking (hd : 1 ≤ d) (h : s = 0 ∨ s = 1) (hk : k = 0 ∨ k = 1) : callD d m_X8_taking [.int (iI s), .int (iI k)] T M F = some (.inl (some (.int (iI (m_tk s k)))), T, M, F) := by
  refine callD_go 0 hd rfl (fun e he => ?_)
  show R e m_X8_taking 0 [.val (.int (iI s)), .val (.int (iI k))] [] T M F = _
  repeat' (first | (refine B_splitn (fun _ => ?_) (fun _ => ?_)) | (refine B_split (fun _ => ?_) (fun _ => ?_)) | (simp (disch := omega) only [x_X8_taking_0, x_X8_taking_1, x_X8_taking_4, x_X8_taking_5, x_X8_taking_8, x_X8_taking_9, x_X8_taking_12, x_X8_taking_13, x_X8_taking_16, x_X8_taking_17, x_X8_taking_20, x_X8_taking_21, x_X8_taking_24, x_X8_taking_25, List.length_cons, List.length_nil, Nat.reduceLeDiff, Nat.zero_add, iI_add, iI_sub, iI_mul, iI_neg, iI_lt, iI_le, iI_eq, jI_iI, B_True, B_False, B_t, B_f, ck_True, gd_True, cb_v, cb_n, p_mv_rw, p_fv_rw, p_rv_some, pA_1, pA_90, pA_92, pA_3, pA_2, pA_93, pA_4, pA_91, pA_95, pS_i, pW_i, pZ_0, pZ_1, pZ_b, bI_e0, u1_s, u1_n, uA_s, uA_n, true_and, and_true, not_true_eq_false, not_false_eq_true, eq_self, iI_z, al1, al2, al3, al4, al90, al91, al92, al93, al95, Int.cast_ofNat_Int, Nat.reduceAdd, Int.reduceNeg, Int.reduceAdd, Int.reduceSub, Int.reduceMul, Int.reduceLT, Int.reduceLE, Int.reduceGT, Int.reduceGE, Int.reduceEq, Int.reduceNe, Nat.reduceEqDiff, Int.zero_add, Int.add_zero, p_ty0, p_ty1, p_ty2, p_ty3, p_ty4, p_ty5, p_ty6, p_ty7, p_ty8, p_ty9, p_ty10, p_ty11]))
  all_goals exact ri (by unfold m_tk; repeat' split <;> first | rfl | omega)
theorem y_on (hY : YT T F bd lg N) (hd : 1 ≤ d) (hk : -1 ≤ k ∧ k < 91) : callD d m_X8_on [.ref 127, .int (iI k)] T M F = some (.inl (some (.int (iI (m_on (M bd) k)))), T, M, F) := by
  obtain ⟨ty127, ty128, fy1, ty129, fy4, ty130, fy5, ty131, fy6, ty132, fy7, ty133, fy8, ty136, fy15, ty137, fy16, ty138, fy17, ty139, fy18, ty140, fy19, ty141, fy20, ty142, fy21, ty143, fy22, hbd, tybd, fy9, hlg, tylg, fy13, hN⟩ := hY
  refine callD_go 0 hd rfl (fun e he => ?_)
  show R e m_X8_on 0 [.val (.ref 127), .val (.int (iI k))] [] T M F = _
  repeat' (first | (refine B_splitn (fun _ => ?_) (fun _ => ?_)) | (refine B_split (fun _ => ?_) (fun _ => ?_)) | (simp (disch := omega) only [x_X8_on_0, x_X8_on_1, x_X8_on_2, x_X8_on_5, x_X8_on_6, x_X8_on_9, x_X8_on_10, x_X8_on_13, x_X8_on_14, x_X8_on_15, List.length_cons, List.length_nil, Nat.reduceLeDiff, Nat.zero_add, iI_add, iI_sub, iI_mul, iI_neg, iI_lt, iI_le, iI_eq, jI_iI, B_True, B_False, B_t, B_f, ck_True, gd_True, cb_v, cb_n, p_mv_rw, p_fv_rw, p_rv_some, pA_1, pA_90, pA_92, pA_3, pA_2, pA_93, pA_4, pA_91, pA_95, pS_i, pW_i, pZ_0, pZ_1, pZ_b, bI_e0, u1_s, u1_n, uA_s, uA_n, true_and, and_true, not_true_eq_false, not_false_eq_true, eq_self, iI_z, al1, al2, al3, al4, al90, al91, al92, al93, al95, Int.cast_ofNat_Int, Nat.reduceAdd, Int.reduceNeg, Int.reduceAdd, Int.reduceSub, Int.reduceMul, Int.reduceLT, Int.reduceLE, Int.reduceGT, Int.reduceGE, Int.reduceEq, Int.reduceNe, Nat.reduceEqDiff, Int.zero_add, Int.add_zero, p_ty0, p_ty1, p_ty2, p_ty3, p_ty4, p_ty5, p_ty6, p_ty7, p_ty8, p_ty9, p_ty10, p_ty11, ty127, ty128, fy1, ty129, fy4, ty130, fy5, ty131, fy6, ty132, fy7, ty133, fy8, ty136, fy15, ty137, fy16, ty138, fy17, ty139, fy18, ty140, fy19, ty141, fy20, ty142, fy21, ty143, fy22, tybd, fy9, tylg, fy13]))
  all_goals exact ri (by unfold m_on; first | rw [if_pos (by omega)] | rw [if_neg (by omega)])
theorem y_step {i : Int} (hY : YT T F bd lg N) (hG : YG M) (hd : 1 ≤ d) (hk : -1 ≤ k ∧ k < 91) (hi : 0 ≤ i ∧ i < 12) : callD d m_X8_step [.ref 127, .int (iI k), .int (iI i)] T M F = some (.inl (some (.int (iI (m_st k i)))), T, M, F) := by
  obtain ⟨ty127, ty128, fy1, ty129, fy4, ty130, fy5, ty131, fy6, ty132, fy7, ty133, fy8, ty136, fy15, ty137, fy16, ty138, fy17, ty139, fy18, ty140, fy19, ty141, fy20, ty142, fy21, ty143, fy22, hbd, tybd, fy9, hlg, tylg, fy13, hN⟩ := hY
  refine callD_go 0 hd rfl (fun e he => ?_)
  show R e m_X8_step 0 [.val (.ref 127), .val (.int (iI k)), .val (.int (iI i))] [] T M F = _
  repeat' (first | (refine B_splitn (fun _ => ?_) (fun _ => ?_)) | (refine B_split (fun _ => ?_) (fun _ => ?_)) | (simp (disch := omega) only [x_X8_step_0, x_X8_step_1, x_X8_step_2, x_X8_step_5, x_X8_step_6, x_X8_step_9, x_X8_step_10, x_X8_step_13, x_X8_step_15, x_X8_step_16, x_X8_step_17, x_X8_step_18, x_X8_step_19, x_X8_step_20, List.length_cons, List.length_nil, Nat.reduceLeDiff, Nat.zero_add, iI_add, iI_sub, iI_mul, iI_neg, iI_lt, iI_le, iI_eq, jI_iI, B_True, B_False, B_t, B_f, ck_True, gd_True, cb_v, cb_n, p_mv_rw, p_fv_rw, p_rv_some, pA_1, pA_90, pA_92, pA_3, pA_2, pA_93, pA_4, pA_91, pA_95, pS_i, pW_i, pZ_0, pZ_1, pZ_b, bI_e0, u1_s, u1_n, uA_s, uA_n, true_and, and_true, not_true_eq_false, not_false_eq_true, eq_self, iI_z, al1, al2, al3, al4, al90, al91, al92, al93, al95, Int.cast_ofNat_Int, Nat.reduceAdd, Int.reduceNeg, Int.reduceAdd, Int.reduceSub, Int.reduceMul, Int.reduceLT, Int.reduceLE, Int.reduceGT, Int.reduceGE, Int.reduceEq, Int.reduceNe, Nat.reduceEqDiff, Int.zero_add, Int.add_zero, p_ty0, p_ty1, p_ty2, p_ty3, p_ty4, p_ty5, p_ty6, p_ty7, p_ty8, p_ty9, p_ty10, p_ty11, ty127, ty128, fy1, ty129, fy4, ty130, fy5, ty131, fy6, ty132, fy7, ty133, fy8, ty136, fy15, ty137, fy16, ty138, fy17, ty139, fy18, ty140, fy19, ty141, fy20, ty142, fy21, ty143, fy22, tybd, fy9, tylg, fy13, hG.2.2.2.1]))
  all_goals exact ri (by unfold m_st; first | rw [if_pos (by omega)] | rw [if_neg (by omega)])
theorem y_isLast (hY : YT T F bd lg N) (hG : YG M) (hd : 2 ≤ d) (hk : 0 ≤ k ∧ k < 91) (h : s = 0 ∨ s = 1) : callD d m_X8_isLast [.ref 127, .int (iI k), .int (iI s)] T M F = some (.inl (some (.int (iI (bI (gn k (m_ah s) = -1))))), T, M, F) := by
  refine callD_go 1 hd rfl (fun e he => ?_)
  show R e m_X8_isLast 0 [.val (.ref 127), .val (.int (iI k)), .val (.int (iI s))] [] T M F = _
  have ha : 0 ≤ m_ah s ∧ m_ah s < 12 := by unfold m_ah; split <;> omega
  have hg := gn_rg hk ha
  have hst : m_st k (m_ah s) = gn k (m_ah s) := by unfold m_st; rw [if_neg (by omega)]
  have ty127 := hY.1
  repeat' (first | (refine B_splitn (fun _ => ?_) (fun _ => ?_)) | (refine B_split (fun _ => ?_) (fun _ => ?_)) | (simp (disch := omega) only [x_X8_isLast_0, x_X8_isLast_1, x_X8_isLast_2, x_X8_isLast_3, x_X8_isLast_6, x_X8_isLast_9, x_X8_isLast_10, x_X8_isLast_13, x_X8_isLast_14, x_X8_isLast_17, x_X8_isLast_18, List.length_cons, List.length_nil, Nat.reduceLeDiff, Nat.zero_add, iI_add, iI_sub, iI_mul, iI_neg, iI_lt, iI_le, iI_eq, jI_iI, B_True, B_False, B_t, B_f, ck_True, gd_True, cb_v, cb_n, p_mv_rw, p_fv_rw, p_rv_some, pA_1, pA_90, pA_92, pA_3, pA_2, pA_93, pA_4, pA_91, pA_95, pS_i, pW_i, pZ_0, pZ_1, pZ_b, bI_e0, u1_s, u1_n, uA_s, uA_n, true_and, and_true, not_true_eq_false, not_false_eq_true, eq_self, iI_z, al1, al2, al3, al4, al90, al91, al92, al93, al95, Int.cast_ofNat_Int, Nat.reduceAdd, Int.reduceNeg, Int.reduceAdd, Int.reduceSub, Int.reduceMul, Int.reduceLT, Int.reduceLE, Int.reduceGT, Int.reduceGE, Int.reduceEq, Int.reduceNe, Nat.reduceEqDiff, Int.zero_add, Int.add_zero, p_ty0, p_ty1, p_ty2, p_ty3, p_ty4, p_ty5, p_ty6, p_ty7, p_ty8, p_ty9, p_ty10, p_ty11, ty127, y_ahead, y_step hY hG, hst, gd_t]))
  all_goals first | exact rb1 (by first | assumption | omega) | exact rb0 (by first | assumption | omega)
end PH3
