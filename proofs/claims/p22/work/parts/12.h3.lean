section PH3
/-! the model: its cells, its geometry -/
def YT (T : pT) (F : pF) (bd lg N : Nat) : Prop := p_ty T 127 = (18, 24) ∧ p_ty T 128 = (1, 2000) ∧ F 127 1 = some 128 ∧ p_ty T 129 = (1, 91) ∧ F 127 4 = some 129 ∧ p_ty T 130 = (1, 91) ∧ F 127 5 = some 130 ∧ p_ty T 131 = (1, 12) ∧ F 127 6 = some 131 ∧ p_ty T 132 = (1, 1092) ∧ F 127 7 = some 132 ∧ p_ty T 133 = (1, 1092) ∧ F 127 8 = some 133 ∧ p_ty T 136 = (2, 91) ∧ F 127 15 = some 136 ∧ p_ty T 137 = (1, 2000) ∧ F 127 16 = some 137 ∧ p_ty T 138 = (1, 2000) ∧ F 127 17 = some 138 ∧ p_ty T 139 = (1, 91) ∧ F 127 18 = some 139 ∧ p_ty T 140 = (1, 91) ∧ F 127 19 = some 140 ∧ p_ty T 141 = (1, 401) ∧ F 127 20 = some 141 ∧ p_ty T 142 = (1, 401) ∧ F 127 21 = some 142 ∧ p_ty T 143 = (1, 401) ∧ F 127 22 = some 143 ∧ 100 ≤ bd ∧ p_ty T bd = (1, 91) ∧ F 127 9 = some bd ∧ 100 ≤ lg ∧ p_ty T lg = (1, N) ∧ F 127 13 = some lg ∧ 448 ≤ N
def gx (k : Int) : Int := q_pl k / 17 - 8
def gy (k : Int) : Int := q_pl k % 17 - 8
def gn (k d : Int) : Int := q_cel (q_pl k + p_roM 2 d)
def gj (k d : Int) : Int := q_cel (q_pl k + p_roM 3 d)
def YG (M : pM) : Prop := (∀ k, 0 ≤ k → k < 91 → M 129 k = gx k) ∧ (∀ k, 0 ≤ k → k < 91 → M 130 k = gy k) ∧ (∀ c, 0 ≤ c → c < 11 → M 131 c = p_roM 1 c) ∧ (∀ k i, 0 ≤ k → k < 91 → 0 ≤ i → i < 12 → M 132 (12 * k + i) = gn k i) ∧ (∀ k i, 0 ≤ k → k < 91 → 0 ≤ i → i < 12 → M 133 (12 * k + i) = gj k i)
def MB (b : Int → Int) : Prop := ∀ k, b k = 0 ∨ (1 ≤ b k ∧ b k ≤ 6) ∨ (11 ≤ b k ∧ b k ≤ 16)
set_option maxRecDepth 20000 in
theorem gn_rgN : ∀ k : Nat, k < 91 → ∀ i : Nat, i < 12 → (-1 ≤ gn (k : Int) (i : Int) ∧ gn (k : Int) (i : Int) < 91) ∧ (-1 ≤ gj (k : Int) (i : Int) ∧ gj (k : Int) (i : Int) < 91) := by decide +kernel
theorem gn_rg {k i : Int} (h : 0 ≤ k ∧ k < 91) (hi : 0 ≤ i ∧ i < 12) : -1 ≤ gn k i ∧ gn k i < 91 := by
  have h2 := (gn_rgN k.toNat (by omega) i.toNat (by omega)).1
  rwa [Int.toNat_of_nonneg h.1, Int.toNat_of_nonneg hi.1] at h2
theorem gj_rg {k i : Int} (h : 0 ≤ k ∧ k < 91) (hi : 0 ≤ i ∧ i < 12) : -1 ≤ gj k i ∧ gj k i < 91 := by
  have h2 := (gn_rgN k.toNat (by omega) i.toNat (by omega)).2
  rwa [Int.toNat_of_nonneg h.1, Int.toNat_of_nonneg hi.1] at h2
theorem gxy_N : ∀ k : Nat, k < 91 → (-5 ≤ gx (k : Int) ∧ gx (k : Int) ≤ 5) ∧ (-5 ≤ gy (k : Int) ∧ gy (k : Int) ≤ 5) := by decide +kernel
theorem gxy_rg {k : Int} (h : 0 ≤ k ∧ k < 91) : (-5 ≤ gx k ∧ gx k ≤ 5) ∧ (-5 ≤ gy k ∧ gy k ≤ 5) := by
  have h2 := gxy_N k.toNat (by omega)
  rwa [Int.toNat_of_nonneg h.1] at h2
def m_on (b : Int → Int) (c : Int) : Int := if c = -1 then -1 else b c
def m_st (c i : Int) : Int := if c = -1 then -1 else gn c i
def m_tk (s k : Int) : Int := if s = 0 then (if k = 0 then 1 else 5) else if k = 0 then 4 else 2
def m_side (x : Int) : Int := if x = 0 then -1 else x / 10
def m_ah (s : Int) : Int := if s = 0 then 0 else 3
def m_wor (x : Int) : Int := if x = 2 then 10 else if x = 3 then 5 else if x = 5 then 4 else if x = 4 then 3 else if x = 6 then 1 else 0
def m_fst (k s : Int) : Prop := -4 ≤ gx k ∧ gx k ≤ 4 ∧ gy k = if s = 0 then (if 0 < gx k then -1 - gx k else -1) else (if gx k < 0 then 1 - gx k else 1)
def m_kg (b : Int → Int) (s : Int) : Nat → Int → Int
  | 0, _ => -1
  | n + 1, k => if b k = 10 * s + 1 then k else m_kg b s n (k + 1)
def m_king (b : Int → Int) (s : Int) : Int := m_kg b s 91 0
def rayC (b : Int → Int) (i : Int) : Nat → Int → Int
  | 0, c => c
  | n + 1, c => if c = -1 ∨ b c ≠ 0 then c else rayC b i n (gn c i)
def rayO (i : Int) : Nat → Int → Bool
  | 0, c => decide (c = -1)
  | n + 1, c => decide (c = -1) || rayO i n (gn c i)
set_option maxRecDepth 20000 in
theorem rayO_N : ∀ k : Nat, k < 91 → ∀ i : Nat, i < 12 → rayO (i : Int) 16 (gn (k : Int) (i : Int)) = true := by decide +kernel
theorem rayO_ok {k i : Int} (h : 0 ≤ k ∧ k < 91) (hi : 0 ≤ i ∧ i < 12) : rayO i 16 (gn k i) = true := by
  have h2 := rayO_N k.toNat (by omega) i.toNat (by omega)
  rwa [Int.toNat_of_nonneg h.1, Int.toNat_of_nonneg hi.1] at h2
theorem rayC_rg {b : Int → Int} {i : Int} (hi : 0 ≤ i ∧ i < 12) : ∀ (n : Nat) (c : Int), -1 ≤ c ∧ c < 91 → -1 ≤ rayC b i n c ∧ rayC b i n c < 91
  | 0, c, h => h
  | n + 1, c, h => by
    unfold rayC
    split
    · exact h
    · exact rayC_rg hi n _ (gn_rg (by omega) hi)
noncomputable def m_sl (b : Int → Int) (k s i : Int) : Int := bI (m_on b (rayC b i 16 (gn k i)) = 10 * s + 2 ∨ m_on b (rayC b i 16 (gn k i)) = 10 * s + (if i < 6 then 3 else 4))
noncomputable def m_kk (b : Int → Int) (k s i : Int) : Int := bI (m_on b (gn k i) = 10 * s + 1) + bI (m_on b (gj k i) = 10 * s + 5)
noncomputable def m_pn (b : Int → Int) (k s i : Int) : Int := bI (m_on b (m_st k (m_tk (1 - s) i)) = 10 * s + 6)
noncomputable def m_att (b : Int → Int) (k s : Int) : Int := sm (m_sl b k s) 12 + sm (m_kk b k s) 12 + sm (m_pn b k s) 2
theorem m_on_rg {b : Int → Int} (hb : MB b) (c : Int) : -1 ≤ m_on b c ∧ m_on b c ≤ 16 := by
  unfold m_on
  have h := hb c
  split <;> omega
variable {d : Nat} {T : pT} {M : pM} {F : pF} {bd lg N : Nat} {p s k : Int}
theorem y_abs {n : Int} (hd : 1 ≤ d) (h : -1000000 ≤ n ∧ n ≤ 1000000) : callD d m_J9_abs_0f7a4 [.int (iI n)] T M F = some (.inl (some (.int (iI (if n < 0 then -n else n)))), T, M, F) := by
  refine callD_go 0 hd rfl (fun e he => ?_)
  show R e m_J9_abs_0f7a4 0 [.val (.int (iI n))] [] T M F = _
  repeat' (first | (refine B_splitn (fun _ => ?_) (fun _ => ?_)) | (refine B_split (fun _ => ?_) (fun _ => ?_)) | (simp (disch := omega) only [x_J9_abs_0f7a4_0, x_J9_abs_0f7a4_1, x_J9_abs_0f7a4_4, x_J9_abs_0f7a4_5, x_J9_abs_0f7a4_6, x_J9_abs_0f7a4_9, x_J9_abs_0f7a4_10, List.length_cons, List.length_nil, Nat.reduceLeDiff, Nat.zero_add, iI_add, iI_sub, iI_mul, iI_neg, iI_lt, iI_le, iI_eq, jI_iI, B_True, B_False, B_t, B_f, ck_True, gd_True, cb_v, cb_n, p_mv_rw, p_fv_rw, p_rv_some, pA_1, pA_90, pA_92, pA_3, pA_5, pA_93, pA_4, pA_91, pA_6, pS_i, pB_i, pW_i, pZ_0, pZ_1, pZ_b, bI_e0, u1_s, u1_n, uA_s, uA_n, true_and, and_true, not_true_eq_false, not_false_eq_true, eq_self, iI_z, al1, al5, al3, al4, al90, al91, al92, al93, al6, Int.cast_ofNat_Int, Nat.reduceAdd, Int.reduceNeg, Int.reduceAdd, Int.reduceSub, Int.reduceMul, Int.reduceLT, Int.reduceLE, Int.reduceGT, Int.reduceGE, Int.reduceEq, Int.reduceNe, Nat.reduceEqDiff, Int.zero_add, Int.add_zero, p_ty0, p_ty1, p_ty2, p_ty3, p_ty4, p_ty5, p_ty8, p_ty9, p_ty10]))
  all_goals exact ri (by split <;> omega)
theorem y_max {a n : Int} (hd : 1 ≤ d) (h : -1000000 ≤ n ∧ n ≤ 1000000) (ha : -1000000 ≤ a ∧ a ≤ 1000000) : callD d m_J9_max_7cf53 [.int (iI a), .int (iI n)] T M F = some (.inl (some (.int (iI (if a < n then n else a)))), T, M, F) := by
  refine callD_go 0 hd rfl (fun e he => ?_)
  show R e m_J9_max_7cf53 0 [.val (.int (iI a)), .val (.int (iI n))] [] T M F = _
  repeat' (first | (refine B_splitn (fun _ => ?_) (fun _ => ?_)) | (refine B_split (fun _ => ?_) (fun _ => ?_)) | (simp (disch := omega) only [x_J9_max_7cf53_0, x_J9_max_7cf53_1, x_J9_max_7cf53_2, x_J9_max_7cf53_5, x_J9_max_7cf53_6, x_J9_max_7cf53_9, x_J9_max_7cf53_10, List.length_cons, List.length_nil, Nat.reduceLeDiff, Nat.zero_add, iI_add, iI_sub, iI_mul, iI_neg, iI_lt, iI_le, iI_eq, jI_iI, B_True, B_False, B_t, B_f, ck_True, gd_True, cb_v, cb_n, p_mv_rw, p_fv_rw, p_rv_some, pA_1, pA_90, pA_92, pA_3, pA_5, pA_93, pA_4, pA_91, pA_6, pS_i, pB_i, pW_i, pZ_0, pZ_1, pZ_b, bI_e0, u1_s, u1_n, uA_s, uA_n, true_and, and_true, not_true_eq_false, not_false_eq_true, eq_self, iI_z, al1, al5, al3, al4, al90, al91, al92, al93, al6, Int.cast_ofNat_Int, Nat.reduceAdd, Int.reduceNeg, Int.reduceAdd, Int.reduceSub, Int.reduceMul, Int.reduceLT, Int.reduceLE, Int.reduceGT, Int.reduceGE, Int.reduceEq, Int.reduceNe, Nat.reduceEqDiff, Int.zero_add, Int.add_zero, p_ty0, p_ty1, p_ty2, p_ty3, p_ty4, p_ty5, p_ty8, p_ty9, p_ty10]))
  all_goals exact ri (by split <;> omega)
theorem y_min {a n : Int} (hd : 1 ≤ d) (h : -1000000 ≤ n ∧ n ≤ 1000000) (ha : -1000000 ≤ a ∧ a ≤ 1000000) : callD d m_J9_min_7cf53 [.int (iI a), .int (iI n)] T M F = some (.inl (some (.int (iI (if n < a then n else a)))), T, M, F) := by
  refine callD_go 0 hd rfl (fun e he => ?_)
  show R e m_J9_min_7cf53 0 [.val (.int (iI a)), .val (.int (iI n))] [] T M F = _
  repeat' (first | (refine B_splitn (fun _ => ?_) (fun _ => ?_)) | (refine B_split (fun _ => ?_) (fun _ => ?_)) | (simp (disch := omega) only [x_J9_min_7cf53_0, x_J9_min_7cf53_1, x_J9_min_7cf53_2, x_J9_min_7cf53_5, x_J9_min_7cf53_6, x_J9_min_7cf53_9, x_J9_min_7cf53_10, List.length_cons, List.length_nil, Nat.reduceLeDiff, Nat.zero_add, iI_add, iI_sub, iI_mul, iI_neg, iI_lt, iI_le, iI_eq, jI_iI, B_True, B_False, B_t, B_f, ck_True, gd_True, cb_v, cb_n, p_mv_rw, p_fv_rw, p_rv_some, pA_1, pA_90, pA_92, pA_3, pA_5, pA_93, pA_4, pA_91, pA_6, pS_i, pB_i, pW_i, pZ_0, pZ_1, pZ_b, bI_e0, u1_s, u1_n, uA_s, uA_n, true_and, and_true, not_true_eq_false, not_false_eq_true, eq_self, iI_z, al1, al5, al3, al4, al90, al91, al92, al93, al6, Int.cast_ofNat_Int, Nat.reduceAdd, Int.reduceNeg, Int.reduceAdd, Int.reduceSub, Int.reduceMul, Int.reduceLT, Int.reduceLE, Int.reduceGT, Int.reduceGE, Int.reduceEq, Int.reduceNe, Nat.reduceEqDiff, Int.zero_add, Int.add_zero, p_ty0, p_ty1, p_ty2, p_ty3, p_ty4, p_ty5, p_ty8, p_ty9, p_ty10]))
  all_goals exact ri (by split <;> omega)
end PH3
