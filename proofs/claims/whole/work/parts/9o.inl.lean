section PINL
variable {d n bd lg N : Nat} {T T1 : pT} {M M1 : pM} {F F1 : pF} {x y a k i f : Int}
def cX (k : Int) : Int → Int := fun j => if 0 ≤ j ∧ j < k then gx j else 0
def cY (k : Int) : Int → Int := fun j => if 0 ≤ j ∧ j < k then gy j else 0
def cF (a : Int) : Int → Int := fun j => if 0 ≤ j ∧ j < a then p_roM 1 j else 0
def cN (k : Int) : Int → Int := fun j => if 0 ≤ j ∧ j < k then gn (j / 12) (j % 12) else 0
def cJ (k : Int) : Int → Int := fun j => if 0 ≤ j ∧ j < k then gj (j / 12) (j % 12) else 0
theorem cX_s (h : 0 ≤ k) : u1 (cX k) k (gx k) = cX (k + 1) := by
  funext j; unfold u1 cX
  by_cases e : j = k
  · rw [if_pos e, if_pos (by omega), e]
  · rw [if_neg e]
    by_cases c : 0 ≤ j ∧ j < k
    · rw [if_pos c, if_pos (by omega)]
    · rw [if_neg c, if_neg (by omega)]
theorem cY_s (h : 0 ≤ k) : u1 (cY k) k (gy k) = cY (k + 1) := by
  funext j; unfold u1 cY
  by_cases e : j = k
  · rw [if_pos e, if_pos (by omega), e]
  · rw [if_neg e]
    by_cases c : 0 ≤ j ∧ j < k
    · rw [if_pos c, if_pos (by omega)]
    · rw [if_neg c, if_neg (by omega)]
theorem cF_s (h : 0 ≤ k) : u1 (cF k) k (p_roM 1 k) = cF (k + 1) := by
  funext j; unfold u1 cF
  by_cases e : j = k
  · rw [if_pos e, if_pos (by omega), e]
  · rw [if_neg e]
    by_cases c : 0 ≤ j ∧ j < k
    · rw [if_pos c, if_pos (by omega)]
    · rw [if_neg c, if_neg (by omega)]
theorem cN_s (h : 0 ≤ k) (hi : 0 ≤ i ∧ i < 12) : u1 (cN (12 * k + i)) (12 * k + i) (gn k i) = cN (12 * k + i + 1) := by
  funext j; unfold u1 cN
  by_cases e : j = 12 * k + i
  · rw [if_pos e, if_pos (by omega), show j / 12 = k by omega, show j % 12 = i by omega]
  · rw [if_neg e]
    by_cases c : 0 ≤ j ∧ j < 12 * k + i
    · rw [if_pos c, if_pos (by omega)]
    · rw [if_neg c, if_neg (by omega)]
theorem cJ_s (h : 0 ≤ k) (hi : 0 ≤ i ∧ i < 12) : u1 (cJ (12 * k + i)) (12 * k + i) (gj k i) = cJ (12 * k + i + 1) := by
  funext j; unfold u1 cJ
  by_cases e : j = 12 * k + i
  · rw [if_pos e, if_pos (by omega), show j / 12 = k by omega, show j % 12 = i by omega]
  · rw [if_neg e]
    by_cases c : 0 ≤ j ∧ j < 12 * k + i
    · rw [if_pos c, if_pos (by omega)]
    · rw [if_neg c, if_neg (by omega)]
theorem xy_N : ∀ a : Nat, a < 11 → ∀ n : Nat, n < 11 → q_csz (a : Int) < (n : Int) + 1 ∨ ((0 ≤ p_roM 1 (a : Int) + ((n : Int) + 1) - 1 ∧ p_roM 1 (a : Int) + ((n : Int) + 1) - 1 < 91) ∧ gx (p_roM 1 (a : Int) + ((n : Int) + 1) - 1) = (a : Int) - 5 ∧ gy (p_roM 1 (a : Int) + ((n : Int) + 1) - 1) = ((n : Int) + 1) - 6 - (if (a : Int) - 5 < 0 then (a : Int) - 5 else 0)) := by decide +kernel
theorem csz_N : ∀ a : Nat, a < 11 → 6 ≤ q_csz (a : Int) ∧ q_csz (a : Int) ≤ 11 := by decide +kernel
theorem csz_rg (ha : 0 ≤ a ∧ a < 11) : 6 ≤ q_csz a ∧ q_csz a ≤ 11 := by
  have h2 := csz_N a.toNat (by omega)
  rwa [Int.toNat_of_nonneg ha.1] at h2
theorem xy_at {n : Int} (ha : 0 ≤ a ∧ a < 11) (hn : 1 ≤ n ∧ n ≤ q_csz a) : (0 ≤ p_roM 1 a + n - 1 ∧ p_roM 1 a + n - 1 < 91) ∧ gx (p_roM 1 a + n - 1) = a - 5 ∧ gy (p_roM 1 a + n - 1) = n - 6 - (if a - 5 < 0 then a - 5 else 0) := by
  have hc := csz_rg ha
  have h2 := xy_N a.toNat (by omega) (n - 1).toNat (by omega)
  rw [Int.toNat_of_nonneg ha.1, Int.toNat_of_nonneg (by omega), show n - 1 + 1 = n by omega] at h2
  exact h2.resolve_left (by omega)
set_option maxRecDepth 20000 in
theorem nj_N : ∀ k : Nat, k < 91 → ∀ i : Nat, i < 12 → cof (gx (k : Int) + p_roM 6 (i : Int)) (gy (k : Int) + p_roM 7 (i : Int)) = gn (k : Int) (i : Int) ∧ cof (gx (k : Int) + (if (i : Int) < 6 then 1 else -1) * p_roM 8 ((i : Int) % 6)) (gy (k : Int) + (if (i : Int) < 6 then 1 else -1) * p_roM 9 ((i : Int) % 6)) = gj (k : Int) (i : Int) := by decide +kernel
theorem nj_at (hk : 0 ≤ k ∧ k < 91) (hi : 0 ≤ i ∧ i < 12) : cof (gx k + p_roM 6 i) (gy k + p_roM 7 i) = gn k i ∧ cof (gx k + (if i < 6 then 1 else -1) * p_roM 8 (i % 6)) (gy k + (if i < 6 then 1 else -1) * p_roM 9 (i % 6)) = gj k i := by
  have h2 := nj_N k.toNat (by omega) i.toNat (by omega)
  rwa [Int.toNat_of_nonneg hk.1, Int.toNat_of_nonneg hi.1] at h2
theorem st_N : ∀ i : Nat, i < 12 → (-10 ≤ p_roM 6 (i : Int) ∧ p_roM 6 (i : Int) ≤ 10) ∧ (-10 ≤ p_roM 7 (i : Int) ∧ p_roM 7 (i : Int) ≤ 10) ∧ (-10 ≤ p_roM 8 ((i : Int) % 6) ∧ p_roM 8 ((i : Int) % 6) ≤ 10) ∧ (-10 ≤ p_roM 9 ((i : Int) % 6) ∧ p_roM 9 ((i : Int) % 6) ≤ 10) := by decide +kernel
theorem st_at (hi : 0 ≤ i ∧ i < 12) : (-10 ≤ p_roM 6 i ∧ p_roM 6 i ≤ 10) ∧ (-10 ≤ p_roM 7 i ∧ p_roM 7 i ≤ 10) ∧ (-10 ≤ p_roM 8 (i % 6) ∧ p_roM 8 (i % 6) ≤ 10) ∧ (-10 ≤ p_roM 9 (i % 6) ∧ p_roM 9 (i % 6) ≤ 10) := by
  have h2 := st_N i.toNat (by omega)
  rwa [Int.toNat_of_nonneg hi.1] at h2
theorem uA2 {α : Type} {M : Nat → Int → α} {p q : Nat} (h : p ≠ q) {f g f' g' : Int → α} : uA (uA (uA (uA M p f) q g) p f') q g' = uA (uA M p f') q g' := by
  funext b; unfold uA
  by_cases c1 : b = q
  · simp only [if_pos c1]
  · by_cases c2 : b = p
    · simp only [if_neg c1, if_pos c2]
    · simp only [if_neg c1, if_neg c2]
theorem uA3 {α : Type} {M : Nat → Int → α} {p q r : Nat} (h1 : p ≠ q) (h2 : p ≠ r) (h3 : q ≠ r) {f g h f' g' h' : Int → α} : uA (uA (uA (uA (uA (uA M p f) q g) r h) p f') q g') r h' = uA (uA (uA M p f') q g') r h' := by
  funext b; unfold uA
  by_cases c1 : b = r
  · simp only [if_pos c1]
  · by_cases c2 : b = q
    · simp only [if_neg c1, if_pos c2]
    · by_cases c3 : b = p
      · simp only [if_neg c1, if_neg c2, if_pos c3]
      · simp only [if_neg c1, if_neg c2, if_neg c3]
theorem in_row (hY : YT T F bd lg N) (ha : 0 ≤ a ∧ a < 11) : ∀ (m : Nat) (n : Int) (M : pM), n + m = q_csz a + 1 → 1 ≤ n → M 129 = cX (p_roM 1 a + n - 1) → M 130 = cY (p_roM 1 a + n - 1) → ∀ e, 2 ≤ e → R e m_X8_init 170 [.val (.ref 127), .val (.int (iI (p_roM 1 a + n - 1))), .val (.int (iI a)), .val (.int (iI n)), .unset] [] T M F = R e m_X8_init 214 [.val (.ref 127), .val (.int (iI (p_roM 1 a + q_csz a))), .val (.int (iI a)), .val (.int (iI (q_csz a + 1))), .unset] [] T (uA (uA M 129 (cX (p_roM 1 a + q_csz a))) 130 (cY (p_roM 1 a + q_csz a))) F := by
  have hc := csz_rg ha
  intro m
  induction m with
  | zero =>
    intro n M hn h1 hX hYy e he
    obtain rfl : n = q_csz a + 1 := by omega
    have ek : p_roM 1 a + (q_csz a + 1) - 1 = p_roM 1 a + q_csz a := by omega
    rw [ek] at hX hYy ⊢
    rw [← hX, ← hYy, uA_id, uA_id]
    have sz := y_sizeOf (d := e) (T := T) (M := M) (F := F) (n := a) he (by omega)
    clear hX hYy hY
    simp (disch := omega) only [x_X8_init_170, x_X8_init_171, x_X8_init_172, x_X8_init_175, List.length_cons, List.length_nil, Nat.reduceLeDiff, Nat.zero_add, iI_add, iI_sub, iI_mul, iI_neg, iI_lt, iI_le, iI_eq, jI_iI, B_True, B_False, B_t, B_f, ck_True, gd_True, cb_v, cb_n, p_mv_rw, p_fv_rw, p_rv_some, pA_1, pA_90, pA_92, pA_3, pA_2, pA_93, pA_4, pA_91, pA_95, pS_i, pW_i, pZ_0, pZ_1, pZ_b, bI_e0, u1_s, u1_n, uA_s, uA_n, true_and, and_true, not_true_eq_false, not_false_eq_true, eq_self, iI_z, al1, al2, al3, al4, al90, al91, al92, al93, al95, Int.cast_ofNat_Int, Nat.reduceAdd, Int.reduceNeg, Int.reduceAdd, Int.reduceSub, Int.reduceMul, Int.reduceLT, Int.reduceLE, Int.reduceGT, Int.reduceGE, Int.reduceEq, Int.reduceNe, Nat.reduceEqDiff, Int.zero_add, Int.add_zero, p_ty0, p_ty1, p_ty2, p_ty3, p_ty4, p_ty5, p_ty6, p_ty7, p_ty8, p_ty9, p_ty10, p_ty11, sz, gd_t, B_t, B_f]
  | succ m ih =>
    intro n M hn h1 hX hYy e he
    obtain ⟨hk, g1, g2⟩ := xy_at (n := n) ha ⟨h1, by omega⟩
    have sz := y_sizeOf (d := e) (T := T) (M := M) (F := F) (n := a) he (by omega)
    have ek : p_roM 1 a + (n + 1) - 1 = p_roM 1 a + n - 1 + 1 := by omega
    generalize hkk : p_roM 1 a + n - 1 = k at *
    have ih := ih (n + 1) (uA (uA M 129 (cX (k + 1))) 130 (cY (k + 1))) (by omega) (by omega) (by rw [ek, uA_n (by omega), uA_s]) (by rw [ek, uA_s]) e he
    rw [ek, uA2 (by omega)] at ih
    rw [← ih, x_X8_init_170]
    have mi := fun M => y_min (d := e) (T := T) (M := M) (F := F) (a := 0) (n := a - 5) (by omega) (by omega) (by omega)
    have sX : u1 (cX k) k (a - 5) = cX (k + 1) := by rw [← g1]; exact cX_s hk.1
    have sY : u1 (cY k) k (n - 6 - (if a - 5 < 0 then a - 5 else 0)) = cY (k + 1) := by rw [← g2]; exact cY_s hk.1
    have hm : -5 ≤ (if a - 5 < 0 then a - 5 else 0) ∧ (if a - 5 < 0 then a - 5 else 0) ≤ 0 := by split <;> omega
    generalize (if a - 5 < 0 then a - 5 else 0) = mn at *
    have ty := hY
    obtain ⟨ty127, ty128, fy1, ty129, fy4, ty130, fy5, ty131, fy6, ty132, fy7, ty133, fy8, ty136, fy15, ty137, fy16, ty138, fy17, ty139, fy18, ty140, fy19, ty141, fy20, ty142, fy21, ty143, fy22, hbd, tybd, fy9, hlg, tylg, fy13, hN⟩ := ty
    clear ih hY g1 g2 ek
    simp (disch := omega) only [x_X8_init_171, x_X8_init_172, x_X8_init_175, x_X8_init_178, x_X8_init_179, x_X8_init_182, x_X8_init_183, x_X8_init_184, x_X8_init_185, x_X8_init_186, x_X8_init_187, x_X8_init_188, x_X8_init_191, x_X8_init_192, x_X8_init_193, x_X8_init_195, x_X8_init_196, x_X8_init_197, x_X8_init_198, x_X8_init_199, x_X8_init_200, x_X8_init_203, x_X8_init_204, x_X8_init_205, x_X8_init_208, x_X8_init_211, List.length_cons, List.length_nil, Nat.reduceLeDiff, Nat.zero_add, iI_add, iI_sub, iI_mul, iI_neg, iI_lt, iI_le, iI_eq, jI_iI, B_True, B_False, B_t, B_f, ck_True, gd_True, cb_v, cb_n, p_mv_rw, p_fv_rw, p_rv_some, pA_1, pA_90, pA_92, pA_3, pA_2, pA_93, pA_4, pA_91, pA_95, pS_i, pW_i, pZ_0, pZ_1, pZ_b, bI_e0, u1_s, u1_n, uA_s, uA_n, true_and, and_true, not_true_eq_false, not_false_eq_true, eq_self, iI_z, al1, al2, al3, al4, al90, al91, al92, al93, al95, Int.cast_ofNat_Int, Nat.reduceAdd, Int.reduceNeg, Int.reduceAdd, Int.reduceSub, Int.reduceMul, Int.reduceLT, Int.reduceLE, Int.reduceGT, Int.reduceGE, Int.reduceEq, Int.reduceNe, Nat.reduceEqDiff, Int.zero_add, Int.add_zero, p_ty0, p_ty1, p_ty2, p_ty3, p_ty4, p_ty5, p_ty6, p_ty7, p_ty8, p_ty9, p_ty10, p_ty11, ty127, ty128, fy1, ty129, fy4, ty130, fy5, ty131, fy6, ty132, fy7, ty133, fy8, ty136, fy15, ty137, fy16, ty138, fy17, ty139, fy18, ty140, fy19, ty141, fy20, ty142, fy21, ty143, fy22, tybd, fy9, tylg, fy13, sz, mi, hX, hYy, sX, sY, gd_t, B_t, B_f]
/-- where a file begins -/
def fsz (a : Int) : Int := if a = 11 then 91 else p_roM 1 a
theorem fsz_s (ha : 0 ≤ a ∧ a < 11) : p_roM 1 a + q_csz a = fsz (a + 1) := by
  unfold fsz
  by_cases c : a = 10
  · subst c; rw [if_pos (by omega)]; have h := fs_0; omega
  · rw [if_neg (by omega)]; exact (fs_s (f := a) (by omega)).1.symm
theorem in_all (hY : YT T F bd lg N) : ∀ (m : Nat) (a : Int) (l3 : Slot) (M : pM), a + m = 11 → 0 ≤ a → M 129 = cX (fsz a) → M 130 = cY (fsz a) → M 131 = cF a → ∀ e, 2 ≤ e → ∃ l3', R e m_X8_init 155 [.val (.ref 127), .val (.int (iI (fsz a))), .val (.int (iI a)), l3, .unset] [] T M F = R e m_X8_init 220 [.val (.ref 127), .val (.int (iI 91)), .val (.int (iI 11)), l3', .unset] [] T (uA (uA (uA M 131 (cF 11)) 129 (cX 91)) 130 (cY 91)) F := by
  intro m
  induction m with
  | zero =>
    intro a l3 M hm h0 hX hYy hF e he
    obtain rfl : a = 11 := by omega
    have e91 : fsz 11 = 91 := rfl
    rw [e91] at hX hYy ⊢
    refine ⟨l3, ?_⟩
    rw [← hF, ← hX, ← hYy, uA_id, uA_id, uA_id]
    clear hX hYy hF hY
    simp (disch := omega) only [x_X8_init_155, x_X8_init_156, x_X8_init_158, List.length_cons, List.length_nil, Nat.reduceLeDiff, Nat.zero_add, iI_add, iI_sub, iI_mul, iI_neg, iI_lt, iI_le, iI_eq, jI_iI, B_True, B_False, B_t, B_f, ck_True, gd_True, cb_v, cb_n, p_mv_rw, p_fv_rw, p_rv_some, pA_1, pA_90, pA_92, pA_3, pA_2, pA_93, pA_4, pA_91, pA_95, pS_i, pW_i, pZ_0, pZ_1, pZ_b, bI_e0, u1_s, u1_n, uA_s, uA_n, true_and, and_true, not_true_eq_false, not_false_eq_true, eq_self, iI_z, al1, al2, al3, al4, al90, al91, al92, al93, al95, Int.cast_ofNat_Int, Nat.reduceAdd, Int.reduceNeg, Int.reduceAdd, Int.reduceSub, Int.reduceMul, Int.reduceLT, Int.reduceLE, Int.reduceGT, Int.reduceGE, Int.reduceEq, Int.reduceNe, Nat.reduceEqDiff, Int.zero_add, Int.add_zero, p_ty0, p_ty1, p_ty2, p_ty3, p_ty4, p_ty5, p_ty6, p_ty7, p_ty8, p_ty9, p_ty10, p_ty11, B_t, B_f]
  | succ m ih =>
    intro a l3 M hm h0 hX hYy hF e he
    have ha : 0 ≤ a ∧ a < 11 := by omega
    have ea : fsz a = p_roM 1 a := if_neg (by omega)
    have hp : 0 ≤ p_roM 1 a ∧ p_roM 1 a ≤ 91 := by
      by_cases q : a = 10
      · rw [q, fs_0.2.1]; omega
      · exact (fs_s (f := a) (by omega)).2.1
    rw [ea] at hX hYy ⊢
    have n1 : p_roM 1 a + 1 - 1 = p_roM 1 a := by omega
    obtain ⟨M2, hM2⟩ : ∃ M2 : pM, M2 = uA M 131 (cF (a + 1)) := ⟨_, rfl⟩
    have hc := csz_rg ha
    have rw1 := in_row (F := F) hY ha (q_csz a).toNat 1 M2 (by omega) (Int.le_refl _) (by rw [n1, hM2, uA_n (by omega)]; exact hX) (by rw [n1, hM2, uA_n (by omega)]; exact hYy) e he
    rw [n1, fsz_s ha, hM2] at rw1
    obtain ⟨l3', ih⟩ := ih (a + 1) (.val (.int (iI (q_csz a + 1)))) (uA (uA (uA M 131 (cF (a + 1))) 129 (cX (fsz (a + 1)))) 130 (cY (fsz (a + 1)))) (by omega) (by omega) (by rw [uA_n (by omega), uA_s]) (by rw [uA_s]) (by rw [uA_n (by omega), uA_n (by omega), uA_s]) e he
    rw [uA3 (by omega) (by omega) (by omega)] at ih
    refine ⟨l3', ?_⟩
    rw [← ih, x_X8_init_155]
    have sF := cF_s (k := a) h0
    have ty := hY
    obtain ⟨ty127, ty128, fy1, ty129, fy4, ty130, fy5, ty131, fy6, ty132, fy7, ty133, fy8, ty136, fy15, ty137, fy16, ty138, fy17, ty139, fy18, ty140, fy19, ty141, fy20, ty142, fy21, ty143, fy22, hbd, tybd, fy9, hlg, tylg, fy13, hN⟩ := ty
    generalize fsz (a + 1) = k' at *
    clear ih hY hX hYy hM2 ea n1
    simp (disch := omega) only [x_X8_init_156, x_X8_init_158, x_X8_init_161, x_X8_init_162, x_X8_init_165, x_X8_init_166, x_X8_init_167, x_X8_init_168, x_X8_init_169, x_X8_init_214, x_X8_init_217, List.length_cons, List.length_nil, Nat.reduceLeDiff, Nat.zero_add, iI_add, iI_sub, iI_mul, iI_neg, iI_lt, iI_le, iI_eq, jI_iI, B_True, B_False, B_t, B_f, ck_True, gd_True, cb_v, cb_n, p_mv_rw, p_fv_rw, p_rv_some, pA_1, pA_90, pA_92, pA_3, pA_2, pA_93, pA_4, pA_91, pA_95, pS_i, pW_i, pZ_0, pZ_1, pZ_b, bI_e0, u1_s, u1_n, uA_s, uA_n, true_and, and_true, not_true_eq_false, not_false_eq_true, eq_self, iI_z, al1, al2, al3, al4, al90, al91, al92, al93, al95, Int.cast_ofNat_Int, Nat.reduceAdd, Int.reduceNeg, Int.reduceAdd, Int.reduceSub, Int.reduceMul, Int.reduceLT, Int.reduceLE, Int.reduceGT, Int.reduceGE, Int.reduceEq, Int.reduceNe, Nat.reduceEqDiff, Int.zero_add, Int.add_zero, p_ty0, p_ty1, p_ty2, p_ty3, p_ty4, p_ty5, p_ty6, p_ty7, p_ty8, p_ty9, p_ty10, p_ty11, ty127, ty128, fy1, ty129, fy4, ty130, fy5, ty131, fy6, ty132, fy7, ty133, fy8, ty136, fy15, ty137, fy16, ty138, fy17, ty139, fy18, ty140, fy19, ty141, fy20, ty142, fy21, ty143, fy22, tybd, fy9, tylg, fy13, rw1, hF, sF, gd_t, B_t, B_f]
end PINL
