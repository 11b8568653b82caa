section PSET
variable {d s b n c0 : Nat} {T : pT} {M M1 : pM} {F : pF} {bb : Int → Int} {k t i c p x y : Int}
def fstDec (k s : Int) : Decidable (m_fst k s) := by unfold m_fst; infer_instance
def sp1 : Nat → Int → (Int → Int) → Int → Int
  | 0, _, v => v
  | m + 1, k, v => sp1 m (k + 1) (u1 v (pl1 k) (@ite Int (m_fst k 0) (fstDec k 0) 6 (@ite Int (m_fst k 1) (fstDec k 1) (-6) 0)))
theorem sp1_pt {v w : Int → Int} {p : Int} : ∀ (m : Nat) (k : Int) (v w : Int → Int), v p = w p → sp1 m k v p = sp1 m k w p
  | 0, k, v, w, h => h
  | m + 1, k, v, w, h => by
    rw [sp1, sp1]
    refine sp1_pt (v := v) (w := w) m (k + 1) _ _ ?_
    unfold u1
    split
    · rfl
    · exact h
def sp2 (a q c : Int) (v : Int → Int) : Int → Int := u1 (u1 v (11 * a + (if a - 5 < 0 then -5 - (a - 5) else -5) + q + 5) c) (11 * a + (if a - 5 < 0 then 5 else 5 - (a - 5)) - q + 5) (-c)
def sp3 (v : Int → Int) : Int → Int := sp2 6 0 1 (sp2 4 0 2 (sp2 8 0 3 (sp2 2 0 3 (sp2 7 0 5 (sp2 3 0 5 (sp2 5 2 4 (sp2 5 1 4 (sp2 5 0 4 v))))))))
theorem u1_pt {i x p : Int} {v w : Int → Int} (h : v p = w p) : u1 v i x p = u1 w i x p := by
  unfold u1
  split
  · rfl
  · exact h
theorem sp2_pt {a q c p : Int} {v w : Int → Int} (h : v p = w p) : sp2 a q c v p = sp2 a q c w p := by
  unfold sp2
  exact u1_pt (u1_pt h)
set_option maxRecDepth 20000 in
theorem spN : ∀ p : Nat, p < 121 → sp3 (sp1 91 0 (fun p => if c1 p = -1 then 99 else 0)) (p : Int) = (if c1 (p : Int) = -1 then 99 else sv (q_sb (c1 (p : Int)))) := by decide +kernel
theorem sp_SB {v : Int → Int} (h : SB1 v (fun _ => 0)) : SB1 (sp3 (sp1 91 0 v)) q_sb := by
  intro p hp
  have h1 : v p = (fun p => if c1 p = -1 then 99 else 0) p := by
    rw [h p hp]; rfl
  have h2 : sp3 (sp1 91 0 v) p = sp3 (sp1 91 0 (fun p => if c1 p = -1 then 99 else 0)) p := by
    unfold sp3
    exact sp2_pt (sp2_pt (sp2_pt (sp2_pt (sp2_pt (sp2_pt (sp2_pt (sp2_pt (sp2_pt (sp1_pt (v := v) (w := v) 91 0 _ _ h1)))))))))
  have h3 := spN p.toNat (by omega)
  rw [Int.toNat_of_nonneg hp.1] at h3
  rw [h2, h3]
theorem z_suL (e : Nat) (he : 2 ≤ e) (hI : SI T F s b) : ∀ (m : Nat) (k : Int) (l2 : Slot) (M : pM) (l3 l4 l5 : Slot), 0 ≤ k → k + m = 91 → ∃ l2', R e m_L_setUp 2 [.val (.ref s), .val (.int (iI k)), l2, l3, l4, l5] [] T M F = R e m_L_setUp 52 [.val (.ref s), .val (.int (iI 91)), l2', l3, l4, l5] [] T (uA M b (sp1 m k (M b))) F
  | 0, k, l2, M, l3, l4, l5, h0, hm => by
    obtain rfl : k = 91 := by omega
    refine ⟨l2, ?_⟩
    rw [sp1, uA_id]
    simp (disch := omega) only [x_L_setUp_2, x_L_setUp_3, x_L_setUp_5, List.length_cons, List.length_nil, Nat.reduceLeDiff, Nat.zero_add, iI_add, iI_sub, iI_mul, iI_neg, iI_lt, iI_le, iI_eq, jI_iI, B_True, B_False, B_t, B_f, ck_True, gd_True, cb_v, cb_n, p_mv_rw, p_fv_rw, p_rv_some, pA_1, pA_90, pA_92, pA_3, pA_5, pA_93, pA_4, pA_91, pA_6, pS_i, pB_i, pW_i, pZ_0, pZ_1, pZ_b, bI_e0, u1_s, u1_n, uA_s, uA_n, true_and, and_true, not_true_eq_false, not_false_eq_true, eq_self, iI_z, al1, al5, al3, al4, al90, al91, al92, al93, al6, Int.cast_ofNat_Int, Nat.reduceAdd, Int.reduceNeg, Int.reduceAdd, Int.reduceSub, Int.reduceMul, Int.reduceLT, Int.reduceLE, Int.reduceGT, Int.reduceGE, Int.reduceEq, Int.reduceNe, Nat.reduceEqDiff, Int.zero_add, Int.add_zero, p_ty0, p_ty1, p_ty2, p_ty3, p_ty4, p_ty5, p_ty8, p_ty9, p_ty10, B_t, B_f]
  | m + 1, k, l2, M, l3, l4, l5, h0, hm => by
    have hk : 0 ≤ k ∧ k < 91 := by omega
    have pl := z_placeOf (d := e) (T := T) (M := M) (F := F) hk he
    have f0 := z_isFirst (d := e) (T := T) (M := M) (F := F) hk (side := 0) (Or.inl rfl) he
    have f1 := z_isFirst (d := e) (T := T) (M := M) (F := F) hk (side := 1) (Or.inr rfl) he
    have kp := (c1_pl1 hk).2.1
    obtain ⟨l2', ih⟩ := z_suL e he hI m (k + 1) (.val (.int (iI (pl1 k)))) (uA M b (u1 (M b) (pl1 k) (@ite Int (m_fst k 0) (fstDec k 0) 6 (@ite Int (m_fst k 1) (fstDec k 1) (-6) 0)))) l3 l4 l5 (by omega) (by omega)
    refine ⟨l2', ?_⟩
    rw [uA_s, uA_uA] at ih
    rw [sp1, ← ih]
    clear ih
    obtain ⟨i0, i1, i2, i3, i4, -⟩ := hI
    rw [x_L_setUp_2]
    by_cases c1 : m_fst k 0
    · rw [if_pos c1]
      rw [bI_t c1] at f0
      generalize pl1 k = p at *
      simp (disch := omega) only [x_L_setUp_3, x_L_setUp_5, x_L_setUp_8, x_L_setUp_9, x_L_setUp_12, x_L_setUp_13, x_L_setUp_14, x_L_setUp_17, x_L_setUp_18, x_L_setUp_19, x_L_setUp_20, x_L_setUp_23, x_L_setUp_26, x_L_setUp_28, x_L_setUp_31, x_L_setUp_32, x_L_setUp_33, x_L_setUp_36, x_L_setUp_39, x_L_setUp_41, x_L_setUp_44, x_L_setUp_45, x_L_setUp_46, x_L_setUp_49, List.length_cons, List.length_nil, Nat.reduceLeDiff, Nat.zero_add, iI_add, iI_sub, iI_mul, iI_neg, iI_lt, iI_le, iI_eq, jI_iI, B_True, B_False, B_t, B_f, ck_True, gd_True, cb_v, cb_n, p_mv_rw, p_fv_rw, p_rv_some, pA_1, pA_90, pA_92, pA_3, pA_5, pA_93, pA_4, pA_91, pA_6, pS_i, pB_i, pW_i, pZ_0, pZ_1, pZ_b, bI_e0, u1_s, u1_n, uA_s, uA_n, true_and, and_true, not_true_eq_false, not_false_eq_true, eq_self, iI_z, al1, al5, al3, al4, al90, al91, al92, al93, al6, Int.cast_ofNat_Int, Nat.reduceAdd, Int.reduceNeg, Int.reduceAdd, Int.reduceSub, Int.reduceMul, Int.reduceLT, Int.reduceLE, Int.reduceGT, Int.reduceGE, Int.reduceEq, Int.reduceNe, Nat.reduceEqDiff, Int.zero_add, Int.add_zero, p_ty0, p_ty1, p_ty2, p_ty3, p_ty4, p_ty5, p_ty8, p_ty9, p_ty10, pl, f0, i0, i1, i2, i3, i4, gd_t, ck_t, B_t, B_f]
    · rw [if_neg c1]
      rw [bI_f c1] at f0
      by_cases c2 : m_fst k 1
      · rw [if_pos c2]
        rw [bI_t c2] at f1
        generalize pl1 k = p at *
        simp (disch := omega) only [x_L_setUp_3, x_L_setUp_5, x_L_setUp_8, x_L_setUp_9, x_L_setUp_12, x_L_setUp_13, x_L_setUp_14, x_L_setUp_17, x_L_setUp_18, x_L_setUp_19, x_L_setUp_20, x_L_setUp_23, x_L_setUp_26, x_L_setUp_28, x_L_setUp_31, x_L_setUp_32, x_L_setUp_33, x_L_setUp_36, x_L_setUp_39, x_L_setUp_41, x_L_setUp_44, x_L_setUp_45, x_L_setUp_46, x_L_setUp_49, List.length_cons, List.length_nil, Nat.reduceLeDiff, Nat.zero_add, iI_add, iI_sub, iI_mul, iI_neg, iI_lt, iI_le, iI_eq, jI_iI, B_True, B_False, B_t, B_f, ck_True, gd_True, cb_v, cb_n, p_mv_rw, p_fv_rw, p_rv_some, pA_1, pA_90, pA_92, pA_3, pA_5, pA_93, pA_4, pA_91, pA_6, pS_i, pB_i, pW_i, pZ_0, pZ_1, pZ_b, bI_e0, u1_s, u1_n, uA_s, uA_n, true_and, and_true, not_true_eq_false, not_false_eq_true, eq_self, iI_z, al1, al5, al3, al4, al90, al91, al92, al93, al6, Int.cast_ofNat_Int, Nat.reduceAdd, Int.reduceNeg, Int.reduceAdd, Int.reduceSub, Int.reduceMul, Int.reduceLT, Int.reduceLE, Int.reduceGT, Int.reduceGE, Int.reduceEq, Int.reduceNe, Nat.reduceEqDiff, Int.zero_add, Int.add_zero, p_ty0, p_ty1, p_ty2, p_ty3, p_ty4, p_ty5, p_ty8, p_ty9, p_ty10, pl, f0, f1, i0, i1, i2, i3, i4, gd_t, ck_t, B_t, B_f]
      · rw [if_neg c2]
        rw [bI_f c2] at f1
        generalize pl1 k = p at *
        simp (disch := omega) only [x_L_setUp_3, x_L_setUp_5, x_L_setUp_8, x_L_setUp_9, x_L_setUp_12, x_L_setUp_13, x_L_setUp_14, x_L_setUp_17, x_L_setUp_18, x_L_setUp_19, x_L_setUp_20, x_L_setUp_23, x_L_setUp_26, x_L_setUp_28, x_L_setUp_31, x_L_setUp_32, x_L_setUp_33, x_L_setUp_36, x_L_setUp_39, x_L_setUp_41, x_L_setUp_44, x_L_setUp_45, x_L_setUp_46, x_L_setUp_49, List.length_cons, List.length_nil, Nat.reduceLeDiff, Nat.zero_add, iI_add, iI_sub, iI_mul, iI_neg, iI_lt, iI_le, iI_eq, jI_iI, B_True, B_False, B_t, B_f, ck_True, gd_True, cb_v, cb_n, p_mv_rw, p_fv_rw, p_rv_some, pA_1, pA_90, pA_92, pA_3, pA_5, pA_93, pA_4, pA_91, pA_6, pS_i, pB_i, pW_i, pZ_0, pZ_1, pZ_b, bI_e0, u1_s, u1_n, uA_s, uA_n, true_and, and_true, not_true_eq_false, not_false_eq_true, eq_self, iI_z, al1, al5, al3, al4, al90, al91, al92, al93, al6, Int.cast_ofNat_Int, Nat.reduceAdd, Int.reduceNeg, Int.reduceAdd, Int.reduceSub, Int.reduceMul, Int.reduceLT, Int.reduceLE, Int.reduceGT, Int.reduceGE, Int.reduceEq, Int.reduceNe, Nat.reduceEqDiff, Int.zero_add, Int.add_zero, p_ty0, p_ty1, p_ty2, p_ty3, p_ty4, p_ty5, p_ty8, p_ty9, p_ty10, pl, f0, f1, i0, i1, i2, i3, i4, gd_t, ck_t, B_t, B_f]
/-- one line of the set-up's list -/
theorem z_suR {e : Nat} {f : Int → Int} {a q cc : Int} {l3 l4 l5 : Slot} (hI : SI T F s b) (hc : 100 ≤ c0 ∧ c0 ≠ b) (tc : p_ty T c0 = (1, 27)) (hf : M c0 = f) (hk : 0 ≤ k ∧ k ≤ 24) (ha : f k = a) (hq : f (k + 1) = q) (hcc : f (k + 2) = cc) (har : 2 ≤ a ∧ a ≤ 8) (hqr : 0 ≤ q ∧ q ≤ 2) (hcr : 1 ≤ cc ∧ cc ≤ 6) :
    ∃ l3' l4' l5', R e m_L_setUp 191 [.val (.ref s), .val (.ref c0), .val (.int (iI k)), l3, l4, l5] [] T M F = R e m_L_setUp 191 [.val (.ref s), .val (.ref c0), .val (.int (iI (k + 3))), l3', l4', l5'] [] T (uA M b (sp2 a q cc (M b))) F := by
  obtain ⟨i0, i1, i2, i3, i4, -⟩ := hI
  unfold sp2
  by_cases c1 : a - 5 < 0
  · refine ⟨.val (.int (iI (a - 5))), .val (.int (iI (-5 - (a - 5)))), .val (.int (iI 5)), ?_⟩
    rw [if_pos c1, if_pos c1]
    rw [x_L_setUp_191]
    simp (disch := omega) only [x_L_setUp_192, x_L_setUp_193, x_L_setUp_194, x_L_setUp_197, x_L_setUp_198, x_L_setUp_199, x_L_setUp_200, x_L_setUp_201, x_L_setUp_202, x_L_setUp_203, x_L_setUp_204, x_L_setUp_207, x_L_setUp_209, x_L_setUp_210, x_L_setUp_211, x_L_setUp_214, x_L_setUp_216, x_L_setUp_218, x_L_setUp_219, x_L_setUp_222, x_L_setUp_223, x_L_setUp_226, x_L_setUp_227, x_L_setUp_228, x_L_setUp_229, x_L_setUp_231, x_L_setUp_232, x_L_setUp_235, x_L_setUp_237, x_L_setUp_238, x_L_setUp_239, x_L_setUp_240, x_L_setUp_241, x_L_setUp_243, x_L_setUp_244, x_L_setUp_245, x_L_setUp_246, x_L_setUp_247, x_L_setUp_248, x_L_setUp_249, x_L_setUp_250, x_L_setUp_251, x_L_setUp_252, x_L_setUp_253, x_L_setUp_254, x_L_setUp_255, x_L_setUp_256, x_L_setUp_257, x_L_setUp_258, x_L_setUp_259, x_L_setUp_262, x_L_setUp_264, x_L_setUp_265, x_L_setUp_266, x_L_setUp_267, x_L_setUp_268, x_L_setUp_270, x_L_setUp_271, x_L_setUp_272, x_L_setUp_273, x_L_setUp_274, x_L_setUp_275, x_L_setUp_276, x_L_setUp_277, x_L_setUp_278, x_L_setUp_279, x_L_setUp_280, x_L_setUp_281, x_L_setUp_282, x_L_setUp_283, x_L_setUp_284, x_L_setUp_285, x_L_setUp_286, x_L_setUp_289, List.length_cons, List.length_nil, Nat.reduceLeDiff, Nat.zero_add, iI_add, iI_sub, iI_mul, iI_neg, iI_lt, iI_le, iI_eq, jI_iI, B_True, B_False, B_t, B_f, ck_True, gd_True, cb_v, cb_n, p_mv_rw, p_fv_rw, p_rv_some, pA_1, pA_90, pA_92, pA_3, pA_5, pA_93, pA_4, pA_91, pA_6, pS_i, pB_i, pW_i, pZ_0, pZ_1, pZ_b, bI_e0, u1_s, u1_n, uA_s, uA_n, true_and, and_true, not_true_eq_false, not_false_eq_true, eq_self, iI_z, al1, al5, al3, al4, al90, al91, al92, al93, al6, Int.cast_ofNat_Int, Nat.reduceAdd, Int.reduceNeg, Int.reduceAdd, Int.reduceSub, Int.reduceMul, Int.reduceLT, Int.reduceLE, Int.reduceGT, Int.reduceGE, Int.reduceEq, Int.reduceNe, Nat.reduceEqDiff, Int.zero_add, Int.add_zero, p_ty0, p_ty1, p_ty2, p_ty3, p_ty4, p_ty5, p_ty8, p_ty9, p_ty10, tc, hf, ha, hq, hcc, i0, i1, i2, i3, i4, uA_uA, gd_t, ck_t, B_t, B_f]
  · refine ⟨.val (.int (iI (a - 5))), .val (.int (iI (-5))), .val (.int (iI (5 - (a - 5)))), ?_⟩
    rw [if_neg c1, if_neg c1]
    rw [x_L_setUp_191]
    simp (disch := omega) only [x_L_setUp_192, x_L_setUp_193, x_L_setUp_194, x_L_setUp_197, x_L_setUp_198, x_L_setUp_199, x_L_setUp_200, x_L_setUp_201, x_L_setUp_202, x_L_setUp_203, x_L_setUp_204, x_L_setUp_207, x_L_setUp_209, x_L_setUp_210, x_L_setUp_211, x_L_setUp_214, x_L_setUp_216, x_L_setUp_218, x_L_setUp_219, x_L_setUp_222, x_L_setUp_223, x_L_setUp_226, x_L_setUp_227, x_L_setUp_228, x_L_setUp_229, x_L_setUp_231, x_L_setUp_232, x_L_setUp_235, x_L_setUp_237, x_L_setUp_238, x_L_setUp_239, x_L_setUp_240, x_L_setUp_241, x_L_setUp_243, x_L_setUp_244, x_L_setUp_245, x_L_setUp_246, x_L_setUp_247, x_L_setUp_248, x_L_setUp_249, x_L_setUp_250, x_L_setUp_251, x_L_setUp_252, x_L_setUp_253, x_L_setUp_254, x_L_setUp_255, x_L_setUp_256, x_L_setUp_257, x_L_setUp_258, x_L_setUp_259, x_L_setUp_262, x_L_setUp_264, x_L_setUp_265, x_L_setUp_266, x_L_setUp_267, x_L_setUp_268, x_L_setUp_270, x_L_setUp_271, x_L_setUp_272, x_L_setUp_273, x_L_setUp_274, x_L_setUp_275, x_L_setUp_276, x_L_setUp_277, x_L_setUp_278, x_L_setUp_279, x_L_setUp_280, x_L_setUp_281, x_L_setUp_282, x_L_setUp_283, x_L_setUp_284, x_L_setUp_285, x_L_setUp_286, x_L_setUp_289, List.length_cons, List.length_nil, Nat.reduceLeDiff, Nat.zero_add, iI_add, iI_sub, iI_mul, iI_neg, iI_lt, iI_le, iI_eq, jI_iI, B_True, B_False, B_t, B_f, ck_True, gd_True, cb_v, cb_n, p_mv_rw, p_fv_rw, p_rv_some, pA_1, pA_90, pA_92, pA_3, pA_5, pA_93, pA_4, pA_91, pA_6, pS_i, pB_i, pW_i, pZ_0, pZ_1, pZ_b, bI_e0, u1_s, u1_n, uA_s, uA_n, true_and, and_true, not_true_eq_false, not_false_eq_true, eq_self, iI_z, al1, al5, al3, al4, al90, al91, al92, al93, al6, Int.cast_ofNat_Int, Nat.reduceAdd, Int.reduceNeg, Int.reduceAdd, Int.reduceSub, Int.reduceMul, Int.reduceLT, Int.reduceLE, Int.reduceGT, Int.reduceGE, Int.reduceEq, Int.reduceNe, Nat.reduceEqDiff, Int.zero_add, Int.add_zero, p_ty0, p_ty1, p_ty2, p_ty3, p_ty4, p_ty5, p_ty8, p_ty9, p_ty10, tc, hf, ha, hq, hcc, i0, i1, i2, i3, i4, uA_uA, gd_t, ck_t, B_t, B_f]
def suA : Int → Int := u1 (u1 (u1 (u1 (u1 (u1 (u1 (u1 (u1 (u1 (u1 (u1 (u1 (u1 (u1 (u1 (u1 (u1 (u1 (u1 (u1 (u1 (u1 (u1 (u1 (u1 (u1 (fun _ => 0) 0 5) 1 0) 2 4) 3 5) 4 1) 5 4) 6 5) 7 2) 8 4) 9 3) 10 0) 11 5) 12 7) 13 0) 14 5) 15 2) 16 0) 17 3) 18 8) 19 0) 20 3) 21 4) 22 0) 23 2) 24 6) 25 0) 26 1
theorem z_setUp (h100 : 100 ≤ T.1.1) (hI : SI T F s b) (hs : s < T.1.1) (hb : b < T.1.1) (hS : SB1 (M b) (fun _ => 0)) : ∃ M' F', (∀ d, 3 ≤ d → callD d m_L_setUp [.ref s] T M F = some (.inl none, p_new T 1 27, M', F')) ∧ SB1 (M' b) q_sb ∧ F' = uA F T.1.1 (fun _ => none) ∧ ∀ a, a < T.1.1 → a ≠ b → M' a = M a := by
  have tc : p_ty (p_new T 1 27) T.1.1 = (1, 27) := p_ty_nw h100
  obtain ⟨T3, hT3⟩ : ∃ T3 : pT, T3 = p_new T 1 27 := ⟨_, rfl⟩
  have y0 : s_mono T T3 := by rw [hT3]; exact s_mono.new
  rw [← hT3] at tc
  have hI3 : SI T3 (uA F T.1.1 (fun _ => none)) s b := ⟨hI.1, (y0.2.2 s hs).trans hI.2.1, by rw [uA_n (by omega)]; exact hI.2.2.1, hI.2.2.2.1, (y0.2.2 b hb).trans hI.2.2.2.2.1, hI.2.2.2.2.2⟩
  have hne : T.1.1 ≠ b := by omega
  have keep : ∀ (v : Int → Int), uA (uA M b v) T.1.1 suA T.1.1 = suA := fun v => uA_s
  refine ⟨uA (uA M T.1.1 suA) b (sp3 (sp1 91 0 (M b))), _, fun d hd => ?_, by rw [uA_s]; exact sp_SB hS, rfl, fun a ha hab => by rw [uA_n hab, uA_n (by omega)]⟩
  refine callD_go 2 hd rfl (fun e he => ?_)
  rw [← hT3]
  show R e m_L_setUp 0 [.val (.ref s), .unset, .unset, .unset, .unset, .unset] [] T M F = _
  obtain ⟨l2, eL⟩ := z_suL e he hI 91 0 .unset M .unset .unset .unset (by omega) (by omega)
  have e1 : R e m_L_setUp 0 [.val (.ref s), .unset, .unset, .unset, .unset, .unset] [] T M F = R e m_L_setUp 2 [.val (.ref s), .val (.int (iI 0)), .unset, .unset, .unset, .unset] [] T M F := by
    clear eL
    simp (disch := omega) only [x_L_setUp_0, x_L_setUp_1, List.length_cons, List.length_nil, Nat.reduceLeDiff, Nat.zero_add, iI_add, iI_sub, iI_mul, iI_neg, iI_lt, iI_le, iI_eq, jI_iI, B_True, B_False, B_t, B_f, ck_True, gd_True, cb_v, cb_n, p_mv_rw, p_fv_rw, p_rv_some, pA_1, pA_90, pA_92, pA_3, pA_5, pA_93, pA_4, pA_91, pA_6, pS_i, pB_i, pW_i, pZ_0, pZ_1, pZ_b, bI_e0, u1_s, u1_n, uA_s, uA_n, true_and, and_true, not_true_eq_false, not_false_eq_true, eq_self, iI_z, al1, al5, al3, al4, al90, al91, al92, al93, al6, Int.cast_ofNat_Int, Nat.reduceAdd, Int.reduceNeg, Int.reduceAdd, Int.reduceSub, Int.reduceMul, Int.reduceLT, Int.reduceLE, Int.reduceGT, Int.reduceGE, Int.reduceEq, Int.reduceNe, Nat.reduceEqDiff, Int.zero_add, Int.add_zero, p_ty0, p_ty1, p_ty2, p_ty3, p_ty4, p_ty5, p_ty8, p_ty9, p_ty10]
  rw [e1, eL]
  have e2 : R e m_L_setUp 52 [.val (.ref s), .val (.int (iI 91)), l2, .unset, .unset, .unset] [] T (uA M b (sp1 91 0 (M b))) F = R e m_L_setUp 191 [.val (.ref s), .val (.ref T.1.1), .val (.int (iI 0)), .unset, .unset, .unset] [] T3 (uA (uA M b (sp1 91 0 (M b))) T.1.1 suA) (uA F T.1.1 (fun _ => none)) := by
    unfold suA
    have y27 : (27 : Int).toNat = 27 := rfl
    clear e1 eL
    generalize sp1 91 0 (M b) = v
    rw [hT3] at tc ⊢
    simp (disch := omega) only [x_L_setUp_52, x_L_setUp_54, x_L_setUp_56, x_L_setUp_57, x_L_setUp_58, x_L_setUp_59, x_L_setUp_60, x_L_setUp_61, x_L_setUp_62, x_L_setUp_63, x_L_setUp_64, x_L_setUp_65, x_L_setUp_66, x_L_setUp_67, x_L_setUp_68, x_L_setUp_69, x_L_setUp_70, x_L_setUp_71, x_L_setUp_72, x_L_setUp_73, x_L_setUp_74, x_L_setUp_75, x_L_setUp_76, x_L_setUp_77, x_L_setUp_78, x_L_setUp_79, x_L_setUp_80, x_L_setUp_81, x_L_setUp_83, x_L_setUp_84, x_L_setUp_85, x_L_setUp_86, x_L_setUp_88, x_L_setUp_89, x_L_setUp_90, x_L_setUp_91, x_L_setUp_93, x_L_setUp_94, x_L_setUp_95, x_L_setUp_96, x_L_setUp_98, x_L_setUp_99, x_L_setUp_100, x_L_setUp_101, x_L_setUp_103, x_L_setUp_104, x_L_setUp_105, x_L_setUp_106, x_L_setUp_108, x_L_setUp_109, x_L_setUp_110, x_L_setUp_111, x_L_setUp_113, x_L_setUp_115, x_L_setUp_116, x_L_setUp_117, x_L_setUp_119, x_L_setUp_120, x_L_setUp_121, x_L_setUp_122, x_L_setUp_124, x_L_setUp_125, x_L_setUp_126, x_L_setUp_127, x_L_setUp_129, x_L_setUp_130, x_L_setUp_131, x_L_setUp_132, x_L_setUp_134, x_L_setUp_135, x_L_setUp_136, x_L_setUp_137, x_L_setUp_139, x_L_setUp_140, x_L_setUp_141, x_L_setUp_142, x_L_setUp_144, x_L_setUp_146, x_L_setUp_147, x_L_setUp_148, x_L_setUp_150, x_L_setUp_151, x_L_setUp_152, x_L_setUp_153, x_L_setUp_155, x_L_setUp_156, x_L_setUp_157, x_L_setUp_158, x_L_setUp_160, x_L_setUp_161, x_L_setUp_162, x_L_setUp_163, x_L_setUp_165, x_L_setUp_166, x_L_setUp_167, x_L_setUp_168, x_L_setUp_170, x_L_setUp_171, x_L_setUp_172, x_L_setUp_173, x_L_setUp_175, x_L_setUp_177, x_L_setUp_178, x_L_setUp_179, x_L_setUp_181, x_L_setUp_182, x_L_setUp_183, x_L_setUp_184, x_L_setUp_186, x_L_setUp_187, x_L_setUp_188, x_L_setUp_189, x_L_setUp_190, List.length_cons, List.length_nil, Nat.reduceLeDiff, Nat.zero_add, iI_add, iI_sub, iI_mul, iI_neg, iI_lt, iI_le, iI_eq, jI_iI, B_True, B_False, B_t, B_f, ck_True, gd_True, cb_v, cb_n, p_mv_rw, p_fv_rw, p_rv_some, pA_1, pA_90, pA_92, pA_3, pA_5, pA_93, pA_4, pA_91, pA_6, pS_i, pB_i, pW_i, pZ_0, pZ_1, pZ_b, bI_e0, u1_s, u1_n, uA_s, uA_n, true_and, and_true, not_true_eq_false, not_false_eq_true, eq_self, iI_z, al1, al5, al3, al4, al90, al91, al92, al93, al6, Int.cast_ofNat_Int, Nat.reduceAdd, Int.reduceNeg, Int.reduceAdd, Int.reduceSub, Int.reduceMul, Int.reduceLT, Int.reduceLE, Int.reduceGT, Int.reduceGE, Int.reduceEq, Int.reduceNe, Nat.reduceEqDiff, Int.zero_add, Int.add_zero, p_ty0, p_ty1, p_ty2, p_ty3, p_ty4, p_ty5, p_ty8, p_ty9, p_ty10, tc, y27, uA_uA, gd_t, ck_t, B_t, B_f]
  rw [e2]
  clear e1 e2 eL
  generalize hv0 : sp1 91 0 (M b) = v0
  have hM : ∀ (N : pM) (w : Int → Int), N T.1.1 = suA → (uA N b w) T.1.1 = suA := fun N w h => by rw [uA_n hne]; exact h
  have A0 : (uA (uA M b v0) T.1.1 suA) T.1.1 = suA := uA_s
  obtain ⟨a1, a2, a3, r1⟩ := z_suR (e := e) (l3 := .unset) (l4 := .unset) (l5 := .unset) hI3 ⟨h100, hne⟩ tc A0 (k := 0) (by omega) (show suA 0 = 5 from rfl) (show suA (0 + 1) = 0 from rfl) (show suA (0 + 2) = 4 from rfl) (by omega) (by omega) (by omega)
  have A1 := hM _ (sp2 5 0 4 (uA (uA M b v0) T.1.1 suA b)) A0
  obtain ⟨b1, b2, b3, r2⟩ := z_suR (e := e) (l3 := a1) (l4 := a2) (l5 := a3) hI3 ⟨h100, hne⟩ tc A1 (k := 3) (by omega) (show suA 3 = 5 from rfl) (show suA (3 + 1) = 1 from rfl) (show suA (3 + 2) = 4 from rfl) (by omega) (by omega) (by omega)
  rw [uA_s, uA_uA] at r2
  have A2 := hM _ (sp2 5 1 4 (sp2 5 0 4 (uA (uA M b v0) T.1.1 suA b))) A0
  obtain ⟨c1, c2, c3, r3⟩ := z_suR (e := e) (l3 := b1) (l4 := b2) (l5 := b3) hI3 ⟨h100, hne⟩ tc A2 (k := 6) (by omega) (show suA 6 = 5 from rfl) (show suA (6 + 1) = 2 from rfl) (show suA (6 + 2) = 4 from rfl) (by omega) (by omega) (by omega)
  rw [uA_s, uA_uA] at r3
  have A3 := hM _ (sp2 5 2 4 (sp2 5 1 4 (sp2 5 0 4 (uA (uA M b v0) T.1.1 suA b)))) A0
  obtain ⟨d1, d2, d3, r4⟩ := z_suR (e := e) (l3 := c1) (l4 := c2) (l5 := c3) hI3 ⟨h100, hne⟩ tc A3 (k := 9) (by omega) (show suA 9 = 3 from rfl) (show suA (9 + 1) = 0 from rfl) (show suA (9 + 2) = 5 from rfl) (by omega) (by omega) (by omega)
  rw [uA_s, uA_uA] at r4
  have A4 := hM _ (sp2 3 0 5 (sp2 5 2 4 (sp2 5 1 4 (sp2 5 0 4 (uA (uA M b v0) T.1.1 suA b))))) A0
  obtain ⟨f1, f2, f3, r5⟩ := z_suR (e := e) (l3 := d1) (l4 := d2) (l5 := d3) hI3 ⟨h100, hne⟩ tc A4 (k := 12) (by omega) (show suA 12 = 7 from rfl) (show suA (12 + 1) = 0 from rfl) (show suA (12 + 2) = 5 from rfl) (by omega) (by omega) (by omega)
  rw [uA_s, uA_uA] at r5
  have A5 := hM _ (sp2 7 0 5 (sp2 3 0 5 (sp2 5 2 4 (sp2 5 1 4 (sp2 5 0 4 (uA (uA M b v0) T.1.1 suA b)))))) A0
  obtain ⟨g1, g2, g3, r6⟩ := z_suR (e := e) (l3 := f1) (l4 := f2) (l5 := f3) hI3 ⟨h100, hne⟩ tc A5 (k := 15) (by omega) (show suA 15 = 2 from rfl) (show suA (15 + 1) = 0 from rfl) (show suA (15 + 2) = 3 from rfl) (by omega) (by omega) (by omega)
  rw [uA_s, uA_uA] at r6
  have A6 := hM _ (sp2 2 0 3 (sp2 7 0 5 (sp2 3 0 5 (sp2 5 2 4 (sp2 5 1 4 (sp2 5 0 4 (uA (uA M b v0) T.1.1 suA b))))))) A0
  obtain ⟨h1, h2, h3, r7⟩ := z_suR (e := e) (l3 := g1) (l4 := g2) (l5 := g3) hI3 ⟨h100, hne⟩ tc A6 (k := 18) (by omega) (show suA 18 = 8 from rfl) (show suA (18 + 1) = 0 from rfl) (show suA (18 + 2) = 3 from rfl) (by omega) (by omega) (by omega)
  rw [uA_s, uA_uA] at r7
  have A7 := hM _ (sp2 8 0 3 (sp2 2 0 3 (sp2 7 0 5 (sp2 3 0 5 (sp2 5 2 4 (sp2 5 1 4 (sp2 5 0 4 (uA (uA M b v0) T.1.1 suA b)))))))) A0
  obtain ⟨i1, i2, i3, r8⟩ := z_suR (e := e) (l3 := h1) (l4 := h2) (l5 := h3) hI3 ⟨h100, hne⟩ tc A7 (k := 21) (by omega) (show suA 21 = 4 from rfl) (show suA (21 + 1) = 0 from rfl) (show suA (21 + 2) = 2 from rfl) (by omega) (by omega) (by omega)
  rw [uA_s, uA_uA] at r8
  have A8 := hM _ (sp2 4 0 2 (sp2 8 0 3 (sp2 2 0 3 (sp2 7 0 5 (sp2 3 0 5 (sp2 5 2 4 (sp2 5 1 4 (sp2 5 0 4 (uA (uA M b v0) T.1.1 suA b))))))))) A0
  obtain ⟨j1, j2, j3, r9⟩ := z_suR (e := e) (l3 := i1) (l4 := i2) (l5 := i3) hI3 ⟨h100, hne⟩ tc A8 (k := 24) (by omega) (show suA 24 = 6 from rfl) (show suA (24 + 1) = 0 from rfl) (show suA (24 + 2) = 1 from rfl) (by omega) (by omega) (by omega)
  rw [uA_s, uA_uA] at r9
  rw [show (0 : Int) + 3 = 3 from rfl] at r1
  rw [show (3 : Int) + 3 = 6 from rfl] at r2
  rw [show (6 : Int) + 3 = 9 from rfl] at r3
  rw [show (9 : Int) + 3 = 12 from rfl] at r4
  rw [show (12 : Int) + 3 = 15 from rfl] at r5
  rw [show (15 : Int) + 3 = 18 from rfl] at r6
  rw [show (18 : Int) + 3 = 21 from rfl] at r7
  rw [show (21 : Int) + 3 = 24 from rfl] at r8
  rw [show (24 : Int) + 3 = 27 from rfl] at r9
  rw [r1, r2, r3, r4, r5, r6, r7, r8, r9]
  have hB : uA (uA M b v0) T.1.1 suA b = v0 := by rw [uA_n (by omega), uA_s]
  rw [hB]
  have e9 : uA (uA (uA M b v0) T.1.1 suA) b (sp3 v0) = uA (uA M T.1.1 suA) b (sp3 v0) := by
    funext a
    unfold uA
    split
    · rfl
    · split
      · rfl
      · rename_i q1 q2
        first | rfl | rw [if_neg q1]
  show R e m_L_setUp 191 _ [] T3 (uA (uA (uA M b v0) T.1.1 suA) b (sp3 v0)) _ = _
  rw [e9]
  clear r1 r2 r3 r4 r5 r6 r7 r8 r9 A0 A1 A2 A3 A4 A5 A6 A7 A8 hM e9 hB keep
  generalize sp3 v0 = v9
  simp (disch := omega) only [x_L_setUp_191, x_L_setUp_192, x_L_setUp_193, x_L_setUp_194, x_L_setUp_292, List.length_cons, List.length_nil, Nat.reduceLeDiff, Nat.zero_add, iI_add, iI_sub, iI_mul, iI_neg, iI_lt, iI_le, iI_eq, jI_iI, B_True, B_False, B_t, B_f, ck_True, gd_True, cb_v, cb_n, p_mv_rw, p_fv_rw, p_rv_some, pA_1, pA_90, pA_92, pA_3, pA_5, pA_93, pA_4, pA_91, pA_6, pS_i, pB_i, pW_i, pZ_0, pZ_1, pZ_b, bI_e0, u1_s, u1_n, uA_s, uA_n, true_and, and_true, not_true_eq_false, not_false_eq_true, eq_self, iI_z, al1, al5, al3, al4, al90, al91, al92, al93, al6, Int.cast_ofNat_Int, Nat.reduceAdd, Int.reduceNeg, Int.reduceAdd, Int.reduceSub, Int.reduceMul, Int.reduceLT, Int.reduceLE, Int.reduceGT, Int.reduceGE, Int.reduceEq, Int.reduceNe, Nat.reduceEqDiff, Int.zero_add, Int.add_zero, p_ty0, p_ty1, p_ty2, p_ty3, p_ty4, p_ty5, p_ty8, p_ty9, p_ty10, tc, gd_t, ck_t, B_t, B_f]
end PSET
