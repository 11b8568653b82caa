section PINN
variable {d n bd lg N : Nat} {T T1 : pT} {M M1 : pM} {F F1 : pF} {x y a k i f : Int}
theorem nb_row (hY : YT T F bd lg N) (hk : 0 ≤ k ∧ k < 91) : ∀ (m : Nat) (i : Int) (l4 : Slot) (M : pM), i + m = 12 → 0 ≤ i → M 129 = cX 91 → M 130 = cY 91 → M 132 = cN (12 * k + i) → M 133 = cJ (12 * k + i) → ∀ e, 3 ≤ e → ∃ l4', R e m_X8_init 238 [.val (.ref 127), .val (.int (iI 91)), .val (.int (iI k)), .val (.int (iI i)), l4] [] T M F = R e m_X8_init 353 [.val (.ref 127), .val (.int (iI 91)), .val (.int (iI k)), .val (.int (iI 12)), l4'] [] T (uA (uA M 132 (cN (12 * k + 12))) 133 (cJ (12 * k + 12))) F := by
  intro m
  induction m with
  | zero =>
    intro i l4 M hm h0 hX hYy hN hJ e he
    obtain rfl : i = 12 := by omega
    refine ⟨l4, ?_⟩
    rw [← hN, ← hJ, uA_id, uA_id]
    clear hX hYy hN hJ hY
    simp (disch := omega) only [x_X8_init_238, x_X8_init_239, x_X8_init_241, List.length_cons, List.length_nil, Nat.reduceLeDiff, Nat.zero_add, iI_add, iI_sub, iI_mul, iI_neg, iI_lt, iI_le, iI_eq, jI_iI, B_True, B_False, B_t, B_f, ck_True, gd_True, cb_v, cb_n, p_mv_rw, p_fv_rw, p_rv_some, pA_1, pA_90, pA_92, pA_3, pA_2, pA_93, pA_4, pA_91, pA_95, pS_i, pW_i, pZ_0, pZ_1, pZ_b, bI_e0, u1_s, u1_n, uA_s, uA_n, true_and, and_true, not_true_eq_false, not_false_eq_true, eq_self, iI_z, al1, al2, al3, al4, al90, al91, al92, al93, al95, Int.cast_ofNat_Int, Nat.reduceAdd, Int.reduceNeg, Int.reduceAdd, Int.reduceSub, Int.reduceMul, Int.reduceLT, Int.reduceLE, Int.reduceGT, Int.reduceGE, Int.reduceEq, Int.reduceNe, Nat.reduceEqDiff, Int.zero_add, Int.add_zero, p_ty0, p_ty1, p_ty2, p_ty3, p_ty4, p_ty5, p_ty6, p_ty7, p_ty8, p_ty9, p_ty10, p_ty11, B_t, B_f]
  | succ m ih =>
    intro i l4 M hm h0 hX hYy hN hJ e he
    have hi : 0 ≤ i ∧ i < 12 := by omega
    obtain ⟨j1, j2⟩ := nj_at hk hi
    obtain ⟨s6, s7, s8, s9⟩ := st_at hi
    obtain ⟨g1, g2⟩ := gxy_rg hk
    have rn := gn_rg hk hi
    have rj := gj_rg hk hi
    have sN := cN_s hk.1 hi
    rw [← hN] at sN
    have sJ := cJ_s hk.1 hi
    have ek : 12 * k + (i + 1) = 12 * k + i + 1 := by omega
    have x1 : cX 91 k = gx k := if_pos hk
    have x2 : cY 91 k = gy k := if_pos hk
    obtain ⟨l4', ih⟩ := ih (i + 1) (.val (.int (iI (if i < 6 then 1 else -1)))) (uA (uA M 132 (cN (12 * k + i + 1))) 133 (cJ (12 * k + i + 1))) (by omega) (by omega) (by rw [uA_n (by omega), uA_n (by omega)]; exact hX) (by rw [uA_n (by omega), uA_n (by omega)]; exact hYy) (by rw [ek, uA_n (by omega), uA_s]) (by rw [ek, uA_s]) e he
    rw [uA2 (by omega)] at ih
    refine ⟨l4', ?_⟩
    rw [← ih, x_X8_init_238]
    have ty := hY
    obtain ⟨ty127, ty128, fy1, ty129, fy4, ty130, fy5, ty131, fy6, ty132, fy7, ty133, fy8, ty136, fy15, ty137, fy16, ty138, fy17, ty139, fy18, ty140, fy19, ty141, fy20, ty142, fy21, ty143, fy22, hbd, tybd, fy9, hlg, tylg, fy13, hN⟩ := ty
    have c1 := fun M => y_cellOf (d := e) (T := T) (M := M) (F := F) (x := gx k + p_roM 6 i) (y := gy k + p_roM 7 i) ty127 (by omega) (by omega) he
    rw [j1] at c1
    have e6 : i - i / 6 * 6 = i % 6 := by omega
    by_cases c : i < 6
    · rw [if_pos c] at j2 ⊢
      have c2 := fun M => y_cellOf (d := e) (T := T) (M := M) (F := F) (x := gx k + 1 * p_roM 8 (i % 6)) (y := gy k + 1 * p_roM 9 (i % 6)) ty127 (by omega) (by omega) he
      rw [j2] at c2
      clear ih hY j1 j2 ek
      simp (disch := omega) only [x_X8_init_239, x_X8_init_241, x_X8_init_244, x_X8_init_245, x_X8_init_247, x_X8_init_250, x_X8_init_251, x_X8_init_254, x_X8_init_255, x_X8_init_257, x_X8_init_258, x_X8_init_261, x_X8_init_263, x_X8_init_264, x_X8_init_265, x_X8_init_266, x_X8_init_267, x_X8_init_268, x_X8_init_269, x_X8_init_272, x_X8_init_273, x_X8_init_274, x_X8_init_277, x_X8_init_278, x_X8_init_279, x_X8_init_280, x_X8_init_281, x_X8_init_284, x_X8_init_285, x_X8_init_286, x_X8_init_289, x_X8_init_290, x_X8_init_291, x_X8_init_292, x_X8_init_295, x_X8_init_296, x_X8_init_297, x_X8_init_300, x_X8_init_302, x_X8_init_303, x_X8_init_304, x_X8_init_305, x_X8_init_306, x_X8_init_307, x_X8_init_308, x_X8_init_311, x_X8_init_312, x_X8_init_313, x_X8_init_315, x_X8_init_318, x_X8_init_319, x_X8_init_321, x_X8_init_322, x_X8_init_323, x_X8_init_324, x_X8_init_325, x_X8_init_326, x_X8_init_329, x_X8_init_330, x_X8_init_331, x_X8_init_333, x_X8_init_336, x_X8_init_337, x_X8_init_339, x_X8_init_340, x_X8_init_341, x_X8_init_342, x_X8_init_343, x_X8_init_346, x_X8_init_347, x_X8_init_350, List.length_cons, List.length_nil, Nat.reduceLeDiff, Nat.zero_add, iI_add, iI_sub, iI_mul, iI_neg, iI_lt, iI_le, iI_eq, jI_iI, B_True, B_False, B_t, B_f, ck_True, gd_True, cb_v, cb_n, p_mv_rw, p_fv_rw, p_rv_some, pA_1, pA_90, pA_92, pA_3, pA_2, pA_93, pA_4, pA_91, pA_95, pS_i, pW_i, pZ_0, pZ_1, pZ_b, bI_e0, u1_s, u1_n, uA_s, uA_n, true_and, and_true, not_true_eq_false, not_false_eq_true, eq_self, iI_z, al1, al2, al3, al4, al90, al91, al92, al93, al95, Int.cast_ofNat_Int, Nat.reduceAdd, Int.reduceNeg, Int.reduceAdd, Int.reduceSub, Int.reduceMul, Int.reduceLT, Int.reduceLE, Int.reduceGT, Int.reduceGE, Int.reduceEq, Int.reduceNe, Nat.reduceEqDiff, Int.zero_add, Int.add_zero, p_ty0, p_ty1, p_ty2, p_ty3, p_ty4, p_ty5, p_ty6, p_ty7, p_ty8, p_ty9, p_ty10, p_ty11, ty127, ty128, fy1, ty129, fy4, ty130, fy5, ty131, fy6, ty132, fy7, ty133, fy8, ty136, fy15, ty137, fy16, ty138, fy17, ty139, fy18, ty140, fy19, ty141, fy20, ty142, fy21, ty143, fy22, tybd, fy9, tylg, fy13, c1, c2, hX, hYy, hJ, x1, x2, sN, sJ, e6, iI_div, p_mv_ro, gd_t, B_t, B_f]
    · rw [if_neg c] at j2 ⊢
      have c2 := fun M => y_cellOf (d := e) (T := T) (M := M) (F := F) (x := gx k + -1 * p_roM 8 (i % 6)) (y := gy k + -1 * p_roM 9 (i % 6)) ty127 (by omega) (by omega) he
      rw [j2] at c2
      clear ih hY j1 j2 ek
      simp (disch := omega) only [x_X8_init_239, x_X8_init_241, x_X8_init_244, x_X8_init_245, x_X8_init_247, x_X8_init_250, x_X8_init_251, x_X8_init_254, x_X8_init_255, x_X8_init_257, x_X8_init_258, x_X8_init_261, x_X8_init_263, x_X8_init_264, x_X8_init_265, x_X8_init_266, x_X8_init_267, x_X8_init_268, x_X8_init_269, x_X8_init_272, x_X8_init_273, x_X8_init_274, x_X8_init_277, x_X8_init_278, x_X8_init_279, x_X8_init_280, x_X8_init_281, x_X8_init_284, x_X8_init_285, x_X8_init_286, x_X8_init_289, x_X8_init_290, x_X8_init_291, x_X8_init_292, x_X8_init_295, x_X8_init_296, x_X8_init_297, x_X8_init_300, x_X8_init_302, x_X8_init_303, x_X8_init_304, x_X8_init_305, x_X8_init_306, x_X8_init_307, x_X8_init_308, x_X8_init_311, x_X8_init_312, x_X8_init_313, x_X8_init_315, x_X8_init_318, x_X8_init_319, x_X8_init_321, x_X8_init_322, x_X8_init_323, x_X8_init_324, x_X8_init_325, x_X8_init_326, x_X8_init_329, x_X8_init_330, x_X8_init_331, x_X8_init_333, x_X8_init_336, x_X8_init_337, x_X8_init_339, x_X8_init_340, x_X8_init_341, x_X8_init_342, x_X8_init_343, x_X8_init_346, x_X8_init_347, x_X8_init_350, List.length_cons, List.length_nil, Nat.reduceLeDiff, Nat.zero_add, iI_add, iI_sub, iI_mul, iI_neg, iI_lt, iI_le, iI_eq, jI_iI, B_True, B_False, B_t, B_f, ck_True, gd_True, cb_v, cb_n, p_mv_rw, p_fv_rw, p_rv_some, pA_1, pA_90, pA_92, pA_3, pA_2, pA_93, pA_4, pA_91, pA_95, pS_i, pW_i, pZ_0, pZ_1, pZ_b, bI_e0, u1_s, u1_n, uA_s, uA_n, true_and, and_true, not_true_eq_false, not_false_eq_true, eq_self, iI_z, al1, al2, al3, al4, al90, al91, al92, al93, al95, Int.cast_ofNat_Int, Nat.reduceAdd, Int.reduceNeg, Int.reduceAdd, Int.reduceSub, Int.reduceMul, Int.reduceLT, Int.reduceLE, Int.reduceGT, Int.reduceGE, Int.reduceEq, Int.reduceNe, Nat.reduceEqDiff, Int.zero_add, Int.add_zero, p_ty0, p_ty1, p_ty2, p_ty3, p_ty4, p_ty5, p_ty6, p_ty7, p_ty8, p_ty9, p_ty10, p_ty11, ty127, ty128, fy1, ty129, fy4, ty130, fy5, ty131, fy6, ty132, fy7, ty133, fy8, ty136, fy15, ty137, fy16, ty138, fy17, ty139, fy18, ty140, fy19, ty141, fy20, ty142, fy21, ty143, fy22, tybd, fy9, tylg, fy13, c1, c2, hX, hYy, hJ, x1, x2, sN, sJ, e6, iI_div, p_mv_ro, gd_t, B_t, B_f]
theorem nb_all (hY : YT T F bd lg N) : ∀ (m : Nat) (k : Int) (l3 l4 : Slot) (M : pM), k + m = 91 → 0 ≤ k → M 129 = cX 91 → M 130 = cY 91 → M 132 = cN (12 * k) → M 133 = cJ (12 * k) → ∀ e, 3 ≤ e → R e m_X8_init 230 [.val (.ref 127), .val (.int (iI 91)), .val (.int (iI k)), l3, l4] [] T M F = some (.inl none, T, uA (uA M 132 (cN 1092)) 133 (cJ 1092), F) := by
  intro m
  induction m with
  | zero =>
    intro k l3 l4 M hm h0 hX hYy hN hJ e he
    obtain rfl : k = 91 := by omega
    have e9 : (12 : Int) * 91 = 1092 := rfl
    rw [e9] at hN hJ
    rw [← hN, ← hJ, uA_id, uA_id]
    clear hX hYy hN hJ hY
    simp (disch := omega) only [x_X8_init_230, x_X8_init_231, x_X8_init_233, x_X8_init_359, List.length_cons, List.length_nil, Nat.reduceLeDiff, Nat.zero_add, iI_add, iI_sub, iI_mul, iI_neg, iI_lt, iI_le, iI_eq, jI_iI, B_True, B_False, B_t, B_f, ck_True, gd_True, cb_v, cb_n, p_mv_rw, p_fv_rw, p_rv_some, pA_1, pA_90, pA_92, pA_3, pA_2, pA_93, pA_4, pA_91, pA_95, pS_i, pW_i, pZ_0, pZ_1, pZ_b, bI_e0, u1_s, u1_n, uA_s, uA_n, true_and, and_true, not_true_eq_false, not_false_eq_true, eq_self, iI_z, al1, al2, al3, al4, al90, al91, al92, al93, al95, Int.cast_ofNat_Int, Nat.reduceAdd, Int.reduceNeg, Int.reduceAdd, Int.reduceSub, Int.reduceMul, Int.reduceLT, Int.reduceLE, Int.reduceGT, Int.reduceGE, Int.reduceEq, Int.reduceNe, Nat.reduceEqDiff, Int.zero_add, Int.add_zero, p_ty0, p_ty1, p_ty2, p_ty3, p_ty4, p_ty5, p_ty6, p_ty7, p_ty8, p_ty9, p_ty10, p_ty11, B_t, B_f]
  | succ m ih =>
    intro k l3 l4 M hm h0 hX hYy hN hJ e he
    have hk : 0 ≤ k ∧ k < 91 := by omega
    have ek : 12 * (k + 1) = 12 * k + 12 := by omega
    have z0 : 12 * k + 0 = 12 * k := by omega
    obtain ⟨l4', rw1⟩ := nb_row (F := F) hY hk 12 0 l4 M rfl (Int.le_refl _) hX hYy (by rw [z0]; exact hN) (by rw [z0]; exact hJ) e he
    have ih := ih (k + 1) (.val (.int (iI 12))) l4' (uA (uA M 132 (cN (12 * k + 12))) 133 (cJ (12 * k + 12))) (by omega) (by omega) (by rw [uA_n (by omega), uA_n (by omega)]; exact hX) (by rw [uA_n (by omega), uA_n (by omega)]; exact hYy) (by rw [ek, uA_n (by omega), uA_s]) (by rw [ek, uA_s]) e he
    rw [uA2 (by omega)] at ih
    rw [← ih, x_X8_init_230]
    clear ih hY hX hYy hN hJ ek z0
    simp (disch := omega) only [x_X8_init_231, x_X8_init_233, x_X8_init_236, x_X8_init_237, x_X8_init_353, x_X8_init_356, List.length_cons, List.length_nil, Nat.reduceLeDiff, Nat.zero_add, iI_add, iI_sub, iI_mul, iI_neg, iI_lt, iI_le, iI_eq, jI_iI, B_True, B_False, B_t, B_f, ck_True, gd_True, cb_v, cb_n, p_mv_rw, p_fv_rw, p_rv_some, pA_1, pA_90, pA_92, pA_3, pA_2, pA_93, pA_4, pA_91, pA_95, pS_i, pW_i, pZ_0, pZ_1, pZ_b, bI_e0, u1_s, u1_n, uA_s, uA_n, true_and, and_true, not_true_eq_false, not_false_eq_true, eq_self, iI_z, al1, al2, al3, al4, al90, al91, al92, al93, al95, Int.cast_ofNat_Int, Nat.reduceAdd, Int.reduceNeg, Int.reduceAdd, Int.reduceSub, Int.reduceMul, Int.reduceLT, Int.reduceLE, Int.reduceGT, Int.reduceGE, Int.reduceEq, Int.reduceNe, Nat.reduceEqDiff, Int.zero_add, Int.add_zero, p_ty0, p_ty1, p_ty2, p_ty3, p_ty4, p_ty5, p_ty6, p_ty7, p_ty8, p_ty9, p_ty10, p_ty11, rw1, B_t, B_f]
/-- the model is built -/
theorem i_mod (t0 : p_ty T 127 = (18, 24)) (hn : T.1.1 = 128) (hM : M 127 = fun _ => 0) : ∃ T' M' F', (∀ d, 6 ≤ d → callD d m_X8_init [.ref 127] T M F = some (.inl none, T', M', F')) ∧ T'.1.1 = 144 ∧ T'.1.2 = T.1.2 + 10393 ∧ YT T' F' 134 135 448 ∧ YG M' ∧ s_mono T T' ∧ (∀ a, a < 127 → M' a = M a ∧ F' a = F a) ∧ (M' 134 = fun _ => 0) ∧ (M' 128 = fun _ => 0) ∧ (∀ j, j ≠ 3 → j ≠ 11 → M' 127 j = 0) ∧ M' 127 3 = -1 ∧ M' 127 11 = -1 := by
  obtain ⟨T1, M1, F1, r1, n1, s1, Y1, m1, f1, z1, w1, w3, w11⟩ := i_lay (F := F) t0 hn hM
  have cz : ∀ {u : Int → Int}, ((fun _ => 0) : Int → Int) = fun j => if 0 ≤ j ∧ j < 0 then u j else 0 := by
    intro u; funext j; rw [if_neg (by omega)]
  have f0 : fsz 0 = 0 := by unfold fsz; rw [if_neg (by omega), fs_0.1]
  obtain ⟨M2, hM2⟩ : ∃ M2 : pM, M2 = uA (uA (uA M1 131 (cF 11)) 129 (cX 91)) 130 (cY 91) := ⟨_, rfl⟩
  obtain ⟨M3, hM3⟩ : ∃ M3 : pM, M3 = uA M2 131 (u1 (M2 131) 11 91) := ⟨_, rfl⟩
  obtain ⟨M4, hM4⟩ : ∃ M4 : pM, M4 = uA (uA M3 132 (cN 1092)) 133 (cJ 1092) := ⟨_, rfl⟩
  have o2 : ∀ a, a ≠ 129 → a ≠ 130 → a ≠ 131 → M2 a = M1 a := fun a a1 a2 a3 => by rw [hM2, uA_n a2, uA_n a1, uA_n a3]
  have o3 : ∀ a, a ≠ 129 → a ≠ 130 → a ≠ 131 → M3 a = M1 a := fun a a1 a2 a3 => by rw [hM3, uA_n a3]; exact o2 a a1 a2 a3
  have o4 : ∀ a, a ≠ 129 → a ≠ 130 → a ≠ 131 → a ≠ 132 → a ≠ 133 → M4 a = M1 a := fun a a1 a2 a3 a4 a5 => by rw [hM4, uA_n a5, uA_n a4]; exact o3 a a1 a2 a3
  have e131 : M2 131 = cF 11 := by rw [hM2, uA_n (by omega), uA_n (by omega), uA_s]
  have e129 : M3 129 = cX 91 := by rw [hM3, uA_n (by omega), hM2, uA_n (by omega), uA_s]
  have e130 : M3 130 = cY 91 := by rw [hM3, uA_n (by omega), hM2, uA_s]
  refine ⟨T1, M4, F1, fun d hd => ?_, n1, s1, Y1, ⟨fun k k0 k1 => ?_, fun k k0 k1 => ?_, fun c c0 c1 => ?_, fun k i k0 k1 i0 i1 => ?_, fun k i k0 k1 i0 i1 => ?_⟩, m1, fun a ha => ⟨?_, (f1 a ha).2⟩, ?_, ?_, fun j j1 j2 => ?_, ?_, ?_⟩
  · refine callD_go 5 hd rfl (fun e he => ?_)
    show R e m_X8_init 0 [.val (.ref 127), .unset, .unset, .unset, .unset] [] T M F = _
    obtain ⟨l3, ra⟩ := in_all (F := F1) Y1 11 0 .unset M1 rfl (Int.le_refl _) (by rw [f0, z1 129 (by omega) (by omega)]; exact cz) (by rw [f0, z1 130 (by omega) (by omega)]; exact cz) (by rw [z1 131 (by omega) (by omega)]; exact cz) e (by omega)
    have rb := fun l3 => nb_all (F := F1) Y1 91 0 l3 .unset M3 rfl (Int.le_refl _) e129 e130 (by rw [o3 132 (by omega) (by omega) (by omega), z1 132 (by omega) (by omega)]; exact cz) (by rw [o3 133 (by omega) (by omega) (by omega), z1 133 (by omega) (by omega)]; exact cz) e (by omega)
    rw [r1 e he]
    rw [f0, ← hM2] at ra
    rw [← hM4] at rb
    have hM3' : uA M2 131 (u1 (M2 131) 11 91) = M3 := hM3.symm
    have ty := Y1
    obtain ⟨ty127, ty128, fy1, ty129, fy4, ty130, fy5, ty131, fy6, ty132, fy7, ty133, fy8, ty136, fy15, ty137, fy16, ty138, fy17, ty139, fy18, ty140, fy19, ty141, fy20, ty142, fy21, ty143, fy22, hbd, tybd, fy9, hlg, tylg, fy13, hN⟩ := ty
    clear Y1 z1 w1 w3 w11 o2 o3 o4 e129 e130 hM2 hM3 hM4 cz e131 f1 m1 r1
    simp (disch := omega) only [x_X8_init_151, x_X8_init_152, x_X8_init_153, x_X8_init_154, x_X8_init_220, x_X8_init_221, x_X8_init_224, x_X8_init_226, x_X8_init_227, x_X8_init_228, x_X8_init_229, List.length_cons, List.length_nil, Nat.reduceLeDiff, Nat.zero_add, iI_add, iI_sub, iI_mul, iI_neg, iI_lt, iI_le, iI_eq, jI_iI, B_True, B_False, B_t, B_f, ck_True, gd_True, cb_v, cb_n, p_mv_rw, p_fv_rw, p_rv_some, pA_1, pA_90, pA_92, pA_3, pA_2, pA_93, pA_4, pA_91, pA_95, pS_i, pW_i, pZ_0, pZ_1, pZ_b, bI_e0, u1_s, u1_n, uA_s, uA_n, true_and, and_true, not_true_eq_false, not_false_eq_true, eq_self, iI_z, al1, al2, al3, al4, al90, al91, al92, al93, al95, Int.cast_ofNat_Int, Nat.reduceAdd, Int.reduceNeg, Int.reduceAdd, Int.reduceSub, Int.reduceMul, Int.reduceLT, Int.reduceLE, Int.reduceGT, Int.reduceGE, Int.reduceEq, Int.reduceNe, Nat.reduceEqDiff, Int.zero_add, Int.add_zero, p_ty0, p_ty1, p_ty2, p_ty3, p_ty4, p_ty5, p_ty6, p_ty7, p_ty8, p_ty9, p_ty10, p_ty11, ty127, ty128, fy1, ty129, fy4, ty130, fy5, ty131, fy6, ty132, fy7, ty133, fy8, ty136, fy15, ty137, fy16, ty138, fy17, ty139, fy18, ty140, fy19, ty141, fy20, ty142, fy21, ty143, fy22, tybd, fy9, tylg, fy13, ra, rb, hM3', gd_t, B_t, B_f]
  · rw [hM4, uA_n (by omega), uA_n (by omega), e129]; exact if_pos ⟨k0, k1⟩
  · rw [hM4, uA_n (by omega), uA_n (by omega), e130]; exact if_pos ⟨k0, k1⟩
  · rw [hM4, uA_n (by omega), uA_n (by omega), hM3, uA_s, u1_n (by omega), e131]; exact if_pos ⟨c0, c1⟩
  · rw [hM4, uA_n (by omega), uA_s]
    show (if 0 ≤ 12 * k + i ∧ 12 * k + i < 1092 then gn ((12 * k + i) / 12) ((12 * k + i) % 12) else 0) = _
    rw [if_pos (by omega), show (12 * k + i) / 12 = k by omega, show (12 * k + i) % 12 = i by omega]
  · rw [hM4, uA_s]
    show (if 0 ≤ 12 * k + i ∧ 12 * k + i < 1092 then gj ((12 * k + i) / 12) ((12 * k + i) % 12) else 0) = _
    rw [if_pos (by omega), show (12 * k + i) / 12 = k by omega, show (12 * k + i) % 12 = i by omega]
  · rw [o4 a (by omega) (by omega) (by omega) (by omega) (by omega)]; exact (f1 a ha).1
  · rw [o4 134 (by omega) (by omega) (by omega) (by omega) (by omega)]; exact z1 134 (by omega) (by omega)
  · rw [o4 128 (by omega) (by omega) (by omega) (by omega) (by omega)]; exact z1 128 (by omega) (by omega)
  · rw [o4 127 (by omega) (by omega) (by omega) (by omega) (by omega)]; exact w1 j j1 j2
  · rw [o4 127 (by omega) (by omega) (by omega) (by omega) (by omega)]; exact w3
  · rw [o4 127 (by omega) (by omega) (by omega) (by omega) (by omega)]; exact w11
end PINN
