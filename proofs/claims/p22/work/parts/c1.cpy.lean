section PCPY
variable {d s b n s1 b1 : Nat} {T T1 : pT} {M M1 : pM} {F F1 : pF} {bb : Int → Int} {k t pas q its to as i c p x y X Y mv side f g u : Int}
def iz : Nat → Int → (Int → Int) → Int → Int
  | 0, _, v => v
  | m + 1, p, v => iz m (p + 1) (u1 v p (@ite Int (onP (p / 11 - 5) (p % 11 - 5)) (onPd (p / 11 - 5) (p % 11 - 5)) 0 99))
theorem iz_at : ∀ (m : Nat) (p : Int) (v : Int → Int) (q : Int), iz m p v q = if p ≤ q ∧ q < p + m then (@ite Int (onP (q / 11 - 5) (q % 11 - 5)) (onPd (q / 11 - 5) (q % 11 - 5)) 0 99) else v q
  | 0, p, v, q => by rw [iz, if_neg (by omega)]
  | m + 1, p, v, q => by
    rw [iz, iz_at m (p + 1)]
    by_cases c : q = p
    · subst c
      rw [if_neg (show ¬ (q + 1 ≤ q ∧ q < q + 1 + (m : Int)) by omega), u1_s, if_pos (show q ≤ q ∧ q < q + ((m + 1 : Nat) : Int) by omega)]
    · rw [u1_n c]
      by_cases c2 : p + 1 ≤ q ∧ q < p + 1 + m
      · rw [if_pos c2, if_pos (show p ≤ q ∧ q < p + ((m + 1 : Nat) : Int) by omega)]
      · rw [if_neg c2, if_neg (show ¬ (p ≤ q ∧ q < p + ((m + 1 : Nat) : Int)) by omega)]
theorem iz_SB (v : Int → Int) : SB1 (iz 121 0 v) (fun _ => 0) := by
  intro p hp
  rw [iz_at, if_pos (by omega)]
  have h : onP (p / 11 - 5) (p % 11 - 5) ↔ c1 p ≠ -1 := onP_cA
  by_cases c : c1 p = -1
  · rw [if_pos c, if_neg (fun z => h.mp z c)]
  · rw [if_neg c, if_pos (h.mpr c)]; rfl
theorem z_inL (e : Nat) (he : 2 ≤ e) (hI : SI T F s b) : ∀ (m : Nat) (p : Int) (M : pM), 0 ≤ p → p + m = 121 → R e m_X8_init 19 [.val (.ref s), .val (.int (iI p))] [] T M F = some (.inl none, T, uA M b (iz m p (M b)), F)
  | 0, p, M, hp, hm => by
    obtain rfl : p = 121 := by omega
    rw [iz, uA_id]
    simp (disch := omega) only [x_X8_init_0, x_X8_init_1, x_X8_init_4, x_X8_init_5, x_X8_init_7, x_X8_init_9, x_X8_init_12, x_X8_init_13, x_X8_init_14, x_X8_init_17, x_X8_init_18, x_X8_init_19, x_X8_init_20, x_X8_init_22, x_X8_init_25, x_X8_init_26, x_X8_init_29, x_X8_init_30, x_X8_init_31, x_X8_init_33, x_X8_init_34, x_X8_init_35, x_X8_init_36, x_X8_init_37, x_X8_init_39, x_X8_init_40, x_X8_init_41, x_X8_init_42, x_X8_init_45, x_X8_init_48, x_X8_init_49, x_X8_init_52, x_X8_init_54, x_X8_init_55, x_X8_init_58, x_X8_init_61, List.length_cons, List.length_nil, Nat.reduceLeDiff, Nat.zero_add, iI_add, iI_sub, iI_mul, iI_neg, iI_lt, iI_le, iI_eq, jI_iI, B_True, B_False, B_t, B_f, ck_True, gd_True, cb_v, cb_n, p_mv_rw, p_fv_rw, p_rv_some, pA_1, pA_90, pA_92, pA_3, pA_5, pA_93, pA_4, pA_91, pA_6, pS_i, pB_i, pW_i, pZ_0, pZ_1, pZ_b, bI_e0, u1_s, u1_n, uA_s, uA_n, true_and, and_true, not_true_eq_false, not_false_eq_true, eq_self, iI_z, al1, al5, al3, al4, al90, al91, al92, al93, al6, Int.cast_ofNat_Int, Nat.reduceAdd, Int.reduceNeg, Int.reduceAdd, Int.reduceSub, Int.reduceMul, Int.reduceLT, Int.reduceLE, Int.reduceGT, Int.reduceGE, Int.reduceEq, Int.reduceNe, Nat.reduceEqDiff, Int.zero_add, Int.add_zero, p_ty0, p_ty1, p_ty2, p_ty3, p_ty4, p_ty5, p_ty8, p_ty9, p_ty10, B_t, B_f]
  | m + 1, p, M, hp, hm => by
    have ih := z_inL e he hI m (p + 1) (uA M b (u1 (M b) p (@ite Int (onP (p / 11 - 5) (p % 11 - 5)) (onPd (p / 11 - 5) (p % 11 - 5)) 0 99))) (by omega) (by omega)
    rw [uA_s, uA_uA] at ih
    rw [iz, ← ih]
    clear ih
    obtain ⟨d1, d2⟩ := idv11 (k := p) (by omega)
    have o1 := z_isOn (d := e) (T := T) (M := M) (F := F) (x := p / 11 - 5) (y := p % 11 - 5) (by omega) (by omega) he
    obtain ⟨h100, t0, f0, hb, t1, hsb⟩ := hI
    rw [x_X8_init_19]
    by_cases c : onP (p / 11 - 5) (p % 11 - 5)
    · rw [if_pos c]
      rw [bI_t c] at o1
      simp (disch := omega) only [x_X8_init_20, x_X8_init_22, x_X8_init_25, x_X8_init_26, x_X8_init_29, x_X8_init_30, x_X8_init_31, x_X8_init_33, x_X8_init_34, x_X8_init_35, x_X8_init_36, x_X8_init_37, x_X8_init_39, x_X8_init_40, x_X8_init_41, x_X8_init_42, x_X8_init_45, x_X8_init_48, x_X8_init_49, x_X8_init_52, x_X8_init_54, x_X8_init_55, x_X8_init_58, List.length_cons, List.length_nil, Nat.reduceLeDiff, Nat.zero_add, iI_add, iI_sub, iI_mul, iI_neg, iI_lt, iI_le, iI_eq, jI_iI, B_True, B_False, B_t, B_f, ck_True, gd_True, cb_v, cb_n, p_mv_rw, p_fv_rw, p_rv_some, pA_1, pA_90, pA_92, pA_3, pA_5, pA_93, pA_4, pA_91, pA_6, pS_i, pB_i, pW_i, pZ_0, pZ_1, pZ_b, bI_e0, u1_s, u1_n, uA_s, uA_n, true_and, and_true, not_true_eq_false, not_false_eq_true, eq_self, iI_z, al1, al5, al3, al4, al90, al91, al92, al93, al6, Int.cast_ofNat_Int, Nat.reduceAdd, Int.reduceNeg, Int.reduceAdd, Int.reduceSub, Int.reduceMul, Int.reduceLT, Int.reduceLE, Int.reduceGT, Int.reduceGE, Int.reduceEq, Int.reduceNe, Nat.reduceEqDiff, Int.zero_add, Int.add_zero, p_ty0, p_ty1, p_ty2, p_ty3, p_ty4, p_ty5, p_ty8, p_ty9, p_ty10, t0, f0, t1, d1, d2, o1, gd_t, ck_t, B_t, B_f]
    · rw [if_neg c]
      rw [bI_f c] at o1
      simp (disch := omega) only [x_X8_init_20, x_X8_init_22, x_X8_init_25, x_X8_init_26, x_X8_init_29, x_X8_init_30, x_X8_init_31, x_X8_init_33, x_X8_init_34, x_X8_init_35, x_X8_init_36, x_X8_init_37, x_X8_init_39, x_X8_init_40, x_X8_init_41, x_X8_init_42, x_X8_init_45, x_X8_init_48, x_X8_init_49, x_X8_init_52, x_X8_init_54, x_X8_init_55, x_X8_init_58, List.length_cons, List.length_nil, Nat.reduceLeDiff, Nat.zero_add, iI_add, iI_sub, iI_mul, iI_neg, iI_lt, iI_le, iI_eq, jI_iI, B_True, B_False, B_t, B_f, ck_True, gd_True, cb_v, cb_n, p_mv_rw, p_fv_rw, p_rv_some, pA_1, pA_90, pA_92, pA_3, pA_5, pA_93, pA_4, pA_91, pA_6, pS_i, pB_i, pW_i, pZ_0, pZ_1, pZ_b, bI_e0, u1_s, u1_n, uA_s, uA_n, true_and, and_true, not_true_eq_false, not_false_eq_true, eq_self, iI_z, al1, al5, al3, al4, al90, al91, al92, al93, al6, Int.cast_ofNat_Int, Nat.reduceAdd, Int.reduceNeg, Int.reduceAdd, Int.reduceSub, Int.reduceMul, Int.reduceLT, Int.reduceLE, Int.reduceGT, Int.reduceGE, Int.reduceEq, Int.reduceNe, Nat.reduceEqDiff, Int.zero_add, Int.add_zero, p_ty0, p_ty1, p_ty2, p_ty3, p_ty4, p_ty5, p_ty8, p_ty9, p_ty10, t0, f0, t1, d1, d2, o1, gd_t, ck_t, B_t, B_f]
theorem z_init (hs : 100 ≤ s) (t0 : p_ty T s = (18, 5)) (hn : T.1.1 = s + 1) :
    ∃ T' M' F', (∀ d, 3 ≤ d → callD d m_X8_init [.ref s] T M F = some (.inl none, T', M', F')) ∧ T'.1.1 = s + 2 ∧ T'.1.2 = T.1.2 + 121 ∧ SI T' F' s (s + 1) ∧ SB1 (M' (s + 1)) (fun _ => 0) ∧ M' s = u1 (M s) 2 (-1) ∧ IX s T M F T' M' F' := by
  have tb : p_ty (p_new T 1 121) s = (18, 5) := (p_ty_nx (by omega)).trans t0
  have tv : p_ty (p_new T 1 121) (s + 1) = (1, 121) := by rw [← hn]; exact p_ty_nw (by omega)
  have hI : SI (p_new T 1 121) (uA (uA F (s + 1) (fun _ => none)) s (u1 (F s) 0 (some (s + 1)))) s (s + 1) := ⟨hs, tb, by rw [uA_s, u1_s], by omega, tv, by omega⟩
  refine ⟨p_new T 1 121, uA (uA (uA M (s + 1) (fun _ => 0)) s (u1 (M s) 2 (-1))) (s + 1) (iz 121 0 (fun _ => 0)), _, fun d hd => ?_, by rw [p_nn, hn], rfl, hI, by rw [uA_s]; exact iz_SB _, by rw [uA_n (by omega), uA_s], s_mono.new, fun a ha => ⟨?_, ?_⟩⟩
  · refine callD_go 2 hd rfl (fun e he => ?_)
    show R e m_X8_init 0 [.val (.ref s), .unset] [] T M F = _
    have h1 := z_inL e he hI 121 0 (uA (uA M (s + 1) (fun _ => 0)) s (u1 (M s) 2 (-1))) (by omega) (by omega)
    rw [uA_n (by omega), uA_s] at h1
    rw [← h1]
    clear h1 hI
    have y9 : (121 : Int).toNat = 121 := rfl
    have n1 := fun {α : Type} (X : Nat → Int → α) f h => nA (g := s) (r := s + 1) X f h (by omega)
    simp (disch := omega) only [x_X8_init_0, x_X8_init_1, x_X8_init_4, x_X8_init_5, x_X8_init_7, x_X8_init_9, x_X8_init_12, x_X8_init_13, x_X8_init_14, x_X8_init_17, x_X8_init_18, List.length_cons, List.length_nil, Nat.reduceLeDiff, Nat.zero_add, iI_add, iI_sub, iI_mul, iI_neg, iI_lt, iI_le, iI_eq, jI_iI, B_True, B_False, B_t, B_f, ck_True, gd_True, cb_v, cb_n, p_mv_rw, p_fv_rw, p_rv_some, pA_1, pA_90, pA_92, pA_3, pA_5, pA_93, pA_4, pA_91, pA_6, pS_i, pB_i, pW_i, pZ_0, pZ_1, pZ_b, bI_e0, u1_s, u1_n, uA_s, uA_n, true_and, and_true, not_true_eq_false, not_false_eq_true, eq_self, iI_z, al1, al5, al3, al4, al90, al91, al92, al93, al6, Int.cast_ofNat_Int, Nat.reduceAdd, Int.reduceNeg, Int.reduceAdd, Int.reduceSub, Int.reduceMul, Int.reduceLT, Int.reduceLE, Int.reduceGT, Int.reduceGE, Int.reduceEq, Int.reduceNe, Nat.reduceEqDiff, Int.zero_add, Int.add_zero, p_ty0, p_ty1, p_ty2, p_ty3, p_ty4, p_ty5, p_ty8, p_ty9, p_ty10, t0, tb, hn, y9, gd_t, ck_t]
  · rw [uA_n (by omega), uA_n (by omega), uA_n (by omega)]
  · rw [uA_n (by omega), uA_n (by omega)]
/-- a copy -/
def cpv : Nat → Int → (Int → Int) → (Int → Int) → Int → Int
  | 0, _, _, w => w
  | m + 1, p, v, w => cpv m (p + 1) v (u1 w p (v p))
theorem cpv_at : ∀ (m : Nat) (p : Int) (v w : Int → Int) (q : Int), cpv m p v w q = if p ≤ q ∧ q < p + m then v q else w q
  | 0, p, v, w, q => by rw [cpv, if_neg (by omega)]
  | m + 1, p, v, w, q => by
    rw [cpv, cpv_at m (p + 1)]
    by_cases c : q = p
    · subst c
      rw [if_neg (by omega), if_pos (by omega), u1_s]
    · rw [u1_n c]
      by_cases c2 : p + 1 ≤ q ∧ q < p + 1 + m
      · rw [if_pos c2, if_pos (by omega)]
      · rw [if_neg c2, if_neg (by omega)]
theorem z_cpL (e : Nat) (hI : SI T F s b) (hI1 : SI T F s1 b1) (hbb : b ≠ b1) : ∀ (m : Nat) (p : Int) (M : pM), (∀ p, 0 ≤ p → p < 121 → -6 ≤ M b p ∧ M b p ≤ 99) → 0 ≤ p → p + m = 121 → R e m_X8_copy 10 [.val (.ref s), .val (.ref s1), .val (.int (iI p))] [] T M F = R e m_X8_copy 34 [.val (.ref s), .val (.ref s1), .val (.int (iI 121))] [] T (uA M b1 (cpv m p (M b) (M b1))) F
  | 0, p, M, hv, hp, hm => by
    obtain rfl : p = 121 := by omega
    rw [cpv, uA_id]
    simp (disch := omega) only [x_X8_copy_10, x_X8_copy_11, x_X8_copy_13, List.length_cons, List.length_nil, Nat.reduceLeDiff, Nat.zero_add, iI_add, iI_sub, iI_mul, iI_neg, iI_lt, iI_le, iI_eq, jI_iI, B_True, B_False, B_t, B_f, ck_True, gd_True, cb_v, cb_n, p_mv_rw, p_fv_rw, p_rv_some, pA_1, pA_90, pA_92, pA_3, pA_5, pA_93, pA_4, pA_91, pA_6, pS_i, pB_i, pW_i, pZ_0, pZ_1, pZ_b, bI_e0, u1_s, u1_n, uA_s, uA_n, true_and, and_true, not_true_eq_false, not_false_eq_true, eq_self, iI_z, al1, al5, al3, al4, al90, al91, al92, al93, al6, Int.cast_ofNat_Int, Nat.reduceAdd, Int.reduceNeg, Int.reduceAdd, Int.reduceSub, Int.reduceMul, Int.reduceLT, Int.reduceLE, Int.reduceGT, Int.reduceGE, Int.reduceEq, Int.reduceNe, Nat.reduceEqDiff, Int.zero_add, Int.add_zero, p_ty0, p_ty1, p_ty2, p_ty3, p_ty4, p_ty5, p_ty8, p_ty9, p_ty10, B_t, B_f]
  | m + 1, p, M, hv, hp, hm => by
    have ih := z_cpL e hI hI1 hbb m (p + 1) (uA M b1 (u1 (M b1) p (M b p))) (by rw [uA_n hbb]; exact hv) (by omega) (by omega)
    rw [uA_s, uA_uA, uA_n hbb] at ih
    rw [cpv, ← ih]
    have hv1 := hv p hp (by omega)
    clear ih hv
    obtain ⟨h100, t0, f0, hb, t1, hsb⟩ := hI
    obtain ⟨h100', t0', f0', hb', t1', hsb'⟩ := hI1
    generalize hw : M b p = w at *
    rw [x_X8_copy_10]
    simp (disch := omega) only [x_X8_copy_11, x_X8_copy_13, x_X8_copy_16, x_X8_copy_17, x_X8_copy_20, x_X8_copy_21, x_X8_copy_22, x_X8_copy_25, x_X8_copy_26, x_X8_copy_27, x_X8_copy_28, x_X8_copy_31, List.length_cons, List.length_nil, Nat.reduceLeDiff, Nat.zero_add, iI_add, iI_sub, iI_mul, iI_neg, iI_lt, iI_le, iI_eq, jI_iI, B_True, B_False, B_t, B_f, ck_True, gd_True, cb_v, cb_n, p_mv_rw, p_fv_rw, p_rv_some, pA_1, pA_90, pA_92, pA_3, pA_5, pA_93, pA_4, pA_91, pA_6, pS_i, pB_i, pW_i, pZ_0, pZ_1, pZ_b, bI_e0, u1_s, u1_n, uA_s, uA_n, true_and, and_true, not_true_eq_false, not_false_eq_true, eq_self, iI_z, al1, al5, al3, al4, al90, al91, al92, al93, al6, Int.cast_ofNat_Int, Nat.reduceAdd, Int.reduceNeg, Int.reduceAdd, Int.reduceSub, Int.reduceMul, Int.reduceLT, Int.reduceLE, Int.reduceGT, Int.reduceGE, Int.reduceEq, Int.reduceNe, Nat.reduceEqDiff, Int.zero_add, Int.add_zero, p_ty0, p_ty1, p_ty2, p_ty3, p_ty4, p_ty5, p_ty8, p_ty9, p_ty10, t0, f0, t1, t0', f0', t1', hw, gd_t, ck_t, B_t, B_f]
theorem SI.ix {T' : pT} {M' : pM} {F' : pF} (hI : SI T F s b) (h : IX T.1.1 T M F T' M' F') (hs : s < T.1.1) (hb : b < T.1.1) : SI T' F' s b :=
  ⟨hI.1, (h.1.2.2 s hs).trans hI.2.1, by rw [(h.2 s hs).2]; exact hI.2.2.1, hI.2.2.2.1, (h.1.2.2 b hb).trans hI.2.2.2.2.1, hI.2.2.2.2.2⟩
theorem SM.eq {M' : pM} (h : SM M s b bb t pas q mv) (h1 : M' s = M s) (h2 : M' b = M b) : SM M' s b bb t pas q mv := by
  unfold SM at *
  rw [h1, h2]; exact h
theorem z_copy (h100 : 100 ≤ T.1.1) (hI : SI T F s b) (hs : s < T.1.1) (hb : b < T.1.1) (hS : SM M s b bb t pas q mv) :
    ∃ T' M' F', (∀ d, 4 ≤ d → callD d m_X8_copy [.ref s] T M F = some (.inl (some (.ref T.1.1)), T', M', F')) ∧ T'.1.1 = T.1.1 + 2 ∧ T'.1.2 = T.1.2 + 126 ∧ SI T' F' T.1.1 (T.1.1 + 1) ∧ SM M' T.1.1 (T.1.1 + 1) bb t pas q mv ∧ IX T.1.1 T M F T' M' F' := by
  have tn : p_ty (p_new T 18 5) T.1.1 = (18, 5) := p_ty_nw h100
  obtain ⟨T1, M1, F1, r1, c1, e1, I1, B1, g1, X1⟩ := z_init (T := p_new T 18 5) (M := uA M T.1.1 (fun _ => 0)) (F := uA F T.1.1 (fun _ => none)) h100 tn p_nn
  have X0 : IX T.1.1 T M F (p_new T 18 5) (uA M T.1.1 (fun _ => 0)) (uA F T.1.1 (fun _ => none)) := ⟨s_mono.new, fun a ha => ⟨uA_n (by omega), uA_n (by omega)⟩⟩
  have X2 := X0.tr X1 (Nat.le_refl _)
  have I2 := hI.ix X2 hs hb
  have S2 := hS.eq (X2.2 s hs).1 (X2.2 b hb).1
  obtain ⟨hB, s1, s2, s3, s4, ht, hp, hq, hm⟩ := S2
  have hL := fun e => z_cpL e (s := s) (b := b) (s1 := T.1.1) (b1 := T.1.1 + 1) I2 I1 (by omega) 121 0 M1 (hB.1.hv hB.2) (by omega) (by omega)
  refine ⟨T1, uA (uA M1 (T.1.1 + 1) (cpv 121 0 (M1 b) (M1 (T.1.1 + 1)))) T.1.1 (u1 (u1 (u1 (u1 (M1 T.1.1) 1 t) 2 (pp1 pas)) 3 q) 4 mv), F1, fun d hd => ?_, c1, by rw [e1]; show T.1.2 + 5 + 121 = _; omega, I1, ?_, X2.1, fun a ha => ⟨?_, (X2.2 a ha).2⟩⟩
  · refine callD_go 3 hd rfl (fun e he => ?_)
    show R e m_X8_copy 0 [.val (.ref s), .unset, .unset] [] T M F = _
    have r1 := r1 e he
    have hL := hL e
    have hpr := (pp1_lt hp).2
    obtain ⟨h100', t0', f0', hb', t1', hsb'⟩ := I1
    obtain ⟨h100'', t0'', f0'', hb'', t1'', hsb''⟩ := I2
    generalize pp1 pas = pz at *
    clear hB X0 X1 X2 hS B1 hI
    rw [show R e m_X8_copy 0 [.val (.ref s), .unset, .unset] [] T M F = R e m_X8_copy 10 [.val (.ref s), .val (.ref T.1.1), .val (.int (iI 0))] [] T1 M1 F1 by simp (disch := omega) only [x_X8_copy_0, x_X8_copy_3, x_X8_copy_4, x_X8_copy_7, x_X8_copy_8, x_X8_copy_9, List.length_cons, List.length_nil, Nat.reduceLeDiff, Nat.zero_add, iI_add, iI_sub, iI_mul, iI_neg, iI_lt, iI_le, iI_eq, jI_iI, B_True, B_False, B_t, B_f, ck_True, gd_True, cb_v, cb_n, p_mv_rw, p_fv_rw, p_rv_some, pA_1, pA_90, pA_92, pA_3, pA_5, pA_93, pA_4, pA_91, pA_6, pS_i, pB_i, pW_i, pZ_0, pZ_1, pZ_b, bI_e0, u1_s, u1_n, uA_s, uA_n, true_and, and_true, not_true_eq_false, not_false_eq_true, eq_self, iI_z, al1, al5, al3, al4, al90, al91, al92, al93, al6, Int.cast_ofNat_Int, Nat.reduceAdd, Int.reduceNeg, Int.reduceAdd, Int.reduceSub, Int.reduceMul, Int.reduceLT, Int.reduceLE, Int.reduceGT, Int.reduceGE, Int.reduceEq, Int.reduceNe, Nat.reduceEqDiff, Int.zero_add, Int.add_zero, p_ty0, p_ty1, p_ty2, p_ty3, p_ty4, p_ty5, p_ty8, p_ty9, p_ty10, tn, r1, gd_t, ck_t, B_t, B_f]]
    rw [hL]
    have n1 : s ≠ T.1.1 := by omega
    have n2 : s ≠ T.1.1 + 1 := by omega
    have n3 : T.1.1 ≠ T.1.1 + 1 := by omega
    clear hL r1
    generalize T.1.1 = z at *
    simp (disch := omega) only [x_X8_copy_34, x_X8_copy_35, x_X8_copy_36, x_X8_copy_39, x_X8_copy_42, x_X8_copy_43, x_X8_copy_44, x_X8_copy_47, x_X8_copy_50, x_X8_copy_51, x_X8_copy_52, x_X8_copy_55, x_X8_copy_58, x_X8_copy_59, x_X8_copy_60, x_X8_copy_63, x_X8_copy_66, x_X8_copy_67, List.length_cons, List.length_nil, Nat.reduceLeDiff, Nat.zero_add, iI_add, iI_sub, iI_mul, iI_neg, iI_lt, iI_le, iI_eq, jI_iI, B_True, B_False, B_t, B_f, ck_True, gd_True, cb_v, cb_n, p_mv_rw, p_fv_rw, p_rv_some, pA_1, pA_90, pA_92, pA_3, pA_5, pA_93, pA_4, pA_91, pA_6, pS_i, pB_i, pW_i, pZ_0, pZ_1, pZ_b, bI_e0, u1_s, u1_n, uA_s, uA_n, true_and, and_true, not_true_eq_false, not_false_eq_true, eq_self, iI_z, al1, al5, al3, al4, al90, al91, al92, al93, al6, Int.cast_ofNat_Int, Nat.reduceAdd, Int.reduceNeg, Int.reduceAdd, Int.reduceSub, Int.reduceMul, Int.reduceLT, Int.reduceLE, Int.reduceGT, Int.reduceGE, Int.reduceEq, Int.reduceNe, Nat.reduceEqDiff, Int.zero_add, Int.add_zero, p_ty0, p_ty1, p_ty2, p_ty3, p_ty4, p_ty5, p_ty8, p_ty9, p_ty10, t0', t0'', s1, s2, s3, s4, uA_uA, n1, n2, n3, gd_t, ck_t, B_t, B_f]
  · refine ⟨⟨?_, hB.2⟩, ?_, ?_, ?_, ?_, ht, hp, hq, hm⟩
    · intro p hp
      rw [uA_n (by omega), uA_s, cpv_at, if_pos (by omega)]
      exact hB.1 p hp
    · rw [uA_s, u1_n (by decide), u1_n (by decide), u1_n (by decide), u1_s]
    · rw [uA_s, u1_n (by decide), u1_n (by decide), u1_s]
    · rw [uA_s, u1_n (by decide), u1_s]
    · rw [uA_s, u1_s]
  · rw [uA_n (by omega), uA_n (by omega)]
    exact (X2.2 a ha).1
end PCPY
