section PALL
variable {d s b n s1 b1 r r1 : Nat} {T T1 : pT} {M M1 : pM} {F F1 : pF} {bb : Int → Int} {k t pas q its to as i c p x y X Y mv side f g u : Int} {A : List Int}
def tri : Nat → Nat
  | 0 => 0
  | n + 1 => tri n + (n + 1)
theorem tri_mono {n m : Nat} (h : n ≤ m) : tri n ≤ tri m := by
  induction m with
  | zero => rw [Nat.le_zero.mp h]; exact Nat.le_refl _
  | succ m ih =>
    by_cases c : n = m + 1
    · rw [c]; exact Nat.le_refl _
    · rw [tri]; have := ih (by omega); omega
/-- an array that holds a list -/
def AR (T : pT) (M : pM) (r : Nat) (A : List Int) : Prop := 100 ≤ r ∧ p_ty T r = (1, A.length) ∧ ∀ j : Nat, j < A.length → M r j = A.getD j 0 ∧ 0 ≤ A.getD j 0 ∧ A.getD j 0 < 8281
theorem z_alC (e : Nat) {n1 n2 : Nat} {l0 l2 l3 l4 : Slot} (hr : 100 ≤ r) (hr1 : 100 ≤ r1) (hne : r ≠ r1) (t0 : p_ty T r = (1, n1)) (t1 : p_ty T r1 = (1, n2)) (hn : n1 < n2) (hn9 : n1 ≤ 10000) : ∀ (m : Nat) (j : Int) (M : pM), (∀ p, 0 ≤ p → p < (n1 : Int) → -1000000 ≤ M r p ∧ M r p ≤ 1000000) → 0 ≤ j → j + m = n1 → R e m_X8_all 78 [l0, .val (.ref r), l2, l3, l4, .val (.ref r1), .val (.int (iI j))] [] T M F = R e m_X8_all 100 [l0, .val (.ref r), l2, l3, l4, .val (.ref r1), .val (.int (iI n1))] [] T (uA M r1 (cpv m j (M r) (M r1))) F
  | 0, j, M, hv, hj, hm => by
    obtain rfl : j = n1 := by omega
    rw [cpv, uA_id]
    simp (disch := omega) only [x_X8_all_78, x_X8_all_80, x_X8_all_81, x_X8_all_82, List.length_cons, List.length_nil, Nat.reduceLeDiff, Nat.zero_add, iI_add, iI_sub, iI_mul, iI_neg, iI_lt, iI_le, iI_eq, jI_iI, B_True, B_False, B_t, B_f, ck_True, gd_True, cb_v, cb_n, p_mv_rw, p_fv_rw, p_rv_some, pA_1, pA_90, pA_92, pA_3, pA_5, pA_93, pA_4, pA_91, pA_6, pS_i, pB_i, pW_i, pZ_0, pZ_1, pZ_b, bI_e0, u1_s, u1_n, uA_s, uA_n, true_and, and_true, not_true_eq_false, not_false_eq_true, eq_self, iI_z, al1, al5, al3, al4, al90, al91, al92, al93, al6, Int.cast_ofNat_Int, Nat.reduceAdd, Int.reduceNeg, Int.reduceAdd, Int.reduceSub, Int.reduceMul, Int.reduceLT, Int.reduceLE, Int.reduceGT, Int.reduceGE, Int.reduceEq, Int.reduceNe, Nat.reduceEqDiff, Int.zero_add, Int.add_zero, p_ty0, p_ty1, p_ty2, p_ty3, p_ty4, p_ty5, p_ty8, p_ty9, p_ty10, t0, t1, B_t, B_f, gd_t, ck_t]
  | m + 1, j, M, hv, hj, hm => by
    have ih := z_alC e (l0 := l0) (l2 := l2) (l3 := l3) (l4 := l4) hr hr1 hne t0 t1 hn hn9 m (j + 1) (uA M r1 (u1 (M r1) j (M r j))) (by rw [uA_n hne]; exact hv) (by omega) (by omega)
    rw [uA_s, uA_uA, uA_n hne] at ih
    rw [cpv, ← ih]
    have hv1 := hv j hj (by omega)
    clear ih hv
    generalize hw : M r j = w at *
    rw [x_X8_all_78]
    simp (disch := omega) only [x_X8_all_80, x_X8_all_81, x_X8_all_82, x_X8_all_85, x_X8_all_87, x_X8_all_89, x_X8_all_90, x_X8_all_92, x_X8_all_93, x_X8_all_94, x_X8_all_97, List.length_cons, List.length_nil, Nat.reduceLeDiff, Nat.zero_add, iI_add, iI_sub, iI_mul, iI_neg, iI_lt, iI_le, iI_eq, jI_iI, B_True, B_False, B_t, B_f, ck_True, gd_True, cb_v, cb_n, p_mv_rw, p_fv_rw, p_rv_some, pA_1, pA_90, pA_92, pA_3, pA_5, pA_93, pA_4, pA_91, pA_6, pS_i, pB_i, pW_i, pZ_0, pZ_1, pZ_b, bI_e0, u1_s, u1_n, uA_s, uA_n, true_and, and_true, not_true_eq_false, not_false_eq_true, eq_self, iI_z, al1, al5, al3, al4, al90, al91, al92, al93, al6, Int.cast_ofNat_Int, Nat.reduceAdd, Int.reduceNeg, Int.reduceAdd, Int.reduceSub, Int.reduceMul, Int.reduceLT, Int.reduceLE, Int.reduceGT, Int.reduceGE, Int.reduceEq, Int.reduceNe, Nat.reduceEqDiff, Int.zero_add, Int.add_zero, p_ty0, p_ty1, p_ty2, p_ty3, p_ty4, p_ty5, p_ty8, p_ty9, p_ty10, t0, t1, hw, gd_t, ck_t, B_t, B_f]
theorem getD_last (A : List Int) (x : Int) : (A ++ [x]).getD A.length 0 = x := by
  simp [List.getD]
theorem z_alA (h100 : 100 ≤ T.1.1) (hA : AR T M r A) (hr : r < T.1.1) (hl : A.length ≤ 10000) (hf : 0 ≤ k ∧ k < 91) (ht : 0 ≤ to ∧ to < 91) {l0 l3 l5 l6 : Slot} :
    ∃ M', (∀ e, R e m_X8_all 67 [l0, .val (.ref r), .val (.int (iI k)), l3, .val (.int (iI to)), l5, l6] [] T M F = R e m_X8_all 115 [l0, .val (.ref T.1.1), .val (.int (iI k)), l3, .val (.int (iI to)), .val (.ref T.1.1), .val (.int (iI A.length))] [] (p_new T 1 (A.length + 1)) M' (uA F T.1.1 (fun _ => none))) ∧ AR (p_new T 1 (A.length + 1)) M' T.1.1 (A ++ [91 * k + to]) ∧ ∀ a, a < T.1.1 → M' a = M a := by
  obtain ⟨a1, a2, a3⟩ := hA
  have t1 : p_ty (p_new T 1 (A.length + 1)) T.1.1 = (1, A.length + 1) := p_ty_nw h100
  have t0 : p_ty (p_new T 1 (A.length + 1)) r = (1, A.length) := (p_ty_nx hr).trans a2
  have hL := fun e => z_alC (F := uA F T.1.1 (fun _ => none)) e (l0 := l0) (l2 := .val (.int (iI k))) (l3 := l3) (l4 := .val (.int (iI to))) a1 h100 (by omega) t0 t1 (by omega) hl A.length 0 (uA M T.1.1 (fun _ => 0)) (fun p p0 p1 => by
    rw [uA_n (by omega)]
    have := a3 p.toNat (by omega)
    rw [Int.toNat_of_nonneg p0] at this
    omega) (by omega) (by omega)
  refine ⟨uA M T.1.1 (u1 (cpv A.length 0 (M r) (fun _ => 0)) A.length (91 * k + to)), fun e => ?_, ⟨h100, by rw [t1, List.length_append]; rfl, fun j hj => ?_⟩, fun a ha => uA_n (by omega)⟩
  · have hL := hL e
    rw [uA_s, uA_uA, uA_n (show r ≠ T.1.1 by omega)] at hL
    have e1 : R e m_X8_all 67 [l0, .val (.ref r), .val (.int (iI k)), l3, .val (.int (iI to)), l5, l6] [] T M F = R e m_X8_all 78 [l0, .val (.ref r), .val (.int (iI k)), l3, .val (.int (iI to)), .val (.ref T.1.1), .val (.int (iI 0))] [] (p_new T 1 (A.length + 1)) (uA M T.1.1 (fun _ => 0)) (uA F T.1.1 (fun _ => none)) := by
      have y9 : ((A.length : Int) + 1).toNat = A.length + 1 := by omega
      clear hL a3 t0 t1
      generalize A.length = n at *
      simp (disch := omega) only [x_X8_all_67, x_X8_all_68, x_X8_all_69, x_X8_all_70, x_X8_all_71, x_X8_all_73, x_X8_all_75, x_X8_all_76, List.length_cons, List.length_nil, Nat.reduceLeDiff, Nat.zero_add, iI_add, iI_sub, iI_mul, iI_neg, iI_lt, iI_le, iI_eq, jI_iI, B_True, B_False, B_t, B_f, ck_True, gd_True, cb_v, cb_n, p_mv_rw, p_fv_rw, p_rv_some, pA_1, pA_90, pA_92, pA_3, pA_5, pA_93, pA_4, pA_91, pA_6, pS_i, pB_i, pW_i, pZ_0, pZ_1, pZ_b, bI_e0, u1_s, u1_n, uA_s, uA_n, true_and, and_true, not_true_eq_false, not_false_eq_true, eq_self, iI_z, al1, al5, al3, al4, al90, al91, al92, al93, al6, Int.cast_ofNat_Int, Nat.reduceAdd, Int.reduceNeg, Int.reduceAdd, Int.reduceSub, Int.reduceMul, Int.reduceLT, Int.reduceLE, Int.reduceGT, Int.reduceGE, Int.reduceEq, Int.reduceNe, Nat.reduceEqDiff, Int.zero_add, Int.add_zero, p_ty0, p_ty1, p_ty2, p_ty3, p_ty4, p_ty5, p_ty8, p_ty9, p_ty10, a2, y9, gd_t, ck_t, B_t, B_f]
    rw [e1, hL]
    clear hL e1 a3
    generalize cpv A.length 0 (M r) (fun _ => 0) = W
    generalize A.length = n at *
    generalize T.1.1 = z at *
    simp (disch := omega) only [x_X8_all_100, x_X8_all_102, x_X8_all_103, x_X8_all_104, x_X8_all_106, x_X8_all_107, x_X8_all_108, x_X8_all_110, x_X8_all_111, x_X8_all_112, x_X8_all_114, List.length_cons, List.length_nil, Nat.reduceLeDiff, Nat.zero_add, iI_add, iI_sub, iI_mul, iI_neg, iI_lt, iI_le, iI_eq, jI_iI, B_True, B_False, B_t, B_f, ck_True, gd_True, cb_v, cb_n, p_mv_rw, p_fv_rw, p_rv_some, pA_1, pA_90, pA_92, pA_3, pA_5, pA_93, pA_4, pA_91, pA_6, pS_i, pB_i, pW_i, pZ_0, pZ_1, pZ_b, bI_e0, u1_s, u1_n, uA_s, uA_n, true_and, and_true, not_true_eq_false, not_false_eq_true, eq_self, iI_z, al1, al5, al3, al4, al90, al91, al92, al93, al6, Int.cast_ofNat_Int, Nat.reduceAdd, Int.reduceNeg, Int.reduceAdd, Int.reduceSub, Int.reduceMul, Int.reduceLT, Int.reduceLE, Int.reduceGT, Int.reduceGE, Int.reduceEq, Int.reduceNe, Nat.reduceEqDiff, Int.zero_add, Int.add_zero, p_ty0, p_ty1, p_ty2, p_ty3, p_ty4, p_ty5, p_ty8, p_ty9, p_ty10, t0, t1, uA_uA, gd_t, ck_t, B_t, B_f]
  · rw [List.length_append] at hj
    have hj : j < A.length + 1 := hj
    rw [uA_s]
    by_cases c : j = A.length
    · rw [c, getD_last, u1_s]; omega
    · have := a3 j (by omega)
      rw [getD_app A _ (by omega), u1_n (by omega), cpv_at, if_pos (by omega)]
      exact this
theorem flt_no {P : Int → Prop} : ∀ (n : Nat) (i : Int), (∀ j, i ≤ j → j < i + n → ¬ P j) → flt P n i = []
  | 0, i, h => rfl
  | n + 1, i, h => by
    rw [flt, if_neg (h i (by omega) (by omega)), flt_no n (i + 1) (fun j j0 j1 => h j (by omega) (by omega))]
    rfl
theorem AR.ix {T' : pT} {M' : pM} {F' : pF} {b0 : Nat} (h : AR T M r A) (hx : IX b0 T M F T' M' F') (hr : r < b0) (hr2 : r < T.1.1) : AR T' M' r A := ⟨h.1, (hx.1.2.2 r hr2).trans h.2.1, fun j hj => by rw [(hx.2 r hr).1]; exact h.2.2 j hj⟩
/-- what the whole listing leaves of the cells below b0, and costs -/
def ALx (b0 : Nat) (T : pT) (M : pM) (F : pF) (T' : pT) (M' : pM) (F' : pF) (c : Nat) (A A' : List Int) : Prop := IX b0 T M F T' M' F' ∧ T'.1.1 + A.length ≤ T.1.1 + 2 * c + A'.length ∧ T'.1.2 + tri A.length ≤ T.1.2 + 126 * c + tri A'.length
theorem ALx.tr {b0 c c' : Nat} {T2 : pT} {M2 : pM} {F2 : pF} {A A' A2 : List Int} (h : ALx b0 T M F T1 M1 F1 c A A') (h' : ALx b0 T1 M1 F1 T2 M2 F2 c' A' A2) : ALx b0 T M F T2 M2 F2 (c + c') A A2 := ⟨h.1.tr h'.1 (Nat.le_refl _), by have := h.2.1; have := h'.2.1; omega, by have := h.2.2; have := h'.2.2; omega⟩
end PALL
