section PTCH
variable {d g : Nat} {T : pT} {M M0 M1 M2 : pM} {F F1 : pF} {bb : Int → Int} {t pas q its to as p z n i c s x er : Int} {k j : Nat} {Q P R0 : List TKn} {H : List HE}
/-- the number of a kind -/
def knum (k : Nat) : Int := if k < 6 then 0 else if k = 6 then 1 else if k < 13 then (k : Int) - 6 else 0
theorem kd_num (hk : k < 16) : p_mv M (12 + k) 1 = knum k := (kd_f (T := ((0, 0), fun _ => (0, 0))) (F := fun _ _ => none) hk).2.2.2
abbrev GSx : Type := (Int → Int) × Int × Int × Int × List HE
def GAx (M : pM) (g : Nat) (S : GSx) : Prop := GA M g S.2.2.2.2 S.1 S.2.1 S.2.2.1 S.2.2.2.1
theorem tk_at (R : List TKn) (x : TKn) (j : Nat) : (P ++ x :: R).getD (P.length + 1 + j) tk0 = R.getD j tk0 := by
  rw [List.getD_eq_getElem?_getD, List.getD_eq_getElem?_getD, List.getElem?_append_right (by omega), show P.length + 1 + j - P.length = j + 1 by omega, List.getElem?_cons_succ]
theorem tk_at0 (R : List TKn) (x : TKn) : (P ++ x :: R).getD P.length tk0 = x := by
  rw [List.getD_eq_getElem?_getD, List.getElem?_append_right (Nat.le_refl _), Nat.sub_self, List.getElem?_cons_zero]; rfl
theorem c_fail (t0 : p_ty T 107 = (15, 1)) (hR : RT T F 103) (hS : RS M F 103 Q) (hj : j < Q.length) (he : 0 ≤ er ∧ er ≤ 10) (hd : 2 ≤ d) : callD d m_X5_fail [.ref 107, .ref 103, .int (iI (j : Int)), .int (iI er)] T M F = some (.inl (some (.int (iI er))), T, uA M 107 (u1 (M 107) 0 (Q.getD j tk0).1), F) := by
  refine callD_go 1 hd rfl (fun e he => ?_)
  show R e m_X5_fail 0 [.val (.ref 107), .val (.ref 103), .val (.int (iI (j : Int))), .val (.int (iI er))] [] T M F = _
  have h1 := c_startOf (d := e) hR hS he hj
  have hk := tk_ok (j := j) hS.2.2.1
  have r0 := hR.2.1
  unfold TKok at hk
  clear hR hS
  simp (disch := omega) only [x_X5_fail_0, x_X5_fail_1, x_X5_fail_2, x_X5_fail_3, x_X5_fail_6, x_X5_fail_9, x_X5_fail_10, List.length_cons, List.length_nil, Nat.reduceLeDiff, Nat.zero_add, iI_add, iI_sub, iI_mul, iI_neg, iI_lt, iI_le, iI_eq, jI_iI, B_True, B_False, B_t, B_f, ck_True, gd_True, cb_v, cb_n, p_mv_rw, p_fv_rw, p_rv_some, pA_1, pA_90, pA_92, pA_3, pA_5, pA_93, pA_4, pA_91, pA_6, pS_i, pB_i, pW_i, pZ_0, pZ_1, pZ_b, bI_e0, u1_s, u1_n, uA_s, uA_n, true_and, and_true, not_true_eq_false, not_false_eq_true, eq_self, iI_z, al1, al5, al3, al4, al90, al91, al92, al93, al6, Int.cast_ofNat_Int, Nat.reduceAdd, Int.reduceNeg, Int.reduceAdd, Int.reduceSub, Int.reduceMul, Int.reduceLT, Int.reduceLE, Int.reduceGT, Int.reduceGE, Int.reduceEq, Int.reduceNe, Nat.reduceEqDiff, Int.zero_add, Int.add_zero, p_ty0, p_ty1, p_ty2, p_ty3, p_ty4, p_ty5, p_ty8, p_ty9, p_ty10, t0, r0, h1, gd_t]
/-- putting a piece -/
noncomputable def d_put (R : List TKn) (S : GSx) : Int × Int × GSx :=
  if 20 ≤ sm (a_pc S.1 (knum (R.getD 0 tk0).2.1)) 91 then (4, (R.getD 0 tk0).1, S)
  else if knum (R.getD 1 tk0).2.1 = 1 ∧ m_king S.1 (knum (R.getD 0 tk0).2.1) ≠ -1 then (3, (R.getD 1 tk0).1, S)
  else if (R.getD 2 tk0).2.2 = -1 then (2, (R.getD 2 tk0).1, S)
  else if S.1 (R.getD 2 tk0).2.2 ≠ 0 then (3, (R.getD 2 tk0).1, S)
  else (0, -1, (u1 S.1 (R.getD 2 tk0).2.2 (10 * knum (R.getD 0 tk0).2.1 + knum (R.getD 1 tk0).2.1), S.2.1, -1, 0, []))
theorem GAx.gs {S : GSx} (h : GAx M g S) : GS M g S.1 S.2.1 S.2.2.1 S.2.2.2.1 := h.1.1
theorem GAx.new (h : GS M g bb t (-1) 0) (h5 : M g 5 = 0) (h8 : M g 8 = 0) (h20 : P20 bb) : GAx M g (bb, t, -1, 0, []) := ⟨⟨h, Or.inl h8, h20, by show (0 : Int) ≤ 60; omega⟩, h5, trivial, trivial⟩
theorem GAx.fr {S : GSx} (h : GAx M g S) (f : ∀ a, g ≤ a → a ≤ g + 6 → M1 a = M a) : GAx M1 g S := by
  obtain ⟨⟨h1, h2, h3, h4⟩, h5, h6, h7⟩ := h
  refine ⟨⟨h1.fr (f _ (by omega) (by omega)) (f _ (by omega) (by omega)) (by rw [f _ (by omega) (by omega)]) (by rw [f _ (by omega) (by omega)]) (by rw [f _ (by omega) (by omega)]), ?_, h3, h4⟩, ?_, ?_, h7⟩
  · unfold GL LM; rw [f g (by omega) (by omega), f (g + 4) (by omega) (by omega)]; exact h2
  · rw [f g (by omega) (by omega)]; exact h5
  · rw [f (g + 3) (by omega) (by omega)]; exact h6
theorem GF.fr {S : GSx} (h : GAx M g S) (f : ∀ a, a ≠ 107 → M1 a = M a) (hg : 113 ≤ g) : GAx M1 g S := h.fr (fun a a1 a2 => f a (by omega))
theorem P20.put (h : P20 bb) (hs : s = 0 ∨ s = 1) (hx : 1 ≤ x ∧ x ≤ 6) (hc : 0 ≤ c ∧ c < 91) (h0 : bb c = 0) (hl : ¬ 20 ≤ sm (a_pc bb s) 91) : P20 (u1 bb c (10 * s + x)) := by
  intro s' hs'
  rw [pc_u1 hc]
  have h1 := h s' hs'
  have m0 : a_pc bb s' c = 0 := by unfold a_pc; rw [h0]; exact bI_f (by unfold m_side; rw [if_pos rfl]; omega)
  have m1 := bI_rg (m_side (10 * s + x) = s')
  have ms : m_side (10 * s + x) = s := by unfold m_side; rw [if_neg (by omega)]; omega
  rw [m0]
  by_cases e : s' = s
  · subst e; omega
  · rw [ms, bI_f (fun z => e z.symm)]; omega
theorem c_tput {S : GSx} (hg : 113 ≤ g) (t0 : p_ty T 107 = (15, 1)) (hR : RT T F 103) (hS : RS M F 103 Q) (hG : GT T F g) (hA : GAx M g S) {x0 x1 x2 x3 : TKn} {R' : List TKn} (hQ : P ++ x0 :: x1 :: x2 :: x3 :: R' = Q) (k1 : x1.2.1 = 5 ∨ x1.2.1 = 6) (k2 : 7 ≤ x2.2.1 ∧ x2.2.1 ≤ 12) :
    ∃ M', (∀ d, 4 ≤ d → callD d m_X5_put [.ref 107, .ref 103, .ref g, .int (iI (P.length : Int))] T M F = some (.inl (some (.int (iI (d_put (x1 :: x2 :: x3 :: R') S).1))), T, M', F)) ∧ GAx M' g (d_put (x1 :: x2 :: x3 :: R') S).2.2 ∧ (0 ≤ (d_put (x1 :: x2 :: x3 :: R') S).1 ∧ (d_put (x1 :: x2 :: x3 :: R') S).1 ≤ 5) ∧ ((d_put (x1 :: x2 :: x3 :: R') S).1 ≠ 0 → M' 107 0 = (d_put (x1 :: x2 :: x3 :: R') S).2.1) ∧ ((d_put (x1 :: x2 :: x3 :: R') S).1 = 0 → M' 107 = M 107 ∧ (d_put (x1 :: x2 :: x3 :: R') S).2.1 = -1) ∧ ∀ a, a ≠ 107 → (a < g ∨ g + 6 < a) → M' a = M a := by
  have hl : Q.length = P.length + 4 + R'.length := by rw [← hQ]; simp; omega
  have hl4 := hS.2.1
  have g1 : Q.getD (P.length + 1) tk0 = x1 := by rw [← hQ]; exact tk_at _ _ 0
  have g2 : Q.getD (P.length + 2) tk0 = x2 := by rw [← hQ]; exact tk_at _ _ 1
  have g3 : Q.getD (P.length + 3) tk0 = x3 := by rw [← hQ]; exact tk_at _ _ 2
  have d0 : (x1 :: x2 :: x3 :: R').getD 0 tk0 = x1 := rfl
  have d1 : (x1 :: x2 :: x3 :: R').getD 1 tk0 = x2 := rfl
  have d2 : (x1 :: x2 :: x3 :: R').getD 2 tk0 = x3 := rfl
  have hs : knum x1.2.1 = 0 ∨ knum x1.2.1 = 1 := by
    rcases k1 with e | e <;> rw [e]
    · exact Or.inl rfl
    · exact Or.inr rfl
  have hx : 1 ≤ knum x2.2.1 ∧ knum x2.2.1 ≤ 6 := by
    unfold knum
    rw [if_neg (by omega), if_neg (by omega), if_pos (by omega)]
    omega
  have ok3 : TKok x3 := by rw [← g3]; exact tk_ok hS.2.2.1
  have o3 := ok3.2.2
  have a1 := fun e (he : 3 ≤ e) => c_kindAt (d := e) hR hS (j := P.length + 1) (by omega) (by omega)
  have a2 := fun e (he : 3 ≤ e) => c_kindAt (d := e) hR hS (j := P.length + 2) (by omega) (by omega)
  have a3 := fun e (he : 3 ≤ e) => c_cellTk (d := e) hR hS (j := P.length + 3) (by omega) (by omega)
  rw [g1] at a1
  rw [g2] at a2
  rw [g3] at a3
  have b1 := fun er (he : 0 ≤ er ∧ er ≤ 10) e (h2 : 3 ≤ e) => c_fail (d := e) (er := er) t0 hR hS (j := P.length + 1) (by omega) he (by omega)
  have b2 := fun er (he : 0 ≤ er ∧ er ≤ 10) e (h2 : 3 ≤ e) => c_fail (d := e) (er := er) t0 hR hS (j := P.length + 2) (by omega) he (by omega)
  have b3 := fun er (he : 0 ≤ er ∧ er ≤ 10) e (h2 : 3 ≤ e) => c_fail (d := e) (er := er) t0 hR hS (j := P.length + 3) (by omega) he (by omega)
  rw [g1] at b1
  rw [g2] at b2
  rw [g3] at b3
  have n1 := kd_num (M := M) (k := x1.2.1) (by omega)
  have n2 := kd_num (M := M) (k := x2.2.1) (by omega)
  have y1 := kd_ty (T := T) (k := x1.2.1) (by omega)
  have y2 := kd_ty (T := T) (k := x2.2.1) (by omega)
  have hB := hG.2.2.2.1
  have hRB := hA.gs.1
  have hpc := fun e (he : 3 ≤ e) => c_pieces (d := e) (T := T) (F := F) hB hRB (by omega) hs
  have hpr : 0 ≤ sm (a_pc S.1 (knum x1.2.1)) 91 ∧ sm (a_pc S.1 (knum x1.2.1)) 91 ≤ 91 := by
    have := sm_rg (f := a_pc S.1 (knum x1.2.1)) (a := 0) (b := 1) (fun i => bI_rg _) 91
    omega
  have hhk := fun e (he : 3 ≤ e) => c_hasKing (d := e) (T := T) (F := F) hG hRB (by omega) hs
  have e1 : (P.length : Int) + 1 = ((P.length + 1 : Nat) : Int) := by omega
  have e2 : (P.length : Int) + 2 = ((P.length + 2 : Nat) : Int) := by omega
  have e3 : (P.length : Int) + 3 = ((P.length + 3 : Nat) : Int) := by omega
  have tg := hG.2.1
  have fg := hG.2.2.1
  have hg1 := hG.1
  have tb := hB.2.1
  have r0 := hR.2.1
  unfold d_put
  rw [d0, d1, d2]
  by_cases c1 : 20 ≤ sm (a_pc S.1 (knum x1.2.1)) 91
  · rw [if_pos c1]
    refine ⟨uA M 107 (u1 (M 107) 0 x1.1), fun d hd => ?_, hA.fr (fun a a1 a2 => uA_n (by omega)), by omega, fun _ => by rw [uA_s, u1_s], fun z => absurd z (by show ¬ (4 : Int) = 0; decide), fun a a1 a2 => uA_n a1⟩
    refine callD_go 3 hd rfl (fun e he => ?_)
    show R e m_X5_put 0 [.val (.ref 107), .val (.ref 103), .val (.ref g), .val (.int (iI (P.length : Int))), .unset, .unset, .unset] [] T M F = _
    have a1 := a1 e he
    have a2 := a2 e he
    have a3 := a3 e he
    have b1 := b1 4 (by omega) e he
    have hpc := hpc e he
    clear hhk b2 b3 hRB hA hG hR hS hQ hB ok3 g1 g2 g3 d0 d1 d2
    simp (disch := omega) only [x_X5_put_0, x_X5_put_1, x_X5_put_2, x_X5_put_3, x_X5_put_4, x_X5_put_7, x_X5_put_10, x_X5_put_12, x_X5_put_13, x_X5_put_14, x_X5_put_15, x_X5_put_16, x_X5_put_19, x_X5_put_22, x_X5_put_24, x_X5_put_25, x_X5_put_26, x_X5_put_27, x_X5_put_28, x_X5_put_31, x_X5_put_33, x_X5_put_34, x_X5_put_37, x_X5_put_39, x_X5_put_42, x_X5_put_44, x_X5_put_47, x_X5_put_48, x_X5_put_49, x_X5_put_50, x_X5_put_51, x_X5_put_52, x_X5_put_53, x_X5_put_56, List.length_cons, List.length_nil, Nat.reduceLeDiff, Nat.zero_add, iI_add, iI_sub, iI_mul, iI_neg, iI_lt, iI_le, iI_eq, jI_iI, B_True, B_False, B_t, B_f, ck_True, gd_True, cb_v, cb_n, p_mv_rw, p_fv_rw, p_rv_some, pA_1, pA_90, pA_92, pA_3, pA_5, pA_93, pA_4, pA_91, pA_6, pS_i, pB_i, pW_i, pZ_0, pZ_1, pZ_b, bI_e0, u1_s, u1_n, uA_s, uA_n, true_and, and_true, not_true_eq_false, not_false_eq_true, eq_self, iI_z, al1, al5, al3, al4, al90, al91, al92, al93, al6, Int.cast_ofNat_Int, Nat.reduceAdd, Int.reduceNeg, Int.reduceAdd, Int.reduceSub, Int.reduceMul, Int.reduceLT, Int.reduceLE, Int.reduceGT, Int.reduceGE, Int.reduceEq, Int.reduceNe, Nat.reduceEqDiff, Int.zero_add, Int.add_zero, p_ty0, p_ty1, p_ty2, p_ty3, p_ty4, p_ty5, p_ty8, p_ty9, p_ty10, t0, r0, tg, fg, tb, a1, a2, a3, e1, e2, e3, n1, n2, y1, y2, hpc, b1, gd_t, B_t, B_f]
  rw [if_neg c1]
  by_cases c2 : knum x2.2.1 = 1 ∧ m_king S.1 (knum x1.2.1) ≠ -1
  · rw [if_pos c2]
    refine ⟨uA M 107 (u1 (M 107) 0 x2.1), fun d hd => ?_, hA.fr (fun a a1 a2 => uA_n (by omega)), by omega, fun _ => by rw [uA_s, u1_s], fun z => absurd z (by show ¬ (3 : Int) = 0; decide), fun a a1 a2 => uA_n a1⟩
    refine callD_go 3 hd rfl (fun e he => ?_)
    show R e m_X5_put 0 [.val (.ref 107), .val (.ref 103), .val (.ref g), .val (.int (iI (P.length : Int))), .unset, .unset, .unset] [] T M F = _
    have a1 := a1 e he
    have a2 := a2 e he
    have a3 := a3 e he
    have b2 := b2 3 (by omega) e he
    have hpc := hpc e he
    have hhk := hhk e he
    rw [bI_t c2.2] at hhk
    obtain ⟨c2, c2'⟩ := c2
    clear b1 b3 hRB hA hG hR hS hQ hB ok3 g1 g2 g3 d0 d1 d2 hx
    simp (disch := omega) only [x_X5_put_0, x_X5_put_1, x_X5_put_2, x_X5_put_3, x_X5_put_4, x_X5_put_7, x_X5_put_10, x_X5_put_12, x_X5_put_13, x_X5_put_14, x_X5_put_15, x_X5_put_16, x_X5_put_19, x_X5_put_22, x_X5_put_24, x_X5_put_25, x_X5_put_26, x_X5_put_27, x_X5_put_28, x_X5_put_31, x_X5_put_33, x_X5_put_34, x_X5_put_37, x_X5_put_39, x_X5_put_42, x_X5_put_44, x_X5_put_47, x_X5_put_48, x_X5_put_49, x_X5_put_50, x_X5_put_51, x_X5_put_52, x_X5_put_53, x_X5_put_56, x_X5_put_57, x_X5_put_59, x_X5_put_60, x_X5_put_63, x_X5_put_64, x_X5_put_66, x_X5_put_69, x_X5_put_72, x_X5_put_73, x_X5_put_74, x_X5_put_75, x_X5_put_76, x_X5_put_77, x_X5_put_78, x_X5_put_81, List.length_cons, List.length_nil, Nat.reduceLeDiff, Nat.zero_add, iI_add, iI_sub, iI_mul, iI_neg, iI_lt, iI_le, iI_eq, jI_iI, B_True, B_False, B_t, B_f, ck_True, gd_True, cb_v, cb_n, p_mv_rw, p_fv_rw, p_rv_some, pA_1, pA_90, pA_92, pA_3, pA_5, pA_93, pA_4, pA_91, pA_6, pS_i, pB_i, pW_i, pZ_0, pZ_1, pZ_b, bI_e0, u1_s, u1_n, uA_s, uA_n, true_and, and_true, not_true_eq_false, not_false_eq_true, eq_self, iI_z, al1, al5, al3, al4, al90, al91, al92, al93, al6, Int.cast_ofNat_Int, Nat.reduceAdd, Int.reduceNeg, Int.reduceAdd, Int.reduceSub, Int.reduceMul, Int.reduceLT, Int.reduceLE, Int.reduceGT, Int.reduceGE, Int.reduceEq, Int.reduceNe, Nat.reduceEqDiff, Int.zero_add, Int.add_zero, p_ty0, p_ty1, p_ty2, p_ty3, p_ty4, p_ty5, p_ty8, p_ty9, p_ty10, t0, r0, tg, fg, tb, a1, a2, a3, e1, e2, e3, n1, n2, y1, y2, hpc, hhk, b2, c2, gd_t, B_t, B_f]
  rw [if_neg c2]
  by_cases c3 : x3.2.2 = -1
  · rw [if_pos c3]
    refine ⟨uA M 107 (u1 (M 107) 0 x3.1), fun d hd => ?_, hA.fr (fun a a1 a2 => uA_n (by omega)), by omega, fun _ => by rw [uA_s, u1_s], fun z => absurd z (by show ¬ (2 : Int) = 0; decide), fun a a1 a2 => uA_n a1⟩
    refine callD_go 3 hd rfl (fun e he => ?_)
    show R e m_X5_put 0 [.val (.ref 107), .val (.ref 103), .val (.ref g), .val (.int (iI (P.length : Int))), .unset, .unset, .unset] [] T M F = _
    have a1 := a1 e he
    have a2 := a2 e he
    have a3 := a3 e he
    have b3 := b3 2 (by omega) e he
    have hpc := hpc e he
    have hhk := hhk e he
    rw [c3] at a3
    clear b1 b2 hRB hA hG hR hS hQ hB ok3 g1 g2 g3 d0 d1 d2
    by_cases c4 : knum x2.2.1 = 1
    · rw [bI_f (fun z => c2 ⟨c4, z⟩)] at hhk
      simp (disch := omega) only [x_X5_put_0, x_X5_put_1, x_X5_put_2, x_X5_put_3, x_X5_put_4, x_X5_put_7, x_X5_put_10, x_X5_put_12, x_X5_put_13, x_X5_put_14, x_X5_put_15, x_X5_put_16, x_X5_put_19, x_X5_put_22, x_X5_put_24, x_X5_put_25, x_X5_put_26, x_X5_put_27, x_X5_put_28, x_X5_put_31, x_X5_put_33, x_X5_put_34, x_X5_put_37, x_X5_put_39, x_X5_put_42, x_X5_put_44, x_X5_put_47, x_X5_put_48, x_X5_put_49, x_X5_put_50, x_X5_put_51, x_X5_put_52, x_X5_put_53, x_X5_put_56, x_X5_put_57, x_X5_put_59, x_X5_put_60, x_X5_put_63, x_X5_put_64, x_X5_put_66, x_X5_put_69, x_X5_put_72, x_X5_put_73, x_X5_put_74, x_X5_put_75, x_X5_put_76, x_X5_put_77, x_X5_put_78, x_X5_put_81, x_X5_put_82, x_X5_put_84, x_X5_put_85, x_X5_put_88, x_X5_put_89, x_X5_put_90, x_X5_put_91, x_X5_put_92, x_X5_put_93, x_X5_put_94, x_X5_put_97, List.length_cons, List.length_nil, Nat.reduceLeDiff, Nat.zero_add, iI_add, iI_sub, iI_mul, iI_neg, iI_lt, iI_le, iI_eq, jI_iI, B_True, B_False, B_t, B_f, ck_True, gd_True, cb_v, cb_n, p_mv_rw, p_fv_rw, p_rv_some, pA_1, pA_90, pA_92, pA_3, pA_5, pA_93, pA_4, pA_91, pA_6, pS_i, pB_i, pW_i, pZ_0, pZ_1, pZ_b, bI_e0, u1_s, u1_n, uA_s, uA_n, true_and, and_true, not_true_eq_false, not_false_eq_true, eq_self, iI_z, al1, al5, al3, al4, al90, al91, al92, al93, al6, Int.cast_ofNat_Int, Nat.reduceAdd, Int.reduceNeg, Int.reduceAdd, Int.reduceSub, Int.reduceMul, Int.reduceLT, Int.reduceLE, Int.reduceGT, Int.reduceGE, Int.reduceEq, Int.reduceNe, Nat.reduceEqDiff, Int.zero_add, Int.add_zero, p_ty0, p_ty1, p_ty2, p_ty3, p_ty4, p_ty5, p_ty8, p_ty9, p_ty10, t0, r0, tg, fg, tb, a1, a2, a3, e1, e2, e3, n1, n2, y1, y2, hpc, hhk, b3, c4, gd_t, B_t, B_f]
    · simp (disch := omega) only [x_X5_put_0, x_X5_put_1, x_X5_put_2, x_X5_put_3, x_X5_put_4, x_X5_put_7, x_X5_put_10, x_X5_put_12, x_X5_put_13, x_X5_put_14, x_X5_put_15, x_X5_put_16, x_X5_put_19, x_X5_put_22, x_X5_put_24, x_X5_put_25, x_X5_put_26, x_X5_put_27, x_X5_put_28, x_X5_put_31, x_X5_put_33, x_X5_put_34, x_X5_put_37, x_X5_put_39, x_X5_put_42, x_X5_put_44, x_X5_put_47, x_X5_put_48, x_X5_put_49, x_X5_put_50, x_X5_put_51, x_X5_put_52, x_X5_put_53, x_X5_put_56, x_X5_put_57, x_X5_put_59, x_X5_put_60, x_X5_put_63, x_X5_put_64, x_X5_put_66, x_X5_put_69, x_X5_put_72, x_X5_put_73, x_X5_put_74, x_X5_put_75, x_X5_put_76, x_X5_put_77, x_X5_put_78, x_X5_put_81, x_X5_put_82, x_X5_put_84, x_X5_put_85, x_X5_put_88, x_X5_put_89, x_X5_put_90, x_X5_put_91, x_X5_put_92, x_X5_put_93, x_X5_put_94, x_X5_put_97, List.length_cons, List.length_nil, Nat.reduceLeDiff, Nat.zero_add, iI_add, iI_sub, iI_mul, iI_neg, iI_lt, iI_le, iI_eq, jI_iI, B_True, B_False, B_t, B_f, ck_True, gd_True, cb_v, cb_n, p_mv_rw, p_fv_rw, p_rv_some, pA_1, pA_90, pA_92, pA_3, pA_5, pA_93, pA_4, pA_91, pA_6, pS_i, pB_i, pW_i, pZ_0, pZ_1, pZ_b, bI_e0, u1_s, u1_n, uA_s, uA_n, true_and, and_true, not_true_eq_false, not_false_eq_true, eq_self, iI_z, al1, al5, al3, al4, al90, al91, al92, al93, al6, Int.cast_ofNat_Int, Nat.reduceAdd, Int.reduceNeg, Int.reduceAdd, Int.reduceSub, Int.reduceMul, Int.reduceLT, Int.reduceLE, Int.reduceGT, Int.reduceGE, Int.reduceEq, Int.reduceNe, Nat.reduceEqDiff, Int.zero_add, Int.add_zero, p_ty0, p_ty1, p_ty2, p_ty3, p_ty4, p_ty5, p_ty8, p_ty9, p_ty10, t0, r0, tg, fg, tb, a1, a2, a3, e1, e2, e3, n1, n2, y1, y2, hpc, b3, gd_t, B_t, B_f]
  rw [if_neg c3]
  have hc : 0 ≤ x3.2.2 ∧ x3.2.2 < 91 := by omega
  have hvo := fun e (he : 3 ≤ e) => c_valueOn (d := e) (T := T) (F := F) hG hRB (by omega) hc
  have hbx := hRB.2.2.1 x3.2.2
  obtain ⟨w1, -, -⟩ := cv_facts hRB.2.2.1 x3.2.2
  by_cases c4 : S.1 x3.2.2 = 0
  · rw [if_neg (fun z => z c4)]
    obtain ⟨M1, f1, S1, z5, z8, gf⟩ := c_gput (T := T) (F := F) hG hA.gs hs hx hc (fun z j j0 j1 => by
      have hno : m_king S.1 (knum x1.2.1) = -1 := by
        by_cases e : m_king S.1 (knum x1.2.1) = -1
        · exact e
        · exact absurd ⟨z, e⟩ c2
      exact m_kg_no 91 0 hno (by omega) j j0 (by omega))
    refine ⟨M1, fun d hd => ?_, GAx.new S1 z5 z8 (hA.1.2.2.1.put hs hx hc c4 c1), by omega, fun z => absurd rfl z, fun _ => ⟨gf 107 (by omega), rfl⟩, fun a a1 a2 => gf a a2⟩
    refine callD_go 3 hd rfl (fun e he => ?_)
    show R e m_X5_put 0 [.val (.ref 107), .val (.ref 103), .val (.ref g), .val (.int (iI (P.length : Int))), .unset, .unset, .unset] [] T M F = _
    have a1 := a1 e he
    have a2 := a2 e he
    have a3 := a3 e he
    have hpc := hpc e he
    have hhk := hhk e he
    have hvo := hvo e he
    have f1 := f1 e he
    rw [c4] at hvo
    clear b1 b2 b3 hRB hA hG hR hS hQ hB ok3 g1 g2 g3 d0 d1 d2 S1 gf z5 z8
    by_cases c5 : knum x2.2.1 = 1
    · rw [bI_f (fun z => c2 ⟨c5, z⟩)] at hhk
      simp (disch := omega) only [x_X5_put_0, x_X5_put_1, x_X5_put_2, x_X5_put_3, x_X5_put_4, x_X5_put_7, x_X5_put_10, x_X5_put_12, x_X5_put_13, x_X5_put_14, x_X5_put_15, x_X5_put_16, x_X5_put_19, x_X5_put_22, x_X5_put_24, x_X5_put_25, x_X5_put_26, x_X5_put_27, x_X5_put_28, x_X5_put_31, x_X5_put_33, x_X5_put_34, x_X5_put_37, x_X5_put_39, x_X5_put_42, x_X5_put_44, x_X5_put_47, x_X5_put_48, x_X5_put_49, x_X5_put_50, x_X5_put_51, x_X5_put_52, x_X5_put_53, x_X5_put_56, x_X5_put_57, x_X5_put_59, x_X5_put_60, x_X5_put_63, x_X5_put_64, x_X5_put_66, x_X5_put_69, x_X5_put_72, x_X5_put_73, x_X5_put_74, x_X5_put_75, x_X5_put_76, x_X5_put_77, x_X5_put_78, x_X5_put_81, x_X5_put_82, x_X5_put_84, x_X5_put_85, x_X5_put_88, x_X5_put_89, x_X5_put_90, x_X5_put_91, x_X5_put_92, x_X5_put_93, x_X5_put_94, x_X5_put_97, x_X5_put_98, x_X5_put_99, x_X5_put_101, x_X5_put_104, x_X5_put_107, x_X5_put_108, x_X5_put_109, x_X5_put_110, x_X5_put_111, x_X5_put_112, x_X5_put_113, x_X5_put_116, x_X5_put_117, x_X5_put_118, x_X5_put_120, x_X5_put_122, x_X5_put_124, x_X5_put_127, x_X5_put_128, List.length_cons, List.length_nil, Nat.reduceLeDiff, Nat.zero_add, iI_add, iI_sub, iI_mul, iI_neg, iI_lt, iI_le, iI_eq, jI_iI, B_True, B_False, B_t, B_f, ck_True, gd_True, cb_v, cb_n, p_mv_rw, p_fv_rw, p_rv_some, pA_1, pA_90, pA_92, pA_3, pA_5, pA_93, pA_4, pA_91, pA_6, pS_i, pB_i, pW_i, pZ_0, pZ_1, pZ_b, bI_e0, u1_s, u1_n, uA_s, uA_n, true_and, and_true, not_true_eq_false, not_false_eq_true, eq_self, iI_z, al1, al5, al3, al4, al90, al91, al92, al93, al6, Int.cast_ofNat_Int, Nat.reduceAdd, Int.reduceNeg, Int.reduceAdd, Int.reduceSub, Int.reduceMul, Int.reduceLT, Int.reduceLE, Int.reduceGT, Int.reduceGE, Int.reduceEq, Int.reduceNe, Nat.reduceEqDiff, Int.zero_add, Int.add_zero, p_ty0, p_ty1, p_ty2, p_ty3, p_ty4, p_ty5, p_ty8, p_ty9, p_ty10, t0, r0, tg, fg, tb, a1, a2, a3, e1, e2, e3, n1, n2, y1, y2, hpc, hhk, hvo, f1, show cv 0 = 0 from rfl, gd_t, B_t, B_f]
    · simp (disch := omega) only [x_X5_put_0, x_X5_put_1, x_X5_put_2, x_X5_put_3, x_X5_put_4, x_X5_put_7, x_X5_put_10, x_X5_put_12, x_X5_put_13, x_X5_put_14, x_X5_put_15, x_X5_put_16, x_X5_put_19, x_X5_put_22, x_X5_put_24, x_X5_put_25, x_X5_put_26, x_X5_put_27, x_X5_put_28, x_X5_put_31, x_X5_put_33, x_X5_put_34, x_X5_put_37, x_X5_put_39, x_X5_put_42, x_X5_put_44, x_X5_put_47, x_X5_put_48, x_X5_put_49, x_X5_put_50, x_X5_put_51, x_X5_put_52, x_X5_put_53, x_X5_put_56, x_X5_put_57, x_X5_put_59, x_X5_put_60, x_X5_put_63, x_X5_put_64, x_X5_put_66, x_X5_put_69, x_X5_put_72, x_X5_put_73, x_X5_put_74, x_X5_put_75, x_X5_put_76, x_X5_put_77, x_X5_put_78, x_X5_put_81, x_X5_put_82, x_X5_put_84, x_X5_put_85, x_X5_put_88, x_X5_put_89, x_X5_put_90, x_X5_put_91, x_X5_put_92, x_X5_put_93, x_X5_put_94, x_X5_put_97, x_X5_put_98, x_X5_put_99, x_X5_put_101, x_X5_put_104, x_X5_put_107, x_X5_put_108, x_X5_put_109, x_X5_put_110, x_X5_put_111, x_X5_put_112, x_X5_put_113, x_X5_put_116, x_X5_put_117, x_X5_put_118, x_X5_put_120, x_X5_put_122, x_X5_put_124, x_X5_put_127, x_X5_put_128, List.length_cons, List.length_nil, Nat.reduceLeDiff, Nat.zero_add, iI_add, iI_sub, iI_mul, iI_neg, iI_lt, iI_le, iI_eq, jI_iI, B_True, B_False, B_t, B_f, ck_True, gd_True, cb_v, cb_n, p_mv_rw, p_fv_rw, p_rv_some, pA_1, pA_90, pA_92, pA_3, pA_5, pA_93, pA_4, pA_91, pA_6, pS_i, pB_i, pW_i, pZ_0, pZ_1, pZ_b, bI_e0, u1_s, u1_n, uA_s, uA_n, true_and, and_true, not_true_eq_false, not_false_eq_true, eq_self, iI_z, al1, al5, al3, al4, al90, al91, al92, al93, al6, Int.cast_ofNat_Int, Nat.reduceAdd, Int.reduceNeg, Int.reduceAdd, Int.reduceSub, Int.reduceMul, Int.reduceLT, Int.reduceLE, Int.reduceGT, Int.reduceGE, Int.reduceEq, Int.reduceNe, Nat.reduceEqDiff, Int.zero_add, Int.add_zero, p_ty0, p_ty1, p_ty2, p_ty3, p_ty4, p_ty5, p_ty8, p_ty9, p_ty10, t0, r0, tg, fg, tb, a1, a2, a3, e1, e2, e3, n1, n2, y1, y2, hpc, hvo, f1, show cv 0 = 0 from rfl, gd_t, B_t, B_f]
  · rw [if_pos c4]
    refine ⟨uA M 107 (u1 (M 107) 0 x3.1), fun d hd => ?_, hA.fr (fun a a1 a2 => uA_n (by omega)), by omega, fun _ => by rw [uA_s, u1_s], fun z => absurd z (by show ¬ (3 : Int) = 0; decide), fun a a1 a2 => uA_n a1⟩
    refine callD_go 3 hd rfl (fun e he => ?_)
    show R e m_X5_put 0 [.val (.ref 107), .val (.ref 103), .val (.ref g), .val (.int (iI (P.length : Int))), .unset, .unset, .unset] [] T M F = _
    have a1 := a1 e he
    have a2 := a2 e he
    have a3 := a3 e he
    have b3 := b3 3 (by omega) e he
    have hpc := hpc e he
    have hhk := hhk e he
    have hvo := hvo e he
    have c6 : cv (S.1 x3.2.2) ≠ 0 := by unfold cv; split <;> omega
    clear b1 b2 hRB hA hG hR hS hQ hB ok3 g1 g2 g3 d0 d1 d2
    by_cases c5 : knum x2.2.1 = 1
    · rw [bI_f (fun z => c2 ⟨c5, z⟩)] at hhk
      simp (disch := omega) only [x_X5_put_0, x_X5_put_1, x_X5_put_2, x_X5_put_3, x_X5_put_4, x_X5_put_7, x_X5_put_10, x_X5_put_12, x_X5_put_13, x_X5_put_14, x_X5_put_15, x_X5_put_16, x_X5_put_19, x_X5_put_22, x_X5_put_24, x_X5_put_25, x_X5_put_26, x_X5_put_27, x_X5_put_28, x_X5_put_31, x_X5_put_33, x_X5_put_34, x_X5_put_37, x_X5_put_39, x_X5_put_42, x_X5_put_44, x_X5_put_47, x_X5_put_48, x_X5_put_49, x_X5_put_50, x_X5_put_51, x_X5_put_52, x_X5_put_53, x_X5_put_56, x_X5_put_57, x_X5_put_59, x_X5_put_60, x_X5_put_63, x_X5_put_64, x_X5_put_66, x_X5_put_69, x_X5_put_72, x_X5_put_73, x_X5_put_74, x_X5_put_75, x_X5_put_76, x_X5_put_77, x_X5_put_78, x_X5_put_81, x_X5_put_82, x_X5_put_84, x_X5_put_85, x_X5_put_88, x_X5_put_89, x_X5_put_90, x_X5_put_91, x_X5_put_92, x_X5_put_93, x_X5_put_94, x_X5_put_97, x_X5_put_98, x_X5_put_99, x_X5_put_101, x_X5_put_104, x_X5_put_107, x_X5_put_108, x_X5_put_109, x_X5_put_110, x_X5_put_111, x_X5_put_112, x_X5_put_113, x_X5_put_116, List.length_cons, List.length_nil, Nat.reduceLeDiff, Nat.zero_add, iI_add, iI_sub, iI_mul, iI_neg, iI_lt, iI_le, iI_eq, jI_iI, B_True, B_False, B_t, B_f, ck_True, gd_True, cb_v, cb_n, p_mv_rw, p_fv_rw, p_rv_some, pA_1, pA_90, pA_92, pA_3, pA_5, pA_93, pA_4, pA_91, pA_6, pS_i, pB_i, pW_i, pZ_0, pZ_1, pZ_b, bI_e0, u1_s, u1_n, uA_s, uA_n, true_and, and_true, not_true_eq_false, not_false_eq_true, eq_self, iI_z, al1, al5, al3, al4, al90, al91, al92, al93, al6, Int.cast_ofNat_Int, Nat.reduceAdd, Int.reduceNeg, Int.reduceAdd, Int.reduceSub, Int.reduceMul, Int.reduceLT, Int.reduceLE, Int.reduceGT, Int.reduceGE, Int.reduceEq, Int.reduceNe, Nat.reduceEqDiff, Int.zero_add, Int.add_zero, p_ty0, p_ty1, p_ty2, p_ty3, p_ty4, p_ty5, p_ty8, p_ty9, p_ty10, t0, r0, tg, fg, tb, a1, a2, a3, e1, e2, e3, n1, n2, y1, y2, hpc, hhk, hvo, b3, gd_t, B_t, B_f]
    · simp (disch := omega) only [x_X5_put_0, x_X5_put_1, x_X5_put_2, x_X5_put_3, x_X5_put_4, x_X5_put_7, x_X5_put_10, x_X5_put_12, x_X5_put_13, x_X5_put_14, x_X5_put_15, x_X5_put_16, x_X5_put_19, x_X5_put_22, x_X5_put_24, x_X5_put_25, x_X5_put_26, x_X5_put_27, x_X5_put_28, x_X5_put_31, x_X5_put_33, x_X5_put_34, x_X5_put_37, x_X5_put_39, x_X5_put_42, x_X5_put_44, x_X5_put_47, x_X5_put_48, x_X5_put_49, x_X5_put_50, x_X5_put_51, x_X5_put_52, x_X5_put_53, x_X5_put_56, x_X5_put_57, x_X5_put_59, x_X5_put_60, x_X5_put_63, x_X5_put_64, x_X5_put_66, x_X5_put_69, x_X5_put_72, x_X5_put_73, x_X5_put_74, x_X5_put_75, x_X5_put_76, x_X5_put_77, x_X5_put_78, x_X5_put_81, x_X5_put_82, x_X5_put_84, x_X5_put_85, x_X5_put_88, x_X5_put_89, x_X5_put_90, x_X5_put_91, x_X5_put_92, x_X5_put_93, x_X5_put_94, x_X5_put_97, x_X5_put_98, x_X5_put_99, x_X5_put_101, x_X5_put_104, x_X5_put_107, x_X5_put_108, x_X5_put_109, x_X5_put_110, x_X5_put_111, x_X5_put_112, x_X5_put_113, x_X5_put_116, List.length_cons, List.length_nil, Nat.reduceLeDiff, Nat.zero_add, iI_add, iI_sub, iI_mul, iI_neg, iI_lt, iI_le, iI_eq, jI_iI, B_True, B_False, B_t, B_f, ck_True, gd_True, cb_v, cb_n, p_mv_rw, p_fv_rw, p_rv_some, pA_1, pA_90, pA_92, pA_3, pA_5, pA_93, pA_4, pA_91, pA_6, pS_i, pB_i, pW_i, pZ_0, pZ_1, pZ_b, bI_e0, u1_s, u1_n, uA_s, uA_n, true_and, and_true, not_true_eq_false, not_false_eq_true, eq_self, iI_z, al1, al5, al3, al4, al90, al91, al92, al93, al6, Int.cast_ofNat_Int, Nat.reduceAdd, Int.reduceNeg, Int.reduceAdd, Int.reduceSub, Int.reduceMul, Int.reduceLT, Int.reduceLE, Int.reduceGT, Int.reduceGE, Int.reduceEq, Int.reduceNe, Nat.reduceEqDiff, Int.zero_add, Int.add_zero, p_ty0, p_ty1, p_ty2, p_ty3, p_ty4, p_ty5, p_ty8, p_ty9, p_ty10, t0, r0, tg, fg, tb, a1, a2, a3, e1, e2, e3, n1, n2, y1, y2, hpc, hvo, b3, gd_t, B_t, B_f]
end PTCH
