section PGRD
variable {d : Nat} {T : pT} {M M0 M1 M2 : pM} {F : pF} {b g : Nat} {bb v w : Int → Int} {k s t pas q its to as c x p kc i acc en : Int} {A Z P L Q : List Int} {n : Nat}
/-- the greediest of a list, from the best so far -/
noncomputable def grd (bb : Int → Int) (t pas : Int) : List Int → Int → Int → Int
  | [], best, _ => best
  | x :: L, best, most => if best = -1 ∨ most < gnv bb t pas (x / 91) (x % 91) then grd bb t pas L x (gnv bb t pas (x / 91) (x % 91)) else grd bb t pas L best most
theorem gnv_rg : -20 ≤ gnv bb t pas its to ∧ gnv bb t pas its to ≤ 20 := by
  have o3 : ∀ y : Int, 0 ≤ m_wor y ∧ m_wor y ≤ 10 := by intro y; unfold m_wor; repeat' split <;> omega
  have o4 := o3 (bb (mk_pl bb pas its to) % 10)
  have o5 := o3 (mk_th bb its to 2 % 10)
  unfold gnv
  split <;> omega
/-- what trying moves leaves alone -/
def FTr (M M' : pM) (g : Nat) : Prop := (∀ j, j ≠ 1 → j ≠ 2 → j ≠ 3 → j ≠ 10 → j ≠ 12 → j ≠ 13 → M' g j = M g j) ∧ (∀ a, a ≠ g → a ≠ g + 1 → a ≠ g + 1 + 1 → a ≠ g + 5 → a ≠ g + 6 → M' a = M a)
theorem gr_loop (hG : GT T F g) (hlq : lgQ bb t pas q = lgA bb t pas) : ∀ (Q P : List Int) (best most : Int) (l5 : Slot) (M : pM), P ++ Q = lgA bb t pas → (-1 ≤ best ∧ best < 8281) → (-20 ≤ most ∧ most ≤ 20) → GKL M g bb t pas q →
    ∃ M', (∀ e, 4 ≤ e → R e m_X1_greediest 12 [.val (.ref g), .val (.int (iI best)), .val (.int (iI most)), .val (.int (iI ((lgA bb t pas).length : Int))), .val (.int (iI (P.length : Int))), l5] [] T M F = some (.inl (some (.int (iI (grd bb t pas Q best most)))), T, M', F)) ∧ GKL M' g bb t pas q ∧ FTr M M' g := by
  intro Q
  have t0 := hG.2.1
  have hg := hG.1
  induction Q with
  | nil =>
    intro P best most l5 M hP hb hm h
    refine ⟨M, fun e he => ?_, h, fun _ _ _ _ _ _ _ => rfl, fun _ _ _ _ _ _ => rfl⟩
    have hl := h.len
    rw [List.append_nil] at hP
    rw [grd, ← hP]
    rw [← hP] at hl
    clear h
    simp (disch := omega) only [x_X1_greediest_12, x_X1_greediest_14, x_X1_greediest_15, x_X1_greediest_53, x_X1_greediest_54, List.length_cons, List.length_nil, Nat.reduceLeDiff, Nat.zero_add, iI_add, iI_sub, iI_mul, iI_neg, iI_lt, iI_le, iI_eq, jI_iI, B_True, B_False, B_t, B_f, ck_True, gd_True, cb_v, cb_n, p_mv_rw, p_fv_rw, p_rv_some, pA_1, pA_90, pA_92, pA_3, pA_2, pA_93, pA_4, pA_91, pA_95, pS_i, pW_i, pZ_0, pZ_1, pZ_b, bI_e0, u1_s, u1_n, uA_s, uA_n, true_and, and_true, not_true_eq_false, not_false_eq_true, eq_self, iI_z, al1, al2, al3, al4, al90, al91, al92, al93, al95, Int.cast_ofNat_Int, Nat.reduceAdd, Int.reduceNeg, Int.reduceAdd, Int.reduceSub, Int.reduceMul, Int.reduceLT, Int.reduceLE, Int.reduceGT, Int.reduceGE, Int.reduceEq, Int.reduceNe, Nat.reduceEqDiff, Int.zero_add, Int.add_zero, p_ty0, p_ty1, p_ty2, p_ty3, p_ty4, p_ty5, p_ty6, p_ty7, p_ty8, p_ty9, p_ty10, p_ty11]
  | cons x Q ih =>
    intro P best most l5 M hP hb hm h
    have hl := h.len
    have hPl : P.length + 1 + Q.length = (lgA bb t pas).length := by rw [← hP]; simp; omega
    have hx : (lgA bb t pas).getD P.length 0 = x := by rw [← hP, getD_mid]
    have hxr := lgA_rg (x := x) (bb := bb) (t := t) (pas := pas) (by rw [← hP]; simp)
    obtain ⟨M1, e1, K1, f1⟩ := c_gainOf (T := T) (F := F) hG h (n := P.length) (by omega) hx
    have hgr := gnv_rg (bb := bb) (t := t) (pas := pas) (its := x / 91) (to := x % 91)
    have htr : ∀ M', FTr M1 M' g → FTr M M' g := fun M' f => ⟨fun j j1 j2 j3 j4 j5 j6 => (f.1 j j1 j2 j3 j4 j5 j6).trans (f1.1 j j1 j2 j3 j4 j5 j6), fun a a1 a2 a3 a4 a5 => (f.2 a a1 a2 a3 a4 a5).trans (f1.2 a a1 a2 a3 a4 a5)⟩
    have hat := fun (e : Nat) (he : 4 ≤ e) => c_moveAt (d := e) (T := T) (F := F) hG K1.2.2.1 hl (n := P.length) (by omega) (by omega)
    rw [hx] at hat
    by_cases c1 : best = -1 ∨ most < gnv bb t pas (x / 91) (x % 91)
    · obtain ⟨M', e2, K2, f2⟩ := ih (P ++ [x]) x (gnv bb t pas (x / 91) (x % 91)) (.val (.int (iI (gnv bb t pas (x / 91) (x % 91))))) M1 (by rw [List.append_assoc]; exact hP) (by omega) hgr K1
      refine ⟨M', fun e he => ?_, K2, htr _ f2⟩
      have e1 := e1 e he
      have e2 := e2 e he
      have hat := hat e he
      rw [List.length_append, List.length_singleton, Int.natCast_add_one] at e2
      rw [grd, if_pos c1, ← e2]
      clear e2 ih K1 K2 f2 f1 htr h hP
      rw [x_X1_greediest_12]
      by_cases c2 : best = -1
      · simp (disch := omega) only [x_X1_greediest_14, x_X1_greediest_15, x_X1_greediest_18, x_X1_greediest_19, x_X1_greediest_21, x_X1_greediest_24, x_X1_greediest_26, x_X1_greediest_27, x_X1_greediest_28, x_X1_greediest_31, x_X1_greediest_33, x_X1_greediest_34, x_X1_greediest_37, x_X1_greediest_38, x_X1_greediest_40, x_X1_greediest_43, x_X1_greediest_44, x_X1_greediest_46, x_X1_greediest_47, x_X1_greediest_50, List.length_cons, List.length_nil, Nat.reduceLeDiff, Nat.zero_add, iI_add, iI_sub, iI_mul, iI_neg, iI_lt, iI_le, iI_eq, jI_iI, B_True, B_False, B_t, B_f, ck_True, gd_True, cb_v, cb_n, p_mv_rw, p_fv_rw, p_rv_some, pA_1, pA_90, pA_92, pA_3, pA_2, pA_93, pA_4, pA_91, pA_95, pS_i, pW_i, pZ_0, pZ_1, pZ_b, bI_e0, u1_s, u1_n, uA_s, uA_n, true_and, and_true, not_true_eq_false, not_false_eq_true, eq_self, iI_z, al1, al2, al3, al4, al90, al91, al92, al93, al95, Int.cast_ofNat_Int, Nat.reduceAdd, Int.reduceNeg, Int.reduceAdd, Int.reduceSub, Int.reduceMul, Int.reduceLT, Int.reduceLE, Int.reduceGT, Int.reduceGE, Int.reduceEq, Int.reduceNe, Nat.reduceEqDiff, Int.zero_add, Int.add_zero, p_ty0, p_ty1, p_ty2, p_ty3, p_ty4, p_ty5, p_ty6, p_ty7, p_ty8, p_ty9, p_ty10, p_ty11, t0, e1, hat, c2, gd_t]
      · have c3 := c1.resolve_left c2
        simp (disch := omega) only [x_X1_greediest_14, x_X1_greediest_15, x_X1_greediest_18, x_X1_greediest_19, x_X1_greediest_21, x_X1_greediest_24, x_X1_greediest_26, x_X1_greediest_27, x_X1_greediest_28, x_X1_greediest_31, x_X1_greediest_33, x_X1_greediest_34, x_X1_greediest_37, x_X1_greediest_38, x_X1_greediest_40, x_X1_greediest_43, x_X1_greediest_44, x_X1_greediest_46, x_X1_greediest_47, x_X1_greediest_50, List.length_cons, List.length_nil, Nat.reduceLeDiff, Nat.zero_add, iI_add, iI_sub, iI_mul, iI_neg, iI_lt, iI_le, iI_eq, jI_iI, B_True, B_False, B_t, B_f, ck_True, gd_True, cb_v, cb_n, p_mv_rw, p_fv_rw, p_rv_some, pA_1, pA_90, pA_92, pA_3, pA_2, pA_93, pA_4, pA_91, pA_95, pS_i, pW_i, pZ_0, pZ_1, pZ_b, bI_e0, u1_s, u1_n, uA_s, uA_n, true_and, and_true, not_true_eq_false, not_false_eq_true, eq_self, iI_z, al1, al2, al3, al4, al90, al91, al92, al93, al95, Int.cast_ofNat_Int, Nat.reduceAdd, Int.reduceNeg, Int.reduceAdd, Int.reduceSub, Int.reduceMul, Int.reduceLT, Int.reduceLE, Int.reduceGT, Int.reduceGE, Int.reduceEq, Int.reduceNe, Nat.reduceEqDiff, Int.zero_add, Int.add_zero, p_ty0, p_ty1, p_ty2, p_ty3, p_ty4, p_ty5, p_ty6, p_ty7, p_ty8, p_ty9, p_ty10, p_ty11, t0, e1, hat, gd_t]
    · obtain ⟨M', e2, K2, f2⟩ := ih (P ++ [x]) best most (.val (.int (iI (gnv bb t pas (x / 91) (x % 91))))) M1 (by rw [List.append_assoc]; exact hP) hb hm K1
      refine ⟨M', fun e he => ?_, K2, htr _ f2⟩
      have e1 := e1 e he
      have e2 := e2 e he
      rw [List.length_append, List.length_singleton, Int.natCast_add_one] at e2
      rw [grd, if_neg c1, ← e2]
      clear e2 ih K1 K2 f2 f1 htr h hP hat
      rw [x_X1_greediest_12]
      have c2 : best ≠ -1 := fun z => c1 (Or.inl z)
      have c3 : gnv bb t pas (x / 91) (x % 91) ≤ most := by
        have := fun z => c1 (Or.inr z)
        omega
      simp (disch := omega) only [x_X1_greediest_14, x_X1_greediest_15, x_X1_greediest_18, x_X1_greediest_19, x_X1_greediest_21, x_X1_greediest_24, x_X1_greediest_26, x_X1_greediest_27, x_X1_greediest_28, x_X1_greediest_31, x_X1_greediest_33, x_X1_greediest_34, x_X1_greediest_37, x_X1_greediest_38, x_X1_greediest_40, x_X1_greediest_43, x_X1_greediest_44, x_X1_greediest_46, x_X1_greediest_47, x_X1_greediest_50, List.length_cons, List.length_nil, Nat.reduceLeDiff, Nat.zero_add, iI_add, iI_sub, iI_mul, iI_neg, iI_lt, iI_le, iI_eq, jI_iI, B_True, B_False, B_t, B_f, ck_True, gd_True, cb_v, cb_n, p_mv_rw, p_fv_rw, p_rv_some, pA_1, pA_90, pA_92, pA_3, pA_2, pA_93, pA_4, pA_91, pA_95, pS_i, pW_i, pZ_0, pZ_1, pZ_b, bI_e0, u1_s, u1_n, uA_s, uA_n, true_and, and_true, not_true_eq_false, not_false_eq_true, eq_self, iI_z, al1, al2, al3, al4, al90, al91, al92, al93, al95, Int.cast_ofNat_Int, Nat.reduceAdd, Int.reduceNeg, Int.reduceAdd, Int.reduceSub, Int.reduceMul, Int.reduceLT, Int.reduceLE, Int.reduceGT, Int.reduceGE, Int.reduceEq, Int.reduceNe, Nat.reduceEqDiff, Int.zero_add, Int.add_zero, p_ty0, p_ty1, p_ty2, p_ty3, p_ty4, p_ty5, p_ty6, p_ty7, p_ty8, p_ty9, p_ty10, p_ty11, t0, e1, gd_t]
end PGRD
