section PGN2
variable {d : Nat} {T : pT} {M M0 M1 M2 : pM} {F : pF} {b g : Nat} {bb v w : Int → Int} {k s t pas q its to as c x p kc i acc en : Int} {A Z P L Q : List Int} {n : Nat}
/-- what a move gains -/
noncomputable def gnv (bb : Int → Int) (t pas its to : Int) : Int := m_wor (bb (mk_pl bb pas its to) % 10) - (if 0 < m_att (mk_bb bb pas its to 2) to (1 - t) then m_wor (mk_th bb its to 2 % 10) else 0)
theorem c_gainOf (hG : GT T F g) (h : GKL M g bb t pas q) (hn : n < (lgA bb t pas).length) (hx : (lgA bb t pas).getD n 0 = x) :
    ∃ M', (∀ d, 4 ≤ d → callD d m_X1_gainOf [.ref g, .int (iI (n : Int))] T M F = some (.inl (some (.int (iI (gnv bb t pas (x / 91) (x % 91))))), T, M', F)) ∧ GKL M' g bb t pas q ∧ (∀ j, j ≠ 1 → j ≠ 2 → j ≠ 3 → j ≠ 10 → j ≠ 12 → j ≠ 13 → M' g j = M g j) ∧ (∀ a, a ≠ g → a ≠ g + 1 → a ≠ g + 1 + 1 → a ≠ g + 5 → a ≠ g + 6 → M' a = M a) := by
  have hm := lgA_at hn
  rw [hx] at hm
  obtain ⟨hy, hV, hs⟩ := lg_move hm
  have hxr := lgA_rg hm
  have hl := h.len
  have hb := h.1.1.2.2.1
  have ht := h.1.2.2.2.2.1
  obtain ⟨M1, e1, S1, n1, n2⟩ := c_playListed hG h hn hx
  obtain ⟨M', e2, K', f1, f2⟩ := c_again (T := T) (F := F) hG h hV (as := 2) (by omega) S1 (fun j j1 j2 j3 _ _ _ => n1 j j1 j2 j3) (fun a a1 a2 a3 _ _ => n2 a a1 a2 a3)
  obtain ⟨k0, -, -, -, -, k5, -⟩ := pk_facts (q := q) hb ht h.1.PS (by have := h.1.2.2.2.2.2.1; omega) hV
  refine ⟨M', fun d hd => ?_, K', f1, f2⟩
  refine callD_go 3 hd rfl (fun e he => ?_)
  show R e m_X1_gainOf 0 [.val (.ref g), .val (.int (iI (n : Int))), .unset, .unset, .unset, .unset] [] T M F = _
  have e1 := e1 e he
  have e2 := e2 e (by omega)
  have hLM : LM M1 g (lgA bb t pas) := by
    obtain ⟨l1, l2⟩ := h.2.2.1
    refine ⟨?_, ?_⟩
    · rw [n1 7 (by omega) (by omega) (by omega)]; exact l1
    · rw [n2 (g + 4) (by omega) (by omega) (by omega)]; exact l2
  have hat := c_moveAt (d := e) (T := T) (F := F) hG hLM hl hn (by omega)
  rw [hx] at hat
  have hrm : x - x / 91 * 91 = x % 91 := by omega
  have hp2 := c_placeOf (d := e) (T := T) (M := M1) (F := F) (k := x % 91) (by omega) (by omega)
  have hB := hG.2.2.2.1
  have hs1 : 1 - t = 0 ∨ 1 - t = 1 := by omega
  have hR1 := S1.1
  have hb1 := hR1.2.2.1
  have r1 := S1.2.1
  have ha := c_attR (d := e) (T := T) (F := F) hB hR1 (by omega) hV.2.1 hs1
  have har := m_att_rg (mk_bb bb pas (x / 91) (x % 91) 2) (x % 91) (1 - t)
  have hon := c_onR (d := e) (T := T) (F := F) hB hR1 (by omega) hV.2.1
  obtain ⟨w1, -, w3⟩ := cv_facts hb (mk_pl bb pas (x / 91) (x % 91))
  obtain ⟨w4, -, w6⟩ := cv_facts hb1 (x % 91)
  have eto : mk_bb bb pas (x / 91) (x % 91) 2 (x % 91) = mk_th bb (x / 91) (x % 91) 2 := if_pos rfl
  rw [eto] at w4 w6 hon
  have hbp := hb (mk_pl bb pas (x / 91) (x % 91))
  have hbt := hb1 (x % 91)
  rw [eto] at hbt
  have o1 := wor_eq' (x := bb (mk_pl bb pas (x / 91) (x % 91)) % 10) (by omega)
  have o2 := wor_eq' (x := mk_th bb (x / 91) (x % 91) 2 % 10) (by omega)
  have o3 : ∀ y : Int, 0 ≤ m_wor y ∧ m_wor y ≤ 10 := by intro y; unfold m_wor; repeat' split <;> omega
  have o4 := o3 (bb (mk_pl bb pas (x / 91) (x % 91)) % 10)
  have o5 := o3 (mk_th bb (x / 91) (x % 91) 2 % 10)
  have c1 : 0 ≤ bb (mk_pl bb pas (x / 91) (x % 91)) % 10 ∧ bb (mk_pl bb pas (x / 91) (x % 91)) % 10 ≤ 6 := by omega
  have c2 : 0 ≤ mk_th bb (x / 91) (x % 91) 2 % 10 ∧ mk_th bb (x / 91) (x % 91) 2 % 10 ≤ 6 := by omega
  have t0 := hG.2.1
  have f0 := hG.2.2.1
  have hg := hG.1
  have hb0 := hB.2.1
  unfold gnv
  clear h K' f1 f2 n1 n2 S1 hLM hV hy hs hm hR1 hb1 hbp hbt o3 hb
  by_cases hc : 0 < m_att (mk_bb bb pas (x / 91) (x % 91) 2) (x % 91) (1 - t)
  · rw [if_pos hc]
    simp (disch := omega) only [x_X1_gainOf_0, x_X1_gainOf_1, x_X1_gainOf_2, x_X1_gainOf_5, x_X1_gainOf_6, x_X1_gainOf_7, x_X1_gainOf_8, x_X1_gainOf_11, x_X1_gainOf_13, x_X1_gainOf_14, x_X1_gainOf_17, x_X1_gainOf_19, x_X1_gainOf_20, x_X1_gainOf_23, x_X1_gainOf_26, x_X1_gainOf_29, x_X1_gainOf_31, x_X1_gainOf_32, x_X1_gainOf_35, x_X1_gainOf_37, x_X1_gainOf_38, x_X1_gainOf_41, x_X1_gainOf_44, x_X1_gainOf_47, x_X1_gainOf_49, x_X1_gainOf_50, x_X1_gainOf_53, x_X1_gainOf_55, x_X1_gainOf_58, x_X1_gainOf_61, x_X1_gainOf_64, x_X1_gainOf_65, x_X1_gainOf_67, x_X1_gainOf_68, x_X1_gainOf_69, x_X1_gainOf_72, x_X1_gainOf_74, List.length_cons, List.length_nil, Nat.reduceLeDiff, Nat.zero_add, iI_add, iI_sub, iI_mul, iI_neg, iI_lt, iI_le, iI_eq, jI_iI, B_True, B_False, B_t, B_f, ck_True, gd_True, cb_v, cb_n, p_mv_rw, p_fv_rw, p_rv_some, pA_1, pA_90, pA_92, pA_3, pA_2, pA_93, pA_4, pA_91, pA_95, pS_i, pW_i, pZ_0, pZ_1, pZ_b, bI_e0, u1_s, u1_n, uA_s, uA_n, true_and, and_true, not_true_eq_false, not_false_eq_true, eq_self, iI_z, al1, al2, al3, al4, al90, al91, al92, al93, al95, Int.cast_ofNat_Int, Nat.reduceAdd, Int.reduceNeg, Int.reduceAdd, Int.reduceSub, Int.reduceMul, Int.reduceLT, Int.reduceLE, Int.reduceGT, Int.reduceGE, Int.reduceEq, Int.reduceNe, Nat.reduceEqDiff, Int.zero_add, Int.add_zero, p_ty0, p_ty1, p_ty2, p_ty3, p_ty4, p_ty5, p_ty6, p_ty7, p_ty8, p_ty9, p_ty10, p_ty11, t0, f0, hb0, gd_t, e1, e2, hat, hp2, hrm, r1, ha, hon, iI_div, c_taken k0, k5, c_kind, w3, w6, c_wor, o1, o2, B_t, B_f]
  · rw [if_neg hc, Int.sub_zero]
    simp (disch := omega) only [x_X1_gainOf_0, x_X1_gainOf_1, x_X1_gainOf_2, x_X1_gainOf_5, x_X1_gainOf_6, x_X1_gainOf_7, x_X1_gainOf_8, x_X1_gainOf_11, x_X1_gainOf_13, x_X1_gainOf_14, x_X1_gainOf_17, x_X1_gainOf_19, x_X1_gainOf_20, x_X1_gainOf_23, x_X1_gainOf_26, x_X1_gainOf_29, x_X1_gainOf_31, x_X1_gainOf_32, x_X1_gainOf_35, x_X1_gainOf_37, x_X1_gainOf_38, x_X1_gainOf_41, x_X1_gainOf_44, x_X1_gainOf_47, x_X1_gainOf_49, x_X1_gainOf_50, x_X1_gainOf_53, x_X1_gainOf_55, x_X1_gainOf_58, x_X1_gainOf_61, x_X1_gainOf_64, x_X1_gainOf_65, x_X1_gainOf_67, x_X1_gainOf_68, x_X1_gainOf_69, x_X1_gainOf_72, x_X1_gainOf_74, List.length_cons, List.length_nil, Nat.reduceLeDiff, Nat.zero_add, iI_add, iI_sub, iI_mul, iI_neg, iI_lt, iI_le, iI_eq, jI_iI, B_True, B_False, B_t, B_f, ck_True, gd_True, cb_v, cb_n, p_mv_rw, p_fv_rw, p_rv_some, pA_1, pA_90, pA_92, pA_3, pA_2, pA_93, pA_4, pA_91, pA_95, pS_i, pW_i, pZ_0, pZ_1, pZ_b, bI_e0, u1_s, u1_n, uA_s, uA_n, true_and, and_true, not_true_eq_false, not_false_eq_true, eq_self, iI_z, al1, al2, al3, al4, al90, al91, al92, al93, al95, Int.cast_ofNat_Int, Nat.reduceAdd, Int.reduceNeg, Int.reduceAdd, Int.reduceSub, Int.reduceMul, Int.reduceLT, Int.reduceLE, Int.reduceGT, Int.reduceGE, Int.reduceEq, Int.reduceNe, Nat.reduceEqDiff, Int.zero_add, Int.add_zero, p_ty0, p_ty1, p_ty2, p_ty3, p_ty4, p_ty5, p_ty6, p_ty7, p_ty8, p_ty9, p_ty10, p_ty11, t0, f0, hb0, gd_t, e1, e2, hat, hp2, hrm, r1, ha, hon, iI_div, c_taken k0, k5, c_kind, w3, w6, c_wor, o1, o2, B_t, B_f]
end PGN2
