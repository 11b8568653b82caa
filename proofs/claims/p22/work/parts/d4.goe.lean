section PGOE
variable {d k s b n D r c0 e : Nat} {T T1 T2 : pT} {M M1 M2 : pM} {F F1 F2 : pF} {S S1 : GSx} {ea ea1 z z1 mv c i j w : Int} {bs bs1 : Int → Int}
/-- a number below n -/
def bl (x : Int32) (n : Int) : Int := jI (x &&& iI 2147483647) % n
theorem and_nn (x : Int32) : 0 ≤ jI (x &&& iI 2147483647) := by
  unfold jI
  have h : (x &&& iI 2147483647).toBitVec.msb = false := by
    rw [Int32.toBitVec_and, BitVec.msb_and]
    have : (iI 2147483647).toBitVec.msb = false := by decide
    rw [this, Bool.and_false]
  rw [BitVec.msb_eq_toInt] at h
  have := of_decide_eq_false h
  have e : (x &&& iI 2147483647).toBitVec.toInt = (x &&& iI 2147483647).toInt := rfl
  omega
theorem bl_rg (x : Int32) {n : Int} (hn : 0 < n) : 0 ≤ bl x n ∧ bl x n < n := ⟨Int.emod_nonneg _ (by omega), Int.emod_lt_of_pos _ hn⟩
theorem z_below {x : Int32} {n : Int} (hn : 0 < n ∧ n ≤ 10000) (hd : 1 ≤ d) : callD d m_L_below [.int x, .int (iI n)] T M F = some (.inl (some (.int (iI (bl x n)))), T, M, F) := by
  refine callD_go 0 hd rfl (fun e he => ?_)
  show R e m_L_below 0 [.val (.int x), .val (.int (iI n))] [] T M F = _
  have h0 := and_nn x
  have h1 := jI_rg (x &&& iI 2147483647)
  have hz : x &&& iI 2147483647 = iI (jI (x &&& iI 2147483647)) := (iI_jI _).symm
  unfold bl
  generalize jI (x &&& iI 2147483647) = u at *
  have hdv : iI u / iI n = iI (u / n) := iI_div h0 (by omega) (by omega) (by omega)
  have hm : u - u / n * n = u % n := by
    have := Int.emod_def u n
    rw [this, Int.mul_comm]
  simp (disch := omega) only [x_L_below_0, x_L_below_1, x_L_below_3, x_L_below_4, x_L_below_5, x_L_below_6, List.length_cons, List.length_nil, Nat.reduceLeDiff, Nat.zero_add, iI_add, iI_sub, iI_mul, iI_neg, iI_lt, iI_le, iI_eq, jI_iI, B_True, B_False, B_t, B_f, ck_True, gd_True, cb_v, cb_n, p_mv_rw, p_fv_rw, p_rv_some, pA_1, pA_90, pA_92, pA_3, pA_5, pA_93, pA_4, pA_91, pA_6, pS_i, pB_i, pW_i, pZ_0, pZ_1, pZ_b, bI_e0, u1_s, u1_n, uA_s, uA_n, true_and, and_true, not_true_eq_false, not_false_eq_true, eq_self, iI_z, al1, al5, al3, al4, al90, al91, al92, al93, al6, Int.cast_ofNat_Int, Nat.reduceAdd, Int.reduceNeg, Int.reduceAdd, Int.reduceSub, Int.reduceMul, Int.reduceLT, Int.reduceLE, Int.reduceGT, Int.reduceGE, Int.reduceEq, Int.reduceNe, Nat.reduceEqDiff, Int.zero_add, Int.add_zero, p_ty0, p_ty1, p_ty2, p_ty3, p_ty4, p_ty5, p_ty8, p_ty9, p_ty10, hz, hdv, hm, ck_t, gd_t, B_t, B_f]
theorem idv91 {u : Int} (h : 0 ≤ u ∧ u ≤ 100000) : iI u / iI 91 = iI (u / 91) ∧ u - u / 91 * 91 = u % 91 := ⟨iI_div (a := u) (b := 91) (by omega) (by omega) (by decide) (by decide), by omega⟩
theorem AR.mem {A : List Int} (h : AR T M r A) (hi : 0 ≤ i ∧ i < (A.length : Int)) : M r i = A.getD i.toNat 0 ∧ (0 ≤ M r i ∧ M r i < 8281) ∧ M r i ∈ A := by
  have := h.2.2 i.toNat (by omega)
  rw [Int.toNat_of_nonneg hi.1] at this
  refine ⟨this.1, by omega, ?_⟩
  rw [this.1, List.getD_eq_getElem?_getD, List.getElem?_eq_getElem (by omega)]
  exact List.getElem_mem _
/-- a move that takes is chosen -/
theorem go_L {A : List Int} {e : Nat} (he : 10 ≤ e) {l0 : Slot} {x : Int32} (hA : AR T M r A) (hl : A.length ≤ 840) (hI : SI T F s b) (hS : SB1 (M b) S.1 ∧ MB S.1) : ∀ (n : Nat) (w c : Int) (l8 : Slot), 0 ≤ w → w + n = A.length → c ∈ A → ∃ c' l8', c' ∈ A ∧ R e m_L_goes 33 [l0, .val (.ref s), .val (.int x), .val (.ref r), .val (.int (iI c)), .val (.ref r), .val (.int (iI A.length)), .val (.int (iI w)), l8] [] T M F = R e m_L_goes 83 [l0, .val (.ref s), .val (.int x), .val (.ref r), .val (.int (iI c')), .val (.ref r), .val (.int (iI A.length)), .val (.int (iI A.length)), l8'] [] T M F
  | 0, w, c, l8, h0, hw, hc => by
    obtain rfl : w = A.length := by omega
    refine ⟨c, l8, hc, ?_⟩
    simp (disch := omega) only [x_L_goes_33, x_L_goes_35, x_L_goes_37, List.length_cons, List.length_nil, Nat.reduceLeDiff, Nat.zero_add, iI_add, iI_sub, iI_mul, iI_neg, iI_lt, iI_le, iI_eq, jI_iI, B_True, B_False, B_t, B_f, ck_True, gd_True, cb_v, cb_n, p_mv_rw, p_fv_rw, p_rv_some, pA_1, pA_90, pA_92, pA_3, pA_5, pA_93, pA_4, pA_91, pA_6, pS_i, pB_i, pW_i, pZ_0, pZ_1, pZ_b, bI_e0, u1_s, u1_n, uA_s, uA_n, true_and, and_true, not_true_eq_false, not_false_eq_true, eq_self, iI_z, al1, al5, al3, al4, al90, al91, al92, al93, al6, Int.cast_ofNat_Int, Nat.reduceAdd, Int.reduceNeg, Int.reduceAdd, Int.reduceSub, Int.reduceMul, Int.reduceLT, Int.reduceLE, Int.reduceGT, Int.reduceGE, Int.reduceEq, Int.reduceNe, Nat.reduceEqDiff, Int.zero_add, Int.add_zero, p_ty0, p_ty1, p_ty2, p_ty3, p_ty4, p_ty5, p_ty8, p_ty9, p_ty10, gd_t, ck_t, B_t, B_f]
  | n + 1, w, c, l8, h0, hw, hc => by
    obtain ⟨m1, m2, m3⟩ := hA.mem (i := w) (by omega)
    have ar := hA.2.1
    have r1 := hA.1
    have bl1 := z_below (d := e) (T := T) (M := M) (F := F) (x := x >>> (iI 5 &&& 31)) (n := 3) (by omega) (by omega)
    have hb3 := bl_rg (x >>> (iI 5 &&& 31)) (n := 3) (by omega)
    obtain ⟨d1, d2⟩ := idv91 (u := M r w) (by omega)
    have pl := z_placeOf (d := e) (T := T) (M := M) (F := F) (k := M r w % 91) (by omega) (by omega)
    have vk := hS.1.at (k := M r w % 91) (by omega)
    have sk := (sv_f hS.2 (M r w % 91)).2.1
    have kp := (c1_pl1 (k := M r w % 91) (by omega)).2.1
    have hI' := hI
    obtain ⟨i0, i1, i2, i3, i4, -⟩ := hI
    obtain ⟨ca, l8a, ha, ea⟩ := go_L he (l0 := l0) (x := x) hA hl hI' hS n (w + 1) (M r w) (.val (.int (iI (M r w)))) (by omega) (by omega) m3
    obtain ⟨cb, l8b, hb, eb⟩ := go_L he (l0 := l0) (x := x) hA hl hI' hS n (w + 1) c (.val (.int (iI (M r w)))) (by omega) (by omega) hc
    by_cases c1 : bl (x >>> (iI 5 &&& 31)) 3 = 0
    · by_cases c2 : sv (S.1 (M r w % 91)) = 0
      · refine ⟨cb, l8b, hb, ?_⟩
        rw [← eb]
        clear ea eb hA hS hI'
        generalize pl1 (M r w % 91) = p at *
        generalize sv (S.1 (M r w % 91)) = v at *
        generalize bl (x >>> (iI 5 &&& 31)) 3 = u at *
        generalize A.length = ln at *
        generalize hv : M r w = o at *
        rw [x_L_goes_33]
        simp (disch := omega) only [x_L_goes_35, x_L_goes_37, x_L_goes_40, x_L_goes_42, x_L_goes_44, x_L_goes_45, x_L_goes_47, x_L_goes_48, x_L_goes_49, x_L_goes_50, x_L_goes_51, x_L_goes_54, x_L_goes_57, x_L_goes_58, x_L_goes_61, x_L_goes_63, x_L_goes_65, x_L_goes_66, x_L_goes_69, x_L_goes_70, x_L_goes_73, x_L_goes_75, x_L_goes_77, x_L_goes_80, List.length_cons, List.length_nil, Nat.reduceLeDiff, Nat.zero_add, iI_add, iI_sub, iI_mul, iI_neg, iI_lt, iI_le, iI_eq, jI_iI, B_True, B_False, B_t, B_f, ck_True, gd_True, cb_v, cb_n, p_mv_rw, p_fv_rw, p_rv_some, pA_1, pA_90, pA_92, pA_3, pA_5, pA_93, pA_4, pA_91, pA_6, pS_i, pB_i, pW_i, pZ_0, pZ_1, pZ_b, bI_e0, u1_s, u1_n, uA_s, uA_n, true_and, and_true, not_true_eq_false, not_false_eq_true, eq_self, iI_z, al1, al5, al3, al4, al90, al91, al92, al93, al6, Int.cast_ofNat_Int, Nat.reduceAdd, Int.reduceNeg, Int.reduceAdd, Int.reduceSub, Int.reduceMul, Int.reduceLT, Int.reduceLE, Int.reduceGT, Int.reduceGE, Int.reduceEq, Int.reduceNe, Nat.reduceEqDiff, Int.zero_add, Int.add_zero, p_ty0, p_ty1, p_ty2, p_ty3, p_ty4, p_ty5, p_ty8, p_ty9, p_ty10, ar, i0, i1, i2, i3, i4, hv, bl1, d1, d2, pl, vk, gd_t, ck_t, B_t, B_f]
      · refine ⟨ca, l8a, ha, ?_⟩
        rw [← ea]
        clear ea eb hA hS hI'
        generalize pl1 (M r w % 91) = p at *
        generalize sv (S.1 (M r w % 91)) = v at *
        generalize bl (x >>> (iI 5 &&& 31)) 3 = u at *
        generalize A.length = ln at *
        generalize hv : M r w = o at *
        rw [x_L_goes_33]
        simp (disch := omega) only [x_L_goes_35, x_L_goes_37, x_L_goes_40, x_L_goes_42, x_L_goes_44, x_L_goes_45, x_L_goes_47, x_L_goes_48, x_L_goes_49, x_L_goes_50, x_L_goes_51, x_L_goes_54, x_L_goes_57, x_L_goes_58, x_L_goes_61, x_L_goes_63, x_L_goes_65, x_L_goes_66, x_L_goes_69, x_L_goes_70, x_L_goes_73, x_L_goes_75, x_L_goes_77, x_L_goes_80, List.length_cons, List.length_nil, Nat.reduceLeDiff, Nat.zero_add, iI_add, iI_sub, iI_mul, iI_neg, iI_lt, iI_le, iI_eq, jI_iI, B_True, B_False, B_t, B_f, ck_True, gd_True, cb_v, cb_n, p_mv_rw, p_fv_rw, p_rv_some, pA_1, pA_90, pA_92, pA_3, pA_5, pA_93, pA_4, pA_91, pA_6, pS_i, pB_i, pW_i, pZ_0, pZ_1, pZ_b, bI_e0, u1_s, u1_n, uA_s, uA_n, true_and, and_true, not_true_eq_false, not_false_eq_true, eq_self, iI_z, al1, al5, al3, al4, al90, al91, al92, al93, al6, Int.cast_ofNat_Int, Nat.reduceAdd, Int.reduceNeg, Int.reduceAdd, Int.reduceSub, Int.reduceMul, Int.reduceLT, Int.reduceLE, Int.reduceGT, Int.reduceGE, Int.reduceEq, Int.reduceNe, Nat.reduceEqDiff, Int.zero_add, Int.add_zero, p_ty0, p_ty1, p_ty2, p_ty3, p_ty4, p_ty5, p_ty8, p_ty9, p_ty10, ar, i0, i1, i2, i3, i4, hv, bl1, d1, d2, pl, vk, gd_t, ck_t, B_t, B_f]
    · refine ⟨cb, l8b, hb, ?_⟩
      rw [← eb]
      clear ea eb hA hS hI'
      generalize pl1 (M r w % 91) = p at *
      generalize sv (S.1 (M r w % 91)) = v at *
      generalize bl (x >>> (iI 5 &&& 31)) 3 = u at *
      generalize A.length = ln at *
      generalize hv : M r w = o at *
      rw [x_L_goes_33]
      simp (disch := omega) only [x_L_goes_35, x_L_goes_37, x_L_goes_40, x_L_goes_42, x_L_goes_44, x_L_goes_45, x_L_goes_47, x_L_goes_48, x_L_goes_49, x_L_goes_50, x_L_goes_51, x_L_goes_54, x_L_goes_57, x_L_goes_58, x_L_goes_61, x_L_goes_63, x_L_goes_65, x_L_goes_66, x_L_goes_69, x_L_goes_70, x_L_goes_73, x_L_goes_75, x_L_goes_77, x_L_goes_80, List.length_cons, List.length_nil, Nat.reduceLeDiff, Nat.zero_add, iI_add, iI_sub, iI_mul, iI_neg, iI_lt, iI_le, iI_eq, jI_iI, B_True, B_False, B_t, B_f, ck_True, gd_True, cb_v, cb_n, p_mv_rw, p_fv_rw, p_rv_some, pA_1, pA_90, pA_92, pA_3, pA_5, pA_93, pA_4, pA_91, pA_6, pS_i, pB_i, pW_i, pZ_0, pZ_1, pZ_b, bI_e0, u1_s, u1_n, uA_s, uA_n, true_and, and_true, not_true_eq_false, not_false_eq_true, eq_self, iI_z, al1, al5, al3, al4, al90, al91, al92, al93, al6, Int.cast_ofNat_Int, Nat.reduceAdd, Int.reduceNeg, Int.reduceAdd, Int.reduceSub, Int.reduceMul, Int.reduceLT, Int.reduceLE, Int.reduceGT, Int.reduceGE, Int.reduceEq, Int.reduceNe, Nat.reduceEqDiff, Int.zero_add, Int.add_zero, p_ty0, p_ty1, p_ty2, p_ty3, p_ty4, p_ty5, p_ty8, p_ty9, p_ty10, ar, i0, i1, i2, i3, i4, hv, bl1, d1, d2, pl, vk, gd_t, ck_t, B_t, B_f]
theorem z_goes (h : LQ k s b T M F S mv) (hmv : mv = S.2.2.2.2.length) (hm9 : mv ≤ 600) (x : Int32) (he : 10 ≤ e) : ∃ T' M' F' S' mv', callD (e + 1) m_L_goes [.ref (100 + k), .ref s, .int x] T M F = some (.inl (some (.int (iI 1))), T', M', F') ∧ LQ k s b T' M' F' S' mv' ∧ mv' = S'.2.2.2.2.length ∧ mv' ≤ mv + 1 ∧ LBs 1 T T' ∧ s_mono T T' ∧ ∀ a, a < 100 → M' a = M a ∧ F' a = F a := by
  have hn := h.cnt
  obtain ⟨⟨f1, f2, f3⟩, ht, hPS, hq, hlA, hlQ, -⟩ := h.sf
  have hsb := h.1
  have hs100 := h.2.1.1
  have hb100 := h.2.1.2.2.2.1
  obtain ⟨T2, M2, F2, r, r2, c2, x2, A2, g2, g3⟩ := z_legal (by omega) h.2.1 (by omega) (by omega) h.2.2.1 hPS f3 hlA (by omega) (by omega)
  have L2 := h.ix x2
  have ty := L2.ty
  have r2 := r2 e (by omega)
  have ps := h.2.1.2.1
  have ar := A2.2.1
  by_cases c0 : (lgQ S.1 S.2.1 S.2.2.1 S.2.2.2.1).length = 0
  · refine ⟨T2, M2, F2, S, mv, ?_, L2, hmv, by omega, c2, x2.1, fun a ha => x2.2 a (by omega)⟩
    rw [callD_succ _ _ _ _ _ _ (Nat.le_of_ble_eq_true rfl)]
    show R e m_L_goes 0 [.val (.ref (100 + k)), .val (.ref s), .val (.int x), .unset, .unset, .unset, .unset, .unset, .unset] [] T M F = _
    clear A2 L2 x2 h hPS
    generalize (lgQ S.1 S.2.1 S.2.2.1 S.2.2.2.1).length = ln at *
    subst c0
    simp (disch := omega) only [x_L_goes_0, x_L_goes_1, x_L_goes_4, x_L_goes_5, x_L_goes_6, x_L_goes_7, x_L_goes_10, x_L_goes_11, List.length_cons, List.length_nil, Nat.reduceLeDiff, Nat.zero_add, iI_add, iI_sub, iI_mul, iI_neg, iI_lt, iI_le, iI_eq, jI_iI, B_True, B_False, B_t, B_f, ck_True, gd_True, cb_v, cb_n, p_mv_rw, p_fv_rw, p_rv_some, pA_1, pA_90, pA_92, pA_3, pA_5, pA_93, pA_4, pA_91, pA_6, pS_i, pB_i, pW_i, pZ_0, pZ_1, pZ_b, bI_e0, u1_s, u1_n, uA_s, uA_n, true_and, and_true, not_true_eq_false, not_false_eq_true, eq_self, iI_z, al1, al5, al3, al4, al90, al91, al92, al93, al6, Int.cast_ofNat_Int, Nat.reduceAdd, Int.reduceNeg, Int.reduceAdd, Int.reduceSub, Int.reduceMul, Int.reduceLT, Int.reduceLE, Int.reduceGT, Int.reduceGE, Int.reduceEq, Int.reduceNe, Nat.reduceEqDiff, Int.zero_add, Int.add_zero, p_ty0, p_ty1, p_ty2, p_ty3, p_ty4, p_ty5, p_ty8, p_ty9, p_ty10, ps, r2, ar, gd_t, ck_t, B_t, B_f]
  · have hb0 := bl_rg x (n := ((lgQ S.1 S.2.1 S.2.2.1 S.2.2.2.1).length : Int)) (by omega)
    obtain ⟨m1, m2, m3⟩ := A2.mem (i := bl x ((lgQ S.1 S.2.1 S.2.2.1 S.2.2.2.1).length : Int)) hb0
    have bl0 := z_below (d := e) (T := T2) (M := M2) (F := F2) (x := x) (n := ((lgQ S.1 S.2.1 S.2.2.1 S.2.2.2.1).length : Int)) (by omega) (by omega)
    obtain ⟨c, l8, hc, eL⟩ := go_L he (l0 := .val (.ref (100 + k))) (x := x) A2 hlQ L2.2.1 L2.sm (lgQ S.1 S.2.1 S.2.2.1 S.2.2.2.1).length 0 _ .unset (by omega) (by omega) m3
    have hcr := lgA_rg (lgQ_sub hc).1
    have ha : 0 ≤ c / 91 ∧ c / 91 < 91 := by omega
    have hb : 0 ≤ c % 91 ∧ c % 91 < 91 := by omega
    have hcm : 91 * (c / 91) + c % 91 ∈ lgQ S.1 S.2.1 S.2.2.1 S.2.2.2.1 := by rw [show 91 * (c / 91) + c % 91 = c by omega]; exact hc
    have hb4 := bl_rg (x >>> (iI 3 &&& 31)) (n := 4) (by omega)
    obtain ⟨as, has⟩ : ∃ as, as = 2 + bl (x >>> (iI 3 &&& 31)) 4 := ⟨_, rfl⟩
    have bl4 := z_below (d := e) (T := T2) (M := M2) (F := F2) (x := x >>> (iI 3 &&& 31)) (n := 4) (by omega) (by omega)
    obtain ⟨hqq, hy, hV, hch⟩ := lgQ_mv hcm ha hb
    obtain ⟨hsb2, hI2, hS2, ea, bs, hW⟩ := id L2
    obtain ⟨T3, M3, F3, r3, W3, K3⟩ := hW.ret (m := m_X7_move) (v := [.int (iI (c / 91)), .int (iI (c % 91)), .int (iI as)]) (D := 10) (d := e) (fun T0 M0 F0 hC => (x_move (n := as) hC (by omega) (by omega) (by omega) (by omega)).1 ha hb (by omega) hcm) rfl rfl he
    have n2 := x2.1.1
    have hI3 := hI2.ky K3.ky hsb.1 hsb.2 (by omega)
    have hS3 := hS2.eq (K3.2.2 s (by omega) (Or.inl hsb.1)).1 (K3.2.2 b (by omega) (Or.inl hsb.2)).1
    obtain ⟨M4, r4, S4, f4⟩ := z_go (as := as) hI3 hS3 hPS hV (by omega) (by omega) (by omega)
    have W4 := hW
    refine ⟨T3, M4, F3, z_mv S (c / 91) (c % 91) as, mv + 1, ?_, ⟨hsb, hI3, S4, ea, bs, W3.up s_mono.rf (fun b0 h1 h2 => ⟨f4 b0 (by omega) (by omega), rfl⟩)⟩, ?_, by omega, ?_, x2.1.tr K3.1, fun a ha => ⟨?_, ?_⟩⟩
    · rw [callD_succ _ _ _ _ _ _ (Nat.le_of_ble_eq_true rfl)]
      show R e m_L_goes 0 [.val (.ref (100 + k)), .val (.ref s), .val (.int x), .unset, .unset, .unset, .unset, .unset, .unset] [] T M F = _
      have r100 := A2.1
      have e1 : R e m_L_goes 0 [.val (.ref (100 + k)), .val (.ref s), .val (.int x), .unset, .unset, .unset, .unset, .unset, .unset] [] T M F = R e m_L_goes 33 [.val (.ref (100 + k)), .val (.ref s), .val (.int x), .val (.ref r), .val (.int (iI (M2 r (bl x ((lgQ S.1 S.2.1 S.2.2.1 S.2.2.2.1).length : Int))))), .val (.ref r), .val (.int (iI ((lgQ S.1 S.2.1 S.2.2.1 S.2.2.2.1).length : Int))), .val (.int (iI 0)), .unset] [] T2 M2 F2 := by
        clear A2 L2 x2 h hPS eL hcm hc m1 m3 r4 hW W3 W4 hV S4 hS3 hS2
        generalize (lgQ S.1 S.2.1 S.2.2.1 S.2.2.2.1).length = ln at *
        generalize bl x (ln : Int) = u at *
        simp (disch := omega) only [x_L_goes_0, x_L_goes_1, x_L_goes_4, x_L_goes_5, x_L_goes_6, x_L_goes_7, x_L_goes_10, x_L_goes_11, x_L_goes_12, x_L_goes_13, x_L_goes_14, x_L_goes_15, x_L_goes_16, x_L_goes_19, x_L_goes_20, x_L_goes_22, x_L_goes_23, x_L_goes_25, x_L_goes_27, x_L_goes_28, x_L_goes_30, x_L_goes_31, List.length_cons, List.length_nil, Nat.reduceLeDiff, Nat.zero_add, iI_add, iI_sub, iI_mul, iI_neg, iI_lt, iI_le, iI_eq, jI_iI, B_True, B_False, B_t, B_f, ck_True, gd_True, cb_v, cb_n, p_mv_rw, p_fv_rw, p_rv_some, pA_1, pA_90, pA_92, pA_3, pA_5, pA_93, pA_4, pA_91, pA_6, pS_i, pB_i, pW_i, pZ_0, pZ_1, pZ_b, bI_e0, u1_s, u1_n, uA_s, uA_n, true_and, and_true, not_true_eq_false, not_false_eq_true, eq_self, iI_z, al1, al5, al3, al4, al90, al91, al92, al93, al6, Int.cast_ofNat_Int, Nat.reduceAdd, Int.reduceNeg, Int.reduceAdd, Int.reduceSub, Int.reduceMul, Int.reduceLT, Int.reduceLE, Int.reduceGT, Int.reduceGE, Int.reduceEq, Int.reduceNe, Nat.reduceEqDiff, Int.zero_add, Int.add_zero, p_ty0, p_ty1, p_ty2, p_ty3, p_ty4, p_ty5, p_ty8, p_ty9, p_ty10, ps, r2, ar, bl0, gd_t, ck_t, B_t, B_f]
      rw [e1, eL]
      clear e1 eL
      have r4 := r4 e (by omega)
      have pa := fun T M F => z_placeOf (d := e) (T := T) (M := M) (F := F) ha (by omega)
      have pb := fun T M F => z_placeOf (d := e) (T := T) (M := M) (F := F) hb (by omega)
      obtain ⟨d1, d2⟩ := idv91 (u := c) (by omega)
      have t3s := hI3.2.1
      have htk : 0 ≤ S.1 (mk_pl S.1 S.2.2.1 (c / 91) (c % 91)) % 10 ∧ S.1 (mk_pl S.1 S.2.2.1 (c / 91) (c % 91)) % 10 < 10 := by omega
      clear A2 L2 x2 h hPS hcm hc m1 m3 hW W3 W4 hV S4 hS3 hS2 hI2 hI3
      generalize (lgQ S.1 S.2.1 S.2.2.1 S.2.2.2.1).length = ln at *
      generalize S.1 (mk_pl S.1 S.2.2.1 (c / 91) (c % 91)) % 10 = tk at *
      generalize bl (x >>> (iI 3 &&& 31)) 4 = b4 at *
      generalize pl1 (c / 91) = pla at *
      generalize pl1 (c % 91) = plb at *
      rw [has] at r3 r4
      simp (disch := omega) only [x_L_goes_83, x_L_goes_84, x_L_goes_85, x_L_goes_86, x_L_goes_87, x_L_goes_88, x_L_goes_91, x_L_goes_92, x_L_goes_94, x_L_goes_95, x_L_goes_97, x_L_goes_99, x_L_goes_100, x_L_goes_102, x_L_goes_104, x_L_goes_105, x_L_goes_107, x_L_goes_110, x_L_goes_111, x_L_goes_113, x_L_goes_115, x_L_goes_116, x_L_goes_119, x_L_goes_121, x_L_goes_123, x_L_goes_124, x_L_goes_127, x_L_goes_129, x_L_goes_132, x_L_goes_135, x_L_goes_136, x_L_goes_139, x_L_goes_140, List.length_cons, List.length_nil, Nat.reduceLeDiff, Nat.zero_add, iI_add, iI_sub, iI_mul, iI_neg, iI_lt, iI_le, iI_eq, jI_iI, B_True, B_False, B_t, B_f, ck_True, gd_True, cb_v, cb_n, p_mv_rw, p_fv_rw, p_rv_some, pA_1, pA_90, pA_92, pA_3, pA_5, pA_93, pA_4, pA_91, pA_6, pS_i, pB_i, pW_i, pZ_0, pZ_1, pZ_b, bI_e0, u1_s, u1_n, uA_s, uA_n, true_and, and_true, not_true_eq_false, not_false_eq_true, eq_self, iI_z, al1, al5, al3, al4, al90, al91, al92, al93, al6, Int.cast_ofNat_Int, Nat.reduceAdd, Int.reduceNeg, Int.reduceAdd, Int.reduceSub, Int.reduceMul, Int.reduceLT, Int.reduceLE, Int.reduceGT, Int.reduceGE, Int.reduceEq, Int.reduceNe, Nat.reduceEqDiff, Int.zero_add, Int.add_zero, p_ty0, p_ty1, p_ty2, p_ty3, p_ty4, p_ty5, p_ty8, p_ty9, p_ty10, bl4, ty, t3s, d1, d2, pa, pb, r3, r4, gd_t, ck_t, B_t, B_f]
    · show mv + 1 = ((_ :: S.2.2.2.2 : List HE).length : Int)
      rw [List.length_cons]; omega
    · have := K3.2.1
      refine ⟨?_, ?_⟩
      · rw [this]; exact c2.1
      · rw [this]; exact c2.2
    · rw [f4 a (by omega) (by omega), (K3.2.2 a (by omega) (by omega)).1, (x2.2 a (by omega)).1]
    · rw [(K3.2.2 a (by omega) (by omega)).2, (x2.2 a (by omega)).2]
end PGOE
