section PSAFE
variable {d : Nat} {T : pT} {M M1 : pM} {F : pF} {b g : Nat} {bb : Int → Int} {k s t pas q its to as c x n p kc : Int}
theorem PN.rg (h : PN M g bb t kc n) (hk : 0 ≤ kc ∧ kc < 91) (hn : n ≤ 12) (ht : t = 0 ∨ t = 1) (hb : MB bb) {j : Int} (h0 : 0 ≤ j) (h1 : j < M g 12) : 59 ≤ M (g + 6) j ∧ M (g + 6) j ≤ 229 := by
  obtain ⟨i, i0, i1, i2, i3⟩ := (h.2 (M (g + 6) j)).mp ⟨j, h0, h1, rfl⟩
  have hcr := rayC_rg (b := bb) ⟨i0, by omega⟩ 16 (gn kc i) (gn_rg hk (by omega))
  have y1 : rayC bb i 16 (gn kc i) ≠ -1 := by
    intro z
    have y2 := i2.1
    rw [z] at y2
    unfold m_on m_side at y2
    simp at y2
    omega
  rw [i3]
  exact q_pl_nn (by omega)
theorem c_isPinned (hG : GT T F g) (hP : PN M g bb t kc 12) (hk : 0 ≤ kc ∧ kc < 91) (ht : t = 0 ∨ t = 1) (hb : MB bb) (hp : 0 ≤ p ∧ p < 300) (hd : 1 ≤ d) :
    callD d m_X1_isPinned [.ref g, .int (iI p)] T M F = some (.inl (some (.int (iI (bI (∃ j, 0 ≤ j ∧ j < M g 12 ∧ M (g + 6) j = p))))), T, M, F) := by
  obtain ⟨hg, t0, f0, hB, t3, f4, t4, f6, t5, f9, t6, f11⟩ := hG
  refine callD_go 0 hd rfl (fun e he => ?_)
  show R e m_X1_isPinned 0 [.val (.ref g), .val (.int (iI p)), .unset] [] T M F = _
  have hc := hP.1
  have key : ∀ (m : Nat) (i : Int), i = M g 12 - (m : Int) → 0 ≤ i → (∀ j, 0 ≤ j → j < i → M (g + 6) j ≠ p) → R e m_X1_isPinned 2 [.val (.ref g), .val (.int (iI p)), .val (.int (iI i))] [] T M F = some (.inl (some (.int (iI (bI (∃ j, 0 ≤ j ∧ j < M g 12 ∧ M (g + 6) j = p))))), T, M, F) := by
    intro m
    induction m with
    | zero =>
      intro i hi h0 hno
      have hi' : i = M g 12 := by omega
      rw [x_X1_isPinned_2]
      simp (disch := omega) only [x_X1_isPinned_3, x_X1_isPinned_4, x_X1_isPinned_7, x_X1_isPinned_10, x_X1_isPinned_11, x_X1_isPinned_12, x_X1_isPinned_15, x_X1_isPinned_16, x_X1_isPinned_19, x_X1_isPinned_20, x_X1_isPinned_23, x_X1_isPinned_24, x_X1_isPinned_25, x_X1_isPinned_26, x_X1_isPinned_29, x_X1_isPinned_30, x_X1_isPinned_31, x_X1_isPinned_34, x_X1_isPinned_37, x_X1_isPinned_38, List.length_cons, List.length_nil, Nat.reduceLeDiff, Nat.zero_add, iI_add, iI_sub, iI_mul, iI_neg, iI_lt, iI_le, iI_eq, jI_iI, B_True, B_False, B_t, B_f, ck_True, gd_True, cb_v, cb_n, p_mv_rw, p_fv_rw, p_rv_some, pA_1, pA_90, pA_92, pA_3, pA_5, pA_93, pA_4, pA_91, pA_6, pS_i, pB_i, pW_i, pZ_0, pZ_1, pZ_b, bI_e0, u1_s, u1_n, uA_s, uA_n, true_and, and_true, not_true_eq_false, not_false_eq_true, eq_self, iI_z, al1, al5, al3, al4, al90, al91, al92, al93, al6, Int.cast_ofNat_Int, Nat.reduceAdd, Int.reduceNeg, Int.reduceAdd, Int.reduceSub, Int.reduceMul, Int.reduceLT, Int.reduceLE, Int.reduceGT, Int.reduceGE, Int.reduceEq, Int.reduceNe, Nat.reduceEqDiff, Int.zero_add, Int.add_zero, p_ty0, p_ty1, p_ty2, p_ty3, p_ty4, p_ty5, p_ty8, p_ty9, p_ty10, t0, B_t, B_f]
      exact rb0 (fun ⟨j, j0, j1, j2⟩ => hno j j0 (by omega) j2)
    | succ m ih =>
      intro i hi h0 hno
      have hr := hP.rg hk (by omega) ht hb h0 (by omega)
      rw [x_X1_isPinned_2]
      by_cases e1 : M (g + 6) i = p
      · simp (disch := omega) only [x_X1_isPinned_3, x_X1_isPinned_4, x_X1_isPinned_7, x_X1_isPinned_10, x_X1_isPinned_11, x_X1_isPinned_12, x_X1_isPinned_15, x_X1_isPinned_16, x_X1_isPinned_19, x_X1_isPinned_20, x_X1_isPinned_23, x_X1_isPinned_24, x_X1_isPinned_25, x_X1_isPinned_26, x_X1_isPinned_29, x_X1_isPinned_30, x_X1_isPinned_31, x_X1_isPinned_34, x_X1_isPinned_37, x_X1_isPinned_38, List.length_cons, List.length_nil, Nat.reduceLeDiff, Nat.zero_add, iI_add, iI_sub, iI_mul, iI_neg, iI_lt, iI_le, iI_eq, jI_iI, B_True, B_False, B_t, B_f, ck_True, gd_True, cb_v, cb_n, p_mv_rw, p_fv_rw, p_rv_some, pA_1, pA_90, pA_92, pA_3, pA_5, pA_93, pA_4, pA_91, pA_6, pS_i, pB_i, pW_i, pZ_0, pZ_1, pZ_b, bI_e0, u1_s, u1_n, uA_s, uA_n, true_and, and_true, not_true_eq_false, not_false_eq_true, eq_self, iI_z, al1, al5, al3, al4, al90, al91, al92, al93, al6, Int.cast_ofNat_Int, Nat.reduceAdd, Int.reduceNeg, Int.reduceAdd, Int.reduceSub, Int.reduceMul, Int.reduceLT, Int.reduceLE, Int.reduceGT, Int.reduceGE, Int.reduceEq, Int.reduceNe, Nat.reduceEqDiff, Int.zero_add, Int.add_zero, p_ty0, p_ty1, p_ty2, p_ty3, p_ty4, p_ty5, p_ty8, p_ty9, p_ty10, t0, t6, f11, B_t, B_f]
        exact rb1 ⟨i, h0, by omega, e1⟩
      · simp (disch := omega) only [x_X1_isPinned_3, x_X1_isPinned_4, x_X1_isPinned_7, x_X1_isPinned_10, x_X1_isPinned_11, x_X1_isPinned_12, x_X1_isPinned_15, x_X1_isPinned_16, x_X1_isPinned_19, x_X1_isPinned_20, x_X1_isPinned_23, x_X1_isPinned_24, x_X1_isPinned_25, x_X1_isPinned_26, x_X1_isPinned_29, x_X1_isPinned_30, x_X1_isPinned_31, x_X1_isPinned_34, x_X1_isPinned_37, x_X1_isPinned_38, List.length_cons, List.length_nil, Nat.reduceLeDiff, Nat.zero_add, iI_add, iI_sub, iI_mul, iI_neg, iI_lt, iI_le, iI_eq, jI_iI, B_True, B_False, B_t, B_f, ck_True, gd_True, cb_v, cb_n, p_mv_rw, p_fv_rw, p_rv_some, pA_1, pA_90, pA_92, pA_3, pA_5, pA_93, pA_4, pA_91, pA_6, pS_i, pB_i, pW_i, pZ_0, pZ_1, pZ_b, bI_e0, u1_s, u1_n, uA_s, uA_n, true_and, and_true, not_true_eq_false, not_false_eq_true, eq_self, iI_z, al1, al5, al3, al4, al90, al91, al92, al93, al6, Int.cast_ofNat_Int, Nat.reduceAdd, Int.reduceNeg, Int.reduceAdd, Int.reduceSub, Int.reduceMul, Int.reduceLT, Int.reduceLE, Int.reduceGT, Int.reduceGE, Int.reduceEq, Int.reduceNe, Nat.reduceEqDiff, Int.zero_add, Int.add_zero, p_ty0, p_ty1, p_ty2, p_ty3, p_ty4, p_ty5, p_ty8, p_ty9, p_ty10, t0, t6, f11, B_t, B_f]
        exact ih (i + 1) (by omega) (by omega) (fun j j0 j1 => by
          by_cases e2 : j = i
          · rw [e2]; exact e1
          · exact hno j j0 (by omega))
  simp (disch := omega) only [x_X1_isPinned_0, x_X1_isPinned_1, List.length_cons, List.length_nil, Nat.reduceLeDiff, Nat.zero_add, iI_add, iI_sub, iI_mul, iI_neg, iI_lt, iI_le, iI_eq, jI_iI, B_True, B_False, B_t, B_f, ck_True, gd_True, cb_v, cb_n, p_mv_rw, p_fv_rw, p_rv_some, pA_1, pA_90, pA_92, pA_3, pA_5, pA_93, pA_4, pA_91, pA_6, pS_i, pB_i, pW_i, pZ_0, pZ_1, pZ_b, bI_e0, u1_s, u1_n, uA_s, uA_n, true_and, and_true, not_true_eq_false, not_false_eq_true, eq_self, iI_z, al1, al5, al3, al4, al90, al91, al92, al93, al6, Int.cast_ofNat_Int, Nat.reduceAdd, Int.reduceNeg, Int.reduceAdd, Int.reduceSub, Int.reduceMul, Int.reduceLT, Int.reduceLE, Int.reduceGT, Int.reduceGE, Int.reduceEq, Int.reduceNe, Nat.reduceEqDiff, Int.zero_add, Int.add_zero, p_ty0, p_ty1, p_ty2, p_ty3, p_ty4, p_ty5, p_ty8, p_ty9, p_ty10]
  exact key (M g 12).toNat 0 (by omega) (by omega) (fun j j0 j1 => by omega)
theorem RB.UK (h : RB M b bb) : UK bb := fun s hs k c k0 k1 c0 c1 e1 e2 => h.uniq hs ⟨k0, k1⟩ ⟨c0, c1⟩ e1 e2
theorem mk_king (hb : MB bb) (ht : t = 0 ∨ t = 1) (hp : PS bb t pas) (hV : MV bb t pas its to) (hk : m_king bb t ≠ -1) (has : 2 ≤ as ∧ as ≤ 5) : m_king (mk_bb bb pas its to as) t ≠ -1 := by
  obtain ⟨kr1, kr2, kr3⟩ := (m_king_rg bb t).resolve_left hk
  obtain ⟨z1, z2, z3⟩ := mk_pl_rg hb ht hp hV
  have hV' := hV
  obtain ⟨w1, w2, w3, w4, w5⟩ := hV
  have hto : to ≠ m_king bb t := by
    intro z
    apply w5
    rw [z, kr3]
    unfold m_side
    rw [if_neg (by omega)]
    omega
  intro hno
  by_cases e : its = m_king bb t
  · refine m_kg_no 91 0 hno (by omega) to w2.1 (by omega) ?_
    unfold mk_bb u1 mk_th
    rw [if_pos rfl, if_neg (by rw [e, kr3]; intro z; omega), e, kr3]
  · refine m_kg_no 91 0 hno (by omega) (m_king bb t) kr1 (by omega) ?_
    have hpl : m_king bb t ≠ mk_pl bb pas its to := by
      intro z
      by_cases e2 : mk_pl bb pas its to = to
      · exact hto (by rw [z, e2])
      · have := (z3 e2).2
        rw [← z, kr3] at this
        omega
    unfold mk_bb u1
    rw [if_neg (fun z => hto z.symm), if_neg (fun z => e z.symm), if_neg hpl, kr3]
theorem PIN_iff (hP : PN M g bb t kc 12) (hk : 0 ≤ kc ∧ kc < 91) (h1 : 0 ≤ its ∧ its < 91) (h3 : m_side (bb its) = t) (ht : t = 0 ∨ t = 1) : (∃ j, 0 ≤ j ∧ j < M g 12 ∧ M (g + 6) j = q_pl its) ↔ PIN bb t kc its := by
  rw [hP.2 (q_pl its)]
  constructor
  · rintro ⟨i, i0, i1, i2, i3⟩
    have hcr := rayC_rg (b := bb) ⟨i0, by omega⟩ 16 (gn kc i) (gn_rg hk (by omega))
    have y1 : rayC bb i 16 (gn kc i) ≠ -1 := by
      intro z
      have y2 := i2.1
      rw [z] at y2
      unfold m_on m_side at y2
      simp at y2
      omega
    have := q_inj h1 (by omega) i3
    refine ⟨i, i0, i1, this.symm, ?_⟩
    have := i2.2
    rwa [← q_inj h1 (by omega) i3] at this
  · rintro ⟨i, i0, i1, i2, i3⟩
    refine ⟨i, i0, i1, ⟨?_, ?_⟩, by rw [i2]⟩
    · rw [i2]; unfold m_on; rw [if_neg (by omega)]; exact h3
    · rw [i2]; exact i3
theorem safe_try (hG : GT T F g) (hS : GS M g bb t pas q) (hq : q ≤ 190) (hV : MV bb t pas its to) (hk : m_king bb t ≠ -1) {e : Nat} (he : 2 ≤ e) {l3 l4 l5 : Slot} :
    R e m_X1_isSafe 40 [.val (.ref g), .val (.int (iI (q_pl its))), .val (.int (iI (q_pl to))), l3, l4, l5] [] T M F = some (.inl (some (.int (iI (bI (¬ m_chk (mk_bb bb pas its to 2) t))))), T, M, F) := by
  obtain ⟨M1, e1, S1, n1, n2, n3, n4⟩ := c_play hG hS hq hV (as := 2) (by omega)
  have eu := c_undo (d := e) hG hS hV (by omega) S1 n1 n2 n3 n4 he
  have hb := hS.1.2.2.1
  have ht := hS.2.2.2.2.1
  have hkn := mk_king (as := 2) hb ht hS.PS hV hk (by omega)
  have hR1 := S1.1
  have r1 := S1.2.1
  have hGT := hG
  obtain ⟨hg, t0, f0, hB, -⟩ := hG
  have hb0 := hB.2.1
  have hs1 : 1 - t = 0 ∨ 1 - t = 1 := by omega
  have e11 : 1 - (1 - t) = t := by omega
  have hkr := (m_king_rg (mk_bb bb pas its to 2) t).resolve_left hkn
  have hpp : q_pp (m_king (mk_bb bb pas its to 2) t) = q_pl (m_king (mk_bb bb pas its to 2) t) := if_neg hkn
  have ha := m_att_rg (mk_bb bb pas its to 2) (m_king (mk_bb bb pas its to 2) t) (1 - t)
  clear n1 n2 n3 n4 hS hV S1
  by_cases hc : m_chk (mk_bb bb pas its to 2) t
  · rw [bI_f (fun z => z hc)]
    unfold m_chk at hc
    simp (disch := omega) only [x_X1_isSafe_40, x_X1_isSafe_41, x_X1_isSafe_42, x_X1_isSafe_43, x_X1_isSafe_44, x_X1_isSafe_47, x_X1_isSafe_48, x_X1_isSafe_49, x_X1_isSafe_52, x_X1_isSafe_53, x_X1_isSafe_56, x_X1_isSafe_57, x_X1_isSafe_58, x_X1_isSafe_61, x_X1_isSafe_62, x_X1_isSafe_65, x_X1_isSafe_66, x_X1_isSafe_69, x_X1_isSafe_72, x_X1_isSafe_75, x_X1_isSafe_76, x_X1_isSafe_79, x_X1_isSafe_80, x_X1_isSafe_82, x_X1_isSafe_83, x_X1_isSafe_84, x_X1_isSafe_87, x_X1_isSafe_89, List.length_cons, List.length_nil, Nat.reduceLeDiff, Nat.zero_add, iI_add, iI_sub, iI_mul, iI_neg, iI_lt, iI_le, iI_eq, jI_iI, B_True, B_False, B_t, B_f, ck_True, gd_True, cb_v, cb_n, p_mv_rw, p_fv_rw, p_rv_some, pA_1, pA_90, pA_92, pA_3, pA_5, pA_93, pA_4, pA_91, pA_6, pS_i, pB_i, pW_i, pZ_0, pZ_1, pZ_b, bI_e0, u1_s, u1_n, uA_s, uA_n, true_and, and_true, not_true_eq_false, not_false_eq_true, eq_self, iI_z, al1, al5, al3, al4, al90, al91, al92, al93, al6, Int.cast_ofNat_Int, Nat.reduceAdd, Int.reduceNeg, Int.reduceAdd, Int.reduceSub, Int.reduceMul, Int.reduceLT, Int.reduceLE, Int.reduceGT, Int.reduceGE, Int.reduceEq, Int.reduceNe, Nat.reduceEqDiff, Int.zero_add, Int.add_zero, p_ty0, p_ty1, p_ty2, p_ty3, p_ty4, p_ty5, p_ty8, p_ty9, p_ty10, t0, f0, hb0, e1, eu, r1, e11, c_kingR hB hR1, hpp, c_attR hB hR1, B_t, B_f, gd_t]
  · rw [bI_t hc]
    unfold m_chk at hc
    simp (disch := omega) only [x_X1_isSafe_40, x_X1_isSafe_41, x_X1_isSafe_42, x_X1_isSafe_43, x_X1_isSafe_44, x_X1_isSafe_47, x_X1_isSafe_48, x_X1_isSafe_49, x_X1_isSafe_52, x_X1_isSafe_53, x_X1_isSafe_56, x_X1_isSafe_57, x_X1_isSafe_58, x_X1_isSafe_61, x_X1_isSafe_62, x_X1_isSafe_65, x_X1_isSafe_66, x_X1_isSafe_69, x_X1_isSafe_72, x_X1_isSafe_75, x_X1_isSafe_76, x_X1_isSafe_79, x_X1_isSafe_80, x_X1_isSafe_82, x_X1_isSafe_83, x_X1_isSafe_84, x_X1_isSafe_87, x_X1_isSafe_89, List.length_cons, List.length_nil, Nat.reduceLeDiff, Nat.zero_add, iI_add, iI_sub, iI_mul, iI_neg, iI_lt, iI_le, iI_eq, jI_iI, B_True, B_False, B_t, B_f, ck_True, gd_True, cb_v, cb_n, p_mv_rw, p_fv_rw, p_rv_some, pA_1, pA_90, pA_92, pA_3, pA_5, pA_93, pA_4, pA_91, pA_6, pS_i, pB_i, pW_i, pZ_0, pZ_1, pZ_b, bI_e0, u1_s, u1_n, uA_s, uA_n, true_and, and_true, not_true_eq_false, not_false_eq_true, eq_self, iI_z, al1, al5, al3, al4, al90, al91, al92, al93, al6, Int.cast_ofNat_Int, Nat.reduceAdd, Int.reduceNeg, Int.reduceAdd, Int.reduceSub, Int.reduceMul, Int.reduceLT, Int.reduceLE, Int.reduceGT, Int.reduceGE, Int.reduceEq, Int.reduceNe, Nat.reduceEqDiff, Int.zero_add, Int.add_zero, p_ty0, p_ty1, p_ty2, p_ty3, p_ty4, p_ty5, p_ty8, p_ty9, p_ty10, t0, f0, hb0, e1, eu, r1, e11, c_kingR hB hR1, hpp, c_attR hB hR1, B_t, B_f, gd_t]
theorem c_isSafe (hG : GT T F g) (hS : GS M g bb t pas q) (hq : q ≤ 190) (hk : m_king bb t ≠ -1) (h13 : M g 13 = bI (m_chk bb t)) (hP : PN M g bb t (m_king bb t) 12) (hV : MV bb t pas its to) (hd : 3 ≤ d) :
    callD d m_X1_isSafe [.ref g, .int (iI (q_pl its)), .int (iI (q_pl to))] T M F = some (.inl (some (.int (iI (bI (¬ m_chk (mk_bb bb pas its to 2) t))))), T, M, F) := by
  refine callD_go 2 hd rfl (fun e he => ?_)
  show R e m_X1_isSafe 0 [.val (.ref g), .val (.int (iI (q_pl its))), .val (.int (iI (q_pl to))), .unset, .unset, .unset] [] T M F = _
  have htry := safe_try hG hS hq hV hk he (l3 := .unset) (l4 := .unset) (l5 := .unset)
  have hS' := hS
  obtain ⟨hR, s1, s2, s3, ht, s5, hp⟩ := hS
  have hb := hR.2.2.1
  have hkr := (m_king_rg bb t).resolve_left hk
  have hkc : 0 ≤ m_king bb t ∧ m_king bb t < 91 := ⟨hkr.1, hkr.2.1⟩
  have hpp : q_pp (m_king bb t) = q_pl (m_king bb t) := if_neg hk
  have q1 := q_pl_nn hV.1
  have q2 := q_pl_nn hV.2.1
  have q3 := q_pl_nn hkc
  have q4 := q_pp_rg (PS_rg hp)
  have hpin := PIN_iff hP hkc hV.1 hV.2.2.1 ht
  have hpn := c_isPinned (d := e) (T := T) (M := M) (F := F) (p := q_pl its) hG hP hkc ht hb (by omega) (by omega)
  have hi1 : q_pl its = q_pl (m_king bb t) ↔ its = m_king bb t := ⟨fun z => q_inj hV.1 hkc z, fun z => by rw [z]⟩
  have hi2 : q_pl to = q_pp pas ↔ to = pas := (pl_facts hR ht hp hV).1
  have hsp := safe_plain hb hR.UK ht hV hk
  obtain ⟨hg, t0, f0, hB, -⟩ := hG
  have hb0 := hB.2.1
  by_cases hch : m_chk bb t
  · rw [bI_t hch] at h13
    clear hS' hsp hpin hP hp
    simp (disch := omega) only [x_X1_isSafe_0, x_X1_isSafe_1, x_X1_isSafe_4, x_X1_isSafe_7, x_X1_isSafe_8, x_X1_isSafe_9, x_X1_isSafe_12, x_X1_isSafe_13, x_X1_isSafe_16, x_X1_isSafe_19, x_X1_isSafe_22, x_X1_isSafe_23, x_X1_isSafe_24, x_X1_isSafe_27, x_X1_isSafe_30, x_X1_isSafe_31, x_X1_isSafe_32, x_X1_isSafe_35, x_X1_isSafe_38, x_X1_isSafe_39, List.length_cons, List.length_nil, Nat.reduceLeDiff, Nat.zero_add, iI_add, iI_sub, iI_mul, iI_neg, iI_lt, iI_le, iI_eq, jI_iI, B_True, B_False, B_t, B_f, ck_True, gd_True, cb_v, cb_n, p_mv_rw, p_fv_rw, p_rv_some, pA_1, pA_90, pA_92, pA_3, pA_5, pA_93, pA_4, pA_91, pA_6, pS_i, pB_i, pW_i, pZ_0, pZ_1, pZ_b, bI_e0, u1_s, u1_n, uA_s, uA_n, true_and, and_true, not_true_eq_false, not_false_eq_true, eq_self, iI_z, al1, al5, al3, al4, al90, al91, al92, al93, al6, Int.cast_ofNat_Int, Nat.reduceAdd, Int.reduceNeg, Int.reduceAdd, Int.reduceSub, Int.reduceMul, Int.reduceLT, Int.reduceLE, Int.reduceGT, Int.reduceGE, Int.reduceEq, Int.reduceNe, Nat.reduceEqDiff, Int.zero_add, Int.add_zero, p_ty0, p_ty1, p_ty2, p_ty3, p_ty4, p_ty5, p_ty8, p_ty9, p_ty10, t0, f0, h13, B_t, B_f]
    exact htry
  · rw [bI_f hch] at h13
    by_cases c1 : q_pl its = q_pl (m_king bb t)
    · clear hS' hsp hpin hP hp
      simp (disch := omega) only [x_X1_isSafe_0, x_X1_isSafe_1, x_X1_isSafe_4, x_X1_isSafe_7, x_X1_isSafe_8, x_X1_isSafe_9, x_X1_isSafe_12, x_X1_isSafe_13, x_X1_isSafe_16, x_X1_isSafe_19, x_X1_isSafe_22, x_X1_isSafe_23, x_X1_isSafe_24, x_X1_isSafe_27, x_X1_isSafe_30, x_X1_isSafe_31, x_X1_isSafe_32, x_X1_isSafe_35, x_X1_isSafe_38, x_X1_isSafe_39, List.length_cons, List.length_nil, Nat.reduceLeDiff, Nat.zero_add, iI_add, iI_sub, iI_mul, iI_neg, iI_lt, iI_le, iI_eq, jI_iI, B_True, B_False, B_t, B_f, ck_True, gd_True, cb_v, cb_n, p_mv_rw, p_fv_rw, p_rv_some, pA_1, pA_90, pA_92, pA_3, pA_5, pA_93, pA_4, pA_91, pA_6, pS_i, pB_i, pW_i, pZ_0, pZ_1, pZ_b, bI_e0, u1_s, u1_n, uA_s, uA_n, true_and, and_true, not_true_eq_false, not_false_eq_true, eq_self, iI_z, al1, al5, al3, al4, al90, al91, al92, al93, al6, Int.cast_ofNat_Int, Nat.reduceAdd, Int.reduceNeg, Int.reduceAdd, Int.reduceSub, Int.reduceMul, Int.reduceLT, Int.reduceLE, Int.reduceGT, Int.reduceGE, Int.reduceEq, Int.reduceNe, Nat.reduceEqDiff, Int.zero_add, Int.add_zero, p_ty0, p_ty1, p_ty2, p_ty3, p_ty4, p_ty5, p_ty8, p_ty9, p_ty10, t0, f0, hb0, h13, s1, c_kingR hB hR, hpp, B_t, B_f, gd_t]
      exact htry
    · by_cases c2 : q_pl to = q_pp pas
      · clear hS' hsp hpin hP hp
        simp (disch := omega) only [x_X1_isSafe_0, x_X1_isSafe_1, x_X1_isSafe_4, x_X1_isSafe_7, x_X1_isSafe_8, x_X1_isSafe_9, x_X1_isSafe_12, x_X1_isSafe_13, x_X1_isSafe_16, x_X1_isSafe_19, x_X1_isSafe_22, x_X1_isSafe_23, x_X1_isSafe_24, x_X1_isSafe_27, x_X1_isSafe_30, x_X1_isSafe_31, x_X1_isSafe_32, x_X1_isSafe_35, x_X1_isSafe_38, x_X1_isSafe_39, List.length_cons, List.length_nil, Nat.reduceLeDiff, Nat.zero_add, iI_add, iI_sub, iI_mul, iI_neg, iI_lt, iI_le, iI_eq, jI_iI, B_True, B_False, B_t, B_f, ck_True, gd_True, cb_v, cb_n, p_mv_rw, p_fv_rw, p_rv_some, pA_1, pA_90, pA_92, pA_3, pA_5, pA_93, pA_4, pA_91, pA_6, pS_i, pB_i, pW_i, pZ_0, pZ_1, pZ_b, bI_e0, u1_s, u1_n, uA_s, uA_n, true_and, and_true, not_true_eq_false, not_false_eq_true, eq_self, iI_z, al1, al5, al3, al4, al90, al91, al92, al93, al6, Int.cast_ofNat_Int, Nat.reduceAdd, Int.reduceNeg, Int.reduceAdd, Int.reduceSub, Int.reduceMul, Int.reduceLT, Int.reduceLE, Int.reduceGT, Int.reduceGE, Int.reduceEq, Int.reduceNe, Nat.reduceEqDiff, Int.zero_add, Int.add_zero, p_ty0, p_ty1, p_ty2, p_ty3, p_ty4, p_ty5, p_ty8, p_ty9, p_ty10, t0, f0, hb0, h13, s1, s3, c_kingR hB hR, hpp, B_t, B_f, gd_t]
        exact htry
      · by_cases c3 : PIN bb t (m_king bb t) its
        · rw [bI_t (hpin.mpr c3)] at hpn
          clear hS' hsp hpin hP hp
          simp (disch := omega) only [x_X1_isSafe_0, x_X1_isSafe_1, x_X1_isSafe_4, x_X1_isSafe_7, x_X1_isSafe_8, x_X1_isSafe_9, x_X1_isSafe_12, x_X1_isSafe_13, x_X1_isSafe_16, x_X1_isSafe_19, x_X1_isSafe_22, x_X1_isSafe_23, x_X1_isSafe_24, x_X1_isSafe_27, x_X1_isSafe_30, x_X1_isSafe_31, x_X1_isSafe_32, x_X1_isSafe_35, x_X1_isSafe_38, x_X1_isSafe_39, List.length_cons, List.length_nil, Nat.reduceLeDiff, Nat.zero_add, iI_add, iI_sub, iI_mul, iI_neg, iI_lt, iI_le, iI_eq, jI_iI, B_True, B_False, B_t, B_f, ck_True, gd_True, cb_v, cb_n, p_mv_rw, p_fv_rw, p_rv_some, pA_1, pA_90, pA_92, pA_3, pA_5, pA_93, pA_4, pA_91, pA_6, pS_i, pB_i, pW_i, pZ_0, pZ_1, pZ_b, bI_e0, u1_s, u1_n, uA_s, uA_n, true_and, and_true, not_true_eq_false, not_false_eq_true, eq_self, iI_z, al1, al5, al3, al4, al90, al91, al92, al93, al6, Int.cast_ofNat_Int, Nat.reduceAdd, Int.reduceNeg, Int.reduceAdd, Int.reduceSub, Int.reduceMul, Int.reduceLT, Int.reduceLE, Int.reduceGT, Int.reduceGE, Int.reduceEq, Int.reduceNe, Nat.reduceEqDiff, Int.zero_add, Int.add_zero, p_ty0, p_ty1, p_ty2, p_ty3, p_ty4, p_ty5, p_ty8, p_ty9, p_ty10, t0, f0, hb0, h13, s1, s3, c_kingR hB hR, hpp, hpn, B_t, B_f, gd_t]
          exact htry
        · rw [bI_f (fun z => c3 (hpin.mp z))] at hpn
          rw [bI_t (hsp hch (fun z => c1 (hi1.mpr z)) (fun z => c2 (hi2.mpr z)) c3).2]
          clear hS' hsp hpin hP hp
          simp (disch := omega) only [x_X1_isSafe_0, x_X1_isSafe_1, x_X1_isSafe_4, x_X1_isSafe_7, x_X1_isSafe_8, x_X1_isSafe_9, x_X1_isSafe_12, x_X1_isSafe_13, x_X1_isSafe_16, x_X1_isSafe_19, x_X1_isSafe_22, x_X1_isSafe_23, x_X1_isSafe_24, x_X1_isSafe_27, x_X1_isSafe_30, x_X1_isSafe_31, x_X1_isSafe_32, x_X1_isSafe_35, x_X1_isSafe_38, x_X1_isSafe_39, List.length_cons, List.length_nil, Nat.reduceLeDiff, Nat.zero_add, iI_add, iI_sub, iI_mul, iI_neg, iI_lt, iI_le, iI_eq, jI_iI, B_True, B_False, B_t, B_f, ck_True, gd_True, cb_v, cb_n, p_mv_rw, p_fv_rw, p_rv_some, pA_1, pA_90, pA_92, pA_3, pA_5, pA_93, pA_4, pA_91, pA_6, pS_i, pB_i, pW_i, pZ_0, pZ_1, pZ_b, bI_e0, u1_s, u1_n, uA_s, uA_n, true_and, and_true, not_true_eq_false, not_false_eq_true, eq_self, iI_z, al1, al5, al3, al4, al90, al91, al92, al93, al6, Int.cast_ofNat_Int, Nat.reduceAdd, Int.reduceNeg, Int.reduceAdd, Int.reduceSub, Int.reduceMul, Int.reduceLT, Int.reduceLE, Int.reduceGT, Int.reduceGE, Int.reduceEq, Int.reduceNe, Nat.reduceEqDiff, Int.zero_add, Int.add_zero, p_ty0, p_ty1, p_ty2, p_ty3, p_ty4, p_ty5, p_ty8, p_ty9, p_ty10, t0, f0, hb0, h13, s1, s3, c_kingR hB hR, hpp, hpn, B_t, B_f, gd_t]
end PSAFE
