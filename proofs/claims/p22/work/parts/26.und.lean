section PUND
variable {d : Nat} {T : pT} {M M1 : pM} {F : pF} {b g : Nat} {bb : Int → Int} {k s t pas q its to as c x n : Int}
theorem pk_facts (hb : MB bb) (ht : t = 0 ∨ t = 1) (hp : PS bb t pas) (hq : 0 ≤ q ∧ q ≤ 255) (hV : MV bb t pas its to) :
    (0 ≤ q_pk bb pas q its to ∧ q_pk bb pas q its to < 9000000000000000000) ∧ q_pk bb pas q its to % 512 = q_pl its ∧ q_pk bb pas q its to / 512 % 512 = q_pl to ∧ q_pk bb pas q its to / 262144 % 512 = q_pl (mk_pl bb pas its to) ∧ q_pk bb pas q its to / 134217728 % 16 = cv (bb its) ∧ q_pk bb pas q its to / 2147483648 % 16 = cv (bb (mk_pl bb pas its to)) ∧ q_pk bb pas q its to / 34359738368 % 256 = q ∧ q_pk bb pas q its to / 8796093022208 % 512 = q_pp pas + 1 := by
  obtain ⟨z1, -, -⟩ := mk_pl_rg hb ht hp hV
  have q1 := q_pl_nn hV.1
  have q2 := q_pl_nn hV.2.1
  have q3 := q_pl_nn z1
  have q4 := q_pp_rg (PS_rg hp)
  have c1 := (cv_facts hb its).1
  have c2 := (cv_facts hb (mk_pl bb pas its to)).1
  unfold q_pk
  clear hV hp hb z1
  generalize q_pl its = A at *
  generalize q_pl to = B at *
  generalize q_pl (mk_pl bb pas its to) = C at *
  generalize q_pp pas = D at *
  generalize cv (bb its) = E at *
  generalize cv (bb (mk_pl bb pas its to)) = G at *
  omega
theorem c_taken (h : 0 ≤ n ∧ n < 9000000000000000000) (hd : 1 ≤ d) : callD d m_X1_valueTaken [.long (iL n)] T M F = some (.inl (some (.int (iI (n / 2147483648 % 16)))), T, M, F) := by
  refine callD_go 0 hd rfl (fun e he => ?_)
  show R e m_X1_valueTaken 0 [.val (.long (iL n)), .second] [] T M F = _
  simp (disch := omega) only [x_X1_valueTaken_0, x_X1_valueTaken_1, x_X1_valueTaken_3, x_X1_valueTaken_4, x_X1_valueTaken_7, x_X1_valueTaken_8, x_X1_valueTaken_9, List.length_cons, List.length_nil, Nat.reduceLeDiff, Nat.zero_add, iI_add, iI_sub, iI_mul, iI_neg, iI_lt, iI_le, iI_eq, jI_iI, B_True, B_False, B_t, B_f, ck_True, gd_True, cb_v, cb_n, p_mv_rw, p_fv_rw, p_rv_some, pA_1, pA_90, pA_92, pA_3, pA_5, pA_93, pA_4, pA_91, pA_6, pS_i, pB_i, pW_i, pZ_0, pZ_1, pZ_b, bI_e0, u1_s, u1_n, uA_s, uA_n, true_and, and_true, not_true_eq_false, not_false_eq_true, eq_self, iI_z, al1, al5, al3, al4, al90, al91, al92, al93, al6, Int.cast_ofNat_Int, Nat.reduceAdd, Int.reduceNeg, Int.reduceAdd, Int.reduceSub, Int.reduceMul, Int.reduceLT, Int.reduceLE, Int.reduceGT, Int.reduceGE, Int.reduceEq, Int.reduceNe, Nat.reduceEqDiff, Int.zero_add, Int.add_zero, p_ty0, p_ty1, p_ty2, p_ty3, p_ty4, p_ty5, p_ty8, p_ty9, p_ty10, i2lN, l_shr31, l_and15, l2iN]
/-- the three cells set back -/
theorem c_back3 (hB : BT T F b) (hR0 : RB M b bb) (hR : RB M1 b (mk_bb bb pas its to as)) (ht : t = 0 ∨ t = 1) (hp : PS bb t pas) (h : MV bb t pas its to) (has : 2 ≤ as ∧ as ≤ 5)
    (hv : M1 (b + 1) = u1 (u1 (u1 (M (b + 1)) (q_pl (mk_pl bb pas its to)) 0) (q_pl its) 0) (q_pl to) (cv (mk_th bb its to as))) (hj : ∀ j, j ≠ 1 → j ≠ 2 → M1 b j = M b j) :
    ∃ M2 M3 M4, (∀ d, 1 ≤ d → callD d m_X0_set [.ref b, .int (iI (q_pl to)), .int (iI 0)] T M1 F = some (.inl none, T, M2, F)) ∧
      (∀ d, 1 ≤ d → callD d m_X0_set [.ref b, .int (iI (q_pl (mk_pl bb pas its to))), .int (iI (cv (bb (mk_pl bb pas its to))))] T M2 F = some (.inl none, T, M3, F)) ∧
      (∀ d, 1 ≤ d → callD d m_X0_set [.ref b, .int (iI (q_pl its)), .int (iI (cv (bb its)))] T M3 F = some (.inl none, T, M4, F)) ∧
      (∀ a, a ≠ b → a ≠ b + 1 → M2 a = M1 a ∧ M3 a = M1 a ∧ M4 a = M1 a) ∧ M4 (b + 1) = M (b + 1) ∧ M4 b = M b := by
  have hb := hR0.2.2.1
  obtain ⟨z1, z2, z3⟩ := mk_pl_rg hb ht hp h
  obtain ⟨h1, h2, h3, h4, h5⟩ := h
  have hne : to ≠ its := by intro z; rw [z] at h5; exact h5 h3
  obtain ⟨M2, e2, R2, F2, V2, B2⟩ := c_setX (T := T) (F := F) (x := 0) hB hR h2 (Or.inl rfl) (fun s hs hx => by omega)
  have val2 : ∀ k, u1 (mk_bb bb pas its to as) to 0 k = 0 ∨ (u1 (mk_bb bb pas its to as) to 0 k = bb k ∧ k ≠ its) := by
    intro k
    unfold mk_bb u1
    by_cases e1 : k = to
    · rw [if_pos e1]; exact Or.inl rfl
    · rw [if_neg e1, if_neg e1]
      by_cases e2 : k = its
      · rw [if_pos e2]; exact Or.inl rfl
      · rw [if_neg e2]
        split
        · exact Or.inl rfl
        · exact Or.inr ⟨rfl, e2⟩
  obtain ⟨M3, e3, R3, F3, V3, B3⟩ := c_setX (T := T) (F := F) (x := bb (mk_pl bb pas its to)) hB R2 z1 (hb _) (fun s hs hx k h0 h9 hk hbk => by
    rcases val2 k with v | ⟨v, -⟩
    · omega
    · rw [v] at hbk
      have := hR0.uniq hs ⟨h0, h9⟩ z1 hbk hx
      contradiction)
  obtain ⟨M4, e4, R4, F4, V4, B4⟩ := c_setX (T := T) (F := F) (x := bb its) hB R3 h1 (hb _) (fun s hs hx k h0 h9 hk hbk => by
    have hv9 : u1 (u1 (mk_bb bb pas its to as) to 0) (mk_pl bb pas its to) (bb (mk_pl bb pas its to)) k = 0 ∨ u1 (u1 (mk_bb bb pas its to as) to 0) (mk_pl bb pas its to) (bb (mk_pl bb pas its to)) k = bb k := by
      by_cases e : k = mk_pl bb pas its to
      · right; rw [e]; exact if_pos rfl
      · rw [show u1 (u1 (mk_bb bb pas its to as) to 0) (mk_pl bb pas its to) (bb (mk_pl bb pas its to)) k = u1 (mk_bb bb pas its to as) to 0 k from if_neg e]
        rcases val2 k with v | ⟨v, -⟩
        · exact Or.inl v
        · exact Or.inr v
    rcases hv9 with v | v
    · omega
    · rw [v] at hbk
      have := hR0.uniq hs ⟨h0, h9⟩ h1 hbk hx
      contradiction)
  have hbb : u1 (u1 (u1 (mk_bb bb pas its to as) to 0) (mk_pl bb pas its to) (bb (mk_pl bb pas its to))) its (bb its) = bb := by
    funext k
    unfold mk_bb u1
    by_cases e1 : k = its
    · rw [if_pos e1, e1]
    · rw [if_neg e1]
      by_cases e2 : k = mk_pl bb pas its to
      · rw [if_pos e2, ← e2]
      · rw [if_neg e2]
        by_cases e3 : k = to
        · rw [if_pos e3, e3]
          exact ((z3 (fun z => e2 (by rw [e3, z]))).1).symm
        · rw [if_neg e3, if_neg e3, if_neg e1, if_neg e2]
  rw [hbb] at R4
  refine ⟨M2, M3, M4, e2, e3, e4, fun a a1 a2 => ⟨F2 a a1 a2, (F3 a a1 a2).trans (F2 a a1 a2), (F4 a a1 a2).trans ((F3 a a1 a2).trans (F2 a a1 a2))⟩, ?_, ?_⟩
  · rw [V4, V3, V2, hv]
    funext p
    have w1 := hR0.2.1 (q_pl its) (by have := q_pl_nn h1; omega)
    have w2 := hR0.2.1 (q_pl (mk_pl bb pas its to)) (by have := q_pl_nn z1; omega)
    have w3 := hR0.2.1 (q_pl to) (by have := q_pl_nn h2; omega)
    rw [geo1 h1, if_neg (by omega)] at w1
    rw [geo1 z1, if_neg (by omega)] at w2
    rw [geo1 h2, if_neg (by omega)] at w3
    have c0 : cv 0 = 0 := rfl
    simp only [u1]
    by_cases e1 : p = q_pl its
    · rw [if_pos e1, e1, w1]
    · rw [if_neg e1]
      by_cases e2 : p = q_pl (mk_pl bb pas its to)
      · rw [if_pos e2, e2, w2]
      · rw [if_neg e2]
        by_cases e3 : p = q_pl to
        · rw [if_pos e3, e3, w3, (z3 (fun z => e2 (by rw [e3, z]))).1]
        · rw [if_neg e3, if_neg e3, if_neg e1, if_neg e2]
  · funext j
    by_cases j1 : j = 1
    · rw [j1, R4.2.2.2.1.king, ← hR0.2.2.2.1.king]
    · by_cases j2 : j = 2
      · rw [j2, R4.2.2.2.2.king, ← hR0.2.2.2.2.king]
      · rw [B4 j j1 j2, B3 j j1 j2, B2 j j1 j2, hj j j1 j2]
theorem c_undo (hG : GT T F g) (hS : GS M g bb t pas q) (hV : MV bb t pas its to) (has : 2 ≤ as ∧ as ≤ 5)
    (hS1 : GS M1 g (mk_bb bb pas its to as) (1 - t) (mk_ps bb its to) (mk_q bb pas q its to)) (n1 : ∀ j, j ≠ 1 → j ≠ 2 → j ≠ 3 → M1 g j = M g j) (n2 : ∀ a, a ≠ g → a ≠ g + 1 → a ≠ g + 1 + 1 → M1 a = M a)
    (n3 : M1 (g + 1 + 1) = u1 (u1 (u1 (M (g + 1 + 1)) (q_pl (mk_pl bb pas its to)) 0) (q_pl its) 0) (q_pl to) (cv (mk_th bb its to as))) (n4 : ∀ j, j ≠ 1 → j ≠ 2 → M1 (g + 1) j = M (g + 1) j) (hd : 2 ≤ d) :
    callD d m_X1_undo [.ref g, .long (iL (q_pk bb pas q its to))] T M1 F = some (.inl none, T, M, F) := by
  obtain ⟨hR, s1, s2, s3, ht, s5, hp⟩ := hS
  obtain ⟨hR1, r1, r2, r3, -⟩ := hS1
  have hb := hR.2.2.1
  have hGT := hG
  obtain ⟨hg, t0, f0, hB, -⟩ := hG
  have hb0 := hB.2.1
  obtain ⟨k0, k1, k2, k3, k4, k5, k6, k7⟩ := pk_facts (q := q) hb ht hp (by omega) hV
  obtain ⟨M2, M3, M4, e2, e3, e4, F4, V4, B4⟩ := c_back3 (T := T) (F := F) hB hR hR1 ht hp hV has n3 n4
  have g4 : M4 g = M1 g := (F4 g (by omega) (by omega)).2.2
  obtain ⟨z1, -, -⟩ := mk_pl_rg hb ht hp hV
  have q1 := q_pl_nn hV.1
  have q2 := q_pl_nn hV.2.1
  have q3 := q_pl_nn z1
  have q4 := q_pp_rg (PS_rg hp)
  have c1 := (cv_facts hb its).1
  have c2 := (cv_facts hb (mk_pl bb pas its to)).1
  have fin : uA M4 g (u1 (u1 (u1 (M1 g) 2 q) 3 (q_pp pas)) 1 t) = M := by
    funext a
    by_cases a1 : a = g
    · subst a1
      rw [uA_s]
      funext j
      simp only [u1]
      by_cases j1 : j = 1
      · rw [if_pos j1, j1, s1]
      · rw [if_neg j1]
        by_cases j3 : j = 3
        · rw [if_pos j3, j3, s3]
        · rw [if_neg j3]
          by_cases j2 : j = 2
          · rw [if_pos j2, j2, s2]
          · rw [if_neg j2, n1 j j1 j2 j3]
    · rw [uA_n a1]
      by_cases a2 : a = g + 1
      · rw [a2, B4]
      · by_cases a3 : a = g + 1 + 1
        · rw [a3, V4]
        · rw [(F4 a a2 a3).2.2, n2 a a1 a2 a3]
  refine callD_go 1 hd rfl (fun e he => ?_)
  show R e m_X1_undo 0 [.val (.ref g), .val (.long (iL (q_pk bb pas q its to))), .second, .unset] [] T M1 F = _
  have e11 : 1 - (1 - t) = t := by omega
  have e12 : q_pp pas + 1 - 1 = q_pp pas := by omega
  generalize q_pk bb pas q its to = n at *
  clear hR hR1 hp hV n1 n2 n3 n4 hGT
  simp (disch := omega) only [x_X1_undo_0, x_X1_undo_1, x_X1_undo_3, x_X1_undo_4, x_X1_undo_7, x_X1_undo_8, x_X1_undo_9, x_X1_undo_10, x_X1_undo_11, x_X1_undo_14, x_X1_undo_15, x_X1_undo_16, x_X1_undo_19, x_X1_undo_20, x_X1_undo_23, x_X1_undo_24, x_X1_undo_26, x_X1_undo_27, x_X1_undo_30, x_X1_undo_31, x_X1_undo_32, x_X1_undo_33, x_X1_undo_36, x_X1_undo_39, x_X1_undo_40, x_X1_undo_43, x_X1_undo_44, x_X1_undo_47, x_X1_undo_48, x_X1_undo_49, x_X1_undo_50, x_X1_undo_52, x_X1_undo_53, x_X1_undo_56, x_X1_undo_57, x_X1_undo_58, x_X1_undo_61, x_X1_undo_62, x_X1_undo_63, x_X1_undo_65, x_X1_undo_66, x_X1_undo_69, x_X1_undo_70, x_X1_undo_71, x_X1_undo_74, x_X1_undo_75, x_X1_undo_76, x_X1_undo_78, x_X1_undo_79, x_X1_undo_82, x_X1_undo_83, x_X1_undo_84, x_X1_undo_85, x_X1_undo_86, x_X1_undo_89, x_X1_undo_90, x_X1_undo_91, x_X1_undo_92, x_X1_undo_95, x_X1_undo_96, x_X1_undo_99, List.length_cons, List.length_nil, Nat.reduceLeDiff, Nat.zero_add, iI_add, iI_sub, iI_mul, iI_neg, iI_lt, iI_le, iI_eq, jI_iI, B_True, B_False, B_t, B_f, ck_True, gd_True, cb_v, cb_n, p_mv_rw, p_fv_rw, p_rv_some, pA_1, pA_90, pA_92, pA_3, pA_5, pA_93, pA_4, pA_91, pA_6, pS_i, pB_i, pW_i, pZ_0, pZ_1, pZ_b, bI_e0, u1_s, u1_n, uA_s, uA_n, true_and, and_true, not_true_eq_false, not_false_eq_true, eq_self, iI_z, al1, al5, al3, al4, al90, al91, al92, al93, al6, Int.cast_ofNat_Int, Nat.reduceAdd, Int.reduceNeg, Int.reduceAdd, Int.reduceSub, Int.reduceMul, Int.reduceLT, Int.reduceLE, Int.reduceGT, Int.reduceGE, Int.reduceEq, Int.reduceNe, Nat.reduceEqDiff, Int.zero_add, Int.add_zero, p_ty0, p_ty1, p_ty2, p_ty3, p_ty4, p_ty5, p_ty8, p_ty9, p_ty10, t0, f0, hb0, i2lN, l_shr9, l_shr18, l_shr27, l_shr35, l_shr43, l_and511, l_and15, l_and255, l2iN, k1, k2, k3, k4, k5, k6, k7, c_taken, e2, e3, e4, g4, r1, e11, e12, uA_uA, gd_t, fin]
end PUND
