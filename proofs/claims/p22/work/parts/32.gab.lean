section PGAB
variable {d : Nat} {T : pT} {M M1 : pM} {F : pF} {b g : Nat} {bb : Int → Int} {k s t pas q its to as c x p kc i : Int} {L : List Int} {v : Int → Int}
noncomputable def gaL (v bb : Int → Int) (t pas its : Int) : List Int :=
  if m_side (bb its) ≠ t then [] else if bb its % 10 = 6 then pwP v t (q_pp pas) (q_pl its)
  else if bb its % 10 = 1 then gaP v t 2 1 (q_pl its) 12 0 else if bb its % 10 = 2 then gaP v t 2 17 (q_pl its) 12 0 else if bb its % 10 = 3 then gaP v t 2 17 (q_pl its) 6 0
  else if bb its % 10 = 4 then gaP v t 2 17 (q_pl its) 6 6 else gaP v t 3 1 (q_pl its) 12 0
theorem ga_b17 (h : VB v bb) (hb : MB bb) (hk : 0 ≤ k ∧ k < 91) : smN (fun i => slN v (p_roM 2 i) 17 (q_pl k + p_roM 2 i)) 12 0 ≤ 42 ∧ smN (fun i => slN v (p_roM 2 i) 17 (q_pl k + p_roM 2 i)) 6 0 ≤ 42 ∧ smN (fun i => slN v (p_roM 2 i) 17 (q_pl k + p_roM 2 i)) 6 6 ≤ 42 := by
  have hq := q_pl_nn hk
  obtain ⟨r1, r2, r3⟩ := rlen_ok hk
  have hj : ∀ j : Int, 0 ≤ j → j < 12 → slN v (p_roM 2 j) 17 (q_pl k + p_roM 2 j) ≤ rlen j 17 (gn k j) := by
    intro j h0 h1
    have := ro2 (i := j) ⟨h0, h1⟩
    exact slN_le h hb ⟨h0, h1⟩ 17 (q_pl k + p_roM 2 j) (by omega)
  have n12 := smN_le (f := fun i => slN v (p_roM 2 i) 17 (q_pl k + p_roM 2 i)) (h := fun i => rlen i 17 (gn k i)) 12 0 (fun j h0 h1 => hj j h0 (by omega))
  have n6 := smN_le (f := fun i => slN v (p_roM 2 i) 17 (q_pl k + p_roM 2 i)) (h := fun i => rlen i 17 (gn k i)) 6 0 (fun j h0 h1 => hj j h0 (by omega))
  have n66 := smN_le (f := fun i => slN v (p_roM 2 i) 17 (q_pl k + p_roM 2 i)) (h := fun i => rlen i 17 (gn k i)) 6 6 (fun j h0 h1 => hj j (by omega) (by omega))
  omega
theorem ga_b1 (A : Nat) : smN (fun i => slN v (p_roM A i) 1 (q_pl k + p_roM A i)) 12 0 ≤ 42 := by
  have h1 := smN_le (f := fun i => slN v (p_roM A i) 1 (q_pl k + p_roM A i)) (h := fun _ => 1) 12 0 (fun j _ _ => slN_one _ _)
  rw [smN_one] at h1
  omega
theorem c_gather (hG : GT T F g) (hS : GS M g bb t pas q) (hk : 0 ≤ its ∧ its < 91) : ∃ M2, (∀ d, 4 ≤ d → callD d m_X1_gatherTargets [.ref g, .int (iI (q_pl its))] T M F = some (.inl none, T, M2, F)) ∧ TG M M2 g (gaL (M (g + 1 + 1)) bb t pas its) := by
  have hS' := hS
  obtain ⟨hR, s1, s2, s3, ht, s5, hp⟩ := hS
  have hG' := hG
  have hb := hR.2.2.1
  obtain ⟨hg, t0, f0, hB, -⟩ := hG
  have hb0 := hB.2.1
  have hq := q_pl_nn hk
  have h0 : TG M (uA M g (u1 (M g) 10 0)) g [] := ⟨by rw [uA_s]; rfl, fun j hj => absurd hj (Nat.not_lt_zero j), fun j hj => by rw [uA_s]; exact if_neg hj, fun a a1 a2 => uA_n a1⟩
  have hR1 := h0.RB hR
  have m1 : uA M g (u1 (M g) 10 0) g 1 = t := by rw [uA_s]; exact s1
  have mv : uA M g (u1 (M g) 10 0) (g + 1 + 1) = M (g + 1 + 1) := uA_n (by omega)
  obtain ⟨c11, c12, c13⟩ := cv_facts hb its
  have hbi := hb its
  have hsr := m_side_rg (x := bb its) hbi
  unfold gaL
  by_cases c0 : m_side (bb its) = t
  · rw [if_neg (fun z => z c0)]
    by_cases c6 : bb its % 10 = 6
    · rw [if_pos c6]
      obtain ⟨M2, e2, T2⟩ := c_pawn hG' hS' hk h0
      refine ⟨M2, fun d hd => ?_, T2⟩
      refine callD_go 3 hd rfl (fun e he => ?_)
      show R e m_X1_gatherTargets 0 [.val (.ref g), .val (.int (iI (q_pl its))), .unset, .unset, .unset, .unset, .unset, .unset, .unset, .unset] [] T M F = _
      have honR := c_onR (d := e) (T := T) (F := F) hB hR1 (by omega) hk
      clear hR hR1 hS' h0 hp hb
      simp (disch := omega) only [x_X1_gatherTargets_0, x_X1_gatherTargets_1, x_X1_gatherTargets_2, x_X1_gatherTargets_5, x_X1_gatherTargets_6, x_X1_gatherTargets_9, x_X1_gatherTargets_10, x_X1_gatherTargets_13, x_X1_gatherTargets_14, x_X1_gatherTargets_15, x_X1_gatherTargets_18, x_X1_gatherTargets_19, x_X1_gatherTargets_22, x_X1_gatherTargets_25, x_X1_gatherTargets_26, x_X1_gatherTargets_27, x_X1_gatherTargets_30, x_X1_gatherTargets_31, x_X1_gatherTargets_32, x_X1_gatherTargets_34, x_X1_gatherTargets_37, x_X1_gatherTargets_38, x_X1_gatherTargets_39, x_X1_gatherTargets_42, List.length_cons, List.length_nil, Nat.reduceLeDiff, Nat.zero_add, iI_add, iI_sub, iI_mul, iI_neg, iI_lt, iI_le, iI_eq, jI_iI, B_True, B_False, B_t, B_f, ck_True, gd_True, cb_v, cb_n, p_mv_rw, p_fv_rw, p_rv_some, pA_1, pA_90, pA_92, pA_3, pA_5, pA_93, pA_4, pA_91, pA_6, pS_i, pB_i, pW_i, pZ_0, pZ_1, pZ_b, bI_e0, u1_s, u1_n, uA_s, uA_n, true_and, and_true, not_true_eq_false, not_false_eq_true, eq_self, iI_z, al1, al5, al3, al4, al90, al91, al92, al93, al6, Int.cast_ofNat_Int, Nat.reduceAdd, Int.reduceNeg, Int.reduceAdd, Int.reduceSub, Int.reduceMul, Int.reduceLT, Int.reduceLE, Int.reduceGT, Int.reduceGE, Int.reduceEq, Int.reduceNe, Nat.reduceEqDiff, Int.zero_add, Int.add_zero, p_ty0, p_ty1, p_ty2, p_ty3, p_ty4, p_ty5, p_ty8, p_ty9, p_ty10, t0, f0, hb0, m1, honR, c_side, c12, c_kind, c13, c6, e2, B_t, B_f, gd_t]
    rw [if_neg c6]
    by_cases k1 : bb its % 10 = 1
    · rw [if_pos k1]
      obtain ⟨M2, e2, T2⟩ := c_gaLoop (T := T) (F := F) (A := 2) (v0 := cv (bb its)) (kd := 1) (hi := 12) (rc := 1) (rcN := 1) (by omega) hG' hR s1 ht (p := q_pl its) (by omega) (by omega) rfl (by omega) 12 0 .unset .unset _ [] (by omega) (by omega) h0 (by have := ga_b1 (v := M (g + 1 + 1)) (k := its) 2; simpa using this)
      refine ⟨M2, fun d hd => ?_, T2⟩
      refine callD_go 3 hd rfl (fun e he => ?_)
      show R e m_X1_gatherTargets 0 [.val (.ref g), .val (.int (iI (q_pl its))), .unset, .unset, .unset, .unset, .unset, .unset, .unset, .unset] [] T M F = _
      have honR := c_onR (d := e) (T := T) (F := F) hB hR1 (by omega) hk
      have st : callD e m_X7_stepsOf [.int (iI 1)] T (uA M g (u1 (M g) 10 0)) F = some (.inl (some (.ref 2)), T, (uA M g (u1 (M g) 10 0)), F) := c_steps (d := e) (T := T) (M := uA M g (u1 (M g) 10 0)) (F := F) (k := 1) (by omega) (by omega)
      have lo := c_lo (d := e) (T := T) (M := uA M g (u1 (M g) 10 0)) (F := F) (k := 1) (by omega) (by omega)
      have hi := c_hi (d := e) (T := T) (M := uA M g (u1 (M g) 10 0)) (F := F) (k := 1) (by omega) (by omega)
      have rc := c_rch (d := e) (T := T) (M := uA M g (u1 (M g) 10 0)) (F := F) (k := 1) (by omega) (by omega)
      have mi : callD e m_J9_min_7cf53 [.int (iI 12), .int (iI 12)] T (uA M g (u1 (M g) 10 0)) F = some (.inl (some (.int (iI 12))), T, (uA M g (u1 (M g) 10 0)), F) := y_min (d := e) (T := T) (M := uA M g (u1 (M g) 10 0)) (F := F) (a := 12) (n := 12) (by omega) (by omega) (by omega)
      rw [← e2 e (by omega)]
      clear hR hR1 hS' h0 hp hb e2 T2
      simp (disch := omega) only [x_X1_gatherTargets_0, x_X1_gatherTargets_1, x_X1_gatherTargets_2, x_X1_gatherTargets_5, x_X1_gatherTargets_6, x_X1_gatherTargets_9, x_X1_gatherTargets_10, x_X1_gatherTargets_13, x_X1_gatherTargets_14, x_X1_gatherTargets_15, x_X1_gatherTargets_18, x_X1_gatherTargets_19, x_X1_gatherTargets_22, x_X1_gatherTargets_25, x_X1_gatherTargets_26, x_X1_gatherTargets_27, x_X1_gatherTargets_30, x_X1_gatherTargets_31, x_X1_gatherTargets_32, x_X1_gatherTargets_34, x_X1_gatherTargets_37, x_X1_gatherTargets_38, x_X1_gatherTargets_39, x_X1_gatherTargets_42, x_X1_gatherTargets_43, x_X1_gatherTargets_44, x_X1_gatherTargets_47, x_X1_gatherTargets_49, x_X1_gatherTargets_50, x_X1_gatherTargets_53, x_X1_gatherTargets_55, x_X1_gatherTargets_56, x_X1_gatherTargets_59, x_X1_gatherTargets_61, x_X1_gatherTargets_62, x_X1_gatherTargets_65, x_X1_gatherTargets_67, x_X1_gatherTargets_68, x_X1_gatherTargets_71, List.length_cons, List.length_nil, Nat.reduceLeDiff, Nat.zero_add, iI_add, iI_sub, iI_mul, iI_neg, iI_lt, iI_le, iI_eq, jI_iI, B_True, B_False, B_t, B_f, ck_True, gd_True, cb_v, cb_n, p_mv_rw, p_fv_rw, p_rv_some, pA_1, pA_90, pA_92, pA_3, pA_5, pA_93, pA_4, pA_91, pA_6, pS_i, pB_i, pW_i, pZ_0, pZ_1, pZ_b, bI_e0, u1_s, u1_n, uA_s, uA_n, true_and, and_true, not_true_eq_false, not_false_eq_true, eq_self, iI_z, al1, al5, al3, al4, al90, al91, al92, al93, al6, Int.cast_ofNat_Int, Nat.reduceAdd, Int.reduceNeg, Int.reduceAdd, Int.reduceSub, Int.reduceMul, Int.reduceLT, Int.reduceLE, Int.reduceGT, Int.reduceGE, Int.reduceEq, Int.reduceNe, Nat.reduceEqDiff, Int.zero_add, Int.add_zero, p_ty0, p_ty1, p_ty2, p_ty3, p_ty4, p_ty5, p_ty8, p_ty9, p_ty10, t0, f0, hb0, m1, honR, c_side, c12, c_kind, c13, k1, B_t, B_f, gd_t, st, lo, hi, rc, mi, p_ty2, p_ty3, show q_lo 1 = 0 from rfl, show q_hi 1 = 12 from rfl, show q_rch 1 = 1 from rfl]
    rw [if_neg k1]
    by_cases k2 : bb its % 10 = 2
    · rw [if_pos k2]
      obtain ⟨M2, e2, T2⟩ := c_gaLoop (T := T) (F := F) (A := 2) (v0 := cv (bb its)) (kd := 2) (hi := 12) (rc := 17) (rcN := 17) (by omega) hG' hR s1 ht (p := q_pl its) (by omega) (by omega) rfl (by omega) 12 0 .unset .unset _ [] (by omega) (by omega) h0 (by have := (ga_b17 hR.2.1 hb hk).1; simpa using this)
      refine ⟨M2, fun d hd => ?_, T2⟩
      refine callD_go 3 hd rfl (fun e he => ?_)
      show R e m_X1_gatherTargets 0 [.val (.ref g), .val (.int (iI (q_pl its))), .unset, .unset, .unset, .unset, .unset, .unset, .unset, .unset] [] T M F = _
      have honR := c_onR (d := e) (T := T) (F := F) hB hR1 (by omega) hk
      have st : callD e m_X7_stepsOf [.int (iI 2)] T (uA M g (u1 (M g) 10 0)) F = some (.inl (some (.ref 2)), T, (uA M g (u1 (M g) 10 0)), F) := c_steps (d := e) (T := T) (M := uA M g (u1 (M g) 10 0)) (F := F) (k := 2) (by omega) (by omega)
      have lo := c_lo (d := e) (T := T) (M := uA M g (u1 (M g) 10 0)) (F := F) (k := 2) (by omega) (by omega)
      have hi := c_hi (d := e) (T := T) (M := uA M g (u1 (M g) 10 0)) (F := F) (k := 2) (by omega) (by omega)
      have rc := c_rch (d := e) (T := T) (M := uA M g (u1 (M g) 10 0)) (F := F) (k := 2) (by omega) (by omega)
      have mi : callD e m_J9_min_7cf53 [.int (iI 12), .int (iI 12)] T (uA M g (u1 (M g) 10 0)) F = some (.inl (some (.int (iI 12))), T, (uA M g (u1 (M g) 10 0)), F) := y_min (d := e) (T := T) (M := uA M g (u1 (M g) 10 0)) (F := F) (a := 12) (n := 12) (by omega) (by omega) (by omega)
      rw [← e2 e (by omega)]
      clear hR hR1 hS' h0 hp hb e2 T2
      simp (disch := omega) only [x_X1_gatherTargets_0, x_X1_gatherTargets_1, x_X1_gatherTargets_2, x_X1_gatherTargets_5, x_X1_gatherTargets_6, x_X1_gatherTargets_9, x_X1_gatherTargets_10, x_X1_gatherTargets_13, x_X1_gatherTargets_14, x_X1_gatherTargets_15, x_X1_gatherTargets_18, x_X1_gatherTargets_19, x_X1_gatherTargets_22, x_X1_gatherTargets_25, x_X1_gatherTargets_26, x_X1_gatherTargets_27, x_X1_gatherTargets_30, x_X1_gatherTargets_31, x_X1_gatherTargets_32, x_X1_gatherTargets_34, x_X1_gatherTargets_37, x_X1_gatherTargets_38, x_X1_gatherTargets_39, x_X1_gatherTargets_42, x_X1_gatherTargets_43, x_X1_gatherTargets_44, x_X1_gatherTargets_47, x_X1_gatherTargets_49, x_X1_gatherTargets_50, x_X1_gatherTargets_53, x_X1_gatherTargets_55, x_X1_gatherTargets_56, x_X1_gatherTargets_59, x_X1_gatherTargets_61, x_X1_gatherTargets_62, x_X1_gatherTargets_65, x_X1_gatherTargets_67, x_X1_gatherTargets_68, x_X1_gatherTargets_71, List.length_cons, List.length_nil, Nat.reduceLeDiff, Nat.zero_add, iI_add, iI_sub, iI_mul, iI_neg, iI_lt, iI_le, iI_eq, jI_iI, B_True, B_False, B_t, B_f, ck_True, gd_True, cb_v, cb_n, p_mv_rw, p_fv_rw, p_rv_some, pA_1, pA_90, pA_92, pA_3, pA_5, pA_93, pA_4, pA_91, pA_6, pS_i, pB_i, pW_i, pZ_0, pZ_1, pZ_b, bI_e0, u1_s, u1_n, uA_s, uA_n, true_and, and_true, not_true_eq_false, not_false_eq_true, eq_self, iI_z, al1, al5, al3, al4, al90, al91, al92, al93, al6, Int.cast_ofNat_Int, Nat.reduceAdd, Int.reduceNeg, Int.reduceAdd, Int.reduceSub, Int.reduceMul, Int.reduceLT, Int.reduceLE, Int.reduceGT, Int.reduceGE, Int.reduceEq, Int.reduceNe, Nat.reduceEqDiff, Int.zero_add, Int.add_zero, p_ty0, p_ty1, p_ty2, p_ty3, p_ty4, p_ty5, p_ty8, p_ty9, p_ty10, t0, f0, hb0, m1, honR, c_side, c12, c_kind, c13, k2, B_t, B_f, gd_t, st, lo, hi, rc, mi, p_ty2, p_ty3, show q_lo 2 = 0 from rfl, show q_hi 2 = 12 from rfl, show q_rch 2 = 17 from rfl]
    rw [if_neg k2]
    by_cases k3 : bb its % 10 = 3
    · rw [if_pos k3]
      obtain ⟨M2, e2, T2⟩ := c_gaLoop (T := T) (F := F) (A := 2) (v0 := cv (bb its)) (kd := 3) (hi := 6) (rc := 17) (rcN := 17) (by omega) hG' hR s1 ht (p := q_pl its) (by omega) (by omega) rfl (by omega) 6 0 .unset .unset _ [] (by omega) (by omega) h0 (by have := (ga_b17 hR.2.1 hb hk).2.1; simpa using this)
      refine ⟨M2, fun d hd => ?_, T2⟩
      refine callD_go 3 hd rfl (fun e he => ?_)
      show R e m_X1_gatherTargets 0 [.val (.ref g), .val (.int (iI (q_pl its))), .unset, .unset, .unset, .unset, .unset, .unset, .unset, .unset] [] T M F = _
      have honR := c_onR (d := e) (T := T) (F := F) hB hR1 (by omega) hk
      have st : callD e m_X7_stepsOf [.int (iI 3)] T (uA M g (u1 (M g) 10 0)) F = some (.inl (some (.ref 2)), T, (uA M g (u1 (M g) 10 0)), F) := c_steps (d := e) (T := T) (M := uA M g (u1 (M g) 10 0)) (F := F) (k := 3) (by omega) (by omega)
      have lo := c_lo (d := e) (T := T) (M := uA M g (u1 (M g) 10 0)) (F := F) (k := 3) (by omega) (by omega)
      have hi := c_hi (d := e) (T := T) (M := uA M g (u1 (M g) 10 0)) (F := F) (k := 3) (by omega) (by omega)
      have rc := c_rch (d := e) (T := T) (M := uA M g (u1 (M g) 10 0)) (F := F) (k := 3) (by omega) (by omega)
      have mi : callD e m_J9_min_7cf53 [.int (iI 6), .int (iI 12)] T (uA M g (u1 (M g) 10 0)) F = some (.inl (some (.int (iI 6))), T, (uA M g (u1 (M g) 10 0)), F) := y_min (d := e) (T := T) (M := uA M g (u1 (M g) 10 0)) (F := F) (a := 6) (n := 12) (by omega) (by omega) (by omega)
      rw [← e2 e (by omega)]
      clear hR hR1 hS' h0 hp hb e2 T2
      simp (disch := omega) only [x_X1_gatherTargets_0, x_X1_gatherTargets_1, x_X1_gatherTargets_2, x_X1_gatherTargets_5, x_X1_gatherTargets_6, x_X1_gatherTargets_9, x_X1_gatherTargets_10, x_X1_gatherTargets_13, x_X1_gatherTargets_14, x_X1_gatherTargets_15, x_X1_gatherTargets_18, x_X1_gatherTargets_19, x_X1_gatherTargets_22, x_X1_gatherTargets_25, x_X1_gatherTargets_26, x_X1_gatherTargets_27, x_X1_gatherTargets_30, x_X1_gatherTargets_31, x_X1_gatherTargets_32, x_X1_gatherTargets_34, x_X1_gatherTargets_37, x_X1_gatherTargets_38, x_X1_gatherTargets_39, x_X1_gatherTargets_42, x_X1_gatherTargets_43, x_X1_gatherTargets_44, x_X1_gatherTargets_47, x_X1_gatherTargets_49, x_X1_gatherTargets_50, x_X1_gatherTargets_53, x_X1_gatherTargets_55, x_X1_gatherTargets_56, x_X1_gatherTargets_59, x_X1_gatherTargets_61, x_X1_gatherTargets_62, x_X1_gatherTargets_65, x_X1_gatherTargets_67, x_X1_gatherTargets_68, x_X1_gatherTargets_71, List.length_cons, List.length_nil, Nat.reduceLeDiff, Nat.zero_add, iI_add, iI_sub, iI_mul, iI_neg, iI_lt, iI_le, iI_eq, jI_iI, B_True, B_False, B_t, B_f, ck_True, gd_True, cb_v, cb_n, p_mv_rw, p_fv_rw, p_rv_some, pA_1, pA_90, pA_92, pA_3, pA_5, pA_93, pA_4, pA_91, pA_6, pS_i, pB_i, pW_i, pZ_0, pZ_1, pZ_b, bI_e0, u1_s, u1_n, uA_s, uA_n, true_and, and_true, not_true_eq_false, not_false_eq_true, eq_self, iI_z, al1, al5, al3, al4, al90, al91, al92, al93, al6, Int.cast_ofNat_Int, Nat.reduceAdd, Int.reduceNeg, Int.reduceAdd, Int.reduceSub, Int.reduceMul, Int.reduceLT, Int.reduceLE, Int.reduceGT, Int.reduceGE, Int.reduceEq, Int.reduceNe, Nat.reduceEqDiff, Int.zero_add, Int.add_zero, p_ty0, p_ty1, p_ty2, p_ty3, p_ty4, p_ty5, p_ty8, p_ty9, p_ty10, t0, f0, hb0, m1, honR, c_side, c12, c_kind, c13, k3, B_t, B_f, gd_t, st, lo, hi, rc, mi, p_ty2, p_ty3, show q_lo 3 = 0 from rfl, show q_hi 3 = 6 from rfl, show q_rch 3 = 17 from rfl]
    rw [if_neg k3]
    by_cases k4 : bb its % 10 = 4
    · rw [if_pos k4]
      obtain ⟨M2, e2, T2⟩ := c_gaLoop (T := T) (F := F) (A := 2) (v0 := cv (bb its)) (kd := 4) (hi := 12) (rc := 17) (rcN := 17) (by omega) hG' hR s1 ht (p := q_pl its) (by omega) (by omega) rfl (by omega) 6 6 .unset .unset _ [] (by omega) (by omega) h0 (by have := (ga_b17 hR.2.1 hb hk).2.2; simpa using this)
      refine ⟨M2, fun d hd => ?_, T2⟩
      refine callD_go 3 hd rfl (fun e he => ?_)
      show R e m_X1_gatherTargets 0 [.val (.ref g), .val (.int (iI (q_pl its))), .unset, .unset, .unset, .unset, .unset, .unset, .unset, .unset] [] T M F = _
      have honR := c_onR (d := e) (T := T) (F := F) hB hR1 (by omega) hk
      have st : callD e m_X7_stepsOf [.int (iI 4)] T (uA M g (u1 (M g) 10 0)) F = some (.inl (some (.ref 2)), T, (uA M g (u1 (M g) 10 0)), F) := c_steps (d := e) (T := T) (M := uA M g (u1 (M g) 10 0)) (F := F) (k := 4) (by omega) (by omega)
      have lo := c_lo (d := e) (T := T) (M := uA M g (u1 (M g) 10 0)) (F := F) (k := 4) (by omega) (by omega)
      have hi := c_hi (d := e) (T := T) (M := uA M g (u1 (M g) 10 0)) (F := F) (k := 4) (by omega) (by omega)
      have rc := c_rch (d := e) (T := T) (M := uA M g (u1 (M g) 10 0)) (F := F) (k := 4) (by omega) (by omega)
      have mi : callD e m_J9_min_7cf53 [.int (iI 12), .int (iI 12)] T (uA M g (u1 (M g) 10 0)) F = some (.inl (some (.int (iI 12))), T, (uA M g (u1 (M g) 10 0)), F) := y_min (d := e) (T := T) (M := uA M g (u1 (M g) 10 0)) (F := F) (a := 12) (n := 12) (by omega) (by omega) (by omega)
      rw [← e2 e (by omega)]
      clear hR hR1 hS' h0 hp hb e2 T2
      simp (disch := omega) only [x_X1_gatherTargets_0, x_X1_gatherTargets_1, x_X1_gatherTargets_2, x_X1_gatherTargets_5, x_X1_gatherTargets_6, x_X1_gatherTargets_9, x_X1_gatherTargets_10, x_X1_gatherTargets_13, x_X1_gatherTargets_14, x_X1_gatherTargets_15, x_X1_gatherTargets_18, x_X1_gatherTargets_19, x_X1_gatherTargets_22, x_X1_gatherTargets_25, x_X1_gatherTargets_26, x_X1_gatherTargets_27, x_X1_gatherTargets_30, x_X1_gatherTargets_31, x_X1_gatherTargets_32, x_X1_gatherTargets_34, x_X1_gatherTargets_37, x_X1_gatherTargets_38, x_X1_gatherTargets_39, x_X1_gatherTargets_42, x_X1_gatherTargets_43, x_X1_gatherTargets_44, x_X1_gatherTargets_47, x_X1_gatherTargets_49, x_X1_gatherTargets_50, x_X1_gatherTargets_53, x_X1_gatherTargets_55, x_X1_gatherTargets_56, x_X1_gatherTargets_59, x_X1_gatherTargets_61, x_X1_gatherTargets_62, x_X1_gatherTargets_65, x_X1_gatherTargets_67, x_X1_gatherTargets_68, x_X1_gatherTargets_71, List.length_cons, List.length_nil, Nat.reduceLeDiff, Nat.zero_add, iI_add, iI_sub, iI_mul, iI_neg, iI_lt, iI_le, iI_eq, jI_iI, B_True, B_False, B_t, B_f, ck_True, gd_True, cb_v, cb_n, p_mv_rw, p_fv_rw, p_rv_some, pA_1, pA_90, pA_92, pA_3, pA_5, pA_93, pA_4, pA_91, pA_6, pS_i, pB_i, pW_i, pZ_0, pZ_1, pZ_b, bI_e0, u1_s, u1_n, uA_s, uA_n, true_and, and_true, not_true_eq_false, not_false_eq_true, eq_self, iI_z, al1, al5, al3, al4, al90, al91, al92, al93, al6, Int.cast_ofNat_Int, Nat.reduceAdd, Int.reduceNeg, Int.reduceAdd, Int.reduceSub, Int.reduceMul, Int.reduceLT, Int.reduceLE, Int.reduceGT, Int.reduceGE, Int.reduceEq, Int.reduceNe, Nat.reduceEqDiff, Int.zero_add, Int.add_zero, p_ty0, p_ty1, p_ty2, p_ty3, p_ty4, p_ty5, p_ty8, p_ty9, p_ty10, t0, f0, hb0, m1, honR, c_side, c12, c_kind, c13, k4, B_t, B_f, gd_t, st, lo, hi, rc, mi, p_ty2, p_ty3, show q_lo 4 = 6 from rfl, show q_hi 4 = 12 from rfl, show q_rch 4 = 17 from rfl]
    rw [if_neg k4]
    have k5 : bb its % 10 = 5 := by unfold m_side at c0; split at c0 <;> omega
    obtain ⟨M2, e2, T2⟩ := c_gaLoop (T := T) (F := F) (A := 3) (v0 := cv (bb its)) (kd := 5) (hi := 12) (rc := 1) (rcN := 1) (by omega) hG' hR s1 ht (p := q_pl its) (by omega) (by omega) rfl (by omega) 12 0 .unset .unset _ [] (by omega) (by omega) h0 (by have := ga_b1 (v := M (g + 1 + 1)) (k := its) 3; simpa using this)
    refine ⟨M2, fun d hd => ?_, T2⟩
    refine callD_go 3 hd rfl (fun e he => ?_)
    show R e m_X1_gatherTargets 0 [.val (.ref g), .val (.int (iI (q_pl its))), .unset, .unset, .unset, .unset, .unset, .unset, .unset, .unset] [] T M F = _
    have honR := c_onR (d := e) (T := T) (F := F) hB hR1 (by omega) hk
    have st : callD e m_X7_stepsOf [.int (iI 5)] T (uA M g (u1 (M g) 10 0)) F = some (.inl (some (.ref 3)), T, (uA M g (u1 (M g) 10 0)), F) := c_steps (d := e) (T := T) (M := uA M g (u1 (M g) 10 0)) (F := F) (k := 5) (by omega) (by omega)
    have lo := c_lo (d := e) (T := T) (M := uA M g (u1 (M g) 10 0)) (F := F) (k := 5) (by omega) (by omega)
    have hi := c_hi (d := e) (T := T) (M := uA M g (u1 (M g) 10 0)) (F := F) (k := 5) (by omega) (by omega)
    have rc := c_rch (d := e) (T := T) (M := uA M g (u1 (M g) 10 0)) (F := F) (k := 5) (by omega) (by omega)
    have mi : callD e m_J9_min_7cf53 [.int (iI 12), .int (iI 12)] T (uA M g (u1 (M g) 10 0)) F = some (.inl (some (.int (iI 12))), T, (uA M g (u1 (M g) 10 0)), F) := y_min (d := e) (T := T) (M := uA M g (u1 (M g) 10 0)) (F := F) (a := 12) (n := 12) (by omega) (by omega) (by omega)
    rw [← e2 e (by omega)]
    clear hR hR1 hS' h0 hp hb e2 T2
    simp (disch := omega) only [x_X1_gatherTargets_0, x_X1_gatherTargets_1, x_X1_gatherTargets_2, x_X1_gatherTargets_5, x_X1_gatherTargets_6, x_X1_gatherTargets_9, x_X1_gatherTargets_10, x_X1_gatherTargets_13, x_X1_gatherTargets_14, x_X1_gatherTargets_15, x_X1_gatherTargets_18, x_X1_gatherTargets_19, x_X1_gatherTargets_22, x_X1_gatherTargets_25, x_X1_gatherTargets_26, x_X1_gatherTargets_27, x_X1_gatherTargets_30, x_X1_gatherTargets_31, x_X1_gatherTargets_32, x_X1_gatherTargets_34, x_X1_gatherTargets_37, x_X1_gatherTargets_38, x_X1_gatherTargets_39, x_X1_gatherTargets_42, x_X1_gatherTargets_43, x_X1_gatherTargets_44, x_X1_gatherTargets_47, x_X1_gatherTargets_49, x_X1_gatherTargets_50, x_X1_gatherTargets_53, x_X1_gatherTargets_55, x_X1_gatherTargets_56, x_X1_gatherTargets_59, x_X1_gatherTargets_61, x_X1_gatherTargets_62, x_X1_gatherTargets_65, x_X1_gatherTargets_67, x_X1_gatherTargets_68, x_X1_gatherTargets_71, List.length_cons, List.length_nil, Nat.reduceLeDiff, Nat.zero_add, iI_add, iI_sub, iI_mul, iI_neg, iI_lt, iI_le, iI_eq, jI_iI, B_True, B_False, B_t, B_f, ck_True, gd_True, cb_v, cb_n, p_mv_rw, p_fv_rw, p_rv_some, pA_1, pA_90, pA_92, pA_3, pA_5, pA_93, pA_4, pA_91, pA_6, pS_i, pB_i, pW_i, pZ_0, pZ_1, pZ_b, bI_e0, u1_s, u1_n, uA_s, uA_n, true_and, and_true, not_true_eq_false, not_false_eq_true, eq_self, iI_z, al1, al5, al3, al4, al90, al91, al92, al93, al6, Int.cast_ofNat_Int, Nat.reduceAdd, Int.reduceNeg, Int.reduceAdd, Int.reduceSub, Int.reduceMul, Int.reduceLT, Int.reduceLE, Int.reduceGT, Int.reduceGE, Int.reduceEq, Int.reduceNe, Nat.reduceEqDiff, Int.zero_add, Int.add_zero, p_ty0, p_ty1, p_ty2, p_ty3, p_ty4, p_ty5, p_ty8, p_ty9, p_ty10, t0, f0, hb0, m1, honR, c_side, c12, c_kind, c13, k5, B_t, B_f, gd_t, st, lo, hi, rc, mi, p_ty2, p_ty3, show q_lo 5 = 0 from rfl, show q_hi 5 = 12 from rfl, show q_rch 5 = 1 from rfl]
  · rw [if_pos c0]
    refine ⟨_, fun d hd => ?_, h0⟩
    refine callD_go 3 hd rfl (fun e he => ?_)
    show R e m_X1_gatherTargets 0 [.val (.ref g), .val (.int (iI (q_pl its))), .unset, .unset, .unset, .unset, .unset, .unset, .unset, .unset] [] T M F = _
    have honR := c_onR (d := e) (T := T) (F := F) hB hR1 (by omega) hk
    clear hR hR1 hS' h0 hp hb
    simp (disch := omega) only [x_X1_gatherTargets_0, x_X1_gatherTargets_1, x_X1_gatherTargets_2, x_X1_gatherTargets_5, x_X1_gatherTargets_6, x_X1_gatherTargets_9, x_X1_gatherTargets_10, x_X1_gatherTargets_13, x_X1_gatherTargets_14, x_X1_gatherTargets_15, x_X1_gatherTargets_18, x_X1_gatherTargets_19, x_X1_gatherTargets_22, x_X1_gatherTargets_25, x_X1_gatherTargets_26, x_X1_gatherTargets_27, x_X1_gatherTargets_30, x_X1_gatherTargets_31, x_X1_gatherTargets_32, x_X1_gatherTargets_34, x_X1_gatherTargets_37, x_X1_gatherTargets_38, x_X1_gatherTargets_39, x_X1_gatherTargets_42, x_X1_gatherTargets_43, x_X1_gatherTargets_44, x_X1_gatherTargets_47, x_X1_gatherTargets_49, x_X1_gatherTargets_50, x_X1_gatherTargets_53, x_X1_gatherTargets_55, x_X1_gatherTargets_56, x_X1_gatherTargets_59, x_X1_gatherTargets_61, x_X1_gatherTargets_62, x_X1_gatherTargets_65, x_X1_gatherTargets_67, x_X1_gatherTargets_68, x_X1_gatherTargets_71, List.length_cons, List.length_nil, Nat.reduceLeDiff, Nat.zero_add, iI_add, iI_sub, iI_mul, iI_neg, iI_lt, iI_le, iI_eq, jI_iI, B_True, B_False, B_t, B_f, ck_True, gd_True, cb_v, cb_n, p_mv_rw, p_fv_rw, p_rv_some, pA_1, pA_90, pA_92, pA_3, pA_5, pA_93, pA_4, pA_91, pA_6, pS_i, pB_i, pW_i, pZ_0, pZ_1, pZ_b, bI_e0, u1_s, u1_n, uA_s, uA_n, true_and, and_true, not_true_eq_false, not_false_eq_true, eq_self, iI_z, al1, al5, al3, al4, al90, al91, al92, al93, al6, Int.cast_ofNat_Int, Nat.reduceAdd, Int.reduceNeg, Int.reduceAdd, Int.reduceSub, Int.reduceMul, Int.reduceLT, Int.reduceLE, Int.reduceGT, Int.reduceGE, Int.reduceEq, Int.reduceNe, Nat.reduceEqDiff, Int.zero_add, Int.add_zero, p_ty0, p_ty1, p_ty2, p_ty3, p_ty4, p_ty5, p_ty8, p_ty9, p_ty10, t0, f0, hb0, m1, honR, c_side, c12, B_t, B_f, gd_t]
end PGAB
