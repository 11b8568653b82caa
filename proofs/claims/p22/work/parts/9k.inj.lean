section PINJ
variable {d b g r a w : Nat} {T T1 : pT} {M M1 : pM} {F F1 : pF}
theorem i_reader (hr : 100 ≤ r) (t0 : p_ty T r = (13, 4)) (hn : T.1.1 = r + 1) :
    ∃ T' M' F', (∀ d, 3 ≤ d → callD d m_X3_init [.ref r] T M F = some (.inl none, T', M', F')) ∧ T'.1.1 = r + 4 ∧ T'.1.2 = T.1.2 + 1200 ∧ RT T' F' r ∧ IX r T M F T' M' F' := by
  have m0 : s_mono T (p_new T 1 400) := s_mono.new
  have m1 : s_mono (p_new T 1 400) (p_new (p_new T 1 400) 1 400) := s_mono.new
  have m2 : s_mono (p_new (p_new T 1 400) 1 400) (p_new (p_new (p_new T 1 400) 1 400) 4 400) := s_mono.new
  have q1 : (p_new T 1 400).1.1 = r + 2 := by rw [p_nn, hn]
  have q2 : (p_new (p_new T 1 400) 1 400).1.1 = r + 3 := by rw [p_nn, q1]
  have q3 : (p_new (p_new (p_new T 1 400) 1 400) 4 400).1.1 = r + 4 := by rw [p_nn, q2]
  have u1' : p_ty (p_new T 1 400) r = (13, 4) := (m0.2.2 r (by omega)).trans t0
  have u2' : p_ty (p_new (p_new T 1 400) 1 400) r = (13, 4) := (m1.2.2 r (by omega)).trans u1'
  have u3' : p_ty (p_new (p_new (p_new T 1 400) 1 400) 4 400) r = (13, 4) := (m2.2.2 r (by omega)).trans u2'
  have v1 : p_ty (p_new T 1 400) (r + 1) = (1, 400) := by rw [← hn]; exact p_ty_nw (by omega)
  have v2 : p_ty (p_new (p_new T 1 400) 1 400) (r + 2) = (1, 400) := by rw [← q1]; exact p_ty_nw (by omega)
  have v3 : p_ty (p_new (p_new (p_new T 1 400) 1 400) 4 400) (r + 3) = (4, 400) := by rw [← q2]; exact p_ty_nw (by omega)
  have v1' : p_ty (p_new (p_new (p_new T 1 400) 1 400) 4 400) (r + 1) = (1, 400) := ((m1.tr m2).2.2 _ (by omega)).trans v1
  have v2' : p_ty (p_new (p_new (p_new T 1 400) 1 400) 4 400) (r + 2) = (1, 400) := (m2.2.2 _ (by omega)).trans v2
  refine ⟨p_new (p_new (p_new T 1 400) 1 400) 4 400, uA (uA (uA (uA M (r + 1) (fun _ => 0)) (r + 2) (fun _ => 0)) (r + 3) (fun _ => 0)) r (u1 (M r) 3 0), uA (uA (uA (uA F (r + 1) (fun _ => none)) (r + 2) (fun _ => none)) (r + 3) (fun _ => none)) r (u1 (u1 (u1 (F r) 0 (some (r + 1))) 1 (some (r + 2))) 2 (some (r + 3))), fun d hd => ?_, q3, rfl, ⟨hr, u3', ?_, ?_, ?_, v1', v2', v3⟩, (m0.tr m1).tr m2, fun c hc => ⟨?_, ?_⟩⟩
  · refine callD_go 2 hd rfl (fun e he => ?_)
    show R e m_X3_init 0 [.val (.ref r)] [] T M F = _
    have y9 : (400 : Int).toNat = 400 := rfl
    have n1 := fun {α : Type} (X : Nat → Int → α) f h => nA (g := r) (r := r + 1) X f h (by omega)
    have n2 := fun {α : Type} (X : Nat → Int → α) f h => nA (g := r) (r := r + 2) X f h (by omega)
    have n3 := fun {α : Type} (X : Nat → Int → α) f h => nA (g := r) (r := r + 3) X f h (by omega)
    clear m0 m1 m2 v1 v2 v3 v1' v2'
    simp (disch := omega) only [x_X3_init_0, x_X3_init_1, x_X3_init_4, x_X3_init_5, x_X3_init_8, x_X3_init_10, x_X3_init_13, x_X3_init_14, x_X3_init_17, x_X3_init_19, x_X3_init_22, x_X3_init_23, x_X3_init_26, x_X3_init_29, x_X3_init_32, x_X3_init_33, x_X3_init_34, x_X3_init_37, List.length_cons, List.length_nil, Nat.reduceLeDiff, Nat.zero_add, iI_add, iI_sub, iI_mul, iI_neg, iI_lt, iI_le, iI_eq, jI_iI, B_True, B_False, B_t, B_f, ck_True, gd_True, cb_v, cb_n, p_mv_rw, p_fv_rw, p_rv_some, pA_1, pA_90, pA_92, pA_3, pA_5, pA_93, pA_4, pA_91, pA_6, pS_i, pB_i, pW_i, pZ_0, pZ_1, pZ_b, bI_e0, u1_s, u1_n, uA_s, uA_n, true_and, and_true, not_true_eq_false, not_false_eq_true, eq_self, iI_z, al1, al5, al3, al4, al90, al91, al92, al93, al6, Int.cast_ofNat_Int, Nat.reduceAdd, Int.reduceNeg, Int.reduceAdd, Int.reduceSub, Int.reduceMul, Int.reduceLT, Int.reduceLE, Int.reduceGT, Int.reduceGE, Int.reduceEq, Int.reduceNe, Nat.reduceEqDiff, Int.zero_add, Int.add_zero, p_ty0, p_ty1, p_ty2, p_ty3, p_ty4, p_ty5, p_ty8, p_ty9, p_ty10, t0, hn, q1, q2, q3, u1', u2', u3', y9, n1, n2, n3, uA_uA, gd_t, ck_t]
  · rw [uA_s, u1_n (by decide), u1_n (by decide), u1_s]
  · rw [uA_s, u1_n (by decide), u1_s]
  · rw [uA_s, u1_s]
  · rw [uA_n (by omega), uA_n (by omega), uA_n (by omega), uA_n (by omega)]
  · rw [uA_n (by omega), uA_n (by omega), uA_n (by omega), uA_n (by omega)]
theorem i_teacher (ha : 100 ≤ a) (t0 : p_ty T a = (15, 1)) :
    ∃ M', (∀ d, 3 ≤ d → callD d m_X5_init [.ref a] T M F = some (.inl none, T, M', F)) ∧ IX a T M F T M' F := by
  refine ⟨uA M a (u1 (M a) 0 (-1)), fun d hd => ?_, s_mono.rf, fun c hc => ⟨uA_n (by omega), rfl⟩⟩
  refine callD_go 2 hd rfl (fun e he => ?_)
  show R e m_X5_init 0 [.val (.ref a)] [] T M F = _
  simp (disch := omega) only [x_X5_init_0, x_X5_init_1, x_X5_init_4, x_X5_init_5, x_X5_init_6, x_X5_init_9, List.length_cons, List.length_nil, Nat.reduceLeDiff, Nat.zero_add, iI_add, iI_sub, iI_mul, iI_neg, iI_lt, iI_le, iI_eq, jI_iI, B_True, B_False, B_t, B_f, ck_True, gd_True, cb_v, cb_n, p_mv_rw, p_fv_rw, p_rv_some, pA_1, pA_90, pA_92, pA_3, pA_5, pA_93, pA_4, pA_91, pA_6, pS_i, pB_i, pW_i, pZ_0, pZ_1, pZ_b, bI_e0, u1_s, u1_n, uA_s, uA_n, true_and, and_true, not_true_eq_false, not_false_eq_true, eq_self, iI_z, al1, al5, al3, al4, al90, al91, al92, al93, al6, Int.cast_ofNat_Int, Nat.reduceAdd, Int.reduceNeg, Int.reduceAdd, Int.reduceSub, Int.reduceMul, Int.reduceLT, Int.reduceLE, Int.reduceGT, Int.reduceGE, Int.reduceEq, Int.reduceNe, Nat.reduceEqDiff, Int.zero_add, Int.add_zero, p_ty0, p_ty1, p_ty2, p_ty3, p_ty4, p_ty5, p_ty8, p_ty9, p_ty10, t0, uA_uA, gd_t, ck_t]
theorem i_walk (hw : 100 ≤ w) (t0 : p_ty T w = (16, 4)) (hn : T.1.1 = w + 1) :
    ∃ T' M' F', (∀ d, 4 ≤ d → callD d m_X6_init [.ref w] T M F = some (.inl none, T', M', F')) ∧ T'.1.1 = w + 5 ∧ T'.1.2 = T.1.2 + 672 ∧ WT T' F' w ∧ RB M' (w + 1) (fun _ => 0) ∧ IX w T M F T' M' F' := by
  have m0 : s_mono T (p_new T 10 3) := s_mono.new
  have p1 : (p_new T 10 3).1.1 = w + 2 := by rw [p_nn, hn]
  have a1 : p_ty (p_new T 10 3) (w + 1) = (10, 3) := by rw [← hn]; exact p_ty_nw (by omega)
  have a0 : p_ty (p_new T 10 3) w = (16, 4) := (m0.2.2 w (by omega)).trans t0
  obtain ⟨T2, M2, F2, r2, n2, s2, B2, R2, I2⟩ := i_board (b := w + 1) (T := p_new T 10 3) (M := uA M (w + 1) (fun _ => 0)) (F := uA F (w + 1) (fun _ => none)) (by omega) a1 p1
  have hMw : M2 w = M w := (I2.2 w (by omega)).1.trans (uA_n (by omega))
  have hFw : F2 w = F w := (I2.2 w (by omega)).2.trans (uA_n (by omega))
  have m1 : s_mono T2 (p_new T2 1 289) := s_mono.new
  have m2 : s_mono (p_new T2 1 289) (p_new (p_new T2 1 289) 1 91) := s_mono.new
  have q1 : (p_new T2 1 289).1.1 = w + 4 := by rw [p_nn, n2]
  have q2 : (p_new (p_new T2 1 289) 1 91).1.1 = w + 5 := by rw [p_nn, q1]
  have w2 : p_ty T2 w = (16, 4) := (I2.1.2.2 w (by omega)).trans a0
  have w3 : p_ty (p_new T2 1 289) w = (16, 4) := (m1.2.2 w (by omega)).trans w2
  have w4 : p_ty (p_new (p_new T2 1 289) 1 91) w = (16, 4) := (m2.2.2 w (by omega)).trans w3
  have v1 : p_ty (p_new T2 1 289) (w + 3) = (1, 289) := by rw [show w + 3 = T2.1.1 by omega]; exact p_ty_nw (by omega)
  have v2 : p_ty (p_new (p_new T2 1 289) 1 91) (w + 4) = (1, 91) := by rw [← q1]; exact p_ty_nw (by omega)
  have v1' : p_ty (p_new (p_new T2 1 289) 1 91) (w + 3) = (1, 289) := (m2.2.2 _ (by omega)).trans v1
  obtain ⟨F3, hF3⟩ : ∃ F3 : pF, F3 = uA (uA (uA F2 (w + 3) (fun _ => none)) (w + 4) (fun _ => none)) w (u1 (u1 (u1 (F w) 0 (some (w + 1))) 1 (some (w + 3))) 2 (some (w + 4))) := ⟨_, rfl⟩
  obtain ⟨M3, hM3⟩ : ∃ M3 : pM, M3 = uA (uA (uA M2 (w + 3) (fun _ => 0)) (w + 4) (fun _ => 0)) w (u1 (M w) 3 0) := ⟨_, rfl⟩
  have fo : ∀ a, a < w + 3 → a ≠ w → M3 a = M2 a ∧ F3 a = F2 a := fun a h1 h2 => ⟨by rw [hM3, uA_n h2, uA_n (by omega), uA_n (by omega)], by rw [hF3, uA_n h2, uA_n (by omega), uA_n (by omega)]⟩
  have fw : F3 w = u1 (u1 (u1 (F w) 0 (some (w + 1))) 1 (some (w + 3))) 2 (some (w + 4)) := by rw [hF3, uA_s]
  refine ⟨p_new (p_new T2 1 289) 1 91, M3, F3, fun d hd => ?_, q2, ?_, ⟨hw, w4, ?_, ⟨?_, ?_, ?_, ?_⟩, v1', ?_, v2, ?_⟩, ?_, ((m0.tr I2.1).tr m1).tr m2, fun c hc => ⟨?_, ?_⟩⟩
  · refine callD_go 3 hd rfl (fun e he => ?_)
    show R e m_X6_init 0 [.val (.ref w)] [] T M F = _
    have r2 := r2 e he
    have y9 : (289 : Int).toNat = 289 := rfl
    have y91 : (91 : Int).toNat = 91 := rfl
    have k3 := fun {α : Type} (X : Nat → Int → α) f h => nA (g := w) (r := w + 3) X f h (by omega)
    have k4 := fun {α : Type} (X : Nat → Int → α) f h => nA (g := w) (r := w + 4) X f h (by omega)
    rw [hM3, hF3]
    clear m0 I2 R2 B2 m1 m2 v1 v2 v1' hF3 hM3 fo fw
    simp (disch := omega) only [x_X6_init_0, x_X6_init_1, x_X6_init_4, x_X6_init_5, x_X6_init_8, x_X6_init_9, x_X6_init_12, x_X6_init_15, x_X6_init_16, x_X6_init_19, x_X6_init_21, x_X6_init_24, x_X6_init_25, x_X6_init_27, x_X6_init_29, x_X6_init_32, x_X6_init_33, x_X6_init_34, x_X6_init_37, List.length_cons, List.length_nil, Nat.reduceLeDiff, Nat.zero_add, iI_add, iI_sub, iI_mul, iI_neg, iI_lt, iI_le, iI_eq, jI_iI, B_True, B_False, B_t, B_f, ck_True, gd_True, cb_v, cb_n, p_mv_rw, p_fv_rw, p_rv_some, pA_1, pA_90, pA_92, pA_3, pA_5, pA_93, pA_4, pA_91, pA_6, pS_i, pB_i, pW_i, pZ_0, pZ_1, pZ_b, bI_e0, u1_s, u1_n, uA_s, uA_n, true_and, and_true, not_true_eq_false, not_false_eq_true, eq_self, iI_z, al1, al5, al3, al4, al90, al91, al92, al93, al6, Int.cast_ofNat_Int, Nat.reduceAdd, Int.reduceNeg, Int.reduceAdd, Int.reduceSub, Int.reduceMul, Int.reduceLT, Int.reduceLE, Int.reduceGT, Int.reduceGE, Int.reduceEq, Int.reduceNe, Nat.reduceEqDiff, Int.zero_add, Int.add_zero, p_ty0, p_ty1, p_ty2, p_ty3, p_ty4, p_ty5, p_ty8, p_ty9, p_ty10, t0, a0, a1, hn, hMw, hFw, n2, q1, q2, w2, w3, w4, r2, y9, y91, k3, k4, uA_uA, gd_t, ck_t]
  · show T2.1.2 + 289 + 91 = _
    rw [s2]; show T.1.2 + 3 + 289 + 289 + 91 = _; omega
  · rw [fw, u1_n (by decide), u1_n (by decide), u1_s]
  · omega
  · exact ((m1.tr m2).2.2 _ (by omega)).trans B2.2.1
  · exact ((m1.tr m2).2.2 _ (by omega)).trans B2.2.2.1
  · rw [(fo _ (by omega) (by omega)).2]; exact B2.2.2.2
  · rw [fw, u1_n (by decide), u1_s]
  · rw [fw, u1_s]
  · unfold RB at R2 ⊢
    rw [(fo _ (by omega) (by omega)).1, (fo _ (by omega) (by omega)).1]
    exact R2
  · rw [(fo c (by omega) (by omega)).1, (I2.2 c (by omega)).1, uA_n (by omega)]
  · rw [(fo c (by omega) (by omega)).2, (I2.2 c (by omega)).2, uA_n (by omega)]
theorem i_game (hg : 100 ≤ g) (t0 : p_ty T g = (11, 14)) (hn : T.1.1 = g + 1) :
    ∃ T' M' F', (∀ d, 4 ≤ d → callD d m_X1_init [.ref g] T M F = some (.inl none, T', M', F')) ∧ T'.1.1 = g + 7 ∧ T'.1.2 = T.1.2 + 1806 ∧ GT T' F' g ∧ GAx M' g (fun _ => 0, 0, -1, 0, []) ∧ BV (M' (g + 1 + 1)) ∧ IX g T M F T' M' F' := by
  have m0 : s_mono T (p_new T 10 3) := s_mono.new
  have p1 : (p_new T 10 3).1.1 = g + 2 := by rw [p_nn, hn]
  have a1 : p_ty (p_new T 10 3) (g + 1) = (10, 3) := by rw [← hn]; exact p_ty_nw (by omega)
  have a0 : p_ty (p_new T 10 3) g = (11, 14) := (m0.2.2 g (by omega)).trans t0
  obtain ⟨T2, M2, F2, r2, n2, s2, B2, R2, I2⟩ := i_board (b := g + 1) (T := p_new T 10 3) (M := uA M (g + 1) (fun _ => 0)) (F := uA F (g + 1) (fun _ => none)) (by omega) a1 p1
  have hMw : M2 g = M g := (I2.2 g (by omega)).1.trans (uA_n (by omega))
  have hFw : F2 g = F g := (I2.2 g (by omega)).2.trans (uA_n (by omega))
  obtain ⟨Ta, hTa⟩ : ∃ Ta, Ta = p_new T2 3 620 := ⟨_, rfl⟩
  obtain ⟨Tb, hTb⟩ : ∃ Tb, Tb = p_new Ta 1 840 := ⟨_, rfl⟩
  obtain ⟨Tc, hTc⟩ : ∃ Tc, Tc = p_new Tb 1 42 := ⟨_, rfl⟩
  obtain ⟨Td, hTd⟩ : ∃ Td, Td = p_new Tc 1 12 := ⟨_, rfl⟩
  have ma : s_mono T2 Ta := by rw [hTa]; exact s_mono.new
  have mb : s_mono Ta Tb := by rw [hTb]; exact s_mono.new
  have mc : s_mono Tb Tc := by rw [hTc]; exact s_mono.new
  have md : s_mono Tc Td := by rw [hTd]; exact s_mono.new
  have qa : Ta.1.1 = g + 4 := by rw [hTa, p_nn, n2]
  have qb : Tb.1.1 = g + 5 := by rw [hTb, p_nn, qa]
  have qc : Tc.1.1 = g + 6 := by rw [hTc, p_nn, qb]
  have qd : Td.1.1 = g + 7 := by rw [hTd, p_nn, qc]
  have w2 : p_ty T2 g = (11, 14) := (I2.1.2.2 g (by omega)).trans a0
  have wa : p_ty Ta g = (11, 14) := (ma.2.2 g (by omega)).trans w2
  have wb : p_ty Tb g = (11, 14) := (mb.2.2 g (by omega)).trans wa
  have wc : p_ty Tc g = (11, 14) := (mc.2.2 g (by omega)).trans wb
  have wd : p_ty Td g = (11, 14) := (md.2.2 g (by omega)).trans wc
  have va : p_ty Ta (g + 3) = (3, 620) := by rw [show g + 3 = T2.1.1 by omega, hTa]; exact p_ty_nw (by omega)
  have vb : p_ty Tb (g + 4) = (1, 840) := by rw [← qa, hTb]; exact p_ty_nw (by omega)
  have vc : p_ty Tc (g + 5) = (1, 42) := by rw [← qb, hTc]; exact p_ty_nw (by omega)
  have vd : p_ty Td (g + 6) = (1, 12) := by rw [← qc, hTd]; exact p_ty_nw (by omega)
  obtain ⟨F3, hF3⟩ : ∃ F3 : pF, F3 = uA (uA (uA (uA (uA F2 (g + 3) (fun _ => none)) (g + 4) (fun _ => none)) (g + 5) (fun _ => none)) (g + 6) (fun _ => none)) g (u1 (u1 (u1 (u1 (u1 (F g) 0 (some (g + 1))) 4 (some (g + 3))) 6 (some (g + 4))) 9 (some (g + 5))) 11 (some (g + 6))) := ⟨_, rfl⟩
  obtain ⟨M3, hM3⟩ : ∃ M3 : pM, M3 = uA (uA (uA (uA (uA M2 (g + 3) (fun _ => 0)) (g + 4) (fun _ => 0)) (g + 5) (fun _ => 0)) (g + 6) (fun _ => 0)) g (u1 (u1 (u1 (u1 (u1 (u1 (u1 (u1 (u1 (M g) 1 0) 2 0) 3 (-1)) 5 0) 7 0) 8 0) 10 0) 12 0) 13 0) := ⟨_, rfl⟩
  have fo : ∀ a, a < g + 3 → a ≠ g → M3 a = M2 a ∧ F3 a = F2 a := fun a h1 h2 => ⟨by rw [hM3, uA_n h2, uA_n (by omega), uA_n (by omega), uA_n (by omega), uA_n (by omega)], by rw [hF3, uA_n h2, uA_n (by omega), uA_n (by omega), uA_n (by omega), uA_n (by omega)]⟩
  have fw : F3 g = u1 (u1 (u1 (u1 (u1 (F g) 0 (some (g + 1))) 4 (some (g + 3))) 6 (some (g + 4))) 9 (some (g + 5))) 11 (some (g + 6)) := by rw [hF3, uA_s]
  have mw : M3 g = u1 (u1 (u1 (u1 (u1 (u1 (u1 (u1 (u1 (M g) 1 0) 2 0) 3 (-1)) 5 0) 7 0) 8 0) 10 0) 12 0) 13 0 := by rw [hM3, uA_s]
  have RB3 : RB M3 (g + 1) (fun _ => 0) := by
    unfold RB at R2 ⊢
    rw [(fo _ (by omega) (by omega)).1, (fo _ (by omega) (by omega)).1]
    exact R2
  refine ⟨Td, M3, F3, fun d hd => ?_, qd, ?_, ⟨hg, wd, ?_, ⟨by omega, ?_, ?_, ?_⟩, ?_, ?_, ?_, ?_, ?_, ?_, vd, ?_⟩, GAx.new ⟨RB3, ?_, ?_, ?_, Or.inl rfl, by omega, Or.inl rfl⟩ ?_ ?_ p20_0, RB3.1, (((((m0.tr I2.1).tr ma).tr mb).tr mc).tr md), fun c hc => ⟨?_, ?_⟩⟩
  · refine callD_go 3 hd rfl (fun e he => ?_)
    show R e m_X1_init 0 [.val (.ref g)] [] T M F = _
    have r2 := r2 e he
    have y1 : (620 : Int).toNat = 620 := rfl
    have y2 : (840 : Int).toNat = 840 := rfl
    have y3 : (42 : Int).toNat = 42 := rfl
    have y4 : (12 : Int).toNat = 12 := rfl
    have k3 := fun {α : Type} (X : Nat → Int → α) f h => nA (g := g) (r := g + 3) X f h (by omega)
    have k4 := fun {α : Type} (X : Nat → Int → α) f h => nA (g := g) (r := g + 4) X f h (by omega)
    have k5 := fun {α : Type} (X : Nat → Int → α) f h => nA (g := g) (r := g + 5) X f h (by omega)
    have k6 := fun {α : Type} (X : Nat → Int → α) f h => nA (g := g) (r := g + 6) X f h (by omega)
    rw [hM3, hF3]
    clear m0 I2 R2 B2 ma mb mc md va vb vc vd hF3 hM3 fo fw mw RB3
    have ea := hTa.symm
    have eb := hTb.symm
    have ec := hTc.symm
    have ed := hTd.symm
    simp (disch := omega) only [x_X1_init_0, x_X1_init_1, x_X1_init_4, x_X1_init_5, x_X1_init_8, x_X1_init_9, x_X1_init_12, x_X1_init_15, x_X1_init_16, x_X1_init_17, x_X1_init_20, x_X1_init_21, x_X1_init_22, x_X1_init_25, x_X1_init_26, x_X1_init_27, x_X1_init_30, x_X1_init_31, x_X1_init_34, x_X1_init_36, x_X1_init_39, x_X1_init_40, x_X1_init_41, x_X1_init_44, x_X1_init_45, x_X1_init_48, x_X1_init_50, x_X1_init_53, x_X1_init_54, x_X1_init_55, x_X1_init_58, x_X1_init_59, x_X1_init_60, x_X1_init_63, x_X1_init_64, x_X1_init_66, x_X1_init_68, x_X1_init_71, x_X1_init_72, x_X1_init_73, x_X1_init_76, x_X1_init_77, x_X1_init_80, x_X1_init_81, x_X1_init_83, x_X1_init_86, x_X1_init_87, x_X1_init_88, x_X1_init_91, x_X1_init_92, x_X1_init_93, x_X1_init_96, List.length_cons, List.length_nil, Nat.reduceLeDiff, Nat.zero_add, iI_add, iI_sub, iI_mul, iI_neg, iI_lt, iI_le, iI_eq, jI_iI, B_True, B_False, B_t, B_f, ck_True, gd_True, cb_v, cb_n, p_mv_rw, p_fv_rw, p_rv_some, pA_1, pA_90, pA_92, pA_3, pA_5, pA_93, pA_4, pA_91, pA_6, pS_i, pB_i, pW_i, pZ_0, pZ_1, pZ_b, bI_e0, u1_s, u1_n, uA_s, uA_n, true_and, and_true, not_true_eq_false, not_false_eq_true, eq_self, iI_z, al1, al5, al3, al4, al90, al91, al92, al93, al6, Int.cast_ofNat_Int, Nat.reduceAdd, Int.reduceNeg, Int.reduceAdd, Int.reduceSub, Int.reduceMul, Int.reduceLT, Int.reduceLE, Int.reduceGT, Int.reduceGE, Int.reduceEq, Int.reduceNe, Nat.reduceEqDiff, Int.zero_add, Int.add_zero, p_ty0, p_ty1, p_ty2, p_ty3, p_ty4, p_ty5, p_ty8, p_ty9, p_ty10, t0, a0, a1, hn, hMw, hFw, n2, qa, qb, qc, qd, w2, wa, wb, wc, wd, r2, y1, y2, y3, y4, ea, eb, ec, ed, k3, k4, k5, k6, uA_uA, gd_t, ck_t]
  · rw [hTd, hTc, hTb, hTa]
    show T2.1.2 + 620 + 840 + 42 + 12 = _
    rw [s2]; show T.1.2 + 3 + 289 + 620 + 840 + 42 + 12 = _; omega
  · rw [fw, u1_n (by decide), u1_n (by decide), u1_n (by decide), u1_n (by decide), u1_s]
  · exact ((((ma.tr mb).tr mc).tr md).2.2 _ (by omega)).trans B2.2.1
  · exact ((((ma.tr mb).tr mc).tr md).2.2 _ (by omega)).trans B2.2.2.1
  · rw [(fo _ (by omega) (by omega)).2]; exact B2.2.2.2
  · exact (((mb.tr mc).tr md).2.2 _ (by omega)).trans va
  · rw [fw, u1_n (by decide), u1_n (by decide), u1_n (by decide), u1_s]
  · exact ((mc.tr md).2.2 _ (by omega)).trans vb
  · rw [fw, u1_n (by decide), u1_n (by decide), u1_s]
  · exact (md.2.2 _ (by omega)).trans vc
  · rw [fw, u1_n (by decide), u1_s]
  · rw [fw, u1_s]
  · rw [mw, u1_n (by decide), u1_n (by decide), u1_n (by decide), u1_n (by decide), u1_n (by decide), u1_n (by decide), u1_n (by decide), u1_n (by decide), u1_s]
  · rw [mw, u1_n (by decide), u1_n (by decide), u1_n (by decide), u1_n (by decide), u1_n (by decide), u1_n (by decide), u1_n (by decide), u1_s]
  · rw [mw, u1_n (by decide), u1_n (by decide), u1_n (by decide), u1_n (by decide), u1_n (by decide), u1_n (by decide), u1_s]; rfl
  · rw [mw, u1_n (by decide), u1_n (by decide), u1_n (by decide), u1_n (by decide), u1_n (by decide), u1_s]
  · rw [mw, u1_n (by decide), u1_n (by decide), u1_n (by decide), u1_s]
  · rw [(fo c (by omega) (by omega)).1, (I2.2 c (by omega)).1, uA_n (by omega)]
  · rw [(fo c (by omega) (by omega)).2, (I2.2 c (by omega)).2, uA_n (by omega)]
end PINJ
