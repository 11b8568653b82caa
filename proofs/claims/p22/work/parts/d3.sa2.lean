section PSA2
variable {d k s b n D r c0 : Nat} {T T1 T2 : pT} {M M1 M2 : pM} {F F1 F2 : pF} {S S1 : GSx} {ea ea1 z z1 mv x c i j w : Int} {bs bs1 : Int → Int}
/-- the array of the counts is filled -/
noncomputable def saC (S : GSx) : Int → Int := u1 (u1 (u1 (u1 (u1 (u1 (u1 (u1 (u1 (u1 (u1 (fun _ => 0) 0 (z_cnt S 0 0)) 1 (z_cnt S 0 1)) 2 (z_cnt S 0 2)) 3 (z_cnt S 0 3)) 4 (z_cnt S 0 4)) 5 (z_cnt S 0 5)) 6 (z_cnt S 0 6)) 7 (z_cnt S 0 7)) 8 (z_cnt S 0 8)) 9 (z_cnt S 0 9)) 10 (z_cnt S 0 10)
theorem saC_at (i : Int) (h : 0 ≤ i) (h1 : i ≤ 10) : saC S i = z_cnt S 0 i := by
  have : i = 0 ∨ i = 1 ∨ i = 2 ∨ i = 3 ∨ i = 4 ∨ i = 5 ∨ i = 6 ∨ i = 7 ∨ i = 8 ∨ i = 9 ∨ i = 10 := by omega
  unfold saC
  rcases this with rfl | rfl | rfl | rfl | rfl | rfl | rfl | rfl | rfl | rfl | rfl <;> simp (disch := omega) only [u1_s, u1_n]
theorem LQ.st (h : LQ k s b T M F S mv) (hm : s_mono T T1) (hf : ∀ a, a < T.1.1 → (a < 127 + k) → M1 a = M a ∧ F1 a = F a) : LQ k s b T1 M1 F1 S mv := by
  have hn := h.cnt
  obtain ⟨hsb, hI, hS, ea, bs, hW⟩ := h
  exact ⟨hsb, ⟨hI.1, (hm.2.2 s (by omega)).trans hI.2.1, by rw [(hf s (by omega) (by omega)).2]; exact hI.2.2.1, hI.2.2.2.1, (hm.2.2 b (by omega)).trans hI.2.2.2.2.1, hI.2.2.2.2.2⟩, hS.eq (hf s (by omega) (by omega)).1 (hf b (by omega) (by omega)).1, ea, bs, hW.up hm (fun b0 h1 h2 => hf b0 (by omega) (by omega))⟩
theorem cellOf_pp {pas : Int} (hp : pas = -1 ∨ 0 ≤ pas ∧ pas < 91) (hd : 3 ≤ d) : (pp1 pas < 0 ∧ pas = -1) ∨ (¬ pp1 pas < 0 ∧ (0 ≤ pas ∧ pas < 91) ∧ ∀ (T : pT) (M : pM) (F : pF), callD d m_X8_cellOf [.int (iI (pp1 pas))] T M F = some (.inl (some (.int (iI pas))), T, M, F)) := by
  unfold pp1
  rcases hp with rfl | h
  · exact Or.inl ⟨by rw [if_pos rfl]; decide, rfl⟩
  · rw [if_neg (by omega)]
    have := (c1_pl1 h).2.1
    exact Or.inr ⟨by omega, h, fun T M F => z_cellOf h hd⟩
theorem sm_wo_rg (hb : MB S.1) (i : Int) : 0 ≤ sm (a_wo S.1 i) 91 ∧ sm (a_wo S.1 i) 91 ≤ 910 := by
  have := sm_rg (f := a_wo S.1 i) (a := 0) (b := 10) (fun k => by
    unfold a_wo
    split
    · exact m_wor_rg
    · omega) 91
  omega
theorem z_isSame (h : LQ k s b T M F S mv) (hmv : mv = S.2.2.2.2.length) (hm9 : mv ≤ 900) {e : Nat} (he : 10 ≤ e) : ∃ T' M' F', callD (e + 1) m_X8_isSame [.ref s, .ref (100 + k)] T M F = some (.inl (some (.int (iI 1))), T', M', F') ∧ T'.1.1 ≤ T.1.1 + 12000 ∧ T'.1.2 ≤ T.1.2 + 1300000 := by
  have hn := h.cnt
  obtain ⟨⟨f1, f2, f3⟩, ht, hPS, hq, hlA, hlQ, -⟩ := h.sf
  have hsb := h.1
  have hq9 : S.2.2.2.1 ≤ 900 := by omega
  obtain ⟨T1, M1, F1, r1, c1, x1⟩ := z_how (by omega) h.2.1 (by omega) (by omega) h.2.2.1 hPS f3 hlA hq9 hm9
  have L1 := h.ix x1
  have n1 := x1.1.1
  obtain ⟨T2, M2, F2, r, r2, c2, x2, A2, g2, g3⟩ := z_legal (by omega) L1.2.1 (by omega) (by omega) L1.2.2.1 hPS f3 hlA hq9 hm9
  have L2 := L1.ix x2
  have n2 := x2.1.1
  have y0 : s_mono T2 (p_new T2 1 11) := s_mono.new
  have y1 : p_ty (p_new T2 1 11) r = p_ty T2 r := p_ty_nx g3
  obtain ⟨T3, hT3⟩ : ∃ T3 : pT, T3 = p_new T2 1 11 := ⟨_, rfl⟩
  have t3 : p_ty T3 T2.1.1 = (1, 11) := by rw [hT3]; exact p_ty_nw (by omega)
  rw [← hT3] at y0 y1
  have L3 : ∀ v, LQ k s b T3 (uA M2 T2.1.1 v) (uA F2 T2.1.1 (fun _ => none)) S mv := fun v => L2.ix ⟨y0, fun a ha => ⟨uA_n (by omega), uA_n (by omega)⟩⟩
  obtain ⟨v3, hv3⟩ : ∃ v3 : Int → Int, v3 = u1 (u1 (u1 (u1 (fun _ => 0) 0 (z_cnt S 0 0)) 1 (z_cnt S 0 1)) 2 (z_cnt S 0 2)) 3 (z_cnt S 0 3) := ⟨_, rfl⟩
  have L3' := L3 v3
  have nn : T3.1.1 = T2.1.1 + 1 := by rw [hT3]; rfl
  have ns : T3.1.2 = T2.1.2 + 11 := by rw [hT3]; rfl
  obtain ⟨T4, M4, F4, r4, c4, x4⟩ := z_worths (T := T3) (M := uA M2 T2.1.1 v3) (F := uA F2 T2.1.1 (fun _ => none)) (by omega) L3'.2.1 (by omega) (by omega) L3'.2.2.1.1 (side := 0) (Or.inl rfl)
  have L4 := L3'.ix x4
  have n4 := x4.1.1
  have m4 : M4 T2.1.1 = v3 := by rw [(x4.2 T2.1.1 (by omega)).1, uA_s]
  have t4 : p_ty T4 T2.1.1 = (1, 11) := (x4.1.2.2 _ (by omega)).trans t3
  have S5 : ∀ (T : pT) (M : pM) (F : pF) (v : Int → Int), LQ k s b T M F S mv → T2.1.1 < T.1.1 → LQ k s b T (uA M T2.1.1 v) F S mv := fun T M F v hL hc => hL.st s_mono.rf (fun a _ ha => ⟨uA_n (by omega), rfl⟩)
  have L4' := S5 T4 M4 F4 (u1 v3 4 (z_cnt S 0 4)) L4 (by omega)
  obtain ⟨T5, M5, F5, r5, c5, x5⟩ := z_worths (T := T4) (M := uA M4 T2.1.1 (u1 v3 4 (z_cnt S 0 4))) (F := F4) (by omega) L4'.2.1 (by omega) (by omega) L4'.2.2.1.1 (side := 1) (Or.inr rfl)
  have L5 := L4'.ix x5
  have n5 := x5.1.1
  have m5 : M5 T2.1.1 = u1 v3 4 (z_cnt S 0 4) := by rw [(x5.2 T2.1.1 (by omega)).1, uA_s]
  have t5 : p_ty T5 T2.1.1 = (1, 11) := (x5.1.2.2 _ (by omega)).trans t4
  have L6 := S5 T5 M5 F5 (saC S) L5 (by omega)
  have A3 : AR T5 (uA M5 T2.1.1 (saC S)) r (lgQ S.1 S.2.1 S.2.2.1 S.2.2.2.1) := by
    have a1 : AR T3 (uA M2 T2.1.1 v3) r (lgQ S.1 S.2.1 S.2.2.1 S.2.2.2.1) := ⟨A2.1, y1.trans A2.2.1, fun j hj => by rw [uA_n (by omega)]; exact A2.2.2 j hj⟩
    have a2 := a1.ix x4 (by omega) (by omega)
    have a3 : AR T4 (uA M4 T2.1.1 (u1 v3 4 (z_cnt S 0 4))) r (lgQ S.1 S.2.1 S.2.2.1 S.2.2.2.1) := ⟨a2.1, a2.2.1, fun j hj => by rw [uA_n (by omega)]; exact a2.2.2 j hj⟩
    have a4 := a3.ix x5 (by omega) (by omega)
    exact ⟨a4.1, a4.2.1, fun j hj => by rw [uA_n (by omega)]; exact a4.2.2 j hj⟩
  -- the loops
  obtain ⟨T7, M7, F7, e7, L7, K7⟩ := sa_1 (e := e) (by omega) (l2 := .val (.int (iI (hw S.1 S.2.1 S.2.2.1 S.2.2.2.1)))) (l3 := .val (.ref r)) (l6 := .unset) (c0 := T2.1.1) (by omega) 11 0 T5 (uA M5 T2.1.1 (saC S)) F5 L6 (by omega) t5 (fun i h1 h2 => by rw [uA_s]; exact saC_at i h1 h2) (by omega) (by omega)
  have A7 := A3.ky K7.ky (by omega) (by omega)
  obtain ⟨T8, M8, F8, e8, L8, K8⟩ := sa_2 (e := e) (by omega) (l2 := .val (.int (iI (hw S.1 S.2.1 S.2.2.1 S.2.2.2.1)))) (l4 := .val (.ref T2.1.1)) (l6 := .unset) (by omega) _ rfl (lgQ S.1 S.2.1 S.2.2.1 S.2.2.2.1).length 0 T7 M7 F7 L7 (by rw [K7.lt]; omega) A7 (by omega) (by omega)
  have A8 := A7.ky K8.ky (by rw [K7.lt]; omega) (by omega)
  obtain ⟨T9, M9, F9, l6', e9, L9, K9⟩ := sa_3 (e := e) (by omega) (l2 := .val (.int (iI (hw S.1 S.2.1 S.2.2.1 S.2.2.2.1)))) (l3 := .val (.ref r)) (l4 := .val (.ref T2.1.1)) 91 0 .unset T8 M8 F8 L8 (by omega) (by omega)
  have A9 := A8.ky K9.ky (by rw [K8.lt, K7.lt]; omega) (by omega)
  have pcs := z_pieces (d := e) (T := T9) (F := F9) L9.2.1 L9.sm ht (by omega)
  obtain ⟨Ta, Ma, Fa, ea', La, Ka⟩ := q_lines (d := e) L9 (by omega)
  have Aa := A9.ky Ka.ky (by rw [K9.lt, K8.lt, K7.lt]; omega) (by omega)
  obtain ⟨Tb, Mb, Fb, eb, Lb, Kb⟩ := q_mean (d := e) La (by omega)
  have Ab := Aa.ky Kb.ky (by rw [Ka.lt, K9.lt, K8.lt, K7.lt]; omega) (by omega)
  have hnb : Tb.1 = T5.1 := by rw [Kb.2.1, Ka.2.1, K9.2.1, K8.2.1, K7.2.1]
  refine ⟨Tb, Mb, Fb, ?_, ?_, ?_⟩
  · have hc100 : 100 ≤ T2.1.1 := by omega
    have nsc : s ≠ T2.1.1 := by omega
    have nrc : r ≠ T2.1.1 := by omega
    have s2' := L2.2.2.1.2
    have p2 := L2.2.1.2.1
    have p3 := L3'.2.1.2.1
    have p4 := L4.2.1.2.1
    have p5 := L5.2.1.2.1
    have s4' := L4.2.2.1.2
    have s5' := L5.2.2.1.2
    have s100 := h.2.1.1
    have hwr := hw_rg (bb := S.1) (t := S.2.1) (pas := S.2.2.1) (q := S.2.2.2.1)
    have w0r := sm_wo_rg f1 0
    have w1r := sm_wo_rg f1 1
    have eA : R e m_X8_isSame 0 [.val (.ref s), .val (.ref (100 + k)), .unset, .unset, .unset, .unset, .unset] [] T M F = R e m_X8_isSame 39 [.val (.ref s), .val (.ref (100 + k)), .val (.int (iI (hw S.1 S.2.1 S.2.2.1 S.2.2.2.1))), .val (.ref r), .unset, .unset, .unset] [.int (iI 4), .ref T2.1.1, .ref T2.1.1] T3 (uA M2 T2.1.1 v3) (uA F2 T2.1.1 (fun _ => none)) := by
      have r1 := r1 e (by omega)
      have r2 := r2 e (by omega)
      have ps := h.2.1.2.1
      have ps1 := L1.2.1.2.1
      have ar := A2.2.1
      have ar1 := A2.1
      have ar3 : p_ty T3 r = (1, (lgQ S.1 S.2.1 S.2.2.1 S.2.2.2.1).length) := y1.trans ar
      have y11 : (11 : Int).toNat = 11 := rfl
      obtain ⟨z1, z2, z3, z4, -⟩ := s2'
      have c0 : z_cnt S 0 0 = mv := by rw [hmv]; rfl
      have c1' : z_cnt S 0 1 = S.2.1 := rfl
      have c2' : z_cnt S 0 2 = hw S.1 S.2.1 S.2.2.1 S.2.2.2.1 := rfl
      have c3' : z_cnt S 0 3 = ((lgQ S.1 S.2.1 S.2.2.1 S.2.2.2.1).length : Int) := rfl
      have hmv0 : 0 ≤ mv := by omega
      rw [c0, c1', c2', c3'] at hv3
      rw [hv3]
      clear L1 L2 L3 L3' L4 L4' L5 S5 L6 A3 e7 e8 e9 A7 A8 A9 Aa Ab L7 L8 L9 La Lb h x1 x2 x4 x5 r4 r5 pcs ea' eb A2
      rw [hT3] at p3 ar3 t3 ⊢
      generalize hw S.1 S.2.1 S.2.2.1 S.2.2.2.1 = hh at *
      generalize (lgQ S.1 S.2.1 S.2.2.1 S.2.2.2.1).length = ln at *
      simp (disch := omega) only [x_X8_isSame_0, x_X8_isSame_1, x_X8_isSame_4, x_X8_isSame_5, x_X8_isSame_6, x_X8_isSame_9, x_X8_isSame_10, x_X8_isSame_12, x_X8_isSame_14, x_X8_isSame_15, x_X8_isSame_16, x_X8_isSame_17, x_X8_isSame_20, x_X8_isSame_21, x_X8_isSame_22, x_X8_isSame_23, x_X8_isSame_24, x_X8_isSame_27, x_X8_isSame_28, x_X8_isSame_29, x_X8_isSame_30, x_X8_isSame_31, x_X8_isSame_32, x_X8_isSame_33, x_X8_isSame_34, x_X8_isSame_35, x_X8_isSame_36, x_X8_isSame_37, x_X8_isSame_38, List.length_cons, List.length_nil, Nat.reduceLeDiff, Nat.zero_add, iI_add, iI_sub, iI_mul, iI_neg, iI_lt, iI_le, iI_eq, jI_iI, B_True, B_False, B_t, B_f, ck_True, gd_True, cb_v, cb_n, p_mv_rw, p_fv_rw, p_rv_some, pA_1, pA_90, pA_92, pA_3, pA_5, pA_93, pA_4, pA_91, pA_6, pS_i, pB_i, pW_i, pZ_0, pZ_1, pZ_b, bI_e0, u1_s, u1_n, uA_s, uA_n, true_and, and_true, not_true_eq_false, not_false_eq_true, eq_self, iI_z, al1, al5, al3, al4, al90, al91, al92, al93, al6, Int.cast_ofNat_Int, Nat.reduceAdd, Int.reduceNeg, Int.reduceAdd, Int.reduceSub, Int.reduceMul, Int.reduceLT, Int.reduceLE, Int.reduceGT, Int.reduceGE, Int.reduceEq, Int.reduceNe, Nat.reduceEqDiff, Int.zero_add, Int.add_zero, p_ty0, p_ty1, p_ty2, p_ty3, p_ty4, p_ty5, p_ty8, p_ty9, p_ty10, r1, r2, ps, ps1, p2, p3, ar, ar3, t3, y11, z1, z2, z3, z4, uA_uA, nsc, gd_t, ck_t, B_t, B_f]
    have eB : R e m_X8_isSame 39 [.val (.ref s), .val (.ref (100 + k)), .val (.int (iI (hw S.1 S.2.1 S.2.2.1 S.2.2.2.1))), .val (.ref r), .unset, .unset, .unset] [.int (iI 4), .ref T2.1.1, .ref T2.1.1] T3 (uA M2 T2.1.1 v3) (uA F2 T2.1.1 (fun _ => none)) = R e m_X8_isSame 47 [.val (.ref s), .val (.ref (100 + k)), .val (.int (iI (hw S.1 S.2.1 S.2.2.1 S.2.2.2.1))), .val (.ref r), .unset, .unset, .unset] [.int (iI 5), .ref T2.1.1, .ref T2.1.1] T4 (uA M4 T2.1.1 (u1 v3 4 (z_cnt S 0 4))) F4 := by
      have r4 := r4 e (by omega)
      have c4' : z_cnt S 0 4 = sm (a_wo S.1 0) 91 := rfl
      rw [c4']
      clear L1 L2 L3 L3' L4 L4' L5 S5 L6 A3 e7 e8 e9 A7 A8 A9 Aa Ab L7 L8 L9 La Lb h x1 x2 x4 x5 r5 pcs ea' eb A2 eA
      generalize sm (a_wo S.1 0) 91 = w0 at *
      simp (disch := omega) only [x_X8_isSame_39, x_X8_isSame_40, x_X8_isSame_41, x_X8_isSame_44, x_X8_isSame_45, x_X8_isSame_46, List.length_cons, List.length_nil, Nat.reduceLeDiff, Nat.zero_add, iI_add, iI_sub, iI_mul, iI_neg, iI_lt, iI_le, iI_eq, jI_iI, B_True, B_False, B_t, B_f, ck_True, gd_True, cb_v, cb_n, p_mv_rw, p_fv_rw, p_rv_some, pA_1, pA_90, pA_92, pA_3, pA_5, pA_93, pA_4, pA_91, pA_6, pS_i, pB_i, pW_i, pZ_0, pZ_1, pZ_b, bI_e0, u1_s, u1_n, uA_s, uA_n, true_and, and_true, not_true_eq_false, not_false_eq_true, eq_self, iI_z, al1, al5, al3, al4, al90, al91, al92, al93, al6, Int.cast_ofNat_Int, Nat.reduceAdd, Int.reduceNeg, Int.reduceAdd, Int.reduceSub, Int.reduceMul, Int.reduceLT, Int.reduceLE, Int.reduceGT, Int.reduceGE, Int.reduceEq, Int.reduceNe, Nat.reduceEqDiff, Int.zero_add, Int.add_zero, p_ty0, p_ty1, p_ty2, p_ty3, p_ty4, p_ty5, p_ty8, p_ty9, p_ty10, r4, m4, p3, t4, uA_uA, gd_t, ck_t, B_t, B_f]
    have eC : R e m_X8_isSame 47 [.val (.ref s), .val (.ref (100 + k)), .val (.int (iI (hw S.1 S.2.1 S.2.2.1 S.2.2.2.1))), .val (.ref r), .unset, .unset, .unset] [.int (iI 5), .ref T2.1.1, .ref T2.1.1] T4 (uA M4 T2.1.1 (u1 v3 4 (z_cnt S 0 4))) F4 = R e m_X8_isSame 113 [.val (.ref s), .val (.ref (100 + k)), .val (.int (iI (hw S.1 S.2.1 S.2.2.1 S.2.2.2.1))), .val (.ref r), .val (.ref T2.1.1), .val (.int (iI 0)), .unset] [] T5 (uA M5 T2.1.1 (saC S)) F5 := by
      have r5 := r5 e (by omega)
      have hp7 := fun (v : Int → Int) => z_points (d := e) (T := T5) (M := uA M5 T2.1.1 v) (F := F5) (s := s) (b := b) (bb := S.1) (t := S.2.1) (pas := S.2.2.1) (q := S.2.2.2.1) (mv := mv) L5.2.1 (S5 T5 M5 F5 v L5 (by omega)).2.2.1 hwr (side := 0) (Or.inl rfl) (by omega)
      have hp8 := fun (v : Int → Int) => z_points (d := e) (T := T5) (M := uA M5 T2.1.1 v) (F := F5) (s := s) (b := b) (bb := S.1) (t := S.2.1) (pas := S.2.2.1) (q := S.2.2.2.1) (mv := mv) L5.2.1 (S5 T5 M5 F5 v L5 (by omega)).2.2.1 hwr (side := 1) (Or.inr rfl) (by omega)
      obtain ⟨z1, z2, z3, z4, -, zp, zq, -⟩ := s5'
      have hco := cellOf_pp zp (d := e) (by omega)
      have hpr := (pp1_lt zp).2
      have c5' : z_cnt S 0 5 = sm (a_wo S.1 1) 91 := rfl
      have c6' : z_cnt S 0 6 = S.2.2.2.1 := rfl
      have c7' : z_cnt S 0 7 = pt (hw S.1 S.2.1 S.2.2.1 S.2.2.2.1) S.2.1 0 := rfl
      have c8' : z_cnt S 0 8 = pt (hw S.1 S.2.1 S.2.2.1 S.2.2.2.1) S.2.1 1 := rfl
      have c9' : z_cnt S 0 9 = S.2.2.1 := rfl
      have ca' : z_cnt S 0 10 = 0 := rfl
      have hpt : ∀ c t s : Int, 0 ≤ pt c t s ∧ pt c t s ≤ 4 := fun c t s => by unfold pt; (repeat' split) <;> omega
      have hpt0 := hpt (hw S.1 S.2.1 S.2.2.1 S.2.2.2.1) S.2.1 0
      have hpt1 := hpt (hw S.1 S.2.1 S.2.2.1 S.2.2.2.1) S.2.1 1
      unfold saC
      rw [← hv3, c5', c6', c7', c8', c9', ca']
      clear L1 L2 L3 L3' L4 L4' L5 S5 L6 A3 e7 e8 e9 A7 A8 A9 Aa Ab L7 L8 L9 La Lb h x1 x2 x4 x5 r4 pcs ea' eb A2 eA eB hPS
      generalize z_cnt S 0 4 = w4 at *
      generalize sm (a_wo S.1 1) 91 = w0 at *
      generalize pt (hw S.1 S.2.1 S.2.2.1 S.2.2.2.1) S.2.1 0 = w7 at *
      generalize pt (hw S.1 S.2.1 S.2.2.1 S.2.2.2.1) S.2.1 1 = w8 at *
      generalize hw S.1 S.2.1 S.2.2.1 S.2.2.2.1 = hh at *
      rcases hco with ⟨g1, g2⟩ | ⟨g1, g2, g3'⟩
      · rw [g2]
        rw [g2, show pp1 (-1) = -1 from rfl] at z2
        simp (disch := omega) only [x_X8_isSame_47, x_X8_isSame_48, x_X8_isSame_49, x_X8_isSame_52, x_X8_isSame_53, x_X8_isSame_54, x_X8_isSame_56, x_X8_isSame_57, x_X8_isSame_60, x_X8_isSame_61, x_X8_isSame_62, x_X8_isSame_64, x_X8_isSame_65, x_X8_isSame_66, x_X8_isSame_67, x_X8_isSame_70, x_X8_isSame_71, x_X8_isSame_72, x_X8_isSame_74, x_X8_isSame_75, x_X8_isSame_76, x_X8_isSame_77, x_X8_isSame_80, x_X8_isSame_81, x_X8_isSame_82, x_X8_isSame_84, x_X8_isSame_85, x_X8_isSame_88, x_X8_isSame_91, x_X8_isSame_92, x_X8_isSame_95, x_X8_isSame_96, x_X8_isSame_99, x_X8_isSame_102, x_X8_isSame_103, x_X8_isSame_104, x_X8_isSame_106, x_X8_isSame_107, x_X8_isSame_108, x_X8_isSame_110, x_X8_isSame_111, List.length_cons, List.length_nil, Nat.reduceLeDiff, Nat.zero_add, iI_add, iI_sub, iI_mul, iI_neg, iI_lt, iI_le, iI_eq, jI_iI, B_True, B_False, B_t, B_f, ck_True, gd_True, cb_v, cb_n, p_mv_rw, p_fv_rw, p_rv_some, pA_1, pA_90, pA_92, pA_3, pA_5, pA_93, pA_4, pA_91, pA_6, pS_i, pB_i, pW_i, pZ_0, pZ_1, pZ_b, bI_e0, u1_s, u1_n, uA_s, uA_n, true_and, and_true, not_true_eq_false, not_false_eq_true, eq_self, iI_z, al1, al5, al3, al4, al90, al91, al92, al93, al6, Int.cast_ofNat_Int, Nat.reduceAdd, Int.reduceNeg, Int.reduceAdd, Int.reduceSub, Int.reduceMul, Int.reduceLT, Int.reduceLE, Int.reduceGT, Int.reduceGE, Int.reduceEq, Int.reduceNe, Nat.reduceEqDiff, Int.zero_add, Int.add_zero, p_ty0, p_ty1, p_ty2, p_ty3, p_ty4, p_ty5, p_ty8, p_ty9, p_ty10, r5, m5, p4, p5, t5, hp7, hp8, z1, z2, z3, z4, uA_uA, nsc, gd_t, ck_t, B_t, B_f]
      · generalize pp1 S.2.2.1 = pz at *
        simp (disch := omega) only [x_X8_isSame_47, x_X8_isSame_48, x_X8_isSame_49, x_X8_isSame_52, x_X8_isSame_53, x_X8_isSame_54, x_X8_isSame_56, x_X8_isSame_57, x_X8_isSame_60, x_X8_isSame_61, x_X8_isSame_62, x_X8_isSame_64, x_X8_isSame_65, x_X8_isSame_66, x_X8_isSame_67, x_X8_isSame_70, x_X8_isSame_71, x_X8_isSame_72, x_X8_isSame_74, x_X8_isSame_75, x_X8_isSame_76, x_X8_isSame_77, x_X8_isSame_80, x_X8_isSame_81, x_X8_isSame_82, x_X8_isSame_84, x_X8_isSame_85, x_X8_isSame_88, x_X8_isSame_91, x_X8_isSame_92, x_X8_isSame_95, x_X8_isSame_96, x_X8_isSame_99, x_X8_isSame_102, x_X8_isSame_103, x_X8_isSame_104, x_X8_isSame_106, x_X8_isSame_107, x_X8_isSame_108, x_X8_isSame_110, x_X8_isSame_111, List.length_cons, List.length_nil, Nat.reduceLeDiff, Nat.zero_add, iI_add, iI_sub, iI_mul, iI_neg, iI_lt, iI_le, iI_eq, jI_iI, B_True, B_False, B_t, B_f, ck_True, gd_True, cb_v, cb_n, p_mv_rw, p_fv_rw, p_rv_some, pA_1, pA_90, pA_92, pA_3, pA_5, pA_93, pA_4, pA_91, pA_6, pS_i, pB_i, pW_i, pZ_0, pZ_1, pZ_b, bI_e0, u1_s, u1_n, uA_s, uA_n, true_and, and_true, not_true_eq_false, not_false_eq_true, eq_self, iI_z, al1, al5, al3, al4, al90, al91, al92, al93, al6, Int.cast_ofNat_Int, Nat.reduceAdd, Int.reduceNeg, Int.reduceAdd, Int.reduceSub, Int.reduceMul, Int.reduceLT, Int.reduceLE, Int.reduceGT, Int.reduceGE, Int.reduceEq, Int.reduceNe, Nat.reduceEqDiff, Int.zero_add, Int.add_zero, p_ty0, p_ty1, p_ty2, p_ty3, p_ty4, p_ty5, p_ty8, p_ty9, p_ty10, r5, m5, p4, p5, t5, hp7, hp8, z1, z2, z3, z4, g3', uA_uA, nsc, gd_t, ck_t, B_t, B_f]
    rw [callD_succ _ _ _ _ _ _ (Nat.le_of_ble_eq_true rfl)]
    show R e m_X8_isSame 0 [.val (.ref s), .val (.ref (100 + k)), .unset, .unset, .unset, .unset, .unset] [] T M F = _
    rw [eA, eB, eC, e7]
    have ed1 : ∀ (l2 l3 l4 l6 : Slot) (T : pT) (M : pM) (F : pF) x, R e m_X8_isSame 142 [.val (.ref s), .val (.ref (100 + k)), l2, l3, l4, .val (.int x), l6] [] T M F = R e m_X8_isSame 145 [.val (.ref s), .val (.ref (100 + k)), l2, l3, l4, .val (.int (iI 0)), l6] [] T M F := by
      intros
      simp (disch := omega) only [x_X8_isSame_142, x_X8_isSame_143, List.length_cons, List.length_nil, Nat.reduceLeDiff, Nat.zero_add, iI_add, iI_sub, iI_mul, iI_neg, iI_lt, iI_le, iI_eq, jI_iI, B_True, B_False, B_t, B_f, ck_True, gd_True, cb_v, cb_n, p_mv_rw, p_fv_rw, p_rv_some, pA_1, pA_90, pA_92, pA_3, pA_5, pA_93, pA_4, pA_91, pA_6, pS_i, pB_i, pW_i, pZ_0, pZ_1, pZ_b, bI_e0, u1_s, u1_n, uA_s, uA_n, true_and, and_true, not_true_eq_false, not_false_eq_true, eq_self, iI_z, al1, al5, al3, al4, al90, al91, al92, al93, al6, Int.cast_ofNat_Int, Nat.reduceAdd, Int.reduceNeg, Int.reduceAdd, Int.reduceSub, Int.reduceMul, Int.reduceLT, Int.reduceLE, Int.reduceGT, Int.reduceGE, Int.reduceEq, Int.reduceNe, Nat.reduceEqDiff, Int.zero_add, Int.add_zero, p_ty0, p_ty1, p_ty2, p_ty3, p_ty4, p_ty5, p_ty8, p_ty9, p_ty10, gd_t]
    have ed2 : ∀ (l2 l3 l4 l6 : Slot) (T : pT) (M : pM) (F : pF) x, R e m_X8_isSame 173 [.val (.ref s), .val (.ref (100 + k)), l2, l3, l4, .val (.int x), l6] [] T M F = R e m_X8_isSame 176 [.val (.ref s), .val (.ref (100 + k)), l2, l3, l4, .val (.int (iI 0)), l6] [] T M F := by
      intros
      simp (disch := omega) only [x_X8_isSame_173, x_X8_isSame_174, List.length_cons, List.length_nil, Nat.reduceLeDiff, Nat.zero_add, iI_add, iI_sub, iI_mul, iI_neg, iI_lt, iI_le, iI_eq, jI_iI, B_True, B_False, B_t, B_f, ck_True, gd_True, cb_v, cb_n, p_mv_rw, p_fv_rw, p_rv_some, pA_1, pA_90, pA_92, pA_3, pA_5, pA_93, pA_4, pA_91, pA_6, pS_i, pB_i, pW_i, pZ_0, pZ_1, pZ_b, bI_e0, u1_s, u1_n, uA_s, uA_n, true_and, and_true, not_true_eq_false, not_false_eq_true, eq_self, iI_z, al1, al5, al3, al4, al90, al91, al92, al93, al6, Int.cast_ofNat_Int, Nat.reduceAdd, Int.reduceNeg, Int.reduceAdd, Int.reduceSub, Int.reduceMul, Int.reduceLT, Int.reduceLE, Int.reduceGT, Int.reduceGE, Int.reduceEq, Int.reduceNe, Nat.reduceEqDiff, Int.zero_add, Int.add_zero, p_ty0, p_ty1, p_ty2, p_ty3, p_ty4, p_ty5, p_ty8, p_ty9, p_ty10, gd_t]
    rw [ed1, e8, ed2, e9]
    have q9 := L9.2.1.2.1
    have z9 := L9.2.2.1.2.1
    have ty9 := L9.ty
    have tya := La.ty
    have ara := Aa.2.1
    have arb := Ab.2.1
    have pr := sm_rg (f := a_pc S.1 S.2.1) (a := 0) (b := 1) (fun i => bI_rg _) 91
    have hmn := z_mean_ok f3 ht hlQ
    have hself := dcmp_self hmn
    unfold z_mean at eb hself hmn
    clear L1 L2 L3 L3' L4 L4' L5 S5 L6 A3 e7 e8 e9 A7 A8 A9 Aa Ab L7 L8 L9 La Lb h x1 x2 x4 x5 r4 r5 A2 eA eB eC hPS
    generalize (lgQ S.1 S.2.1 S.2.2.1 S.2.2.2.1).length = ln at *
    generalize sm (a_pc S.1 S.2.1) 91 = pc at *
    by_cases cp : pc = 0
    · rw [if_pos cp] at eb hself hmn
      subst cp
      simp (disch := omega) only [x_X8_isSame_287, x_X8_isSame_288, x_X8_isSame_289, x_X8_isSame_292, x_X8_isSame_295, x_X8_isSame_297, x_X8_isSame_298, x_X8_isSame_299, x_X8_isSame_302, x_X8_isSame_303, x_X8_isSame_304, x_X8_isSame_307, x_X8_isSame_308, x_X8_isSame_311, x_X8_isSame_313, x_X8_isSame_316, x_X8_isSame_317, x_X8_isSame_320, x_X8_isSame_321, x_X8_isSame_322, x_X8_isSame_323, x_X8_isSame_325, x_X8_isSame_326, x_X8_isSame_327, x_X8_isSame_328, x_X8_isSame_331, x_X8_isSame_332, x_X8_isSame_335, x_X8_isSame_336, List.length_cons, List.length_nil, Nat.reduceLeDiff, Nat.zero_add, iI_add, iI_sub, iI_mul, iI_neg, iI_lt, iI_le, iI_eq, jI_iI, B_True, B_False, B_t, B_f, ck_True, gd_True, cb_v, cb_n, p_mv_rw, p_fv_rw, p_rv_some, pA_1, pA_90, pA_92, pA_3, pA_5, pA_93, pA_4, pA_91, pA_6, pS_i, pB_i, pW_i, pZ_0, pZ_1, pZ_b, bI_e0, u1_s, u1_n, uA_s, uA_n, true_and, and_true, not_true_eq_false, not_false_eq_true, eq_self, iI_z, al1, al5, al3, al4, al90, al91, al92, al93, al6, Int.cast_ofNat_Int, Nat.reduceAdd, Int.reduceNeg, Int.reduceAdd, Int.reduceSub, Int.reduceMul, Int.reduceLT, Int.reduceLE, Int.reduceGT, Int.reduceGE, Int.reduceEq, Int.reduceNe, Nat.reduceEqDiff, Int.zero_add, Int.add_zero, p_ty0, p_ty1, p_ty2, p_ty3, p_ty4, p_ty5, p_ty8, p_ty9, p_ty10, pcs, ea', eb, q9, z9, ty9, tya, ara, arb, hself, gd_t, ck_t, B_t, B_f]
    · rw [if_neg cp] at eb hself hmn
      simp (disch := omega) only [x_X8_isSame_287, x_X8_isSame_288, x_X8_isSame_289, x_X8_isSame_292, x_X8_isSame_295, x_X8_isSame_297, x_X8_isSame_298, x_X8_isSame_299, x_X8_isSame_302, x_X8_isSame_303, x_X8_isSame_304, x_X8_isSame_307, x_X8_isSame_308, x_X8_isSame_311, x_X8_isSame_313, x_X8_isSame_316, x_X8_isSame_317, x_X8_isSame_320, x_X8_isSame_321, x_X8_isSame_322, x_X8_isSame_323, x_X8_isSame_325, x_X8_isSame_326, x_X8_isSame_327, x_X8_isSame_328, x_X8_isSame_331, x_X8_isSame_332, x_X8_isSame_335, x_X8_isSame_336, List.length_cons, List.length_nil, Nat.reduceLeDiff, Nat.zero_add, iI_add, iI_sub, iI_mul, iI_neg, iI_lt, iI_le, iI_eq, jI_iI, B_True, B_False, B_t, B_f, ck_True, gd_True, cb_v, cb_n, p_mv_rw, p_fv_rw, p_rv_some, pA_1, pA_90, pA_92, pA_3, pA_5, pA_93, pA_4, pA_91, pA_6, pS_i, pB_i, pW_i, pZ_0, pZ_1, pZ_b, bI_e0, u1_s, u1_n, uA_s, uA_n, true_and, and_true, not_true_eq_false, not_false_eq_true, eq_self, iI_z, al1, al5, al3, al4, al90, al91, al92, al93, al6, Int.cast_ofNat_Int, Nat.reduceAdd, Int.reduceNeg, Int.reduceAdd, Int.reduceSub, Int.reduceMul, Int.reduceLT, Int.reduceLE, Int.reduceGT, Int.reduceGE, Int.reduceEq, Int.reduceNe, Nat.reduceEqDiff, Int.zero_add, Int.add_zero, p_ty0, p_ty1, p_ty2, p_ty3, p_ty4, p_ty5, p_ty8, p_ty9, p_ty10, pcs, ea', eb, q9, z9, ty9, tya, ara, arb, hself, gd_t, ck_t, B_t, B_f]
  · rw [hnb]
    have := c1.1; have := c2.1; have := c4.1; have := c5.1
    omega
  · rw [hnb]
    have := c1.2; have := c2.2; have := c4.2; have := c5.2
    omega
end PSA2
