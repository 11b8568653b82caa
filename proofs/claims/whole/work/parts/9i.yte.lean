section PYTE
variable {d bd lg N lg1 N1 bd1 : Nat} {T T1 T2 : pT} {M M0 M1 M2 : pM} {F F1 F2 : pF} {bs bb : Int → Int} {z ea : Int} {S : GSx}
theorem tea_rdr : z_tea S bs z = if (z_rdr bs z).1 = 0 then (0, -1, (z_rdr bs z).2.2) else ((z_rdr bs z).1, (z_rdr bs z).2.1, S) := by
  unfold z_tea z_rdr
  by_cases c : (z_tok bs z).2 ≠ -1
  · rw [if_pos c, if_pos c]
    exact (if_neg (by show ¬ (1 : Int) = 0; decide)).symm
  · rw [if_neg c, if_neg c]
theorem YT.mk' (hY : YT T F bd lg N) (c1 : ∀ a, a < 145 → p_ty T1 a = p_ty T a) (c3 : ∀ j, j ≠ 9 → j ≠ 13 → F1 127 j = F 127 j) (hb : 100 ≤ bd1) (tb : p_ty T1 bd1 = (1, 91)) (fb : F1 127 9 = some bd1) (hl : 100 ≤ lg1) (tl : p_ty T1 lg1 = (1, N1)) (fl : F1 127 13 = some lg1) (hn : 448 ≤ N1) : YT T1 F1 bd1 lg1 N1 := by
  obtain ⟨ty127, ty128, fy1, ty129, fy4, ty130, fy5, ty131, fy6, ty132, fy7, ty133, fy8, ty136, fy15, ty137, fy16, ty138, fy17, ty139, fy18, ty140, fy19, ty141, fy20, ty142, fy21, ty143, fy22, hbd, tybd, fy9, hlg, tylg, fy13, hN⟩ := hY
  exact ⟨(c1 _ (by omega)).trans ty127, (c1 _ (by omega)).trans ty128, (c3 _ (by omega) (by omega)).trans fy1, (c1 _ (by omega)).trans ty129, (c3 _ (by omega) (by omega)).trans fy4, (c1 _ (by omega)).trans ty130, (c3 _ (by omega) (by omega)).trans fy5, (c1 _ (by omega)).trans ty131, (c3 _ (by omega) (by omega)).trans fy6, (c1 _ (by omega)).trans ty132, (c3 _ (by omega) (by omega)).trans fy7, (c1 _ (by omega)).trans ty133, (c3 _ (by omega) (by omega)).trans fy8, (c1 _ (by omega)).trans ty136, (c3 _ (by omega) (by omega)).trans fy15, (c1 _ (by omega)).trans ty137, (c3 _ (by omega) (by omega)).trans fy16, (c1 _ (by omega)).trans ty138, (c3 _ (by omega) (by omega)).trans fy17, (c1 _ (by omega)).trans ty139, (c3 _ (by omega) (by omega)).trans fy18, (c1 _ (by omega)).trans ty140, (c3 _ (by omega) (by omega)).trans fy19, (c1 _ (by omega)).trans ty141, (c3 _ (by omega) (by omega)).trans fy20, (c1 _ (by omega)).trans ty142, (c3 _ (by omega) (by omega)).trans fy21, (c1 _ (by omega)).trans ty143, (c3 _ (by omega) (by omega)).trans fy22, hb, tb, fb, hl, tl, fl, hn⟩
theorem y_teach (hW : MW T M F bd lg N S ea bs z) (hz : 0 ≤ z ∧ z ≤ 2000) (hb : ∀ i, 0 ≤ bs i ∧ bs i < 256) (hr : (0 ≤ S.2.1 ∧ S.2.1 ≤ 1) ∧ (-1 ≤ S.2.2.1 ∧ S.2.2.1 < 91) ∧ (0 ≤ S.2.2.2.1 ∧ S.2.2.2.1 ≤ 60) ∧ S.2.2.2.2.length ≤ 1000) :
    ∃ T' M' F' bd' lg' N', (∀ d, 12 ≤ d → callD d m_X8_teach [.ref 127] T M F = some (.inl (some (.int (iI (z_tea S bs z).1))), T', M', F')) ∧ MW T' M' F' bd' lg' N' (z_tea S bs z).2.2 (z_tea S bs z).2.1 bs 0 ∧ M' 127 0 = 0 ∧ s_mono T T' ∧ (∀ a, a < 127 → M' a = M a ∧ F' a = F a) ∧ M' 144 = M 144 ∧ T'.1.1 ≤ T.1.1 + 405 ∧ T'.1.2 ≤ T.1.2 + 5047 := by
  obtain ⟨⟨a1, a2, a3, a4, a5, a6⟩, ⟨b1, b2, b3, b4, b5⟩, h2, h3, h4⟩ := hW
  obtain ⟨d0, d0', d1, d2, d3, d4⟩ := id a2
  have ty := a1
  obtain ⟨T3, hT3⟩ : ∃ T3 : pT, T3 = p_new (p_new (p_new T 1 4) 1 91) 1 448 := ⟨_, rfl⟩
  obtain ⟨A1, hA1⟩ : ∃ A1 : Int → Int, A1 = u1 (u1 (u1 (u1 (fun _ => 0) 0 S.2.1) 1 S.2.2.1) 2 S.2.2.2.1) 3 (S.2.2.2.2.length : Int) := ⟨_, rfl⟩
  obtain ⟨M3, hM3⟩ : ∃ M3 : pM, M3 = uA (uA (uA (uA M 127 (u1 (u1 (M 127) 0 0) 3 (-1))) T.1.1 A1) (T.1.1 + 1) (fun _ => 0)) (T.1.1 + 2) (fun _ => 0) := ⟨_, rfl⟩
  obtain ⟨F3, hF3⟩ : ∃ F3 : pF, F3 = uA (uA (uA (uA F T.1.1 (fun _ => none)) (T.1.1 + 1) (fun _ => none)) (T.1.1 + 2) (fun _ => none)) 127 (u1 (u1 (F 127) 9 (some (T.1.1 + 1))) 13 (some (T.1.1 + 2))) := ⟨_, rfl⟩
  have n3 : T3.1.1 = T.1.1 + 3 := by rw [hT3]; rfl
  have mono3 : s_mono T T3 := by rw [hT3]; exact (s_mono.new.tr s_mono.new).tr s_mono.new
  have tr1 : p_ty T3 T.1.1 = (1, 4) := by
    rw [hT3]
    exact ((p_ty_nx (T := p_new (p_new T 1 4) 1 91) (by show T.1.1 < T.1.1 + 1 + 1; omega)).trans (p_ty_nx (T := p_new T 1 4) (by show T.1.1 < T.1.1 + 1; omega))).trans (p_ty_nw (by omega))
  have tr2 : p_ty T3 (T.1.1 + 1) = (1, 91) := by
    rw [hT3]
    exact (p_ty_nx (T := p_new (p_new T 1 4) 1 91) (by show T.1.1 + 1 < T.1.1 + 1 + 1; omega)).trans (p_ty_nw (T := p_new T 1 4) (by show 100 ≤ T.1.1 + 1; omega))
  have tr3 : p_ty T3 (T.1.1 + 2) = (1, 448) := by
    rw [hT3]
    exact p_ty_nw (T := p_new (p_new T 1 4) 1 91) (by show 100 ≤ T.1.1 + 1 + 1; omega)
  have f127 : F3 127 = u1 (u1 (F 127) 9 (some (T.1.1 + 1))) 13 (some (T.1.1 + 2)) := by rw [hF3, uA_s]
  have fo : ∀ a, a < T.1.1 → a ≠ 127 → F3 a = F a := fun a ha h => by rw [hF3, uA_n h, uA_n (by omega), uA_n (by omega), uA_n (by omega)]
  have e127 : M3 127 = u1 (u1 (M 127) 0 0) 3 (-1) := by rw [hM3, uA_n (by omega), uA_n (by omega), uA_n (by omega), uA_s]
  have mo : ∀ a, a < T.1.1 → a ≠ 127 → M3 a = M a := fun a ha h => by rw [hM3, uA_n (by omega), uA_n (by omega), uA_n (by omega), uA_n h]
  have mr1 : M3 T.1.1 = A1 := by rw [hM3, uA_n (by omega), uA_n (by omega), uA_s]
  have mr2 : M3 (T.1.1 + 1) = fun _ => 0 := by rw [hM3, uA_n (by omega), uA_s]
  have Y3 : YT T3 F3 (T.1.1 + 1) (T.1.1 + 2) 448 := a1.mk' (fun a ha => mono3.2.2 a (by omega)) (fun j h9 h13 => by rw [f127, u1_n h13, u1_n h9]) (by omega) tr2 (by rw [f127, u1_n (by decide), u1_s]) (by omega) tr3 (by rw [f127, u1_s]) (Nat.le_refl _)
  have D3 : YD (T.1.1 + 1) (T.1.1 + 2) T3 := ⟨Or.inr (by omega), Or.inr (by omega), by omega, by omega, by omega, by omega⟩
  have hG3 : YG M3 := by
    unfold YG at b1 ⊢
    rw [mo 129 (by omega) (by omega), mo 130 (by omega) (by omega), mo 131 (by omega) (by omega), mo 132 (by omega) (by omega), mo 133 (by omega) (by omega)]
    exact b1
  have hem := y_empty (M := M3) (F := F3) Y3 (Or.inr (by omega)) (by rw [mr2]; exact fun _ _ => rfl)
  obtain ⟨M4, hM4⟩ : ∃ M4 : pM, M4 = y_bg (uA M3 (T.1.1 + 1) (fun _ => 0)) 0 := ⟨_, rfl⟩
  rw [← hM4] at hem
  have m4 : ∀ a, a ≠ 127 → M4 a = M3 a := fun a ha => by
    rw [hM4]; unfold y_bg; rw [uA_n ha]
    by_cases q : a = T.1.1 + 1
    · rw [q, uA_s, mr2]
    · rw [uA_n q]
  have e4 : M4 127 = u1 (u1 (u1 (u1 (M3 127) 14 0) 11 (-1)) 12 0) 10 0 := by
    rw [hM4]; unfold y_bg; rw [uA_s, uA_n (by omega)]
  have Q4 : YQ T3 M4 F3 (T.1.1 + 1) (T.1.1 + 2) 448 z_new := by
    refine ⟨⟨Y3, D3, Or.inl rfl, trivial, by show 7 * 0 ≤ 448; omega, ?_⟩, ⟨?_, ?_, ?_, ?_, ?_⟩⟩
    · rw [e4, u1_n (by omega), u1_n (by omega), u1_n (by omega), u1_s]; rfl
    · unfold YG at hG3 ⊢
      rw [m4 129 (by omega), m4 130 (by omega), m4 131 (by omega), m4 132 (by omega), m4 133 (by omega)]
      exact hG3
    · rw [m4 _ (by omega), mr2]; rfl
    · rw [e4, u1_s]; rfl
    · rw [e4, u1_n (by omega), u1_n (by omega), u1_s]; rfl
    · rw [e4, u1_n (by omega), u1_s]; rfl
  have e42 : M4 127 2 = z := by rw [e4, u1_n (by omega), u1_n (by omega), u1_n (by omega), u1_n (by omega), e127, u1_n (by omega), u1_n (by omega)]; exact h2
  have e43 : M4 127 3 = -1 := by rw [e4, u1_n (by omega), u1_n (by omega), u1_n (by omega), u1_n (by omega), e127, u1_s]
  have e40 : M4 127 0 = 0 := by rw [e4, u1_n (by omega), u1_n (by omega), u1_n (by omega), u1_n (by omega), e127, u1_n (by omega), u1_s]
  have T4p : YTp M4 bs z := ⟨by rw [m4 128 (by omega), mo 128 (by omega) (by omega)]; exact h4, e42, hz, hb⟩
  obtain ⟨T5, M5, F5, lg5, N5, r5, Q5, rg5, p5, p5', j5, C5⟩ := y_read Q4 T4p
  obtain ⟨c1, c2, c3, c4, c5, c6, c7, c8, c9⟩ := C5
  have c9 : N5 ≤ 1500 := c9 (by omega)
  have hT5 := c1.1
  have mono5 := mono3.tr c1
  have xr : ∀ a, a < T.1.1 → a ≠ 127 → a ≠ 136 → a ≠ 137 → a ≠ 138 → a ≠ 141 → a ≠ 142 → a ≠ 143 → M5 a = M a := by
    intro a ha h1 h2 h3 h4 h5 h6 h7
    rw [c2 a (by omega) (by unfold XRd XTc; omega) (by omega), m4 a h1]
    exact mo a ha h1
  have xf : ∀ a, a < T.1.1 → a ≠ 127 → F5 a = F a := fun a ha h => by rw [c3 a (by omega) h]; exact fo a ha h
  obtain ⟨M6, hM6⟩ : ∃ M6 : pM, M6 = uA M5 127 (u1 (M5 127) 2 0) := ⟨_, rfl⟩
  have m6 : ∀ a, a ≠ 127 → M6 a = M5 a := fun a ha => by rw [hM6, uA_n ha]
  have g6 : ∀ j, j ≠ 2 → M6 127 j = M5 127 j := fun j hj => by rw [hM6, uA_s, u1_n hj]
  have g62 : M6 127 2 = 0 := by rw [hM6, uA_s, u1_s]
  have e60 : M6 127 0 = 0 := by rw [g6 0 (by omega), j5 0 (by omega) (by omega) (by omega) (by omega) (by omega) (by omega)]; exact e40
  have t5 : p_ty T5 127 = (18, 24) := Q5.1.1.1
  have bud : T5.1.1 ≤ T.1.1 + 405 ∧ T5.1.2 ≤ T.1.2 + 5047 := by
    have n32 : T3.1.2 = T.1.2 + 4 + 91 + 448 := by rw [hT3]; rfl
    exact ⟨by omega, by omega⟩
  have pre : ∀ e, 11 ≤ e → R e m_X8_teach 0 [.val (.ref 127), .unset, .unset, .unset, .unset] [] T M F = R e m_X8_teach 84 [.val (.ref 127), .val (.ref bd), .val (.ref lg), .val (.ref T.1.1), .val (.int (iI (z_rdr bs z).1))] [] T5 M6 F5 := by
    intro e he
    have hem := hem e (by omega)
    have r5 := r5 e he
    have cA : R e m_X8_teach 0 [.val (.ref 127), .unset, .unset, .unset, .unset] [] T M F = R e m_X8_teach 69 [.val (.ref 127), .val (.ref bd), .val (.ref lg), .val (.ref T.1.1), .unset] [] T3 M3 F3 := by
      have u4 := p_ty_nw (T := T) (tag := 1) (n := 4) (by omega)
      have v1 := (p_ty_nx (T := T) (tag := 1) (n := 4) (a := 127) (by omega)).trans ty.1
      have v2 : p_ty (p_new (p_new T 1 4) 1 91) 127 = (18, 24) := (p_ty_nx (T := p_new T 1 4) (by show 127 < T.1.1 + 1; omega)).trans v1
      have v3 : p_ty (p_new (p_new (p_new T 1 4) 1 91) 1 448) 127 = (18, 24) := (p_ty_nx (T := p_new (p_new T 1 4) 1 91) (by show 127 < T.1.1 + 1 + 1; omega)).trans v2
      have w1 : p_ty (p_new (p_new T 1 4) 1 91) (T.1.1 + 1) = (1, 91) := p_ty_nw (T := p_new T 1 4) (by show 100 ≤ T.1.1 + 1; omega)
      have w2 : p_ty (p_new (p_new (p_new T 1 4) 1 91) 1 448) (T.1.1 + 1 + 1) = (1, 448) := p_ty_nw (T := p_new (p_new T 1 4) 1 91) (by show 100 ≤ T.1.1 + 1 + 1; omega)
      have y4 : (4 : Int).toNat = 4 := rfl
      have y91 : (91 : Int).toNat = 91 := rfl
      have y448 : (448 : Int).toNat = 448 := rfl
      have en1 : (p_new T 1 4).1.1 = T.1.1 + 1 := rfl
      have en2 : (p_new (p_new T 1 4) 1 91).1.1 = T.1.1 + 1 + 1 := rfl
      have en3 : T.1.1 + 2 = T.1.1 + 1 + 1 := rfl
      have nA : ∀ {α : Type} (X : Nat → Int → α) (f g : Int → α) (r : Nat), 145 ≤ r → uA (uA X 127 f) r g = uA (uA X r g) 127 f := fun X f g r hr => by
        funext b
        unfold uA
        by_cases q1 : b = r
        · rw [if_pos q1, if_neg (by omega), if_pos q1]
        · rw [if_neg q1]
          by_cases q2 : b = 127
          · rw [if_pos q2, if_pos q2]
          · rw [if_neg q2, if_neg q2, if_neg q1]
      rw [hM3, hF3, hT3, hA1]
      obtain ⟨ty127, ty128, fy1, ty129, fy4, ty130, fy5, ty131, fy6, ty132, fy7, ty133, fy8, ty136, fy15, ty137, fy16, ty138, fy17, ty139, fy18, ty140, fy19, ty141, fy20, ty142, fy21, ty143, fy22, hbd, tybd, fy9, hlg, tylg, fy13, hN⟩ := a1
      clear hem r5 a4 b1 hM3 hF3 hT3 hA1 mono3 tr1 tr2 tr3 f127 fo e127 mo mr1 mr2 Y3 D3 hG3 hM4 m4 e4 Q4 e42 e43 e40 T4p Q5 rg5 p5 p5' j5 c2 c3 c4 xr xf hM6 m6 g6 g62 e60 t5 bud hb c1 mono5
      simp (disch := omega) only [x_X8_teach_0, x_X8_teach_1, x_X8_teach_2, x_X8_teach_5, x_X8_teach_6, x_X8_teach_7, x_X8_teach_10, x_X8_teach_11, x_X8_teach_14, x_X8_teach_15, x_X8_teach_16, x_X8_teach_19, x_X8_teach_20, x_X8_teach_21, x_X8_teach_23, x_X8_teach_24, x_X8_teach_25, x_X8_teach_26, x_X8_teach_29, x_X8_teach_30, x_X8_teach_31, x_X8_teach_32, x_X8_teach_33, x_X8_teach_36, x_X8_teach_37, x_X8_teach_38, x_X8_teach_39, x_X8_teach_40, x_X8_teach_43, x_X8_teach_44, x_X8_teach_45, x_X8_teach_46, x_X8_teach_47, x_X8_teach_50, x_X8_teach_51, x_X8_teach_52, x_X8_teach_53, x_X8_teach_55, x_X8_teach_57, x_X8_teach_60, x_X8_teach_61, x_X8_teach_64, x_X8_teach_66, List.length_cons, List.length_nil, Nat.reduceLeDiff, Nat.zero_add, iI_add, iI_sub, iI_mul, iI_neg, iI_lt, iI_le, iI_eq, jI_iI, B_True, B_False, B_t, B_f, ck_True, gd_True, cb_v, cb_n, p_mv_rw, p_fv_rw, p_rv_some, pA_1, pA_90, pA_92, pA_3, pA_2, pA_93, pA_4, pA_91, pA_95, pS_i, pW_i, pZ_0, pZ_1, pZ_b, bI_e0, u1_s, u1_n, uA_s, uA_n, true_and, and_true, not_true_eq_false, not_false_eq_true, eq_self, iI_z, al1, al2, al3, al4, al90, al91, al92, al93, al95, Int.cast_ofNat_Int, Nat.reduceAdd, Int.reduceNeg, Int.reduceAdd, Int.reduceSub, Int.reduceMul, Int.reduceLT, Int.reduceLE, Int.reduceGT, Int.reduceGE, Int.reduceEq, Int.reduceNe, Nat.reduceEqDiff, Int.zero_add, Int.add_zero, p_ty0, p_ty1, p_ty2, p_ty3, p_ty4, p_ty5, p_ty6, p_ty7, p_ty8, p_ty9, p_ty10, p_ty11, ty127, ty128, fy1, ty129, fy4, ty130, fy5, ty131, fy6, ty132, fy7, ty133, fy8, ty136, fy15, ty137, fy16, ty138, fy17, ty139, fy18, ty140, fy19, ty141, fy20, ty142, fy21, ty143, fy22, tybd, fy9, tylg, fy13, v1, v2, v3, u4, w1, w2, y4, y91, y448, en1, en2, b3, b4, b5, a6, uA_uA, nA, ck_t, gd_t]
    rw [cA]
    have t3 := Y3.1
    have hM6' : uA M5 127 (u1 (M5 127) 2 0) = M6 := hM6.symm
    clear cA a1 a2 a4 b1 hM3 hF3 hT3 hA1 mono3 tr1 tr2 tr3 f127 fo e127 mo mr1 mr2 Y3 D3 hG3 hM4 m4 e4 Q4 e42 e43 e40 T4p Q5 rg5 p5 p5' j5 c2 c3 c4 xr xf hM6 m6 g6 g62 e60 bud hb c1 mono5 ty
    simp (disch := omega) only [x_X8_teach_69, x_X8_teach_70, x_X8_teach_73, x_X8_teach_74, x_X8_teach_77, x_X8_teach_79, x_X8_teach_80, x_X8_teach_81, List.length_cons, List.length_nil, Nat.reduceLeDiff, Nat.zero_add, iI_add, iI_sub, iI_mul, iI_neg, iI_lt, iI_le, iI_eq, jI_iI, B_True, B_False, B_t, B_f, ck_True, gd_True, cb_v, cb_n, p_mv_rw, p_fv_rw, p_rv_some, pA_1, pA_90, pA_92, pA_3, pA_2, pA_93, pA_4, pA_91, pA_95, pS_i, pW_i, pZ_0, pZ_1, pZ_b, bI_e0, u1_s, u1_n, uA_s, uA_n, true_and, and_true, not_true_eq_false, not_false_eq_true, eq_self, iI_z, al1, al2, al3, al4, al90, al91, al92, al93, al95, Int.cast_ofNat_Int, Nat.reduceAdd, Int.reduceNeg, Int.reduceAdd, Int.reduceSub, Int.reduceMul, Int.reduceLT, Int.reduceLE, Int.reduceGT, Int.reduceGE, Int.reduceEq, Int.reduceNe, Nat.reduceEqDiff, Int.zero_add, Int.add_zero, p_ty0, p_ty1, p_ty2, p_ty3, p_ty4, p_ty5, p_ty6, p_ty7, p_ty8, p_ty9, p_ty10, p_ty11, t3, t5, hem, r5, hM6', gd_t]
  rw [tea_rdr]
  by_cases c : (z_rdr bs z).1 = 0
  · rw [if_pos c]
    obtain ⟨⟨x1, x2, x3, x4, x5, x6⟩, ⟨y1, y2, y3, y4, y5⟩⟩ := Q5
    obtain ⟨e0, e0', e1, e2, e3, e4'⟩ := id x2
    refine ⟨T5, M6, F5, T.1.1 + 1, lg5, N5, fun d hd => ?_, ⟨⟨x1, x2, x3, ?_, x5, ?_⟩, ⟨?_, ?_, ?_, ?_, ?_⟩, g62, ?_, ?_⟩, e60, mono5, fun a ha => ⟨?_, xf a (by omega) (by omega)⟩, ?_, bud⟩
    · refine callD_go 11 hd rfl (fun e he => ?_)
      show R e m_X8_teach 0 [.val (.ref 127), .unset, .unset, .unset, .unset] [] T M F = _
      rw [pre e he, c]
      show _ = (some (.inl (some (.int (iI 0))), T5, M6, F5) : Option pR)
      clear pre hem a1 a2 a4 b1 hM3 hF3 hT3 hA1 mono3 tr1 tr2 tr3 f127 fo e127 mo mr1 mr2 Y3 D3 hG3 hM4 m4 e4 Q4 e42 e43 e40 T4p rg5 p5 p5' j5 c2 c3 c4 xr xf hM6 m6 g6 g62 e60 bud hb c1 mono5 ty x1 x2 x4 y1 y2
      simp (disch := omega) only [x_X8_teach_84, x_X8_teach_86, x_X8_teach_89, x_X8_teach_90, List.length_cons, List.length_nil, Nat.reduceLeDiff, Nat.zero_add, iI_add, iI_sub, iI_mul, iI_neg, iI_lt, iI_le, iI_eq, jI_iI, B_True, B_False, B_t, B_f, ck_True, gd_True, cb_v, cb_n, p_mv_rw, p_fv_rw, p_rv_some, pA_1, pA_90, pA_92, pA_3, pA_2, pA_93, pA_4, pA_91, pA_95, pS_i, pW_i, pZ_0, pZ_1, pZ_b, bI_e0, u1_s, u1_n, uA_s, uA_n, true_and, and_true, not_true_eq_false, not_false_eq_true, eq_self, iI_z, al1, al2, al3, al4, al90, al91, al92, al93, al95, Int.cast_ofNat_Int, Nat.reduceAdd, Int.reduceNeg, Int.reduceAdd, Int.reduceSub, Int.reduceMul, Int.reduceLT, Int.reduceLE, Int.reduceGT, Int.reduceGE, Int.reduceEq, Int.reduceNe, Nat.reduceEqDiff, Int.zero_add, Int.add_zero, p_ty0, p_ty1, p_ty2, p_ty3, p_ty4, p_ty5, p_ty6, p_ty7, p_ty8, p_ty9, p_ty10, p_ty11, B_t, B_f]
    · rw [m6 lg5 (by omega)]; exact x4
    · rw [g6 14 (by omega)]; exact x6
    · unfold YG at y1 ⊢
      rw [m6 129 (by omega), m6 130 (by omega), m6 131 (by omega), m6 132 (by omega), m6 133 (by omega)]
      exact y1
    · rw [m6 _ (by omega)]; exact y2
    · rw [g6 10 (by omega)]; exact y3
    · rw [g6 11 (by omega)]; exact y4
    · rw [g6 12 (by omega)]; exact y5
    · rw [g6 3 (by omega)]; exact (p5' c).trans e43
    · rw [m6 128 (by omega)]; exact (xr 128 (by omega) (by omega) (by omega) (by omega) (by omega) (by omega) (by omega) (by omega)).trans h4
    · rw [m6 a (by omega)]; exact xr a (by omega) (by omega) (by omega) (by omega) (by omega) (by omega) (by omega) (by omega)
    · rw [m6 144 (by omega)]; exact xr 144 (by omega) (by omega) (by omega) (by omega) (by omega) (by omega) (by omega) (by omega)
  · rw [if_neg c]
    have k1 : M5 T.1.1 = A1 := by
      rw [c2 T.1.1 (by omega) (by unfold XRd XTc; omega) (by omega), m4 T.1.1 (by omega)]; exact mr1
    have q0 : M6 T.1.1 0 = S.2.1 := by rw [m6 _ (by omega), k1, hA1, u1_n (by omega), u1_n (by omega), u1_n (by omega), u1_s]
    have q1 : M6 T.1.1 1 = S.2.2.1 := by rw [m6 _ (by omega), k1, hA1, u1_n (by omega), u1_n (by omega), u1_s]
    have q2 : M6 T.1.1 2 = S.2.2.2.1 := by rw [m6 _ (by omega), k1, hA1, u1_n (by omega), u1_s]
    have q3 : M6 T.1.1 3 = (S.2.2.2.2.length : Int) := by rw [m6 _ (by omega), k1, hA1, u1_s]
    have tk : p_ty T5 T.1.1 = (1, 4) := (c1.2.2 _ (by omega)).trans tr1
    have tbd : p_ty T5 bd = (1, 91) ∧ 100 ≤ bd := by
      have ty9 := a1
      obtain ⟨ty127, ty128, fy1, ty129, fy4, ty130, fy5, ty131, fy6, ty132, fy7, ty133, fy8, ty136, fy15, ty137, fy16, ty138, fy17, ty139, fy18, ty140, fy19, ty141, fy20, ty142, fy21, ty143, fy22, hbd, tybd, fy9, hlg, tylg, fy13, hN⟩ := ty9
      exact ⟨(mono5.2.2 bd d2).trans tybd, hbd⟩
    have tlg : p_ty T5 lg = (1, N) ∧ 100 ≤ lg ∧ 448 ≤ N := by
      have ty9 := a1
      obtain ⟨ty127, ty128, fy1, ty129, fy4, ty130, fy5, ty131, fy6, ty132, fy7, ty133, fy8, ty136, fy15, ty137, fy16, ty138, fy17, ty139, fy18, ty140, fy19, ty141, fy20, ty142, fy21, ty143, fy22, hbd, tybd, fy9, hlg, tylg, fy13, hN⟩ := ty9
      exact ⟨(mono5.2.2 lg d3).trans tylg, hlg, hN⟩
    obtain ⟨M7, hM7⟩ : ∃ M7 : pM, M7 = uA M6 127 (u1 (u1 (u1 (u1 (M6 127) 10 S.2.1) 11 S.2.2.1) 12 S.2.2.2.1) 14 (S.2.2.2.2.length : Int)) := ⟨_, rfl⟩
    obtain ⟨F7, hF7⟩ : ∃ F7 : pF, F7 = uA F5 127 (u1 (u1 (F5 127) 9 (some bd)) 13 (some lg)) := ⟨_, rfl⟩
    have m7 : ∀ a, a ≠ 127 → M7 a = M5 a := fun a ha => by rw [hM7, uA_n ha, m6 a ha]
    have e7 : M7 127 = u1 (u1 (u1 (u1 (M6 127) 10 S.2.1) 11 S.2.2.1) 12 S.2.2.2.1) 14 (S.2.2.2.2.length : Int) := by rw [hM7, uA_s]
    have f7 : F7 127 = u1 (u1 (F5 127) 9 (some bd)) 13 (some lg) := by rw [hF7, uA_s]
    have Y7 : YT T5 F7 bd lg N := a1.mk' (fun a ha => mono5.2.2 a (by omega)) (fun j h9 h13 => by rw [f7, u1_n h13, u1_n h9, c4 j h13, f127, u1_n h13, u1_n h9]) tbd.2 tbd.1 (by rw [f7, u1_n (by decide), u1_s]) tlg.2.1 tlg.1 (by rw [f7, u1_s]) tlg.2.2
    have D7 : YD bd lg T5 := ⟨d0, d0', d1, by omega, by omega, by omega⟩
    refine ⟨T5, M7, F7, bd, lg, N, fun d hd => ?_, ⟨⟨Y7, D7, a3, ?_, a5, ?_⟩, ⟨?_, ?_, ?_, ?_, ?_⟩, ?_, ?_, ?_⟩, ?_, mono5, fun a ha => ⟨?_, ?_⟩, ?_, bud⟩
    · refine callD_go 11 hd rfl (fun e he => ?_)
      show R e m_X8_teach 0 [.val (.ref 127), .unset, .unset, .unset, .unset] [] T M F = _
      rw [pre e he]
      show _ = (some (.inl (some (.int (iI (z_rdr bs z).1))), T5, M7, F7) : Option pR)
      rw [hM7, hF7]
      have tb1 : (p_ty T5 bd).1 = 1 := by rw [tbd.1]
      have tl1 : (p_ty T5 lg).1 = 1 := by rw [tlg.1]
      clear pre hem a1 a2 a4 b1 hM3 hF3 hT3 hA1 mono3 tr1 tr2 tr3 f127 fo e127 mo mr1 mr2 Y3 D3 hG3 hM4 m4 e4 Q4 e42 e43 e40 T4p p5 p5' j5 c2 c3 c4 xr xf hM6 m6 g6 g62 e60 bud hb c1 mono5 ty Q5 k1 tbd tlg hM7 hF7 m7 e7 f7 Y7 D7 r5
      simp (disch := omega) only [x_X8_teach_84, x_X8_teach_86, x_X8_teach_89, x_X8_teach_90, x_X8_teach_91, x_X8_teach_92, x_X8_teach_93, x_X8_teach_96, x_X8_teach_97, x_X8_teach_98, x_X8_teach_101, x_X8_teach_102, x_X8_teach_103, x_X8_teach_104, x_X8_teach_105, x_X8_teach_108, x_X8_teach_109, x_X8_teach_110, x_X8_teach_111, x_X8_teach_112, x_X8_teach_115, x_X8_teach_116, x_X8_teach_117, x_X8_teach_118, x_X8_teach_119, x_X8_teach_122, x_X8_teach_123, x_X8_teach_124, x_X8_teach_125, x_X8_teach_126, x_X8_teach_129, x_X8_teach_131, List.length_cons, List.length_nil, Nat.reduceLeDiff, Nat.zero_add, iI_add, iI_sub, iI_mul, iI_neg, iI_lt, iI_le, iI_eq, jI_iI, B_True, B_False, B_t, B_f, ck_True, gd_True, cb_v, cb_n, p_mv_rw, p_fv_rw, p_rv_some, pA_1, pA_90, pA_92, pA_3, pA_2, pA_93, pA_4, pA_91, pA_95, pS_i, pW_i, pZ_0, pZ_1, pZ_b, bI_e0, u1_s, u1_n, uA_s, uA_n, true_and, and_true, not_true_eq_false, not_false_eq_true, eq_self, iI_z, al1, al2, al3, al4, al90, al91, al92, al93, al95, Int.cast_ofNat_Int, Nat.reduceAdd, Int.reduceNeg, Int.reduceAdd, Int.reduceSub, Int.reduceMul, Int.reduceLT, Int.reduceLE, Int.reduceGT, Int.reduceGE, Int.reduceEq, Int.reduceNe, Nat.reduceEqDiff, Int.zero_add, Int.add_zero, p_ty0, p_ty1, p_ty2, p_ty3, p_ty4, p_ty5, p_ty6, p_ty7, p_ty8, p_ty9, p_ty10, p_ty11, t5, tk, tb1, tl1, q0, q1, q2, q3, uA_uA, gd_t, B_t, B_f]
    · rw [m7 lg (by omega)]; rw [xr lg d3 (by omega) (by omega) (by omega) (by omega) (by omega) (by omega) (by omega)]; exact a4
    · rw [e7, u1_s]
    · unfold YG at b1 ⊢
      rw [m7 129 (by omega), m7 130 (by omega), m7 131 (by omega), m7 132 (by omega), m7 133 (by omega)]
      rw [xr 129 (by omega) (by omega) (by omega) (by omega) (by omega) (by omega) (by omega) (by omega), xr 130 (by omega) (by omega) (by omega) (by omega) (by omega) (by omega) (by omega) (by omega), xr 131 (by omega) (by omega) (by omega) (by omega) (by omega) (by omega) (by omega) (by omega), xr 132 (by omega) (by omega) (by omega) (by omega) (by omega) (by omega) (by omega) (by omega), xr 133 (by omega) (by omega) (by omega) (by omega) (by omega) (by omega) (by omega) (by omega)]
      exact b1
    · rw [m7 bd (by omega), xr bd d2 (by omega) (by omega) (by omega) (by omega) (by omega) (by omega) (by omega)]; exact b2
    · rw [e7, u1_n (by omega), u1_n (by omega), u1_n (by omega), u1_s]
    · rw [e7, u1_n (by omega), u1_n (by omega), u1_s]
    · rw [e7, u1_n (by omega), u1_s]
    · rw [e7, u1_n (by omega), u1_n (by omega), u1_n (by omega), u1_n (by omega)]; exact g62
    · rw [e7, u1_n (by omega), u1_n (by omega), u1_n (by omega), u1_n (by omega), g6 3 (by omega)]; exact p5 c
    · rw [m7 128 (by omega)]; exact (xr 128 (by omega) (by omega) (by omega) (by omega) (by omega) (by omega) (by omega) (by omega)).trans h4
    · rw [e7, u1_n (by omega), u1_n (by omega), u1_n (by omega), u1_n (by omega)]; exact e60
    · rw [m7 a (by omega)]; exact xr a (by omega) (by omega) (by omega) (by omega) (by omega) (by omega) (by omega) (by omega)
    · rw [hF7, uA_n (by omega)]; exact xf a (by omega) (by omega)
    · rw [m7 144 (by omega)]; exact xr 144 (by omega) (by omega) (by omega) (by omega) (by omega) (by omega) (by omega) (by omega)
end PYTE
