section PYFE
variable {d bd lg N lg1 N1 r : Nat} {T T1 : pT} {M M0 M1 M2 : pM} {F F1 : pF} {bb bs : Int → Int} {k c m kd a b i p z ea w : Int} {S : GSx} {n : Nat}
/-- what a call may change, in all -/
def OB (T : pT) (M : pM) (F : pF) (T' : pT) (M' : pM) (F' : pF) : Prop := s_mono T T' ∧ (∀ a, a < 127 → M' a = M a ∧ F' a = F a) ∧ M' 144 = M 144 ∧ T'.1.1 ≤ T.1.1 + 900 ∧ T'.1.2 ≤ T.1.2 + 13900
theorem OR.ob (h : OR T M F N T1 M1 F1 N1) (h1 : YN N) (h2 : YN N1) : OB T M F T1 M1 F1 := by
  obtain ⟨a1, a2, a3, a4, a5, a6⟩ := h
  unfold YN at h1 h2
  exact ⟨a1, a2, a3, by omega, by omega⟩
def t_fd (bs : Int → Int) (z : Int) (X : Nat → Int32) : Nat → Int → Int
  | 0 => bs
  | n + 1 => u1 (t_fd bs z X n) (z + (n : Int)) (nbt (X (n / 4)) (n % 4))
def x5 (y1 y2 y3 y4 y5 : Int32) : Nat → Int32 := fun n => match n with
  | 0 => y1
  | 1 => y2
  | 2 => y3
  | 3 => y4
  | _ => y5
theorem t_fd20 {y1 y2 y3 y4 y5 : Int32} : t_fd bs z (x5 y1 y2 y3 y4 y5) 20 = t_p20 bs z y1 y2 y3 y4 y5 := by
  have e : ∀ n : Nat, t_fd bs z (x5 y1 y2 y3 y4 y5) (n + 1) = u1 (t_fd bs z (x5 y1 y2 y3 y4 y5) n) (z + (n : Int)) (nbt (x5 y1 y2 y3 y4 y5 (n / 4)) (n % 4)) := fun _ => rfl
  unfold t_p20 t_p4
  rw [e 19, e 18, e 17, e 16, e 15, e 14, e 13, e 12, e 11, e 10, e 9, e 8, e 7, e 6, e 5, e 4, e 3, e 2, e 1, e 0]
  simp only [Int.add_assoc, Int.reduceAdd, Nat.reduceDiv, Nat.reduceMod, Int.cast_ofNat_Int, Int.natCast_zero, Int.natCast_one, Int.add_zero, show x5 y1 y2 y3 y4 y5 0 = y1 from rfl, show x5 y1 y2 y3 y4 y5 1 = y2 from rfl, show x5 y1 y2 y3 y4 y5 2 = y3 from rfl, show x5 y1 y2 y3 y4 y5 3 = y4 from rfl, show x5 y1 y2 y3 y4 y5 4 = y5 from rfl, show t_fd bs z (x5 y1 y2 y3 y4 y5) 0 = bs from rfl]
theorem shf {x : Int32} (j : Nat) (hj : j < 4) : (x.toUInt32 >>> ((iI (24 - 8 * (j : Int))).toUInt32 &&& Int32.toUInt32 31)).toInt32 &&& iI 255 = iI (nbt x j) := by
  have h : j = 0 ∨ j = 1 ∨ j = 2 ∨ j = 3 := by omega
  rcases h with rfl | rfl | rfl | rfl
  · exact nbtm x 0 _ rfl
  · exact nbtm x 1 _ rfl
  · exact nbtm x 2 _ rfl
  · exact nbtm x 3 _ rfl
theorem fe_loop {X : Nat → Int32} {l1 l2 l3 l4 l5 : Slot} (t127 : p_ty T 127 = (18, 24)) (t128 : p_ty T 128 = (1, 2000)) (f1 : F 127 1 = some 128) (hr : 145 ≤ r) (tr : p_ty T r = (1, 5)) (hz : 0 ≤ z ∧ z ≤ 1980) : ∀ (n k : Nat) (M : pM), k + n = 20 → M 127 2 = z → (∀ j : Nat, j < 5 → M r (j : Int) = jI (X j)) → M 128 = t_fd bs z X k →
    ∃ M', (∀ e, R e m_X8_feed 51 [.val (.ref 127), l1, l2, l3, l4, l5, .val (.ref r), .val (.int (iI (k : Int)))] [] T M F = R e m_X8_feed 98 [.val (.ref 127), l1, l2, l3, l4, l5, .val (.ref r), .val (.int (iI 20))] [] T M' F) ∧ M' 128 = t_fd bs z X 20 ∧ ∀ a, a ≠ 128 → M' a = M a := by
  intro n
  induction n with
  | zero =>
    intro k M hk h2 hM h8
    obtain rfl : k = 20 := by omega
    refine ⟨M, fun e => ?_, h8, fun _ _ => rfl⟩
    clear hM h8
    simp (disch := omega) only [x_X8_feed_51, x_X8_feed_53, x_X8_feed_55, List.length_cons, List.length_nil, Nat.reduceLeDiff, Nat.zero_add, iI_add, iI_sub, iI_mul, iI_neg, iI_lt, iI_le, iI_eq, jI_iI, B_True, B_False, B_t, B_f, ck_True, gd_True, cb_v, cb_n, p_mv_rw, p_fv_rw, p_rv_some, pA_1, pA_90, pA_92, pA_3, pA_2, pA_93, pA_4, pA_91, pA_95, pS_i, pW_i, pZ_0, pZ_1, pZ_b, bI_e0, u1_s, u1_n, uA_s, uA_n, true_and, and_true, not_true_eq_false, not_false_eq_true, eq_self, iI_z, al1, al2, al3, al4, al90, al91, al92, al93, al95, Int.cast_ofNat_Int, Nat.reduceAdd, Int.reduceNeg, Int.reduceAdd, Int.reduceSub, Int.reduceMul, Int.reduceLT, Int.reduceLE, Int.reduceGT, Int.reduceGE, Int.reduceEq, Int.reduceNe, Nat.reduceEqDiff, Int.zero_add, Int.add_zero, p_ty0, p_ty1, p_ty2, p_ty3, p_ty4, p_ty5, p_ty6, p_ty7, p_ty8, p_ty9, p_ty10, p_ty11, B_t, B_f]
  | succ n ih =>
    intro k M hk h2 hM h8
    obtain ⟨M1, hM1⟩ : ∃ M1 : pM, M1 = uA M 128 (t_fd bs z X (k + 1)) := ⟨_, rfl⟩
    have m1 : ∀ a, a ≠ 128 → M1 a = M a := fun a ha => by rw [hM1, uA_n ha]
    obtain ⟨M2, r2, e2, f2⟩ := ih (k + 1) M1 (by omega) (by rw [m1 127 (by omega)]; exact h2) (fun j hj => by rw [m1 r (by omega)]; exact hM j hj) (by rw [hM1, uA_s])
    refine ⟨M2, fun e => ?_, e2, fun a ha => (f2 a ha).trans (m1 a ha)⟩
    rw [← r2 e, hM1, t_fd, ← h8, x_X8_feed_51, Int.natCast_add_one]
    have hx := hM (k / 4) (by omega)
    rw [Int.natCast_ediv] at hx
    have hs := shf (x := X (k / 4)) (k % 4) (by omega)
    have e1 : (k : Int) - (k : Int) / 4 * 4 = ((k % 4 : Nat) : Int) := by omega
    have e3 : ((4 : Nat) : Int) = 4 := rfl
    rw [e3] at hx
    have e4 : (0 : Int) ≤ (k : Int) / 4 ∧ (k : Int) / 4 < 5 := by omega
    have hn := nbt_rg (X (k / 4)) (k % 4)
    clear r2 e2 f2 ih hM h8 hM1 m1
    simp (disch := omega) only [x_X8_feed_53, x_X8_feed_55, x_X8_feed_58, x_X8_feed_59, x_X8_feed_62, x_X8_feed_63, x_X8_feed_66, x_X8_feed_68, x_X8_feed_69, x_X8_feed_71, x_X8_feed_73, x_X8_feed_74, x_X8_feed_75, x_X8_feed_76, x_X8_feed_78, x_X8_feed_80, x_X8_feed_82, x_X8_feed_83, x_X8_feed_84, x_X8_feed_85, x_X8_feed_86, x_X8_feed_87, x_X8_feed_90, x_X8_feed_91, x_X8_feed_92, x_X8_feed_95, List.length_cons, List.length_nil, Nat.reduceLeDiff, Nat.zero_add, iI_add, iI_sub, iI_mul, iI_neg, iI_lt, iI_le, iI_eq, jI_iI, B_True, B_False, B_t, B_f, ck_True, gd_True, cb_v, cb_n, p_mv_rw, p_fv_rw, p_rv_some, pA_1, pA_90, pA_92, pA_3, pA_2, pA_93, pA_4, pA_91, pA_95, pS_i, pW_i, pZ_0, pZ_1, pZ_b, bI_e0, u1_s, u1_n, uA_s, uA_n, true_and, and_true, not_true_eq_false, not_false_eq_true, eq_self, iI_z, al1, al2, al3, al4, al90, al91, al92, al93, al95, Int.cast_ofNat_Int, Nat.reduceAdd, Int.reduceNeg, Int.reduceAdd, Int.reduceSub, Int.reduceMul, Int.reduceLT, Int.reduceLE, Int.reduceGT, Int.reduceGE, Int.reduceEq, Int.reduceNe, Nat.reduceEqDiff, Int.zero_add, Int.add_zero, p_ty0, p_ty1, p_ty2, p_ty3, p_ty4, p_ty5, p_ty6, p_ty7, p_ty8, p_ty9, p_ty10, p_ty11, t127, t128, f1, tr, h2, hx, hs, e1, iI_div, iI_jI, gd_t, B_t, B_f]
theorem y_feed (hW : MW T M F bd lg N S ea bs z) (hz : 0 ≤ z ∧ z ≤ 2000) (y1 y2 y3 y4 y5 : Int32) : (z ≤ 1980 → ∃ T' M' F', (∀ d, 10 ≤ d → callD d m_X8_feed [.ref 127, .int y1, .int y2, .int y3, .int y4, .int y5] T M F = some (.inl (some (.int (iI (z + 20)))), T', M', F')) ∧ MW T' M' F' bd lg N S ea (t_p20 bs z y1 y2 y3 y4 y5) (z + 20) ∧ M' 127 0 = 0 ∧ OB T M F T' M' F') ∧ (¬ z ≤ 1980 → YRet bd N T M F m_X8_feed [.ref 127, .int y1, .int y2, .int y3, .int y4, .int y5] 10 (.int (iI 0)) 1 S ea bs z) := by
  have hY := hW.1.1
  have t0 := hY.1
  have h2 := hW.2.2.1
  refine ⟨fun hn => ?_, fun hn => YRet.no hW (fun d hd => ?_)⟩
  · obtain ⟨W0, z0, O0⟩ := hW.wz 0
    obtain ⟨⟨a1, a2, a3, a4, a5, a6⟩, ⟨b1, b2, b3, b4, b5⟩, h2', h3, h4⟩ := W0
    obtain ⟨d0, d0', d1, d2, d3, d4⟩ := id a2
    obtain ⟨M1, hM1⟩ : ∃ M1 : pM, M1 = uA (w0 M 0) T.1.1 (u1 (u1 (u1 (u1 (u1 (fun _ => 0) 0 (jI y1)) 1 (jI y2)) 2 (jI y3)) 3 (jI y4)) 4 (jI y5)) := ⟨_, rfl⟩
    obtain ⟨F1, hF1⟩ : ∃ F1 : pF, F1 = uA F T.1.1 (fun _ => none) := ⟨_, rfl⟩
    have m1 : ∀ a, a ≠ T.1.1 → M1 a = w0 M 0 a := fun a ha => by rw [hM1, uA_n ha]
    have f1 : ∀ a, a ≠ T.1.1 → F1 a = F a := fun a ha => by rw [hF1, uA_n ha]
    have tn : p_ty (p_new T 1 5) T.1.1 = (1, 5) := p_ty_nw (by omega)
    have tx := fun a (ha : a < T.1.1) => p_ty_nx (T := T) (tag := 1) (n := 5) (a := a) ha
    have hY1 : YT (p_new T 1 5) F1 bd lg N := by
      have hc : YC (fun _ => True) T M F lg N (p_new T 1 5) M1 F1 lg N → True := fun _ => trivial
      obtain ⟨ty127, ty128, fy1, ty129, fy4, ty130, fy5, ty131, fy6, ty132, fy7, ty133, fy8, ty136, fy15, ty137, fy16, ty138, fy17, ty139, fy18, ty140, fy19, ty141, fy20, ty142, fy21, ty143, fy22, hbd, tybd, fy9, hlg, tylg, fy13, hN⟩ := hY
      have g := fun a (ha : a < 145) => tx a (by omega)
      have h := fun j => congrFun (f1 127 (by omega)) j
      refine ⟨(g _ (by omega)).trans ty127, (g _ (by omega)).trans ty128, (h _).trans fy1, (g _ (by omega)).trans ty129, (h _).trans fy4, (g _ (by omega)).trans ty130, (h _).trans fy5, (g _ (by omega)).trans ty131, (h _).trans fy6, (g _ (by omega)).trans ty132, (h _).trans fy7, (g _ (by omega)).trans ty133, (h _).trans fy8, (g _ (by omega)).trans ty136, (h _).trans fy15, (g _ (by omega)).trans ty137, (h _).trans fy16, (g _ (by omega)).trans ty138, (h _).trans fy17, (g _ (by omega)).trans ty139, (h _).trans fy18, (g _ (by omega)).trans ty140, (h _).trans fy19, (g _ (by omega)).trans ty141, (h _).trans fy20, (g _ (by omega)).trans ty142, (h _).trans fy21, (g _ (by omega)).trans ty143, (h _).trans fy22, hbd, (tx bd d2).trans tybd, (h _).trans fy9, hlg, (tx lg d3).trans tylg, (h _).trans fy13, hN⟩
    have hF1' : F1 127 1 = some 128 := by rw [f1 127 (by omega)]; exact hY.2.2.1
    obtain ⟨M2, r2, e2, f2⟩ := fe_loop (T := p_new T 1 5) (F := F1) (X := x5 y1 y2 y3 y4 y5) (l1 := .val (.int y1)) (l2 := .val (.int y2)) (l3 := .val (.int y3)) (l4 := .val (.int y4)) (l5 := .val (.int y5)) (bs := bs) (z := z) hY1.1 hY1.2.1 hF1' (by omega) tn ⟨hz.1, hn⟩ 20 0 M1 (by omega) (by rw [m1 127 (by omega)]; exact h2') (fun j hj => by
      rw [hM1, uA_s]
      have h : j = 0 ∨ j = 1 ∨ j = 2 ∨ j = 3 ∨ j = 4 := by omega
      rcases h with rfl | rfl | rfl | rfl | rfl
      · rw [u1_n (by decide), u1_n (by decide), u1_n (by decide), u1_n (by decide)]; exact u1_s
      · rw [u1_n (by decide), u1_n (by decide), u1_n (by decide)]; exact u1_s
      · rw [u1_n (by decide), u1_n (by decide)]; exact u1_s
      · rw [u1_n (by decide)]; exact u1_s
      · exact u1_s) (by rw [m1 128 (by omega)]; exact h4)
    rw [t_fd20] at e2
    obtain ⟨M3, hM3⟩ : ∃ M3 : pM, M3 = uA M2 127 (u1 (M2 127) 2 (z + 20)) := ⟨_, rfl⟩
    have f3 : ∀ a, a ≠ 127 → a ≠ 128 → a ≠ T.1.1 → M3 a = w0 M 0 a := fun a x1 x2 x3 => by rw [hM3, uA_n x1, f2 a x2, m1 a x3]
    have g3 : ∀ j, j ≠ 2 → M3 127 j = w0 M 0 127 j := fun j hj => by rw [hM3, uA_s, u1_n hj, f2 127 (by omega), m1 127 (by omega)]
    have k2 : M2 127 2 = z := by rw [f2 127 (by omega), m1 127 (by omega)]; exact h2'
    refine ⟨p_new T 1 5, M3, F1, fun d hd => ?_, ⟨⟨hY1, ⟨d0, d0', d1, Nat.lt_succ_of_lt d2, Nat.lt_succ_of_lt d3, Nat.le_succ_of_le d4⟩, a3, ?_, a5, ?_⟩, ⟨?_, ?_, ?_, ?_, ?_⟩, ?_, ?_, ?_⟩, ?_, s_mono.new, fun a ha => ⟨?_, f1 a (by omega)⟩, ?_, ?_, ?_⟩
    · refine callD_go 9 hd rfl (fun e he => ?_)
      show R e m_X8_feed 0 [.val (.ref 127), .val (.int y1), .val (.int y2), .val (.int y3), .val (.int y4), .val (.int y5), .unset, .unset] [] T M F = _
      have r2 := r2 e
      rw [hM1, hF1] at r2
      rw [hM3, hF1]
      have u127 := hY1.1
      have hW127 : w0 M 0 = uA M 127 (u1 (M 127) 0 0) := rfl
      rw [hW127] at r2
      rw [Int.natCast_zero] at r2
      have e5 : (5 : Int).toNat = 5 := rfl
      clear hW O0 hY a1 a2 a4 b1 hM1 m1 f1 hY1 e2 f2 hM3 f3 g3 a3 b2 b4 b5 h3 h4 z0 hF1 tx
      simp (disch := omega) only [x_X8_feed_0, x_X8_feed_1, x_X8_feed_2, x_X8_feed_5, x_X8_feed_6, x_X8_feed_9, x_X8_feed_12, x_X8_feed_15, x_X8_feed_16, x_X8_feed_17, x_X8_feed_20, x_X8_feed_21, x_X8_feed_22, x_X8_feed_24, x_X8_feed_25, x_X8_feed_26, x_X8_feed_27, x_X8_feed_28, x_X8_feed_29, x_X8_feed_30, x_X8_feed_31, x_X8_feed_32, x_X8_feed_33, x_X8_feed_34, x_X8_feed_35, x_X8_feed_36, x_X8_feed_37, x_X8_feed_38, x_X8_feed_40, x_X8_feed_41, x_X8_feed_42, x_X8_feed_43, x_X8_feed_45, x_X8_feed_46, x_X8_feed_48, x_X8_feed_49, List.length_cons, List.length_nil, Nat.reduceLeDiff, Nat.zero_add, iI_add, iI_sub, iI_mul, iI_neg, iI_lt, iI_le, iI_eq, jI_iI, B_True, B_False, B_t, B_f, ck_True, gd_True, cb_v, cb_n, p_mv_rw, p_fv_rw, p_rv_some, pA_1, pA_90, pA_92, pA_3, pA_2, pA_93, pA_4, pA_91, pA_95, pS_i, pW_i, pZ_0, pZ_1, pZ_b, bI_e0, u1_s, u1_n, uA_s, uA_n, true_and, and_true, not_true_eq_false, not_false_eq_true, eq_self, iI_z, al1, al2, al3, al4, al90, al91, al92, al93, al95, Int.cast_ofNat_Int, Nat.reduceAdd, Int.reduceNeg, Int.reduceAdd, Int.reduceSub, Int.reduceMul, Int.reduceLT, Int.reduceLE, Int.reduceGT, Int.reduceGE, Int.reduceEq, Int.reduceNe, Nat.reduceEqDiff, Int.zero_add, Int.add_zero, p_ty0, p_ty1, p_ty2, p_ty3, p_ty4, p_ty5, p_ty6, p_ty7, p_ty8, p_ty9, p_ty10, p_ty11, t0, h2, tn, e5, uA_uA, gd_t, ck_t, B_t, B_f]
      rw [r2]
      simp (disch := omega) only [x_X8_feed_98, x_X8_feed_99, x_X8_feed_100, x_X8_feed_103, x_X8_feed_105, x_X8_feed_106, x_X8_feed_109, x_X8_feed_110, x_X8_feed_113, List.length_cons, List.length_nil, Nat.reduceLeDiff, Nat.zero_add, iI_add, iI_sub, iI_mul, iI_neg, iI_lt, iI_le, iI_eq, jI_iI, B_True, B_False, B_t, B_f, ck_True, gd_True, cb_v, cb_n, p_mv_rw, p_fv_rw, p_rv_some, pA_1, pA_90, pA_92, pA_3, pA_2, pA_93, pA_4, pA_91, pA_95, pS_i, pW_i, pZ_0, pZ_1, pZ_b, bI_e0, u1_s, u1_n, uA_s, uA_n, true_and, and_true, not_true_eq_false, not_false_eq_true, eq_self, iI_z, al1, al2, al3, al4, al90, al91, al92, al93, al95, Int.cast_ofNat_Int, Nat.reduceAdd, Int.reduceNeg, Int.reduceAdd, Int.reduceSub, Int.reduceMul, Int.reduceLT, Int.reduceLE, Int.reduceGT, Int.reduceGE, Int.reduceEq, Int.reduceNe, Nat.reduceEqDiff, Int.zero_add, Int.add_zero, p_ty0, p_ty1, p_ty2, p_ty3, p_ty4, p_ty5, p_ty6, p_ty7, p_ty8, p_ty9, p_ty10, p_ty11, u127, k2, gd_t]
    · rw [f3 lg (by omega) (by omega) (by omega)]; exact a4
    · rw [g3 14 (by omega)]; exact a6
    · unfold YG at *
      rw [f3 129 (by omega) (by omega) (by omega), f3 130 (by omega) (by omega) (by omega), f3 131 (by omega) (by omega) (by omega), f3 132 (by omega) (by omega) (by omega), f3 133 (by omega) (by omega) (by omega)]
      exact b1
    · rw [f3 bd (by omega) (by omega) (by omega)]; exact b2
    · rw [g3 10 (by omega)]; exact b3
    · rw [g3 11 (by omega)]; exact b4
    · rw [g3 12 (by omega)]; exact b5
    · rw [hM3, uA_s, u1_s]
    · rw [g3 3 (by omega)]; exact h3
    · rw [hM3, uA_n (by omega)]; exact e2
    · rw [g3 0 (by omega)]; exact z0
    · rw [f3 a (by omega) (by omega) (by omega)]; exact uA_n (by omega)
    · rw [f3 144 (by omega) (by omega) (by omega)]; exact uA_n (by omega)
    · show T.1.1 + 1 ≤ _; omega
    · show T.1.2 + 5 ≤ _; omega
  · refine callD_go 9 hd rfl (fun e he => ?_)
    show R e m_X8_feed 0 [.val (.ref 127), .val (.int y1), .val (.int y2), .val (.int y3), .val (.int y4), .val (.int y5), .unset, .unset] [] T M F = _
    have hno := y_no (d := e) (M := w0 M 0) (x := 1) hY (by omega) (by omega)
    rw [w0_w0] at hno
    unfold w0 at hno ⊢
    clear hW hY
    simp (disch := omega) only [x_X8_feed_0, x_X8_feed_1, x_X8_feed_2, x_X8_feed_5, x_X8_feed_6, x_X8_feed_9, x_X8_feed_12, x_X8_feed_15, x_X8_feed_16, x_X8_feed_17, x_X8_feed_20, List.length_cons, List.length_nil, Nat.reduceLeDiff, Nat.zero_add, iI_add, iI_sub, iI_mul, iI_neg, iI_lt, iI_le, iI_eq, jI_iI, B_True, B_False, B_t, B_f, ck_True, gd_True, cb_v, cb_n, p_mv_rw, p_fv_rw, p_rv_some, pA_1, pA_90, pA_92, pA_3, pA_2, pA_93, pA_4, pA_91, pA_95, pS_i, pW_i, pZ_0, pZ_1, pZ_b, bI_e0, u1_s, u1_n, uA_s, uA_n, true_and, and_true, not_true_eq_false, not_false_eq_true, eq_self, iI_z, al1, al2, al3, al4, al90, al91, al92, al93, al95, Int.cast_ofNat_Int, Nat.reduceAdd, Int.reduceNeg, Int.reduceAdd, Int.reduceSub, Int.reduceMul, Int.reduceLT, Int.reduceLE, Int.reduceGT, Int.reduceGE, Int.reduceEq, Int.reduceNe, Nat.reduceEqDiff, Int.zero_add, Int.add_zero, p_ty0, p_ty1, p_ty2, p_ty3, p_ty4, p_ty5, p_ty6, p_ty7, p_ty8, p_ty9, p_ty10, p_ty11, t0, h2, hno, gd_t, B_t, B_f]
end PYFE
