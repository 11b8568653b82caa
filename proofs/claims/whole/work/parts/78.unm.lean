section PUNM
variable {d bd lg N lg1 N1 lg2 N2 : Nat} {T T1 T2 : pT} {M M0 M1 M2 : pM} {F F1 F2 : pF} {bb b0 v w : Int → Int} {t pas q its to as p n i o c s x k a b tk pc t0' p0 q0 i0 o0 a0 pas1 q1 : Int} {H : List HE} {X : Nat → Prop}
theorem un_mk (hb : MB bb) (ht : t = 0 ∨ t = 1) (hp : PS bb t pas) (h : MV bb t pas its to) : u1 (u1 (u1 (mk_bb bb pas its to as) to 0) (mk_pl bb pas its to) (bb (mk_pl bb pas its to))) its (bb its) = bb := by
  obtain ⟨z1, z2, z3⟩ := mk_pl_rg hb ht hp h
  funext j
  unfold mk_bb
  by_cases e1 : j = its
  · rw [e1, u1_s]
  rw [u1_n e1]
  by_cases e2 : j = mk_pl bb pas its to
  · rw [e2, u1_s]
  rw [u1_n e2]
  by_cases e3 : j = to
  · rw [e3, u1_s]
    exact (z3 (fun z => e2 (e3.trans z.symm))).1.symm
  rw [u1_n e3, u1_n e3, u1_n e1, u1_n e2]
theorem y_unmake (hV : YV T M F bd lg N ((b0, t, pas, q, its, to, as) :: H)) (hS : YS M bd (mk_bb b0 pas its to as) (1 - t) pas1 q1) (hb : MB b0) (ht : t = 0 ∨ t = 1) (hp : PS b0 t pas) (hq : 0 ≤ q ∧ q ≤ 1000) (h : MV b0 t pas its to) (hH : H.length < 614) :
    ∃ M', (∀ d, 1 ≤ d → callD d m_X8_unmake [.ref 127] T M F = some (.inl none, T, M', F)) ∧ YV T M' F bd lg N H ∧ YS M' bd b0 t pas q ∧ (∀ j, j ≠ 10 → j ≠ 11 → j ≠ 12 → j ≠ 14 → M' 127 j = M 127 j) ∧ M' 127 14 = (H.length : Int) ∧ ∀ a, a ≠ 127 → a ≠ bd → M' a = M a := by
  obtain ⟨hY, hD, hN, ⟨⟨g0, g1, g2, g3, g4, g5, g6⟩, hL⟩, hl, h14⟩ := id hV
  obtain ⟨hG, s1, s2, s3, s4⟩ := id hS
  obtain ⟨d0, d0', d1, d2, d3, d4⟩ := id hD
  obtain ⟨z1, z2, -⟩ := mk_pl_rg hb ht hp h
  have hN7 : 448 ≤ N ∧ N ≤ 7168 := by unfold YN at hN; omega
  rw [List.length_cons] at hl h14
  have hun := un_mk (as := as) hb ht hp h
  have hi := h.1
  have hc := h.2.1
  have hbi := hb its
  have hbp := hb (mk_pl b0 pas its to)
  have hpr := PS_rg hp
  obtain ⟨M1, hM1⟩ : ∃ M1 : pM, M1 = uA M 127 (u1 (M 127) 14 (H.length : Int)) := ⟨_, rfl⟩
  obtain ⟨M2, hM2⟩ : ∃ M2 : pM, M2 = uA M1 bd b0 := ⟨_, rfl⟩
  obtain ⟨M3, hM3⟩ : ∃ M3 : pM, M3 = uA M2 127 (u1 (u1 (u1 (M2 127) 11 pas) 12 q) 10 (1 - (1 - t))) := ⟨_, rfl⟩
  have e127 : M3 127 = u1 (u1 (u1 (u1 (M 127) 14 (H.length : Int)) 11 pas) 12 q) 10 (1 - (1 - t)) := by
    rw [hM3, uA_s, hM2, uA_n (by omega), hM1, uA_s]
  have mo : ∀ a, a ≠ 127 → a ≠ bd → M3 a = M a := fun a h1 h2 => by rw [hM3, uA_n h1, hM2, uA_n h2, hM1, uA_n h1]
  refine ⟨M3, fun d hd => ?_, ⟨hY, hD, hN, ?_, by omega, ?_⟩, ⟨?_, ?_, ?_, ?_, ?_⟩, ?_, ?_, mo⟩
  · refine callD_go 0 hd rfl (fun e he => ?_)
    show R e m_X8_unmake 0 [.val (.ref 127), .unset] [] T M F = _
    have b1 : M1 bd = mk_bb b0 pas its to as := by rw [hM1, uA_n (by omega)]; exact s1
    have L1 : M1 lg = M lg := by rw [hM1, uA_n (by omega)]
    have n14 : M1 127 14 = (H.length : Int) := by rw [hM1, uA_s, u1_s]
    have c1 : R e m_X8_unmake 0 [.val (.ref 127), .unset] [] T M F = R e m_X8_unmake 10 [.val (.ref 127), .unset] [] T M1 F := by
      have ty := hY.1
      have e9 : ((H.length + 1 : Nat) : Int) - 1 = H.length := by omega
      rw [hM1]
      clear hV hS hun hL hM2 hM3 e127 mo hG hb hp h b1 L1 n14 hM1
      simp (disch := omega) only [x_X8_unmake_0, x_X8_unmake_1, x_X8_unmake_2, x_X8_unmake_5, x_X8_unmake_6, x_X8_unmake_7, List.length_cons, List.length_nil, Nat.reduceLeDiff, Nat.zero_add, iI_add, iI_sub, iI_mul, iI_neg, iI_lt, iI_le, iI_eq, jI_iI, B_True, B_False, B_t, B_f, ck_True, gd_True, cb_v, cb_n, p_mv_rw, p_fv_rw, p_rv_some, pA_1, pA_90, pA_92, pA_3, pA_2, pA_93, pA_4, pA_91, pA_95, pS_i, pW_i, pZ_0, pZ_1, pZ_b, bI_e0, u1_s, u1_n, uA_s, uA_n, true_and, and_true, not_true_eq_false, not_false_eq_true, eq_self, iI_z, al1, al2, al3, al4, al90, al91, al92, al93, al95, Int.cast_ofNat_Int, Nat.reduceAdd, Int.reduceNeg, Int.reduceAdd, Int.reduceSub, Int.reduceMul, Int.reduceLT, Int.reduceLE, Int.reduceGT, Int.reduceGE, Int.reduceEq, Int.reduceNe, Nat.reduceEqDiff, Int.zero_add, Int.add_zero, p_ty0, p_ty1, p_ty2, p_ty3, p_ty4, p_ty5, p_ty6, p_ty7, p_ty8, p_ty9, p_ty10, p_ty11, ty, h14, e9, gd_t]
    have c2 : R e m_X8_unmake 10 [.val (.ref 127), .unset] [] T M1 F = R e m_X8_unmake 72 [.val (.ref 127), .val (.int (iI (7 * (H.length : Int))))] [] T M2 F := by
      have ty9 := hY
      obtain ⟨ty127, ty128, fy1, ty129, fy4, ty130, fy5, ty131, fy6, ty132, fy7, ty133, fy8, ty136, fy15, ty137, fy16, ty138, fy17, ty139, fy18, ty140, fy19, ty141, fy20, ty142, fy21, ty143, fy22, hbd, tybd, fy9, hlg, tylg, fy13, hN⟩ := ty9
      have e9 : (H.length : Int) * 7 = 7 * (H.length : Int) := by omega
      rw [hM2]
      conv => rhs; rw [← hun]
      clear hV hS hL hM2 hM3 e127 mo hG hb hp h hun c1 hM1
      simp (disch := omega) only [x_X8_unmake_10, x_X8_unmake_11, x_X8_unmake_14, x_X8_unmake_16, x_X8_unmake_17, x_X8_unmake_18, x_X8_unmake_19, x_X8_unmake_22, x_X8_unmake_23, x_X8_unmake_26, x_X8_unmake_27, x_X8_unmake_28, x_X8_unmake_29, x_X8_unmake_30, x_X8_unmake_31, x_X8_unmake_32, x_X8_unmake_33, x_X8_unmake_36, x_X8_unmake_37, x_X8_unmake_40, x_X8_unmake_41, x_X8_unmake_42, x_X8_unmake_43, x_X8_unmake_44, x_X8_unmake_45, x_X8_unmake_48, x_X8_unmake_49, x_X8_unmake_50, x_X8_unmake_51, x_X8_unmake_52, x_X8_unmake_53, x_X8_unmake_54, x_X8_unmake_57, x_X8_unmake_58, x_X8_unmake_61, x_X8_unmake_62, x_X8_unmake_63, x_X8_unmake_64, x_X8_unmake_67, x_X8_unmake_68, x_X8_unmake_69, x_X8_unmake_70, x_X8_unmake_71, List.length_cons, List.length_nil, Nat.reduceLeDiff, Nat.zero_add, iI_add, iI_sub, iI_mul, iI_neg, iI_lt, iI_le, iI_eq, jI_iI, B_True, B_False, B_t, B_f, ck_True, gd_True, cb_v, cb_n, p_mv_rw, p_fv_rw, p_rv_some, pA_1, pA_90, pA_92, pA_3, pA_2, pA_93, pA_4, pA_91, pA_95, pS_i, pW_i, pZ_0, pZ_1, pZ_b, bI_e0, u1_s, u1_n, uA_s, uA_n, true_and, and_true, not_true_eq_false, not_false_eq_true, eq_self, iI_z, al1, al2, al3, al4, al90, al91, al92, al93, al95, Int.cast_ofNat_Int, Nat.reduceAdd, Int.reduceNeg, Int.reduceAdd, Int.reduceSub, Int.reduceMul, Int.reduceLT, Int.reduceLE, Int.reduceGT, Int.reduceGE, Int.reduceEq, Int.reduceNe, Nat.reduceEqDiff, Int.zero_add, Int.add_zero, p_ty0, p_ty1, p_ty2, p_ty3, p_ty4, p_ty5, p_ty6, p_ty7, p_ty8, p_ty9, p_ty10, p_ty11, ty127, ty128, fy1, ty129, fy4, ty130, fy5, ty131, fy6, ty132, fy7, ty133, fy8, ty136, fy15, ty137, fy16, ty138, fy17, ty139, fy18, ty140, fy19, ty141, fy20, ty142, fy21, ty143, fy22, tybd, fy9, tylg, fy13, b1, L1, n14, e9, g0, g1, g2, g3, g4, uA_uA, gd_t]
    have L2 : M2 lg = M lg := by rw [hM2, uA_n (by omega)]; exact L1
    have n10 : M2 127 10 = 1 - t := by rw [hM2, uA_n (by omega), hM1, uA_s, u1_n (by omega)]; exact s2
    have ty9 := hY
    obtain ⟨ty127, ty128, fy1, ty129, fy4, ty130, fy5, ty131, fy6, ty132, fy7, ty133, fy8, ty136, fy15, ty137, fy16, ty138, fy17, ty139, fy18, ty140, fy19, ty141, fy20, ty142, fy21, ty143, fy22, hbd, tybd, fy9, hlg, tylg, fy13, hN⟩ := ty9
    rw [c1, c2, hM3]
    clear hV hS hL hM2 hM3 e127 mo hG hb hp h hun c1 c2 hM1 b1 L1
    simp (disch := omega) only [x_X8_unmake_72, x_X8_unmake_73, x_X8_unmake_74, x_X8_unmake_77, x_X8_unmake_78, x_X8_unmake_79, x_X8_unmake_80, x_X8_unmake_81, x_X8_unmake_84, x_X8_unmake_85, x_X8_unmake_86, x_X8_unmake_89, x_X8_unmake_90, x_X8_unmake_92, x_X8_unmake_93, x_X8_unmake_94, x_X8_unmake_97, x_X8_unmake_98, x_X8_unmake_99, x_X8_unmake_100, x_X8_unmake_103, x_X8_unmake_104, x_X8_unmake_107, List.length_cons, List.length_nil, Nat.reduceLeDiff, Nat.zero_add, iI_add, iI_sub, iI_mul, iI_neg, iI_lt, iI_le, iI_eq, jI_iI, B_True, B_False, B_t, B_f, ck_True, gd_True, cb_v, cb_n, p_mv_rw, p_fv_rw, p_rv_some, pA_1, pA_90, pA_92, pA_3, pA_2, pA_93, pA_4, pA_91, pA_95, pS_i, pW_i, pZ_0, pZ_1, pZ_b, bI_e0, u1_s, u1_n, uA_s, uA_n, true_and, and_true, not_true_eq_false, not_false_eq_true, eq_self, iI_z, al1, al2, al3, al4, al90, al91, al92, al93, al95, Int.cast_ofNat_Int, Nat.reduceAdd, Int.reduceNeg, Int.reduceAdd, Int.reduceSub, Int.reduceMul, Int.reduceLT, Int.reduceLE, Int.reduceGT, Int.reduceGE, Int.reduceEq, Int.reduceNe, Nat.reduceEqDiff, Int.zero_add, Int.add_zero, p_ty0, p_ty1, p_ty2, p_ty3, p_ty4, p_ty5, p_ty6, p_ty7, p_ty8, p_ty9, p_ty10, p_ty11, ty127, ty128, fy1, ty129, fy4, ty130, fy5, ty131, fy6, ty132, fy7, ty133, fy8, ty136, fy15, ty137, fy16, ty138, fy17, ty139, fy18, ty140, fy19, ty141, fy20, ty142, fy21, ty143, fy22, tybd, fy9, tylg, fy13, L2, n10, g5, g6, uA_uA, gd_t]
  · rw [mo lg (by omega) (Ne.symm d1)]; exact hL
  · rw [e127, u1_n (by omega), u1_n (by omega), u1_n (by omega), u1_s]
  · unfold YG at hG ⊢
    rw [mo 129 (by omega) (by omega), mo 130 (by omega) (by omega), mo 131 (by omega) (by omega), mo 132 (by omega) (by omega), mo 133 (by omega) (by omega)]
    exact hG
  · rw [hM3, uA_n (by omega), hM2, uA_s]
  · rw [e127, u1_s]; omega
  · rw [e127, u1_n (by omega), u1_n (by omega), u1_s]
  · rw [e127, u1_n (by omega), u1_s]
  · intro j j1 j2 j3 j4
    rw [e127, u1_n j1, u1_n j3, u1_n j2, u1_n j4]
  · rw [e127, u1_n (by omega), u1_n (by omega), u1_n (by omega), u1_s]
theorem mk_MB (hb : MB bb) (ht : t = 0 ∨ t = 1) (h : MV bb t pas its to) (has : 2 ≤ as ∧ as ≤ 5) : MB (mk_bb bb pas its to as) := by
  intro j
  obtain ⟨-, v2, -⟩ := mk_th_v hb ht h has
  have hj := hb j
  unfold mk_bb
  by_cases e1 : j = to
  · rw [e1, u1_s]; omega
  rw [u1_n e1]
  by_cases e2 : j = its
  · rw [e2, u1_s]; exact Or.inl rfl
  rw [u1_n e2]
  by_cases e3 : j = mk_pl bb pas its to
  · rw [e3, u1_s]; exact Or.inl rfl
  rw [u1_n e3]
  exact hj
/-- the model tries a move -/
theorem y_isSafe (hV : YV T M F bd lg N H) (hS : YS M bd bb t pas q) (hP : SP bb t pas q) (hH : H.length < 614) (hM : MV bb t pas its to) (hk : m_king bb t ≠ -1) :
    ∃ T' M' F' lg' N', (∀ d, 5 ≤ d → callD d m_X8_isSafe [.ref 127, .int (iI its), .int (iI to)] T M F = some (.inl (some (.int (iI (bI (¬ m_chk (mk_bb bb pas its to 2) t))))), T', M', F')) ∧ YV T' M' F' bd lg' N' H ∧ YS M' bd bb t pas q ∧ (∀ j, j ≠ 10 → j ≠ 11 → j ≠ 12 → j ≠ 14 → M' 127 j = M 127 j) ∧ GC N N' H.length ∧ YC (fun a => a = 127 ∨ a = bd) T M F lg N T' M' F' lg' N' := by
  obtain ⟨hb, hu, h20, ht, hps, hq⟩ := id hP
  obtain ⟨T1, M1, F1, lg1, N1, r1, V1, S1, j1, G1, C1⟩ := y_make hV hS hP hH hM (as := 2) (by omega)
  obtain ⟨M2, r2, V2, S2, j2, -, f2⟩ := y_unmake V1 S1 hb ht hps (by omega) hM hH
  have hkm : m_king (mk_bb bb pas its to 2) t ≠ -1 := mk_king hb ht hps hM hk (by omega)
  have hbm : MB (mk_bb bb pas its to 2) := mk_MB hb ht hM (by omega)
  have s10 := S1.2.2.1
  have hck := fun e (he : 4 ≤ e) => y_checked (d := e) (s := t) V1.1 S1.1 (by rw [S1.2.1]; exact hbm) he ht (by rw [S1.2.1]; exact hkm)
  rw [S1.2.1] at hck
  have hbp := hb (mk_pl bb pas its to)
  refine ⟨T1, M2, F1, lg1, N1, fun d hd => ?_, V2, S2, fun j a1 a2 a3 a4 => (j2 j a1 a2 a3 a4).trans (j1 j a1 a2 a3 a4), G1, C1.1, fun a ha hx hl => (f2 a (fun z => hx (Or.inl z)) (fun z => hx (Or.inr z))).trans (C1.2.1 a ha hx hl), C1.2.2⟩
  refine callD_go 4 hd rfl (fun e he => ?_)
  show R e m_X8_isSafe 0 [.val (.ref 127), .val (.int (iI its)), .val (.int (iI to)), .unset] [] T M F = _
  have r1 := r1 e he
  have r2 := r2 e (by omega)
  have hck := hck e he
  have t0 := hV.1.1
  have t1 := V1.1.1
  have e9 : 1 - (1 - t) = t := by omega
  clear hV hS hP hM V1 S1 V2 S2 j1 j2 f2 C1 hb hu h20 hps hbm
  by_cases c : m_chk (mk_bb bb pas its to 2) t
  · rw [bI_t c] at hck
    rw [bI_f (fun z => z c)]
    simp (disch := omega) only [x_X8_isSafe_0, x_X8_isSafe_1, x_X8_isSafe_2, x_X8_isSafe_3, x_X8_isSafe_4, x_X8_isSafe_7, x_X8_isSafe_8, x_X8_isSafe_9, x_X8_isSafe_10, x_X8_isSafe_11, x_X8_isSafe_14, x_X8_isSafe_15, x_X8_isSafe_18, x_X8_isSafe_21, x_X8_isSafe_22, x_X8_isSafe_25, x_X8_isSafe_26, x_X8_isSafe_27, x_X8_isSafe_28, x_X8_isSafe_31, x_X8_isSafe_32, List.length_cons, List.length_nil, Nat.reduceLeDiff, Nat.zero_add, iI_add, iI_sub, iI_mul, iI_neg, iI_lt, iI_le, iI_eq, jI_iI, B_True, B_False, B_t, B_f, ck_True, gd_True, cb_v, cb_n, p_mv_rw, p_fv_rw, p_rv_some, pA_1, pA_90, pA_92, pA_3, pA_2, pA_93, pA_4, pA_91, pA_95, pS_i, pW_i, pZ_0, pZ_1, pZ_b, bI_e0, u1_s, u1_n, uA_s, uA_n, true_and, and_true, not_true_eq_false, not_false_eq_true, eq_self, iI_z, al1, al2, al3, al4, al90, al91, al92, al93, al95, Int.cast_ofNat_Int, Nat.reduceAdd, Int.reduceNeg, Int.reduceAdd, Int.reduceSub, Int.reduceMul, Int.reduceLT, Int.reduceLE, Int.reduceGT, Int.reduceGE, Int.reduceEq, Int.reduceNe, Nat.reduceEqDiff, Int.zero_add, Int.add_zero, p_ty0, p_ty1, p_ty2, p_ty3, p_ty4, p_ty5, p_ty6, p_ty7, p_ty8, p_ty9, p_ty10, p_ty11, t0, t1, r1, r2, s10, e9, hck, gd_t, B_t, B_f]
  · rw [bI_f c] at hck
    rw [bI_t c]
    simp (disch := omega) only [x_X8_isSafe_0, x_X8_isSafe_1, x_X8_isSafe_2, x_X8_isSafe_3, x_X8_isSafe_4, x_X8_isSafe_7, x_X8_isSafe_8, x_X8_isSafe_9, x_X8_isSafe_10, x_X8_isSafe_11, x_X8_isSafe_14, x_X8_isSafe_15, x_X8_isSafe_18, x_X8_isSafe_21, x_X8_isSafe_22, x_X8_isSafe_25, x_X8_isSafe_26, x_X8_isSafe_27, x_X8_isSafe_28, x_X8_isSafe_31, x_X8_isSafe_32, List.length_cons, List.length_nil, Nat.reduceLeDiff, Nat.zero_add, iI_add, iI_sub, iI_mul, iI_neg, iI_lt, iI_le, iI_eq, jI_iI, B_True, B_False, B_t, B_f, ck_True, gd_True, cb_v, cb_n, p_mv_rw, p_fv_rw, p_rv_some, pA_1, pA_90, pA_92, pA_3, pA_2, pA_93, pA_4, pA_91, pA_95, pS_i, pW_i, pZ_0, pZ_1, pZ_b, bI_e0, u1_s, u1_n, uA_s, uA_n, true_and, and_true, not_true_eq_false, not_false_eq_true, eq_self, iI_z, al1, al2, al3, al4, al90, al91, al92, al93, al95, Int.cast_ofNat_Int, Nat.reduceAdd, Int.reduceNeg, Int.reduceAdd, Int.reduceSub, Int.reduceMul, Int.reduceLT, Int.reduceLE, Int.reduceGT, Int.reduceGE, Int.reduceEq, Int.reduceNe, Nat.reduceEqDiff, Int.zero_add, Int.add_zero, p_ty0, p_ty1, p_ty2, p_ty3, p_ty4, p_ty5, p_ty6, p_ty7, p_ty8, p_ty9, p_ty10, p_ty11, t0, t1, r1, r2, s10, e9, hck, gd_t, B_t, B_f]
end PUNM
