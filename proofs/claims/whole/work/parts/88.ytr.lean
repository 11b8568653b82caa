section PYTR
variable {d bd lg N lg1 N1 : Nat} {T T1 : pT} {M M0 M1 M2 : pM} {F F1 : pF} {bb v w bs : Int → Int} {t pas q its to as p n i c s x k a b z acc ea best most : Int} {H : List HE} {A L : List Int} {io : Nat} {S S1 : GSx}
theorem UK.mk (hb : MB bb) (hu : UK bb) (ht : t = 0 ∨ t = 1) (h : MV bb t pas its to) (has : 2 ≤ as ∧ as ≤ 5) : UK (mk_bb bb pas its to as) := by
  intro s hs k c k0 k1 c0 c1 e1 e2
  obtain ⟨-, -, v3⟩ := mk_th_v hb ht h has
  have key : ∀ y, mk_bb bb pas its to as y = 10 * s + 1 → (y = to ∧ bb its = 10 * s + 1) ∨ (y ≠ to ∧ y ≠ its ∧ bb y = 10 * s + 1) := by
    intro y hy
    unfold mk_bb at hy
    by_cases z1 : y = to
    · rw [z1, u1_s] at hy
      exact Or.inl ⟨z1, v3 s hs hy⟩
    · rw [u1_n z1] at hy
      by_cases z2 : y = its
      · rw [z2, u1_s] at hy; omega
      · rw [u1_n z2] at hy
        by_cases z3 : y = mk_pl bb pas its to
        · rw [z3, u1_s] at hy; omega
        · rw [u1_n z3] at hy
          exact Or.inr ⟨z1, z2, hy⟩
  have hi := h.1
  rcases key k e1 with ⟨a1, a2⟩ | ⟨a1, a2, a3⟩
  · rcases key c e2 with ⟨b1, b2⟩ | ⟨b1, b2, b3⟩
    · rw [a1, b1]
    · exact absurd (hu s hs c its c0 c1 hi.1 hi.2 b3 a2) b2
  · rcases key c e2 with ⟨b1, b2⟩ | ⟨b1, b2, b3⟩
    · exact absurd (hu s hs k its k0 k1 hi.1 hi.2 a3 b2) a2
    · exact hu s hs k c k0 k1 c0 c1 a3 b3
theorem SP.mk (hP : SP bb t pas q) (hq : q < 60) (h : MV bb t pas its to) (has : 2 ≤ as ∧ as ≤ 5) : SP (mk_bb bb pas its to as) (1 - t) (mk_ps bb its to) (mk_q bb pas q its to) := by
  obtain ⟨hb, hu, h20, ht, hps, hq0⟩ := hP
  exact ⟨mk_MB hb ht h has, hu.mk hb ht h has, h20.mk hb ht hps h has, by omega, mk_PS hb ht hps h, mk_q_rg ⟨hq0.1, hq⟩⟩
theorem XA.xx (hD : YD bd lg T) : ∀ a, XA bd a → 127 ≤ a ∧ a ≠ 144 ∧ a ≠ 128 := by
  intro a h
  obtain ⟨d0, -⟩ := hD
  unfold XA at h
  omega
theorem xl_a (hio : io = 137 ∨ io = 138) : ∀ a, XL bd io a → XA bd a := by
  intro a h
  unfold XL at h
  unfold XA
  omega
/-- make, something, unmake: the state is as before -/
theorem YR.again {T2 : pT} {F2 : pF} {M3 : pM} {lg2 N2 : Nat} (hV2 : YV T2 M3 F2 bd lg2 N2 H) (hS2 : YS M3 bd bb t pas q)
    (j1 : ∀ j, j ≠ 10 → j ≠ 11 → j ≠ 12 → j ≠ 14 → M1 127 j = M 127 j) (C1 : YC (fun a => a = 127 ∨ a = bd) T M F lg N T1 M1 F1 lg1 N1)
    (j2 : ∀ j, j ≠ 10 → j ≠ 11 → j ≠ 12 → j ≠ 14 → M2 127 j = M1 127 j) (C2 : YC (XL bd 138) T1 M1 F1 lg1 N1 T2 M2 F2 lg2 N2)
    (j3 : ∀ j, j ≠ 10 → j ≠ 11 → j ≠ 12 → j ≠ 14 → M3 127 j = M2 127 j) (f3 : ∀ a, a ≠ 127 → a ≠ bd → M3 a = M2 a) :
    YR (XA bd) bd H bb t pas q T M F lg N T2 M3 F2 lg2 N2 := by
  refine ⟨hV2, hS2, fun j a1 a2 a3 a4 => (j3 j a1 a2 a3 a4).trans ((j2 j a1 a2 a3 a4).trans (j1 j a1 a2 a3 a4)), ?_⟩
  refine YC.tr (C1.wk (fun a h => ?_)) (YC.tr (C2.wk (xl_a (Or.inr rfl))) (YC.wr (fun a h => f3 a (fun z => h (Or.inl z)) (fun z => h (Or.inr (Or.inl z))))))
  rcases h with h | h
  · exact Or.inl h
  · exact Or.inr (Or.inl h)
theorem LMy.keep {T2 : pT} {F2 : pF} {M3 : pM} {lg2 N2 : Nat} (hL : LMy M 137 A) (hD : YD bd lg T) (hD1 : YD bd lg1 T1) (C1 : YC (fun a => a = 127 ∨ a = bd) T M F lg N T1 M1 F1 lg1 N1) (C2 : YC (XL bd 138) T1 M1 F1 lg1 N1 T2 M2 F2 lg2 N2) (f3 : ∀ a, a ≠ 127 → a ≠ bd → M3 a = M2 a) : LMy M3 137 A := by
  obtain ⟨d0, d0', d1, d2, d3, d4⟩ := hD
  obtain ⟨e0, e0', e1, e2, e3, e4⟩ := hD1
  refine hL.fr ?_
  rw [f3 137 (by omega) (by omega), C2.2.1 137 (by omega) (by unfold XL; omega) (by omega), C1.2.1 137 (by omega) (by omega) (by omega)]
theorem li_loop (hP : SP bb t pas q) (hq : q < 60) (hH : H.length < 613) : ∀ (Q P : List Int) (acc : Int) (T : pT) (M : pM) (F : pF) (lg N : Nat), P ++ Q = lgA bb t pas → (0 ≤ acc ∧ acc ≤ 840 * P.length) → YV T M F bd lg N H → YS M bd bb t pas q → LMy M 137 (lgA bb t pas) →
    ∃ T' M' F' lg' N', (∀ e, 7 ≤ e → R e m_X8_lines 34 [.val (.ref 127), .val (.int (iI 2)), .val (.int (iI ((lgA bb t pas).length : Int))), .val (.int (iI acc)), .val (.int (iI (P.length : Int)))] [] T M F = some (.inl (some (.int (iI (acc + rpl bb t pas q Q)))), T', M', F')) ∧ YR (XA bd) bd H bb t pas q T M F lg N T' M' F' lg' N' := by
  have hl := hP.len'
  have hq0 := hP.2.2.2.2.2
  intro Q
  induction Q with
  | nil =>
    intro P acc T M F lg N hP' ha hV hS hL
    rw [List.append_nil] at hP'
    refine ⟨T, M, F, lg, N, fun e he => ?_, YR.rf hV hS⟩
    rw [rpl, Int.add_zero, ← hP']
    rw [← hP'] at hl
    clear hV hS hL hP
    simp (disch := omega) only [x_X8_lines_34, x_X8_lines_36, x_X8_lines_37, x_X8_lines_92, x_X8_lines_93, x_X8_lines_94, x_X8_lines_97, x_X8_lines_98, x_X8_lines_101, x_X8_lines_102, List.length_cons, List.length_nil, Nat.reduceLeDiff, Nat.zero_add, iI_add, iI_sub, iI_mul, iI_neg, iI_lt, iI_le, iI_eq, jI_iI, B_True, B_False, B_t, B_f, ck_True, gd_True, cb_v, cb_n, p_mv_rw, p_fv_rw, p_rv_some, pA_1, pA_90, pA_92, pA_3, pA_2, pA_93, pA_4, pA_91, pA_95, pS_i, pW_i, pZ_0, pZ_1, pZ_b, bI_e0, u1_s, u1_n, uA_s, uA_n, true_and, and_true, not_true_eq_false, not_false_eq_true, eq_self, iI_z, al1, al2, al3, al4, al90, al91, al92, al93, al95, Int.cast_ofNat_Int, Nat.reduceAdd, Int.reduceNeg, Int.reduceAdd, Int.reduceSub, Int.reduceMul, Int.reduceLT, Int.reduceLE, Int.reduceGT, Int.reduceGE, Int.reduceEq, Int.reduceNe, Nat.reduceEqDiff, Int.zero_add, Int.add_zero, p_ty0, p_ty1, p_ty2, p_ty3, p_ty4, p_ty5, p_ty6, p_ty7, p_ty8, p_ty9, p_ty10, p_ty11, B_t, B_f]
  | cons x Q ih =>
    intro P acc T M F lg N hP' ha hV hS hL
    have hPl : P.length + 1 + Q.length = (lgA bb t pas).length := by rw [← hP']; simp; omega
    have hm : x ∈ lgA bb t pas := by rw [← hP']; simp
    have hxr := lgA_rg hm
    obtain ⟨hy, hMV, hs⟩ := lg_move hm
    have hx : M 137 (P.length : Int) = x := by rw [hL P.length (by omega), ← hP', getD_mid]
    obtain ⟨T1, M1, F1, lg1, N1, r1, V1, S1, j1, -, C1⟩ := y_make hV hS hP (by omega) hMV (as := 2) (by omega)
    have hP1 := hP.mk hq hMV (as := 2) (by omega)
    obtain ⟨T2, M2, F2, lg2, N2, r2, L2, -, R2⟩ := y_list (io := 138) (Or.inr rfl) V1 S1 hP1 (by rw [List.length_cons]; omega)
    obtain ⟨V2, S2, j2, C2⟩ := R2
    obtain ⟨M3, r3, V3, S3, j3, -, f3⟩ := y_unmake V2 S2 hP.1 hP.2.2.2.1 hP.2.2.2.2.1 (by omega) hMV (by omega)
    have R3 := YR.again V3 S3 j1 C1 j2 C2 j3 f3
    have L3 := hL.keep hV.2.1 V1.2.1 C1 C2 f3
    have hr : rpn bb t pas q (x / 91) (x % 91) = ((lgQ (mk_bb bb pas (x / 91) (x % 91) 2) (1 - t) (mk_ps bb (x / 91) (x % 91)) (mk_q bb pas q (x / 91) (x % 91))).length : Int) := rfl
    have hrr : 0 ≤ rpn bb t pas q (x / 91) (x % 91) ∧ rpn bb t pas q (x / 91) (x % 91) ≤ 840 := by
      have := lgQ_le hP1
      rw [hr]; omega
    obtain ⟨T4, M4, F4, lg4, N4, r4, R4⟩ := ih (P ++ [x]) (acc + rpn bb t pas q (x / 91) (x % 91)) T2 M3 F2 lg2 N2 (by rw [List.append_assoc]; exact hP') (by rw [List.length_append, List.length_singleton]; omega) V3 S3 L3
    refine ⟨T4, M4, F4, lg4, N4, fun e he => ?_, R3.tr R4⟩
    have r1 := r1 e (by omega)
    have r2 := r2 e he
    have r3 := r3 e (by omega)
    have r4 := r4 e he
    rw [← hr] at r2
    rw [List.length_append, List.length_singleton, Int.natCast_add_one] at r4
    rw [rpl, ← Int.add_assoc, ← r4, x_X8_lines_34]
    have hbp := hP.1 (mk_pl bb pas (x / 91) (x % 91))
    have ty := hV.1
    have ty1 := V1.1
    obtain ⟨a127, -, -, -, -, -, -, -, -, -, -, -, -, -, -, -, -, a138, a17, -⟩ := ty1
    have t2 := V2.1.1
    obtain ⟨ty127, ty128, fy1, ty129, fy4, ty130, fy5, ty131, fy6, ty132, fy7, ty133, fy8, ty136, fy15, ty137, fy16, ty138, fy17, ty139, fy18, ty140, fy19, ty141, fy20, ty142, fy21, ty143, fy22, hbd, tybd, fy9, hlg, tylg, fy13, hN⟩ := ty
    have hrm : x - x / 91 * 91 = x % 91 := by omega
    clear r4 ih hV hS hL hP V1 S1 C1 L2 V2 S2 C2 V3 S3 f3 R3 L3 R4 hP1 hy hMV hs hm hP' j1 j2 j3 hr
    simp (disch := omega) only [x_X8_lines_36, x_X8_lines_37, x_X8_lines_40, x_X8_lines_41, x_X8_lines_42, x_X8_lines_45, x_X8_lines_46, x_X8_lines_47, x_X8_lines_50, x_X8_lines_52, x_X8_lines_53, x_X8_lines_55, x_X8_lines_56, x_X8_lines_57, x_X8_lines_60, x_X8_lines_62, x_X8_lines_63, x_X8_lines_65, x_X8_lines_66, x_X8_lines_67, x_X8_lines_70, x_X8_lines_71, x_X8_lines_72, x_X8_lines_73, x_X8_lines_74, x_X8_lines_77, x_X8_lines_80, x_X8_lines_81, x_X8_lines_82, x_X8_lines_83, x_X8_lines_86, x_X8_lines_89, List.length_cons, List.length_nil, Nat.reduceLeDiff, Nat.zero_add, iI_add, iI_sub, iI_mul, iI_neg, iI_lt, iI_le, iI_eq, jI_iI, B_True, B_False, B_t, B_f, ck_True, gd_True, cb_v, cb_n, p_mv_rw, p_fv_rw, p_rv_some, pA_1, pA_90, pA_92, pA_3, pA_2, pA_93, pA_4, pA_91, pA_95, pS_i, pW_i, pZ_0, pZ_1, pZ_b, bI_e0, u1_s, u1_n, uA_s, uA_n, true_and, and_true, not_true_eq_false, not_false_eq_true, eq_self, iI_z, al1, al2, al3, al4, al90, al91, al92, al93, al95, Int.cast_ofNat_Int, Nat.reduceAdd, Int.reduceNeg, Int.reduceAdd, Int.reduceSub, Int.reduceMul, Int.reduceLT, Int.reduceLE, Int.reduceGT, Int.reduceGE, Int.reduceEq, Int.reduceNe, Nat.reduceEqDiff, Int.zero_add, Int.add_zero, p_ty0, p_ty1, p_ty2, p_ty3, p_ty4, p_ty5, p_ty6, p_ty7, p_ty8, p_ty9, p_ty10, p_ty11, ty127, ty128, fy1, ty129, fy4, ty130, fy5, ty131, fy6, ty132, fy7, ty133, fy8, ty136, fy15, ty137, fy16, ty138, fy17, ty139, fy18, ty140, fy19, ty141, fy20, ty142, fy21, ty143, fy22, tybd, fy9, tylg, fy13, hx, iI_div, hrm, r1, r2, r3, a127, a138, a17, t2, gd_t, B_t, B_f]
end PYTR
