section PTGO
variable {d g : Nat} {T : pT} {M M0 M1 M2 : pM} {F F1 : pF} {bb : Int → Int} {t pas q its to as p z n i c s x er : Int} {k j : Nat} {Q P R0 : List TKn} {H : List HE}
/-- a go that the line tells -/
noncomputable def d_go (x0 : TKn) (R : List TKn) (S : GSx) : Int × Int × GSx :=
  if (lgQ S.1 S.2.1 S.2.2.1 S.2.2.2.1).length = 0 then (4, x0.1, S)
  else if (R.getD 0 tk0).2.2 = -1 then (2, (R.getD 0 tk0).1, S)
  else if cntF (R.getD 0 tk0).2.2 (lgQ S.1 S.2.1 S.2.2.1 S.2.2.2.1) = 0 then (4, (R.getD 0 tk0).1, S)
  else if (R.getD 1 tk0).2.2 = -1 then (2, (R.getD 1 tk0).1, S)
  else if 91 * (R.getD 0 tk0).2.2 + (R.getD 1 tk0).2.2 ∉ lgQ S.1 S.2.1 S.2.2.1 S.2.2.2.1 then (4, (R.getD 1 tk0).1, S)
  else @ite _ ((R.getD 2 tk0).2.1 = 4 ∧ (knum (R.getD 3 tk0).2.1 = 1 ∨ knum (R.getD 3 tk0).2.1 = 6 ∨ ¬ mk_be S.1 (R.getD 0 tk0).2.2 (R.getD 1 tk0).2.2)) (Classical.propDecidable _) (5, (R.getD 3 tk0).1, S)
   (0, -1, (mk_bb S.1 S.2.2.1 (R.getD 0 tk0).2.2 (R.getD 1 tk0).2.2 (if (R.getD 2 tk0).2.1 = 4 then knum (R.getD 3 tk0).2.1 else 2), 1 - S.2.1, mk_ps S.1 (R.getD 0 tk0).2.2 (R.getD 1 tk0).2.2, mk_q S.1 S.2.2.1 S.2.2.2.1 (R.getD 0 tk0).2.2 (R.getD 1 tk0).2.2,
      (S.1, S.2.1, S.2.2.1, S.2.2.2.1, (R.getD 0 tk0).2.2, (R.getD 1 tk0).2.2, if (R.getD 2 tk0).2.1 = 4 then knum (R.getD 3 tk0).2.1 else 2) :: S.2.2.2.2))
theorem FMv.o (f : FMv M M1 g) : ∀ a, (a < g ∨ g + 6 < a) → M1 a = M a := fun a ha => f.1 a (by omega) (by omega) (by omega) (by omega)
theorem GAx.mv {S : GSx} (hA : GAx M g S) (f : FMv M M1 g) (hk : GKL M1 g S.1 S.2.1 S.2.2.1 S.2.2.2.1) : GAx M1 g S := GA.fr hA f hk.gk
theorem RS.o (hS : RS M F 103 Q) (hg : 113 ≤ g) (f : ∀ a, (a < g ∨ g + 6 < a) → M1 a = M a) : RS M1 F 103 Q := hS.fr (f _ (by omega)) (f _ (by omega)) (f _ (by omega)) rfl
theorem lgQ_mv (h : 91 * its + to ∈ lgQ bb t pas q) (h1 : 0 ≤ its ∧ its < 91) (h2 : 0 ≤ to ∧ to < 91) : q < 60 ∧ m_ply bb t ∧ MV bb t pas its to ∧ ¬ m_chk (mk_bb bb pas its to 2) t := by
  have h3 := (lgQ_sub h).1
  have hq : q < 60 := by
    unfold lgQ at h
    split at h
    · exact absurd h List.not_mem_nil
    · omega
  obtain ⟨a1, a2, a3⟩ := lg_move h3
  rw [show (91 * its + to) / 91 = its by omega, show (91 * its + to) % 91 = to by omega] at a2 a3
  exact ⟨hq, a1, a2, a3⟩
/-- what a line's go leaves behind -/
def TgR (T : pT) (M M' : pM) (F : pF) (g : Nat) (m : pC) (as : List Value) (D : Nat) (r : Int × Int × GSx) : Prop :=
  (∀ d, D ≤ d → callD d m as T M F = some (.inl (some (.int (iI r.1))), T, M', F)) ∧ GAx M' g r.2.2 ∧ (0 ≤ r.1 ∧ r.1 ≤ 5) ∧ (r.1 ≠ 0 → M' 107 0 = r.2.1) ∧ (r.1 = 0 → M' 107 = M 107 ∧ r.2.1 = -1) ∧ ∀ a, a ≠ 107 → (a < g ∨ g + 6 < a) → M' a = M a
theorem TgR.bad {S : GSx} {m : pC} {v : List Value} {D : Nat} (hg : 113 ≤ g) (hA : GAx M1 g S) (f : ∀ a, (a < g ∨ g + 6 < a) → M1 a = M a) (he : 1 ≤ er ∧ er ≤ 5) (h : ∀ d, D ≤ d → callD d m v T M F = some (.inl (some (.int (iI er))), T, uA M1 107 (u1 (M1 107) 0 p), F)) : ∃ M', TgR T M M' F g m v D (er, p, S) :=
  ⟨uA M1 107 (u1 (M1 107) 0 p), h, hA.fr (fun a a1 a2 => uA_n (by omega)), ⟨by show 0 ≤ er; omega, he.2⟩, fun _ => by rw [uA_s, u1_s], fun z => absurd z (by show er ≠ 0; omega), fun a a1 a2 => by rw [uA_n a1]; exact f a a2⟩
theorem c_tgo {S : GSx} (hg : 113 ≤ g) (t0 : p_ty T 107 = (15, 1)) (hR : RT T F 103) (hS : RS M F 103 Q) (hG : GT T F g) (hA : GAx M g S) {x0 x1 x2 x3 : TKn} {R' : List TKn} (hQ : P ++ x0 :: x1 :: x2 :: x3 :: R' = Q) (k4 : x3.2.1 = 4 → ∃ x4 R'', R' = x4 :: R'' ∧ 7 ≤ x4.2.1 ∧ x4.2.1 ≤ 12) (hH : S.2.2.2.2.length < 620) :
    ∃ M', TgR T M M' F g m_X5_go [.ref 107, .ref 103, .ref g, .int (iI (P.length : Int))] 8 (d_go x0 (x1 :: x2 :: x3 :: R') S) := by
  have hl : Q.length = P.length + 4 + R'.length := by rw [← hQ]; simp; omega
  have hl4 := hS.2.1
  have g0 : Q.getD P.length tk0 = x0 := by rw [← hQ]; exact tk_at0 _ _
  have g1 : Q.getD (P.length + 1) tk0 = x1 := by rw [← hQ]; exact tk_at _ _ 0
  have g2 : Q.getD (P.length + 2) tk0 = x2 := by rw [← hQ]; exact tk_at _ _ 1
  have g3 : Q.getD (P.length + 3) tk0 = x3 := by rw [← hQ]; exact tk_at _ _ 2
  have g4 : Q.getD (P.length + 4) tk0 = R'.getD 0 tk0 := by rw [← hQ]; exact tk_at _ _ 3
  have d0 : (x1 :: x2 :: x3 :: R').getD 0 tk0 = x1 := rfl
  have d1 : (x1 :: x2 :: x3 :: R').getD 1 tk0 = x2 := rfl
  have d2 : (x1 :: x2 :: x3 :: R').getD 2 tk0 = x3 := rfl
  have d3 : (x1 :: x2 :: x3 :: R').getD 3 tk0 = R'.getD 0 tk0 := rfl
  have ok1 : TKok x1 := by rw [← g1]; exact tk_ok hS.2.2.1
  have ok2 : TKok x2 := by rw [← g2]; exact tk_ok hS.2.2.1
  have ok3 : TKok x3 := by rw [← g3]; exact tk_ok hS.2.2.1
  have ok4 : TKok (R'.getD 0 tk0) := by rw [← g4]; exact tk_ok hS.2.2.1
  obtain ⟨-, -, o1⟩ := ok1
  obtain ⟨-, -, o2⟩ := ok2
  obtain ⟨-, o3, -⟩ := ok3
  obtain ⟨-, o4, -⟩ := ok4
  have hg1 := hG.1
  have tg := hG.2.1
  have r0 := hR.2.1
  have e1 : (P.length : Int) + 1 = ((P.length + 1 : Nat) : Int) := by omega
  have e2 : (P.length : Int) + 2 = ((P.length + 2 : Nat) : Int) := by omega
  have e3 : (P.length : Int) + 3 = ((P.length + 3 : Nat) : Int) := by omega
  have e4 : (P.length : Int) + 4 = ((P.length + 4 : Nat) : Int) := by omega
  obtain ⟨told, htd⟩ : ∃ told : Int, told = if x3.2.1 = 4 then 1 else 0 := ⟨_, rfl⟩
  obtain ⟨as, has⟩ : ∃ as : Int, as = if x3.2.1 = 4 then knum (R'.getD 0 tk0).2.1 else 2 := ⟨_, rfl⟩
  have as_rg : 1 ≤ as ∧ as ≤ 6 := by
    rw [has]
    by_cases c : x3.2.1 = 4
    · obtain ⟨x4, R'', hx, z1, z2⟩ := k4 c
      rw [if_pos c, hx]
      show 1 ≤ knum x4.2.1 ∧ knum x4.2.1 ≤ 6
      unfold knum
      rw [if_neg (by omega), if_neg (by omega), if_pos (by omega)]
      omega
    · rw [if_neg c]; omega
  have pre : ∀ e, 7 ≤ e → R e m_X5_go 0 [.val (.ref 107), .val (.ref 103), .val (.ref g), .val (.int (iI (P.length : Int))), .unset, .unset, .unset, .unset] [] T M F = R e m_X5_go 59 [.val (.ref 107), .val (.ref 103), .val (.ref g), .val (.int (iI (P.length : Int))), .val (.int (iI x1.2.2)), .val (.int (iI x2.2.2)), .val (.int (iI told)), .val (.int (iI as))] [] T M F := by
    intro e he
    have a1 := c_cellTk (d := e) hR hS (j := P.length + 1) (by omega) (by omega)
    have a2 := c_cellTk (d := e) hR hS (j := P.length + 2) (by omega) (by omega)
    have a3 := c_kindAt (d := e) hR hS (j := P.length + 3) (by omega) (by omega)
    rw [g1] at a1
    rw [g2] at a2
    rw [g3] at a3
    have y3 := kd_ty (T := T) o3
    have y16 := kd_t (T := T) 16 (by omega)
    rw [htd, has]
    by_cases c : x3.2.1 = 4
    · obtain ⟨x4, R'', hx, z1, z2⟩ := k4 c
      have a4 := c_kindAt (d := e) hR hS (j := P.length + 4) (by omega) (by omega)
      rw [g4] at a4
      have y4 := kd_ty (T := T) o4
      have n4 := kd_num (M := M) o4
      rw [if_pos c, if_pos c]
      clear hS hR hG hA hQ g0 g1 g2 g3 g4 d0 d1 d2 d3 hx as_rg
      simp (disch := omega) only [x_X5_go_0, x_X5_go_1, x_X5_go_2, x_X5_go_3, x_X5_go_4, x_X5_go_7, x_X5_go_9, x_X5_go_10, x_X5_go_11, x_X5_go_12, x_X5_go_13, x_X5_go_16, x_X5_go_18, x_X5_go_19, x_X5_go_20, x_X5_go_21, x_X5_go_22, x_X5_go_25, x_X5_go_28, x_X5_go_31, x_X5_go_32, x_X5_go_35, x_X5_go_36, x_X5_go_38, x_X5_go_40, x_X5_go_43, x_X5_go_44, x_X5_go_45, x_X5_go_46, x_X5_go_47, x_X5_go_50, x_X5_go_53, x_X5_go_56, x_X5_go_57, List.length_cons, List.length_nil, Nat.reduceLeDiff, Nat.zero_add, iI_add, iI_sub, iI_mul, iI_neg, iI_lt, iI_le, iI_eq, jI_iI, B_True, B_False, B_t, B_f, ck_True, gd_True, cb_v, cb_n, p_mv_rw, p_fv_rw, p_rv_some, pA_1, pA_90, pA_92, pA_3, pA_5, pA_93, pA_4, pA_91, pA_6, pS_i, pB_i, pW_i, pZ_0, pZ_1, pZ_b, bI_e0, u1_s, u1_n, uA_s, uA_n, true_and, and_true, not_true_eq_false, not_false_eq_true, eq_self, iI_z, al1, al5, al3, al4, al90, al91, al92, al93, al6, Int.cast_ofNat_Int, Nat.reduceAdd, Int.reduceNeg, Int.reduceAdd, Int.reduceSub, Int.reduceMul, Int.reduceLT, Int.reduceLE, Int.reduceGT, Int.reduceGE, Int.reduceEq, Int.reduceNe, Nat.reduceEqDiff, Int.zero_add, Int.add_zero, p_ty0, p_ty1, p_ty2, p_ty3, p_ty4, p_ty5, p_ty8, p_ty9, p_ty10, t0, r0, a1, a2, a3, a4, e1, e2, e3, e4, y3, y4, y16, n4, c, gd_t, B_t, B_f]
    · rw [if_neg c, if_neg c]
      clear hS hR hG hA hQ g0 g1 g2 g3 g4 d0 d1 d2 d3 as_rg
      simp (disch := omega) only [x_X5_go_0, x_X5_go_1, x_X5_go_2, x_X5_go_3, x_X5_go_4, x_X5_go_7, x_X5_go_9, x_X5_go_10, x_X5_go_11, x_X5_go_12, x_X5_go_13, x_X5_go_16, x_X5_go_18, x_X5_go_19, x_X5_go_20, x_X5_go_21, x_X5_go_22, x_X5_go_25, x_X5_go_28, x_X5_go_31, x_X5_go_32, x_X5_go_35, x_X5_go_36, x_X5_go_38, x_X5_go_40, x_X5_go_43, x_X5_go_44, x_X5_go_45, x_X5_go_46, x_X5_go_47, x_X5_go_50, x_X5_go_53, x_X5_go_56, x_X5_go_57, List.length_cons, List.length_nil, Nat.reduceLeDiff, Nat.zero_add, iI_add, iI_sub, iI_mul, iI_neg, iI_lt, iI_le, iI_eq, jI_iI, B_True, B_False, B_t, B_f, ck_True, gd_True, cb_v, cb_n, p_mv_rw, p_fv_rw, p_rv_some, pA_1, pA_90, pA_92, pA_3, pA_5, pA_93, pA_4, pA_91, pA_6, pS_i, pB_i, pW_i, pZ_0, pZ_1, pZ_b, bI_e0, u1_s, u1_n, uA_s, uA_n, true_and, and_true, not_true_eq_false, not_false_eq_true, eq_self, iI_z, al1, al5, al3, al4, al90, al91, al92, al93, al6, Int.cast_ofNat_Int, Nat.reduceAdd, Int.reduceNeg, Int.reduceAdd, Int.reduceSub, Int.reduceMul, Int.reduceLT, Int.reduceLE, Int.reduceGT, Int.reduceGE, Int.reduceEq, Int.reduceNe, Nat.reduceEqDiff, Int.zero_add, Int.add_zero, p_ty0, p_ty1, p_ty2, p_ty3, p_ty4, p_ty5, p_ty8, p_ty9, p_ty10, t0, r0, a1, a2, a3, e1, e2, e3, y3, y16, gd_t, B_t, B_f]
  have fin : ∀ (M' : pM) (r : Int × Int × GSx), (∀ e, 7 ≤ e → R e m_X5_go 59 [.val (.ref 107), .val (.ref 103), .val (.ref g), .val (.int (iI (P.length : Int))), .val (.int (iI x1.2.2)), .val (.int (iI x2.2.2)), .val (.int (iI told)), .val (.int (iI as))] [] T M F = some (.inl (some (.int (iI r.1))), T, M', F)) → ∀ d, 8 ≤ d → callD d m_X5_go [.ref 107, .ref 103, .ref g, .int (iI (P.length : Int))] T M F = some (.inl (some (.int (iI r.1))), T, M', F) := by
    intro M' r h d hd
    refine callD_go 7 hd rfl (fun e he => ?_)
    show R e m_X5_go 0 [.val (.ref 107), .val (.ref 103), .val (.ref g), .val (.int (iI (P.length : Int))), .unset, .unset, .unset, .unset] [] T M F = _
    rw [pre e he, h e he]
  have fl : ∀ (M1 : pM) (er : Int) (j : Nat) (e : Nat), (∀ a, (a < g ∨ g + 6 < a) → M1 a = M a) → j < Q.length → 0 ≤ er ∧ er ≤ 10 → 7 ≤ e → callD e m_X5_fail [.ref 107, .ref 103, .int (iI (j : Int)), .int (iI er)] T M1 F = some (.inl (some (.int (iI er))), T, uA M1 107 (u1 (M1 107) 0 (Q.getD j tk0).1), F) := fun M1 er j e f hj her he => c_fail t0 hR (hS.o hg f) hj her (by omega)
  clear pre
  obtain ⟨M1, v1, f1, K1⟩ := c_moveCount (T := T) (F := F) hG hA.1
  have A1 := hA.mv f1 K1
  have hlq := lgQ_len (q := S.2.2.2.1) K1.len
  unfold d_go
  rw [d0, d1, d2, d3]
  by_cases c1 : (lgQ S.1 S.2.1 S.2.2.1 S.2.2.2.1).length = 0
  · rw [if_pos c1]
    refine TgR.bad hg A1 f1.o (by omega) (fin _ (4, x0.1, S) (fun e he => ?_))
    have v1 := v1 e (by omega)
    have w := fl M1 4 P.length e f1.o (by omega) (by omega) he
    rw [g0] at w
    rw [c1] at v1
    clear fl fin hS hR hG hA hQ A1 K1 f1 k4
    show _ = (some (.inl (some (.int (iI 4))), T, _, F) : Option pR)
    simp (disch := omega) only [x_X5_go_59, x_X5_go_60, x_X5_go_63, x_X5_go_66, x_X5_go_67, x_X5_go_68, x_X5_go_69, x_X5_go_70, x_X5_go_73, List.length_cons, List.length_nil, Nat.reduceLeDiff, Nat.zero_add, iI_add, iI_sub, iI_mul, iI_neg, iI_lt, iI_le, iI_eq, jI_iI, B_True, B_False, B_t, B_f, ck_True, gd_True, cb_v, cb_n, p_mv_rw, p_fv_rw, p_rv_some, pA_1, pA_90, pA_92, pA_3, pA_5, pA_93, pA_4, pA_91, pA_6, pS_i, pB_i, pW_i, pZ_0, pZ_1, pZ_b, bI_e0, u1_s, u1_n, uA_s, uA_n, true_and, and_true, not_true_eq_false, not_false_eq_true, eq_self, iI_z, al1, al5, al3, al4, al90, al91, al92, al93, al6, Int.cast_ofNat_Int, Nat.reduceAdd, Int.reduceNeg, Int.reduceAdd, Int.reduceSub, Int.reduceMul, Int.reduceLT, Int.reduceLE, Int.reduceGT, Int.reduceGE, Int.reduceEq, Int.reduceNe, Nat.reduceEqDiff, Int.zero_add, Int.add_zero, p_ty0, p_ty1, p_ty2, p_ty3, p_ty4, p_ty5, p_ty8, p_ty9, p_ty10, t0, r0, tg, v1, w, gd_t, B_t, B_f, Int.natCast_zero]
  rw [if_neg c1]
  by_cases c2 : x1.2.2 = -1
  · rw [if_pos c2]
    refine TgR.bad hg A1 f1.o (by omega) (fin _ (2, x1.1, S) (fun e he => ?_))
    have v1 := v1 e (by omega)
    have w := fl M1 2 (P.length + 1) e f1.o (by omega) (by omega) he
    rw [g1] at w
    clear fl fin hS hR hG hA hQ A1 K1 f1 k4
    show _ = (some (.inl (some (.int (iI 2))), T, _, F) : Option pR)
    simp (disch := omega) only [x_X5_go_59, x_X5_go_60, x_X5_go_63, x_X5_go_66, x_X5_go_67, x_X5_go_68, x_X5_go_69, x_X5_go_70, x_X5_go_73, x_X5_go_74, x_X5_go_76, x_X5_go_77, x_X5_go_80, x_X5_go_81, x_X5_go_82, x_X5_go_83, x_X5_go_84, x_X5_go_85, x_X5_go_86, x_X5_go_89, List.length_cons, List.length_nil, Nat.reduceLeDiff, Nat.zero_add, iI_add, iI_sub, iI_mul, iI_neg, iI_lt, iI_le, iI_eq, jI_iI, B_True, B_False, B_t, B_f, ck_True, gd_True, cb_v, cb_n, p_mv_rw, p_fv_rw, p_rv_some, pA_1, pA_90, pA_92, pA_3, pA_5, pA_93, pA_4, pA_91, pA_6, pS_i, pB_i, pW_i, pZ_0, pZ_1, pZ_b, bI_e0, u1_s, u1_n, uA_s, uA_n, true_and, and_true, not_true_eq_false, not_false_eq_true, eq_self, iI_z, al1, al5, al3, al4, al90, al91, al92, al93, al6, Int.cast_ofNat_Int, Nat.reduceAdd, Int.reduceNeg, Int.reduceAdd, Int.reduceSub, Int.reduceMul, Int.reduceLT, Int.reduceLE, Int.reduceGT, Int.reduceGE, Int.reduceEq, Int.reduceNe, Nat.reduceEqDiff, Int.zero_add, Int.add_zero, p_ty0, p_ty1, p_ty2, p_ty3, p_ty4, p_ty5, p_ty8, p_ty9, p_ty10, t0, r0, tg, v1, w, c2, e1, gd_t, B_t, B_f]
  rw [if_neg c2]
  have hx1 : 0 ≤ x1.2.2 ∧ x1.2.2 < 91 := by omega
  obtain ⟨M2, v2, f2, K2⟩ := c_movesFrom (T := T) (F := F) hG A1.1 hx1
  have A2 := A1.mv f2 K2
  have o2' : ∀ a, (a < g ∨ g + 6 < a) → M2 a = M a := fun a ha => (f2.o a ha).trans (f1.o a ha)
  have hcr := cntF_rg (k := x1.2.2) (lgQ S.1 S.2.1 S.2.2.1 S.2.2.2.1)
  by_cases c3 : cntF x1.2.2 (lgQ S.1 S.2.1 S.2.2.1 S.2.2.2.1) = 0
  · rw [if_pos c3]
    refine TgR.bad hg A2 o2' (by omega) (fin _ (4, x1.1, S) (fun e he => ?_))
    have v1 := v1 e (by omega)
    have v2 := v2 e (by omega)
    have w := fl M2 4 (P.length + 1) e o2' (by omega) (by omega) he
    rw [g1] at w
    rw [c3] at v2
    clear fl fin hS hR hG hA hQ A1 K1 f1 k4 A2 K2 f2 o2' hcr c3
    show _ = (some (.inl (some (.int (iI 4))), T, _, F) : Option pR)
    simp (disch := omega) only [x_X5_go_59, x_X5_go_60, x_X5_go_63, x_X5_go_66, x_X5_go_67, x_X5_go_68, x_X5_go_69, x_X5_go_70, x_X5_go_73, x_X5_go_74, x_X5_go_76, x_X5_go_77, x_X5_go_80, x_X5_go_81, x_X5_go_82, x_X5_go_83, x_X5_go_84, x_X5_go_85, x_X5_go_86, x_X5_go_89, x_X5_go_90, x_X5_go_91, x_X5_go_93, x_X5_go_96, x_X5_go_99, x_X5_go_100, x_X5_go_101, x_X5_go_102, x_X5_go_103, x_X5_go_104, x_X5_go_105, x_X5_go_108, List.length_cons, List.length_nil, Nat.reduceLeDiff, Nat.zero_add, iI_add, iI_sub, iI_mul, iI_neg, iI_lt, iI_le, iI_eq, jI_iI, B_True, B_False, B_t, B_f, ck_True, gd_True, cb_v, cb_n, p_mv_rw, p_fv_rw, p_rv_some, pA_1, pA_90, pA_92, pA_3, pA_5, pA_93, pA_4, pA_91, pA_6, pS_i, pB_i, pW_i, pZ_0, pZ_1, pZ_b, bI_e0, u1_s, u1_n, uA_s, uA_n, true_and, and_true, not_true_eq_false, not_false_eq_true, eq_self, iI_z, al1, al5, al3, al4, al90, al91, al92, al93, al6, Int.cast_ofNat_Int, Nat.reduceAdd, Int.reduceNeg, Int.reduceAdd, Int.reduceSub, Int.reduceMul, Int.reduceLT, Int.reduceLE, Int.reduceGT, Int.reduceGE, Int.reduceEq, Int.reduceNe, Nat.reduceEqDiff, Int.zero_add, Int.add_zero, p_ty0, p_ty1, p_ty2, p_ty3, p_ty4, p_ty5, p_ty8, p_ty9, p_ty10, t0, r0, tg, v1, v2, w, e1, gd_t, B_t, B_f]
  rw [if_neg c3]
  by_cases c4 : x2.2.2 = -1
  · rw [if_pos c4]
    refine TgR.bad hg A2 o2' (by omega) (fin _ (2, x2.1, S) (fun e he => ?_))
    have v1 := v1 e (by omega)
    have v2 := v2 e (by omega)
    have w := fl M2 2 (P.length + 2) e o2' (by omega) (by omega) he
    rw [g2] at w
    clear fl fin hS hR hG hA hQ A1 K1 f1 k4 A2 K2 f2 o2'
    show _ = (some (.inl (some (.int (iI 2))), T, _, F) : Option pR)
    simp (disch := omega) only [x_X5_go_59, x_X5_go_60, x_X5_go_63, x_X5_go_66, x_X5_go_67, x_X5_go_68, x_X5_go_69, x_X5_go_70, x_X5_go_73, x_X5_go_74, x_X5_go_76, x_X5_go_77, x_X5_go_80, x_X5_go_81, x_X5_go_82, x_X5_go_83, x_X5_go_84, x_X5_go_85, x_X5_go_86, x_X5_go_89, x_X5_go_90, x_X5_go_91, x_X5_go_93, x_X5_go_96, x_X5_go_99, x_X5_go_100, x_X5_go_101, x_X5_go_102, x_X5_go_103, x_X5_go_104, x_X5_go_105, x_X5_go_108, x_X5_go_109, x_X5_go_111, x_X5_go_112, x_X5_go_115, x_X5_go_116, x_X5_go_117, x_X5_go_118, x_X5_go_119, x_X5_go_120, x_X5_go_121, x_X5_go_124, List.length_cons, List.length_nil, Nat.reduceLeDiff, Nat.zero_add, iI_add, iI_sub, iI_mul, iI_neg, iI_lt, iI_le, iI_eq, jI_iI, B_True, B_False, B_t, B_f, ck_True, gd_True, cb_v, cb_n, p_mv_rw, p_fv_rw, p_rv_some, pA_1, pA_90, pA_92, pA_3, pA_5, pA_93, pA_4, pA_91, pA_6, pS_i, pB_i, pW_i, pZ_0, pZ_1, pZ_b, bI_e0, u1_s, u1_n, uA_s, uA_n, true_and, and_true, not_true_eq_false, not_false_eq_true, eq_self, iI_z, al1, al5, al3, al4, al90, al91, al92, al93, al6, Int.cast_ofNat_Int, Nat.reduceAdd, Int.reduceNeg, Int.reduceAdd, Int.reduceSub, Int.reduceMul, Int.reduceLT, Int.reduceLE, Int.reduceGT, Int.reduceGE, Int.reduceEq, Int.reduceNe, Nat.reduceEqDiff, Int.zero_add, Int.add_zero, p_ty0, p_ty1, p_ty2, p_ty3, p_ty4, p_ty5, p_ty8, p_ty9, p_ty10, t0, r0, tg, v1, v2, w, c4, e2, gd_t, B_t, B_f]
  rw [if_neg c4]
  have hx2 : 0 ≤ x2.2.2 ∧ x2.2.2 < 91 := by omega
  obtain ⟨M3, v3, f3, K3⟩ := c_allows (T := T) (F := F) hG A2.1 hx1 hx2
  have A3 := A2.mv f3 K3
  have o3' : ∀ a, (a < g ∨ g + 6 < a) → M3 a = M a := fun a ha => (f3.o a ha).trans (o2' a ha)
  by_cases c5 : 91 * x1.2.2 + x2.2.2 ∈ lgQ S.1 S.2.1 S.2.2.1 S.2.2.2.1
  · rw [if_neg (fun z => z c5)]
    obtain ⟨z1, z2, z3, z4⟩ := lgQ_mv c5 hx1 hx2
    rw [bI_t c5] at v3
    have hcl := fun e (he : 7 ≤ e) => c_comesToLast (d := e) (T := T) (F := F) hG A3.1.1.1 hx1 hx2 (by omega)
    by_cases c6 : x3.2.1 = 4 ∧ (knum (R'.getD 0 tk0).2.1 = 1 ∨ knum (R'.getD 0 tk0).2.1 = 6 ∨ ¬ mk_be S.1 x1.2.2 x2.2.2)
    · rw [if_pos c6]
      refine TgR.bad hg A3 o3' (by omega) (fin _ (5, (R'.getD 0 tk0).1, S) (fun e he => ?_))
      have v1 := v1 e (by omega)
      have v2 := v2 e (by omega)
      have v3 := v3 e (by omega)
      have hcl := hcl e he
      obtain ⟨x4, R'', hx, -⟩ := k4 c6.1
      have w := fl M3 5 (P.length + 4) e o3' (by rw [hl, hx, List.length_cons]; omega) (by omega) he
      rw [g4] at w
      rw [if_pos c6.1] at htd has
      have c7 := c6.2
      rw [← has] at c7
      clear fl fin hS hR hG hA hQ A1 K1 f1 k4 A2 K2 f2 o2' A3 K3 f3 o3' hx c6 z1 z2 z3 z4 c5 has
      show _ = (some (.inl (some (.int (iI 5))), T, _, F) : Option pR)
      subst htd
      by_cases c8 : as = 1
      · simp (disch := omega) only [x_X5_go_59, x_X5_go_60, x_X5_go_63, x_X5_go_66, x_X5_go_67, x_X5_go_68, x_X5_go_69, x_X5_go_70, x_X5_go_73, x_X5_go_74, x_X5_go_76, x_X5_go_77, x_X5_go_80, x_X5_go_81, x_X5_go_82, x_X5_go_83, x_X5_go_84, x_X5_go_85, x_X5_go_86, x_X5_go_89, x_X5_go_90, x_X5_go_91, x_X5_go_93, x_X5_go_96, x_X5_go_99, x_X5_go_100, x_X5_go_101, x_X5_go_102, x_X5_go_103, x_X5_go_104, x_X5_go_105, x_X5_go_108, x_X5_go_109, x_X5_go_111, x_X5_go_112, x_X5_go_115, x_X5_go_116, x_X5_go_117, x_X5_go_118, x_X5_go_119, x_X5_go_120, x_X5_go_121, x_X5_go_124, x_X5_go_125, x_X5_go_126, x_X5_go_128, x_X5_go_130, x_X5_go_133, x_X5_go_136, x_X5_go_137, x_X5_go_138, x_X5_go_139, x_X5_go_140, x_X5_go_141, x_X5_go_142, x_X5_go_145, x_X5_go_146, x_X5_go_148, x_X5_go_151, x_X5_go_153, x_X5_go_154, x_X5_go_157, x_X5_go_159, x_X5_go_161, x_X5_go_164, x_X5_go_165, x_X5_go_167, x_X5_go_169, x_X5_go_172, x_X5_go_175, x_X5_go_176, x_X5_go_177, x_X5_go_178, x_X5_go_179, x_X5_go_180, x_X5_go_181, x_X5_go_184, List.length_cons, List.length_nil, Nat.reduceLeDiff, Nat.zero_add, iI_add, iI_sub, iI_mul, iI_neg, iI_lt, iI_le, iI_eq, jI_iI, B_True, B_False, B_t, B_f, ck_True, gd_True, cb_v, cb_n, p_mv_rw, p_fv_rw, p_rv_some, pA_1, pA_90, pA_92, pA_3, pA_5, pA_93, pA_4, pA_91, pA_6, pS_i, pB_i, pW_i, pZ_0, pZ_1, pZ_b, bI_e0, u1_s, u1_n, uA_s, uA_n, true_and, and_true, not_true_eq_false, not_false_eq_true, eq_self, iI_z, al1, al5, al3, al4, al90, al91, al92, al93, al6, Int.cast_ofNat_Int, Nat.reduceAdd, Int.reduceNeg, Int.reduceAdd, Int.reduceSub, Int.reduceMul, Int.reduceLT, Int.reduceLE, Int.reduceGT, Int.reduceGE, Int.reduceEq, Int.reduceNe, Nat.reduceEqDiff, Int.zero_add, Int.add_zero, p_ty0, p_ty1, p_ty2, p_ty3, p_ty4, p_ty5, p_ty8, p_ty9, p_ty10, t0, r0, tg, v1, v2, v3, w, c8, e4, gd_t, B_t, B_f]
      · by_cases c9 : as = 6
        · simp (disch := omega) only [x_X5_go_59, x_X5_go_60, x_X5_go_63, x_X5_go_66, x_X5_go_67, x_X5_go_68, x_X5_go_69, x_X5_go_70, x_X5_go_73, x_X5_go_74, x_X5_go_76, x_X5_go_77, x_X5_go_80, x_X5_go_81, x_X5_go_82, x_X5_go_83, x_X5_go_84, x_X5_go_85, x_X5_go_86, x_X5_go_89, x_X5_go_90, x_X5_go_91, x_X5_go_93, x_X5_go_96, x_X5_go_99, x_X5_go_100, x_X5_go_101, x_X5_go_102, x_X5_go_103, x_X5_go_104, x_X5_go_105, x_X5_go_108, x_X5_go_109, x_X5_go_111, x_X5_go_112, x_X5_go_115, x_X5_go_116, x_X5_go_117, x_X5_go_118, x_X5_go_119, x_X5_go_120, x_X5_go_121, x_X5_go_124, x_X5_go_125, x_X5_go_126, x_X5_go_128, x_X5_go_130, x_X5_go_133, x_X5_go_136, x_X5_go_137, x_X5_go_138, x_X5_go_139, x_X5_go_140, x_X5_go_141, x_X5_go_142, x_X5_go_145, x_X5_go_146, x_X5_go_148, x_X5_go_151, x_X5_go_153, x_X5_go_154, x_X5_go_157, x_X5_go_159, x_X5_go_161, x_X5_go_164, x_X5_go_165, x_X5_go_167, x_X5_go_169, x_X5_go_172, x_X5_go_175, x_X5_go_176, x_X5_go_177, x_X5_go_178, x_X5_go_179, x_X5_go_180, x_X5_go_181, x_X5_go_184, List.length_cons, List.length_nil, Nat.reduceLeDiff, Nat.zero_add, iI_add, iI_sub, iI_mul, iI_neg, iI_lt, iI_le, iI_eq, jI_iI, B_True, B_False, B_t, B_f, ck_True, gd_True, cb_v, cb_n, p_mv_rw, p_fv_rw, p_rv_some, pA_1, pA_90, pA_92, pA_3, pA_5, pA_93, pA_4, pA_91, pA_6, pS_i, pB_i, pW_i, pZ_0, pZ_1, pZ_b, bI_e0, u1_s, u1_n, uA_s, uA_n, true_and, and_true, not_true_eq_false, not_false_eq_true, eq_self, iI_z, al1, al5, al3, al4, al90, al91, al92, al93, al6, Int.cast_ofNat_Int, Nat.reduceAdd, Int.reduceNeg, Int.reduceAdd, Int.reduceSub, Int.reduceMul, Int.reduceLT, Int.reduceLE, Int.reduceGT, Int.reduceGE, Int.reduceEq, Int.reduceNe, Nat.reduceEqDiff, Int.zero_add, Int.add_zero, p_ty0, p_ty1, p_ty2, p_ty3, p_ty4, p_ty5, p_ty8, p_ty9, p_ty10, t0, r0, tg, v1, v2, v3, w, c9, e4, gd_t, B_t, B_f]
        · have c10 := (c7.resolve_left c8).resolve_left c9
          rw [bI_f c10] at hcl
          simp (disch := omega) only [x_X5_go_59, x_X5_go_60, x_X5_go_63, x_X5_go_66, x_X5_go_67, x_X5_go_68, x_X5_go_69, x_X5_go_70, x_X5_go_73, x_X5_go_74, x_X5_go_76, x_X5_go_77, x_X5_go_80, x_X5_go_81, x_X5_go_82, x_X5_go_83, x_X5_go_84, x_X5_go_85, x_X5_go_86, x_X5_go_89, x_X5_go_90, x_X5_go_91, x_X5_go_93, x_X5_go_96, x_X5_go_99, x_X5_go_100, x_X5_go_101, x_X5_go_102, x_X5_go_103, x_X5_go_104, x_X5_go_105, x_X5_go_108, x_X5_go_109, x_X5_go_111, x_X5_go_112, x_X5_go_115, x_X5_go_116, x_X5_go_117, x_X5_go_118, x_X5_go_119, x_X5_go_120, x_X5_go_121, x_X5_go_124, x_X5_go_125, x_X5_go_126, x_X5_go_128, x_X5_go_130, x_X5_go_133, x_X5_go_136, x_X5_go_137, x_X5_go_138, x_X5_go_139, x_X5_go_140, x_X5_go_141, x_X5_go_142, x_X5_go_145, x_X5_go_146, x_X5_go_148, x_X5_go_151, x_X5_go_153, x_X5_go_154, x_X5_go_157, x_X5_go_159, x_X5_go_161, x_X5_go_164, x_X5_go_165, x_X5_go_167, x_X5_go_169, x_X5_go_172, x_X5_go_175, x_X5_go_176, x_X5_go_177, x_X5_go_178, x_X5_go_179, x_X5_go_180, x_X5_go_181, x_X5_go_184, List.length_cons, List.length_nil, Nat.reduceLeDiff, Nat.zero_add, iI_add, iI_sub, iI_mul, iI_neg, iI_lt, iI_le, iI_eq, jI_iI, B_True, B_False, B_t, B_f, ck_True, gd_True, cb_v, cb_n, p_mv_rw, p_fv_rw, p_rv_some, pA_1, pA_90, pA_92, pA_3, pA_5, pA_93, pA_4, pA_91, pA_6, pS_i, pB_i, pW_i, pZ_0, pZ_1, pZ_b, bI_e0, u1_s, u1_n, uA_s, uA_n, true_and, and_true, not_true_eq_false, not_false_eq_true, eq_self, iI_z, al1, al5, al3, al4, al90, al91, al92, al93, al6, Int.cast_ofNat_Int, Nat.reduceAdd, Int.reduceNeg, Int.reduceAdd, Int.reduceSub, Int.reduceMul, Int.reduceLT, Int.reduceLE, Int.reduceGT, Int.reduceGE, Int.reduceEq, Int.reduceNe, Nat.reduceEqDiff, Int.zero_add, Int.add_zero, p_ty0, p_ty1, p_ty2, p_ty3, p_ty4, p_ty5, p_ty8, p_ty9, p_ty10, t0, r0, tg, v1, v2, v3, w, hcl, e4, gd_t, B_t, B_f]
    · rw [if_neg c6]
      have has5 : 2 ≤ as ∧ as ≤ 5 := by
        by_cases c : x3.2.1 = 4
        · rw [if_pos c] at has
          have q1 : as ≠ 1 := fun z => c6 ⟨c, Or.inl (by rw [← has]; exact z)⟩
          have q2 : as ≠ 6 := fun z => c6 ⟨c, Or.inr (Or.inl (by rw [← has]; exact z))⟩
          omega
        · rw [if_neg c] at has; omega
      obtain ⟨M4, v4, A4, gf⟩ := c_make (T := T) (F := F) hG A3 z1 hH z3 has5
      rw [← has]
      have hbm := A3.1.1.1.2.2.1 (mk_pl S.1 S.2.2.1 x1.2.2 x2.2.2)
      refine ⟨M4, fin _ (0, 0, S) (fun e he => ?_), A4, ⟨Int.le_refl _, by show (0 : Int) ≤ 5; omega⟩, fun z => absurd rfl z, fun _ => ⟨(gf 107 (by omega)).trans (o3' 107 (by omega)), rfl⟩, fun a a1 a2 => (gf a a2).trans (o3' a a2)⟩
      have v1 := v1 e (by omega)
      have v2 := v2 e (by omega)
      have v3 := v3 e (by omega)
      have v4 := v4 e (by omega)
      have hcl := hcl e he
      show _ = (some (.inl (some (.int (iI 0))), T, _, F) : Option pR)
      by_cases c : x3.2.1 = 4
      · rw [if_pos c] at htd has
        have q3 : mk_be S.1 x1.2.2 x2.2.2 := by
          refine Classical.byContradiction (fun z => c6 ⟨c, Or.inr (Or.inr z)⟩)
        rw [bI_t q3] at hcl
        clear fl fin hS hR hG hA hQ A1 K1 f1 k4 A2 K2 f2 o2' A3 K3 f3 o3' c6 z1 z2 z3 z4 c5 has q3 A4 gf c
        subst htd
        simp (disch := omega) only [x_X5_go_59, x_X5_go_60, x_X5_go_63, x_X5_go_66, x_X5_go_67, x_X5_go_68, x_X5_go_69, x_X5_go_70, x_X5_go_73, x_X5_go_74, x_X5_go_76, x_X5_go_77, x_X5_go_80, x_X5_go_81, x_X5_go_82, x_X5_go_83, x_X5_go_84, x_X5_go_85, x_X5_go_86, x_X5_go_89, x_X5_go_90, x_X5_go_91, x_X5_go_93, x_X5_go_96, x_X5_go_99, x_X5_go_100, x_X5_go_101, x_X5_go_102, x_X5_go_103, x_X5_go_104, x_X5_go_105, x_X5_go_108, x_X5_go_109, x_X5_go_111, x_X5_go_112, x_X5_go_115, x_X5_go_116, x_X5_go_117, x_X5_go_118, x_X5_go_119, x_X5_go_120, x_X5_go_121, x_X5_go_124, x_X5_go_125, x_X5_go_126, x_X5_go_128, x_X5_go_130, x_X5_go_133, x_X5_go_136, x_X5_go_137, x_X5_go_138, x_X5_go_139, x_X5_go_140, x_X5_go_141, x_X5_go_142, x_X5_go_145, x_X5_go_146, x_X5_go_148, x_X5_go_151, x_X5_go_153, x_X5_go_154, x_X5_go_157, x_X5_go_159, x_X5_go_161, x_X5_go_164, x_X5_go_165, x_X5_go_167, x_X5_go_169, x_X5_go_172, x_X5_go_175, x_X5_go_176, x_X5_go_177, x_X5_go_178, x_X5_go_179, x_X5_go_180, x_X5_go_181, x_X5_go_184, x_X5_go_185, x_X5_go_186, x_X5_go_188, x_X5_go_190, x_X5_go_192, x_X5_go_195, x_X5_go_196, x_X5_go_197, List.length_cons, List.length_nil, Nat.reduceLeDiff, Nat.zero_add, iI_add, iI_sub, iI_mul, iI_neg, iI_lt, iI_le, iI_eq, jI_iI, B_True, B_False, B_t, B_f, ck_True, gd_True, cb_v, cb_n, p_mv_rw, p_fv_rw, p_rv_some, pA_1, pA_90, pA_92, pA_3, pA_5, pA_93, pA_4, pA_91, pA_6, pS_i, pB_i, pW_i, pZ_0, pZ_1, pZ_b, bI_e0, u1_s, u1_n, uA_s, uA_n, true_and, and_true, not_true_eq_false, not_false_eq_true, eq_self, iI_z, al1, al5, al3, al4, al90, al91, al92, al93, al6, Int.cast_ofNat_Int, Nat.reduceAdd, Int.reduceNeg, Int.reduceAdd, Int.reduceSub, Int.reduceMul, Int.reduceLT, Int.reduceLE, Int.reduceGT, Int.reduceGE, Int.reduceEq, Int.reduceNe, Nat.reduceEqDiff, Int.zero_add, Int.add_zero, p_ty0, p_ty1, p_ty2, p_ty3, p_ty4, p_ty5, p_ty8, p_ty9, p_ty10, t0, r0, tg, v1, v2, v3, v4, hcl, gd_t, B_t, B_f]
      · rw [if_neg c] at htd
        clear fl fin hS hR hG hA hQ A1 K1 f1 k4 A2 K2 f2 o2' A3 K3 f3 o3' c6 z1 z2 z3 z4 c5 has A4 gf c hcl
        subst htd
        simp (disch := omega) only [x_X5_go_59, x_X5_go_60, x_X5_go_63, x_X5_go_66, x_X5_go_67, x_X5_go_68, x_X5_go_69, x_X5_go_70, x_X5_go_73, x_X5_go_74, x_X5_go_76, x_X5_go_77, x_X5_go_80, x_X5_go_81, x_X5_go_82, x_X5_go_83, x_X5_go_84, x_X5_go_85, x_X5_go_86, x_X5_go_89, x_X5_go_90, x_X5_go_91, x_X5_go_93, x_X5_go_96, x_X5_go_99, x_X5_go_100, x_X5_go_101, x_X5_go_102, x_X5_go_103, x_X5_go_104, x_X5_go_105, x_X5_go_108, x_X5_go_109, x_X5_go_111, x_X5_go_112, x_X5_go_115, x_X5_go_116, x_X5_go_117, x_X5_go_118, x_X5_go_119, x_X5_go_120, x_X5_go_121, x_X5_go_124, x_X5_go_125, x_X5_go_126, x_X5_go_128, x_X5_go_130, x_X5_go_133, x_X5_go_136, x_X5_go_137, x_X5_go_138, x_X5_go_139, x_X5_go_140, x_X5_go_141, x_X5_go_142, x_X5_go_145, x_X5_go_146, x_X5_go_148, x_X5_go_151, x_X5_go_153, x_X5_go_154, x_X5_go_157, x_X5_go_159, x_X5_go_161, x_X5_go_164, x_X5_go_165, x_X5_go_167, x_X5_go_169, x_X5_go_172, x_X5_go_175, x_X5_go_176, x_X5_go_177, x_X5_go_178, x_X5_go_179, x_X5_go_180, x_X5_go_181, x_X5_go_184, x_X5_go_185, x_X5_go_186, x_X5_go_188, x_X5_go_190, x_X5_go_192, x_X5_go_195, x_X5_go_196, x_X5_go_197, List.length_cons, List.length_nil, Nat.reduceLeDiff, Nat.zero_add, iI_add, iI_sub, iI_mul, iI_neg, iI_lt, iI_le, iI_eq, jI_iI, B_True, B_False, B_t, B_f, ck_True, gd_True, cb_v, cb_n, p_mv_rw, p_fv_rw, p_rv_some, pA_1, pA_90, pA_92, pA_3, pA_5, pA_93, pA_4, pA_91, pA_6, pS_i, pB_i, pW_i, pZ_0, pZ_1, pZ_b, bI_e0, u1_s, u1_n, uA_s, uA_n, true_and, and_true, not_true_eq_false, not_false_eq_true, eq_self, iI_z, al1, al5, al3, al4, al90, al91, al92, al93, al6, Int.cast_ofNat_Int, Nat.reduceAdd, Int.reduceNeg, Int.reduceAdd, Int.reduceSub, Int.reduceMul, Int.reduceLT, Int.reduceLE, Int.reduceGT, Int.reduceGE, Int.reduceEq, Int.reduceNe, Nat.reduceEqDiff, Int.zero_add, Int.add_zero, p_ty0, p_ty1, p_ty2, p_ty3, p_ty4, p_ty5, p_ty8, p_ty9, p_ty10, t0, r0, tg, v1, v2, v3, v4, gd_t, B_t, B_f]
  · rw [if_pos c5]
    refine TgR.bad hg A3 o3' (by omega) (fin _ (4, x2.1, S) (fun e he => ?_))
    have v1 := v1 e (by omega)
    have v2 := v2 e (by omega)
    have v3 := v3 e (by omega)
    have w := fl M3 4 (P.length + 2) e o3' (by omega) (by omega) he
    rw [g2] at w
    rw [bI_f c5] at v3
    clear fl fin hS hR hG hA hQ A1 K1 f1 k4 A2 K2 f2 o2' A3 K3 f3 o3' c5
    show _ = (some (.inl (some (.int (iI 4))), T, _, F) : Option pR)
    simp (disch := omega) only [x_X5_go_59, x_X5_go_60, x_X5_go_63, x_X5_go_66, x_X5_go_67, x_X5_go_68, x_X5_go_69, x_X5_go_70, x_X5_go_73, x_X5_go_74, x_X5_go_76, x_X5_go_77, x_X5_go_80, x_X5_go_81, x_X5_go_82, x_X5_go_83, x_X5_go_84, x_X5_go_85, x_X5_go_86, x_X5_go_89, x_X5_go_90, x_X5_go_91, x_X5_go_93, x_X5_go_96, x_X5_go_99, x_X5_go_100, x_X5_go_101, x_X5_go_102, x_X5_go_103, x_X5_go_104, x_X5_go_105, x_X5_go_108, x_X5_go_109, x_X5_go_111, x_X5_go_112, x_X5_go_115, x_X5_go_116, x_X5_go_117, x_X5_go_118, x_X5_go_119, x_X5_go_120, x_X5_go_121, x_X5_go_124, x_X5_go_125, x_X5_go_126, x_X5_go_128, x_X5_go_130, x_X5_go_133, x_X5_go_136, x_X5_go_137, x_X5_go_138, x_X5_go_139, x_X5_go_140, x_X5_go_141, x_X5_go_142, x_X5_go_145, List.length_cons, List.length_nil, Nat.reduceLeDiff, Nat.zero_add, iI_add, iI_sub, iI_mul, iI_neg, iI_lt, iI_le, iI_eq, jI_iI, B_True, B_False, B_t, B_f, ck_True, gd_True, cb_v, cb_n, p_mv_rw, p_fv_rw, p_rv_some, pA_1, pA_90, pA_92, pA_3, pA_5, pA_93, pA_4, pA_91, pA_6, pS_i, pB_i, pW_i, pZ_0, pZ_1, pZ_b, bI_e0, u1_s, u1_n, uA_s, uA_n, true_and, and_true, not_true_eq_false, not_false_eq_true, eq_self, iI_z, al1, al5, al3, al4, al90, al91, al92, al93, al6, Int.cast_ofNat_Int, Nat.reduceAdd, Int.reduceNeg, Int.reduceAdd, Int.reduceSub, Int.reduceMul, Int.reduceLT, Int.reduceLE, Int.reduceGT, Int.reduceGE, Int.reduceEq, Int.reduceNe, Nat.reduceEqDiff, Int.zero_add, Int.add_zero, p_ty0, p_ty1, p_ty2, p_ty3, p_ty4, p_ty5, p_ty8, p_ty9, p_ty10, t0, r0, tg, v1, v2, v3, w, e2, gd_t, B_t, B_f]
end PTGO
