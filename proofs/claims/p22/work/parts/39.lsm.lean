section PLSM
variable {d : Nat} {T : pT} {M M0 M1 : pM} {F : pF} {b g : Nat} {bb v : Int → Int} {k s t pas q its to as c x p kc i : Int} {A Z P L : List Int}
theorem ls_in (hG : GT T F g) (hq : q ≤ 190) (hk : m_king bb t ≠ -1) (hi : 0 ≤ its ∧ its < 91) (hZ : ∀ c ∈ Z, MV bb t pas its c) (hZl : Z.length ≤ 42) :
    ∀ (Q P A : List Int) (M : pM), P ++ Q = Z → LI M0 g bb t pas q M A → M g 10 = Z.length → (∀ j : Nat, j < Z.length → M (g + 5) (j : Int) = q_pl (Z.getD j 0)) → A.length + (fS bb t pas its Q).length ≤ 840 →
      ∃ M', (∀ e, 4 ≤ e → R e m_X1_listMoves 54 [.val (.ref g), .val (.int (iI its)), .val (.int (iI (q_pl its))), .val (.int (iI (P.length : Int)))] [] T M F = R e m_X1_listMoves 32 [.val (.ref g), .val (.int (iI (its + 1))), .val (.int (iI (q_pl its))), .val (.int (iI (Z.length : Int)))] [] T M' F) ∧ LI M0 g bb t pas q M' (A ++ (fS bb t pas its Q).map (fun c => 91 * its + c)) := by
  intro Q
  induction Q with
  | nil =>
    intro P A M hP hI h10 h5 hl
    rw [List.append_nil] at hP
    subst hP
    refine ⟨M, fun e he => ?_, by rw [fS, List.map_nil, List.append_nil]; exact hI⟩
    obtain ⟨hg, t0, f0, hB, t3, f4, t4, f6, t5, f9, t6, f11⟩ := hG
    clear hI hZ h5
    rw [x_X1_listMoves_54]
    simp (disch := omega) only [x_X1_listMoves_55, x_X1_listMoves_56, x_X1_listMoves_59, x_X1_listMoves_143, x_X1_listMoves_146, List.length_cons, List.length_nil, Nat.reduceLeDiff, Nat.zero_add, iI_add, iI_sub, iI_mul, iI_neg, iI_lt, iI_le, iI_eq, jI_iI, B_True, B_False, B_t, B_f, ck_True, gd_True, cb_v, cb_n, p_mv_rw, p_fv_rw, p_rv_some, pA_1, pA_90, pA_92, pA_3, pA_5, pA_93, pA_4, pA_91, pA_6, pS_i, pB_i, pW_i, pZ_0, pZ_1, pZ_b, bI_e0, u1_s, u1_n, uA_s, uA_n, true_and, and_true, not_true_eq_false, not_false_eq_true, eq_self, iI_z, al1, al5, al3, al4, al90, al91, al92, al93, al6, Int.cast_ofNat_Int, Nat.reduceAdd, Int.reduceNeg, Int.reduceAdd, Int.reduceSub, Int.reduceMul, Int.reduceLT, Int.reduceLE, Int.reduceGT, Int.reduceGE, Int.reduceEq, Int.reduceNe, Nat.reduceEqDiff, Int.zero_add, Int.add_zero, p_ty0, p_ty1, p_ty2, p_ty3, p_ty4, p_ty5, p_ty8, p_ty9, p_ty10, t0, f9, t5, h10, B_t, B_f]
  | cons c Q ih =>
    intro P A M hP hI h10 h5 hl
    have hPl : P.length + 1 + Q.length = Z.length := by rw [← hP]; simp; omega
    have hmv := hZ c (by rw [← hP]; simp)
    have hx : M (g + 5) (P.length : Int) = q_pl c := by
      rw [h5 P.length (by omega), ← hP]
      rw [getD_mid]
    have hqc := q_pl_nn hmv.2.1
    have hqi := q_pl_nn hi
    have hcc := hmv.2.1
    have hsf : ∀ e, 4 ≤ e → callD e m_X1_isSafe [.ref g, .int (iI (q_pl its)), .int (iI (q_pl c))] T M F = _ := fun e he => c_isSafe (d := e) hG hI.1 hq hk hI.2.2.1 hI.2.1 hmv (by omega)
    have h7 := hI.2.2.2.1.1
    have hGT := hG
    by_cases hs : ¬ m_chk (mk_bb bb pas its c 2) t
    · rw [fS, if_pos hs, List.length_append, List.length_singleton] at hl
      obtain ⟨M', e1, e2⟩ := ih (P ++ [c]) (A ++ [91 * its + c]) _ (by rw [List.append_assoc]; exact hP) (hI.add (x := 91 * its + c)) (by
        rw [uA_s]; exact h10) (fun j hj => by
          rw [uA_n (by omega), uA_n (by omega)]; exact h5 j hj) (by rw [List.length_append, List.length_singleton]; omega)
      refine ⟨M', fun e he => ?_, by rw [fS, if_pos hs, List.map_append, List.map_singleton, ← List.append_assoc]; exact e2⟩
      have e1 := e1 e he
      have hsf := hsf e he
      rw [bI_t hs] at hsf
      rw [List.length_append, List.length_singleton, Int.natCast_add_one] at e1
      rw [← e1]
      have hcel := c_cel (d := e) (T := T) (M := M) (F := F) (p := q_pl c) (by omega) (by omega)
      rw [geo1 hcc] at hcel
      clear ih e1 e2 h5 hI hZ hP
      obtain ⟨hg, t0, f0, hB, t3, f4, t4, f6, t5, f9, t6, f11⟩ := hG
      have e9 : its * 91 + c = 91 * its + c := by omega
      rw [x_X1_listMoves_54]
      simp (disch := omega) only [x_X1_listMoves_55, x_X1_listMoves_56, x_X1_listMoves_59, x_X1_listMoves_62, x_X1_listMoves_63, x_X1_listMoves_64, x_X1_listMoves_67, x_X1_listMoves_68, x_X1_listMoves_71, x_X1_listMoves_72, x_X1_listMoves_73, x_X1_listMoves_74, x_X1_listMoves_77, x_X1_listMoves_78, x_X1_listMoves_79, x_X1_listMoves_82, x_X1_listMoves_85, x_X1_listMoves_86, x_X1_listMoves_89, x_X1_listMoves_92, x_X1_listMoves_93, x_X1_listMoves_96, x_X1_listMoves_97, x_X1_listMoves_100, x_X1_listMoves_101, x_X1_listMoves_104, x_X1_listMoves_105, x_X1_listMoves_108, x_X1_listMoves_109, x_X1_listMoves_112, x_X1_listMoves_113, x_X1_listMoves_115, x_X1_listMoves_116, x_X1_listMoves_117, x_X1_listMoves_120, x_X1_listMoves_121, x_X1_listMoves_122, x_X1_listMoves_125, x_X1_listMoves_126, x_X1_listMoves_127, x_X1_listMoves_128, x_X1_listMoves_129, x_X1_listMoves_132, x_X1_listMoves_133, x_X1_listMoves_134, x_X1_listMoves_137, x_X1_listMoves_140, List.length_cons, List.length_nil, Nat.reduceLeDiff, Nat.zero_add, iI_add, iI_sub, iI_mul, iI_neg, iI_lt, iI_le, iI_eq, jI_iI, B_True, B_False, B_t, B_f, ck_True, gd_True, cb_v, cb_n, p_mv_rw, p_fv_rw, p_rv_some, pA_1, pA_90, pA_92, pA_3, pA_5, pA_93, pA_4, pA_91, pA_6, pS_i, pB_i, pW_i, pZ_0, pZ_1, pZ_b, bI_e0, u1_s, u1_n, uA_s, uA_n, true_and, and_true, not_true_eq_false, not_false_eq_true, eq_self, iI_z, al1, al5, al3, al4, al90, al91, al92, al93, al6, Int.cast_ofNat_Int, Nat.reduceAdd, Int.reduceNeg, Int.reduceAdd, Int.reduceSub, Int.reduceMul, Int.reduceLT, Int.reduceLE, Int.reduceGT, Int.reduceGE, Int.reduceEq, Int.reduceNe, Nat.reduceEqDiff, Int.zero_add, Int.add_zero, p_ty0, p_ty1, p_ty2, p_ty3, p_ty4, p_ty5, p_ty8, p_ty9, p_ty10, t0, f9, t5, f6, t4, h10, h7, hx, hsf, hcel, e9, B_t, B_f, gd_t]
    · rw [fS, if_neg hs, List.nil_append] at hl
      obtain ⟨M', e1, e2⟩ := ih (P ++ [c]) A M (by rw [List.append_assoc]; exact hP) hI h10 h5 hl
      refine ⟨M', fun e he => ?_, by rw [fS, if_neg hs]; exact e2⟩
      have e1 := e1 e he
      have hsf := hsf e he
      rw [bI_f hs] at hsf
      rw [List.length_append, List.length_singleton, Int.natCast_add_one] at e1
      rw [← e1]
      clear ih e1 e2 h5 hI hZ hP
      obtain ⟨hg, t0, f0, hB, t3, f4, t4, f6, t5, f9, t6, f11⟩ := hG
      rw [x_X1_listMoves_54]
      simp (disch := omega) only [x_X1_listMoves_55, x_X1_listMoves_56, x_X1_listMoves_59, x_X1_listMoves_62, x_X1_listMoves_63, x_X1_listMoves_64, x_X1_listMoves_67, x_X1_listMoves_68, x_X1_listMoves_71, x_X1_listMoves_72, x_X1_listMoves_73, x_X1_listMoves_74, x_X1_listMoves_77, x_X1_listMoves_78, x_X1_listMoves_79, x_X1_listMoves_82, x_X1_listMoves_85, x_X1_listMoves_86, x_X1_listMoves_89, x_X1_listMoves_92, x_X1_listMoves_93, x_X1_listMoves_96, x_X1_listMoves_97, x_X1_listMoves_100, x_X1_listMoves_101, x_X1_listMoves_104, x_X1_listMoves_105, x_X1_listMoves_108, x_X1_listMoves_109, x_X1_listMoves_112, x_X1_listMoves_113, x_X1_listMoves_115, x_X1_listMoves_116, x_X1_listMoves_117, x_X1_listMoves_120, x_X1_listMoves_121, x_X1_listMoves_122, x_X1_listMoves_125, x_X1_listMoves_126, x_X1_listMoves_127, x_X1_listMoves_128, x_X1_listMoves_129, x_X1_listMoves_132, x_X1_listMoves_133, x_X1_listMoves_134, x_X1_listMoves_137, x_X1_listMoves_140, List.length_cons, List.length_nil, Nat.reduceLeDiff, Nat.zero_add, iI_add, iI_sub, iI_mul, iI_neg, iI_lt, iI_le, iI_eq, jI_iI, B_True, B_False, B_t, B_f, ck_True, gd_True, cb_v, cb_n, p_mv_rw, p_fv_rw, p_rv_some, pA_1, pA_90, pA_92, pA_3, pA_5, pA_93, pA_4, pA_91, pA_6, pS_i, pB_i, pW_i, pZ_0, pZ_1, pZ_b, bI_e0, u1_s, u1_n, uA_s, uA_n, true_and, and_true, not_true_eq_false, not_false_eq_true, eq_self, iI_z, al1, al5, al3, al4, al90, al91, al92, al93, al6, Int.cast_ofNat_Int, Nat.reduceAdd, Int.reduceNeg, Int.reduceAdd, Int.reduceSub, Int.reduceMul, Int.reduceLT, Int.reduceLE, Int.reduceGT, Int.reduceGE, Int.reduceEq, Int.reduceNe, Nat.reduceEqDiff, Int.zero_add, Int.add_zero, p_ty0, p_ty1, p_ty2, p_ty3, p_ty4, p_ty5, p_ty8, p_ty9, p_ty10, t0, f9, t5, f6, t4, h10, h7, hx, hsf, B_t, B_f, gd_t]
theorem TG.rb2 (h : TG M M1 g L) (hS : GS M g bb t pas q) : GS M1 g bb t pas q := by
  obtain ⟨-, -, t3, t4⟩ := h
  exact hS.fr (t4 _ (by omega) (by omega)) (t4 _ (by omega) (by omega)) (t3 _ (by omega)) (t3 _ (by omega)) (t3 _ (by omega))
theorem ls_out (hG : GT T F g) (hq : q ≤ 190) (hk : m_king bb t ≠ -1) : ∀ (m : Nat) (i : Int) (l2 l3 : Slot) (A : List Int) (M : pM), i + m = 91 → 0 ≤ i → LI M0 g bb t pas q M A → A.length + (lgL bb t pas m i).length ≤ 840 →
    ∃ M', (∀ e, 4 ≤ e → R e m_X1_listMoves 32 [.val (.ref g), .val (.int (iI i)), l2, l3] [] T M F = some (.inl none, T, M', F)) ∧ LI M0 g bb t pas q M' (A ++ lgL bb t pas m i) := by
  intro m
  induction m with
  | zero =>
    intro i l2 l3 A M hi h0 hI hl
    obtain rfl : i = 91 := by omega
    refine ⟨M, fun e he => ?_, by rw [lgL, List.append_nil]; exact hI⟩
    clear hI hl
    simp (disch := omega) only [x_X1_listMoves_32, x_X1_listMoves_33, x_X1_listMoves_35, x_X1_listMoves_149, List.length_cons, List.length_nil, Nat.reduceLeDiff, Nat.zero_add, iI_add, iI_sub, iI_mul, iI_neg, iI_lt, iI_le, iI_eq, jI_iI, B_True, B_False, B_t, B_f, ck_True, gd_True, cb_v, cb_n, p_mv_rw, p_fv_rw, p_rv_some, pA_1, pA_90, pA_92, pA_3, pA_5, pA_93, pA_4, pA_91, pA_6, pS_i, pB_i, pW_i, pZ_0, pZ_1, pZ_b, bI_e0, u1_s, u1_n, uA_s, uA_n, true_and, and_true, not_true_eq_false, not_false_eq_true, eq_self, iI_z, al1, al5, al3, al4, al90, al91, al92, al93, al6, Int.cast_ofNat_Int, Nat.reduceAdd, Int.reduceNeg, Int.reduceAdd, Int.reduceSub, Int.reduceMul, Int.reduceLT, Int.reduceLE, Int.reduceGT, Int.reduceGE, Int.reduceEq, Int.reduceNe, Nat.reduceEqDiff, Int.zero_add, Int.add_zero, p_ty0, p_ty1, p_ty2, p_ty3, p_ty4, p_ty5, p_ty8, p_ty9, p_ty10]
  | succ m ih =>
    intro i l2 l3 A M hi h0 hI hl
    have hi91 : 0 ≤ i ∧ i < 91 := by omega
    obtain ⟨hR, s1, s2, s3, ht, s5, hp⟩ := hI.1
    have hb := hR.2.2.1
    have hps := hI.1.PS
    obtain ⟨M1, e1, T1⟩ := c_gather (T := T) (F := F) hG hI.1 hi91
    obtain ⟨gn1, gn2⟩ := gaL_ok hR.2.1 hb ht hps hi91
    obtain ⟨M2, L', e2, T2, srt, prm⟩ := c_sort (T := T) (F := F) hG T1 gn2 (fun a ha => by
      obtain ⟨c, hc, hm⟩ := (gaL_mem hR.2.1 hb ht hps hi91).mp ha
      have := q_pl_nn hm.2.1
      omega)
    have hL' := sorted_eq hR.2.1 hb ht hps hi91 srt prm
    have hZl := flt_len hR.2.1 hb ht hps hi91
    subst hL'
    rw [lgL, List.length_append, List.length_map] at hl
    have hI2 := hI.tg T2
    obtain ⟨M3, e3, I3⟩ := ls_in (T := T) (F := F) (M0 := M0) (q := q) (Z := flt (MV bb t pas i) 91 0) hG hq hk hi91 (fun c hc => ((flt_mem _ 91 0).mp hc).2.2) hZl (flt (MV bb t pas i) 91 0) [] A M2 (List.nil_append _) hI2 (by rw [T2.1, List.length_map]) (fun j hj => by
      rw [T2.2.1 j (by rw [List.length_map]; exact hj), List.getD_eq_getElem?_getD, List.getD_eq_getElem?_getD, List.getElem?_map, List.getElem?_eq_getElem hj]
      rfl) (by rw [fS_flt]; unfold lgC at hl; omega)
    rw [fS_flt] at I3
    obtain ⟨M4, e4, I4⟩ := ih (i + 1) (.val (.int (iI (q_pl i)))) (.val (.int (iI ((flt (MV bb t pas i) 91 0).length : Int)))) _ M3 (by omega) (by omega) I3 (by rw [List.length_append, List.length_map]; unfold lgC at hl; omega)
    refine ⟨M4, fun e he => ?_, by rw [lgL, ← List.append_assoc]; exact I4⟩
    have e4 := e4 e he
    have e3 := e3 e he
    rw [← e4, ← e3]
    have e1 := e1 e he
    have e2 := e2 e (by omega)
    have hpl := c_placeOf (d := e) (T := T) (M := M) (F := F) (k := i) (by omega) (by omega)
    have hqi := q_pl_nn hi91
    clear e3 e4 ih I3 I4 hI hI2 T1 T2 srt prm gn1 gn2 hR hb hps hp hl
    rw [x_X1_listMoves_32]
    have t0 := hG.2.1
    simp (disch := omega) only [x_X1_listMoves_33, x_X1_listMoves_35, x_X1_listMoves_38, x_X1_listMoves_39, x_X1_listMoves_42, x_X1_listMoves_43, x_X1_listMoves_44, x_X1_listMoves_45, x_X1_listMoves_48, x_X1_listMoves_49, x_X1_listMoves_52, x_X1_listMoves_53, List.length_cons, List.length_nil, Nat.reduceLeDiff, Nat.zero_add, iI_add, iI_sub, iI_mul, iI_neg, iI_lt, iI_le, iI_eq, jI_iI, B_True, B_False, B_t, B_f, ck_True, gd_True, cb_v, cb_n, p_mv_rw, p_fv_rw, p_rv_some, pA_1, pA_90, pA_92, pA_3, pA_5, pA_93, pA_4, pA_91, pA_6, pS_i, pB_i, pW_i, pZ_0, pZ_1, pZ_b, bI_e0, u1_s, u1_n, uA_s, uA_n, true_and, and_true, not_true_eq_false, not_false_eq_true, eq_self, iI_z, al1, al5, al3, al4, al90, al91, al92, al93, al6, Int.cast_ofNat_Int, Nat.reduceAdd, Int.reduceNeg, Int.reduceAdd, Int.reduceSub, Int.reduceMul, Int.reduceLT, Int.reduceLE, Int.reduceGT, Int.reduceGE, Int.reduceEq, Int.reduceNe, Nat.reduceEqDiff, Int.zero_add, Int.add_zero, p_ty0, p_ty1, p_ty2, p_ty3, p_ty4, p_ty5, p_ty8, p_ty9, p_ty10, t0, gd_t, hpl, e1, e2]
/-- the legal moves, quiet moves left aside -/
noncomputable def lgA (bb : Int → Int) (t pas : Int) : List Int := @ite _ (m_ply bb t) (Classical.propDecidable _) (lgL bb t pas 91 0) []
def P20 (bb : Int → Int) : Prop := ∀ s, s = 0 ∨ s = 1 → sm (a_pc bb s) 91 ≤ 20
theorem lgA_len (h : VB v bb) (hb : MB bb) (ht : t = 0 ∨ t = 1) (hp : PS bb t pas) (h20 : P20 bb) : (lgA bb t pas).length ≤ 840 := by
  unfold lgA
  have h1 := lgL_len h hb ht hp 91 (by omega)
  have h2 := h20 t ht
  split
  · omega
  · exact Nat.zero_le _
/-- the list that a game keeps is right -/
def GL (M : pM) (g : Nat) (bb : Int → Int) (t pas : Int) : Prop := M g 8 = 0 ∨ (M g 8 = 1 ∧ LM M g (lgA bb t pas))
theorem c_listMoves (hG : GT T F g) (hS : GS M g bb t pas q) (hL : GL M g bb t pas) (hq : q ≤ 190) (h20 : P20 bb) :
    ∃ M', (∀ d, 5 ≤ d → callD d m_X1_listMoves [.ref g] T M F = some (.inl none, T, M', F)) ∧ FMv M M' g ∧ M' g 8 = 1 ∧ LM M' g (lgA bb t pas) := by
  rcases hL with h8 | ⟨h8, hL⟩
  · have hGT := hG
    obtain ⟨hg, t0, f0, hB, -⟩ := hG
    have eg : ∀ j, j ≠ 7 → j ≠ 8 → uA M g (u1 (u1 (M g) 8 1) 7 0) g j = M g j := fun j h7 h8 => by rw [uA_s]; exact (if_neg h7).trans (if_neg h8)
    have eo : ∀ a, a ≠ g → uA M g (u1 (u1 (M g) 8 1) 7 0) a = M a := fun a a1 => uA_n a1
    have hS1 : GS (uA M g (u1 (u1 (M g) 8 1) 7 0)) g bb t pas q := hS.fr (eo _ (by omega)) (eo _ (by omega)) (eg _ (by omega) (by omega)) (eg _ (by omega) (by omega)) (eg _ (by omega) (by omega))
    have f1 : FMv M (uA M g (u1 (u1 (M g) 8 1) 7 0)) g := ⟨fun a a1 _ _ _ => eo a a1, fun j j1 j2 _ _ _ => eg j j1 j2⟩
    have h81 : uA M g (u1 (u1 (M g) 8 1) 7 0) g 8 = 1 := by rw [uA_s]; rfl
    have h70 : uA M g (u1 (u1 (M g) 8 1) 7 0) g 7 = 0 := by rw [uA_s]; rfl
    have hpl := fun (d : Nat) (hd : 3 ≤ d) => c_playable (d := d) (T := T) (F := F) hGT hS1 hd
    by_cases hy : m_ply bb t
    · have ht := hS.2.2.2.2.1
      have hk : m_king bb t ≠ -1 := by
        rcases ht with rfl | rfl
        · exact hy.1
        · exact hy.2.1
      obtain ⟨M2, e2, n13, pn, n1, n2⟩ := c_look (T := T) (F := F) hGT hS1 hk
      have I2 : LI M g bb t pas q M2 [] := by
        refine ⟨hS1.fr (n2 _ (by omega) (by omega)) (n2 _ (by omega) (by omega)) (n1 _ (by omega) (by omega)) (n1 _ (by omega) (by omega)) (n1 _ (by omega) (by omega)), pn, n13, ⟨?_, fun j hj => absurd hj (Nat.not_lt_zero j)⟩, ⟨?_, ?_⟩, ?_⟩
        · rw [n1 7 (by omega) (by omega), h70]; rfl
        · intro a a1 a2 a3 a4; rw [n2 a a1 a4]; exact f1.1 a a1 a2 a3 a4
        · intro j j1 j2 j3 j4 j5; rw [n1 j j4 j5]; exact f1.2 j j1 j2 j3 j4 j5
        · rw [n1 8 (by omega) (by omega)]; exact h81
      have hlen := lgA_len hS.1.2.1 hS.1.2.2.1 ht hS.PS h20
      have hA : lgA bb t pas = lgL bb t pas 91 0 := if_pos hy
      rw [hA] at hlen ⊢
      obtain ⟨M3, e3, I3⟩ := ls_out (T := T) (F := F) (M0 := M) hGT hq hk 91 0 .unset .unset [] M2 (by omega) (by omega) I2 (by rw [List.length_nil]; omega)
      refine ⟨M3, fun d hd => ?_, I3.2.2.2.2.1, I3.2.2.2.2.2, I3.2.2.2.1⟩
      refine callD_go 4 hd rfl (fun e he => ?_)
      show R e m_X1_listMoves 0 [.val (.ref g), .unset, .unset, .unset] [] T M F = _
      have hpl := hpl e (by omega)
      rw [bI_t hy] at hpl
      have e2 := e2 e (by omega)
      rw [← e3 e he]
      clear e3 I3 I2 pn hS hS1 f1 eg eo
      simp (disch := omega) only [x_X1_listMoves_0, x_X1_listMoves_1, x_X1_listMoves_4, x_X1_listMoves_7, x_X1_listMoves_8, x_X1_listMoves_9, x_X1_listMoves_10, x_X1_listMoves_13, x_X1_listMoves_14, x_X1_listMoves_15, x_X1_listMoves_18, x_X1_listMoves_19, x_X1_listMoves_22, x_X1_listMoves_25, x_X1_listMoves_26, x_X1_listMoves_27, x_X1_listMoves_30, x_X1_listMoves_31, List.length_cons, List.length_nil, Nat.reduceLeDiff, Nat.zero_add, iI_add, iI_sub, iI_mul, iI_neg, iI_lt, iI_le, iI_eq, jI_iI, B_True, B_False, B_t, B_f, ck_True, gd_True, cb_v, cb_n, p_mv_rw, p_fv_rw, p_rv_some, pA_1, pA_90, pA_92, pA_3, pA_5, pA_93, pA_4, pA_91, pA_6, pS_i, pB_i, pW_i, pZ_0, pZ_1, pZ_b, bI_e0, u1_s, u1_n, uA_s, uA_n, true_and, and_true, not_true_eq_false, not_false_eq_true, eq_self, iI_z, al1, al5, al3, al4, al90, al91, al92, al93, al6, Int.cast_ofNat_Int, Nat.reduceAdd, Int.reduceNeg, Int.reduceAdd, Int.reduceSub, Int.reduceMul, Int.reduceLT, Int.reduceLE, Int.reduceGT, Int.reduceGE, Int.reduceEq, Int.reduceNe, Nat.reduceEqDiff, Int.zero_add, Int.add_zero, p_ty0, p_ty1, p_ty2, p_ty3, p_ty4, p_ty5, p_ty8, p_ty9, p_ty10, t0, h8, hpl, e2, uA_uA, B_t, B_f, gd_t]
    · refine ⟨uA M g (u1 (u1 (M g) 8 1) 7 0), fun d hd => ?_, f1, h81, ?_⟩
      · refine callD_go 4 hd rfl (fun e he => ?_)
        show R e m_X1_listMoves 0 [.val (.ref g), .unset, .unset, .unset] [] T M F = _
        have hpl := hpl e (by omega)
        rw [bI_f hy] at hpl
        clear hS hS1 f1 eg eo
        simp (disch := omega) only [x_X1_listMoves_0, x_X1_listMoves_1, x_X1_listMoves_4, x_X1_listMoves_7, x_X1_listMoves_8, x_X1_listMoves_9, x_X1_listMoves_10, x_X1_listMoves_13, x_X1_listMoves_14, x_X1_listMoves_15, x_X1_listMoves_18, x_X1_listMoves_19, x_X1_listMoves_22, x_X1_listMoves_25, List.length_cons, List.length_nil, Nat.reduceLeDiff, Nat.zero_add, iI_add, iI_sub, iI_mul, iI_neg, iI_lt, iI_le, iI_eq, jI_iI, B_True, B_False, B_t, B_f, ck_True, gd_True, cb_v, cb_n, p_mv_rw, p_fv_rw, p_rv_some, pA_1, pA_90, pA_92, pA_3, pA_5, pA_93, pA_4, pA_91, pA_6, pS_i, pB_i, pW_i, pZ_0, pZ_1, pZ_b, bI_e0, u1_s, u1_n, uA_s, uA_n, true_and, and_true, not_true_eq_false, not_false_eq_true, eq_self, iI_z, al1, al5, al3, al4, al90, al91, al92, al93, al6, Int.cast_ofNat_Int, Nat.reduceAdd, Int.reduceNeg, Int.reduceAdd, Int.reduceSub, Int.reduceMul, Int.reduceLT, Int.reduceLE, Int.reduceGT, Int.reduceGE, Int.reduceEq, Int.reduceNe, Nat.reduceEqDiff, Int.zero_add, Int.add_zero, p_ty0, p_ty1, p_ty2, p_ty3, p_ty4, p_ty5, p_ty8, p_ty9, p_ty10, t0, h8, hpl, uA_uA, B_t, B_f, gd_t]
      · rw [show lgA bb t pas = [] from if_neg hy]
        exact ⟨h70, fun j hj => absurd hj (Nat.not_lt_zero j)⟩
  · refine ⟨M, fun d hd => ?_, ⟨fun _ _ _ _ _ => rfl, fun _ _ _ _ _ _ => rfl⟩, h8, hL⟩
    refine callD_go 4 hd rfl (fun e he => ?_)
    show R e m_X1_listMoves 0 [.val (.ref g), .unset, .unset, .unset] [] T M F = _
    obtain ⟨hg, t0, f0, hB, -⟩ := hG
    clear hL hS
    simp (disch := omega) only [x_X1_listMoves_0, x_X1_listMoves_1, x_X1_listMoves_4, x_X1_listMoves_7, List.length_cons, List.length_nil, Nat.reduceLeDiff, Nat.zero_add, iI_add, iI_sub, iI_mul, iI_neg, iI_lt, iI_le, iI_eq, jI_iI, B_True, B_False, B_t, B_f, ck_True, gd_True, cb_v, cb_n, p_mv_rw, p_fv_rw, p_rv_some, pA_1, pA_90, pA_92, pA_3, pA_5, pA_93, pA_4, pA_91, pA_6, pS_i, pB_i, pW_i, pZ_0, pZ_1, pZ_b, bI_e0, u1_s, u1_n, uA_s, uA_n, true_and, and_true, not_true_eq_false, not_false_eq_true, eq_self, iI_z, al1, al5, al3, al4, al90, al91, al92, al93, al6, Int.cast_ofNat_Int, Nat.reduceAdd, Int.reduceNeg, Int.reduceAdd, Int.reduceSub, Int.reduceMul, Int.reduceLT, Int.reduceLE, Int.reduceGT, Int.reduceGE, Int.reduceEq, Int.reduceNe, Nat.reduceEqDiff, Int.zero_add, Int.add_zero, p_ty0, p_ty1, p_ty2, p_ty3, p_ty4, p_ty5, p_ty8, p_ty9, p_ty10, t0, h8, B_t, B_f, gd_t]
end PLSM
