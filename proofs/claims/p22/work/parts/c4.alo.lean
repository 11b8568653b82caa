section PALO
variable {d s b n s1 b1 : Nat} {bb : Int → Int} {k t pas q its to as i c p x y X Y mv side f g u : Int}
theorem SI.ixb {T T' : pT} {M M' : pM} {F F' : pF} {b0 : Nat} (hI : SI T F s b) (h : IX b0 T M F T' M' F') (hs : s < b0) (hb : b < b0) (h0 : b0 ≤ T.1.1) : SI T' F' s b :=
  ⟨hI.1, (h.1.2.2 s (by omega)).trans hI.2.1, by rw [(h.2 s hs).2]; exact hI.2.2.1, hI.2.2.2.1, (h.1.2.2 b (by omega)).trans hI.2.2.2.2.1, hI.2.2.2.2.2⟩
noncomputable def lgP (bb : Int → Int) (t pas its c : Int) : Prop := MV bb t pas its c ∧ ¬ m_chk (mk_bb bb pas its c 2) t
theorem z_alI {b0 : Nat} (hb0 : 100 ≤ b0) (hs : s < b0) (hb : b < b0) (hPS : PS bb t pas) (hk : 0 ≤ its ∧ its < 91) (ho : m_side (bb its) = t) (hkg : m_king bb t ≠ -1) (hq9 : q ≤ 900) (hm9 : mv ≤ 900) :
    ∀ (m : Nat) (to : Int) (T : pT) (M : pM) (F : pF) (r : Nat) (A : List Int) (l5 l6 : Slot), b0 ≤ T.1.1 → SI T F s b → SM M s b bb t pas q mv → AR T M r A → (b0 ≤ r ∧ r < T.1.1) → A.length + m ≤ 10000 → 0 ≤ to → to + m = 91 →
    ∃ (T' : pT) (M' : pM) (F' : pF) (r' : Nat) (l5' l6' : Slot), (∀ e, 5 ≤ e → R e m_X8_all 44 [.val (.ref s), .val (.ref r), .val (.int (iI its)), .val (.int (iI (pl1 its))), .val (.int (iI to)), l5, l6] [] T M F = R e m_X8_all 121 [.val (.ref s), .val (.ref r'), .val (.int (iI its)), .val (.int (iI (pl1 its))), .val (.int (iI 91)), l5', l6'] [] T' M' F') ∧ ALx b0 T M F T' M' F' m A (A ++ (flt (lgP bb t pas its) m to).map (fun c => 91 * its + c)) ∧ AR T' M' r' (A ++ (flt (lgP bb t pas its) m to).map (fun c => 91 * its + c)) ∧ b0 ≤ r' ∧ r' < T'.1.1
  | 0, to, T, M, F, r, A, l5, l6, hT, hI, hS, hA, hr, hl, h0, hm => by
    obtain rfl : to = 91 := by omega
    rw [flt, List.map_nil, List.append_nil]
    refine ⟨T, M, F, r, l5, l6, fun e he => ?_, ⟨⟨s_mono.rf, fun a _ => ⟨rfl, rfl⟩⟩, by omega, by omega⟩, hA, hr⟩
    simp (disch := omega) only [x_X8_all_44, x_X8_all_46, x_X8_all_48, List.length_cons, List.length_nil, Nat.reduceLeDiff, Nat.zero_add, iI_add, iI_sub, iI_mul, iI_neg, iI_lt, iI_le, iI_eq, jI_iI, B_True, B_False, B_t, B_f, ck_True, gd_True, cb_v, cb_n, p_mv_rw, p_fv_rw, p_rv_some, pA_1, pA_90, pA_92, pA_3, pA_5, pA_93, pA_4, pA_91, pA_6, pS_i, pB_i, pW_i, pZ_0, pZ_1, pZ_b, bI_e0, u1_s, u1_n, uA_s, uA_n, true_and, and_true, not_true_eq_false, not_false_eq_true, eq_self, iI_z, al1, al5, al3, al4, al90, al91, al92, al93, al6, Int.cast_ofNat_Int, Nat.reduceAdd, Int.reduceNeg, Int.reduceAdd, Int.reduceSub, Int.reduceMul, Int.reduceLT, Int.reduceLE, Int.reduceGT, Int.reduceGE, Int.reduceEq, Int.reduceNe, Nat.reduceEqDiff, Int.zero_add, Int.add_zero, p_ty0, p_ty1, p_ty2, p_ty3, p_ty4, p_ty5, p_ty8, p_ty9, p_ty10, B_t, B_f]
  | m + 1, to, T, M, F, r, A, l5, l6, hT, hI, hS, hA, hr, hl, h0, hm => by
    have h100 : 100 ≤ T.1.1 := by omega
    have ht : 0 ≤ to ∧ to < 91 := by omega
    obtain ⟨T1, M1, F1, r1, c1, X1⟩ := z_isLegal h100 hI (by omega) (by omega) hS hPS hk ht ho hkg hq9 hm9
    have I1 := hI.ix X1 (by omega) (by omega)
    have S1 := hS.eq (X1.2 s (by omega)).1 (X1.2 b (by omega)).1
    have A1 := hA.ix X1 hr.2 hr.2
    have X1b : IX b0 T M F T1 M1 F1 := X1.wk hT
    have g1 := X1.1.1
    have hpl := fun (T : pT) (M : pM) (F : pF) e (he : 5 ≤ e) => z_placeOf (d := e) (T := T) (M := M) (F := F) ht (by omega)
    have k1 := (c1_pl1 hk).2.1
    obtain ⟨j1, j2, j3⟩ := hA
    rw [flt]
    by_cases cP : lgP bb t pas its to
    · rw [if_pos cP]
      obtain ⟨M2, r2, A2, f2⟩ := z_alA (F := F1) (l0 := .val (.ref s)) (l3 := .val (.int (iI (pl1 its)))) (l5 := l5) (l6 := l6) (by omega) A1 (by omega) (by omega) hk ht
      have X2 : IX b0 T1 M1 F1 (p_new T1 1 (A.length + 1)) M2 (uA F1 T1.1.1 (fun _ => none)) := ⟨s_mono.new, fun a ha => ⟨f2 a (by omega), uA_n (by omega)⟩⟩
      have I2 := I1.ixb X2 hs hb (by omega)
      have S2 := S1.eq (X2.2 s hs).1 (X2.2 b hb).1
      have hn2 : (p_new T1 1 (A.length + 1)).1.1 = T1.1.1 + 1 := p_nn
      have hl2 : (A ++ [91 * its + to]).length = A.length + 1 := by rw [List.length_append]; rfl
      obtain ⟨T3, M3, F3, r3, l5', l6', q3, x3, A3, g3⟩ := z_alI hb0 hs hb hPS hk ho hkg hq9 hm9 m (to + 1) (p_new T1 1 (A.length + 1)) M2 (uA F1 T1.1.1 (fun _ => none)) T1.1.1 (A ++ [91 * its + to]) (.val (.ref T1.1.1)) (.val (.int (iI A.length))) (by omega) I2 S2 A2 (by omega) (by omega) (by omega) (by omega)
      have eA : A ++ [91 * its + to] ++ (flt (lgP bb t pas its) m (to + 1)).map (fun c => 91 * its + c) = A ++ ([to] ++ flt (lgP bb t pas its) m (to + 1)).map (fun c => 91 * its + c) := by
        rw [List.append_assoc, List.map_append]; rfl
      rw [eA] at x3 A3
      refine ⟨T3, M3, F3, r3, l5', l6', fun e he => ?_, ?_, A3, g3⟩
      · rw [← q3 e he]
        have r1 := r1 e he
        rw [bI_t (show MV bb t pas its to ∧ ¬ m_chk (mk_bb bb pas its to 2) t from cP)] at r1
        have r2 := r2 e
        have hpl := hpl T M F e he
        have i2 := I1.2.1
        have i1 := hI.2.1
        have e1 : R e m_X8_all 44 [.val (.ref s), .val (.ref r), .val (.int (iI its)), .val (.int (iI (pl1 its))), .val (.int (iI to)), l5, l6] [] T M F = R e m_X8_all 67 [.val (.ref s), .val (.ref r), .val (.int (iI its)), .val (.int (iI (pl1 its))), .val (.int (iI to)), l5, l6] [] T1 M1 F1 := by
          clear q3 r2
          generalize pl1 to = z1 at *
          generalize pl1 its = z2 at *
          simp (disch := omega) only [x_X8_all_44, x_X8_all_46, x_X8_all_48, x_X8_all_51, x_X8_all_52, x_X8_all_53, x_X8_all_55, x_X8_all_58, x_X8_all_61, x_X8_all_64, List.length_cons, List.length_nil, Nat.reduceLeDiff, Nat.zero_add, iI_add, iI_sub, iI_mul, iI_neg, iI_lt, iI_le, iI_eq, jI_iI, B_True, B_False, B_t, B_f, ck_True, gd_True, cb_v, cb_n, p_mv_rw, p_fv_rw, p_rv_some, pA_1, pA_90, pA_92, pA_3, pA_5, pA_93, pA_4, pA_91, pA_6, pS_i, pB_i, pW_i, pZ_0, pZ_1, pZ_b, bI_e0, u1_s, u1_n, uA_s, uA_n, true_and, and_true, not_true_eq_false, not_false_eq_true, eq_self, iI_z, al1, al5, al3, al4, al90, al91, al92, al93, al6, Int.cast_ofNat_Int, Nat.reduceAdd, Int.reduceNeg, Int.reduceAdd, Int.reduceSub, Int.reduceMul, Int.reduceLT, Int.reduceLE, Int.reduceGT, Int.reduceGE, Int.reduceEq, Int.reduceNe, Nat.reduceEqDiff, Int.zero_add, Int.add_zero, p_ty0, p_ty1, p_ty2, p_ty3, p_ty4, p_ty5, p_ty8, p_ty9, p_ty10, hpl, r1, i1, i2, gd_t, ck_t, B_t, B_f]
        rw [e1, r2]
        clear q3 r2 e1 r1 x3 eA
        generalize T1.1.1 = z at *
        simp (disch := omega) only [x_X8_all_115, x_X8_all_118, List.length_cons, List.length_nil, Nat.reduceLeDiff, Nat.zero_add, iI_add, iI_sub, iI_mul, iI_neg, iI_lt, iI_le, iI_eq, jI_iI, B_True, B_False, B_t, B_f, ck_True, gd_True, cb_v, cb_n, p_mv_rw, p_fv_rw, p_rv_some, pA_1, pA_90, pA_92, pA_3, pA_5, pA_93, pA_4, pA_91, pA_6, pS_i, pB_i, pW_i, pZ_0, pZ_1, pZ_b, bI_e0, u1_s, u1_n, uA_s, uA_n, true_and, and_true, not_true_eq_false, not_false_eq_true, eq_self, iI_z, al1, al5, al3, al4, al90, al91, al92, al93, al6, Int.cast_ofNat_Int, Nat.reduceAdd, Int.reduceNeg, Int.reduceAdd, Int.reduceSub, Int.reduceMul, Int.reduceLT, Int.reduceLE, Int.reduceGT, Int.reduceGE, Int.reduceEq, Int.reduceNe, Nat.reduceEqDiff, Int.zero_add, Int.add_zero, p_ty0, p_ty1, p_ty2, p_ty3, p_ty4, p_ty5, p_ty8, p_ty9, p_ty10, gd_t, ck_t, B_t, B_f]
      · have XA : ALx b0 T M F (p_new T1 1 (A.length + 1)) M2 (uA F1 T1.1.1 (fun _ => none)) 1 A (A ++ [91 * its + to]) := by
          refine ⟨X1b.tr X2 (Nat.le_refl _), by rw [hn2, hl2]; omega, ?_⟩
          rw [hl2, tri]
          show T1.1.2 + (A.length + 1) + tri A.length ≤ _
          omega
        have := XA.tr x3
        rwa [show 1 + m = m + 1 by omega] at this
    · rw [if_neg cP]
      obtain ⟨T3, M3, F3, r3, l5', l6', q3, x3, A3, g3⟩ := z_alI hb0 hs hb hPS hk ho hkg hq9 hm9 m (to + 1) T1 M1 F1 r A l5 l6 (by omega) I1 S1 A1 (by omega) (by omega) (by omega) (by omega)
      refine ⟨T3, M3, F3, r3, l5', l6', fun e he => ?_, ?_, A3, g3⟩
      · rw [← q3 e he]
        have r1 := r1 e he
        rw [bI_f (show ¬ (MV bb t pas its to ∧ ¬ m_chk (mk_bb bb pas its to 2) t) from cP)] at r1
        have hpl := hpl T M F e he
        have i1 := hI.2.1
        clear q3 x3 A3
        generalize pl1 to = z1 at *
        generalize pl1 its = z2 at *
        rw [x_X8_all_44]
        simp (disch := omega) only [x_X8_all_46, x_X8_all_48, x_X8_all_51, x_X8_all_52, x_X8_all_53, x_X8_all_55, x_X8_all_58, x_X8_all_61, x_X8_all_64, x_X8_all_67, x_X8_all_68, x_X8_all_69, x_X8_all_70, x_X8_all_71, x_X8_all_73, x_X8_all_75, x_X8_all_76, x_X8_all_78, x_X8_all_80, x_X8_all_81, x_X8_all_82, x_X8_all_85, x_X8_all_87, x_X8_all_89, x_X8_all_90, x_X8_all_92, x_X8_all_93, x_X8_all_94, x_X8_all_97, x_X8_all_100, x_X8_all_102, x_X8_all_103, x_X8_all_104, x_X8_all_106, x_X8_all_107, x_X8_all_108, x_X8_all_110, x_X8_all_111, x_X8_all_112, x_X8_all_114, x_X8_all_115, x_X8_all_118, List.length_cons, List.length_nil, Nat.reduceLeDiff, Nat.zero_add, iI_add, iI_sub, iI_mul, iI_neg, iI_lt, iI_le, iI_eq, jI_iI, B_True, B_False, B_t, B_f, ck_True, gd_True, cb_v, cb_n, p_mv_rw, p_fv_rw, p_rv_some, pA_1, pA_90, pA_92, pA_3, pA_5, pA_93, pA_4, pA_91, pA_6, pS_i, pB_i, pW_i, pZ_0, pZ_1, pZ_b, bI_e0, u1_s, u1_n, uA_s, uA_n, true_and, and_true, not_true_eq_false, not_false_eq_true, eq_self, iI_z, al1, al5, al3, al4, al90, al91, al92, al93, al6, Int.cast_ofNat_Int, Nat.reduceAdd, Int.reduceNeg, Int.reduceAdd, Int.reduceSub, Int.reduceMul, Int.reduceLT, Int.reduceLE, Int.reduceGT, Int.reduceGE, Int.reduceEq, Int.reduceNe, Nat.reduceEqDiff, Int.zero_add, Int.add_zero, p_ty0, p_ty1, p_ty2, p_ty3, p_ty4, p_ty5, p_ty8, p_ty9, p_ty10, hpl, r1, i1, gd_t, ck_t, B_t, B_f]
      · have XA : ALx b0 T M F T1 M1 F1 1 A A := ⟨X1b, by omega, by omega⟩
        have := XA.tr x3
        rw [show 1 + m = m + 1 by omega] at this
        exact this
/-- how many pieces from i on -/
noncomputable def pcn (bb : Int → Int) (t : Int) : Nat → Int → Nat
  | 0, _ => 0
  | m + 1, i => (bI (m_side (bb i) = t)).toNat + pcn bb t m (i + 1)
theorem pcn_sm : ∀ (m : Nat) (i : Nat), (pcn bb t m i : Int) + sm (a_pc bb t) i = sm (a_pc bb t) (i + m)
  | 0, i => by rw [pcn]; simp
  | m + 1, i => by
    have h := pcn_sm m (i + 1)
    rw [show ((i + 1 : Nat) : Int) = (i : Int) + 1 by omega] at h
    rw [pcn, show i + (m + 1) = i + 1 + m by omega, ← h]
    have e : sm (a_pc bb t) (i + 1) = sm (a_pc bb t) i + bI (m_side (bb i) = t) := rfl
    have := bI_rg (m_side (bb i) = t)
    rw [e]
    omega
theorem lgC_flt (i : Int) : lgC bb t pas i = flt (lgP bb t pas i) 91 0 := rfl
theorem z_alO {b0 : Nat} (hb0 : 100 ≤ b0) (hs : s < b0) (hb : b < b0) (hPS : PS bb t pas) (hkg : m_king bb t ≠ -1) (hq9 : q ≤ 900) (hm9 : mv ≤ 900) :
    ∀ (m : Nat) (its : Int) (T : pT) (M : pM) (F : pF) (r : Nat) (A : List Int) (l3 l4 l5 l6 : Slot), b0 ≤ T.1.1 → SI T F s b → SM M s b bb t pas q mv → AR T M r A → (b0 ≤ r ∧ r < T.1.1) → A.length + 91 * m ≤ 9000 → 0 ≤ its → its + m = 91 →
    ∃ (T' : pT) (M' : pM) (F' : pF) (r' : Nat), (∀ e, 5 ≤ e → R e m_X8_all 15 [.val (.ref s), .val (.ref r), .val (.int (iI its)), l3, l4, l5, l6] [] T M F = some (.inl (some (.ref r')), T', M', F')) ∧ ALx b0 T M F T' M' F' (91 * pcn bb t m its) A (A ++ lgL bb t pas m its) ∧ AR T' M' r' (A ++ lgL bb t pas m its) ∧ b0 ≤ r' ∧ r' < T'.1.1
  | 0, its, T, M, F, r, A, l3, l4, l5, l6, hT, hI, hS, hA, hr, hl, h0, hm => by
    obtain rfl : its = 91 := by omega
    rw [lgL, List.append_nil]
    refine ⟨T, M, F, r, fun e he => ?_, ⟨⟨s_mono.rf, fun a _ => ⟨rfl, rfl⟩⟩, by omega, by omega⟩, hA, hr⟩
    have a1 := hA.2.1
    simp (disch := omega) only [x_X8_all_0, x_X8_all_1, x_X8_all_3, x_X8_all_4, x_X8_all_5, x_X8_all_8, x_X8_all_11, x_X8_all_12, x_X8_all_13, x_X8_all_14, x_X8_all_15, x_X8_all_16, x_X8_all_18, x_X8_all_21, x_X8_all_22, x_X8_all_25, x_X8_all_26, x_X8_all_27, x_X8_all_28, x_X8_all_29, x_X8_all_32, x_X8_all_35, x_X8_all_38, x_X8_all_41, x_X8_all_42, x_X8_all_44, x_X8_all_46, x_X8_all_48, x_X8_all_51, x_X8_all_52, x_X8_all_53, x_X8_all_55, x_X8_all_58, x_X8_all_61, x_X8_all_64, x_X8_all_67, x_X8_all_68, x_X8_all_69, x_X8_all_70, x_X8_all_71, x_X8_all_73, x_X8_all_75, x_X8_all_76, x_X8_all_78, x_X8_all_80, x_X8_all_81, x_X8_all_82, x_X8_all_85, x_X8_all_87, x_X8_all_89, x_X8_all_90, x_X8_all_92, x_X8_all_93, x_X8_all_94, x_X8_all_97, x_X8_all_100, x_X8_all_102, x_X8_all_103, x_X8_all_104, x_X8_all_106, x_X8_all_107, x_X8_all_108, x_X8_all_110, x_X8_all_111, x_X8_all_112, x_X8_all_114, x_X8_all_115, x_X8_all_118, x_X8_all_121, x_X8_all_124, x_X8_all_127, x_X8_all_128, List.length_cons, List.length_nil, Nat.reduceLeDiff, Nat.zero_add, iI_add, iI_sub, iI_mul, iI_neg, iI_lt, iI_le, iI_eq, jI_iI, B_True, B_False, B_t, B_f, ck_True, gd_True, cb_v, cb_n, p_mv_rw, p_fv_rw, p_rv_some, pA_1, pA_90, pA_92, pA_3, pA_5, pA_93, pA_4, pA_91, pA_6, pS_i, pB_i, pW_i, pZ_0, pZ_1, pZ_b, bI_e0, u1_s, u1_n, uA_s, uA_n, true_and, and_true, not_true_eq_false, not_false_eq_true, eq_self, iI_z, al1, al5, al3, al4, al90, al91, al92, al93, al6, Int.cast_ofNat_Int, Nat.reduceAdd, Int.reduceNeg, Int.reduceAdd, Int.reduceSub, Int.reduceMul, Int.reduceLT, Int.reduceLE, Int.reduceGT, Int.reduceGE, Int.reduceEq, Int.reduceNe, Nat.reduceEqDiff, Int.zero_add, Int.add_zero, p_ty0, p_ty1, p_ty2, p_ty3, p_ty4, p_ty5, p_ty8, p_ty9, p_ty10, a1, gd_t, B_t, B_f]
  | m + 1, its, T, M, F, r, A, l3, l4, l5, l6, hT, hI, hS, hA, hr, hl, h0, hm => by
    have hk : 0 ≤ its ∧ its < 91 := by omega
    have hpl := fun e (he : 5 ≤ e) => z_placeOf (d := e) (T := T) (M := M) (F := F) hk (by omega)
    have k1 := (c1_pl1 hk).2.1
    have hSo := hS
    obtain ⟨hB, s1, s2, s3, s4, hst, hp, hq, hmv⟩ := hSo
    have o1 := fun e (he : 5 ≤ e) => z_isOwn (d := e) (T := T) (F := F) hI hB k1 hst (by omega)
    rw [bI_iff (isw_at hk)] at o1
    rw [lgL, lgC_flt, pcn]
    have i1 := hI.2.1
    have i0 := hI.1
    by_cases ho : m_side (bb its) = t
    · obtain ⟨T1, M1, F1, r1, l5', l6', q1, x1, A1, g1⟩ := z_alI hb0 hs hb hPS hk ho hkg hq9 hm9 91 0 T M F r A l5 l6 hT hI hS hA hr (by omega) (by omega) (by omega)
      have hlen : (A ++ (flt (lgP bb t pas its) 91 0).map (fun c => 91 * its + c)).length ≤ A.length + 91 := by
        rw [List.length_append, List.length_map]
        have : ∀ (n : Nat) (i : Int), (flt (lgP bb t pas its) n i).length ≤ n := by
          intro n
          induction n with
          | zero => intro i; exact Nat.le_refl _
          | succ n ih =>
            intro i
            rw [flt, List.length_append]
            have := ih (i + 1)
            split
            · show 1 + _ ≤ _; omega
            · show 0 + _ ≤ _; omega
        have := this 91 0
        omega
      have I1 := hI.ixb x1.1 hs hb hT
      have S1 := hS.eq (x1.1.2 s hs).1 (x1.1.2 b hb).1
      obtain ⟨T3, M3, F3, r3, q3, x3, A3, g3⟩ := z_alO hb0 hs hb hPS hkg hq9 hm9 m (its + 1) T1 M1 F1 r1 (A ++ (flt (lgP bb t pas its) 91 0).map (fun c => 91 * its + c)) (.val (.int (iI (pl1 its)))) (.val (.int (iI 91))) l5' l6' (by have := x1.1.1.1; omega) I1 S1 A1 g1 (by omega) (by omega) (by omega)
      rw [List.append_assoc] at x3 A3
      refine ⟨T3, M3, F3, r3, fun e he => ?_, ?_, A3, g3⟩
      · rw [← q3 e he]
        have q1 := q1 e he
        have o1 := o1 e he
        have hpl := hpl e he
        rw [bI_t ho] at o1
        have e1 : R e m_X8_all 15 [.val (.ref s), .val (.ref r), .val (.int (iI its)), l3, l4, l5, l6] [] T M F = R e m_X8_all 44 [.val (.ref s), .val (.ref r), .val (.int (iI its)), .val (.int (iI (pl1 its))), .val (.int (iI 0)), l5, l6] [] T M F := by
          clear q1 q3 x1 x3 hB hS
          generalize pl1 its = z2 at *
          simp (disch := omega) only [x_X8_all_15, x_X8_all_16, x_X8_all_18, x_X8_all_21, x_X8_all_22, x_X8_all_25, x_X8_all_26, x_X8_all_27, x_X8_all_28, x_X8_all_29, x_X8_all_32, x_X8_all_35, x_X8_all_38, x_X8_all_41, x_X8_all_42, List.length_cons, List.length_nil, Nat.reduceLeDiff, Nat.zero_add, iI_add, iI_sub, iI_mul, iI_neg, iI_lt, iI_le, iI_eq, jI_iI, B_True, B_False, B_t, B_f, ck_True, gd_True, cb_v, cb_n, p_mv_rw, p_fv_rw, p_rv_some, pA_1, pA_90, pA_92, pA_3, pA_5, pA_93, pA_4, pA_91, pA_6, pS_i, pB_i, pW_i, pZ_0, pZ_1, pZ_b, bI_e0, u1_s, u1_n, uA_s, uA_n, true_and, and_true, not_true_eq_false, not_false_eq_true, eq_self, iI_z, al1, al5, al3, al4, al90, al91, al92, al93, al6, Int.cast_ofNat_Int, Nat.reduceAdd, Int.reduceNeg, Int.reduceAdd, Int.reduceSub, Int.reduceMul, Int.reduceLT, Int.reduceLE, Int.reduceGT, Int.reduceGE, Int.reduceEq, Int.reduceNe, Nat.reduceEqDiff, Int.zero_add, Int.add_zero, p_ty0, p_ty1, p_ty2, p_ty3, p_ty4, p_ty5, p_ty8, p_ty9, p_ty10, hpl, o1, i1, s1, gd_t, ck_t, B_t, B_f]
        rw [e1, q1]
        clear q1 q3 x1 x3 hB hS e1
        simp (disch := omega) only [x_X8_all_121, x_X8_all_124, List.length_cons, List.length_nil, Nat.reduceLeDiff, Nat.zero_add, iI_add, iI_sub, iI_mul, iI_neg, iI_lt, iI_le, iI_eq, jI_iI, B_True, B_False, B_t, B_f, ck_True, gd_True, cb_v, cb_n, p_mv_rw, p_fv_rw, p_rv_some, pA_1, pA_90, pA_92, pA_3, pA_5, pA_93, pA_4, pA_91, pA_6, pS_i, pB_i, pW_i, pZ_0, pZ_1, pZ_b, bI_e0, u1_s, u1_n, uA_s, uA_n, true_and, and_true, not_true_eq_false, not_false_eq_true, eq_self, iI_z, al1, al5, al3, al4, al90, al91, al92, al93, al6, Int.cast_ofNat_Int, Nat.reduceAdd, Int.reduceNeg, Int.reduceAdd, Int.reduceSub, Int.reduceMul, Int.reduceLT, Int.reduceLE, Int.reduceGT, Int.reduceGE, Int.reduceEq, Int.reduceNe, Nat.reduceEqDiff, Int.zero_add, Int.add_zero, p_ty0, p_ty1, p_ty2, p_ty3, p_ty4, p_ty5, p_ty8, p_ty9, p_ty10, gd_t, ck_t, B_t, B_f]
      · have := x1.tr x3
        rw [bI_t ho, show 91 * ((1 : Int).toNat + pcn bb t m (its + 1)) = 91 + 91 * pcn bb t m (its + 1) by rw [show (1 : Int).toNat = 1 from rfl]; omega]
        exact this
    · have hf : flt (lgP bb t pas its) 91 0 = [] := flt_no 91 0 (fun j _ _ z => ho z.1.2.2.1)
      rw [hf, List.map_nil, List.nil_append, bI_f ho, show (0 : Int).toNat = 0 from rfl, Nat.zero_add]
      obtain ⟨T3, M3, F3, r3, q3, x3, A3, g3⟩ := z_alO hb0 hs hb hPS hkg hq9 hm9 m (its + 1) T M F r A (.val (.int (iI (pl1 its)))) l4 l5 l6 hT hI hS hA hr (by omega) (by omega) (by omega)
      refine ⟨T3, M3, F3, r3, fun e he => ?_, x3, A3, g3⟩
      rw [← q3 e he]
      have o1 := o1 e he
      have hpl := hpl e he
      rw [bI_f ho] at o1
      clear q3 x3 hB hS
      generalize pl1 its = z2 at *
      rw [x_X8_all_15]
      simp (disch := omega) only [x_X8_all_16, x_X8_all_18, x_X8_all_21, x_X8_all_22, x_X8_all_25, x_X8_all_26, x_X8_all_27, x_X8_all_28, x_X8_all_29, x_X8_all_32, x_X8_all_35, x_X8_all_38, x_X8_all_41, x_X8_all_42, x_X8_all_44, x_X8_all_46, x_X8_all_48, x_X8_all_51, x_X8_all_52, x_X8_all_53, x_X8_all_55, x_X8_all_58, x_X8_all_61, x_X8_all_64, x_X8_all_67, x_X8_all_68, x_X8_all_69, x_X8_all_70, x_X8_all_71, x_X8_all_73, x_X8_all_75, x_X8_all_76, x_X8_all_78, x_X8_all_80, x_X8_all_81, x_X8_all_82, x_X8_all_85, x_X8_all_87, x_X8_all_89, x_X8_all_90, x_X8_all_92, x_X8_all_93, x_X8_all_94, x_X8_all_97, x_X8_all_100, x_X8_all_102, x_X8_all_103, x_X8_all_104, x_X8_all_106, x_X8_all_107, x_X8_all_108, x_X8_all_110, x_X8_all_111, x_X8_all_112, x_X8_all_114, x_X8_all_115, x_X8_all_118, x_X8_all_121, x_X8_all_124, List.length_cons, List.length_nil, Nat.reduceLeDiff, Nat.zero_add, iI_add, iI_sub, iI_mul, iI_neg, iI_lt, iI_le, iI_eq, jI_iI, B_True, B_False, B_t, B_f, ck_True, gd_True, cb_v, cb_n, p_mv_rw, p_fv_rw, p_rv_some, pA_1, pA_90, pA_92, pA_3, pA_5, pA_93, pA_4, pA_91, pA_6, pS_i, pB_i, pW_i, pZ_0, pZ_1, pZ_b, bI_e0, u1_s, u1_n, uA_s, uA_n, true_and, and_true, not_true_eq_false, not_false_eq_true, eq_self, iI_z, al1, al5, al3, al4, al90, al91, al92, al93, al6, Int.cast_ofNat_Int, Nat.reduceAdd, Int.reduceNeg, Int.reduceAdd, Int.reduceSub, Int.reduceMul, Int.reduceLT, Int.reduceLE, Int.reduceGT, Int.reduceGE, Int.reduceEq, Int.reduceNe, Nat.reduceEqDiff, Int.zero_add, Int.add_zero, p_ty0, p_ty1, p_ty2, p_ty3, p_ty4, p_ty5, p_ty8, p_ty9, p_ty10, hpl, o1, i1, s1, gd_t, ck_t, B_t, B_f]
end PALO
