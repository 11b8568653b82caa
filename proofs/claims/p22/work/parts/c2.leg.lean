section PLEG
variable {d s b n s1 b1 : Nat} {T T1 : pT} {M M1 : pM} {F F1 : pF} {bb : Int → Int} {k t pas q its to as i c p x y X Y mv side f g u : Int}
theorem KG.mk (hb : MB bb) (ht : t = 0 ∨ t = 1) (hp : PS bb t pas) (hV : MV bb t pas its to) (has : 2 ≤ as ∧ as ≤ 5) (hk : m_king bb t ≠ -1) : m_king (mk_bb bb pas its to as) t ≠ -1 := by
  obtain ⟨k0, k1, k2⟩ := (m_king_rg bb t).resolve_left hk
  have hPl := mk_pl_rg hb ht hp hV
  obtain ⟨hi, hto, ho, hm, hn⟩ := hV
  have hst := m_side_t hb ht ho
  have hside : m_side (bb (m_king bb t)) = t := by rw [k2]; unfold m_side; split <;> omega
  intro hz
  by_cases c : its = m_king bb t
  · have h1 := m_kg_no 91 0 hz (by omega) to hto.1 (by omega)
    rw [mk_bb_at, if_pos rfl] at h1
    unfold mk_th at h1
    rw [if_neg (fun z => by have := z.1; rw [c] at this; omega), c] at h1
    exact h1 k2
  · have h1 := m_kg_no 91 0 hz (by omega) _ k0 (by omega)
    rw [mk_bb_at, if_neg (fun z => hn (by rw [← z]; exact hside)), if_neg (fun z => c z.symm), if_neg] at h1
    · exact h1 k2
    · intro z
      by_cases c2 : mk_pl bb pas its to = to
      · exact hn (by rw [← c2, ← z]; exact hside)
      · have := hPl.2.2 c2
        rw [← z] at this
        omega
theorem IX.rf (h : 100 ≤ T.1.1) : IX T.1.1 T M F T M F := ⟨s_mono.rf, fun a _ => ⟨rfl, rfl⟩⟩
theorem z_isLegal (h100 : 100 ≤ T.1.1) (hI : SI T F s b) (hs : s < T.1.1) (hb : b < T.1.1) (hS : SM M s b bb t pas q mv) (hPS : PS bb t pas) (hk : 0 ≤ its ∧ its < 91) (ht : 0 ≤ to ∧ to < 91) (ho : m_side (bb its) = t) (hkg : m_king bb t ≠ -1) (hq9 : q ≤ 900) (hm9 : mv ≤ 900) :
    ∃ T' M' F', (∀ d, 5 ≤ d → callD d m_X8_isLegal [.ref s, .int (iI (pl1 its)), .int (iI (pl1 to))] T M F = some (.inl (some (.int (iI (bI (MV bb t pas its to ∧ ¬ m_chk (mk_bb bb pas its to 2) t))))), T', M', F')) ∧ (T'.1.1 ≤ T.1.1 + 2 ∧ T'.1.2 ≤ T.1.2 + 126) ∧ IX T.1.1 T M F T' M' F' := by
  have hS' := hS
  obtain ⟨hB, s1, s2, s3, s4, hst, hp, hq, hm⟩ := hS'
  have vt := hB.1.at ht
  have st := sv_f hB.2 to
  have k1 := (c1_pl1 hk).2.1
  have k2 := (c1_pl1 ht).2.1
  by_cases hV : MV bb t pas its to
  · have co := fun e he => z_could (d := e) hI hS hk ht ho he
    have e1 : (m_side (bb to) ≠ t ∧ MK bb pas its to) := ⟨hV.2.2.2.2, hV.2.2.2.1⟩
    obtain ⟨T1, M1, F1, r1, c1, d1, I1, S1, X1⟩ := z_copy h100 hI hs hb hS
    obtain ⟨M2, r2, S2, f2⟩ := z_go I1 S1 hPS hV (as := 2) (by omega) hq9 hm9
    have I2 := hI.ix X1 hs hb
    have m1 : M2 s = M s := by rw [f2 s (by omega) (by omega), (X1.2 s hs).1]
    obtain ⟨kr0, kr1, kr2⟩ := (m_king_rg (mk_bb bb pas its to 2) t).resolve_left (KG.mk hB.2 hst hPS hV (by omega) hkg)
    have k3 := fun e he => z_king (d := e) (T := T1) (M := M2) (F := F1) I1 S2.1 hst he
    have hpk : pp1 (m_king (mk_bb bb pas its to 2) t) = pl1 (m_king (mk_bb bb pas its to 2) t) := by unfold pp1; rw [if_neg (by omega)]
    have a3 := fun e he => z_attackers (d := e) (T := T1) (M := M2) (F := F1) I1 S2.1 (to := m_king (mk_bb bb pas its to 2) t) ⟨kr0, kr1⟩ (side := 1 - t) (by omega) he
    have hr := m_att_rg (mk_bb bb pas its to 2) (m_king (mk_bb bb pas its to 2) t) (1 - t)
    have u1' := S2.2.1
    refine ⟨T1, M2, F1, fun d hd => ?_, by omega, X1.1, fun a ha => ⟨?_, (X1.2 a ha).2⟩⟩
    · refine callD_go 4 hd rfl (fun e he => ?_)
      show R e m_X8_isLegal 0 [.val (.ref s), .val (.int (iI (pl1 its))), .val (.int (iI (pl1 to))), .unset] [] T M F = _
      have co := co e (by omega)
      rw [bI_t e1] at co
      have r1 := r1 e he
      have r2 := r2 e he
      have k3 := k3 e (by omega)
      rw [hpk] at k3
      have a3 := a3 e (by omega)
      have s1' : M2 s 1 = t := by rw [m1]; exact s1
      have hw : (MV bb t pas its to ∧ ¬ m_chk (mk_bb bb pas its to 2) t) ↔ m_att (mk_bb bb pas its to 2) (m_king (mk_bb bb pas its to 2) t) (1 - t) = 0 := by
        unfold m_chk
        constructor
        · intro z; have := z.2; omega
        · intro z; exact ⟨hV, by omega⟩
      rw [bI_iff hw]
      obtain ⟨i1, i2, i3, i4, i5, i6⟩ := hI
      obtain ⟨j1, j2, j3, j4, j5, j6⟩ := I1
      obtain ⟨l1, l2, l3, l4, l5, l6⟩ := I2
      clear hw hV hkg X1 S1 S2 f2 hS hB hPS e1
      generalize m_att (mk_bb bb pas its to 2) (m_king (mk_bb bb pas its to 2) t) (1 - t) = z1 at *
      generalize pl1 (m_king (mk_bb bb pas its to 2) t) = z2 at *
      generalize bb (mk_pl bb pas its to) % 10 = z3 at *
      generalize sv (bb to) = z4 at *
      generalize pl1 to = z5 at *
      generalize pl1 its = z6 at *
      generalize T.1.1 = z7 at *
      by_cases cz : z1 = 0
      · subst cz
        rw [bI_t rfl]
        simp (disch := omega) only [x_X8_isLegal_0, x_X8_isLegal_1, x_X8_isLegal_4, x_X8_isLegal_5, x_X8_isLegal_6, x_X8_isLegal_8, x_X8_isLegal_11, x_X8_isLegal_12, x_X8_isLegal_13, x_X8_isLegal_14, x_X8_isLegal_17, x_X8_isLegal_20, x_X8_isLegal_21, x_X8_isLegal_22, x_X8_isLegal_23, x_X8_isLegal_26, x_X8_isLegal_27, x_X8_isLegal_28, x_X8_isLegal_29, x_X8_isLegal_30, x_X8_isLegal_31, x_X8_isLegal_34, x_X8_isLegal_35, x_X8_isLegal_36, x_X8_isLegal_37, x_X8_isLegal_38, x_X8_isLegal_41, x_X8_isLegal_44, x_X8_isLegal_45, x_X8_isLegal_48, x_X8_isLegal_51, x_X8_isLegal_54, x_X8_isLegal_55, x_X8_isLegal_58, x_X8_isLegal_59, List.length_cons, List.length_nil, Nat.reduceLeDiff, Nat.zero_add, iI_add, iI_sub, iI_mul, iI_neg, iI_lt, iI_le, iI_eq, jI_iI, B_True, B_False, B_t, B_f, ck_True, gd_True, cb_v, cb_n, p_mv_rw, p_fv_rw, p_rv_some, pA_1, pA_90, pA_92, pA_3, pA_5, pA_93, pA_4, pA_91, pA_6, pS_i, pB_i, pW_i, pZ_0, pZ_1, pZ_b, bI_e0, u1_s, u1_n, uA_s, uA_n, true_and, and_true, not_true_eq_false, not_false_eq_true, eq_self, iI_z, al1, al5, al3, al4, al90, al91, al92, al93, al6, Int.cast_ofNat_Int, Nat.reduceAdd, Int.reduceNeg, Int.reduceAdd, Int.reduceSub, Int.reduceMul, Int.reduceLT, Int.reduceLE, Int.reduceGT, Int.reduceGE, Int.reduceEq, Int.reduceNe, Nat.reduceEqDiff, Int.zero_add, Int.add_zero, p_ty0, p_ty1, p_ty2, p_ty3, p_ty4, p_ty5, p_ty8, p_ty9, p_ty10, i2, i3, i5, j2, j3, j5, l2, l3, l5, vt, co, r1, r2, k3, a3, s1', u1', gd_t, ck_t, B_t, B_f]
      · rw [bI_f cz]
        simp (disch := omega) only [x_X8_isLegal_0, x_X8_isLegal_1, x_X8_isLegal_4, x_X8_isLegal_5, x_X8_isLegal_6, x_X8_isLegal_8, x_X8_isLegal_11, x_X8_isLegal_12, x_X8_isLegal_13, x_X8_isLegal_14, x_X8_isLegal_17, x_X8_isLegal_20, x_X8_isLegal_21, x_X8_isLegal_22, x_X8_isLegal_23, x_X8_isLegal_26, x_X8_isLegal_27, x_X8_isLegal_28, x_X8_isLegal_29, x_X8_isLegal_30, x_X8_isLegal_31, x_X8_isLegal_34, x_X8_isLegal_35, x_X8_isLegal_36, x_X8_isLegal_37, x_X8_isLegal_38, x_X8_isLegal_41, x_X8_isLegal_44, x_X8_isLegal_45, x_X8_isLegal_48, x_X8_isLegal_51, x_X8_isLegal_54, x_X8_isLegal_55, x_X8_isLegal_58, x_X8_isLegal_59, List.length_cons, List.length_nil, Nat.reduceLeDiff, Nat.zero_add, iI_add, iI_sub, iI_mul, iI_neg, iI_lt, iI_le, iI_eq, jI_iI, B_True, B_False, B_t, B_f, ck_True, gd_True, cb_v, cb_n, p_mv_rw, p_fv_rw, p_rv_some, pA_1, pA_90, pA_92, pA_3, pA_5, pA_93, pA_4, pA_91, pA_6, pS_i, pB_i, pW_i, pZ_0, pZ_1, pZ_b, bI_e0, u1_s, u1_n, uA_s, uA_n, true_and, and_true, not_true_eq_false, not_false_eq_true, eq_self, iI_z, al1, al5, al3, al4, al90, al91, al92, al93, al6, Int.cast_ofNat_Int, Nat.reduceAdd, Int.reduceNeg, Int.reduceAdd, Int.reduceSub, Int.reduceMul, Int.reduceLT, Int.reduceLE, Int.reduceGT, Int.reduceGE, Int.reduceEq, Int.reduceNe, Nat.reduceEqDiff, Int.zero_add, Int.add_zero, p_ty0, p_ty1, p_ty2, p_ty3, p_ty4, p_ty5, p_ty8, p_ty9, p_ty10, i2, i3, i5, j2, j3, j5, l2, l3, l5, vt, co, r1, r2, k3, a3, s1', u1', gd_t, ck_t, B_t, B_f]
    · rw [f2 a (by omega) (by omega)]; exact (X1.2 a ha).1
  · refine ⟨T, M, F, fun d hd => ?_, by omega, IX.rf h100⟩
    refine callD_go 4 hd rfl (fun e he => ?_)
    show R e m_X8_isLegal 0 [.val (.ref s), .val (.int (iI (pl1 its))), .val (.int (iI (pl1 to))), .unset] [] T M F = _
    have co := z_could (d := e) hI hS hk ht ho (by omega)
    rw [bI_f (fun z => hV ⟨hk, ht, ho, z.2, z.1⟩)] at co
    rw [bI_f (fun z => hV z.1)]
    obtain ⟨i1, i2, i3, i4, i5, i6⟩ := hI
    clear hV hS hB hPS
    generalize sv (bb to) = z4 at *
    generalize pl1 to = z5 at *
    generalize pl1 its = z6 at *
    simp (disch := omega) only [x_X8_isLegal_0, x_X8_isLegal_1, x_X8_isLegal_4, x_X8_isLegal_5, x_X8_isLegal_6, x_X8_isLegal_8, x_X8_isLegal_11, x_X8_isLegal_12, x_X8_isLegal_13, x_X8_isLegal_14, x_X8_isLegal_17, x_X8_isLegal_20, x_X8_isLegal_21, x_X8_isLegal_22, x_X8_isLegal_23, x_X8_isLegal_26, x_X8_isLegal_27, x_X8_isLegal_28, x_X8_isLegal_29, x_X8_isLegal_30, x_X8_isLegal_31, x_X8_isLegal_34, x_X8_isLegal_35, x_X8_isLegal_36, x_X8_isLegal_37, x_X8_isLegal_38, x_X8_isLegal_41, x_X8_isLegal_44, x_X8_isLegal_45, x_X8_isLegal_48, x_X8_isLegal_51, x_X8_isLegal_54, x_X8_isLegal_55, x_X8_isLegal_58, x_X8_isLegal_59, List.length_cons, List.length_nil, Nat.reduceLeDiff, Nat.zero_add, iI_add, iI_sub, iI_mul, iI_neg, iI_lt, iI_le, iI_eq, jI_iI, B_True, B_False, B_t, B_f, ck_True, gd_True, cb_v, cb_n, p_mv_rw, p_fv_rw, p_rv_some, pA_1, pA_90, pA_92, pA_3, pA_5, pA_93, pA_4, pA_91, pA_6, pS_i, pB_i, pW_i, pZ_0, pZ_1, pZ_b, bI_e0, u1_s, u1_n, uA_s, uA_n, true_and, and_true, not_true_eq_false, not_false_eq_true, eq_self, iI_z, al1, al5, al3, al4, al90, al91, al92, al93, al6, Int.cast_ofNat_Int, Nat.reduceAdd, Int.reduceNeg, Int.reduceAdd, Int.reduceSub, Int.reduceMul, Int.reduceLT, Int.reduceLE, Int.reduceGT, Int.reduceGE, Int.reduceEq, Int.reduceNe, Nat.reduceEqDiff, Int.zero_add, Int.add_zero, p_ty0, p_ty1, p_ty2, p_ty3, p_ty4, p_ty5, p_ty8, p_ty9, p_ty10, i2, i3, i5, vt, co, gd_t, ck_t, B_t, B_f]
end PLEG
