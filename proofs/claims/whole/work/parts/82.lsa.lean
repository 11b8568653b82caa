section PLSA
variable {d bd lg N lg1 N1 : Nat} {T T1 : pT} {M M0 M1 M2 : pM} {F F1 : pF} {bb v w : Int → Int} {t pas q its to as p n i c s x k a b lo hi : Int} {H : List HE} {A L : List Int} {io : Nat}
/-- a list in the model's row -/
def LMy (M : pM) (io : Nat) (A : List Int) : Prop := ∀ j : Nat, j < A.length → M io (j : Int) = A.getD j 0
/-- what listing may change -/
def XL (bd io : Nat) : Nat → Prop := fun a => a = 127 ∨ a = bd ∨ a = 136 ∨ a = io
theorem YV.wr (h : YV T M F bd lg N H) (f : ∀ a, a ≠ io → M1 a = M a) (h1 : io = 136 ∨ io = 137 ∨ io = 138) : YV T M1 F bd lg N H := by
  obtain ⟨a1, a2, a3, a4, a5, a6⟩ := h
  obtain ⟨d0, d0', d1, d2, d3, d4⟩ := id a2
  refine ⟨a1, a2, a3, ?_, a5, ?_⟩
  · rw [f lg (by omega)]; exact a4
  · rw [f 127 (by omega)]; exact a6
theorem YS.wr (h : YS M bd bb t pas q) (hD : YD bd lg T) (f : ∀ a, a ≠ io → M1 a = M a) (h1 : io = 136 ∨ io = 137 ∨ io = 138) : YS M1 bd bb t pas q := by
  obtain ⟨a1, a2, a3, a4, a5⟩ := h
  obtain ⟨d0, -⟩ := hD
  refine ⟨?_, ?_, ?_, ?_, ?_⟩
  · unfold YG at *
    rw [f 129 (by omega), f 130 (by omega), f 131 (by omega), f 132 (by omega), f 133 (by omega)]
    exact a1
  · rw [f bd (by omega)]; exact a2
  all_goals rw [f 127 (by omega)]; assumption
theorem LMy.fr (h : LMy M io A) (e : M1 io = M io) : LMy M1 io A := by unfold LMy at *; rw [e]; exact h
theorem LMy.add (h : LMy M io A) (e : M1 io = u1 (M io) (A.length : Int) x) : LMy M1 io (A ++ [x]) := by
  intro j hj
  rw [List.length_append, List.length_singleton] at hj
  rw [e]
  by_cases z : j = A.length
  · subst z; rw [u1_s]; exact (getD_mid A x []).symm
  · rw [u1_n (by omega), getD_app A x (by omega)]; exact h j (by omega)
theorem la_in (hio : io = 137 ∨ io = 138) (hP : SP bb t pas q) (hH : H.length < 614) (hk : m_king bb t ≠ -1) (hi : 0 ≤ its ∧ its < 91) (hst : m_side (bb its) = t) : ∀ (m : Nat) (c : Int) (A : List Int) (T : pT) (M : pM) (F : pF) (lg N : Nat), c + m = 91 → 0 ≤ c → YV T M F bd lg N H → YS M bd bb t pas q → (∀ k, 0 ≤ k → k < 91 → M 136 k = bI (MK bb pas its k)) → LMy M io A → A.length + (flt (fun c => MV bb t pas its c ∧ ¬ m_chk (mk_bb bb pas its c 2) t) m c).length ≤ 2000 →
    ∃ T' M' F' lg' N', (∀ e, 5 ≤ e → R e m_X8_listAll 46 [.val (.ref 127), .val (.ref io), .val (.int (iI (A.length : Int))), .val (.int (iI its)), .val (.int (iI c))] [] T M F = R e m_X8_listAll 112 [.val (.ref 127), .val (.ref io), .val (.int (iI ((A ++ (flt (fun c => MV bb t pas its c ∧ ¬ m_chk (mk_bb bb pas its c 2) t) m c).map (fun c => 91 * its + c)).length : Int))), .val (.int (iI its)), .val (.int (iI 91))] [] T' M' F') ∧ YV T' M' F' bd lg' N' H ∧ YS M' bd bb t pas q ∧ LMy M' io (A ++ (flt (fun c => MV bb t pas its c ∧ ¬ m_chk (mk_bb bb pas its c 2) t) m c).map (fun c => 91 * its + c)) ∧ (∀ j, j ≠ 10 → j ≠ 11 → j ≠ 12 → j ≠ 14 → M' 127 j = M 127 j) ∧ GC N N' H.length ∧ YC (XL bd io) T M F lg N T' M' F' lg' N' := by
  obtain ⟨hb, hu, h20, ht, hps, hq⟩ := id hP
  intro m
  induction m with
  | zero =>
    intro c A T M F lg N hc h0 hV hS hmk hA hl
    obtain rfl : c = 91 := by omega
    refine ⟨T, M, F, lg, N, fun e he => ?_, hV, hS, ?_, fun _ _ _ _ _ => rfl, GC.rf, YC.rf⟩
    · rw [flt, List.map_nil, List.append_nil]
      clear hV hS hmk hA hl
      simp (disch := omega) only [x_X8_listAll_46, x_X8_listAll_48, x_X8_listAll_50, List.length_cons, List.length_nil, Nat.reduceLeDiff, Nat.zero_add, iI_add, iI_sub, iI_mul, iI_neg, iI_lt, iI_le, iI_eq, jI_iI, B_True, B_False, B_t, B_f, ck_True, gd_True, cb_v, cb_n, p_mv_rw, p_fv_rw, p_rv_some, pA_1, pA_90, pA_92, pA_3, pA_2, pA_93, pA_4, pA_91, pA_95, pS_i, pW_i, pZ_0, pZ_1, pZ_b, bI_e0, u1_s, u1_n, uA_s, uA_n, true_and, and_true, not_true_eq_false, not_false_eq_true, eq_self, iI_z, al1, al2, al3, al4, al90, al91, al92, al93, al95, Int.cast_ofNat_Int, Nat.reduceAdd, Int.reduceNeg, Int.reduceAdd, Int.reduceSub, Int.reduceMul, Int.reduceLT, Int.reduceLE, Int.reduceGT, Int.reduceGE, Int.reduceEq, Int.reduceNe, Nat.reduceEqDiff, Int.zero_add, Int.add_zero, p_ty0, p_ty1, p_ty2, p_ty3, p_ty4, p_ty5, p_ty6, p_ty7, p_ty8, p_ty9, p_ty10, p_ty11, B_t, B_f]
    · rw [flt, List.map_nil, List.append_nil]; exact hA
  | succ m ih =>
    intro c A T M F lg N hc h0 hV hS hmk hA hl
    have hc91 : 0 ≤ c ∧ c < 91 := by omega
    have m9 := hmk c hc91.1 hc91.2
    have hbc := hb c
    have hsc := m_side_rg (x := bb c) hbc
    obtain ⟨d0, d0', d1, d2, d3, d4⟩ := id hV.2.1
    have s1 := hS.2.1
    have s2 := hS.2.2.1
    have hsd := fun e (he : 5 ≤ e) => y_side (d := e) (T := T) (M := M) (F := F) (n := bb c) (by omega) (by omega)
    rw [flt] at hl ⊢
    by_cases c1 : MV bb t pas its c
    · rw [bI_t c1.2.2.2.1] at m9
      obtain ⟨T1, M1, F1, lg1, N1, r1, V1, S1, j1, G1, C1⟩ := y_isSafe hV hS hP hH c1 hk
      have mm : ∀ a, a < T.1.1 → a ≠ 127 → a ≠ bd → a ≠ lg → M1 a = M a := fun a ha h1 h2 h3 => C1.2.1 a ha (by rintro (z | z) <;> contradiction) h3
      have C1' : YC (XL bd io) T M F lg N T1 M1 F1 lg1 N1 := C1.wk (fun a h => by
        rcases h with h | h
        · exact Or.inl h
        · exact Or.inr (Or.inl h))
      have h136 : M1 136 = M 136 := mm 136 (by omega) (by omega) (by omega) (by omega)
      have hio1 : M1 io = M io := mm io (by omega) (by omega) (by omega) (by omega)
      have tio : p_ty T1 io = (1, 2000) := by
        have h137 := V1.1
        obtain ⟨ty127, ty128, fy1, ty129, fy4, ty130, fy5, ty131, fy6, ty132, fy7, ty133, fy8, ty136, fy15, ty137, fy16, ty138, fy17, ty139, fy18, ty140, fy19, ty141, fy20, ty142, fy21, ty143, fy22, hbd, tybd, fy9, hlg, tylg, fy13, hN⟩ := h137
        rcases hio with rfl | rfl <;> assumption
      by_cases c2 : ¬ m_chk (mk_bb bb pas its c 2) t
      · rw [if_pos ⟨c1, c2⟩, List.length_append, List.length_singleton] at hl
        obtain ⟨M2, hM2⟩ : ∃ M2 : pM, M2 = uA M1 io (u1 (M1 io) (A.length : Int) (91 * its + c)) := ⟨_, rfl⟩
        have m2 : ∀ a, a ≠ io → M2 a = M1 a := fun a ha => by rw [hM2, uA_n ha]
        have V2 := V1.wr m2 (by omega)
        have S2 := S1.wr V1.2.1 m2 (by omega)
        have hA2 : LMy M2 io (A ++ [91 * its + c]) := hA.add (by rw [hM2, uA_s, hio1])
        obtain ⟨T3, M3, F3, lg3, N3, r3, V3, S3, L3, j3, G3, C3⟩ := ih (c + 1) (A ++ [91 * its + c]) T1 M2 F1 lg1 N1 (by omega) (by omega) V2 S2 (fun k k0 k1 => by rw [m2 136 (by omega), h136]; exact hmk k k0 k1) hA2 (by rw [List.length_append, List.length_singleton]; omega)
        rw [if_pos ⟨c1, c2⟩, List.map_append, List.map_singleton, ← List.append_assoc]
        refine ⟨T3, M3, F3, lg3, N3, fun e he => ?_, V3, S3, L3, fun j a1 a2 a3 a4 => ((j3 j a1 a2 a3 a4).trans (congrFun (m2 127 (by omega)) j)).trans (j1 j a1 a2 a3 a4), G1.tr G3, C1'.tr (YC.tr (YC.wr (fun a ha => m2 a (fun z => ha (Or.inr (Or.inr (Or.inr z)))))) C3)⟩
        have r1 := r1 e he
        have r3 := r3 e he
        have hsd := hsd e he
        rw [bI_t c2] at r1
        rw [List.length_append, List.length_singleton, Int.natCast_add_one] at r3
        rw [← r3, hM2]
        have ty := hV.1
        obtain ⟨ty127, ty128, fy1, ty129, fy4, ty130, fy5, ty131, fy6, ty132, fy7, ty133, fy8, ty136, fy15, ty137, fy16, ty138, fy17, ty139, fy18, ty140, fy19, ty141, fy20, ty142, fy21, ty143, fy22, hbd, tybd, fy9, hlg, tylg, fy13, hN⟩ := ty
        have c3 : m_side (bb c) ≠ t := c1.2.2.2.2
        clear hV hS hmk hA ih V1 S1 C1 C1' mm r3 V2 S2 V3 S3 L3 j3 C3 hA2 m2 hM2 c1 hP hb hu h20 hps h136 hio1 j1
        rw [x_X8_listAll_46]
        simp (disch := omega) only [x_X8_listAll_48, x_X8_listAll_50, x_X8_listAll_53, x_X8_listAll_54, x_X8_listAll_57, x_X8_listAll_59, x_X8_listAll_60, x_X8_listAll_63, x_X8_listAll_64, x_X8_listAll_67, x_X8_listAll_69, x_X8_listAll_70, x_X8_listAll_73, x_X8_listAll_74, x_X8_listAll_77, x_X8_listAll_80, x_X8_listAll_81, x_X8_listAll_82, x_X8_listAll_84, x_X8_listAll_87, x_X8_listAll_90, x_X8_listAll_93, x_X8_listAll_94, x_X8_listAll_95, x_X8_listAll_97, x_X8_listAll_98, x_X8_listAll_99, x_X8_listAll_101, x_X8_listAll_102, x_X8_listAll_103, x_X8_listAll_106, x_X8_listAll_109, List.length_cons, List.length_nil, Nat.reduceLeDiff, Nat.zero_add, iI_add, iI_sub, iI_mul, iI_neg, iI_lt, iI_le, iI_eq, jI_iI, B_True, B_False, B_t, B_f, ck_True, gd_True, cb_v, cb_n, p_mv_rw, p_fv_rw, p_rv_some, pA_1, pA_90, pA_92, pA_3, pA_2, pA_93, pA_4, pA_91, pA_95, pS_i, pW_i, pZ_0, pZ_1, pZ_b, bI_e0, u1_s, u1_n, uA_s, uA_n, true_and, and_true, not_true_eq_false, not_false_eq_true, eq_self, iI_z, al1, al2, al3, al4, al90, al91, al92, al93, al95, Int.cast_ofNat_Int, Nat.reduceAdd, Int.reduceNeg, Int.reduceAdd, Int.reduceSub, Int.reduceMul, Int.reduceLT, Int.reduceLE, Int.reduceGT, Int.reduceGE, Int.reduceEq, Int.reduceNe, Nat.reduceEqDiff, Int.zero_add, Int.add_zero, p_ty0, p_ty1, p_ty2, p_ty3, p_ty4, p_ty5, p_ty6, p_ty7, p_ty8, p_ty9, p_ty10, p_ty11, ty127, ty128, fy1, ty129, fy4, ty130, fy5, ty131, fy6, ty132, fy7, ty133, fy8, ty136, fy15, ty137, fy16, ty138, fy17, ty139, fy18, ty140, fy19, ty141, fy20, ty142, fy21, ty143, fy22, tybd, fy9, tylg, fy13, s1, s2, m9, r1, hsd, tio, gd_t, B_t, B_f]
      · rw [if_neg (fun z => c2 z.2), List.nil_append] at hl
        obtain ⟨T3, M3, F3, lg3, N3, r3, V3, S3, L3, j3, G3, C3⟩ := ih (c + 1) A T1 M1 F1 lg1 N1 (by omega) (by omega) V1 S1 (fun k k0 k1 => by rw [h136]; exact hmk k k0 k1) (hA.fr hio1) hl
        rw [if_neg (fun z => c2 z.2), List.nil_append]
        refine ⟨T3, M3, F3, lg3, N3, fun e he => ?_, V3, S3, L3, fun j a1 a2 a3 a4 => (j3 j a1 a2 a3 a4).trans (j1 j a1 a2 a3 a4), G1.tr G3, C1'.tr C3⟩
        have r1 := r1 e he
        have r3 := r3 e he
        have hsd := hsd e he
        rw [bI_f c2] at r1
        rw [← r3]
        have ty := hV.1
        obtain ⟨ty127, ty128, fy1, ty129, fy4, ty130, fy5, ty131, fy6, ty132, fy7, ty133, fy8, ty136, fy15, ty137, fy16, ty138, fy17, ty139, fy18, ty140, fy19, ty141, fy20, ty142, fy21, ty143, fy22, hbd, tybd, fy9, hlg, tylg, fy13, hN⟩ := ty
        have c3 : m_side (bb c) ≠ t := c1.2.2.2.2
        clear hV hS hmk hA ih V1 S1 C1 C1' mm r3 V3 S3 L3 j3 C3 c1 hP hb hu h20 hps h136 hio1 j1
        rw [x_X8_listAll_46]
        simp (disch := omega) only [x_X8_listAll_48, x_X8_listAll_50, x_X8_listAll_53, x_X8_listAll_54, x_X8_listAll_57, x_X8_listAll_59, x_X8_listAll_60, x_X8_listAll_63, x_X8_listAll_64, x_X8_listAll_67, x_X8_listAll_69, x_X8_listAll_70, x_X8_listAll_73, x_X8_listAll_74, x_X8_listAll_77, x_X8_listAll_80, x_X8_listAll_81, x_X8_listAll_82, x_X8_listAll_84, x_X8_listAll_87, x_X8_listAll_90, x_X8_listAll_93, x_X8_listAll_94, x_X8_listAll_95, x_X8_listAll_97, x_X8_listAll_98, x_X8_listAll_99, x_X8_listAll_101, x_X8_listAll_102, x_X8_listAll_103, x_X8_listAll_106, x_X8_listAll_109, List.length_cons, List.length_nil, Nat.reduceLeDiff, Nat.zero_add, iI_add, iI_sub, iI_mul, iI_neg, iI_lt, iI_le, iI_eq, jI_iI, B_True, B_False, B_t, B_f, ck_True, gd_True, cb_v, cb_n, p_mv_rw, p_fv_rw, p_rv_some, pA_1, pA_90, pA_92, pA_3, pA_2, pA_93, pA_4, pA_91, pA_95, pS_i, pW_i, pZ_0, pZ_1, pZ_b, bI_e0, u1_s, u1_n, uA_s, uA_n, true_and, and_true, not_true_eq_false, not_false_eq_true, eq_self, iI_z, al1, al2, al3, al4, al90, al91, al92, al93, al95, Int.cast_ofNat_Int, Nat.reduceAdd, Int.reduceNeg, Int.reduceAdd, Int.reduceSub, Int.reduceMul, Int.reduceLT, Int.reduceLE, Int.reduceGT, Int.reduceGE, Int.reduceEq, Int.reduceNe, Nat.reduceEqDiff, Int.zero_add, Int.add_zero, p_ty0, p_ty1, p_ty2, p_ty3, p_ty4, p_ty5, p_ty6, p_ty7, p_ty8, p_ty9, p_ty10, p_ty11, ty127, ty128, fy1, ty129, fy4, ty130, fy5, ty131, fy6, ty132, fy7, ty133, fy8, ty136, fy15, ty137, fy16, ty138, fy17, ty139, fy18, ty140, fy19, ty141, fy20, ty142, fy21, ty143, fy22, tybd, fy9, tylg, fy13, s1, s2, m9, r1, hsd, gd_t, B_t, B_f]
    · rw [if_neg (fun z => c1 z.1), List.nil_append] at hl
      obtain ⟨T3, M3, F3, lg3, N3, r3, V3, S3, L3, j3, G3, C3⟩ := ih (c + 1) A T M F lg N (by omega) (by omega) hV hS hmk hA hl
      rw [if_neg (fun z => c1 z.1), List.nil_append]
      refine ⟨T3, M3, F3, lg3, N3, fun e he => ?_, V3, S3, L3, j3, G3, C3⟩
      have r3 := r3 e he
      have hsd := hsd e he
      rw [← r3]
      have ty := hV.1
      obtain ⟨ty127, ty128, fy1, ty129, fy4, ty130, fy5, ty131, fy6, ty132, fy7, ty133, fy8, ty136, fy15, ty137, fy16, ty138, fy17, ty139, fy18, ty140, fy19, ty141, fy20, ty142, fy21, ty143, fy22, hbd, tybd, fy9, hlg, tylg, fy13, hN⟩ := ty
      by_cases c2 : MK bb pas its c
      · have c3 : m_side (bb c) = t := by
          refine Classical.byContradiction (fun z => c1 ⟨hi, hc91, hst, c2, z⟩)
        rw [bI_t c2] at m9
        clear hV hS hmk hA ih r3 V3 S3 L3 j3 C3 c1 hP hb hu h20 hps
        rw [x_X8_listAll_46]
        simp (disch := omega) only [x_X8_listAll_48, x_X8_listAll_50, x_X8_listAll_53, x_X8_listAll_54, x_X8_listAll_57, x_X8_listAll_59, x_X8_listAll_60, x_X8_listAll_63, x_X8_listAll_64, x_X8_listAll_67, x_X8_listAll_69, x_X8_listAll_70, x_X8_listAll_73, x_X8_listAll_74, x_X8_listAll_77, x_X8_listAll_80, x_X8_listAll_81, x_X8_listAll_82, x_X8_listAll_84, x_X8_listAll_87, x_X8_listAll_90, x_X8_listAll_93, x_X8_listAll_94, x_X8_listAll_95, x_X8_listAll_97, x_X8_listAll_98, x_X8_listAll_99, x_X8_listAll_101, x_X8_listAll_102, x_X8_listAll_103, x_X8_listAll_106, x_X8_listAll_109, List.length_cons, List.length_nil, Nat.reduceLeDiff, Nat.zero_add, iI_add, iI_sub, iI_mul, iI_neg, iI_lt, iI_le, iI_eq, jI_iI, B_True, B_False, B_t, B_f, ck_True, gd_True, cb_v, cb_n, p_mv_rw, p_fv_rw, p_rv_some, pA_1, pA_90, pA_92, pA_3, pA_2, pA_93, pA_4, pA_91, pA_95, pS_i, pW_i, pZ_0, pZ_1, pZ_b, bI_e0, u1_s, u1_n, uA_s, uA_n, true_and, and_true, not_true_eq_false, not_false_eq_true, eq_self, iI_z, al1, al2, al3, al4, al90, al91, al92, al93, al95, Int.cast_ofNat_Int, Nat.reduceAdd, Int.reduceNeg, Int.reduceAdd, Int.reduceSub, Int.reduceMul, Int.reduceLT, Int.reduceLE, Int.reduceGT, Int.reduceGE, Int.reduceEq, Int.reduceNe, Nat.reduceEqDiff, Int.zero_add, Int.add_zero, p_ty0, p_ty1, p_ty2, p_ty3, p_ty4, p_ty5, p_ty6, p_ty7, p_ty8, p_ty9, p_ty10, p_ty11, ty127, ty128, fy1, ty129, fy4, ty130, fy5, ty131, fy6, ty132, fy7, ty133, fy8, ty136, fy15, ty137, fy16, ty138, fy17, ty139, fy18, ty140, fy19, ty141, fy20, ty142, fy21, ty143, fy22, tybd, fy9, tylg, fy13, s1, s2, m9, hsd, c3, gd_t, B_t, B_f]
      · rw [bI_f c2] at m9
        clear hV hS hmk hA ih r3 V3 S3 L3 j3 C3 c1 hP hb hu h20 hps
        rw [x_X8_listAll_46]
        simp (disch := omega) only [x_X8_listAll_48, x_X8_listAll_50, x_X8_listAll_53, x_X8_listAll_54, x_X8_listAll_57, x_X8_listAll_59, x_X8_listAll_60, x_X8_listAll_63, x_X8_listAll_64, x_X8_listAll_67, x_X8_listAll_69, x_X8_listAll_70, x_X8_listAll_73, x_X8_listAll_74, x_X8_listAll_77, x_X8_listAll_80, x_X8_listAll_81, x_X8_listAll_82, x_X8_listAll_84, x_X8_listAll_87, x_X8_listAll_90, x_X8_listAll_93, x_X8_listAll_94, x_X8_listAll_95, x_X8_listAll_97, x_X8_listAll_98, x_X8_listAll_99, x_X8_listAll_101, x_X8_listAll_102, x_X8_listAll_103, x_X8_listAll_106, x_X8_listAll_109, List.length_cons, List.length_nil, Nat.reduceLeDiff, Nat.zero_add, iI_add, iI_sub, iI_mul, iI_neg, iI_lt, iI_le, iI_eq, jI_iI, B_True, B_False, B_t, B_f, ck_True, gd_True, cb_v, cb_n, p_mv_rw, p_fv_rw, p_rv_some, pA_1, pA_90, pA_92, pA_3, pA_2, pA_93, pA_4, pA_91, pA_95, pS_i, pW_i, pZ_0, pZ_1, pZ_b, bI_e0, u1_s, u1_n, uA_s, uA_n, true_and, and_true, not_true_eq_false, not_false_eq_true, eq_self, iI_z, al1, al2, al3, al4, al90, al91, al92, al93, al95, Int.cast_ofNat_Int, Nat.reduceAdd, Int.reduceNeg, Int.reduceAdd, Int.reduceSub, Int.reduceMul, Int.reduceLT, Int.reduceLE, Int.reduceGT, Int.reduceGE, Int.reduceEq, Int.reduceNe, Nat.reduceEqDiff, Int.zero_add, Int.add_zero, p_ty0, p_ty1, p_ty2, p_ty3, p_ty4, p_ty5, p_ty6, p_ty7, p_ty8, p_ty9, p_ty10, p_ty11, ty127, ty128, fy1, ty129, fy4, ty130, fy5, ty131, fy6, ty132, fy7, ty133, fy8, ty136, fy15, ty137, fy16, ty138, fy17, ty139, fy18, ty140, fy19, ty141, fy20, ty142, fy21, ty143, fy22, tybd, fy9, tylg, fy13, s1, s2, m9, hsd, gd_t, B_t, B_f]
theorem la_out (hio : io = 137 ∨ io = 138) (hP : SP bb t pas q) (hH : H.length < 614) (hk : m_king bb t ≠ -1) : ∀ (m : Nat) (i : Int) (A : List Int) (T : pT) (M : pM) (F : pF) (lg N : Nat), i + m = 91 → 0 ≤ i → YV T M F bd lg N H → YS M bd bb t pas q → LMy M io A → A.length + (lgL bb t pas m i).length ≤ 2000 →
    ∃ T' M' F' lg' N', (∀ e l4, 5 ≤ e → R e m_X8_listAll 13 [.val (.ref 127), .val (.ref io), .val (.int (iI (A.length : Int))), .val (.int (iI i)), l4] [] T M F = some (.inl (some (.int (iI ((A ++ lgL bb t pas m i).length : Int)))), T', M', F')) ∧ YV T' M' F' bd lg' N' H ∧ YS M' bd bb t pas q ∧ LMy M' io (A ++ lgL bb t pas m i) ∧ (∀ j, j ≠ 10 → j ≠ 11 → j ≠ 12 → j ≠ 14 → M' 127 j = M 127 j) ∧ GC N N' H.length ∧ YC (XL bd io) T M F lg N T' M' F' lg' N' := by
  obtain ⟨hb, hu, h20, ht, hps, hq⟩ := id hP
  have hpr := PS_rg hps
  intro m
  induction m with
  | zero =>
    intro i A T M F lg N hn h0 hV hS hA hl
    obtain rfl : i = 91 := by omega
    refine ⟨T, M, F, lg, N, fun e l4 he => ?_, hV, hS, ?_, fun _ _ _ _ _ => rfl, GC.rf, YC.rf⟩
    · rw [lgL, List.append_nil]
      clear hV hS hA hl hP hb hu h20 hps
      simp (disch := omega) only [x_X8_listAll_13, x_X8_listAll_14, x_X8_listAll_16, x_X8_listAll_118, x_X8_listAll_119, List.length_cons, List.length_nil, Nat.reduceLeDiff, Nat.zero_add, iI_add, iI_sub, iI_mul, iI_neg, iI_lt, iI_le, iI_eq, jI_iI, B_True, B_False, B_t, B_f, ck_True, gd_True, cb_v, cb_n, p_mv_rw, p_fv_rw, p_rv_some, pA_1, pA_90, pA_92, pA_3, pA_2, pA_93, pA_4, pA_91, pA_95, pS_i, pW_i, pZ_0, pZ_1, pZ_b, bI_e0, u1_s, u1_n, uA_s, uA_n, true_and, and_true, not_true_eq_false, not_false_eq_true, eq_self, iI_z, al1, al2, al3, al4, al90, al91, al92, al93, al95, Int.cast_ofNat_Int, Nat.reduceAdd, Int.reduceNeg, Int.reduceAdd, Int.reduceSub, Int.reduceMul, Int.reduceLT, Int.reduceLE, Int.reduceGT, Int.reduceGE, Int.reduceEq, Int.reduceNe, Nat.reduceEqDiff, Int.zero_add, Int.add_zero, p_ty0, p_ty1, p_ty2, p_ty3, p_ty4, p_ty5, p_ty6, p_ty7, p_ty8, p_ty9, p_ty10, p_ty11, B_t, B_f]
    · rw [lgL, List.append_nil]; exact hA
  | succ m ih =>
    intro i A T M F lg N hn h0 hV hS hA hl
    have hi91 : 0 ≤ i ∧ i < 91 := by omega
    have hbi := hb i
    have s1 := hS.2.1
    have s2 := hS.2.2.1
    have hsd := fun e (he : 5 ≤ e) => y_side (d := e) (T := T) (M := M) (F := F) (n := bb i) (by omega) (by omega)
    have hsr := m_side_rg (x := bb i) hbi
    obtain ⟨d0, d0', d1, d2, d3, d4⟩ := id hV.2.1
    rw [lgL] at hl ⊢
    by_cases c1 : m_side (bb i) = t
    · obtain ⟨M1, r1, k1, f1⟩ := y_mark hV.1 d0 hS hb ht hpr hi91 c1
      have V1 := hV.wr f1 (Or.inl rfl)
      have S1 := hS.wr hV.2.1 f1 (Or.inl rfl)
      rw [List.length_append, List.length_map] at hl
      obtain ⟨T2, M2, F2, lg2, N2, r2, V2, S2, L2, j2, G2, C2⟩ := la_in (bd := bd) hio hP hH hk hi91 c1 91 0 A T M1 F lg N (by omega) (by omega) V1 S1 k1 (hA.fr (f1 io (by omega))) (by unfold lgC at hl; omega)
      obtain ⟨T3, M3, F3, lg3, N3, r3, V3, S3, L3, j3, G3, C3⟩ := ih (i + 1) (A ++ (lgC bb t pas i).map (fun c => 91 * i + c)) T2 M2 F2 lg2 N2 (by omega) (by omega) V2 S2 L2 (by rw [List.length_append, List.length_map]; omega)
      rw [← List.append_assoc]
      refine ⟨T3, M3, F3, lg3, N3, fun e l4 he => ?_, V3, S3, L3, fun j a1 a2 a3 a4 => (j3 j a1 a2 a3 a4).trans ((j2 j a1 a2 a3 a4).trans (by rw [f1 127 (by omega)])), G2.tr G3, YC.tr (YC.wr (fun a ha => f1 a (fun z => ha (Or.inr (Or.inr (Or.inl z)))))) (C2.tr C3)⟩
      have r1 := r1 e (by omega)
      have r2 := r2 e he
      have r3 := r3 e (.val (.int (iI 91))) he
      have hsd := hsd e he
      rw [← r3]
      have ty := hV.1
      obtain ⟨ty127, ty128, fy1, ty129, fy4, ty130, fy5, ty131, fy6, ty132, fy7, ty133, fy8, ty136, fy15, ty137, fy16, ty138, fy17, ty139, fy18, ty140, fy19, ty141, fy20, ty142, fy21, ty143, fy22, hbd, tybd, fy9, hlg, tylg, fy13, hN⟩ := ty
      rw [x_X8_listAll_13]
      unfold lgC
      clear hV hS hA ih r3 V1 S1 V2 S2 L2 j2 C2 V3 S3 L3 j3 C3 hP hb hu h20 hps k1 f1 hl
      simp (disch := omega) only [x_X8_listAll_14, x_X8_listAll_16, x_X8_listAll_19, x_X8_listAll_20, x_X8_listAll_23, x_X8_listAll_24, x_X8_listAll_25, x_X8_listAll_28, x_X8_listAll_29, x_X8_listAll_32, x_X8_listAll_35, x_X8_listAll_38, x_X8_listAll_39, x_X8_listAll_40, x_X8_listAll_43, x_X8_listAll_44, List.length_cons, List.length_nil, Nat.reduceLeDiff, Nat.zero_add, iI_add, iI_sub, iI_mul, iI_neg, iI_lt, iI_le, iI_eq, jI_iI, B_True, B_False, B_t, B_f, ck_True, gd_True, cb_v, cb_n, p_mv_rw, p_fv_rw, p_rv_some, pA_1, pA_90, pA_92, pA_3, pA_2, pA_93, pA_4, pA_91, pA_95, pS_i, pW_i, pZ_0, pZ_1, pZ_b, bI_e0, u1_s, u1_n, uA_s, uA_n, true_and, and_true, not_true_eq_false, not_false_eq_true, eq_self, iI_z, al1, al2, al3, al4, al90, al91, al92, al93, al95, Int.cast_ofNat_Int, Nat.reduceAdd, Int.reduceNeg, Int.reduceAdd, Int.reduceSub, Int.reduceMul, Int.reduceLT, Int.reduceLE, Int.reduceGT, Int.reduceGE, Int.reduceEq, Int.reduceNe, Nat.reduceEqDiff, Int.zero_add, Int.add_zero, p_ty0, p_ty1, p_ty2, p_ty3, p_ty4, p_ty5, p_ty6, p_ty7, p_ty8, p_ty9, p_ty10, p_ty11, ty127, ty128, fy1, ty129, fy4, ty130, fy5, ty131, fy6, ty132, fy7, ty133, fy8, ty136, fy15, ty137, fy16, ty138, fy17, ty139, fy18, ty140, fy19, ty141, fy20, ty142, fy21, ty143, fy22, tybd, fy9, tylg, fy13, s1, s2, hsd, c1, r1, gd_t, B_t, B_f]
      rw [r2]
      simp (disch := omega) only [x_X8_listAll_112, x_X8_listAll_115, List.length_cons, List.length_nil, Nat.reduceLeDiff, Nat.zero_add, iI_add, iI_sub, iI_mul, iI_neg, iI_lt, iI_le, iI_eq, jI_iI, B_True, B_False, B_t, B_f, ck_True, gd_True, cb_v, cb_n, p_mv_rw, p_fv_rw, p_rv_some, pA_1, pA_90, pA_92, pA_3, pA_2, pA_93, pA_4, pA_91, pA_95, pS_i, pW_i, pZ_0, pZ_1, pZ_b, bI_e0, u1_s, u1_n, uA_s, uA_n, true_and, and_true, not_true_eq_false, not_false_eq_true, eq_self, iI_z, al1, al2, al3, al4, al90, al91, al92, al93, al95, Int.cast_ofNat_Int, Nat.reduceAdd, Int.reduceNeg, Int.reduceAdd, Int.reduceSub, Int.reduceMul, Int.reduceLT, Int.reduceLE, Int.reduceGT, Int.reduceGE, Int.reduceEq, Int.reduceNe, Nat.reduceEqDiff, Int.zero_add, Int.add_zero, p_ty0, p_ty1, p_ty2, p_ty3, p_ty4, p_ty5, p_ty6, p_ty7, p_ty8, p_ty9, p_ty10, p_ty11]
    · have hnil : lgC bb t pas i = [] := by
        refine List.eq_nil_iff_forall_not_mem.mpr (fun x hx => ?_)
        exact c1 ((flt_mem _ 91 0).mp hx).2.2.1.2.2.1
      rw [hnil, List.map_nil, List.nil_append] at hl ⊢
      obtain ⟨T3, M3, F3, lg3, N3, r3, V3, S3, L3, j3, G3, C3⟩ := ih (i + 1) A T M F lg N (by omega) (by omega) hV hS hA hl
      refine ⟨T3, M3, F3, lg3, N3, fun e l4 he => ?_, V3, S3, L3, j3, G3, C3⟩
      have r3 := fun l4 => r3 e l4 he
      have hsd := hsd e he
      have ty := hV.1
      obtain ⟨ty127, ty128, fy1, ty129, fy4, ty130, fy5, ty131, fy6, ty132, fy7, ty133, fy8, ty136, fy15, ty137, fy16, ty138, fy17, ty139, fy18, ty140, fy19, ty141, fy20, ty142, fy21, ty143, fy22, hbd, tybd, fy9, hlg, tylg, fy13, hN⟩ := ty
      rw [x_X8_listAll_13]
      clear hV hS hA ih V3 S3 L3 j3 C3 hP hb hu h20 hps hl hnil
      simp (disch := omega) only [x_X8_listAll_14, x_X8_listAll_16, x_X8_listAll_19, x_X8_listAll_20, x_X8_listAll_23, x_X8_listAll_24, x_X8_listAll_25, x_X8_listAll_28, x_X8_listAll_29, x_X8_listAll_32, x_X8_listAll_35, x_X8_listAll_112, x_X8_listAll_115, List.length_cons, List.length_nil, Nat.reduceLeDiff, Nat.zero_add, iI_add, iI_sub, iI_mul, iI_neg, iI_lt, iI_le, iI_eq, jI_iI, B_True, B_False, B_t, B_f, ck_True, gd_True, cb_v, cb_n, p_mv_rw, p_fv_rw, p_rv_some, pA_1, pA_90, pA_92, pA_3, pA_2, pA_93, pA_4, pA_91, pA_95, pS_i, pW_i, pZ_0, pZ_1, pZ_b, bI_e0, u1_s, u1_n, uA_s, uA_n, true_and, and_true, not_true_eq_false, not_false_eq_true, eq_self, iI_z, al1, al2, al3, al4, al90, al91, al92, al93, al95, Int.cast_ofNat_Int, Nat.reduceAdd, Int.reduceNeg, Int.reduceAdd, Int.reduceSub, Int.reduceMul, Int.reduceLT, Int.reduceLE, Int.reduceGT, Int.reduceGE, Int.reduceEq, Int.reduceNe, Nat.reduceEqDiff, Int.zero_add, Int.add_zero, p_ty0, p_ty1, p_ty2, p_ty3, p_ty4, p_ty5, p_ty6, p_ty7, p_ty8, p_ty9, p_ty10, p_ty11, ty127, ty128, fy1, ty129, fy4, ty130, fy5, ty131, fy6, ty132, fy7, ty133, fy8, ty136, fy15, ty137, fy16, ty138, fy17, ty139, fy18, ty140, fy19, ty141, fy20, ty142, fy21, ty143, fy22, tybd, fy9, tylg, fy13, s1, s2, hsd, c1, r3, gd_t, B_t, B_f]
end PLSA
