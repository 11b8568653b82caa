section PLST
variable {d s b n a r0 sd pc b' b1 bs Ln m : Nat} {T T0 T1 T2 T3 : pT} {M M0 M1 M2 M3 : pM} {F F0 F1 F2 F3 : pF} {k t i c p x y : Int} {tx ws : List Int} {bb : Int → Int}
/-- a piece is chosen -/
theorem li_pick (t29 : p_ty T 29 = (92, Ln)) (hL : Ln ≤ 1000) (hk : 0 ≤ k ∧ k < 11) {e : Nat} (he : 7 ≤ e) {l1 l2 l3 l4 l6 l7 l8 l9 : Slot} : ∃ (x : Int32) (sd pc : Nat) (c : Int), (sd < 2 ∧ (1 ≤ pc ∧ pc ≤ 6) ∧ (0 ≤ c ∧ c < 91) ∧ (pc = 1 → k < 2 ∧ k = sd) ∧ (k < 2 → pc = 1)) ∧ R e m_L_list 93 [.val (.ref 29), l1, l2, l3, l4, .val (.int (iI k)), l6, l7, l8, l9] [] T M F = R e m_L_list 220 [.val (.ref 29), l1, l2, l3, l4, .val (.int (iI k)), .val (.int x), .val (.int (iI (sd : Int))), .val (.int (iI (pc : Int))), .val (.int (iI c))] [] T M F := by
  obtain ⟨v, hv⟩ := z_Lcell (T := T) (M := M) (F := F) t29 hL (i := 2 + k) (by omega)
  have hv := hv e (by omega)
  have d1 : iI k / iI 12 = iI 0 := by rw [iI_div hk.1 (by omega) (by decide) (by decide), show k / 12 = 0 by omega]
  have d2 : k - 0 = k := by omega
  obtain ⟨x, hx⟩ : ∃ x : Int32, v >>> (iI 0 &&& 31) + iI (211 * k) = x := ⟨_, rfl⟩
  have b2 := z_below (d := e) (T := T) (M := M) (F := F) (x := x >>> (iI 2 &&& 31)) (n := 2) (by omega) (by omega)
  have b3 := z_below (d := e) (T := T) (M := M) (F := F) (x := x >>> (iI 3 &&& 31)) (n := 5) (by omega) (by omega)
  have b7 := z_below (d := e) (T := T) (M := M) (F := F) (x := x >>> (iI 7 &&& 31)) (n := 3) (by omega) (by omega)
  have b5 := z_below (d := e) (T := T) (M := M) (F := F) (x := x >>> (iI 5 &&& 31)) (n := 50) (by omega) (by omega)
  have b4 := z_below (d := e) (T := T) (M := M) (F := F) (x := x >>> (iI 4 &&& 31)) (n := 91) (by omega) (by omega)
  have r2 := bl_rg (x >>> (iI 2 &&& 31)) (n := 2) (by omega)
  have r3 := bl_rg (x >>> (iI 3 &&& 31)) (n := 5) (by omega)
  have r7 := bl_rg (x >>> (iI 7 &&& 31)) (n := 3) (by omega)
  have r5 := bl_rg (x >>> (iI 5 &&& 31)) (n := 50) (by omega)
  have r4 := bl_rg (x >>> (iI 4 &&& 31)) (n := 91) (by omega)
  generalize bl (x >>> (iI 2 &&& 31)) 2 = u2 at *
  generalize bl (x >>> (iI 3 &&& 31)) 5 = u3 at *
  generalize bl (x >>> (iI 7 &&& 31)) 3 = u7 at *
  generalize bl (x >>> (iI 5 &&& 31)) 50 = u5 at *
  generalize bl (x >>> (iI 4 &&& 31)) 91 = u4 at *
  by_cases c1 : k < 2
  · refine ⟨x, k.toNat, 1, u4, ⟨by omega, by omega, by omega, fun _ => by omega, fun _ => rfl⟩, ?_⟩
    rw [Int.toNat_of_nonneg hk.1, show ((1 : Nat) : Int) = 1 from rfl]
    simp (disch := omega) only [x_L_list_93, x_L_list_94, x_L_list_95, x_L_list_97, x_L_list_99, x_L_list_100, x_L_list_101, x_L_list_104, x_L_list_106, x_L_list_108, x_L_list_109, x_L_list_111, x_L_list_112, x_L_list_113, x_L_list_116, x_L_list_118, x_L_list_119, x_L_list_120, x_L_list_122, x_L_list_124, x_L_list_125, x_L_list_128, x_L_list_130, x_L_list_133, x_L_list_135, x_L_list_136, x_L_list_137, x_L_list_138, x_L_list_141, x_L_list_143, x_L_list_145, x_L_list_146, x_L_list_149, x_L_list_150, x_L_list_153, x_L_list_154, x_L_list_156, x_L_list_157, x_L_list_158, x_L_list_159, x_L_list_162, x_L_list_163, x_L_list_165, x_L_list_167, x_L_list_168, x_L_list_171, x_L_list_173, x_L_list_175, x_L_list_176, x_L_list_177, x_L_list_180, x_L_list_183, x_L_list_185, x_L_list_187, x_L_list_189, x_L_list_191, x_L_list_194, x_L_list_196, x_L_list_198, x_L_list_199, x_L_list_200, x_L_list_202, x_L_list_205, x_L_list_206, x_L_list_209, x_L_list_211, x_L_list_212, x_L_list_213, x_L_list_215, x_L_list_218, List.length_cons, List.length_nil, Nat.reduceLeDiff, Nat.zero_add, iI_add, iI_sub, iI_mul, iI_neg, iI_lt, iI_le, iI_eq, jI_iI, B_True, B_False, B_t, B_f, ck_True, gd_True, cb_v, cb_n, p_mv_rw, p_fv_rw, p_rv_some, pA_1, pA_90, pA_92, pA_3, pA_5, pA_93, pA_4, pA_91, pA_6, pS_i, pB_i, pW_i, pZ_0, pZ_1, pZ_b, bI_e0, u1_s, u1_n, uA_s, uA_n, true_and, and_true, not_true_eq_false, not_false_eq_true, eq_self, iI_z, al1, al5, al3, al4, al90, al91, al92, al93, al6, Int.cast_ofNat_Int, Nat.reduceAdd, Int.reduceNeg, Int.reduceAdd, Int.reduceSub, Int.reduceMul, Int.reduceLT, Int.reduceLE, Int.reduceGT, Int.reduceGE, Int.reduceEq, Int.reduceNe, Nat.reduceEqDiff, Int.zero_add, Int.add_zero, p_ty0, p_ty1, p_ty2, p_ty3, p_ty4, p_ty5, p_ty8, p_ty9, p_ty10, t29, hv, d1, d2, hx, b2, b3, b7, b5, b4, gd_t, ck_t, B_t, B_f]
  · by_cases c7 : u7 = 0
    · refine ⟨x, u2.toNat, 6, 20 + u5, ⟨by omega, by omega, by omega, fun z => by omega, fun z => by omega⟩, ?_⟩
      rw [Int.toNat_of_nonneg r2.1, show ((6 : Nat) : Int) = 6 from rfl]
      subst c7
      simp (disch := omega) only [x_L_list_93, x_L_list_94, x_L_list_95, x_L_list_97, x_L_list_99, x_L_list_100, x_L_list_101, x_L_list_104, x_L_list_106, x_L_list_108, x_L_list_109, x_L_list_111, x_L_list_112, x_L_list_113, x_L_list_116, x_L_list_118, x_L_list_119, x_L_list_120, x_L_list_122, x_L_list_124, x_L_list_125, x_L_list_128, x_L_list_130, x_L_list_133, x_L_list_135, x_L_list_136, x_L_list_137, x_L_list_138, x_L_list_141, x_L_list_143, x_L_list_145, x_L_list_146, x_L_list_149, x_L_list_150, x_L_list_153, x_L_list_154, x_L_list_156, x_L_list_157, x_L_list_158, x_L_list_159, x_L_list_162, x_L_list_163, x_L_list_165, x_L_list_167, x_L_list_168, x_L_list_171, x_L_list_173, x_L_list_175, x_L_list_176, x_L_list_177, x_L_list_180, x_L_list_183, x_L_list_185, x_L_list_187, x_L_list_189, x_L_list_191, x_L_list_194, x_L_list_196, x_L_list_198, x_L_list_199, x_L_list_200, x_L_list_202, x_L_list_205, x_L_list_206, x_L_list_209, x_L_list_211, x_L_list_212, x_L_list_213, x_L_list_215, x_L_list_218, List.length_cons, List.length_nil, Nat.reduceLeDiff, Nat.zero_add, iI_add, iI_sub, iI_mul, iI_neg, iI_lt, iI_le, iI_eq, jI_iI, B_True, B_False, B_t, B_f, ck_True, gd_True, cb_v, cb_n, p_mv_rw, p_fv_rw, p_rv_some, pA_1, pA_90, pA_92, pA_3, pA_5, pA_93, pA_4, pA_91, pA_6, pS_i, pB_i, pW_i, pZ_0, pZ_1, pZ_b, bI_e0, u1_s, u1_n, uA_s, uA_n, true_and, and_true, not_true_eq_false, not_false_eq_true, eq_self, iI_z, al1, al5, al3, al4, al90, al91, al92, al93, al6, Int.cast_ofNat_Int, Nat.reduceAdd, Int.reduceNeg, Int.reduceAdd, Int.reduceSub, Int.reduceMul, Int.reduceLT, Int.reduceLE, Int.reduceGT, Int.reduceGE, Int.reduceEq, Int.reduceNe, Nat.reduceEqDiff, Int.zero_add, Int.add_zero, p_ty0, p_ty1, p_ty2, p_ty3, p_ty4, p_ty5, p_ty8, p_ty9, p_ty10, t29, hv, d1, d2, hx, b2, b3, b7, b5, b4, gd_t, ck_t, B_t, B_f]
    · by_cases c6 : u3 = 4
      · refine ⟨x, u2.toNat, 6, 20 + u5, ⟨by omega, by omega, by omega, fun z => by omega, fun z => by omega⟩, ?_⟩
        rw [Int.toNat_of_nonneg r2.1, show ((6 : Nat) : Int) = 6 from rfl]
        subst c6
        simp (disch := omega) only [x_L_list_93, x_L_list_94, x_L_list_95, x_L_list_97, x_L_list_99, x_L_list_100, x_L_list_101, x_L_list_104, x_L_list_106, x_L_list_108, x_L_list_109, x_L_list_111, x_L_list_112, x_L_list_113, x_L_list_116, x_L_list_118, x_L_list_119, x_L_list_120, x_L_list_122, x_L_list_124, x_L_list_125, x_L_list_128, x_L_list_130, x_L_list_133, x_L_list_135, x_L_list_136, x_L_list_137, x_L_list_138, x_L_list_141, x_L_list_143, x_L_list_145, x_L_list_146, x_L_list_149, x_L_list_150, x_L_list_153, x_L_list_154, x_L_list_156, x_L_list_157, x_L_list_158, x_L_list_159, x_L_list_162, x_L_list_163, x_L_list_165, x_L_list_167, x_L_list_168, x_L_list_171, x_L_list_173, x_L_list_175, x_L_list_176, x_L_list_177, x_L_list_180, x_L_list_183, x_L_list_185, x_L_list_187, x_L_list_189, x_L_list_191, x_L_list_194, x_L_list_196, x_L_list_198, x_L_list_199, x_L_list_200, x_L_list_202, x_L_list_205, x_L_list_206, x_L_list_209, x_L_list_211, x_L_list_212, x_L_list_213, x_L_list_215, x_L_list_218, List.length_cons, List.length_nil, Nat.reduceLeDiff, Nat.zero_add, iI_add, iI_sub, iI_mul, iI_neg, iI_lt, iI_le, iI_eq, jI_iI, B_True, B_False, B_t, B_f, ck_True, gd_True, cb_v, cb_n, p_mv_rw, p_fv_rw, p_rv_some, pA_1, pA_90, pA_92, pA_3, pA_5, pA_93, pA_4, pA_91, pA_6, pS_i, pB_i, pW_i, pZ_0, pZ_1, pZ_b, bI_e0, u1_s, u1_n, uA_s, uA_n, true_and, and_true, not_true_eq_false, not_false_eq_true, eq_self, iI_z, al1, al5, al3, al4, al90, al91, al92, al93, al6, Int.cast_ofNat_Int, Nat.reduceAdd, Int.reduceNeg, Int.reduceAdd, Int.reduceSub, Int.reduceMul, Int.reduceLT, Int.reduceLE, Int.reduceGT, Int.reduceGE, Int.reduceEq, Int.reduceNe, Nat.reduceEqDiff, Int.zero_add, Int.add_zero, p_ty0, p_ty1, p_ty2, p_ty3, p_ty4, p_ty5, p_ty8, p_ty9, p_ty10, t29, hv, d1, d2, hx, b2, b3, b7, b5, b4, gd_t, ck_t, B_t, B_f]
      · refine ⟨x, u2.toNat, (2 + u3).toNat, u4, ⟨by omega, by omega, by omega, fun z => by omega, fun z => by omega⟩, ?_⟩
        rw [Int.toNat_of_nonneg r2.1, Int.toNat_of_nonneg (by omega)]
        simp (disch := omega) only [x_L_list_93, x_L_list_94, x_L_list_95, x_L_list_97, x_L_list_99, x_L_list_100, x_L_list_101, x_L_list_104, x_L_list_106, x_L_list_108, x_L_list_109, x_L_list_111, x_L_list_112, x_L_list_113, x_L_list_116, x_L_list_118, x_L_list_119, x_L_list_120, x_L_list_122, x_L_list_124, x_L_list_125, x_L_list_128, x_L_list_130, x_L_list_133, x_L_list_135, x_L_list_136, x_L_list_137, x_L_list_138, x_L_list_141, x_L_list_143, x_L_list_145, x_L_list_146, x_L_list_149, x_L_list_150, x_L_list_153, x_L_list_154, x_L_list_156, x_L_list_157, x_L_list_158, x_L_list_159, x_L_list_162, x_L_list_163, x_L_list_165, x_L_list_167, x_L_list_168, x_L_list_171, x_L_list_173, x_L_list_175, x_L_list_176, x_L_list_177, x_L_list_180, x_L_list_183, x_L_list_185, x_L_list_187, x_L_list_189, x_L_list_191, x_L_list_194, x_L_list_196, x_L_list_198, x_L_list_199, x_L_list_200, x_L_list_202, x_L_list_205, x_L_list_206, x_L_list_209, x_L_list_211, x_L_list_212, x_L_list_213, x_L_list_215, x_L_list_218, List.length_cons, List.length_nil, Nat.reduceLeDiff, Nat.zero_add, iI_add, iI_sub, iI_mul, iI_neg, iI_lt, iI_le, iI_eq, jI_iI, B_True, B_False, B_t, B_f, ck_True, gd_True, cb_v, cb_n, p_mv_rw, p_fv_rw, p_rv_some, pA_1, pA_90, pA_92, pA_3, pA_5, pA_93, pA_4, pA_91, pA_6, pS_i, pB_i, pW_i, pZ_0, pZ_1, pZ_b, bI_e0, u1_s, u1_n, uA_s, uA_n, true_and, and_true, not_true_eq_false, not_false_eq_true, eq_self, iI_z, al1, al5, al3, al4, al90, al91, al92, al93, al6, Int.cast_ofNat_Int, Nat.reduceAdd, Int.reduceNeg, Int.reduceAdd, Int.reduceSub, Int.reduceMul, Int.reduceLT, Int.reduceLE, Int.reduceGT, Int.reduceGE, Int.reduceEq, Int.reduceNe, Nat.reduceEqDiff, Int.zero_add, Int.add_zero, p_ty0, p_ty1, p_ty2, p_ty3, p_ty4, p_ty5, p_ty8, p_ty9, p_ty10, t29, hv, d1, d2, hx, b2, b3, b7, b5, b4, gd_t, ck_t, B_t, B_f]
/-- where the loop stands -/
def LVs (T0 : pT) (M0 : pM) (F0 : pF) (a b0 r0 s bs Ln : Nat) (T : pT) (M : pM) (F : pF) (b n : Nat) (tx : List Int) (bb : Int → Int) (m : Nat) (k : Int) : Prop :=
  SBo T M F a b n tx ∧ NMs T F r0 ∧ (SI T F s bs ∧ SM M s bs bb 0 (-1) 0 0) ∧ ((T0.1.1 ≤ r0 ∧ r0 < T.1.1) ∧ (T0.1.1 ≤ s ∧ s < T.1.1) ∧ (T0.1.1 ≤ bs ∧ bs < T.1.1) ∧ (r0 ≠ b ∧ s ≠ b ∧ bs ≠ b) ∧ r0 ≠ s ∧ r0 ≠ bs) ∧
  TQ tx z_new (bb, 0, -1, 0, []) m ∧ ((m : Int) ≤ 5 * k ∧ (tx.length : Int) ≤ 21 * k) ∧ (∀ x ∈ tx, 0 ≤ x ∧ x < 128) ∧ (∀ x, tx.head? = some x → x ≠ 32 ∧ x ≠ 10) ∧ p_ty T 29 = (92, Ln) ∧
  (∀ q : Int, (q = 0 ∨ q = 1) → sm (a_pc bb q) 91 ≤ k) ∧ ((k = 0 → ∀ c, bb c = 0) ∧ (k ≤ 1 → ∀ c, bb c ≠ 11)) ∧ AK T0 M0 F0 a b0 T M F b
theorem ln_hd {sd pc : Nat} {c : Int} : (lnT sd pc c).head? = some 112 := rfl
theorem ln_ch (hs : sd < 2) (hp : 1 ≤ pc ∧ pc ≤ 6) (hc : 0 ≤ c ∧ c < 91) : ((lnT sd pc c).length ≤ 21) ∧ ∀ x ∈ lnT sd pc c, 0 ≤ x ∧ x < 128 := by
  obtain ⟨p1, p2, p3, p3', p4⟩ := pc_ok hp
  obtain ⟨s1, s2, s3, s4⟩ := sd_ok hs
  obtain ⟨n1, n2, n3, n4, n5, n6⟩ := nm_ok hc
  have hpw := ((SW.k (6 + pc) (by omega)).f (T := ((0, 0), fun _ => (0, 0))) (M := fun _ _ => 0) (F := fun _ _ => none)).2.2.2.2.2
  have hsw := ((SW.k (5 + sd) (by omega)).f (T := ((0, 0), fun _ => (0, 0))) (M := fun _ _ => 0) (F := fun _ _ => none)).2.2.2.2.2
  rw [show 64 + (6 + pc) = 70 + pc by omega] at hpw
  rw [show 64 + (5 + sd) = 69 + sd by omega] at hsw
  constructor
  · unfold lnT
    simp only [List.length_append, List.length_cons, List.length_nil, s3, show (p_roL 65).length = 3 from rfl]
    omega
  · unfold lnT
    intro x hx
    simp only [List.mem_append, List.mem_cons] at hx
    rcases hx with hx | rfl | hx | rfl | hx | rfl | hx | rfl | hx
    · have : ∀ x ∈ p_roL 65, 0 ≤ x ∧ x < 128 := by decide
      exact this x hx
    · decide
    · exact hsw x hx
    · decide
    · exact hpw x hx
    · decide
    · have := n6 x hx; omega
    · decide
    · exact absurd hx List.not_mem_nil
theorem li_step {b0 : Nat} (h0 : 100 ≤ T0.1.1) (ha0 : a < T0.1.1) (hL : Ln ≤ 1000) (hk : 0 ≤ k ∧ k < 11) {tx : List Int} (h : LVs T0 M0 F0 a b0 r0 s bs Ln T M F b n tx bb m k) {e : Nat} (he : 7 ≤ e) {many : Int} (hmn : k < many ∧ many ≤ 11) {l6 l7 l8 l9 : Slot} :
    ∃ T1 M1 F1 b1 n1 tx1 bb1 m1 k6 k7 k8 k9, R e m_L_list 86 [.val (.ref 29), .val (.ref a), .val (.ref r0), .val (.ref s), .val (.int (iI many)), .val (.int (iI k)), l6, l7, l8, l9] [] T M F = R e m_L_list 86 [.val (.ref 29), .val (.ref a), .val (.ref r0), .val (.ref s), .val (.int (iI many)), .val (.int (iI (k + 1))), k6, k7, k8, k9] [] T1 M1 F1 ∧ LVs T0 M0 F0 a b0 r0 s bs Ln T1 M1 F1 b1 n1 tx1 bb1 m1 (k + 1) ∧ T1.1.1 ≤ T.1.1 + 16 ∧ T1.1.2 ≤ T.1.2 + 3700 := by
  obtain ⟨hB, hN, ⟨hI, hS⟩, ⟨c1, c2, c3, c4, c5, c6⟩, hT, ⟨hm, hl⟩, hch, hhd, t29, hpc, ⟨hk0, hk1⟩, hAK⟩ := id h
  have hp := hB.pl
  obtain ⟨x, sd, pc, c, ⟨q1, q2, q3, q4, q5⟩, e1⟩ := li_pick (M := M) (F := F) t29 hL hk he (l1 := .val (.ref a)) (l2 := .val (.ref r0)) (l3 := .val (.ref s)) (l4 := .val (.int (iI many))) (l6 := l6) (l7 := l7) (l8 := l8) (l9 := l9)
  have e0 : R e m_L_list 86 [.val (.ref 29), .val (.ref a), .val (.ref r0), .val (.ref s), .val (.int (iI many)), .val (.int (iI k)), l6, l7, l8, l9] [] T M F = R e m_L_list 93 [.val (.ref 29), .val (.ref a), .val (.ref r0), .val (.ref s), .val (.int (iI many)), .val (.int (iI k)), l6, l7, l8, l9] [] T M F := by
    clear e1
    simp (disch := omega) only [x_L_list_86, x_L_list_88, x_L_list_90, List.length_cons, List.length_nil, Nat.reduceLeDiff, Nat.zero_add, iI_add, iI_sub, iI_mul, iI_neg, iI_lt, iI_le, iI_eq, jI_iI, B_True, B_False, B_t, B_f, ck_True, gd_True, cb_v, cb_n, p_mv_rw, p_fv_rw, p_rv_some, pA_1, pA_90, pA_92, pA_3, pA_5, pA_93, pA_4, pA_91, pA_6, pS_i, pB_i, pW_i, pZ_0, pZ_1, pZ_b, bI_e0, u1_s, u1_n, uA_s, uA_n, true_and, and_true, not_true_eq_false, not_false_eq_true, eq_self, iI_z, al1, al5, al3, al4, al90, al91, al92, al93, al6, Int.cast_ofNat_Int, Nat.reduceAdd, Int.reduceNeg, Int.reduceAdd, Int.reduceSub, Int.reduceMul, Int.reduceLT, Int.reduceLE, Int.reduceGT, Int.reduceGE, Int.reduceEq, Int.reduceNe, Nat.reduceEqDiff, Int.zero_add, Int.add_zero, p_ty0, p_ty1, p_ty2, p_ty3, p_ty4, p_ty5, p_ty8, p_ty9, p_ty10, B_t, B_f]
  have pl := fun M => z_placeOf (d := e) (T := T) (M := M) (F := F) q3 (by omega)
  have kp := (c1_pl1 q3).2.1
  have vk := hS.1.1.at q3
  have sk := sv_f hS.1.2 c
  obtain ⟨i0, i1, i2, i3, i4, i5⟩ := id hI
  by_cases cz : bb c = 0
  · have vz : sv (bb c) = 0 := sk.1.mpr cz
    rw [vz] at vk
    -- the piece is put
    have hsv : sv (10 * (sd : Int) + pc) = if sd = 0 then (pc : Int) else -pc := by
      unfold sv
      have : sd = 0 ∨ sd = 1 := by omega
      rcases this with rfl | rfl
      · rw [if_neg (by omega), if_pos rfl]; omega
      · rw [if_pos (by omega), if_neg (by decide)]; omega
    have e2 : R e m_L_list 220 [.val (.ref 29), .val (.ref a), .val (.ref r0), .val (.ref s), .val (.int (iI many)), .val (.int (iI k)), .val (.int x), .val (.int (iI (sd : Int))), .val (.int (iI (pc : Int))), .val (.int (iI c))] [] T M F = R e m_L_list 259 [.val (.ref 29), .val (.ref a), .val (.ref r0), .val (.ref s), .val (.int (iI many)), .val (.int (iI k)), .val (.int x), .val (.int (iI (sd : Int))), .val (.int (iI (pc : Int))), .val (.int (iI c))] [] T (uA M bs (u1 (M bs) (pl1 c) (sv (10 * (sd : Int) + pc)))) F := by
      rw [hsv]
      clear e0 e1 h hI hS hB hT hAK
      generalize pl1 c = p at *
      have : sd = 0 ∨ sd = 1 := by omega
      rcases this with rfl | rfl
      · rw [if_pos rfl]
        simp (disch := omega) only [x_L_list_220, x_L_list_221, x_L_list_224, x_L_list_226, x_L_list_229, x_L_list_230, x_L_list_233, x_L_list_236, x_L_list_237, x_L_list_240, x_L_list_242, x_L_list_245, x_L_list_247, x_L_list_250, x_L_list_252, x_L_list_255, x_L_list_257, x_L_list_258, List.length_cons, List.length_nil, Nat.reduceLeDiff, Nat.zero_add, iI_add, iI_sub, iI_mul, iI_neg, iI_lt, iI_le, iI_eq, jI_iI, B_True, B_False, B_t, B_f, ck_True, gd_True, cb_v, cb_n, p_mv_rw, p_fv_rw, p_rv_some, pA_1, pA_90, pA_92, pA_3, pA_5, pA_93, pA_4, pA_91, pA_6, pS_i, pB_i, pW_i, pZ_0, pZ_1, pZ_b, bI_e0, u1_s, u1_n, uA_s, uA_n, true_and, and_true, not_true_eq_false, not_false_eq_true, eq_self, iI_z, al1, al5, al3, al4, al90, al91, al92, al93, al6, Int.cast_ofNat_Int, Nat.reduceAdd, Int.reduceNeg, Int.reduceAdd, Int.reduceSub, Int.reduceMul, Int.reduceLT, Int.reduceLE, Int.reduceGT, Int.reduceGE, Int.reduceEq, Int.reduceNe, Nat.reduceEqDiff, Int.zero_add, Int.add_zero, p_ty0, p_ty1, p_ty2, p_ty3, p_ty4, p_ty5, p_ty8, p_ty9, p_ty10, pl, vk, i0, i1, i2, i3, i4, gd_t, ck_t, B_t, B_f]
      · rw [if_neg (by decide)]
        simp (disch := omega) only [x_L_list_220, x_L_list_221, x_L_list_224, x_L_list_226, x_L_list_229, x_L_list_230, x_L_list_233, x_L_list_236, x_L_list_237, x_L_list_240, x_L_list_242, x_L_list_245, x_L_list_247, x_L_list_250, x_L_list_252, x_L_list_255, x_L_list_257, x_L_list_258, List.length_cons, List.length_nil, Nat.reduceLeDiff, Nat.zero_add, iI_add, iI_sub, iI_mul, iI_neg, iI_lt, iI_le, iI_eq, jI_iI, B_True, B_False, B_t, B_f, ck_True, gd_True, cb_v, cb_n, p_mv_rw, p_fv_rw, p_rv_some, pA_1, pA_90, pA_92, pA_3, pA_5, pA_93, pA_4, pA_91, pA_6, pS_i, pB_i, pW_i, pZ_0, pZ_1, pZ_b, bI_e0, u1_s, u1_n, uA_s, uA_n, true_and, and_true, not_true_eq_false, not_false_eq_true, eq_self, iI_z, al1, al5, al3, al4, al90, al91, al92, al93, al6, Int.cast_ofNat_Int, Nat.reduceAdd, Int.reduceNeg, Int.reduceAdd, Int.reduceSub, Int.reduceMul, Int.reduceLT, Int.reduceLE, Int.reduceGT, Int.reduceGE, Int.reduceEq, Int.reduceNe, Nat.reduceEqDiff, Int.zero_add, Int.add_zero, p_ty0, p_ty1, p_ty2, p_ty3, p_ty4, p_ty5, p_ty8, p_ty9, p_ty10, pl, vk, i0, i1, i2, i3, i4, gd_t, ck_t, B_t, B_f]
    have hB2 : SBo T (uA M bs (u1 (M bs) (pl1 c) (sv (10 * (sd : Int) + pc)))) F a b n tx := hB.kp s_mono.rf (uA_n (by omega)) (uA_n (by omega)) rfl
    obtain ⟨T1, M1, F1, b1, n1, e3, B3, K3, g1, g2⟩ := le_line (by omega) hB2 hN ⟨by omega, by omega, by omega⟩ q1 q2 q3 (by omega) (l0 := .val (.ref 29)) (l3 := .val (.ref s)) (l4 := .val (.int (iI many))) (l5 := .val (.int (iI k))) (l6 := .val (.int x))
    have hmb : MB (u1 bb c (10 * (sd : Int) + pc)) := by
      intro j
      by_cases z : j = c
      · rw [z, u1_s]; omega
      · rw [u1_n z]; exact hS.1.2 j
    have ks : M1 s = M s := by rw [(K3.2.1 s (by omega) (by omega) (by omega)).1, uA_n (by omega)]
    have kbs : M1 bs = u1 (M bs) (pl1 c) (sv (10 * (sd : Int) + pc)) := by rw [(K3.2.1 bs (by omega) (by omega) (by omega)).1, uA_s]
    have hK0 : AK T0 M0 F0 a b0 T1 M1 F1 b1 := by
      have g0 := hAK.1.1
      refine ⟨hAK.1.tr K3.1, fun z z0 z1 z2 => ?_, ?_⟩
      · have y1 := hAK.2.1 z z0 z1 z2
        have y2 := K3.2.1 z (by omega) z1 (by have := hAK.2.2; omega)
        exact ⟨by rw [y2.1, uA_n (by omega)]; exact y1.1, y2.2.trans y1.2⟩
      · have := hAK.2.2
        have := K3.2.2
        omega
    obtain ⟨lch, lcc⟩ := ln_ch q1 q2 q3
    refine ⟨T1, M1, F1, b1, n1, tx ++ lnT sd pc c, u1 bb c (10 * (sd : Int) + pc), m + 5, .val (.int x), .val (.int (iI (sd : Int))), .val (.int (iI (pc : Int))), .val (.int (iI c)), ?_, ⟨B3, ⟨hN.1, (K3.1.2.2 r0 (by omega)).trans hN.2.1, fun i hi => by rw [(K3.2.1 r0 (by omega) (by omega) (by omega)).2]; exact hN.2.2 i hi⟩, ⟨⟨i0, (K3.1.2.2 s (by omega)).trans i1, by rw [(K3.2.1 s (by omega) (by omega) (by omega)).2]; exact i2, i3, (K3.1.2.2 bs (by omega)).trans i4, i5⟩, ?_⟩, ?_, ?_, ?_, ?_, ?_, (K3.1.2.2 29 (by omega)).trans t29, ?_, ⟨fun z => by omega, fun z => ?_⟩, hK0⟩, g1, g2⟩
    · rw [e0, e1, e2, e3 e he]
      clear e0 e1 e2 e3 h hI hS hB hT hAK hB2 K3 B3 hK0
      simp (disch := omega) only [x_L_list_308, x_L_list_311, List.length_cons, List.length_nil, Nat.reduceLeDiff, Nat.zero_add, iI_add, iI_sub, iI_mul, iI_neg, iI_lt, iI_le, iI_eq, jI_iI, B_True, B_False, B_t, B_f, ck_True, gd_True, cb_v, cb_n, p_mv_rw, p_fv_rw, p_rv_some, pA_1, pA_90, pA_92, pA_3, pA_5, pA_93, pA_4, pA_91, pA_6, pS_i, pB_i, pW_i, pZ_0, pZ_1, pZ_b, bI_e0, u1_s, u1_n, uA_s, uA_n, true_and, and_true, not_true_eq_false, not_false_eq_true, eq_self, iI_z, al1, al5, al3, al4, al90, al91, al92, al93, al6, Int.cast_ofNat_Int, Nat.reduceAdd, Int.reduceNeg, Int.reduceAdd, Int.reduceSub, Int.reduceMul, Int.reduceLT, Int.reduceLE, Int.reduceGT, Int.reduceGE, Int.reduceEq, Int.reduceNe, Nat.reduceEqDiff, Int.zero_add, Int.add_zero, p_ty0, p_ty1, p_ty2, p_ty3, p_ty4, p_ty5, p_ty8, p_ty9, p_ty10, B_t, B_f]
    · obtain ⟨⟨z1, z2⟩, z3⟩ := hS
      refine ⟨⟨by rw [kbs]; exact z1.set q3, hmb⟩, ?_⟩
      rw [ks]; exact z3
    · have := K3.1.1
      have := K3.2.2
      omega
    · refine hT.app (TQ.put q1 q2 q3 ?_ ?_ cz) (fun x hx => ?_)
      · have := hpc (sd : Int) (by omega); omega
      · intro z
        obtain ⟨y1, y2⟩ := q4 z
        rcases m_king_rg bb (sd : Int) with w | ⟨w1, w2, w3⟩
        · exact w
        · exfalso
          have : sd = 0 ∨ sd = 1 := by omega
          rcases this with rfl | rfl
          · have := hk0 (by omega) (m_king bb ((0 : Nat) : Int)); omega
          · exact hk1 (by omega) _ w3
      · rw [ln_hd] at hx; cases hx; decide
    · rw [List.length_append]; omega
    · intro x hx
      rcases List.mem_append.mp hx with hx | hx
      · exact hch x hx
      · exact lcc x hx
    · intro x hx
      cases tx with
      | nil => rw [List.nil_append, ln_hd] at hx; cases hx; decide
      | cons y tx => exact hhd x hx
    · intro q hq
      rw [pc_u1 q3]
      have h1 := hpc q hq
      have h2 := bI_rg (m_side (10 * (sd : Int) + pc) = q)
      have h3 := bI_rg (m_side (bb c) = q)
      have h4 : a_pc bb q c = bI (m_side (bb c) = q) := rfl
      omega
    · intro c'
      have y0 : k = 0 := by omega
      by_cases z1 : c' = c
      · rw [z1, u1_s]
        have w := q5 (by omega)
        have := q4 w
        omega
      · rw [u1_n z1, hk0 y0]; decide
  · have vz : sv (bb c) ≠ 0 := fun z => cz (sk.1.mp z)
    refine ⟨T, M, F, b, n, tx, bb, m, .val (.int x), .val (.int (iI (sd : Int))), .val (.int (iI (pc : Int))), .val (.int (iI c)), ?_, ⟨hB, hN, ⟨hI, hS⟩, ⟨c1, c2, c3, c4, c5, c6⟩, hT, ⟨by omega, by omega⟩, hch, hhd, t29, fun q hq => by have := hpc q hq; omega, ⟨fun z => by omega, fun z => hk1 (by omega)⟩, hAK⟩, by omega, by omega⟩
    rw [e0, e1]
    have sr := sk.2.1
    clear e0 e1 h hI hS hB hT hAK
    generalize pl1 c = p at *
    generalize sv (bb c) = v at *
    simp (disch := omega) only [x_L_list_220, x_L_list_221, x_L_list_224, x_L_list_226, x_L_list_229, x_L_list_230, x_L_list_233, x_L_list_308, x_L_list_311, List.length_cons, List.length_nil, Nat.reduceLeDiff, Nat.zero_add, iI_add, iI_sub, iI_mul, iI_neg, iI_lt, iI_le, iI_eq, jI_iI, B_True, B_False, B_t, B_f, ck_True, gd_True, cb_v, cb_n, p_mv_rw, p_fv_rw, p_rv_some, pA_1, pA_90, pA_92, pA_3, pA_5, pA_93, pA_4, pA_91, pA_6, pS_i, pB_i, pW_i, pZ_0, pZ_1, pZ_b, bI_e0, u1_s, u1_n, uA_s, uA_n, true_and, and_true, not_true_eq_false, not_false_eq_true, eq_self, iI_z, al1, al5, al3, al4, al90, al91, al92, al93, al6, Int.cast_ofNat_Int, Nat.reduceAdd, Int.reduceNeg, Int.reduceAdd, Int.reduceSub, Int.reduceMul, Int.reduceLT, Int.reduceLE, Int.reduceGT, Int.reduceGE, Int.reduceEq, Int.reduceNe, Nat.reduceEqDiff, Int.zero_add, Int.add_zero, p_ty0, p_ty1, p_ty2, p_ty3, p_ty4, p_ty5, p_ty8, p_ty9, p_ty10, pl, vk, i0, i1, i2, i3, i4, gd_t, ck_t, B_t, B_f]
end PLST
