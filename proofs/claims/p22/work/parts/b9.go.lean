section PSGO
variable {d s b n : Nat} {T T1 : pT} {M M1 : pM} {F F1 : pF} {bb : Int → Int} {k t pas q its to as i c p x y X Y mv side f g u : Int}
theorem mk_bb_at : mk_bb bb pas its to as k = if k = to then mk_th bb its to as else if k = its then 0 else if k = mk_pl bb pas its to then 0 else bb k := by
  unfold mk_bb u1
  rfl
theorem MB.mk (hb : MB bb) (ht : t = 0 ∨ t = 1) (h : MV bb t pas its to) (has : 2 ≤ as ∧ as ≤ 5) : MB (mk_bb bb pas its to as) := by
  intro k
  rw [mk_bb_at]
  have h1 := (mk_th_v hb ht h has).1
  unfold VX at h1
  have := hb k
  split
  · omega
  · split
    · omega
    · split <;> omega
theorem UK.mk (hu : UK bb) (hb : MB bb) (ht : t = 0 ∨ t = 1) (h : MV bb t pas its to) (has : 2 ≤ as ∧ as ≤ 5) : UK (mk_bb bb pas its to as) := by
  have hth := (mk_th_v hb ht h has).2.2
  intro s hs k c k0 k1 c0 c1 e1 e2
  rw [mk_bb_at] at e1 e2
  by_cases a1 : k = to
  · by_cases a2 : c = to
    · omega
    · rw [if_pos a1] at e1
      rw [if_neg a2] at e2
      by_cases a3 : c = its
      · rw [if_pos a3] at e2; omega
      · rw [if_neg a3] at e2
        by_cases a4 : c = mk_pl bb pas its to
        · rw [if_pos a4] at e2; omega
        · rw [if_neg a4] at e2
          exact absurd (hu s hs c its c0 c1 h.1.1 h.1.2 e2 (hth s hs e1)) a3
  · rw [if_neg a1] at e1
    by_cases a5 : k = its
    · rw [if_pos a5] at e1; omega
    · rw [if_neg a5] at e1
      by_cases a6 : k = mk_pl bb pas its to
      · rw [if_pos a6] at e1; omega
      · rw [if_neg a6] at e1
        by_cases a2 : c = to
        · rw [if_pos a2] at e2
          exact absurd (hu s hs k its k0 k1 h.1.1 h.1.2 e1 (hth s hs e2)) a5
        · rw [if_neg a2] at e2
          by_cases a3 : c = its
          · rw [if_pos a3] at e2; omega
          · rw [if_neg a3] at e2
            by_cases a4 : c = mk_pl bb pas its to
            · rw [if_pos a4] at e2; omega
            · rw [if_neg a4] at e2
              exact hu s hs k c k0 k1 c0 c1 e1 e2
theorem SB1.set {v : Int → Int} (h : SB1 v bb) (hk : 0 ≤ k ∧ k < 91) : SB1 (u1 v (pl1 k) (sv x)) (u1 bb k x) := by
  intro p hp
  have hk1 := c1_pl1 hk
  have h1 := h p hp
  unfold u1
  by_cases c : p = pl1 k
  · rw [if_pos c, c, hk1.1.1, if_neg (by omega), if_pos rfl]
  · rw [if_neg c, h1]
    by_cases c2 : c1 p = -1
    · rw [if_pos c2, if_pos c2]
    · rw [if_neg c2, if_neg c2]
      have := (pl1_c1 hp).resolve_left c2
      rw [if_neg (fun z => c (by rw [← this.2, z]))]
/-- what the simulation's go leaves -/
def goM (M : pM) (s b : Nat) (at1 pt pk w zp zq t1 m1 : Int) : pM :=
  uA (uA (uA (uA (uA M b (u1 (u1 (u1 (M b) at1 0) pt w) pk 0)) s (u1 (M s) 2 zp)) s (u1 (u1 (M s) 2 zp) 3 zq)) s (u1 (u1 (u1 (M s) 2 zp) 3 zq) 1 t1)) s (u1 (u1 (u1 (u1 (M s) 2 zp) 3 zq) 1 t1) 4 m1)
theorem goM_b {at1 pt pk w zp zq t1 m1 : Int} (h : s ≠ b) : goM M s b at1 pt pk w zp zq t1 m1 b = u1 (u1 (u1 (M b) at1 0) pt w) pk 0 := by
  unfold goM
  rw [uA_n h.symm, uA_n h.symm, uA_n h.symm, uA_n h.symm, uA_s]
theorem goM_s {at1 pt pk w zp zq t1 m1 : Int} : goM M s b at1 pt pk w zp zq t1 m1 s = u1 (u1 (u1 (u1 (M s) 2 zp) 3 zq) 1 t1) 4 m1 := by
  unfold goM
  rw [uA_s]
theorem goM_o {at1 pt pk w zp zq t1 m1 : Int} {a : Nat} (h : a ≠ s) (h2 : a ≠ b) : goM M s b at1 pt pk w zp zq t1 m1 a = M a := by
  unfold goM
  rw [uA_n h, uA_n h, uA_n h, uA_n h, uA_n h2]
theorem goD {M2 : pM} (hI : SI T F s b) {pi zt pk pt zp t0 : Int} {e : Nat} {l3 l6 : Slot} (h1 : M2 s 1 = t) (h3 : M2 s 3 = q) (h4 : M2 s 4 = mv) (ht : t = 0 ∨ t = 1) (hq : 0 ≤ q ∧ q ≤ 1000) (hmv : 0 ≤ mv ∧ mv ≤ 1000) (hpi : 0 ≤ pi ∧ pi ≤ 6) (hzt : 0 ≤ zt ∧ zt ≤ 6) (hpk : 0 ≤ pk ∧ pk < 121) (hpt : 0 ≤ pt ∧ pt < 121)
    (hz : zp = if pi = 6 ∧ pt = pk + 2 * up1 t then pk + up1 t else -1) {zq : Int} (hzq : zq = if pi = 6 ∨ 0 < zt then 0 else q + 1) :
    R e m_X8_go 126 [.val (.ref s), .val (.int (iI pk)), .val (.int (iI pt)), l3, .val (.int (iI pi)), .val (.int (iI (up1 t))), l6, .val (.int (iI zt))] [] T M2 F =
    some (.inl (some (.int (iI zt))), T, uA (uA (uA (uA M2 s (u1 (M2 s) 2 zp)) s (u1 (u1 (M2 s) 2 zp) 3 zq)) s (u1 (u1 (u1 (M2 s) 2 zp) 3 zq) 1 (1 - t))) s (u1 (u1 (u1 (u1 (M2 s) 2 zp) 3 zq) 1 (1 - t)) 4 (mv + 1)), F) := by
  have hu := (up1_f ht).1
  generalize up1 t = u at *
  obtain ⟨h100, t0, f0, hb, t1, hsb⟩ := hI
  have stB : ∀ (zp : Int), -5 ≤ zp ∧ zp < 130 → R e m_X8_go 152 [.val (.ref s), .val (.int (iI pk)), .val (.int (iI pt)), l3, .val (.int (iI pi)), .val (.int (iI u)), l6, .val (.int (iI zt))] [.int (iI zp), .ref s] T M2 F =
    some (.inl (some (.int (iI zt))), T, uA (uA (uA (uA M2 s (u1 (M2 s) 2 zp)) s (u1 (u1 (M2 s) 2 zp) 3 zq)) s (u1 (u1 (u1 (M2 s) 2 zp) 3 zq) 1 (1 - t))) s (u1 (u1 (u1 (u1 (M2 s) 2 zp) 3 zq) 1 (1 - t)) 4 (mv + 1)), F) := by
    intro zp hzp
    clear hz
    by_cases c6 : pi = 6
    · rw [if_pos (Or.inl c6)] at hzq
      subst hzq
      simp (disch := omega) only [x_X8_go_152, x_X8_go_155, x_X8_go_156, x_X8_go_158, x_X8_go_160, x_X8_go_163, x_X8_go_165, x_X8_go_168, x_X8_go_169, x_X8_go_172, x_X8_go_173, x_X8_go_176, x_X8_go_177, x_X8_go_178, x_X8_go_181, x_X8_go_182, x_X8_go_183, x_X8_go_184, x_X8_go_187, x_X8_go_188, x_X8_go_191, x_X8_go_192, x_X8_go_193, x_X8_go_196, x_X8_go_197, x_X8_go_198, x_X8_go_201, x_X8_go_203, List.length_cons, List.length_nil, Nat.reduceLeDiff, Nat.zero_add, iI_add, iI_sub, iI_mul, iI_neg, iI_lt, iI_le, iI_eq, jI_iI, B_True, B_False, B_t, B_f, ck_True, gd_True, cb_v, cb_n, p_mv_rw, p_fv_rw, p_rv_some, pA_1, pA_90, pA_92, pA_3, pA_5, pA_93, pA_4, pA_91, pA_6, pS_i, pB_i, pW_i, pZ_0, pZ_1, pZ_b, bI_e0, u1_s, u1_n, uA_s, uA_n, true_and, and_true, not_true_eq_false, not_false_eq_true, eq_self, iI_z, al1, al5, al3, al4, al90, al91, al92, al93, al6, Int.cast_ofNat_Int, Nat.reduceAdd, Int.reduceNeg, Int.reduceAdd, Int.reduceSub, Int.reduceMul, Int.reduceLT, Int.reduceLE, Int.reduceGT, Int.reduceGE, Int.reduceEq, Int.reduceNe, Nat.reduceEqDiff, Int.zero_add, Int.add_zero, p_ty0, p_ty1, p_ty2, p_ty3, p_ty4, p_ty5, p_ty8, p_ty9, p_ty10, t0, h1, h3, h4, gd_t, ck_t, B_t, B_f]
    · by_cases cz : 0 < zt
      · rw [if_pos (Or.inr cz)] at hzq
        subst hzq
        simp (disch := omega) only [x_X8_go_152, x_X8_go_155, x_X8_go_156, x_X8_go_158, x_X8_go_160, x_X8_go_163, x_X8_go_165, x_X8_go_168, x_X8_go_169, x_X8_go_172, x_X8_go_173, x_X8_go_176, x_X8_go_177, x_X8_go_178, x_X8_go_181, x_X8_go_182, x_X8_go_183, x_X8_go_184, x_X8_go_187, x_X8_go_188, x_X8_go_191, x_X8_go_192, x_X8_go_193, x_X8_go_196, x_X8_go_197, x_X8_go_198, x_X8_go_201, x_X8_go_203, List.length_cons, List.length_nil, Nat.reduceLeDiff, Nat.zero_add, iI_add, iI_sub, iI_mul, iI_neg, iI_lt, iI_le, iI_eq, jI_iI, B_True, B_False, B_t, B_f, ck_True, gd_True, cb_v, cb_n, p_mv_rw, p_fv_rw, p_rv_some, pA_1, pA_90, pA_92, pA_3, pA_5, pA_93, pA_4, pA_91, pA_6, pS_i, pB_i, pW_i, pZ_0, pZ_1, pZ_b, bI_e0, u1_s, u1_n, uA_s, uA_n, true_and, and_true, not_true_eq_false, not_false_eq_true, eq_self, iI_z, al1, al5, al3, al4, al90, al91, al92, al93, al6, Int.cast_ofNat_Int, Nat.reduceAdd, Int.reduceNeg, Int.reduceAdd, Int.reduceSub, Int.reduceMul, Int.reduceLT, Int.reduceLE, Int.reduceGT, Int.reduceGE, Int.reduceEq, Int.reduceNe, Nat.reduceEqDiff, Int.zero_add, Int.add_zero, p_ty0, p_ty1, p_ty2, p_ty3, p_ty4, p_ty5, p_ty8, p_ty9, p_ty10, t0, h1, h3, h4, gd_t, ck_t, B_t, B_f]
      · rw [if_neg (by omega)] at hzq
        subst hzq
        simp (disch := omega) only [x_X8_go_152, x_X8_go_155, x_X8_go_156, x_X8_go_158, x_X8_go_160, x_X8_go_163, x_X8_go_165, x_X8_go_168, x_X8_go_169, x_X8_go_172, x_X8_go_173, x_X8_go_176, x_X8_go_177, x_X8_go_178, x_X8_go_181, x_X8_go_182, x_X8_go_183, x_X8_go_184, x_X8_go_187, x_X8_go_188, x_X8_go_191, x_X8_go_192, x_X8_go_193, x_X8_go_196, x_X8_go_197, x_X8_go_198, x_X8_go_201, x_X8_go_203, List.length_cons, List.length_nil, Nat.reduceLeDiff, Nat.zero_add, iI_add, iI_sub, iI_mul, iI_neg, iI_lt, iI_le, iI_eq, jI_iI, B_True, B_False, B_t, B_f, ck_True, gd_True, cb_v, cb_n, p_mv_rw, p_fv_rw, p_rv_some, pA_1, pA_90, pA_92, pA_3, pA_5, pA_93, pA_4, pA_91, pA_6, pS_i, pB_i, pW_i, pZ_0, pZ_1, pZ_b, bI_e0, u1_s, u1_n, uA_s, uA_n, true_and, and_true, not_true_eq_false, not_false_eq_true, eq_self, iI_z, al1, al5, al3, al4, al90, al91, al92, al93, al6, Int.cast_ofNat_Int, Nat.reduceAdd, Int.reduceNeg, Int.reduceAdd, Int.reduceSub, Int.reduceMul, Int.reduceLT, Int.reduceLE, Int.reduceGT, Int.reduceGE, Int.reduceEq, Int.reduceNe, Nat.reduceEqDiff, Int.zero_add, Int.add_zero, p_ty0, p_ty1, p_ty2, p_ty3, p_ty4, p_ty5, p_ty8, p_ty9, p_ty10, t0, h1, h3, h4, gd_t, ck_t, B_t, B_f]
  by_cases c6 : pi = 6
  · by_cases cp : pt = pk + 2 * u
    · rw [if_pos ⟨c6, cp⟩] at hz
      rw [hz, ← stB _ (by omega)]
      clear stB hz hzq
      simp (disch := omega) only [x_X8_go_126, x_X8_go_127, x_X8_go_129, x_X8_go_131, x_X8_go_134, x_X8_go_135, x_X8_go_136, x_X8_go_137, x_X8_go_138, x_X8_go_140, x_X8_go_141, x_X8_go_144, x_X8_go_145, x_X8_go_147, x_X8_go_148, x_X8_go_151, List.length_cons, List.length_nil, Nat.reduceLeDiff, Nat.zero_add, iI_add, iI_sub, iI_mul, iI_neg, iI_lt, iI_le, iI_eq, jI_iI, B_True, B_False, B_t, B_f, ck_True, gd_True, cb_v, cb_n, p_mv_rw, p_fv_rw, p_rv_some, pA_1, pA_90, pA_92, pA_3, pA_5, pA_93, pA_4, pA_91, pA_6, pS_i, pB_i, pW_i, pZ_0, pZ_1, pZ_b, bI_e0, u1_s, u1_n, uA_s, uA_n, true_and, and_true, not_true_eq_false, not_false_eq_true, eq_self, iI_z, al1, al5, al3, al4, al90, al91, al92, al93, al6, Int.cast_ofNat_Int, Nat.reduceAdd, Int.reduceNeg, Int.reduceAdd, Int.reduceSub, Int.reduceMul, Int.reduceLT, Int.reduceLE, Int.reduceGT, Int.reduceGE, Int.reduceEq, Int.reduceNe, Nat.reduceEqDiff, Int.zero_add, Int.add_zero, p_ty0, p_ty1, p_ty2, p_ty3, p_ty4, p_ty5, p_ty8, p_ty9, p_ty10, t0, gd_t, ck_t, B_t, B_f]
    · rw [if_neg (fun z => cp z.2)] at hz
      rw [hz, ← stB _ (by omega)]
      clear stB hz hzq
      simp (disch := omega) only [x_X8_go_126, x_X8_go_127, x_X8_go_129, x_X8_go_131, x_X8_go_134, x_X8_go_135, x_X8_go_136, x_X8_go_137, x_X8_go_138, x_X8_go_140, x_X8_go_141, x_X8_go_144, x_X8_go_145, x_X8_go_147, x_X8_go_148, x_X8_go_151, List.length_cons, List.length_nil, Nat.reduceLeDiff, Nat.zero_add, iI_add, iI_sub, iI_mul, iI_neg, iI_lt, iI_le, iI_eq, jI_iI, B_True, B_False, B_t, B_f, ck_True, gd_True, cb_v, cb_n, p_mv_rw, p_fv_rw, p_rv_some, pA_1, pA_90, pA_92, pA_3, pA_5, pA_93, pA_4, pA_91, pA_6, pS_i, pB_i, pW_i, pZ_0, pZ_1, pZ_b, bI_e0, u1_s, u1_n, uA_s, uA_n, true_and, and_true, not_true_eq_false, not_false_eq_true, eq_self, iI_z, al1, al5, al3, al4, al90, al91, al92, al93, al6, Int.cast_ofNat_Int, Nat.reduceAdd, Int.reduceNeg, Int.reduceAdd, Int.reduceSub, Int.reduceMul, Int.reduceLT, Int.reduceLE, Int.reduceGT, Int.reduceGE, Int.reduceEq, Int.reduceNe, Nat.reduceEqDiff, Int.zero_add, Int.add_zero, p_ty0, p_ty1, p_ty2, p_ty3, p_ty4, p_ty5, p_ty8, p_ty9, p_ty10, t0, gd_t, ck_t, B_t, B_f]
  · rw [if_neg (fun z => c6 z.1)] at hz
    rw [hz, ← stB _ (by omega)]
    clear stB hz hzq
    simp (disch := omega) only [x_X8_go_126, x_X8_go_127, x_X8_go_129, x_X8_go_131, x_X8_go_134, x_X8_go_135, x_X8_go_136, x_X8_go_137, x_X8_go_138, x_X8_go_140, x_X8_go_141, x_X8_go_144, x_X8_go_145, x_X8_go_147, x_X8_go_148, x_X8_go_151, List.length_cons, List.length_nil, Nat.reduceLeDiff, Nat.zero_add, iI_add, iI_sub, iI_mul, iI_neg, iI_lt, iI_le, iI_eq, jI_iI, B_True, B_False, B_t, B_f, ck_True, gd_True, cb_v, cb_n, p_mv_rw, p_fv_rw, p_rv_some, pA_1, pA_90, pA_92, pA_3, pA_5, pA_93, pA_4, pA_91, pA_6, pS_i, pB_i, pW_i, pZ_0, pZ_1, pZ_b, bI_e0, u1_s, u1_n, uA_s, uA_n, true_and, and_true, not_true_eq_false, not_false_eq_true, eq_self, iI_z, al1, al5, al3, al4, al90, al91, al92, al93, al6, Int.cast_ofNat_Int, Nat.reduceAdd, Int.reduceNeg, Int.reduceAdd, Int.reduceSub, Int.reduceMul, Int.reduceLT, Int.reduceLE, Int.reduceGT, Int.reduceGE, Int.reduceEq, Int.reduceNe, Nat.reduceEqDiff, Int.zero_add, Int.add_zero, p_ty0, p_ty1, p_ty2, p_ty3, p_ty4, p_ty5, p_ty8, p_ty9, p_ty10, t0, gd_t, ck_t, B_t, B_f]
end PSGO
