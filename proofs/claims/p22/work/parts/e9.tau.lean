section PTAU
variable {d k n c0 sr v m : Nat} {T T1 T2 : pT} {M M1 M2 : pM} {F F1 F2 : pF} {S S1 : GSx} {ea z i fr w : Int} {bs bs1 : Int → Int} {tx : List Int} {f : Int → Int}
def txf (tx : List Int) (i : Int) : Int := if 0 ≤ i ∧ i < (tx.length : Int) then tx.getD i.toNat 0 else 32
theorem txf_rg (h : ∀ x ∈ tx, 0 ≤ x ∧ x < 128) (i : Int) : 0 ≤ txf tx i ∧ txf tx i < 128 := by
  unfold txf
  split
  · rw [List.getD_eq_getElem?_getD, List.getElem?_eq_getElem (by omega)]
    exact h _ (List.getElem_mem _)
  · omega
/-- one character more -/
theorem ta_1 {e : Nat} (he : 4 ≤ e) (hX : STx T M F sr v tx) (hc : 100 ≤ c0) (tc : p_ty T c0 = (1, 5)) (hch : ∀ x ∈ tx, 0 ≤ x ∧ x < 128) (hl : tx.length ≤ 300) (hfr : 0 ≤ fr ∧ fr ≤ 400) (hw : 0 ≤ w ∧ w < 5) (hi : fr + 4 * w ≤ i ∧ i < fr + 4 * w + 4) {a : Int} (ha : M c0 w = a) (har : 0 ≤ a ∧ a < 8388608) {l0 : Slot} :
    R e m_L_taught 42 [l0, .val (.ref sr), .val (.ref c0), .val (.int (iI fr)), .val (.int (iI w)), .val (.int (iI i))] [] T M F = R e m_L_taught 42 [l0, .val (.ref sr), .val (.ref c0), .val (.int (iI fr)), .val (.int (iI w)), .val (.int (iI (i + 1)))] [] T (uA M c0 (u1 (M c0) w (256 * a + txf tx i))) F := by
  have lh := jd_length (d := e) hX (by omega)
  obtain ⟨y, ts⟩ := hX.1
  have hr := txf_rg hch i
  have hsh := shl8i (a := a) (c := txf tx i) har (by omega)
  by_cases c : i < (tx.length : Int)
  · have ch := jd_charAt (d := e) hX (i := i) ⟨by omega, c⟩ he
    have ev : p_mv M v i = txf tx i := by
      rw [(jd_ch hX ⟨by omega, c⟩).1]
      unfold txf
      rw [if_pos ⟨by omega, c⟩]
    rw [ev] at ch
    clear hX hch
    generalize txf tx i = u at *
    rw [x_L_taught_42]
    simp (disch := omega) only [x_L_taught_44, x_L_taught_45, x_L_taught_46, x_L_taught_48, x_L_taught_49, x_L_taught_50, x_L_taught_51, x_L_taught_52, x_L_taught_55, x_L_taught_56, x_L_taught_58, x_L_taught_59, x_L_taught_61, x_L_taught_62, x_L_taught_64, x_L_taught_65, x_L_taught_67, x_L_taught_68, x_L_taught_71, x_L_taught_74, x_L_taught_75, x_L_taught_77, x_L_taught_80, x_L_taught_83, x_L_taught_85, x_L_taught_86, x_L_taught_87, x_L_taught_90, List.length_cons, List.length_nil, Nat.reduceLeDiff, Nat.zero_add, iI_add, iI_sub, iI_mul, iI_neg, iI_lt, iI_le, iI_eq, jI_iI, B_True, B_False, B_t, B_f, ck_True, gd_True, cb_v, cb_n, p_mv_rw, p_fv_rw, p_rv_some, pA_1, pA_90, pA_92, pA_3, pA_5, pA_93, pA_4, pA_91, pA_6, pS_i, pB_i, pW_i, pZ_0, pZ_1, pZ_b, bI_e0, u1_s, u1_n, uA_s, uA_n, true_and, and_true, not_true_eq_false, not_false_eq_true, eq_self, iI_z, al1, al5, al3, al4, al90, al91, al92, al93, al6, Int.cast_ofNat_Int, Nat.reduceAdd, Int.reduceNeg, Int.reduceAdd, Int.reduceSub, Int.reduceMul, Int.reduceLT, Int.reduceLE, Int.reduceGT, Int.reduceGE, Int.reduceEq, Int.reduceNe, Nat.reduceEqDiff, Int.zero_add, Int.add_zero, p_ty0, p_ty1, p_ty2, p_ty3, p_ty4, p_ty5, p_ty8, p_ty9, p_ty10, lh, ts, tc, ha, ch, hsh, gd_t, ck_t, B_t, B_f]
  · have ev : txf tx i = 32 := by unfold txf; rw [if_neg (fun z => c z.2)]
    rw [ev] at hsh ⊢
    clear hX hch
    rw [x_L_taught_42]
    simp (disch := omega) only [x_L_taught_44, x_L_taught_45, x_L_taught_46, x_L_taught_48, x_L_taught_49, x_L_taught_50, x_L_taught_51, x_L_taught_52, x_L_taught_55, x_L_taught_56, x_L_taught_58, x_L_taught_59, x_L_taught_61, x_L_taught_62, x_L_taught_64, x_L_taught_65, x_L_taught_67, x_L_taught_68, x_L_taught_71, x_L_taught_74, x_L_taught_75, x_L_taught_77, x_L_taught_80, x_L_taught_83, x_L_taught_85, x_L_taught_86, x_L_taught_87, x_L_taught_90, List.length_cons, List.length_nil, Nat.reduceLeDiff, Nat.zero_add, iI_add, iI_sub, iI_mul, iI_neg, iI_lt, iI_le, iI_eq, jI_iI, B_True, B_False, B_t, B_f, ck_True, gd_True, cb_v, cb_n, p_mv_rw, p_fv_rw, p_rv_some, pA_1, pA_90, pA_92, pA_3, pA_5, pA_93, pA_4, pA_91, pA_6, pS_i, pB_i, pW_i, pZ_0, pZ_1, pZ_b, bI_e0, u1_s, u1_n, uA_s, uA_n, true_and, and_true, not_true_eq_false, not_false_eq_true, eq_self, iI_z, al1, al5, al3, al4, al90, al91, al92, al93, al6, Int.cast_ofNat_Int, Nat.reduceAdd, Int.reduceNeg, Int.reduceAdd, Int.reduceSub, Int.reduceMul, Int.reduceLT, Int.reduceLE, Int.reduceGT, Int.reduceGE, Int.reduceEq, Int.reduceNe, Nat.reduceEqDiff, Int.zero_add, Int.add_zero, p_ty0, p_ty1, p_ty2, p_ty3, p_ty4, p_ty5, p_ty8, p_ty9, p_ty10, lh, ts, tc, ha, hsh, gd_t, ck_t, B_t, B_f]
theorem STx.ua (hX : STx T M F sr v tx) {x : Int → Int} (h1 : sr ≠ c0) (h2 : v ≠ c0) : STx T (uA M c0 x) F sr v tx := by
  obtain ⟨a1, a2, a3, a4, a5, a6, a7⟩ := hX
  have e : ∀ (s : Nat) (i : Int), s ≠ c0 → p_mv (uA M c0 x) s i = p_mv M s i := by
    intro s i hs
    unfold p_mv
    rw [uA_n hs]
  exact ⟨a1, a2, by rw [e _ _ h1]; exact a3, a4, fun j hj => by rw [e _ _ h2]; exact a5 j hj, a6, a7⟩
/-- a word -/
theorem ta_k {e : Nat} (he : 4 ≤ e) (hX : STx T M F sr v tx) (hn : sr ≠ c0 ∧ v ≠ c0) (hc : 100 ≤ c0) (tc : p_ty T c0 = (1, 5)) (hch : ∀ x ∈ tx, 0 ≤ x ∧ x < 128) (hl : tx.length ≤ 300) (hfr : 0 ≤ fr ∧ fr ≤ 400) (hw : 0 ≤ w ∧ w < 5) {l0 l5 : Slot} :
    ∃ l5', R e m_L_taught 23 [l0, .val (.ref sr), .val (.ref c0), .val (.int (iI fr)), .val (.int (iI w)), l5] [] T M F = R e m_L_taught 23 [l0, .val (.ref sr), .val (.ref c0), .val (.int (iI fr)), .val (.int (iI (w + 1))), l5'] [] T (uA M c0 (u1 (M c0) w (wd4 (txf tx (fr + 4 * w)) (txf tx (fr + 4 * w + 1)) (txf tx (fr + 4 * w + 1 + 1)) (txf tx (fr + 4 * w + 1 + 1 + 1))))) F := by
  refine ⟨.val (.int (iI (fr + 4 * w + 1 + 1 + 1 + 1))), ?_⟩
  have r0 := txf_rg hch (fr + 4 * w)
  have r1 := txf_rg hch (fr + 4 * w + 1)
  have r2 := txf_rg hch (fr + 4 * w + 1 + 1)
  have r3 := txf_rg hch (fr + 4 * w + 1 + 1 + 1)
  have s0 := ta_1 (l0 := l0) (T := T) (M := uA M c0 (u1 (M c0) w 0)) (F := F) he (hX.ua hn.1 hn.2) hc tc hch hl hfr hw (i := fr + 4 * w) (by omega) (a := 0) (by rw [uA_s, u1_s]) (by omega)
  rw [uA_s, uA_uA, u1_u1] at s0
  have s1 := ta_1 (l0 := l0) (T := T) (M := uA M c0 (u1 (M c0) w (256 * 0 + txf tx (fr + 4 * w)))) (F := F) he (hX.ua hn.1 hn.2) hc tc hch hl hfr hw (i := fr + 4 * w + 1) (by omega) (by rw [uA_s, u1_s]) (by omega)
  rw [uA_s, uA_uA, u1_u1] at s1
  have s2 := ta_1 (l0 := l0) (T := T) (M := uA M c0 (u1 (M c0) w (256 * (256 * 0 + txf tx (fr + 4 * w)) + txf tx (fr + 4 * w + 1)))) (F := F) he (hX.ua hn.1 hn.2) hc tc hch hl hfr hw (i := fr + 4 * w + 1 + 1) (by omega) (by rw [uA_s, u1_s]) (by omega)
  rw [uA_s, uA_uA, u1_u1] at s2
  have s3 := ta_1 (l0 := l0) (T := T) (M := uA M c0 (u1 (M c0) w (256 * (256 * (256 * 0 + txf tx (fr + 4 * w)) + txf tx (fr + 4 * w + 1)) + txf tx (fr + 4 * w + 1 + 1)))) (F := F) he (hX.ua hn.1 hn.2) hc tc hch hl hfr hw (i := fr + 4 * w + 1 + 1 + 1) (by omega) (by rw [uA_s, u1_s]) (by omega)
  rw [uA_s, uA_uA, u1_u1] at s3
  have e1 : R e m_L_taught 23 [l0, .val (.ref sr), .val (.ref c0), .val (.int (iI fr)), .val (.int (iI w)), l5] [] T M F = R e m_L_taught 42 [l0, .val (.ref sr), .val (.ref c0), .val (.int (iI fr)), .val (.int (iI w)), .val (.int (iI (fr + 4 * w)))] [] T (uA M c0 (u1 (M c0) w 0)) F := by
    clear s0 s1 s2 s3 hX hch
    simp (disch := omega) only [x_L_taught_23, x_L_taught_25, x_L_taught_26, x_L_taught_29, x_L_taught_30, x_L_taught_32, x_L_taught_33, x_L_taught_34, x_L_taught_35, x_L_taught_36, x_L_taught_38, x_L_taught_39, x_L_taught_40, List.length_cons, List.length_nil, Nat.reduceLeDiff, Nat.zero_add, iI_add, iI_sub, iI_mul, iI_neg, iI_lt, iI_le, iI_eq, jI_iI, B_True, B_False, B_t, B_f, ck_True, gd_True, cb_v, cb_n, p_mv_rw, p_fv_rw, p_rv_some, pA_1, pA_90, pA_92, pA_3, pA_5, pA_93, pA_4, pA_91, pA_6, pS_i, pB_i, pW_i, pZ_0, pZ_1, pZ_b, bI_e0, u1_s, u1_n, uA_s, uA_n, true_and, and_true, not_true_eq_false, not_false_eq_true, eq_self, iI_z, al1, al5, al3, al4, al90, al91, al92, al93, al6, Int.cast_ofNat_Int, Nat.reduceAdd, Int.reduceNeg, Int.reduceAdd, Int.reduceSub, Int.reduceMul, Int.reduceLT, Int.reduceLE, Int.reduceGT, Int.reduceGE, Int.reduceEq, Int.reduceNe, Nat.reduceEqDiff, Int.zero_add, Int.add_zero, p_ty0, p_ty1, p_ty2, p_ty3, p_ty4, p_ty5, p_ty8, p_ty9, p_ty10, tc, gd_t, ck_t, B_t, B_f]
  rw [e1, s0, s1, s2, s3]
  unfold wd4
  generalize hW : 256 * (256 * (256 * (256 * 0 + txf tx (fr + 4 * w)) + txf tx (fr + 4 * w + 1)) + txf tx (fr + 4 * w + 1 + 1)) + txf tx (fr + 4 * w + 1 + 1 + 1) = W
  clear s0 s1 s2 s3 hX hch e1
  simp (disch := omega) only [x_L_taught_42, x_L_taught_44, x_L_taught_45, x_L_taught_46, x_L_taught_48, x_L_taught_49, x_L_taught_50, x_L_taught_51, x_L_taught_52, x_L_taught_93, x_L_taught_96, List.length_cons, List.length_nil, Nat.reduceLeDiff, Nat.zero_add, iI_add, iI_sub, iI_mul, iI_neg, iI_lt, iI_le, iI_eq, jI_iI, B_True, B_False, B_t, B_f, ck_True, gd_True, cb_v, cb_n, p_mv_rw, p_fv_rw, p_rv_some, pA_1, pA_90, pA_92, pA_3, pA_5, pA_93, pA_4, pA_91, pA_6, pS_i, pB_i, pW_i, pZ_0, pZ_1, pZ_b, bI_e0, u1_s, u1_n, uA_s, uA_n, true_and, and_true, not_true_eq_false, not_false_eq_true, eq_self, iI_z, al1, al5, al3, al4, al90, al91, al92, al93, al6, Int.cast_ofNat_Int, Nat.reduceAdd, Int.reduceNeg, Int.reduceAdd, Int.reduceSub, Int.reduceMul, Int.reduceLT, Int.reduceLE, Int.reduceGT, Int.reduceGE, Int.reduceEq, Int.reduceNe, Nat.reduceEqDiff, Int.zero_add, Int.add_zero, p_ty0, p_ty1, p_ty2, p_ty3, p_ty4, p_ty5, p_ty8, p_ty9, p_ty10, gd_t, ck_t, B_t, B_f]
theorem wdk (w p : Int) (h : p = fr + 4 * w) : iI (wd4 (txf tx (fr + 4 * w)) (txf tx (fr + 4 * w + 1)) (txf tx (fr + 4 * w + 1 + 1)) (txf tx (fr + 4 * w + 1 + 1 + 1))) = wdf (txf tx) p := by
  subst h
  unfold wdf
  rw [show fr + 4 * w + 1 + 1 = fr + 4 * w + 2 by omega, show fr + 4 * w + 2 + 1 = fr + 4 * w + 3 by omega]
/-- five words, from 20 to 99 -/
theorem ta_5 {e : Nat} (he : 4 ≤ e) (hX : STx T M F sr v tx) (hn : sr ≠ c0 ∧ v ≠ c0) (hc : 100 ≤ c0) (tc : p_ty T c0 = (1, 5)) (hch : ∀ x ∈ tx, 0 ≤ x ∧ x < 128) (hl : tx.length ≤ 300) (hfr : 0 ≤ fr ∧ fr ≤ 400) {l0 l4 l5 : Slot} :
    ∃ l4' l5' g, R e m_L_taught 20 [l0, .val (.ref sr), .val (.ref c0), .val (.int (iI fr)), l4, l5] [] T M F = R e m_L_taught 99 [l0, .val (.ref sr), .val (.ref c0), .val (.int (iI fr)), l4', l5'] [] T (uA M c0 g) F ∧ iI (g 0) = wdf (txf tx) fr ∧ iI (g 1) = wdf (txf tx) (fr + 4) ∧ iI (g 2) = wdf (txf tx) (fr + 8) ∧ iI (g 3) = wdf (txf tx) (fr + 12) ∧ iI (g 4) = wdf (txf tx) (fr + 16) := by
  obtain ⟨a1, e1⟩ := ta_k (w := 0) (l0 := l0) (l5 := l5) he hX hn hc tc hch hl hfr (by omega)
  obtain ⟨a2, e2⟩ := ta_k (M := uA M c0 _) (w := 0 + 1) (l0 := l0) (l5 := a1) he (hX.ua hn.1 hn.2) hn hc tc hch hl hfr (by omega)
  rw [uA_s, uA_uA] at e2
  obtain ⟨a3, e3⟩ := ta_k (M := uA M c0 _) (w := 0 + 1 + 1) (l0 := l0) (l5 := a2) he (hX.ua hn.1 hn.2) hn hc tc hch hl hfr (by omega)
  rw [uA_s, uA_uA] at e3
  obtain ⟨a4, e4⟩ := ta_k (M := uA M c0 _) (w := 0 + 1 + 1 + 1) (l0 := l0) (l5 := a3) he (hX.ua hn.1 hn.2) hn hc tc hch hl hfr (by omega)
  rw [uA_s, uA_uA] at e4
  obtain ⟨a5, e5⟩ := ta_k (M := uA M c0 _) (w := 0 + 1 + 1 + 1 + 1) (l0 := l0) (l5 := a4) he (hX.ua hn.1 hn.2) hn hc tc hch hl hfr (by omega)
  rw [uA_s, uA_uA] at e5
  have h20 : R e m_L_taught 20 [l0, .val (.ref sr), .val (.ref c0), .val (.int (iI fr)), l4, l5] [] T M F = R e m_L_taught 23 [l0, .val (.ref sr), .val (.ref c0), .val (.int (iI fr)), .val (.int (iI 0)), l5] [] T M F := by
    clear e1 e2 e3 e4 e5
    simp (disch := omega) only [x_L_taught_20, x_L_taught_21, List.length_cons, List.length_nil, Nat.reduceLeDiff, Nat.zero_add, iI_add, iI_sub, iI_mul, iI_neg, iI_lt, iI_le, iI_eq, jI_iI, B_True, B_False, B_t, B_f, ck_True, gd_True, cb_v, cb_n, p_mv_rw, p_fv_rw, p_rv_some, pA_1, pA_90, pA_92, pA_3, pA_5, pA_93, pA_4, pA_91, pA_6, pS_i, pB_i, pW_i, pZ_0, pZ_1, pZ_b, bI_e0, u1_s, u1_n, uA_s, uA_n, true_and, and_true, not_true_eq_false, not_false_eq_true, eq_self, iI_z, al1, al5, al3, al4, al90, al91, al92, al93, al6, Int.cast_ofNat_Int, Nat.reduceAdd, Int.reduceNeg, Int.reduceAdd, Int.reduceSub, Int.reduceMul, Int.reduceLT, Int.reduceLE, Int.reduceGT, Int.reduceGE, Int.reduceEq, Int.reduceNe, Nat.reduceEqDiff, Int.zero_add, Int.add_zero, p_ty0, p_ty1, p_ty2, p_ty3, p_ty4, p_ty5, p_ty8, p_ty9, p_ty10]
  rw [h20, e1, e2, e3, e4, e5]
  refine ⟨.val (.int (iI 5)), a5, u1 (u1 (u1 (u1 (u1 (M c0) (0) (wd4 (txf tx (fr + 4 * (0))) (txf tx (fr + 4 * (0) + 1)) (txf tx (fr + 4 * (0) + 1 + 1)) (txf tx (fr + 4 * (0) + 1 + 1 + 1)))) (0 + 1) (wd4 (txf tx (fr + 4 * (0 + 1))) (txf tx (fr + 4 * (0 + 1) + 1)) (txf tx (fr + 4 * (0 + 1) + 1 + 1)) (txf tx (fr + 4 * (0 + 1) + 1 + 1 + 1)))) (0 + 1 + 1) (wd4 (txf tx (fr + 4 * (0 + 1 + 1))) (txf tx (fr + 4 * (0 + 1 + 1) + 1)) (txf tx (fr + 4 * (0 + 1 + 1) + 1 + 1)) (txf tx (fr + 4 * (0 + 1 + 1) + 1 + 1 + 1)))) (0 + 1 + 1 + 1) (wd4 (txf tx (fr + 4 * (0 + 1 + 1 + 1))) (txf tx (fr + 4 * (0 + 1 + 1 + 1) + 1)) (txf tx (fr + 4 * (0 + 1 + 1 + 1) + 1 + 1)) (txf tx (fr + 4 * (0 + 1 + 1 + 1) + 1 + 1 + 1)))) (0 + 1 + 1 + 1 + 1) (wd4 (txf tx (fr + 4 * (0 + 1 + 1 + 1 + 1))) (txf tx (fr + 4 * (0 + 1 + 1 + 1 + 1) + 1)) (txf tx (fr + 4 * (0 + 1 + 1 + 1 + 1) + 1 + 1)) (txf tx (fr + 4 * (0 + 1 + 1 + 1 + 1) + 1 + 1 + 1))), ?_, ?_⟩
  · clear e1 e2 e3 e4 e5 h20 hX hch
    generalize u1 (u1 (u1 (u1 (u1 (M c0) (0) (wd4 (txf tx (fr + 4 * (0))) (txf tx (fr + 4 * (0) + 1)) (txf tx (fr + 4 * (0) + 1 + 1)) (txf tx (fr + 4 * (0) + 1 + 1 + 1)))) (0 + 1) (wd4 (txf tx (fr + 4 * (0 + 1))) (txf tx (fr + 4 * (0 + 1) + 1)) (txf tx (fr + 4 * (0 + 1) + 1 + 1)) (txf tx (fr + 4 * (0 + 1) + 1 + 1 + 1)))) (0 + 1 + 1) (wd4 (txf tx (fr + 4 * (0 + 1 + 1))) (txf tx (fr + 4 * (0 + 1 + 1) + 1)) (txf tx (fr + 4 * (0 + 1 + 1) + 1 + 1)) (txf tx (fr + 4 * (0 + 1 + 1) + 1 + 1 + 1)))) (0 + 1 + 1 + 1) (wd4 (txf tx (fr + 4 * (0 + 1 + 1 + 1))) (txf tx (fr + 4 * (0 + 1 + 1 + 1) + 1)) (txf tx (fr + 4 * (0 + 1 + 1 + 1) + 1 + 1)) (txf tx (fr + 4 * (0 + 1 + 1 + 1) + 1 + 1 + 1)))) (0 + 1 + 1 + 1 + 1) (wd4 (txf tx (fr + 4 * (0 + 1 + 1 + 1 + 1))) (txf tx (fr + 4 * (0 + 1 + 1 + 1 + 1) + 1)) (txf tx (fr + 4 * (0 + 1 + 1 + 1 + 1) + 1 + 1)) (txf tx (fr + 4 * (0 + 1 + 1 + 1 + 1) + 1 + 1 + 1))) = G
    rw [show (0 : Int) + 1 + 1 + 1 + 1 + 1 = 5 from rfl]
    simp (disch := omega) only [x_L_taught_23, x_L_taught_25, x_L_taught_26, List.length_cons, List.length_nil, Nat.reduceLeDiff, Nat.zero_add, iI_add, iI_sub, iI_mul, iI_neg, iI_lt, iI_le, iI_eq, jI_iI, B_True, B_False, B_t, B_f, ck_True, gd_True, cb_v, cb_n, p_mv_rw, p_fv_rw, p_rv_some, pA_1, pA_90, pA_92, pA_3, pA_5, pA_93, pA_4, pA_91, pA_6, pS_i, pB_i, pW_i, pZ_0, pZ_1, pZ_b, bI_e0, u1_s, u1_n, uA_s, uA_n, true_and, and_true, not_true_eq_false, not_false_eq_true, eq_self, iI_z, al1, al5, al3, al4, al90, al91, al92, al93, al6, Int.cast_ofNat_Int, Nat.reduceAdd, Int.reduceNeg, Int.reduceAdd, Int.reduceSub, Int.reduceMul, Int.reduceLT, Int.reduceLE, Int.reduceGT, Int.reduceGE, Int.reduceEq, Int.reduceNe, Nat.reduceEqDiff, Int.zero_add, Int.add_zero, p_ty0, p_ty1, p_ty2, p_ty3, p_ty4, p_ty5, p_ty8, p_ty9, p_ty10, B_t, B_f]
  · exact ⟨wdk 0 _ (by omega), wdk (0 + 1) _ (by omega), wdk (0 + 1 + 1) _ (by omega), wdk (0 + 1 + 1 + 1) _ (by omega), wdk (0 + 1 + 1 + 1 + 1) _ (by omega)⟩
end PTAU
