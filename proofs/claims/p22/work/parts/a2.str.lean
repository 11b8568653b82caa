section PTOS
variable {d a b n s v : Nat} {T T1 : pT} {M M1 : pM} {F F1 : pF} {tx ws : List Int} {i m o p q c mn k : Int}
theorem i2b_id (h : 0 ≤ c ∧ c < 128) : (iI c).toInt8.toInt32 = iI c := by
  have h1 := iI_toInt (a := c) (by omega) (by omega)
  exact s_narB (by omega) (by omega)
theorem jd_can (h : 0 ≤ c ∧ c < 128) (hd : 1 ≤ d) : callD d m_J1_canEncode_fc78d [.int (iI c)] T M F = some (.inl (some (.int (iI 1))), T, M, F) := by
  refine callD_go 0 hd rfl (fun e he => ?_)
  show R e m_J1_canEncode_fc78d 0 [.val (.int (iI c))] [] T M F = _
  simp (disch := omega) only [x_J1_canEncode_fc78d_0, x_J1_canEncode_fc78d_1, x_J1_canEncode_fc78d_4, x_J1_canEncode_fc78d_7, x_J1_canEncode_fc78d_8, x_J1_canEncode_fc78d_11, x_J1_canEncode_fc78d_12, List.length_cons, List.length_nil, Nat.reduceLeDiff, Nat.zero_add, iI_add, iI_sub, iI_mul, iI_neg, iI_lt, iI_le, iI_eq, jI_iI, B_True, B_False, B_t, B_f, ck_True, gd_True, cb_v, cb_n, p_mv_rw, p_fv_rw, p_rv_some, pA_1, pA_90, pA_92, pA_3, pA_5, pA_93, pA_4, pA_91, pA_6, pS_i, pB_i, pW_i, pZ_0, pZ_1, pZ_b, bI_e0, u1_s, u1_n, uA_s, uA_n, true_and, and_true, not_true_eq_false, not_false_eq_true, eq_self, iI_z, al1, al5, al3, al4, al90, al91, al92, al93, al6, Int.cast_ofNat_Int, Nat.reduceAdd, Int.reduceNeg, Int.reduceAdd, Int.reduceSub, Int.reduceMul, Int.reduceLT, Int.reduceLE, Int.reduceGT, Int.reduceGE, Int.reduceEq, Int.reduceNe, Nat.reduceEqDiff, Int.zero_add, Int.add_zero, p_ty0, p_ty1, p_ty2, p_ty3, p_ty4, p_ty5, p_ty8, p_ty9, p_ty10, gd_t, B_t, B_f]
theorem SBk.tr (hm : T.1.1 ≤ T1.1.1) (hb : ∀ c, c < T.1.1 → c ≠ b → c ≠ s) {M2 : pM} {F2 : pF} (h1 : SBk T M F M1 F1 a b) (h2 : SBk T1 M1 F1 M2 F2 a s) : SBk T M F M2 F2 a b :=
  ⟨fun c c1 c2 c3 => (h2.1 c (by omega) c2 (hb c c1 c3)).trans (h1.1 c c1 c2 c3), fun c c1 c2 => (h2.2 c (by omega) c2).trans (h1.2 c c1 c2)⟩
theorem jd_appC (hB : SBo T M F a b n tx) (hc : 0 ≤ c ∧ c < 128) (hl : tx.length ≤ 1000) : ∃ T' M' F', (∀ d, 6 ≤ d → callD d m_J4_append_cf468 [.ref a, .int (iI c)] T M F = some (.inl (some (.ref a)), T', M', F')) ∧ SBx T M F T' M' F' a b n (tx ++ [c]) := by
  obtain ⟨T1, M1, F1, b1, n1, e1, B1, k1, k2, fr, kb, fa, ma⟩ := jd_ens hB (mn := (tx.length : Int) + 1) (by omega)
  have hmo : s_mono T T1 := by
    rcases kb with ⟨-, rfl⟩ | ⟨-, -, -⟩
    · exact .rf
    · exact callD_T 4 _ _ _ _ _ _ (e1 4 (Nat.le_refl _))
  obtain ⟨⟨h100, hlt⟩, t0, f0, ⟨hb, hbl⟩, t1, hab, m0, m1, l1, l2, l3⟩ := id hB
  obtain ⟨⟨x1, hlt'⟩, t0', f0', ⟨hb', hbl'⟩, t1', hab', m0', m1', l1', l2', l3'⟩ := id B1
  obtain ⟨M2, hM2⟩ : ∃ M2 : pM, M2 = uA (uA M1 a (u1 (M1 a) 3 ((tx.length : Int) + 1))) b1 (u1 (M1 b1) (tx.length : Int) c) := ⟨_, rfl⟩
  have hi : (iI c).toInt8.toInt32 = iI c := i2b_id hc
  refine ⟨T1, M2, F1, fun d hd => ?_, b1, n1, ⟨⟨x1, hlt'⟩, t0', f0', ⟨hb', hbl'⟩, t1', hab', ?_, ?_, ?_, l2', fun j hj => ?_⟩, ?_, ?_, ⟨fun c c1 c2 c3 => ?_, fr.2⟩, fa, hmo, ?_, ?_⟩
  · refine callD_go 5 hd rfl (fun e he => ?_)
    show R e m_J4_append_cf468 0 [.val (.ref a), .val (.int (iI c))] [] T M F = _
    have hin : callD e m_J5_append_3fe6f [.ref a, .int (iI c)] T M F = some (.inl (some (.ref a)), T1, M2, F1) := by
      refine callD_go 4 he rfl (fun e he => ?_)
      show R e m_J5_append_3fe6f 0 [.val (.ref a), .val (.int (iI c))] [] T M F = _
      have e1 := e1 e he
      have e2 := jd_lat (d := e) B1 (by omega)
      have e3 := jd_can (d := e) (T := T1) (M := M1) (F := F1) hc (by omega)
      have m1a : M1 a 3 = tx.length := m1'
      have mb : uA M1 a (u1 (M1 a) 3 ((tx.length : Int) + 1)) b1 = M1 b1 := uA_n hab'.symm
      rw [hM2]
      clear l3 l3' hB B1 fr kb fa hM2
      simp (disch := omega) only [x_J5_append_3fe6f_0, x_J5_append_3fe6f_1, x_J5_append_3fe6f_2, x_J5_append_3fe6f_5, x_J5_append_3fe6f_6, x_J5_append_3fe6f_7, x_J5_append_3fe6f_10, x_J5_append_3fe6f_11, x_J5_append_3fe6f_14, x_J5_append_3fe6f_17, x_J5_append_3fe6f_18, x_J5_append_3fe6f_21, x_J5_append_3fe6f_24, x_J5_append_3fe6f_25, x_J5_append_3fe6f_28, x_J5_append_3fe6f_29, x_J5_append_3fe6f_30, x_J5_append_3fe6f_33, x_J5_append_3fe6f_34, x_J5_append_3fe6f_35, x_J5_append_3fe6f_36, x_J5_append_3fe6f_39, x_J5_append_3fe6f_40, x_J5_append_3fe6f_41, x_J5_append_3fe6f_42, x_J5_append_3fe6f_75, x_J5_append_3fe6f_76, List.length_cons, List.length_nil, Nat.reduceLeDiff, Nat.zero_add, iI_add, iI_sub, iI_mul, iI_neg, iI_lt, iI_le, iI_eq, jI_iI, B_True, B_False, B_t, B_f, ck_True, gd_True, cb_v, cb_n, p_mv_rw, p_fv_rw, p_rv_some, pA_1, pA_90, pA_92, pA_3, pA_5, pA_93, pA_4, pA_91, pA_6, pS_i, pB_i, pW_i, pZ_0, pZ_1, pZ_b, bI_e0, u1_s, u1_n, uA_s, uA_n, true_and, and_true, not_true_eq_false, not_false_eq_true, eq_self, iI_z, al1, al5, al3, al4, al90, al91, al92, al93, al6, Int.cast_ofNat_Int, Nat.reduceAdd, Int.reduceNeg, Int.reduceAdd, Int.reduceSub, Int.reduceMul, Int.reduceLT, Int.reduceLE, Int.reduceGT, Int.reduceGE, Int.reduceEq, Int.reduceNe, Nat.reduceEqDiff, Int.zero_add, Int.add_zero, p_ty0, p_ty1, p_ty2, p_ty3, p_ty4, p_ty5, p_ty8, p_ty9, p_ty10, t0, t0', t1', f0', m1, m1a, mb, hi, e1, e2, e3, gd_t, B_t, B_f]
    clear l3 l3' hB B1 fr kb fa hM2
    simp (disch := omega) only [x_J4_append_cf468_0, x_J4_append_cf468_1, x_J4_append_cf468_2, x_J4_append_cf468_5, x_J4_append_cf468_6, x_J4_append_cf468_7, List.length_cons, List.length_nil, Nat.reduceLeDiff, Nat.zero_add, iI_add, iI_sub, iI_mul, iI_neg, iI_lt, iI_le, iI_eq, jI_iI, B_True, B_False, B_t, B_f, ck_True, gd_True, cb_v, cb_n, p_mv_rw, p_fv_rw, p_rv_some, pA_1, pA_90, pA_92, pA_3, pA_5, pA_93, pA_4, pA_91, pA_6, pS_i, pB_i, pW_i, pZ_0, pZ_1, pZ_b, bI_e0, u1_s, u1_n, uA_s, uA_n, true_and, and_true, not_true_eq_false, not_false_eq_true, eq_self, iI_z, al1, al5, al3, al4, al90, al91, al92, al93, al6, Int.cast_ofNat_Int, Nat.reduceAdd, Int.reduceNeg, Int.reduceAdd, Int.reduceSub, Int.reduceMul, Int.reduceLT, Int.reduceLE, Int.reduceGT, Int.reduceGE, Int.reduceEq, Int.reduceNe, Nat.reduceEqDiff, Int.zero_add, Int.add_zero, p_ty0, p_ty1, p_ty2, p_ty3, p_ty4, p_ty5, p_ty8, p_ty9, p_ty10, t0, t0', hin, gd_t]
  · rw [hM2, uA_n hab', uA_s, u1_n (by decide)]; exact m0'
  · rw [hM2, uA_n hab', uA_s, u1_s, List.length_append]; rfl
  · rw [List.length_append]; show tx.length + 1 ≤ n1; omega
  · rw [hM2, uA_s]
    rw [List.length_append] at hj
    have hj : j < tx.length + 1 := hj
    by_cases c9 : j = tx.length
    · rw [c9, u1_s, getD_ap2 _ _ (Nat.le_refl _), Nat.sub_self]; rfl
    · rw [u1_n (by omega), getD_ap1 _ _ (by omega)]
      exact l3' j (by omega)
  · rw [List.length_append]; show n1 = n ∨ n1 ≤ 2 * (tx.length + 1); omega
  · rcases kb with ⟨z, -⟩ | ⟨z, -⟩ <;> omega
  · rw [hM2, uA_n (by rcases kb with ⟨z, -⟩ | ⟨z, -⟩ <;> omega), uA_n c2]
    exact fr.1 c c1 c2 c3
  · rcases kb with ⟨-, rfl⟩ | ⟨-, z, -⟩ <;> omega
  · rw [List.length_append]
    show T1.1.2 ≤ T.1.2 + 2 * (tx.length + 1)
    rcases kb with ⟨-, rfl⟩ | ⟨-, -, z, z2⟩
    · omega
    · omega
/-! numbers -/
def nmD (i : Int) : List Int := if i < 10 then [48 + i] else [48 + i / 10, 48 + i % 10]
theorem nmD_len : (nmD i).length = if i < 10 then 1 else 2 := by unfold nmD; split <;> rfl
theorem ro8N : ∀ i : Nat, i < 100 → p_roM 8 (i : Int) = 48 + (i : Int) % 10 ∧ p_roM 9 (i : Int) = 48 + (i : Int) / 10 := by decide +kernel
theorem ro8 (h : 0 ≤ i ∧ i < 100) : p_roM 8 i = 48 + i % 10 ∧ p_roM 9 i = 48 + i / 10 := by
  have := ro8N i.toNat (by omega)
  rwa [Int.toNat_of_nonneg h.1] at this
theorem jd_size (h : 1 ≤ i ∧ i < 100) (hd : 1 ≤ d) : callD d m_J6_stringSize_0f7a4 [.int (iI i)] T M F = some (.inl (some (.int (iI ((nmD i).length : Int)))), T, M, F) := by
  refine callD_go 0 hd rfl (fun e he => ?_)
  show R e m_J6_stringSize_0f7a4 0 [.val (.int (iI i)), .unset, .unset, .unset] [] T M F = _
  rw [nmD_len]
  by_cases c : i < 10
  · rw [if_pos c]
    simp (disch := omega) only [x_J6_stringSize_0f7a4_0, x_J6_stringSize_0f7a4_1, x_J6_stringSize_0f7a4_2, x_J6_stringSize_0f7a4_3, x_J6_stringSize_0f7a4_6, x_J6_stringSize_0f7a4_7, x_J6_stringSize_0f7a4_8, x_J6_stringSize_0f7a4_9, x_J6_stringSize_0f7a4_10, x_J6_stringSize_0f7a4_11, x_J6_stringSize_0f7a4_13, x_J6_stringSize_0f7a4_14, x_J6_stringSize_0f7a4_15, x_J6_stringSize_0f7a4_16, x_J6_stringSize_0f7a4_17, x_J6_stringSize_0f7a4_19, x_J6_stringSize_0f7a4_22, x_J6_stringSize_0f7a4_23, x_J6_stringSize_0f7a4_24, x_J6_stringSize_0f7a4_27, x_J6_stringSize_0f7a4_28, x_J6_stringSize_0f7a4_29, x_J6_stringSize_0f7a4_30, x_J6_stringSize_0f7a4_31, x_J6_stringSize_0f7a4_33, x_J6_stringSize_0f7a4_34, x_J6_stringSize_0f7a4_35, x_J6_stringSize_0f7a4_36, x_J6_stringSize_0f7a4_39, x_J6_stringSize_0f7a4_42, x_J6_stringSize_0f7a4_44, x_J6_stringSize_0f7a4_45, x_J6_stringSize_0f7a4_46, List.length_cons, List.length_nil, Nat.reduceLeDiff, Nat.zero_add, iI_add, iI_sub, iI_mul, iI_neg, iI_lt, iI_le, iI_eq, jI_iI, B_True, B_False, B_t, B_f, ck_True, gd_True, cb_v, cb_n, p_mv_rw, p_fv_rw, p_rv_some, pA_1, pA_90, pA_92, pA_3, pA_5, pA_93, pA_4, pA_91, pA_6, pS_i, pB_i, pW_i, pZ_0, pZ_1, pZ_b, bI_e0, u1_s, u1_n, uA_s, uA_n, true_and, and_true, not_true_eq_false, not_false_eq_true, eq_self, iI_z, al1, al5, al3, al4, al90, al91, al92, al93, al6, Int.cast_ofNat_Int, Nat.reduceAdd, Int.reduceNeg, Int.reduceAdd, Int.reduceSub, Int.reduceMul, Int.reduceLT, Int.reduceLE, Int.reduceGT, Int.reduceGE, Int.reduceEq, Int.reduceNe, Nat.reduceEqDiff, Int.zero_add, Int.add_zero, p_ty0, p_ty1, p_ty2, p_ty3, p_ty4, p_ty5, p_ty8, p_ty9, p_ty10, B_t, B_f]
  · rw [if_neg c]
    simp (disch := omega) only [x_J6_stringSize_0f7a4_0, x_J6_stringSize_0f7a4_1, x_J6_stringSize_0f7a4_2, x_J6_stringSize_0f7a4_3, x_J6_stringSize_0f7a4_6, x_J6_stringSize_0f7a4_7, x_J6_stringSize_0f7a4_8, x_J6_stringSize_0f7a4_9, x_J6_stringSize_0f7a4_10, x_J6_stringSize_0f7a4_11, x_J6_stringSize_0f7a4_13, x_J6_stringSize_0f7a4_14, x_J6_stringSize_0f7a4_15, x_J6_stringSize_0f7a4_16, x_J6_stringSize_0f7a4_17, x_J6_stringSize_0f7a4_19, x_J6_stringSize_0f7a4_22, x_J6_stringSize_0f7a4_23, x_J6_stringSize_0f7a4_24, x_J6_stringSize_0f7a4_27, x_J6_stringSize_0f7a4_28, x_J6_stringSize_0f7a4_29, x_J6_stringSize_0f7a4_30, x_J6_stringSize_0f7a4_31, x_J6_stringSize_0f7a4_33, x_J6_stringSize_0f7a4_34, x_J6_stringSize_0f7a4_35, x_J6_stringSize_0f7a4_36, x_J6_stringSize_0f7a4_39, x_J6_stringSize_0f7a4_42, x_J6_stringSize_0f7a4_44, x_J6_stringSize_0f7a4_45, x_J6_stringSize_0f7a4_46, List.length_cons, List.length_nil, Nat.reduceLeDiff, Nat.zero_add, iI_add, iI_sub, iI_mul, iI_neg, iI_lt, iI_le, iI_eq, jI_iI, B_True, B_False, B_t, B_f, ck_True, gd_True, cb_v, cb_n, p_mv_rw, p_fv_rw, p_rv_some, pA_1, pA_90, pA_92, pA_3, pA_5, pA_93, pA_4, pA_91, pA_6, pS_i, pB_i, pW_i, pZ_0, pZ_1, pZ_b, bI_e0, u1_s, u1_n, uA_s, uA_n, true_and, and_true, not_true_eq_false, not_false_eq_true, eq_self, iI_z, al1, al5, al3, al4, al90, al91, al92, al93, al6, Int.cast_ofNat_Int, Nat.reduceAdd, Int.reduceNeg, Int.reduceAdd, Int.reduceSub, Int.reduceMul, Int.reduceLT, Int.reduceLE, Int.reduceGT, Int.reduceGE, Int.reduceEq, Int.reduceNe, Nat.reduceEqDiff, Int.zero_add, Int.add_zero, p_ty0, p_ty1, p_ty2, p_ty3, p_ty4, p_ty5, p_ty8, p_ty9, p_ty10, B_t, B_f]
theorem jd_chars (h : 1 ≤ i ∧ i < 100) (hb : 100 ≤ b) (tb : p_ty T b = (5, n)) (hk : 0 ≤ k ∧ k + (nmD i).length ≤ (n : Int) ∧ n ≤ 10000) : ∃ f : Int → Int, (∀ d, 1 ≤ d → callD d m_J6_getChars_ba4f3 [.int (iI i), .int (iI (k + (nmD i).length)), .ref b] T M F = some (.inl (some (.int (iI k))), T, uA M b f, F)) ∧ (∀ j, j < k → f j = M b j) ∧ ∀ j : Nat, j < (nmD i).length → f (k + j) = (nmD i).getD j 0 := by
  obtain ⟨r8, r9⟩ := ro8 (i := i) (by omega)
  have hr8 : 0 ≤ p_roM 8 i ∧ p_roM 8 i < 128 := by omega
  have hr9 : 0 ≤ p_roM 9 i ∧ p_roM 9 i < 128 := by omega
  have v8 : p_mv M 8 i = p_roM 8 i := p_mv_ro (by decide) (by decide)
  by_cases c : i < 10
  · have hn : nmD i = [48 + i] := if_pos c
    rw [hn] at hk ⊢
    have hk : 0 ≤ k ∧ k + 1 ≤ (n : Int) ∧ n ≤ 10000 := hk
    refine ⟨u1 (M b) k (p_roM 8 i), fun d hd => ?_, fun j hj => u1_n (by omega), fun j hj => ?_⟩
    · refine callD_go 0 hd rfl (fun e he => ?_)
      show R e m_J6_getChars_ba4f3 0 [.val (.int (iI i)), .val (.int (iI (k + 1))), .val (.ref b), .unset, .unset, .unset, .unset] [] T M F = _
      have ek : k + 1 + -1 = k := by omega
      clear r8 r9 hn
      generalize p_roM 8 i = z at *
      simp (disch := omega) only [x_J6_getChars_ba4f3_0, x_J6_getChars_ba4f3_1, x_J6_getChars_ba4f3_3, x_J6_getChars_ba4f3_4, x_J6_getChars_ba4f3_7, x_J6_getChars_ba4f3_8, x_J6_getChars_ba4f3_11, x_J6_getChars_ba4f3_12, x_J6_getChars_ba4f3_14, x_J6_getChars_ba4f3_16, x_J6_getChars_ba4f3_19, x_J6_getChars_ba4f3_20, x_J6_getChars_ba4f3_21, x_J6_getChars_ba4f3_22, x_J6_getChars_ba4f3_23, x_J6_getChars_ba4f3_25, x_J6_getChars_ba4f3_72, x_J6_getChars_ba4f3_73, x_J6_getChars_ba4f3_76, x_J6_getChars_ba4f3_78, x_J6_getChars_ba4f3_81, x_J6_getChars_ba4f3_82, x_J6_getChars_ba4f3_83, x_J6_getChars_ba4f3_84, x_J6_getChars_ba4f3_85, x_J6_getChars_ba4f3_86, x_J6_getChars_ba4f3_88, x_J6_getChars_ba4f3_91, x_J6_getChars_ba4f3_92, x_J6_getChars_ba4f3_95, x_J6_getChars_ba4f3_97, x_J6_getChars_ba4f3_100, x_J6_getChars_ba4f3_101, x_J6_getChars_ba4f3_102, x_J6_getChars_ba4f3_103, x_J6_getChars_ba4f3_104, x_J6_getChars_ba4f3_106, x_J6_getChars_ba4f3_109, x_J6_getChars_ba4f3_110, x_J6_getChars_ba4f3_113, x_J6_getChars_ba4f3_115, x_J6_getChars_ba4f3_117, x_J6_getChars_ba4f3_118, x_J6_getChars_ba4f3_120, List.length_cons, List.length_nil, Nat.reduceLeDiff, Nat.zero_add, iI_add, iI_sub, iI_mul, iI_neg, iI_lt, iI_le, iI_eq, jI_iI, B_True, B_False, B_t, B_f, ck_True, gd_True, cb_v, cb_n, p_mv_rw, p_fv_rw, p_rv_some, pA_1, pA_90, pA_92, pA_3, pA_5, pA_93, pA_4, pA_91, pA_6, pS_i, pB_i, pW_i, pZ_0, pZ_1, pZ_b, bI_e0, u1_s, u1_n, uA_s, uA_n, true_and, and_true, not_true_eq_false, not_false_eq_true, eq_self, iI_z, al1, al5, al3, al4, al90, al91, al92, al93, al6, Int.cast_ofNat_Int, Nat.reduceAdd, Int.reduceNeg, Int.reduceAdd, Int.reduceSub, Int.reduceMul, Int.reduceLT, Int.reduceLE, Int.reduceGT, Int.reduceGE, Int.reduceEq, Int.reduceNe, Nat.reduceEqDiff, Int.zero_add, Int.add_zero, p_ty0, p_ty1, p_ty2, p_ty3, p_ty4, p_ty5, p_ty8, p_ty9, p_ty10, tb, ek, v8, B_t, B_f, Int.neg_neg]
    · have hj : j < 1 := hj
      obtain rfl : j = 0 := by omega
      show u1 (M b) k (p_roM 8 i) (k + 0) = 48 + i
      rw [Int.add_zero, u1_s, r8]; omega
  · have hn : nmD i = [48 + i / 10, 48 + i % 10] := if_neg c
    rw [hn] at hk ⊢
    have hk : 0 ≤ k ∧ k + 2 ≤ (n : Int) ∧ n ≤ 10000 := hk
    refine ⟨u1 (u1 (M b) (k + 1) (p_roM 8 i)) k (p_roM 9 i), fun d hd => ?_, fun j hj => by rw [u1_n (by omega), u1_n (by omega)], fun j hj => ?_⟩
    · refine callD_go 0 hd rfl (fun e he => ?_)
      show R e m_J6_getChars_ba4f3 0 [.val (.int (iI i)), .val (.int (iI (k + 2))), .val (.ref b), .unset, .unset, .unset, .unset] [] T M F = _
      have ek : k + 2 + -1 = k + 1 := by omega
      have ek2 : k + 1 + -1 = k := by omega
      have v9 : p_mv (uA M b (u1 (M b) (k + 1) (p_roM 8 i))) 9 i = p_roM 9 i := p_mv_ro (by decide) (by decide)
      have u9 : uA M b (u1 (M b) (k + 1) (p_roM 8 i)) b = u1 (M b) (k + 1) (p_roM 8 i) := uA_s
      clear r8 r9 hn
      generalize p_roM 8 i = z at *
      generalize p_roM 9 i = z2 at *
      simp (disch := omega) only [x_J6_getChars_ba4f3_0, x_J6_getChars_ba4f3_1, x_J6_getChars_ba4f3_3, x_J6_getChars_ba4f3_4, x_J6_getChars_ba4f3_7, x_J6_getChars_ba4f3_8, x_J6_getChars_ba4f3_11, x_J6_getChars_ba4f3_12, x_J6_getChars_ba4f3_14, x_J6_getChars_ba4f3_16, x_J6_getChars_ba4f3_19, x_J6_getChars_ba4f3_20, x_J6_getChars_ba4f3_21, x_J6_getChars_ba4f3_22, x_J6_getChars_ba4f3_23, x_J6_getChars_ba4f3_25, x_J6_getChars_ba4f3_72, x_J6_getChars_ba4f3_73, x_J6_getChars_ba4f3_76, x_J6_getChars_ba4f3_78, x_J6_getChars_ba4f3_81, x_J6_getChars_ba4f3_82, x_J6_getChars_ba4f3_83, x_J6_getChars_ba4f3_84, x_J6_getChars_ba4f3_85, x_J6_getChars_ba4f3_86, x_J6_getChars_ba4f3_88, x_J6_getChars_ba4f3_91, x_J6_getChars_ba4f3_92, x_J6_getChars_ba4f3_95, x_J6_getChars_ba4f3_97, x_J6_getChars_ba4f3_100, x_J6_getChars_ba4f3_101, x_J6_getChars_ba4f3_102, x_J6_getChars_ba4f3_103, x_J6_getChars_ba4f3_104, x_J6_getChars_ba4f3_106, x_J6_getChars_ba4f3_109, x_J6_getChars_ba4f3_110, x_J6_getChars_ba4f3_113, x_J6_getChars_ba4f3_115, x_J6_getChars_ba4f3_117, x_J6_getChars_ba4f3_118, x_J6_getChars_ba4f3_120, List.length_cons, List.length_nil, Nat.reduceLeDiff, Nat.zero_add, iI_add, iI_sub, iI_mul, iI_neg, iI_lt, iI_le, iI_eq, jI_iI, B_True, B_False, B_t, B_f, ck_True, gd_True, cb_v, cb_n, p_mv_rw, p_fv_rw, p_rv_some, pA_1, pA_90, pA_92, pA_3, pA_5, pA_93, pA_4, pA_91, pA_6, pS_i, pB_i, pW_i, pZ_0, pZ_1, pZ_b, bI_e0, u1_s, u1_n, uA_s, uA_n, true_and, and_true, not_true_eq_false, not_false_eq_true, eq_self, iI_z, al1, al5, al3, al4, al90, al91, al92, al93, al6, Int.cast_ofNat_Int, Nat.reduceAdd, Int.reduceNeg, Int.reduceAdd, Int.reduceSub, Int.reduceMul, Int.reduceLT, Int.reduceLE, Int.reduceGT, Int.reduceGE, Int.reduceEq, Int.reduceNe, Nat.reduceEqDiff, Int.zero_add, Int.add_zero, p_ty0, p_ty1, p_ty2, p_ty3, p_ty4, p_ty5, p_ty8, p_ty9, p_ty10, tb, ek, ek2, v8, v9, u9, uA_uA, B_t, B_f, Int.neg_neg]
    · have hj : j < 2 := hj
      rcases (show j = 0 ∨ j = 1 by omega) with rfl | rfl
      · show u1 (u1 (M b) (k + 1) (p_roM 8 i)) k (p_roM 9 i) (k + 0) = 48 + i / 10
        rw [Int.add_zero, u1_s, r9]
      · show u1 (u1 (M b) (k + 1) (p_roM 8 i)) k (p_roM 9 i) (k + 1) = 48 + i % 10
        rw [u1_n (by omega), u1_s, r8]
theorem jd_appI (hB : SBo T M F a b n tx) (hi : 1 ≤ i ∧ i < 100) (hl : tx.length ≤ 1000) : ∃ T' M' F', (∀ d, 6 ≤ d → callD d m_J4_append_bf812 [.ref a, .int (iI i)] T M F = some (.inl (some (.ref a)), T', M', F')) ∧ SBx T M F T' M' F' a b n (tx ++ nmD i) := by
  have hD : 1 ≤ (nmD i).length ∧ (nmD i).length ≤ 2 := by rw [nmD_len]; split <;> omega
  obtain ⟨T1, M1, F1, b1, n1, e1, B1, k1, k2, fr, kb, fa, ma⟩ := jd_ens hB (mn := (tx.length : Int) + (nmD i).length) (by omega)
  have hmo : s_mono T T1 := by
    rcases kb with ⟨-, rfl⟩ | ⟨-, -, -⟩
    · exact .rf
    · exact callD_T 4 _ _ _ _ _ _ (e1 4 (Nat.le_refl _))
  obtain ⟨⟨h100, hlt⟩, t0, f0, ⟨hb, hbl⟩, t1, hab, m0, m1, l1, l2, l3⟩ := id hB
  obtain ⟨⟨x1, hlt'⟩, t0', f0', ⟨hb', hbl'⟩, t1', hab', m0', m1', l1', l2', l3'⟩ := id B1
  obtain ⟨f, e3, f1, f2⟩ := jd_chars (T := T1) (M := M1) (F := F1) hi hb' t1' (k := (tx.length : Int)) (by omega)
  obtain ⟨M2, hM2⟩ : ∃ M2 : pM, M2 = uA (uA M1 b1 f) a (u1 (M1 a) 3 ((tx.length : Int) + (nmD i).length)) := ⟨_, rfl⟩
  refine ⟨T1, M2, F1, fun d hd => ?_, b1, n1, ⟨⟨x1, hlt'⟩, t0', f0', ⟨hb', hbl'⟩, t1', hab', ?_, ?_, ?_, l2', fun j hj => ?_⟩, ?_, ?_, ⟨fun c c1 c2 c3 => ?_, fr.2⟩, fa, hmo, ?_, ?_⟩
  · refine callD_go 5 hd rfl (fun e he => ?_)
    show R e m_J4_append_bf812 0 [.val (.ref a), .val (.int (iI i))] [] T M F = _
    have hin : callD e m_J5_append_c97b9 [.ref a, .int (iI i)] T M F = some (.inl (some (.ref a)), T1, M2, F1) := by
      refine callD_go 4 he rfl (fun e he => ?_)
      show R e m_J5_append_c97b9 0 [.val (.ref a), .val (.int (iI i)), .unset, .unset] [] T M F = _
      have e1 := e1 e he
      have e2 := jd_lat (d := e) B1 (by omega)
      have e3 := e3 e (by omega)
      have e0 := jd_size (d := e) (T := T) (M := M) (F := F) hi (by omega)
      have ma2 : uA M1 b1 f a = M1 a := uA_n hab'
      rw [hM2]
      clear l3 l3' hB B1 fr kb fa hM2 f1 f2
      generalize (nmD i).length = z at *
      simp (disch := omega) only [x_J5_append_c97b9_0, x_J5_append_c97b9_1, x_J5_append_c97b9_4, x_J5_append_c97b9_5, x_J5_append_c97b9_6, x_J5_append_c97b9_7, x_J5_append_c97b9_10, x_J5_append_c97b9_11, x_J5_append_c97b9_12, x_J5_append_c97b9_13, x_J5_append_c97b9_14, x_J5_append_c97b9_17, x_J5_append_c97b9_18, x_J5_append_c97b9_21, x_J5_append_c97b9_24, x_J5_append_c97b9_25, x_J5_append_c97b9_26, x_J5_append_c97b9_27, x_J5_append_c97b9_30, x_J5_append_c97b9_33, x_J5_append_c97b9_34, x_J5_append_c97b9_48, x_J5_append_c97b9_49, x_J5_append_c97b9_50, x_J5_append_c97b9_53, x_J5_append_c97b9_54, List.length_cons, List.length_nil, Nat.reduceLeDiff, Nat.zero_add, iI_add, iI_sub, iI_mul, iI_neg, iI_lt, iI_le, iI_eq, jI_iI, B_True, B_False, B_t, B_f, ck_True, gd_True, cb_v, cb_n, p_mv_rw, p_fv_rw, p_rv_some, pA_1, pA_90, pA_92, pA_3, pA_5, pA_93, pA_4, pA_91, pA_6, pS_i, pB_i, pW_i, pZ_0, pZ_1, pZ_b, bI_e0, u1_s, u1_n, uA_s, uA_n, true_and, and_true, not_true_eq_false, not_false_eq_true, eq_self, iI_z, al1, al5, al3, al4, al90, al91, al92, al93, al6, Int.cast_ofNat_Int, Nat.reduceAdd, Int.reduceNeg, Int.reduceAdd, Int.reduceSub, Int.reduceMul, Int.reduceLT, Int.reduceLE, Int.reduceGT, Int.reduceGE, Int.reduceEq, Int.reduceNe, Nat.reduceEqDiff, Int.zero_add, Int.add_zero, p_ty0, p_ty1, p_ty2, p_ty3, p_ty4, p_ty5, p_ty8, p_ty9, p_ty10, t0, t0', f0', m1, ma2, e0, e1, e2, e3, gd_t, B_t, B_f]
    clear l3 l3' hB B1 fr kb fa hM2 f1 f2
    simp (disch := omega) only [x_J4_append_bf812_0, x_J4_append_bf812_1, x_J4_append_bf812_2, x_J4_append_bf812_5, x_J4_append_bf812_6, x_J4_append_bf812_7, List.length_cons, List.length_nil, Nat.reduceLeDiff, Nat.zero_add, iI_add, iI_sub, iI_mul, iI_neg, iI_lt, iI_le, iI_eq, jI_iI, B_True, B_False, B_t, B_f, ck_True, gd_True, cb_v, cb_n, p_mv_rw, p_fv_rw, p_rv_some, pA_1, pA_90, pA_92, pA_3, pA_5, pA_93, pA_4, pA_91, pA_6, pS_i, pB_i, pW_i, pZ_0, pZ_1, pZ_b, bI_e0, u1_s, u1_n, uA_s, uA_n, true_and, and_true, not_true_eq_false, not_false_eq_true, eq_self, iI_z, al1, al5, al3, al4, al90, al91, al92, al93, al6, Int.cast_ofNat_Int, Nat.reduceAdd, Int.reduceNeg, Int.reduceAdd, Int.reduceSub, Int.reduceMul, Int.reduceLT, Int.reduceLE, Int.reduceGT, Int.reduceGE, Int.reduceEq, Int.reduceNe, Nat.reduceEqDiff, Int.zero_add, Int.add_zero, p_ty0, p_ty1, p_ty2, p_ty3, p_ty4, p_ty5, p_ty8, p_ty9, p_ty10, t0, t0', hin, gd_t]
  · rw [hM2, uA_s, u1_n (by decide)]; exact m0'
  · rw [hM2, uA_s, u1_s, List.length_append]; omega
  · rw [List.length_append]; omega
  · rw [hM2, uA_n hab'.symm, uA_s]
    rw [List.length_append] at hj
    by_cases c : tx.length ≤ j
    · rw [getD_ap2 _ _ c, ← f2 (j - tx.length) (by omega)]
      congr 1; omega
    · rw [getD_ap1 _ _ (by omega), f1 _ (by omega)]
      exact l3' j (by omega)
  · rw [List.length_append]; omega
  · rcases kb with ⟨z, -⟩ | ⟨z, -⟩ <;> omega
  · rw [hM2, uA_n c2, uA_n (by rcases kb with ⟨z, -⟩ | ⟨z, -⟩ <;> omega)]
    exact fr.1 c c1 c2 c3
  · rcases kb with ⟨-, rfl⟩ | ⟨-, z, -⟩ <;> omega
  · rw [List.length_append]
    rcases kb with ⟨-, rfl⟩ | ⟨-, -, z, z2⟩
    · omega
    · omega
/-! a new text -/
theorem jd_ckl (h : 0 ≤ m ∧ m ≤ 10000) (hd : 1 ≤ d) : callD d m_J7_checkLength_df160 [.int (iI 0), .int (iI m)] T M F = some (.inl none, T, M, F) := by
  refine callD_go 0 hd rfl (fun e he => ?_)
  show R e m_J7_checkLength_df160 0 [.val (.int (iI 0)), .val (.int (iI m))] [] T M F = _
  simp (disch := omega) only [x_J7_checkLength_df160_0, x_J7_checkLength_df160_1, x_J7_checkLength_df160_2, x_J7_checkLength_df160_37, List.length_cons, List.length_nil, Nat.reduceLeDiff, Nat.zero_add, iI_add, iI_sub, iI_mul, iI_neg, iI_lt, iI_le, iI_eq, jI_iI, B_True, B_False, B_t, B_f, ck_True, gd_True, cb_v, cb_n, p_mv_rw, p_fv_rw, p_rv_some, pA_1, pA_90, pA_92, pA_3, pA_5, pA_93, pA_4, pA_91, pA_6, pS_i, pB_i, pW_i, pZ_0, pZ_1, pZ_b, bI_e0, u1_s, u1_n, uA_s, uA_n, true_and, and_true, not_true_eq_false, not_false_eq_true, eq_self, iI_z, al1, al5, al3, al4, al90, al91, al92, al93, al6, Int.cast_ofNat_Int, Nat.reduceAdd, Int.reduceNeg, Int.reduceAdd, Int.reduceSub, Int.reduceMul, Int.reduceLT, Int.reduceLE, Int.reduceGT, Int.reduceGE, Int.reduceEq, Int.reduceNe, Nat.reduceEqDiff, Int.zero_add, Int.add_zero, p_ty0, p_ty1, p_ty2, p_ty3, p_ty4, p_ty5, p_ty8, p_ty9, p_ty10, B_t, B_f]
theorem jd_corB (hb : 100 ≤ b ∧ b < T.1.1) (tb : p_ty T b = (5, n)) (hm : 0 ≤ m ∧ m ≤ (n : Int) ∧ n ≤ 10000) (h100 : 100 ≤ T.1.1) (hd : 2 ≤ d) : callD d m_J7_copyOfRangeByte_39247 [.ref b, .int (iI 0), .int (iI m)] T M F = some (.inl (some (.ref T.1.1)), p_new T 5 m.toNat, uA M T.1.1 (fun j => if 0 ≤ j ∧ j < m then M b j else 0), uA F T.1.1 (fun _ => none)) := by
  refine callD_go 1 hd rfl (fun e he => ?_)
  show R e m_J7_copyOfRangeByte_39247 0 [.val (.ref b), .val (.int (iI 0)), .val (.int (iI m)), .unset, .unset] [] T M F = _
  have h1 := fun (T : pT) (M : pM) (F : pF) => y_min (d := e) (T := T) (M := M) (F := F) (a := n) (n := m) (by omega) (by omega) (by omega)
  have e9 : (if m < (n : Int) then m else (n : Int)) = m := by split <;> omega
  rw [e9] at h1
  have h2 := jd_ckl (d := e) (T := T) (M := M) (F := F) (m := m) (by omega) (by omega)
  have tb' : p_ty (p_new T 5 m.toNat) b = (5, n) := by rw [p_ty_nx (by omega)]; exact tb
  have tn : p_ty (p_new T 5 m.toNat) T.1.1 = (5, m.toNat) := p_ty_nw h100
  simp (disch := omega) only [x_J7_copyOfRangeByte_39247_0, x_J7_copyOfRangeByte_39247_1, x_J7_copyOfRangeByte_39247_2, x_J7_copyOfRangeByte_39247_5, x_J7_copyOfRangeByte_39247_6, x_J7_copyOfRangeByte_39247_7, x_J7_copyOfRangeByte_39247_8, x_J7_copyOfRangeByte_39247_9, x_J7_copyOfRangeByte_39247_10, x_J7_copyOfRangeByte_39247_12, x_J7_copyOfRangeByte_39247_14, x_J7_copyOfRangeByte_39247_15, x_J7_copyOfRangeByte_39247_16, x_J7_copyOfRangeByte_39247_18, x_J7_copyOfRangeByte_39247_19, x_J7_copyOfRangeByte_39247_20, x_J7_copyOfRangeByte_39247_21, x_J7_copyOfRangeByte_39247_22, x_J7_copyOfRangeByte_39247_23, x_J7_copyOfRangeByte_39247_24, x_J7_copyOfRangeByte_39247_27, x_J7_copyOfRangeByte_39247_30, x_J7_copyOfRangeByte_39247_32, List.length_cons, List.length_nil, Nat.reduceLeDiff, Nat.zero_add, iI_add, iI_sub, iI_mul, iI_neg, iI_lt, iI_le, iI_eq, jI_iI, B_True, B_False, B_t, B_f, ck_True, gd_True, cb_v, cb_n, p_mv_rw, p_fv_rw, p_rv_some, pA_1, pA_90, pA_92, pA_3, pA_5, pA_93, pA_4, pA_91, pA_6, pS_i, pB_i, pW_i, pZ_0, pZ_1, pZ_b, bI_e0, u1_s, u1_n, uA_s, uA_n, true_and, and_true, not_true_eq_false, not_false_eq_true, eq_self, iI_z, al1, al5, al3, al4, al90, al91, al92, al93, al6, Int.cast_ofNat_Int, Nat.reduceAdd, Int.reduceNeg, Int.reduceAdd, Int.reduceSub, Int.reduceMul, Int.reduceLT, Int.reduceLE, Int.reduceGT, Int.reduceGE, Int.reduceEq, Int.reduceNe, Nat.reduceEqDiff, Int.zero_add, Int.add_zero, p_ty0, p_ty1, p_ty2, p_ty3, p_ty4, p_ty5, p_ty8, p_ty9, p_ty10, tb, tb', tn, h1, h2, ck_t, true_or, false_and, false_or, or_false, gd_t, B_t, B_f, uA_uA, Int.sub_zero]
theorem jd_cor (hb : 100 ≤ b ∧ b < T.1.1) (tb : p_ty T b = (5, n)) (hm : 0 ≤ m ∧ m ≤ (n : Int) ∧ n ≤ 10000) (h100 : 100 ≤ T.1.1) : ∃ g : Int → Int, (∀ d, 3 ≤ d → callD d m_J7_copyOfRange_39247 [.ref b, .int (iI 0), .int (iI m)] T M F = some (.inl (some (.ref T.1.1)), p_new T 5 m.toNat, uA M T.1.1 g, uA F T.1.1 (fun _ => none))) ∧ ∀ j, 0 ≤ j → j < m → g j = M b j := by
  by_cases c : m = n
  · refine ⟨M b, fun d hd => ?_, fun _ _ _ => rfl⟩
    refine callD_go 2 hd rfl (fun e he => ?_)
    show R e m_J7_copyOfRange_39247 0 [.val (.ref b), .val (.int (iI 0)), .val (.int (iI m))] [] T M F = _
    subst c
    have tn : p_ty (p_new T 5 n) T.1.1 = (5, n) := p_ty_nw h100
    rw [Int.toNat_natCast]
    simp (disch := omega) only [x_J7_copyOfRange_39247_0, x_J7_copyOfRange_39247_1, x_J7_copyOfRange_39247_4, x_J7_copyOfRange_39247_5, x_J7_copyOfRange_39247_6, x_J7_copyOfRange_39247_7, x_J7_copyOfRange_39247_10, x_J7_copyOfRange_39247_11, x_J7_copyOfRange_39247_12, x_J7_copyOfRange_39247_13, x_J7_copyOfRange_39247_16, x_J7_copyOfRange_39247_17, x_J7_copyOfRange_39247_18, x_J7_copyOfRange_39247_21, x_J7_copyOfRange_39247_24, List.length_cons, List.length_nil, Nat.reduceLeDiff, Nat.zero_add, iI_add, iI_sub, iI_mul, iI_neg, iI_lt, iI_le, iI_eq, jI_iI, B_True, B_False, B_t, B_f, ck_True, gd_True, cb_v, cb_n, p_mv_rw, p_fv_rw, p_rv_some, pA_1, pA_90, pA_92, pA_3, pA_5, pA_93, pA_4, pA_91, pA_6, pS_i, pB_i, pW_i, pZ_0, pZ_1, pZ_b, bI_e0, u1_s, u1_n, uA_s, uA_n, true_and, and_true, not_true_eq_false, not_false_eq_true, eq_self, iI_z, al1, al5, al3, al4, al90, al91, al92, al93, al6, Int.cast_ofNat_Int, Nat.reduceAdd, Int.reduceNeg, Int.reduceAdd, Int.reduceSub, Int.reduceMul, Int.reduceLT, Int.reduceLE, Int.reduceGT, Int.reduceGE, Int.reduceEq, Int.reduceNe, Nat.reduceEqDiff, Int.zero_add, Int.add_zero, p_ty0, p_ty1, p_ty2, p_ty3, p_ty4, p_ty5, p_ty8, p_ty9, p_ty10, tb, tn, ck_t, true_or, false_and, false_or, or_false, gd_t, B_t, B_f]
  · refine ⟨fun j => if 0 ≤ j ∧ j < m then M b j else 0, fun d hd => ?_, fun j j0 j1 => if_pos ⟨j0, j1⟩⟩
    refine callD_go 2 hd rfl (fun e he => ?_)
    show R e m_J7_copyOfRange_39247 0 [.val (.ref b), .val (.int (iI 0)), .val (.int (iI m))] [] T M F = _
    have h1 := jd_corB (d := e) (M := M) (F := F) hb tb hm h100 he
    have tn : p_ty (p_new T 5 m.toNat) T.1.1 = (5, m.toNat) := p_ty_nw h100
    simp (disch := omega) only [x_J7_copyOfRange_39247_0, x_J7_copyOfRange_39247_1, x_J7_copyOfRange_39247_4, x_J7_copyOfRange_39247_5, x_J7_copyOfRange_39247_6, x_J7_copyOfRange_39247_7, x_J7_copyOfRange_39247_10, x_J7_copyOfRange_39247_11, x_J7_copyOfRange_39247_12, x_J7_copyOfRange_39247_13, x_J7_copyOfRange_39247_16, x_J7_copyOfRange_39247_17, x_J7_copyOfRange_39247_18, x_J7_copyOfRange_39247_21, x_J7_copyOfRange_39247_24, List.length_cons, List.length_nil, Nat.reduceLeDiff, Nat.zero_add, iI_add, iI_sub, iI_mul, iI_neg, iI_lt, iI_le, iI_eq, jI_iI, B_True, B_False, B_t, B_f, ck_True, gd_True, cb_v, cb_n, p_mv_rw, p_fv_rw, p_rv_some, pA_1, pA_90, pA_92, pA_3, pA_5, pA_93, pA_4, pA_91, pA_6, pS_i, pB_i, pW_i, pZ_0, pZ_1, pZ_b, bI_e0, u1_s, u1_n, uA_s, uA_n, true_and, and_true, not_true_eq_false, not_false_eq_true, eq_self, iI_z, al1, al5, al3, al4, al90, al91, al92, al93, al6, Int.cast_ofNat_Int, Nat.reduceAdd, Int.reduceNeg, Int.reduceAdd, Int.reduceSub, Int.reduceMul, Int.reduceLT, Int.reduceLE, Int.reduceGT, Int.reduceGE, Int.reduceEq, Int.reduceNe, Nat.reduceEqDiff, Int.zero_add, Int.add_zero, p_ty0, p_ty1, p_ty2, p_ty3, p_ty4, p_ty5, p_ty8, p_ty9, p_ty10, tb, tn, h1, ck_t, true_or, false_and, false_or, or_false, gd_t, B_t, B_f]
theorem jd_getV (hB : SBo T M F a b n tx) (hd : 1 ≤ d) : callD d m_J5_getValue_6d5f1 [.ref a] T M F = some (.inl (some (.ref b)), T, M, F) := by
  refine callD_go 0 hd rfl (fun e he => ?_)
  show R e m_J5_getValue_6d5f1 0 [.val (.ref a)] [] T M F = _
  obtain ⟨⟨h100, hlt⟩, t0, f0, ⟨hb, hbl⟩, t1, hab, m0, m1, l1, l2, l3⟩ := hB
  clear l3
  simp (disch := omega) only [x_J5_getValue_6d5f1_0, x_J5_getValue_6d5f1_1, x_J5_getValue_6d5f1_4, List.length_cons, List.length_nil, Nat.reduceLeDiff, Nat.zero_add, iI_add, iI_sub, iI_mul, iI_neg, iI_lt, iI_le, iI_eq, jI_iI, B_True, B_False, B_t, B_f, ck_True, gd_True, cb_v, cb_n, p_mv_rw, p_fv_rw, p_rv_some, pA_1, pA_90, pA_92, pA_3, pA_5, pA_93, pA_4, pA_91, pA_6, pS_i, pB_i, pW_i, pZ_0, pZ_1, pZ_b, bI_e0, u1_s, u1_n, uA_s, uA_n, true_and, and_true, not_true_eq_false, not_false_eq_true, eq_self, iI_z, al1, al5, al3, al4, al90, al91, al92, al93, al6, Int.cast_ofNat_Int, Nat.reduceAdd, Int.reduceNeg, Int.reduceAdd, Int.reduceSub, Int.reduceMul, Int.reduceLT, Int.reduceLE, Int.reduceGT, Int.reduceGE, Int.reduceEq, Int.reduceNe, Nat.reduceEqDiff, Int.zero_add, Int.add_zero, p_ty0, p_ty1, p_ty2, p_ty3, p_ty4, p_ty5, p_ty8, p_ty9, p_ty10, t0, t1, f0, gd_t]
theorem jd_len4 (hB : SBo T M F a b n tx) (hd : 2 ≤ d) : callD d m_J4_length_8abf5 [.ref a] T M F = some (.inl (some (.int (iI (tx.length : Int)))), T, M, F) := by
  refine callD_go 1 hd rfl (fun e he => ?_)
  show R e m_J4_length_8abf5 0 [.val (.ref a)] [] T M F = _
  have h1 : callD e m_J5_length_8abf5 [.ref a] T M F = some (.inl (some (.int (iI (tx.length : Int)))), T, M, F) := by
    refine callD_go 0 he rfl (fun e he => ?_)
    show R e m_J5_length_8abf5 0 [.val (.ref a)] [] T M F = _
    obtain ⟨⟨h100, hlt⟩, t0, f0, ⟨hb, hbl⟩, t1, hab, m0, m1, l1, l2, l3⟩ := hB
    clear l3
    simp (disch := omega) only [x_J5_length_8abf5_0, x_J5_length_8abf5_1, x_J5_length_8abf5_4, List.length_cons, List.length_nil, Nat.reduceLeDiff, Nat.zero_add, iI_add, iI_sub, iI_mul, iI_neg, iI_lt, iI_le, iI_eq, jI_iI, B_True, B_False, B_t, B_f, ck_True, gd_True, cb_v, cb_n, p_mv_rw, p_fv_rw, p_rv_some, pA_1, pA_90, pA_92, pA_3, pA_5, pA_93, pA_4, pA_91, pA_6, pS_i, pB_i, pW_i, pZ_0, pZ_1, pZ_b, bI_e0, u1_s, u1_n, uA_s, uA_n, true_and, and_true, not_true_eq_false, not_false_eq_true, eq_self, iI_z, al1, al5, al3, al4, al90, al91, al92, al93, al6, Int.cast_ofNat_Int, Nat.reduceAdd, Int.reduceNeg, Int.reduceAdd, Int.reduceSub, Int.reduceMul, Int.reduceLT, Int.reduceLE, Int.reduceGT, Int.reduceGE, Int.reduceEq, Int.reduceNe, Nat.reduceEqDiff, Int.zero_add, Int.add_zero, p_ty0, p_ty1, p_ty2, p_ty3, p_ty4, p_ty5, p_ty8, p_ty9, p_ty10, t0, m1, gd_t]
  have t0 := hB.2.1
  clear hB
  simp (disch := omega) only [x_J4_length_8abf5_0, x_J4_length_8abf5_1, x_J4_length_8abf5_4, List.length_cons, List.length_nil, Nat.reduceLeDiff, Nat.zero_add, iI_add, iI_sub, iI_mul, iI_neg, iI_lt, iI_le, iI_eq, jI_iI, B_True, B_False, B_t, B_f, ck_True, gd_True, cb_v, cb_n, p_mv_rw, p_fv_rw, p_rv_some, pA_1, pA_90, pA_92, pA_3, pA_5, pA_93, pA_4, pA_91, pA_6, pS_i, pB_i, pW_i, pZ_0, pZ_1, pZ_b, bI_e0, u1_s, u1_n, uA_s, uA_n, true_and, and_true, not_true_eq_false, not_false_eq_true, eq_self, iI_z, al1, al5, al3, al4, al90, al91, al92, al93, al6, Int.cast_ofNat_Int, Nat.reduceAdd, Int.reduceNeg, Int.reduceAdd, Int.reduceSub, Int.reduceMul, Int.reduceLT, Int.reduceLE, Int.reduceGT, Int.reduceGE, Int.reduceEq, Int.reduceNe, Nat.reduceEqDiff, Int.zero_add, Int.add_zero, p_ty0, p_ty1, p_ty2, p_ty3, p_ty4, p_ty5, p_ty8, p_ty9, p_ty10, t0, h1, gd_t]
theorem SBo.kp {T1 : pT} {M1 : pM} {F1 : pF} (h : SBo T M F a b n tx) (hm : s_mono T T1) (h1 : M1 a = M a) (h2 : M1 b = M b) (h3 : F1 a = F a) : SBo T1 M1 F1 a b n tx := by
  obtain ⟨⟨h100, hlt⟩, t0, f0, ⟨hb, hbl⟩, t1, hab, m0, m1, l1, l2, l3⟩ := h
  exact ⟨⟨h100, Nat.lt_of_lt_of_le hlt hm.1⟩, by rw [hm.2.2 a hlt]; exact t0, by rw [h3]; exact f0, ⟨hb, Nat.lt_of_lt_of_le hbl hm.1⟩, by rw [hm.2.2 b hbl]; exact t1, hab, by rw [h1]; exact m0, by rw [h1]; exact m1, l1, l2, fun j hj => by rw [h2]; exact l3 j hj⟩
theorem jd_toS (hB : SBo T M F a b n tx) (hx : ∀ x ∈ tx, 0 ≤ x ∧ x < 128) (hl : tx.length ≤ 1000) : ∃ T' M' F', (∀ d, 6 ≤ d → callD d m_J4_toString_0e30d [.ref a] T M F = some (.inl (some (.ref T.1.1)), T', M', F')) ∧ STx T' M' F' T.1.1 (T.1.1 + 1) tx ∧ s_mono T T' ∧ (∀ c, c < T.1.1 → M' c = M c ∧ F' c = F c) ∧ T'.1.1 = T.1.1 + 2 ∧ T'.1.2 = T.1.2 + 4 + tx.length := by
  have h100 : 100 ≤ T.1.1 := by have := hB.1; omega
  obtain ⟨T1, hT1⟩ : ∃ T1 : pT, T1 = p_new T 21 4 := ⟨_, rfl⟩
  have hm1 : s_mono T T1 := by rw [hT1]; exact .new
  have l1 : T1.1.1 = T.1.1 + 1 := by rw [hT1]; rfl
  have l2 : T1.1.2 = T.1.2 + 4 := by rw [hT1]; rfl
  have ts : p_ty T1 T.1.1 = (21, 4) := by rw [hT1]; exact p_ty_nw h100
  obtain ⟨M1, hM1⟩ : ∃ M1 : pM, M1 = uA M T.1.1 (fun _ => 0) := ⟨_, rfl⟩
  obtain ⟨F1, hF1⟩ : ∃ F1 : pF, F1 = uA F T.1.1 (fun _ => none) := ⟨_, rfl⟩
  have ha := hB.1.2
  have hbl := hB.2.2.2.1.2
  have B1 : SBo T1 M1 F1 a b n tx := hB.kp hm1 (by rw [hM1, uA_n (by omega)]) (by rw [hM1, uA_n (by omega)]) (by rw [hF1, uA_n (by omega)])
  obtain ⟨M2, hM2⟩ : ∃ M2 : pM, M2 = uA M1 T.1.1 (u1 (M1 T.1.1) 1 0) := ⟨_, rfl⟩
  have hlen := hB.2.2.2.2.2.2.2.2
  obtain ⟨g, e5, g1⟩ := jd_cor (T := T1) (M := M2) (F := F1) (b := b) (n := n) (m := (tx.length : Int)) B1.2.2.2.1 B1.2.2.2.2.1 (by omega) (by omega)
  have B2 : SBo T1 M2 F1 a b n tx := B1.kp .rf (by rw [hM2, uA_n (by omega)]) (by rw [hM2, uA_n (by omega)]) rfl
  obtain ⟨T3, hT3⟩ : ∃ T3 : pT, T3 = p_new T1 5 ((tx.length : Int)).toNat := ⟨_, rfl⟩
  have hm3 : s_mono T1 T3 := by rw [hT3]; exact .new
  obtain ⟨M3, hM3⟩ : ∃ M3 : pM, M3 = uA M2 T1.1.1 g := ⟨_, rfl⟩
  obtain ⟨F3, hF3⟩ : ∃ F3 : pF, F3 = uA (uA F1 T1.1.1 (fun _ => none)) T.1.1 (u1 (uA F1 T1.1.1 (fun _ => none) T.1.1) 0 (some T1.1.1)) := ⟨_, rfl⟩
  have ts3 : p_ty T3 T.1.1 = (21, 4) := by rw [hm3.2.2 _ (by omega)]; exact ts
  have tv3 : p_ty T3 T1.1.1 = (5, tx.length) := by
    rw [hT3, p_ty_nw (by omega), Int.toNat_natCast]
  refine ⟨T3, M3, F3, fun d hd => ?_, ⟨⟨4, ts3⟩, ?_, ?_, Or.inl ⟨by rw [← l1]; exact tv3, by omega⟩, fun j hj => ?_, hl, hx⟩, hm1.tr hm3, fun c hc => ⟨?_, ?_⟩, ?_, ?_⟩
  · refine callD_go 5 hd rfl (fun e he => ?_)
    show R e m_J4_toString_0e30d 0 [.val (.ref a)] [] T M F = _
    have hin : callD e m_J0_init_81219 [.ref T.1.1, .ref a] T1 M1 F1 = some (.inl none, T3, M3, F3) := by
      refine callD_go 4 he rfl (fun e he => ?_)
      show R e m_J0_init_81219 0 [.val (.ref T.1.1), .val (.ref a)] [] T1 M1 F1 = _
      have hin : callD e m_J0_init_db425 [.ref T.1.1, .ref a, .null] T1 M1 F1 = some (.inl none, T3, M3, F3) := by
        refine callD_go 3 he rfl (fun e he => ?_)
        show R e m_J0_init_db425 0 [.val (.ref T.1.1), .val (.ref a), .val .null, .unset, .unset] [] T1 M1 F1 = _
        have e1 := jd_getV (d := e) B1 (by omega)
        have e2 := jd_len4 (d := e) B1 (by omega)
        have e3 := jd_lat (d := e) B1 (by omega)
        have e5 := e5 e he
        rw [← hM3, ← hT3] at e5
        have t0 := B1.2.1
        rw [hF3]
        rw [hM2] at e5
        clear hB B1 B2 hx g1 hM1 hF1 hM3 hF3 hm1 hm3
        simp (disch := omega) only [x_J0_init_db425_0, x_J0_init_db425_1, x_J0_init_db425_4, x_J0_init_db425_5, x_J0_init_db425_8, x_J0_init_db425_9, x_J0_init_db425_10, x_J0_init_db425_13, x_J0_init_db425_15, x_J0_init_db425_16, x_J0_init_db425_19, x_J0_init_db425_22, x_J0_init_db425_23, x_J0_init_db425_24, x_J0_init_db425_27, x_J0_init_db425_28, x_J0_init_db425_29, x_J0_init_db425_30, x_J0_init_db425_32, x_J0_init_db425_35, x_J0_init_db425_38, x_J0_init_db425_97, List.length_cons, List.length_nil, Nat.reduceLeDiff, Nat.zero_add, iI_add, iI_sub, iI_mul, iI_neg, iI_lt, iI_le, iI_eq, jI_iI, B_True, B_False, B_t, B_f, ck_True, gd_True, cb_v, cb_n, p_mv_rw, p_fv_rw, p_rv_some, pA_1, pA_90, pA_92, pA_3, pA_5, pA_93, pA_4, pA_91, pA_6, pS_i, pB_i, pW_i, pZ_0, pZ_1, pZ_b, bI_e0, u1_s, u1_n, uA_s, uA_n, true_and, and_true, not_true_eq_false, not_false_eq_true, eq_self, iI_z, al1, al5, al3, al4, al90, al91, al92, al93, al6, Int.cast_ofNat_Int, Nat.reduceAdd, Int.reduceNeg, Int.reduceAdd, Int.reduceSub, Int.reduceMul, Int.reduceLT, Int.reduceLE, Int.reduceGT, Int.reduceGE, Int.reduceEq, Int.reduceNe, Nat.reduceEqDiff, Int.zero_add, Int.add_zero, p_ty0, p_ty1, p_ty2, p_ty3, p_ty4, p_ty5, p_ty8, p_ty9, p_ty10, t0, ts, ts3, tv3, e1, e2, e3, e5, gd_t, B_t, B_f]
      have t0 := B1.2.1
      clear hB B1 B2 hx g1 hM1 hF1 hM3 hF3 hm1 hm3 e5 hM2
      simp (disch := omega) only [x_J0_init_81219_0, x_J0_init_81219_1, x_J0_init_81219_2, x_J0_init_81219_3, x_J0_init_81219_6, List.length_cons, List.length_nil, Nat.reduceLeDiff, Nat.zero_add, iI_add, iI_sub, iI_mul, iI_neg, iI_lt, iI_le, iI_eq, jI_iI, B_True, B_False, B_t, B_f, ck_True, gd_True, cb_v, cb_n, p_mv_rw, p_fv_rw, p_rv_some, pA_1, pA_90, pA_92, pA_3, pA_5, pA_93, pA_4, pA_91, pA_6, pS_i, pB_i, pW_i, pZ_0, pZ_1, pZ_b, bI_e0, u1_s, u1_n, uA_s, uA_n, true_and, and_true, not_true_eq_false, not_false_eq_true, eq_self, iI_z, al1, al5, al3, al4, al90, al91, al92, al93, al6, Int.cast_ofNat_Int, Nat.reduceAdd, Int.reduceNeg, Int.reduceAdd, Int.reduceSub, Int.reduceMul, Int.reduceLT, Int.reduceLE, Int.reduceGT, Int.reduceGE, Int.reduceEq, Int.reduceNe, Nat.reduceEqDiff, Int.zero_add, Int.add_zero, p_ty0, p_ty1, p_ty2, p_ty3, p_ty4, p_ty5, p_ty8, p_ty9, p_ty10, t0, ts, hin, gd_t]
    have t0 := hB.2.1
    rw [hT1, hM1, hF1] at hin
    have ts' : p_ty (p_new T 21 4) T.1.1 = (21, 4) := p_ty_nw h100
    clear hB B1 B2 hx g1 hM1 hF1 hM3 hF3 hm1 hm3 e5 hM2 hT1
    simp (disch := omega) only [x_J4_toString_0e30d_0, x_J4_toString_0e30d_3, x_J4_toString_0e30d_4, x_J4_toString_0e30d_5, x_J4_toString_0e30d_8, List.length_cons, List.length_nil, Nat.reduceLeDiff, Nat.zero_add, iI_add, iI_sub, iI_mul, iI_neg, iI_lt, iI_le, iI_eq, jI_iI, B_True, B_False, B_t, B_f, ck_True, gd_True, cb_v, cb_n, p_mv_rw, p_fv_rw, p_rv_some, pA_1, pA_90, pA_92, pA_3, pA_5, pA_93, pA_4, pA_91, pA_6, pS_i, pB_i, pW_i, pZ_0, pZ_1, pZ_b, bI_e0, u1_s, u1_n, uA_s, uA_n, true_and, and_true, not_true_eq_false, not_false_eq_true, eq_self, iI_z, al1, al5, al3, al4, al90, al91, al92, al93, al6, Int.cast_ofNat_Int, Nat.reduceAdd, Int.reduceNeg, Int.reduceAdd, Int.reduceSub, Int.reduceMul, Int.reduceLT, Int.reduceLE, Int.reduceGT, Int.reduceGE, Int.reduceEq, Int.reduceNe, Nat.reduceEqDiff, Int.zero_add, Int.add_zero, p_ty0, p_ty1, p_ty2, p_ty3, p_ty4, p_ty5, p_ty8, p_ty9, p_ty10, t0, ts3, ts', hin, gd_t]
  · rw [p_fv_rw h100, hF3, uA_s, u1_s, l1]
  · rw [p_mv_rw h100, hM3, uA_n (by omega), hM2, uA_s, u1_s]
  · rw [p_mv_rw (by omega), hM3, ← l1, uA_s, g1 _ (by omega) (by omega), hM2, uA_n (by omega), hM1, uA_n (by omega)]
    exact hlen.2.2 j hj
  · rw [hM3, uA_n (by omega), hM2, uA_n (by omega), hM1, uA_n (by omega)]
  · rw [hF3, uA_n (by omega), uA_n (by omega), hF1, uA_n (by omega)]
  · rw [hT3]; show T1.1.1 + 1 = _; omega
  · rw [hT3]; show T1.1.2 + ((tx.length : Int)).toNat = _; omega
/-- a new builder: the constructor, behind 'new' -/
theorem jd_init (h100 : 100 ≤ a ∧ a + 1 = T.1.1) (t0 : p_ty T a = (19, 4)) (m0 : M a = fun _ => 0) (f0 : F a = fun _ => none) : ∃ M' F', (∀ d, 2 ≤ d → callD d m_J4_init_da8c8 [.ref a] T M F = some (.inl none, p_new T 5 16, M', F')) ∧ SBo (p_new T 5 16) M' F' a T.1.1 16 [] ∧ ∀ c, c < T.1.1 → c ≠ a → M' c = M c ∧ F' c = F c := by
  have h1 : 100 ≤ T.1.1 := by omega
  have ne : a ≠ T.1.1 := by omega
  have t0' : p_ty (p_new T 5 16) a = (19, 4) := by rw [p_ty_nx (by omega)]; exact t0
  refine ⟨uA (uA M T.1.1 (fun _ => 0)) a (u1 (M a) 1 0), uA (uA F T.1.1 (fun _ => none)) a (u1 (F a) 0 (some T.1.1)), fun d hd => ?_, ⟨⟨h100.1, by show a < T.1.1 + 1; omega⟩, t0', by rw [uA_s, u1_s], ⟨h1, Nat.lt_succ_self _⟩, p_ty_nw h1, ne, by rw [uA_s, u1_s], by rw [uA_s, u1_n (by decide), m0]; rfl, Nat.zero_le _, by decide, fun j hj => absurd hj (Nat.not_lt_zero j)⟩, fun c c1 c2 => ⟨by rw [uA_n c2, uA_n (by omega)], by rw [uA_n c2, uA_n (by omega)]⟩⟩
  refine callD_go 1 hd rfl (fun e he => ?_)
  show R e m_J4_init_da8c8 0 [.val (.ref a)] [] T M F = _
  have h2 : callD e m_J5_init_d00df [.ref a, .int (iI 16)] T M F = some (.inl none, p_new T 5 16, uA (uA M T.1.1 (fun _ => 0)) a (u1 (M a) 1 0), uA (uA F T.1.1 (fun _ => none)) a (u1 (F a) 0 (some T.1.1))) := by
    refine callD_go 0 he rfl (fun e he => ?_)
    show R e m_J5_init_d00df 0 [.val (.ref a), .val (.int (iI 16))] [] T M F = _
    have e1 : uA M T.1.1 (fun _ => 0) a = M a := uA_n ne
    have e2 : uA F T.1.1 (fun _ => none) a = F a := uA_n ne
    have e3 : Int.toNat 16 = 16 := rfl
    clear m0 f0
    simp (disch := omega) only [x_J5_init_d00df_0, x_J5_init_d00df_1, x_J5_init_d00df_4, x_J5_init_d00df_7, x_J5_init_d00df_10, x_J5_init_d00df_11, x_J5_init_d00df_12, x_J5_init_d00df_14, x_J5_init_d00df_17, x_J5_init_d00df_18, x_J5_init_d00df_19, x_J5_init_d00df_22, x_J5_init_d00df_25, x_J5_init_d00df_26, x_J5_init_d00df_27, x_J5_init_d00df_30, x_J5_init_d00df_33, x_J5_init_d00df_34, x_J5_init_d00df_35, x_J5_init_d00df_38, List.length_cons, List.length_nil, Nat.reduceLeDiff, Nat.zero_add, iI_add, iI_sub, iI_mul, iI_neg, iI_lt, iI_le, iI_eq, jI_iI, B_True, B_False, B_t, B_f, ck_True, gd_True, cb_v, cb_n, p_mv_rw, p_fv_rw, p_rv_some, pA_1, pA_90, pA_92, pA_3, pA_5, pA_93, pA_4, pA_91, pA_6, pS_i, pB_i, pW_i, pZ_0, pZ_1, pZ_b, bI_e0, u1_s, u1_n, uA_s, uA_n, true_and, and_true, not_true_eq_false, not_false_eq_true, eq_self, iI_z, al1, al5, al3, al4, al90, al91, al92, al93, al6, Int.cast_ofNat_Int, Nat.reduceAdd, Int.reduceNeg, Int.reduceAdd, Int.reduceSub, Int.reduceMul, Int.reduceLT, Int.reduceLE, Int.reduceGT, Int.reduceGE, Int.reduceEq, Int.reduceNe, Nat.reduceEqDiff, Int.zero_add, Int.add_zero, p_ty0, p_ty1, p_ty2, p_ty3, p_ty4, p_ty5, p_ty8, p_ty9, p_ty10, t0, t0', e1, e2, e3, gd_t, B_t, B_f]
  clear m0 f0
  simp (disch := omega) only [x_J4_init_da8c8_0, x_J4_init_da8c8_1, x_J4_init_da8c8_3, x_J4_init_da8c8_6, List.length_cons, List.length_nil, Nat.reduceLeDiff, Nat.zero_add, iI_add, iI_sub, iI_mul, iI_neg, iI_lt, iI_le, iI_eq, jI_iI, B_True, B_False, B_t, B_f, ck_True, gd_True, cb_v, cb_n, p_mv_rw, p_fv_rw, p_rv_some, pA_1, pA_90, pA_92, pA_3, pA_5, pA_93, pA_4, pA_91, pA_6, pS_i, pB_i, pW_i, pZ_0, pZ_1, pZ_b, bI_e0, u1_s, u1_n, uA_s, uA_n, true_and, and_true, not_true_eq_false, not_false_eq_true, eq_self, iI_z, al1, al5, al3, al4, al90, al91, al92, al93, al6, Int.cast_ofNat_Int, Nat.reduceAdd, Int.reduceNeg, Int.reduceAdd, Int.reduceSub, Int.reduceMul, Int.reduceLT, Int.reduceLE, Int.reduceGT, Int.reduceGE, Int.reduceEq, Int.reduceNe, Nat.reduceEqDiff, Int.zero_add, Int.add_zero, p_ty0, p_ty1, p_ty2, p_ty3, p_ty4, p_ty5, p_ty8, p_ty9, p_ty10, t0, h2, gd_t]
end PTOS
