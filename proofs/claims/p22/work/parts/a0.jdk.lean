section PJDK
/-! StringBuilder and String over the cells -/
variable {d a b n s v : Nat} {T T1 : pT} {M M1 : pM} {F F1 : pF} {tx ws : List Int} {i m o p q c mn k : Int}
theorem shl0 (n : Int) : iI n <<< (iI 0 &&& 31) = iI n := by
  apply Int32.toBitVec_inj.mp
  show (iI n).toBitVec <<< ((iI 0 &&& 31 : Int32).toBitVec.smod 32) = _
  rw [show (iI 0 &&& 31 : Int32).toBitVec.smod 32 = 0#32 from by decide]
  simp
theorem jd_len (hd : 2 ≤ d) (ho : 0 ≤ o ∧ o ≤ 100000) (hm : 0 ≤ m ∧ m ≤ 100000) (hp : 1 ≤ p ∧ p ≤ 100000) : callD d m_J8_newLength_cabcc [.int (iI o), .int (iI m), .int (iI p)] T M F = some (.inl (some (.int (iI (o + (if m < p then p else m))))), T, M, F) := by
  refine callD_go 1 hd rfl (fun e he => ?_)
  show R e m_J8_newLength_cabcc 0 [.val (.int (iI o)), .val (.int (iI m)), .val (.int (iI p)), .unset] [] T M F = _
  have h1 := y_max (d := e) (T := T) (M := M) (F := F) (a := m) (n := p) (by omega) (by omega) (by omega)
  have hr : 1 ≤ (if m < p then p else m) ∧ (if m < p then p else m) ≤ 100000 := by split <;> omega
  generalize (if m < p then p else m) = z at *
  simp (disch := omega) only [x_J8_newLength_cabcc_0, x_J8_newLength_cabcc_1, x_J8_newLength_cabcc_2, x_J8_newLength_cabcc_3, x_J8_newLength_cabcc_6, x_J8_newLength_cabcc_7, x_J8_newLength_cabcc_8, x_J8_newLength_cabcc_9, x_J8_newLength_cabcc_10, x_J8_newLength_cabcc_13, x_J8_newLength_cabcc_14, x_J8_newLength_cabcc_16, x_J8_newLength_cabcc_19, x_J8_newLength_cabcc_20, List.length_cons, List.length_nil, Nat.reduceLeDiff, Nat.zero_add, iI_add, iI_sub, iI_mul, iI_neg, iI_lt, iI_le, iI_eq, jI_iI, B_True, B_False, B_t, B_f, ck_True, gd_True, cb_v, cb_n, p_mv_rw, p_fv_rw, p_rv_some, pA_1, pA_90, pA_92, pA_3, pA_5, pA_93, pA_4, pA_91, pA_6, pS_i, pB_i, pW_i, pZ_0, pZ_1, pZ_b, bI_e0, u1_s, u1_n, uA_s, uA_n, true_and, and_true, not_true_eq_false, not_false_eq_true, eq_self, iI_z, al1, al5, al3, al4, al90, al91, al92, al93, al6, Int.cast_ofNat_Int, Nat.reduceAdd, Int.reduceNeg, Int.reduceAdd, Int.reduceSub, Int.reduceMul, Int.reduceLT, Int.reduceLE, Int.reduceGT, Int.reduceGE, Int.reduceEq, Int.reduceNe, Nat.reduceEqDiff, Int.zero_add, Int.add_zero, p_ty0, p_ty1, p_ty2, p_ty3, p_ty4, p_ty5, p_ty8, p_ty9, p_ty10, h1, gd_t, B_t, B_f]
/-- the builder at a, its bytes at b, what it holds -/
def SBo (T : pT) (M : pM) (F : pF) (a b n : Nat) (tx : List Int) : Prop := (100 ≤ a ∧ a < T.1.1) ∧ p_ty T a = (19, 4) ∧ F a 0 = some b ∧ (100 ≤ b ∧ b < T.1.1) ∧ p_ty T b = (5, n) ∧ a ≠ b ∧ M a 1 = 0 ∧ M a 3 = tx.length ∧ tx.length ≤ n ∧ n ≤ 10000 ∧ ∀ j : Nat, j < tx.length → M b (j : Int) = tx.getD j 0
def STx (T : pT) (M : pM) (F : pF) (s v : Nat) (ws : List Int) : Prop := (∃ x, p_ty T s = (21, x)) ∧ p_fv F s 0 = some v ∧ p_mv M s 1 = 0 ∧ (p_ty T v = (5, ws.length) ∧ 100 ≤ v ∨ p_ty T v = (93, ws.length) ∧ v < 100 ∧ v ≠ 29) ∧ (∀ j : Nat, j < ws.length → p_mv M v (j : Int) = ws.getD j 0) ∧ ws.length ≤ 1000 ∧ ∀ x ∈ ws, 0 ≤ x ∧ x < 128
theorem STx.w (h : SW s v) : STx T M F s v (p_roL v) := by
  obtain ⟨t0, f0, m0, t1, l1, b1⟩ := h.f (T := T) (M := M) (F := F)
  refine ⟨⟨2, t0⟩, f0, m0, Or.inr ⟨t1, h.2.1.1, h.2.1.2⟩, fun j hj => ?_, by omega, b1⟩
  rw [p_mv_ro h.2.1.1 h.2.1.2]
  unfold p_roM
  rw [Int.toNat_natCast]
theorem jd_cap (hB : SBo T M F a b n tx) (hmn : (n : Int) < mn ∧ mn ≤ 10000) (hd : 3 ≤ d) : callD d m_J5_newCapacity_0f7a4 [.ref a, .int (iI mn)] T M F = some (.inl (some (.int (iI ((n : Int) + (if mn - n < n + 2 then (n : Int) + 2 else mn - n))))), T, M, F) := by
  refine callD_go 2 hd rfl (fun e he => ?_)
  show R e m_J5_newCapacity_0f7a4 0 [.val (.ref a), .val (.int (iI mn)), .unset, .unset, .unset, .unset] [] T M F = _
  obtain ⟨⟨h100, hlt⟩, t0, f0, ⟨hb, hbl⟩, t1, hab, m0, m1, l1, l2, -⟩ := hB
  have h1 := jd_len (d := e) (T := T) (M := M) (F := F) (o := n) (m := mn - n) (p := n + 2) (by omega) (by omega) (by omega) (by omega)
  have hr : 1 ≤ (if mn - n < n + 2 then (n : Int) + 2 else mn - n) ∧ (if mn - n < n + 2 then (n : Int) + 2 else mn - n) ≤ 100000 := by split <;> omega
  generalize (if mn - n < n + 2 then (n : Int) + 2 else mn - n) = z at *
  simp (disch := omega) only [x_J5_newCapacity_0f7a4_0, x_J5_newCapacity_0f7a4_1, x_J5_newCapacity_0f7a4_4, x_J5_newCapacity_0f7a4_5, x_J5_newCapacity_0f7a4_6, x_J5_newCapacity_0f7a4_7, x_J5_newCapacity_0f7a4_8, x_J5_newCapacity_0f7a4_11, x_J5_newCapacity_0f7a4_12, x_J5_newCapacity_0f7a4_13, x_J5_newCapacity_0f7a4_14, x_J5_newCapacity_0f7a4_15, x_J5_newCapacity_0f7a4_16, x_J5_newCapacity_0f7a4_18, x_J5_newCapacity_0f7a4_19, x_J5_newCapacity_0f7a4_21, x_J5_newCapacity_0f7a4_22, x_J5_newCapacity_0f7a4_23, x_J5_newCapacity_0f7a4_24, x_J5_newCapacity_0f7a4_27, x_J5_newCapacity_0f7a4_28, x_J5_newCapacity_0f7a4_29, x_J5_newCapacity_0f7a4_32, x_J5_newCapacity_0f7a4_34, x_J5_newCapacity_0f7a4_36, x_J5_newCapacity_0f7a4_38, x_J5_newCapacity_0f7a4_51, x_J5_newCapacity_0f7a4_53, x_J5_newCapacity_0f7a4_54, x_J5_newCapacity_0f7a4_57, x_J5_newCapacity_0f7a4_58, List.length_cons, List.length_nil, Nat.reduceLeDiff, Nat.zero_add, iI_add, iI_sub, iI_mul, iI_neg, iI_lt, iI_le, iI_eq, jI_iI, B_True, B_False, B_t, B_f, ck_True, gd_True, cb_v, cb_n, p_mv_rw, p_fv_rw, p_rv_some, pA_1, pA_90, pA_92, pA_3, pA_5, pA_93, pA_4, pA_91, pA_6, pS_i, pB_i, pW_i, pZ_0, pZ_1, pZ_b, bI_e0, u1_s, u1_n, uA_s, uA_n, true_and, and_true, not_true_eq_false, not_false_eq_true, eq_self, iI_z, al1, al5, al3, al4, al90, al91, al92, al93, al6, Int.cast_ofNat_Int, Nat.reduceAdd, Int.reduceNeg, Int.reduceAdd, Int.reduceSub, Int.reduceMul, Int.reduceLT, Int.reduceLE, Int.reduceGT, Int.reduceGE, Int.reduceEq, Int.reduceNe, Nat.reduceEqDiff, Int.zero_add, Int.add_zero, p_ty0, p_ty1, p_ty2, p_ty3, p_ty4, p_ty5, p_ty8, p_ty9, p_ty10, t0, f0, t1, m0, shl0, sh0, h1, gd_t, B_t, B_f]
theorem jd_copyOf (hb : 100 ≤ b ∧ b < T.1.1) (tb : p_ty T b = (5, n)) (hm : (n : Int) < m ∧ m ≤ 100000) (h100 : 100 ≤ T.1.1) (hd : 2 ≤ d) : callD d m_J7_copyOf_9075b [.ref b, .int (iI m)] T M F = some (.inl (some (.ref T.1.1)), p_new T 5 m.toNat, uA M T.1.1 (fun j => if 0 ≤ j ∧ j < (n : Int) then M b j else 0), uA F T.1.1 (fun _ => none)) := by
  refine callD_go 1 hd rfl (fun e he => ?_)
  show R e m_J7_copyOf_9075b 0 [.val (.ref b), .val (.int (iI m)), .unset] [] T M F = _
  have h1 := fun (T : pT) (M : pM) (F : pF) => y_min (d := e) (T := T) (M := M) (F := F) (a := n) (n := m) (by omega) (by omega) (by omega)
  rw [if_neg (by omega)] at h1
  have tb' : p_ty (p_new T 5 m.toNat) b = (5, n) := by rw [p_ty_nx (by omega)]; exact tb
  have tn : p_ty (p_new T 5 m.toNat) T.1.1 = (5, m.toNat) := p_ty_nw h100
  simp (disch := omega) only [x_J7_copyOf_9075b_0, x_J7_copyOf_9075b_1, x_J7_copyOf_9075b_2, x_J7_copyOf_9075b_3, x_J7_copyOf_9075b_6, x_J7_copyOf_9075b_7, x_J7_copyOf_9075b_10, x_J7_copyOf_9075b_13, x_J7_copyOf_9075b_14, x_J7_copyOf_9075b_15, x_J7_copyOf_9075b_17, x_J7_copyOf_9075b_18, x_J7_copyOf_9075b_19, x_J7_copyOf_9075b_20, x_J7_copyOf_9075b_21, x_J7_copyOf_9075b_22, x_J7_copyOf_9075b_23, x_J7_copyOf_9075b_24, x_J7_copyOf_9075b_25, x_J7_copyOf_9075b_28, x_J7_copyOf_9075b_31, x_J7_copyOf_9075b_32, List.length_cons, List.length_nil, Nat.reduceLeDiff, Nat.zero_add, iI_add, iI_sub, iI_mul, iI_neg, iI_lt, iI_le, iI_eq, jI_iI, B_True, B_False, B_t, B_f, ck_True, gd_True, cb_v, cb_n, p_mv_rw, p_fv_rw, p_rv_some, pA_1, pA_90, pA_92, pA_3, pA_5, pA_93, pA_4, pA_91, pA_6, pS_i, pB_i, pW_i, pZ_0, pZ_1, pZ_b, bI_e0, u1_s, u1_n, uA_s, uA_n, true_and, and_true, not_true_eq_false, not_false_eq_true, eq_self, iI_z, al1, al5, al3, al4, al90, al91, al92, al93, al6, Int.cast_ofNat_Int, Nat.reduceAdd, Int.reduceNeg, Int.reduceAdd, Int.reduceSub, Int.reduceMul, Int.reduceLT, Int.reduceLE, Int.reduceGT, Int.reduceGE, Int.reduceEq, Int.reduceNe, Nat.reduceEqDiff, Int.zero_add, Int.add_zero, p_ty0, p_ty1, p_ty2, p_ty3, p_ty4, p_ty5, p_ty8, p_ty9, p_ty10, tb, tb', tn, h1, ck_t, true_or, false_and, false_or, or_false, gd_t, B_t, B_f, uA_uA, Int.sub_zero]
/-- what is left alone -/
def SBk (T : pT) (M : pM) (F : pF) (M1 : pM) (F1 : pF) (a b : Nat) : Prop := (∀ c, c < T.1.1 → c ≠ a → c ≠ b → M1 c = M c) ∧ ∀ c, c < T.1.1 → c ≠ a → F1 c = F c
theorem SBk.rf : SBk T M F M F a b := ⟨fun _ _ _ _ => rfl, fun _ _ _ => rfl⟩
theorem jd_ens (hB : SBo T M F a b n tx) (hmn : 0 ≤ mn ∧ mn ≤ 4000) : ∃ T' M' F' b' n', (∀ d, 4 ≤ d → callD d m_J5_ensureCapacityInternal_d00df [.ref a, .int (iI mn)] T M F = some (.inl none, T', M', F')) ∧ SBo T' M' F' a b' n' tx ∧ mn ≤ (n' : Int) ∧ (n' = n ∨ (n' : Int) ≤ 2 * mn) ∧ SBk T M F M' F' a b ∧ (b' = b ∧ T' = T ∨ b' = T.1.1 ∧ T'.1.1 = T.1.1 + 1 ∧ T'.1.2 = T.1.2 + n' ∧ (n' : Int) ≤ 2 * mn) ∧ (∀ j, j ≠ 0 → F' a j = F a j) ∧ M' a = M a := by
  have hB' := hB
  obtain ⟨⟨h100, hlt⟩, t0, f0, ⟨hb, hbl⟩, t1, hab, m0, m1, l1, l2, l3⟩ := hB
  by_cases c0 : mn ≤ n
  · refine ⟨T, M, F, b, n, fun d hd => ?_, hB', c0, Or.inl rfl, .rf, Or.inl ⟨rfl, rfl⟩, fun _ _ => rfl, rfl⟩
    refine callD_go 3 hd rfl (fun e he => ?_)
    show R e m_J5_ensureCapacityInternal_d00df 0 [.val (.ref a), .val (.int (iI mn)), .unset] [] T M F = _
    clear hB' l3
    simp (disch := omega) only [x_J5_ensureCapacityInternal_d00df_0, x_J5_ensureCapacityInternal_d00df_1, x_J5_ensureCapacityInternal_d00df_4, x_J5_ensureCapacityInternal_d00df_5, x_J5_ensureCapacityInternal_d00df_6, x_J5_ensureCapacityInternal_d00df_9, x_J5_ensureCapacityInternal_d00df_10, x_J5_ensureCapacityInternal_d00df_11, x_J5_ensureCapacityInternal_d00df_12, x_J5_ensureCapacityInternal_d00df_13, x_J5_ensureCapacityInternal_d00df_14, x_J5_ensureCapacityInternal_d00df_17, x_J5_ensureCapacityInternal_d00df_18, x_J5_ensureCapacityInternal_d00df_19, x_J5_ensureCapacityInternal_d00df_22, x_J5_ensureCapacityInternal_d00df_23, x_J5_ensureCapacityInternal_d00df_24, x_J5_ensureCapacityInternal_d00df_27, x_J5_ensureCapacityInternal_d00df_28, x_J5_ensureCapacityInternal_d00df_31, x_J5_ensureCapacityInternal_d00df_32, x_J5_ensureCapacityInternal_d00df_35, x_J5_ensureCapacityInternal_d00df_38, List.length_cons, List.length_nil, Nat.reduceLeDiff, Nat.zero_add, iI_add, iI_sub, iI_mul, iI_neg, iI_lt, iI_le, iI_eq, jI_iI, B_True, B_False, B_t, B_f, ck_True, gd_True, cb_v, cb_n, p_mv_rw, p_fv_rw, p_rv_some, pA_1, pA_90, pA_92, pA_3, pA_5, pA_93, pA_4, pA_91, pA_6, pS_i, pB_i, pW_i, pZ_0, pZ_1, pZ_b, bI_e0, u1_s, u1_n, uA_s, uA_n, true_and, and_true, not_true_eq_false, not_false_eq_true, eq_self, iI_z, al1, al5, al3, al4, al90, al91, al92, al93, al6, Int.cast_ofNat_Int, Nat.reduceAdd, Int.reduceNeg, Int.reduceAdd, Int.reduceSub, Int.reduceMul, Int.reduceLT, Int.reduceLE, Int.reduceGT, Int.reduceGE, Int.reduceEq, Int.reduceNe, Nat.reduceEqDiff, Int.zero_add, Int.add_zero, p_ty0, p_ty1, p_ty2, p_ty3, p_ty4, p_ty5, p_ty8, p_ty9, p_ty10, t0, f0, t1, m0, sh0, gd_t, B_t, B_f]
  · obtain ⟨K, hK⟩ : ∃ K : Int, K = (n : Int) + (if mn - n < n + 2 then (n : Int) + 2 else mn - n) := ⟨_, rfl⟩
    have hK2 : mn ≤ K ∧ K ≤ 2 * mn ∧ (n : Int) < K := by
      rw [hK]; split <;> omega
    have e1 := fun (d : Nat) (hd : 3 ≤ d) => jd_cap (d := d) hB' (mn := mn) (by omega) hd
    rw [← hK] at e1
    have e2 := fun (d : Nat) (hd : 2 ≤ d) => jd_copyOf (d := d) (T := T) (M := M) (F := F) (m := K) ⟨hb, hbl⟩ t1 (by omega) (by omega) hd
    have ne : a ≠ T.1.1 := by omega
    have nb : b ≠ T.1.1 := by omega
    have t0' : p_ty (p_new T 5 K.toNat) a = (19, 4) := by rw [p_ty_nx hlt]; exact t0
    obtain ⟨M', hM⟩ : ∃ M' : pM, M' = uA M T.1.1 (fun j => if 0 ≤ j ∧ j < (n : Int) then M b j else 0) := ⟨_, rfl⟩
    obtain ⟨F', hF⟩ : ∃ F' : pF, F' = uA (uA F T.1.1 (fun _ => none)) a (u1 (uA F T.1.1 (fun _ => none) a) 0 (some T.1.1)) := ⟨_, rfl⟩
    have fa : F' a = u1 (F a) 0 (some T.1.1) := by rw [hF, uA_s, uA_n ne]
    refine ⟨p_new T 5 K.toNat, M', F', T.1.1, K.toNat, fun d hd => ?_, ⟨⟨h100, Nat.lt_succ_of_lt hlt⟩, t0', by rw [fa, u1_s], ⟨by omega, Nat.lt_succ_self _⟩, p_ty_nw (by omega), ne, by rw [hM, uA_n ne]; exact m0, by rw [hM, uA_n ne]; exact m1, by omega, by omega, fun j hj => ?_⟩, by omega, Or.inr (by omega), ⟨fun c c1 c2 c3 => by rw [hM, uA_n (by omega)], fun c c1 c2 => by rw [hF, uA_n c2, uA_n (by omega)]⟩, Or.inr ⟨rfl, rfl, rfl, by omega⟩, fun j hj => by rw [fa, u1_n hj], by rw [hM, uA_n ne]⟩
    · refine callD_go 3 hd rfl (fun e he => ?_)
      show R e m_J5_ensureCapacityInternal_d00df 0 [.val (.ref a), .val (.int (iI mn)), .unset] [] T M F = _
      have e1 := e1 e he
      have e2 := e2 e (by omega)
      have tn : p_ty (p_new T 5 K.toNat) T.1.1 = (5, K.toNat) := p_ty_nw (by omega)
      have mm : uA M T.1.1 (fun j => if 0 ≤ j ∧ j < (n : Int) then M b j else 0) a = M a := uA_n ne
      rw [hM, hF]
      clear hB' l3 hM hF fa hK
      simp (disch := omega) only [x_J5_ensureCapacityInternal_d00df_0, x_J5_ensureCapacityInternal_d00df_1, x_J5_ensureCapacityInternal_d00df_4, x_J5_ensureCapacityInternal_d00df_5, x_J5_ensureCapacityInternal_d00df_6, x_J5_ensureCapacityInternal_d00df_9, x_J5_ensureCapacityInternal_d00df_10, x_J5_ensureCapacityInternal_d00df_11, x_J5_ensureCapacityInternal_d00df_12, x_J5_ensureCapacityInternal_d00df_13, x_J5_ensureCapacityInternal_d00df_14, x_J5_ensureCapacityInternal_d00df_17, x_J5_ensureCapacityInternal_d00df_18, x_J5_ensureCapacityInternal_d00df_19, x_J5_ensureCapacityInternal_d00df_22, x_J5_ensureCapacityInternal_d00df_23, x_J5_ensureCapacityInternal_d00df_24, x_J5_ensureCapacityInternal_d00df_27, x_J5_ensureCapacityInternal_d00df_28, x_J5_ensureCapacityInternal_d00df_31, x_J5_ensureCapacityInternal_d00df_32, x_J5_ensureCapacityInternal_d00df_35, x_J5_ensureCapacityInternal_d00df_38, List.length_cons, List.length_nil, Nat.reduceLeDiff, Nat.zero_add, iI_add, iI_sub, iI_mul, iI_neg, iI_lt, iI_le, iI_eq, jI_iI, B_True, B_False, B_t, B_f, ck_True, gd_True, cb_v, cb_n, p_mv_rw, p_fv_rw, p_rv_some, pA_1, pA_90, pA_92, pA_3, pA_5, pA_93, pA_4, pA_91, pA_6, pS_i, pB_i, pW_i, pZ_0, pZ_1, pZ_b, bI_e0, u1_s, u1_n, uA_s, uA_n, true_and, and_true, not_true_eq_false, not_false_eq_true, eq_self, iI_z, al1, al5, al3, al4, al90, al91, al92, al93, al6, Int.cast_ofNat_Int, Nat.reduceAdd, Int.reduceNeg, Int.reduceAdd, Int.reduceSub, Int.reduceMul, Int.reduceLT, Int.reduceLE, Int.reduceGT, Int.reduceGE, Int.reduceEq, Int.reduceNe, Nat.reduceEqDiff, Int.zero_add, Int.add_zero, p_ty0, p_ty1, p_ty2, p_ty3, p_ty4, p_ty5, p_ty8, p_ty9, p_ty10, t0, f0, t1, m0, t0', sh0, shl0, e1, e2, gd_t, B_t, B_f]
    · rw [hM, uA_s]
      have hj' : 0 ≤ (j : Int) ∧ (j : Int) < n := by omega
      rw [if_pos hj']
      exact l3 j hj
end PJDK
