section PSTR
/-! bytes and strings -/
theorem u32i (u : UInt32) : u.toInt32 = iI (u.toNat : Int) := by
  apply Int32.toBitVec_inj.mp
  rw [bN32]
  show u.toBitVec = BitVec.ofNat 32 u.toBitVec.toNat
  rw [BitVec.ofNat_toNat, BitVec.setWidth_eq]
theorem and255 {a : Nat} (h : a < 2 ^ 32) : iI (a : Int) &&& iI 255 = iI ((a % 256 : Nat) : Int) := by
  apply Int32.toBitVec_inj.mp
  rw [show (255 : Int) = ((2 ^ 8 - 1 : Nat) : Int) from rfl, Int32.toBitVec_and, bN32, bN32, bN32]
  apply BitVec.eq_of_toNat_eq
  have h4 : a % 256 ≤ a := Nat.mod_le ..
  rw [BitVec.toNat_and, BitVec.toNat_ofNat, BitVec.toNat_ofNat, BitVec.toNat_ofNat, Nat.mod_eq_of_lt (a := a) (by omega), Nat.mod_eq_of_lt (a := 2 ^ 8 - 1) (by decide), Nat.and_two_pow_sub_one_eq_mod, Nat.mod_eq_of_lt (a := a % 256) (by omega)]
/-- the bytes of a number, the first is the highest -/
def nbt (x : Int32) (j : Nat) : Int := ((x.toUInt32.toNat / 2 ^ (24 - 8 * j) % 256 : Nat) : Int)
theorem nbt_rg (x : Int32) (j : Nat) : 0 ≤ nbt x j ∧ nbt x j < 256 := by unfold nbt; omega
theorem ushr (x : Int32) (k : Nat) (y : UInt32) (hy : y.toNat % 32 = k) : (x.toUInt32 >>> y).toInt32 = iI ((x.toUInt32.toNat / 2 ^ k : Nat) : Int) := by
  rw [u32i, UInt32.toNat_shiftRight, hy, Nat.shiftRight_eq_div_pow]
theorem x_u32 (x : Int32) : x = iI (x.toUInt32.toNat : Int) := by
  rw [← u32i]; rfl
theorem nbt0 (x : Int32) : (x.toUInt32 >>> (Int32.toUInt32 (iI 24) &&& Int32.toUInt32 31)).toInt32 = iI (nbt x 0) := by
  rw [ushr x 24 _ rfl]
  have := x.toUInt32.toNat_lt
  unfold nbt
  rw [show 24 - 8 * 0 = 24 from rfl, Nat.mod_eq_of_lt (by omega)]
theorem nbtm (x : Int32) (j : Nat) (y : UInt32) (hy : y.toNat % 32 = 24 - 8 * j) : (x.toUInt32 >>> y).toInt32 &&& iI 255 = iI (nbt x j) := by
  rw [ushr x _ _ hy, and255]
  · rfl
  · have := x.toUInt32.toNat_lt
    have h2 : x.toUInt32.toNat / 2 ^ (24 - 8 * j) ≤ x.toUInt32.toNat := Nat.div_le_self ..
    omega
theorem nbt1 (x : Int32) : (x.toUInt32 >>> (Int32.toUInt32 (iI 16) &&& Int32.toUInt32 31)).toInt32 &&& iI 255 = iI (nbt x 1) := nbtm x 1 _ rfl
theorem nbt2 (x : Int32) : (x.toUInt32 >>> (Int32.toUInt32 (iI 8) &&& Int32.toUInt32 31)).toInt32 &&& iI 255 = iI (nbt x 2) := nbtm x 2 _ rfl
theorem nbt3 (x : Int32) : x &&& iI 255 = iI (nbt x 3) := by
  have h := and255 (a := x.toUInt32.toNat) x.toUInt32.toNat_lt
  rw [← x_u32 x] at h
  rw [h]
  unfold nbt
  rw [show 24 - 8 * 3 = 0 from rfl, Nat.pow_zero, Nat.div_one]
def SWc (s v : Nat) : Bool := decide (p_roT s = (21, 2)) && decide (p_roF s 0 = some v) && decide (p_roM s 1 = 0) && decide (p_roT v = (93, (p_roL v).length)) && decide ((p_roL v).length ≤ 12) && (p_roL v).all (fun x => decide (0 ≤ x) && decide (x < 128))
/-- a string that is given -/
def SW (s v : Nat) : Prop := (s < 100 ∧ s ≠ 29) ∧ (v < 100 ∧ v ≠ 29) ∧ SWc s v = true
theorem SW.k : ∀ k : Nat, k < 16 → SW (30 + k) (64 + k) := by
  have h : ∀ k : Nat, k < 16 → SWc (30 + k) (64 + k) = true := by decide +kernel
  exact fun k hk => ⟨by omega, by omega, h k hk⟩
theorem SW.w : ∀ k : Nat, k < 6 → SW (50 + k) (82 + k) := by
  have h : ∀ k : Nat, k < 6 → SWc (50 + k) (82 + k) = true := by decide +kernel
  exact fun k hk => ⟨by omega, by omega, h k hk⟩
variable {d s v : Nat} {T : pT} {M : pM} {F : pF} {i : Int}
theorem SW.f (h : SW s v) : p_ty T s = (21, 2) ∧ p_fv F s 0 = some v ∧ p_mv M s 1 = 0 ∧ p_ty T v = (93, (p_roL v).length) ∧ (p_roL v).length ≤ 12 ∧ ∀ x ∈ p_roL v, 0 ≤ x ∧ x < 128 := by
  obtain ⟨⟨h1, h2⟩, ⟨h3, h4⟩, h5⟩ := h
  unfold SWc at h5
  simp only [Bool.and_eq_true, decide_eq_true_eq, List.all_eq_true] at h5
  obtain ⟨⟨⟨⟨⟨a1, a2⟩, a3⟩, a4⟩, a5⟩, a6⟩ := h5
  exact ⟨by rw [p_ty_ro h1 h2]; exact a1, by rw [p_fv_ro h1 h2]; exact a2, by rw [p_mv_ro h1 h2]; exact a3, by rw [p_ty_ro h3 h4]; exact a4, a5, a6⟩
theorem sh0 (n : Int) : iI n >>> (iI 0 &&& 31) = iI n := by
  apply Int32.toBitVec_inj.mp
  show (iI n).toBitVec.sshiftRight' ((iI 0 &&& 31 : Int32).toBitVec.smod 32) = _
  rw [show (iI 0 &&& 31 : Int32).toBitVec.smod 32 = 0#32 from by decide, BitVec.sshiftRight_eq']
  simp
theorem s_coder (h : SW s v) (hd : 1 ≤ d) : callD d m_J0_coder_7d493 [.ref s] T M F = some (.inl (some (.int (iI 0))), T, M, F) := by
  refine callD_go 0 hd rfl (fun e he => ?_)
  show R e m_J0_coder_7d493 0 [.val (.ref s)] [] T M F = _
  obtain ⟨t0, f0, m0, t1, l1, b1⟩ := h.f (T := T) (M := M) (F := F)
  clear b1
  simp (disch := omega) only [x_J0_coder_7d493_0, x_J0_coder_7d493_3, x_J0_coder_7d493_6, x_J0_coder_7d493_7, x_J0_coder_7d493_10, x_J0_coder_7d493_13, x_J0_coder_7d493_14, List.length_cons, List.length_nil, Nat.reduceLeDiff, Nat.zero_add, iI_add, iI_sub, iI_mul, iI_neg, iI_lt, iI_le, iI_eq, jI_iI, B_True, B_False, B_t, B_f, ck_True, gd_True, cb_v, cb_n, p_mv_rw, p_fv_rw, p_rv_some, pA_1, pA_90, pA_92, pA_3, pA_5, pA_93, pA_4, pA_91, pA_6, pS_i, pB_i, pW_i, pZ_0, pZ_1, pZ_b, bI_e0, u1_s, u1_n, uA_s, uA_n, true_and, and_true, not_true_eq_false, not_false_eq_true, eq_self, iI_z, al1, al5, al3, al4, al90, al91, al92, al93, al6, Int.cast_ofNat_Int, Nat.reduceAdd, Int.reduceNeg, Int.reduceAdd, Int.reduceSub, Int.reduceMul, Int.reduceLT, Int.reduceLE, Int.reduceGT, Int.reduceGE, Int.reduceEq, Int.reduceNe, Nat.reduceEqDiff, Int.zero_add, Int.add_zero, p_ty0, p_ty1, p_ty2, p_ty3, p_ty4, p_ty5, p_ty8, p_ty9, p_ty10, t0, f0, m0, gd_t]
theorem s_latin (h : SW s v) (hd : 1 ≤ d) : callD d m_J0_isLatin1_aae02 [.ref s] T M F = some (.inl (some (.int (iI 1))), T, M, F) := by
  refine callD_go 0 hd rfl (fun e he => ?_)
  show R e m_J0_isLatin1_aae02 0 [.val (.ref s)] [] T M F = _
  obtain ⟨t0, f0, m0, t1, l1, b1⟩ := h.f (T := T) (M := M) (F := F)
  clear b1
  simp (disch := omega) only [x_J0_isLatin1_aae02_0, x_J0_isLatin1_aae02_3, x_J0_isLatin1_aae02_6, x_J0_isLatin1_aae02_7, x_J0_isLatin1_aae02_10, x_J0_isLatin1_aae02_13, x_J0_isLatin1_aae02_14, x_J0_isLatin1_aae02_17, x_J0_isLatin1_aae02_18, List.length_cons, List.length_nil, Nat.reduceLeDiff, Nat.zero_add, iI_add, iI_sub, iI_mul, iI_neg, iI_lt, iI_le, iI_eq, jI_iI, B_True, B_False, B_t, B_f, ck_True, gd_True, cb_v, cb_n, p_mv_rw, p_fv_rw, p_rv_some, pA_1, pA_90, pA_92, pA_3, pA_5, pA_93, pA_4, pA_91, pA_6, pS_i, pB_i, pW_i, pZ_0, pZ_1, pZ_b, bI_e0, u1_s, u1_n, uA_s, uA_n, true_and, and_true, not_true_eq_false, not_false_eq_true, eq_self, iI_z, al1, al5, al3, al4, al90, al91, al92, al93, al6, Int.cast_ofNat_Int, Nat.reduceAdd, Int.reduceNeg, Int.reduceAdd, Int.reduceSub, Int.reduceMul, Int.reduceLT, Int.reduceLE, Int.reduceGT, Int.reduceGE, Int.reduceEq, Int.reduceNe, Nat.reduceEqDiff, Int.zero_add, Int.add_zero, p_ty0, p_ty1, p_ty2, p_ty3, p_ty4, p_ty5, p_ty8, p_ty9, p_ty10, t0, f0, m0, gd_t]
theorem s_length (h : SW s v) (hd : 2 ≤ d) : callD d m_J0_length_8abf5 [.ref s] T M F = some (.inl (some (.int (iI ((p_roL v).length : Int)))), T, M, F) := by
  refine callD_go 1 hd rfl (fun e he => ?_)
  show R e m_J0_length_8abf5 0 [.val (.ref s)] [] T M F = _
  have h1 := s_coder (d := e) (T := T) (M := M) (F := F) h (by omega)
  obtain ⟨t0, f0, m0, t1, l1, b1⟩ := h.f (T := T) (M := M) (F := F)
  clear b1
  simp (disch := omega) only [x_J0_length_8abf5_0, x_J0_length_8abf5_1, x_J0_length_8abf5_4, x_J0_length_8abf5_5, x_J0_length_8abf5_6, x_J0_length_8abf5_9, x_J0_length_8abf5_10, List.length_cons, List.length_nil, Nat.reduceLeDiff, Nat.zero_add, iI_add, iI_sub, iI_mul, iI_neg, iI_lt, iI_le, iI_eq, jI_iI, B_True, B_False, B_t, B_f, ck_True, gd_True, cb_v, cb_n, p_mv_rw, p_fv_rw, p_rv_some, pA_1, pA_90, pA_92, pA_3, pA_5, pA_93, pA_4, pA_91, pA_6, pS_i, pB_i, pW_i, pZ_0, pZ_1, pZ_b, bI_e0, u1_s, u1_n, uA_s, uA_n, true_and, and_true, not_true_eq_false, not_false_eq_true, eq_self, iI_z, al1, al5, al3, al4, al90, al91, al92, al93, al6, Int.cast_ofNat_Int, Nat.reduceAdd, Int.reduceNeg, Int.reduceAdd, Int.reduceSub, Int.reduceMul, Int.reduceLT, Int.reduceLE, Int.reduceGT, Int.reduceGE, Int.reduceEq, Int.reduceNe, Nat.reduceEqDiff, Int.zero_add, Int.add_zero, p_ty0, p_ty1, p_ty2, p_ty3, p_ty4, p_ty5, p_ty8, p_ty9, p_ty10, t0, f0, m0, t1, h1, sh0, gd_t]
theorem p_ci {n : Int} (hd : 1 ≤ d) (hi : 0 ≤ i ∧ i < n) (hn : n ≤ 1000) : callD d m_J3_checkIndex_8e157 [.int (iI i), .int (iI n), .ref 28] T M F = some (.inl (some (.int (iI i))), T, M, F) := by
  refine callD_go 0 hd rfl (fun e he => ?_)
  show R e m_J3_checkIndex_8e157 0 [.val (.int (iI i)), .val (.int (iI n)), .val (.ref 28)] [] T M F = _
  simp (disch := omega) only [x_J3_checkIndex_8e157_0, x_J3_checkIndex_8e157_1, x_J3_checkIndex_8e157_4, x_J3_checkIndex_8e157_5, x_J3_checkIndex_8e157_6, x_J3_checkIndex_8e157_9, x_J3_checkIndex_8e157_10, x_J3_checkIndex_8e157_11, x_J3_checkIndex_8e157_16, x_J3_checkIndex_8e157_17, List.length_cons, List.length_nil, Nat.reduceLeDiff, Nat.zero_add, iI_add, iI_sub, iI_mul, iI_neg, iI_lt, iI_le, iI_eq, jI_iI, B_True, B_False, B_t, B_f, ck_True, gd_True, cb_v, cb_n, p_mv_rw, p_fv_rw, p_rv_some, pA_1, pA_90, pA_92, pA_3, pA_5, pA_93, pA_4, pA_91, pA_6, pS_i, pB_i, pW_i, pZ_0, pZ_1, pZ_b, bI_e0, u1_s, u1_n, uA_s, uA_n, true_and, and_true, not_true_eq_false, not_false_eq_true, eq_self, iI_z, al1, al5, al3, al4, al90, al91, al92, al93, al6, Int.cast_ofNat_Int, Nat.reduceAdd, Int.reduceNeg, Int.reduceAdd, Int.reduceSub, Int.reduceMul, Int.reduceLT, Int.reduceLE, Int.reduceGT, Int.reduceGE, Int.reduceEq, Int.reduceNe, Nat.reduceEqDiff, Int.zero_add, Int.add_zero, p_ty0, p_ty1, p_ty2, p_ty3, p_ty4, p_ty5, p_ty8, p_ty9, p_ty10, gd_t, B_t, B_f]
theorem s_ci {n : Int} (hd : 2 ≤ d) (hi : 0 ≤ i ∧ i < n) (hn : n ≤ 1000) : callD d m_J0_checkIndex_df160 [.int (iI i), .int (iI n)] T M F = some (.inl none, T, M, F) := by
  refine callD_go 1 hd rfl (fun e he => ?_)
  show R e m_J0_checkIndex_df160 0 [.val (.int (iI i)), .val (.int (iI n))] [] T M F = _
  have h1 := p_ci (d := e) (T := T) (M := M) (F := F) (by omega) hi hn
  simp (disch := omega) only [x_J0_checkIndex_df160_0, x_J0_checkIndex_df160_1, x_J0_checkIndex_df160_2, x_J0_checkIndex_df160_5, x_J0_checkIndex_df160_8, x_J0_checkIndex_df160_9, List.length_cons, List.length_nil, Nat.reduceLeDiff, Nat.zero_add, iI_add, iI_sub, iI_mul, iI_neg, iI_lt, iI_le, iI_eq, jI_iI, B_True, B_False, B_t, B_f, ck_True, gd_True, cb_v, cb_n, p_mv_rw, p_fv_rw, p_rv_some, pA_1, pA_90, pA_92, pA_3, pA_5, pA_93, pA_4, pA_91, pA_6, pS_i, pB_i, pW_i, pZ_0, pZ_1, pZ_b, bI_e0, u1_s, u1_n, uA_s, uA_n, true_and, and_true, not_true_eq_false, not_false_eq_true, eq_self, iI_z, al1, al5, al3, al4, al90, al91, al92, al93, al6, Int.cast_ofNat_Int, Nat.reduceAdd, Int.reduceNeg, Int.reduceAdd, Int.reduceSub, Int.reduceMul, Int.reduceLT, Int.reduceLE, Int.reduceGT, Int.reduceGE, Int.reduceEq, Int.reduceNe, Nat.reduceEqDiff, Int.zero_add, Int.add_zero, p_ty0, p_ty1, p_ty2, p_ty3, p_ty4, p_ty5, p_ty8, p_ty9, p_ty10, h1, gd_t]
theorem i2c_id {x : Int} (h : 0 ≤ x ∧ x < 65536) : ((iI x).toUInt32 % 65536).toInt32 = iI x := by
  obtain ⟨n, rfl⟩ := Int.eq_ofNat_of_zero_le h.1
  rw [u32i, UInt32.toNat_mod]
  have : (iI (n : Int)).toUInt32.toNat = n := by
    show (iI (n : Int)).toBitVec.toNat = n
    rw [bN32, BitVec.toNat_ofNat, Nat.mod_eq_of_lt (by omega)]
  rw [this]
  show iI ((n % 65536 : Nat) : Int) = _
  rw [Nat.mod_eq_of_lt (by omega)]
theorem SW.ch (h : SW s v) (hi : 0 ≤ i ∧ i < (p_roL v).length) : 0 ≤ p_roM v i ∧ p_roM v i < 128 := by
  obtain ⟨-, -, -, -, -, b1⟩ := h.f (T := ((0, 0), fun _ => (0, 0))) (M := fun _ _ => 0) (F := fun _ _ => none)
  unfold p_roM
  rw [List.getD_eq_getElem?_getD, List.getElem?_eq_getElem (by omega)]
  exact b1 _ (List.getElem_mem _)
theorem s_charL (h : SW s v) (hi : 0 ≤ i ∧ i < (p_roL v).length) (hd : 3 ≤ d) : callD d m_J1_charAt_3b067 [.ref v, .int (iI i)] T M F = some (.inl (some (.int (iI (p_roM v i)))), T, M, F) := by
  refine callD_go 2 hd rfl (fun e he => ?_)
  show R e m_J1_charAt_3b067 0 [.val (.ref v), .val (.int (iI i))] [] T M F = _
  obtain ⟨t0, f0, m0, t1, l1, b1⟩ := h.f (T := T) (M := M) (F := F)
  have h1 := s_ci (d := e) (T := T) (M := M) (F := F) (n := ((p_roL v).length : Int)) (by omega) hi (by omega)
  have hr := h.ch hi
  have hm : p_mv M v i = p_roM v i := p_mv_ro h.2.1.1 h.2.1.2
  have ha : iI (p_roM v i) &&& iI 255 = iI (p_roM v i) := by
    obtain ⟨n, hn⟩ := Int.eq_ofNat_of_zero_le hr.1
    rw [hn, and255 (by omega), Nat.mod_eq_of_lt (by omega)]
  have hc := i2c_id (x := p_roM v i) (by omega)
  clear b1 h
  simp (disch := omega) only [x_J1_charAt_3b067_0, x_J1_charAt_3b067_1, x_J1_charAt_3b067_2, x_J1_charAt_3b067_3, x_J1_charAt_3b067_6, x_J1_charAt_3b067_7, x_J1_charAt_3b067_8, x_J1_charAt_3b067_9, x_J1_charAt_3b067_12, x_J1_charAt_3b067_13, x_J1_charAt_3b067_14, List.length_cons, List.length_nil, Nat.reduceLeDiff, Nat.zero_add, iI_add, iI_sub, iI_mul, iI_neg, iI_lt, iI_le, iI_eq, jI_iI, B_True, B_False, B_t, B_f, ck_True, gd_True, cb_v, cb_n, p_mv_rw, p_fv_rw, p_rv_some, pA_1, pA_90, pA_92, pA_3, pA_5, pA_93, pA_4, pA_91, pA_6, pS_i, pB_i, pW_i, pZ_0, pZ_1, pZ_b, bI_e0, u1_s, u1_n, uA_s, uA_n, true_and, and_true, not_true_eq_false, not_false_eq_true, eq_self, iI_z, al1, al5, al3, al4, al90, al91, al92, al93, al6, Int.cast_ofNat_Int, Nat.reduceAdd, Int.reduceNeg, Int.reduceAdd, Int.reduceSub, Int.reduceMul, Int.reduceLT, Int.reduceLE, Int.reduceGT, Int.reduceGE, Int.reduceEq, Int.reduceNe, Nat.reduceEqDiff, Int.zero_add, Int.add_zero, p_ty0, p_ty1, p_ty2, p_ty3, p_ty4, p_ty5, p_ty8, p_ty9, p_ty10, t1, h1, hm, ha, hc, gd_t]
theorem s_charAt (h : SW s v) (hi : 0 ≤ i ∧ i < (p_roL v).length) (hd : 4 ≤ d) : callD d m_J0_charAt_5068e [.ref s, .int (iI i)] T M F = some (.inl (some (.int (iI (p_roM v i)))), T, M, F) := by
  refine callD_go 3 hd rfl (fun e he => ?_)
  show R e m_J0_charAt_5068e 0 [.val (.ref s), .val (.int (iI i))] [] T M F = _
  have h1 := s_latin (d := e) (T := T) (M := M) (F := F) h (by omega)
  have h2 := s_charL (d := e) (T := T) (M := M) (F := F) h hi he
  have hr := h.ch hi
  obtain ⟨t0, f0, m0, t1, l1, b1⟩ := h.f (T := T) (M := M) (F := F)
  clear b1 h
  simp (disch := omega) only [x_J0_charAt_5068e_0, x_J0_charAt_5068e_1, x_J0_charAt_5068e_4, x_J0_charAt_5068e_7, x_J0_charAt_5068e_8, x_J0_charAt_5068e_11, x_J0_charAt_5068e_12, x_J0_charAt_5068e_15, x_J0_charAt_5068e_16, x_J0_charAt_5068e_17, x_J0_charAt_5068e_20, x_J0_charAt_5068e_21, x_J0_charAt_5068e_24, List.length_cons, List.length_nil, Nat.reduceLeDiff, Nat.zero_add, iI_add, iI_sub, iI_mul, iI_neg, iI_lt, iI_le, iI_eq, jI_iI, B_True, B_False, B_t, B_f, ck_True, gd_True, cb_v, cb_n, p_mv_rw, p_fv_rw, p_rv_some, pA_1, pA_90, pA_92, pA_3, pA_5, pA_93, pA_4, pA_91, pA_6, pS_i, pB_i, pW_i, pZ_0, pZ_1, pZ_b, bI_e0, u1_s, u1_n, uA_s, uA_n, true_and, and_true, not_true_eq_false, not_false_eq_true, eq_self, iI_z, al1, al5, al3, al4, al90, al91, al92, al93, al6, Int.cast_ofNat_Int, Nat.reduceAdd, Int.reduceNeg, Int.reduceAdd, Int.reduceSub, Int.reduceMul, Int.reduceLT, Int.reduceLE, Int.reduceGT, Int.reduceGE, Int.reduceEq, Int.reduceNe, Nat.reduceEqDiff, Int.zero_add, Int.add_zero, p_ty0, p_ty1, p_ty2, p_ty3, p_ty4, p_ty5, p_ty8, p_ty9, p_ty10, t0, f0, m0, t1, h1, h2, gd_t]
end PSTR
