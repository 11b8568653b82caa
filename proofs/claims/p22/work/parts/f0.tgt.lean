section PTGT
variable {d k n c0 sr v m s b : Nat} {T T1 T2 : pT} {M M1 M2 : pM} {F F1 F2 : pF} {S S1 : GSx} {ea z i fr w : Int} {bs bs1 : Int → Int} {tx : List Int} {f : Int → Int}
/-- a call of the class, and one array -/
def KT (k c0 : Nat) (T : pT) (M : pM) (F : pF) (T1 : pT) (M1 : pM) (F1 : pF) : Prop := s_mono T T1 ∧ T1.1 = T.1 ∧ ∀ b, b < T.1.1 → (b < 100 + k ∨ 127 + k ≤ b) → b ≠ c0 → M1 b = M b ∧ F1 b = F b
theorem KT.rf : KT k c0 T M F T M F := ⟨s_mono.rf, rfl, fun _ _ _ _ => ⟨rfl, rfl⟩⟩
theorem KT.tr (h : KT k c0 T M F T1 M1 F1) (h' : KT k c0 T1 M1 F1 T2 M2 F2) : KT k c0 T M F T2 M2 F2 := ⟨h.1.tr h'.1, h'.2.1.trans h.2.1, fun b hb hk hc => by
  have h1 := h.2.2 b hb hk hc
  have h2 := h'.2.2 b (by rw [h.2.1]; exact hb) hk hc
  exact ⟨h2.1.trans h1.1, h2.2.trans h1.2⟩⟩
theorem KX.kt (h : KX k T M F T1 M1 F1) : KT k c0 T M F T1 M1 F1 := ⟨h.1, h.2.1, fun b hb hk _ => h.2.2 b hb hk⟩
theorem STx.kt (hX : STx T M F sr v tx) (h : KT k c0 T M F T1 M1 F1) (hs : (127 + k ≤ sr ∧ sr < T.1.1) ∧ (127 + k ≤ v ∧ v < T.1.1) ∧ sr ≠ c0 ∧ v ≠ c0) : STx T1 M1 F1 sr v tx :=
  hX.kp h.1 hs.1.2 hs.2.1.2 (h.2.2 sr hs.1.2 (Or.inr hs.1.1) hs.2.2.1).1 (h.2.2 v hs.2.1.2 (Or.inr hs.2.1.1) hs.2.2.2).1 (h.2.2 sr hs.1.2 (Or.inr hs.1.1) hs.2.2.1).2
theorem tf_L {e : Nat} (he : 10 ≤ e) (hch : ∀ x ∈ tx, 0 ≤ x ∧ x < 128) (hl : tx.length ≤ 260) (hc0 : 127 + k ≤ c0) : ∀ (nn : Nat) (fr : Int) (T : pT) (M : pM) (F : pF) (bs : Int → Int) (l4 l5 : Slot), 0 ≤ fr → (tx.length : Int) ≤ fr + 20 * nn → fr ≤ tx.length + 19 → LW k T M F S ea bs fr → (∀ q, q < fr → 0 ≤ q → bs q = txf tx q) → STx T M F sr v tx → ((127 + k ≤ sr ∧ sr < T.1.1) ∧ (127 + k ≤ v ∧ v < T.1.1) ∧ sr ≠ c0 ∧ v ≠ c0) → c0 < T.1.1 → p_ty T c0 = (1, 5) →
    ∃ (T1 : pT) (M1 : pM) (F1 : pF) (bs1 : Int → Int) (z1 : Int) (l4' l5' : Slot), R e m_L_taught 12 [.val (.ref (100 + k)), .val (.ref sr), .val (.ref c0), .val (.int (iI fr)), l4, l5] [] T M F = R e m_L_taught 125 [.val (.ref (100 + k)), .val (.ref sr), .val (.ref c0), .val (.int (iI z1)), l4', l5'] [] T1 M1 F1 ∧ LW k T1 M1 F1 S ea bs1 z1 ∧ ((tx.length : Int) ≤ z1 ∧ z1 ≤ 1000) ∧ (∀ q, q < z1 → 0 ≤ q → bs1 q = txf tx q) ∧ STx T1 M1 F1 sr v tx ∧ KT k c0 T M F T1 M1 F1
  | 0, fr, T, M, F, bs, l4, l5, h0, h1, h2, hW, hb, hX, hn, hc, tc => by
    refine ⟨T, M, F, bs, fr, l4, l5, ?_, hW, by omega, hb, hX, .rf⟩
    have lh := jd_length (d := e) hX (by omega)
    obtain ⟨y, ts⟩ := hX.1
    clear hW hb hX
    simp (disch := omega) only [x_L_taught_12, x_L_taught_13, x_L_taught_14, x_L_taught_17, List.length_cons, List.length_nil, Nat.reduceLeDiff, Nat.zero_add, iI_add, iI_sub, iI_mul, iI_neg, iI_lt, iI_le, iI_eq, jI_iI, B_True, B_False, B_t, B_f, ck_True, gd_True, cb_v, cb_n, p_mv_rw, p_fv_rw, p_rv_some, pA_1, pA_90, pA_92, pA_3, pA_5, pA_93, pA_4, pA_91, pA_6, pS_i, pB_i, pW_i, pZ_0, pZ_1, pZ_b, bI_e0, u1_s, u1_n, uA_s, uA_n, true_and, and_true, not_true_eq_false, not_false_eq_true, eq_self, iI_z, al1, al5, al3, al4, al90, al91, al92, al93, al6, Int.cast_ofNat_Int, Nat.reduceAdd, Int.reduceNeg, Int.reduceAdd, Int.reduceSub, Int.reduceMul, Int.reduceLT, Int.reduceLE, Int.reduceGT, Int.reduceGE, Int.reduceEq, Int.reduceNe, Nat.reduceEqDiff, Int.zero_add, Int.add_zero, p_ty0, p_ty1, p_ty2, p_ty3, p_ty4, p_ty5, p_ty8, p_ty9, p_ty10, lh, ts, gd_t, B_t, B_f]
  | nn + 1, fr, T, M, F, bs, l4, l5, h0, h1, h2, hW, hb, hX, hn, hc, tc => by
    have lh := jd_length (d := e) hX (by omega)
    obtain ⟨y, ts⟩ := hX.1
    by_cases c : (tx.length : Int) ≤ fr
    · refine ⟨T, M, F, bs, fr, l4, l5, ?_, hW, by omega, hb, hX, .rf⟩
      clear hW hb hX
      simp (disch := omega) only [x_L_taught_12, x_L_taught_13, x_L_taught_14, x_L_taught_17, List.length_cons, List.length_nil, Nat.reduceLeDiff, Nat.zero_add, iI_add, iI_sub, iI_mul, iI_neg, iI_lt, iI_le, iI_eq, jI_iI, B_True, B_False, B_t, B_f, ck_True, gd_True, cb_v, cb_n, p_mv_rw, p_fv_rw, p_rv_some, pA_1, pA_90, pA_92, pA_3, pA_5, pA_93, pA_4, pA_91, pA_6, pS_i, pB_i, pW_i, pZ_0, pZ_1, pZ_b, bI_e0, u1_s, u1_n, uA_s, uA_n, true_and, and_true, not_true_eq_false, not_false_eq_true, eq_self, iI_z, al1, al5, al3, al4, al90, al91, al92, al93, al6, Int.cast_ofNat_Int, Nat.reduceAdd, Int.reduceNeg, Int.reduceAdd, Int.reduceSub, Int.reduceMul, Int.reduceLT, Int.reduceLE, Int.reduceGT, Int.reduceGE, Int.reduceEq, Int.reduceNe, Nat.reduceEqDiff, Int.zero_add, Int.add_zero, p_ty0, p_ty1, p_ty2, p_ty3, p_ty4, p_ty5, p_ty8, p_ty9, p_ty10, lh, ts, gd_t, B_t, B_f]
    · obtain ⟨l4', l5', g, e1, g0, g1, g2, g3, g4⟩ := ta_5 (l0 := .val (.ref (100 + k))) (l4 := l4) (l5 := l5) (e := e) (by omega) hX ⟨hn.2.2.1, hn.2.2.2⟩ (by omega) tc hch (by omega) (fr := fr) (by omega)
      have hk0 : KT k c0 T M F T (uA M c0 g) F := ⟨s_mono.rf, rfl, fun b _ _ hb => ⟨uA_n hb, rfl⟩⟩
      have hW1 := hW.up (T1 := T) (M1 := uA M c0 g) (F1 := F) s_mono.rf (fun b b1 b2 => ⟨uA_n (by omega), rfl⟩)
      obtain ⟨T2, M2, F2, e2, W2, K2⟩ := hW1.ret (m := m_X7_feed) (v := [.int (iI (g 0)), .int (iI (g 1)), .int (iI (g 2)), .int (iI (g 3)), .int (iI (g 4))]) (D := 10) (d := e) (fun T0 M0 F0 hC => (x_feed hC (iI (g 0)) (iI (g 1)) (iI (g 2)) (iI (g 3)) (iI (g 4))).1 (by omega)) rfl rfl he
      have hK := hk0.tr K2.kt
      have hX2 := hX.kt hK hn
      have hb2 := t_p20_f (z := fr) (f := txf tx) (txf_rg hch) hb
      rw [← g0, ← g1, ← g2, ← g3, ← g4] at hb2
      have n2 := K2.lt
      obtain ⟨T3, M3, F3, bs3, z3, m4, m5, e3, W3, b3, f3, X3, K3⟩ := tf_L he hch hl hc0 nn (fr + 20) T2 M2 F2 _ l4' l5' (by omega) (by omega) (by omega) W2 hb2 hX2 (by rw [n2]; exact hn) (by rw [n2]; exact hc) ((K2.ty hc).trans tc)
      refine ⟨T3, M3, F3, bs3, z3, m4, m5, ?_, W3, b3, f3, X3, hK.tr K3⟩
      rw [← e3]
      have ty := hW1.ty
      clear e3 W3 f3 X3 K3 hX2 hb2 hW hW1 hX hb hk0 K2 W2 hK g0 g1 g2 g3 g4
      have e0 : R e m_L_taught 12 [.val (.ref (100 + k)), .val (.ref sr), .val (.ref c0), .val (.int (iI fr)), l4, l5] [] T M F = R e m_L_taught 20 [.val (.ref (100 + k)), .val (.ref sr), .val (.ref c0), .val (.int (iI fr)), l4, l5] [] T M F := by
        clear e1 e2
        simp (disch := omega) only [x_L_taught_12, x_L_taught_13, x_L_taught_14, x_L_taught_17, List.length_cons, List.length_nil, Nat.reduceLeDiff, Nat.zero_add, iI_add, iI_sub, iI_mul, iI_neg, iI_lt, iI_le, iI_eq, jI_iI, B_True, B_False, B_t, B_f, ck_True, gd_True, cb_v, cb_n, p_mv_rw, p_fv_rw, p_rv_some, pA_1, pA_90, pA_92, pA_3, pA_5, pA_93, pA_4, pA_91, pA_6, pS_i, pB_i, pW_i, pZ_0, pZ_1, pZ_b, bI_e0, u1_s, u1_n, uA_s, uA_n, true_and, and_true, not_true_eq_false, not_false_eq_true, eq_self, iI_z, al1, al5, al3, al4, al90, al91, al92, al93, al6, Int.cast_ofNat_Int, Nat.reduceAdd, Int.reduceNeg, Int.reduceAdd, Int.reduceSub, Int.reduceMul, Int.reduceLT, Int.reduceLE, Int.reduceGT, Int.reduceGE, Int.reduceEq, Int.reduceNe, Nat.reduceEqDiff, Int.zero_add, Int.add_zero, p_ty0, p_ty1, p_ty2, p_ty3, p_ty4, p_ty5, p_ty8, p_ty9, p_ty10, lh, ts, gd_t, B_t, B_f]
      rw [e0, e1]
      clear e0 e1
      simp (disch := omega) only [x_L_taught_99, x_L_taught_100, x_L_taught_101, x_L_taught_102, x_L_taught_103, x_L_taught_104, x_L_taught_105, x_L_taught_106, x_L_taught_107, x_L_taught_108, x_L_taught_109, x_L_taught_110, x_L_taught_111, x_L_taught_112, x_L_taught_113, x_L_taught_114, x_L_taught_115, x_L_taught_118, x_L_taught_119, x_L_taught_122, List.length_cons, List.length_nil, Nat.reduceLeDiff, Nat.zero_add, iI_add, iI_sub, iI_mul, iI_neg, iI_lt, iI_le, iI_eq, jI_iI, B_True, B_False, B_t, B_f, ck_True, gd_True, cb_v, cb_n, p_mv_rw, p_fv_rw, p_rv_some, pA_1, pA_90, pA_92, pA_3, pA_5, pA_93, pA_4, pA_91, pA_6, pS_i, pB_i, pW_i, pZ_0, pZ_1, pZ_b, bI_e0, u1_s, u1_n, uA_s, uA_n, true_and, and_true, not_true_eq_false, not_false_eq_true, eq_self, iI_z, al1, al5, al3, al4, al90, al91, al92, al93, al6, Int.cast_ofNat_Int, Nat.reduceAdd, Int.reduceNeg, Int.reduceAdd, Int.reduceSub, Int.reduceMul, Int.reduceLT, Int.reduceLE, Int.reduceGT, Int.reduceGE, Int.reduceEq, Int.reduceNe, Nat.reduceEqDiff, Int.zero_add, Int.add_zero, p_ty0, p_ty1, p_ty2, p_ty3, p_ty4, p_ty5, p_ty8, p_ty9, p_ty10, e2, ty, tc, gd_t, ck_t, B_t, B_f]
theorem x_teachR (S : GSx) (ea z : Int) (bs : Int → Int) (T0 : pT) (M0 : pM) (F0 : pF) (hC : CW T0 M0 F0 S ea bs z) : XRet T0 M0 F0 m_X7_teach [.ref 100] 10 (some (.int (iI (z_tea S bs z).1))) (fun M' F' => CW T0 M' F' (z_tea S bs z).2.2 (z_tea S bs z).2.1 bs 0) := by
  obtain ⟨M', F', h1, h2, h3, -⟩ := x_teach hC
  exact ⟨M', F', h1, h2, h3⟩
theorem z_taught {e : Nat} (he : 10 ≤ e) (hW : LW k T M F z_new ea bs z) (hX : STx T M F sr v tx) (hn : (127 + k ≤ sr ∧ sr < T.1.1) ∧ (127 + k ≤ v ∧ v < T.1.1)) (hch : ∀ x ∈ tx, 0 ≤ x ∧ x < 128) (hl : tx.length ≤ 250) (hz : 0 ≤ z) (hTQ : TQ tx z_new S m) (hm : m ≤ 390) (hh : ∀ x, tx.head? = some x → x ≠ 32 ∧ x ≠ 10) :
    ∃ (T1 : pT) (M1 : pM) (F1 : pF) (ea1 : Int) (bs1 : Int → Int), callD (e + 1) m_L_taught [.ref (100 + k), .ref sr] T M F = some (.inl (some (.int (iI 0))), T1, M1, F1) ∧ LW k T1 M1 F1 S ea1 bs1 0 ∧ KY k T M F T1 M1 F1 ∧ T1.1.1 = T.1.1 + 1 ∧ T1.1.2 = T.1.2 + 5 := by
  have hcn := hW.cnt
  -- the array
  obtain ⟨Ta, hTa⟩ : ∃ Ta : pT, Ta = p_new T 1 5 := ⟨_, rfl⟩
  have ya : s_mono T Ta := by rw [hTa]; exact s_mono.new
  have na : Ta.1.1 = T.1.1 + 1 := by rw [hTa]; rfl
  have sa : Ta.1.2 = T.1.2 + 5 := by rw [hTa]; rfl
  have ta : p_ty Ta T.1.1 = (1, 5) := by rw [hTa]; exact p_ty_nw (by omega)
  have Wa := hW.up (T1 := Ta) (M1 := uA M T.1.1 (fun _ => 0)) (F1 := uA F T.1.1 (fun _ => none)) ya (fun b b1 b2 => ⟨uA_n (by omega), uA_n (by omega)⟩)
  have Xa : STx Ta (uA M T.1.1 (fun _ => 0)) (uA F T.1.1 (fun _ => none)) sr v tx := hX.kp ya hn.1.2 hn.2.2 (uA_n (by omega)) (uA_n (by omega)) (uA_n (by omega))
  have hn1 : (127 + k ≤ sr ∧ sr < Ta.1.1) ∧ (127 + k ≤ v ∧ v < Ta.1.1) ∧ sr ≠ T.1.1 ∧ v ≠ T.1.1 := by omega
  -- emptied
  obtain ⟨T1, M1, F1, e1, W1, K1⟩ := Wa.ret (m := m_X7_trim) (v := [.int (iI 0)]) (D := 10) (d := e) (fun T0 M0 F0 hC => (x_trim hC (n := 0) (by omega)).1 ⟨by omega, hz⟩) rfl rfl he
  have X1 := Xa.kt (c0 := T.1.1) K1.kt hn1
  have n1 := K1.lt
  obtain ⟨T2, M2, F2, bs2, z2, l4, l5, e2, W2, b2, f2, X2, K2⟩ := tf_L he hch (by omega) (c0 := T.1.1) hcn 13 0 T1 M1 F1 bs .unset .unset (by omega) (by omega) (by omega) W1 (fun q q0 q1 => by omega) X1 (by rw [n1]; exact hn1) (by rw [n1]; omega) ((K1.ty (by omega)).trans ta)
  obtain ⟨T3, M3, F3, e3, W3, K3⟩ := W2.ret (m := m_X7_trim) (v := [.int (iI (tx.length : Int))]) (D := 10) (d := e) (fun T0 M0 F0 hC => (x_trim hC (n := (tx.length : Int)) (by omega)).1 ⟨by omega, b2.1⟩) rfl rfl he
  obtain ⟨T4, M4, F4, e4, W4, K4⟩ := W3.ret (m := m_X7_teach) (v := []) (D := 10) (d := e) (x_teachR z_new ea (tx.length : Int) bs2) rfl rfl he
  have hAt : At bs2 tx.length 0 tx := by
    intro j hj
    unfold t_b
    rw [if_pos (by omega), f2 _ (by omega) (by omega)]
    unfold txf
    rw [if_pos (by omega), show ((0 : Int) + (j : Int)).toNat = j by omega]
  have htea := hTQ.end hm hAt hh z_new
  rw [htea] at e4 W4
  have K14 : KT k T.1.1 Ta (uA M T.1.1 (fun _ => 0)) (uA F T.1.1 (fun _ => none)) T4 M4 F4 := K1.kt.tr (K2.tr (K3.kt.tr K4.kt))
  refine ⟨T4, M4, F4, _, bs2, ?_, W4, ⟨ya.tr K14.1, fun b hb hk => ?_⟩, by rw [K14.2.1]; exact na, by rw [K14.2.1]; exact sa⟩
  · rw [callD_succ _ _ _ _ _ _ (Nat.le_of_ble_eq_true rfl)]
    show R e m_L_taught 0 [.val (.ref (100 + k)), .val (.ref sr), .unset, .unset, .unset, .unset] [] T M F = _
    have tya := Wa.ty
    have ty2 := W2.ty
    have ty3 := W3.ty
    have lh := jd_length (d := e) X2 (by omega)
    obtain ⟨y, ts⟩ := X2.1
    have y5 : (5 : Int).toNat = 5 := rfl
    have e0 : R e m_L_taught 0 [.val (.ref (100 + k)), .val (.ref sr), .unset, .unset, .unset, .unset] [] T M F = R e m_L_taught 12 [.val (.ref (100 + k)), .val (.ref sr), .val (.ref T.1.1), .val (.int (iI 0)), .unset, .unset] [] T1 M1 F1 := by
      clear e2 e3 e4 W1 W2 W3 W4 K1 K2 K3 K4 K14 X1 X2 Xa Wa hW hX hTQ hAt htea f2 lh
      rw [hTa] at ta tya e1
      simp (disch := omega) only [x_L_taught_0, x_L_taught_1, x_L_taught_3, x_L_taught_4, x_L_taught_5, x_L_taught_6, x_L_taught_9, x_L_taught_10, x_L_taught_11, List.length_cons, List.length_nil, Nat.reduceLeDiff, Nat.zero_add, iI_add, iI_sub, iI_mul, iI_neg, iI_lt, iI_le, iI_eq, jI_iI, B_True, B_False, B_t, B_f, ck_True, gd_True, cb_v, cb_n, p_mv_rw, p_fv_rw, p_rv_some, pA_1, pA_90, pA_92, pA_3, pA_5, pA_93, pA_4, pA_91, pA_6, pS_i, pB_i, pW_i, pZ_0, pZ_1, pZ_b, bI_e0, u1_s, u1_n, uA_s, uA_n, true_and, and_true, not_true_eq_false, not_false_eq_true, eq_self, iI_z, al1, al5, al3, al4, al90, al91, al92, al93, al6, Int.cast_ofNat_Int, Nat.reduceAdd, Int.reduceNeg, Int.reduceAdd, Int.reduceSub, Int.reduceMul, Int.reduceLT, Int.reduceLE, Int.reduceGT, Int.reduceGE, Int.reduceEq, Int.reduceNe, Nat.reduceEqDiff, Int.zero_add, Int.add_zero, p_ty0, p_ty1, p_ty2, p_ty3, p_ty4, p_ty5, p_ty8, p_ty9, p_ty10, e1, ta, tya, y5, gd_t, ck_t, B_t, B_f]
    rw [e0, e2]
    clear e0 e1 e2 W1 W2 W3 W4 K1 K2 K3 K4 K14 X1 X2 Xa Wa hW hX hTQ hAt htea f2
    simp (disch := omega) only [x_L_taught_125, x_L_taught_126, x_L_taught_127, x_L_taught_130, x_L_taught_133, x_L_taught_134, x_L_taught_135, x_L_taught_138, List.length_cons, List.length_nil, Nat.reduceLeDiff, Nat.zero_add, iI_add, iI_sub, iI_mul, iI_neg, iI_lt, iI_le, iI_eq, jI_iI, B_True, B_False, B_t, B_f, ck_True, gd_True, cb_v, cb_n, p_mv_rw, p_fv_rw, p_rv_some, pA_1, pA_90, pA_92, pA_3, pA_5, pA_93, pA_4, pA_91, pA_6, pS_i, pB_i, pW_i, pZ_0, pZ_1, pZ_b, bI_e0, u1_s, u1_n, uA_s, uA_n, true_and, and_true, not_true_eq_false, not_false_eq_true, eq_self, iI_z, al1, al5, al3, al4, al90, al91, al92, al93, al6, Int.cast_ofNat_Int, Nat.reduceAdd, Int.reduceNeg, Int.reduceAdd, Int.reduceSub, Int.reduceMul, Int.reduceLT, Int.reduceLE, Int.reduceGT, Int.reduceGE, Int.reduceEq, Int.reduceNe, Nat.reduceEqDiff, Int.zero_add, Int.add_zero, p_ty0, p_ty1, p_ty2, p_ty3, p_ty4, p_ty5, p_ty8, p_ty9, p_ty10, e3, e4, lh, ts, ty2, ty3, gd_t, ck_t, B_t, B_f]
  · have := K14.2.2 b (by omega) hk (by omega)
    rw [this.1, this.2, uA_n (by omega), uA_n (by omega)]
    exact ⟨rfl, rfl⟩
end PTGT
