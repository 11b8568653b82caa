section PYSU
variable {d bd lg N lg1 N1 lg2 N2 cs ss cs1 ss1 r1 r2 : Nat} {T T1 T2 : pT} {M M0 M1 M2 : pM} {F F1 F2 : pF} {bb bs f : Int → Int} {p z e0 b c y st s x er n1 t pas q w : Int} {k i m n j : Nat} {H : List HE} {X : Nat → Prop}
def ZB (bb : Int → Int) : Prop := ∀ k, ¬ (0 ≤ k ∧ k < 91) → bb k = 0
theorem ZB.uZ (h : ZB f) (hc : 0 ≤ c ∧ c < 91) : ZB (u1 f c x) := fun k hk => by
  rw [u1_n (fun z => hk (by rw [z]; exact hc))]; exact h k hk
/-- what changes, with cells and places to spare -/
def YCs (X : Nat → Prop) (cs ss : Nat) (T : pT) (M : pM) (F : pF) (lg N : Nat) (T' : pT) (M' : pM) (F' : pF) (lg' N' : Nat) : Prop :=
  s_mono T T' ∧ (∀ a, a < T.1.1 → ¬ X a → a ≠ lg → M' a = M a) ∧ (∀ a, a < T.1.1 → a ≠ 127 → F' a = F a) ∧ (∀ j, j ≠ 13 → F' 127 j = F 127 j) ∧ (lg' = lg ∨ T.1.1 ≤ lg') ∧ N ≤ N' ∧ 448 * T'.1.1 + N ≤ 448 * T.1.1 + N' + 448 * cs ∧ (T'.1.2 + 2 * N ≤ T.1.2 + 2 * N' + ss ∧ GD N N')
theorem YC.sl (h : YC X T M F lg N T1 M1 F1 lg1 N1) (hg : GD N N1) : YCs X 0 0 T M F lg N T1 M1 F1 lg1 N1 := by
  obtain ⟨a1, a2, a3, a4, a5, a6, a7, a8⟩ := h
  exact ⟨a1, a2, a3, a4, a5, a6, by omega, by omega, hg⟩
theorem YCs.tr (h : YCs X cs ss T M F lg N T1 M1 F1 lg1 N1) (h' : YCs X cs1 ss1 T1 M1 F1 lg1 N1 T2 M2 F2 lg2 N2) : YCs X (cs + cs1) (ss + ss1) T M F lg N T2 M2 F2 lg2 N2 := by
  obtain ⟨a1, a2, a3, a4, a5, a6, a7, a8, a9⟩ := h
  obtain ⟨b1, b2, b3, b4, b5, b6, b7, b8, b9⟩ := h'
  have hT := a1.1
  refine ⟨a1.tr b1, fun a ha hx hl => (b2 a (by omega) hx (by omega)).trans (a2 a ha hx hl), fun a ha h => (b3 a (by omega) h).trans (a3 a ha h), fun j hj => (b4 j hj).trans (a4 j hj), by omega, by omega, by omega, by omega, a9.tr b9⟩
theorem YCs.wk {Y : Nat → Prop} (h : YCs X cs ss T M F lg N T1 M1 F1 lg1 N1) (hx : ∀ a, X a → Y a) (h1 : cs ≤ cs1) (h2 : ss ≤ ss1) : YCs Y cs1 ss1 T M F lg N T1 M1 F1 lg1 N1 := by
  obtain ⟨a1, a2, a3, a4, a5, a6, a7, a8, a9⟩ := h
  exact ⟨a1, fun a ha hn hl => a2 a ha (fun z => hn (hx a z)) hl, a3, a4, a5, a6, by omega, by omega, a9⟩
theorem y_wrong (hY : YT T F bd lg N) (hj : j ≤ 400) (h142 : M 142 (j : Int) = p) (hp : -1 ≤ p ∧ p ≤ 100000) (he : 0 ≤ er ∧ er ≤ 10) (hd : 1 ≤ d) : callD d m_X8_wrong [.ref 127, .int (iI er), .int (iI (j : Int))] T M F = some (.inl (some (.int (iI er))), T, uA M 127 (u1 (M 127) 3 p), F) := by
  refine callD_go 0 hd rfl (fun e he => ?_)
  show R e m_X8_wrong 0 [.val (.ref 127), .val (.int (iI er)), .val (.int (iI (j : Int)))] [] T M F = _
  obtain ⟨ty127, ty128, fy1, ty129, fy4, ty130, fy5, ty131, fy6, ty132, fy7, ty133, fy8, ty136, fy15, ty137, fy16, ty138, fy17, ty139, fy18, ty140, fy19, ty141, fy20, ty142, fy21, ty143, fy22, hbd, tybd, fy9, hlg, tylg, fy13, hN⟩ := hY
  simp (disch := omega) only [x_X8_wrong_0, x_X8_wrong_1, x_X8_wrong_2, x_X8_wrong_5, x_X8_wrong_6, x_X8_wrong_7, x_X8_wrong_10, x_X8_wrong_11, List.length_cons, List.length_nil, Nat.reduceLeDiff, Nat.zero_add, iI_add, iI_sub, iI_mul, iI_neg, iI_lt, iI_le, iI_eq, jI_iI, B_True, B_False, B_t, B_f, ck_True, gd_True, cb_v, cb_n, p_mv_rw, p_fv_rw, p_rv_some, pA_1, pA_90, pA_92, pA_3, pA_2, pA_93, pA_4, pA_91, pA_95, pS_i, pW_i, pZ_0, pZ_1, pZ_b, bI_e0, u1_s, u1_n, uA_s, uA_n, true_and, and_true, not_true_eq_false, not_false_eq_true, eq_self, iI_z, al1, al2, al3, al4, al90, al91, al92, al93, al95, Int.cast_ofNat_Int, Nat.reduceAdd, Int.reduceNeg, Int.reduceAdd, Int.reduceSub, Int.reduceMul, Int.reduceLT, Int.reduceLE, Int.reduceGT, Int.reduceGE, Int.reduceEq, Int.reduceNe, Nat.reduceEqDiff, Int.zero_add, Int.add_zero, p_ty0, p_ty1, p_ty2, p_ty3, p_ty4, p_ty5, p_ty6, p_ty7, p_ty8, p_ty9, p_ty10, p_ty11, ty127, ty128, fy1, ty129, fy4, ty130, fy5, ty131, fy6, ty132, fy7, ty133, fy8, ty136, fy15, ty137, fy16, ty138, fy17, ty139, fy18, ty140, fy19, ty141, fy20, ty142, fy21, ty143, fy22, tybd, fy9, tylg, fy13, h142, B_t, B_f]
/-- a fresh start -/
def y_bg (M : pM) (s : Int) : pM := uA M 127 (u1 (u1 (u1 (u1 (M 127) 14 0) 11 (-1)) 12 0) 10 s)
theorem y_begin (t0 : p_ty T 127 = (18, 24)) (hs : s = 0 ∨ s = 1) (hd : 1 ≤ d) : callD d m_X8_begin [.ref 127, .int (iI s)] T M F = some (.inl none, T, y_bg M s, F) := by
  refine callD_go 0 hd rfl (fun e he => ?_)
  show R e m_X8_begin 0 [.val (.ref 127), .val (.int (iI s))] [] T M F = _
  unfold y_bg
  simp (disch := omega) only [x_X8_begin_0, x_X8_begin_1, x_X8_begin_2, x_X8_begin_5, x_X8_begin_6, x_X8_begin_7, x_X8_begin_10, x_X8_begin_11, x_X8_begin_12, x_X8_begin_15, x_X8_begin_16, x_X8_begin_17, x_X8_begin_20, List.length_cons, List.length_nil, Nat.reduceLeDiff, Nat.zero_add, iI_add, iI_sub, iI_mul, iI_neg, iI_lt, iI_le, iI_eq, jI_iI, B_True, B_False, B_t, B_f, ck_True, gd_True, cb_v, cb_n, p_mv_rw, p_fv_rw, p_rv_some, pA_1, pA_90, pA_92, pA_3, pA_2, pA_93, pA_4, pA_91, pA_95, pS_i, pW_i, pZ_0, pZ_1, pZ_b, bI_e0, u1_s, u1_n, uA_s, uA_n, true_and, and_true, not_true_eq_false, not_false_eq_true, eq_self, iI_z, al1, al2, al3, al4, al90, al91, al92, al93, al95, Int.cast_ofNat_Int, Nat.reduceAdd, Int.reduceNeg, Int.reduceAdd, Int.reduceSub, Int.reduceMul, Int.reduceLT, Int.reduceLE, Int.reduceGT, Int.reduceGE, Int.reduceEq, Int.reduceNe, Nat.reduceEqDiff, Int.zero_add, Int.add_zero, p_ty0, p_ty1, p_ty2, p_ty3, p_ty4, p_ty5, p_ty6, p_ty7, p_ty8, p_ty9, p_ty10, p_ty11, t0, uA_uA, gd_t]
theorem y_empty (hY : YT T F bd lg N) (hbd : bd = 134 ∨ 145 ≤ bd) (hz : ZB (M bd)) : ∀ d, 2 ≤ d → callD d m_X8_empty [.ref 127] T M F = some (.inl none, T, y_bg (uA M bd (fun _ => 0)) 0, F) := by
  intro d hd
  refine callD_go 1 hd rfl (fun e he => ?_)
  have t0 := hY.1
  have ty := hY
  have hbd0 := hbd
  obtain ⟨ty127, ty128, fy1, ty129, fy4, ty130, fy5, ty131, fy6, ty132, fy7, ty133, fy8, ty136, fy15, ty137, fy16, ty138, fy17, ty139, fy18, ty140, fy19, ty141, fy20, ty142, fy21, ty143, fy22, hbd, tybd, fy9, hlg, tylg, fy13, hN⟩ := ty
  have key : ∀ (n : Nat) (k : Int) (M : pM), k + n = 91 → 0 ≤ k → (∀ j, 0 ≤ j → j < k → M bd j = 0) → ZB (M bd) → R e m_X8_empty 2 [.val (.ref 127), .val (.int (iI k))] [] T M F = some (.inl none, T, y_bg (uA M bd (fun _ => 0)) 0, F) := by
    intro n
    induction n with
    | zero =>
      intro k M hk h0 hj hz
      obtain rfl : k = 91 := by omega
      have hM : uA M bd (fun _ => 0) = M := by
        have : M bd = fun _ => 0 := by
          funext j
          by_cases c : 0 ≤ j ∧ j < 91
          · exact hj j c.1 c.2
          · exact hz j c
        rw [← this, uA_id]
      rw [hM]
      have hbg := y_begin (d := e) (M := M) (F := F) (s := 0) t0 (Or.inl rfl) he
      clear hY hj hz
      simp (disch := omega) only [x_X8_empty_2, x_X8_empty_3, x_X8_empty_5, x_X8_empty_21, x_X8_empty_22, x_X8_empty_23, x_X8_empty_26, List.length_cons, List.length_nil, Nat.reduceLeDiff, Nat.zero_add, iI_add, iI_sub, iI_mul, iI_neg, iI_lt, iI_le, iI_eq, jI_iI, B_True, B_False, B_t, B_f, ck_True, gd_True, cb_v, cb_n, p_mv_rw, p_fv_rw, p_rv_some, pA_1, pA_90, pA_92, pA_3, pA_2, pA_93, pA_4, pA_91, pA_95, pS_i, pW_i, pZ_0, pZ_1, pZ_b, bI_e0, u1_s, u1_n, uA_s, uA_n, true_and, and_true, not_true_eq_false, not_false_eq_true, eq_self, iI_z, al1, al2, al3, al4, al90, al91, al92, al93, al95, Int.cast_ofNat_Int, Nat.reduceAdd, Int.reduceNeg, Int.reduceAdd, Int.reduceSub, Int.reduceMul, Int.reduceLT, Int.reduceLE, Int.reduceGT, Int.reduceGE, Int.reduceEq, Int.reduceNe, Nat.reduceEqDiff, Int.zero_add, Int.add_zero, p_ty0, p_ty1, p_ty2, p_ty3, p_ty4, p_ty5, p_ty6, p_ty7, p_ty8, p_ty9, p_ty10, p_ty11, t0, hbg, gd_t, B_t, B_f]
    | succ n ih =>
      intro k M hk h0 hj hz
      have ih := ih (k + 1) (uA M bd (u1 (M bd) k 0)) (by omega) (by omega) (fun j j0 j1 => by
        rw [uA_s]
        by_cases c : j = k
        · rw [c, u1_s]
        · rw [u1_n c]; exact hj j j0 (by omega)) (by rw [uA_s]; exact hz.uZ (by omega))
      rw [uA_uA] at ih
      rw [← ih, x_X8_empty_2]
      clear ih hY hj hz
      simp (disch := omega) only [x_X8_empty_3, x_X8_empty_5, x_X8_empty_8, x_X8_empty_9, x_X8_empty_12, x_X8_empty_13, x_X8_empty_14, x_X8_empty_15, x_X8_empty_18, List.length_cons, List.length_nil, Nat.reduceLeDiff, Nat.zero_add, iI_add, iI_sub, iI_mul, iI_neg, iI_lt, iI_le, iI_eq, jI_iI, B_True, B_False, B_t, B_f, ck_True, gd_True, cb_v, cb_n, p_mv_rw, p_fv_rw, p_rv_some, pA_1, pA_90, pA_92, pA_3, pA_2, pA_93, pA_4, pA_91, pA_95, pS_i, pW_i, pZ_0, pZ_1, pZ_b, bI_e0, u1_s, u1_n, uA_s, uA_n, true_and, and_true, not_true_eq_false, not_false_eq_true, eq_self, iI_z, al1, al2, al3, al4, al90, al91, al92, al93, al95, Int.cast_ofNat_Int, Nat.reduceAdd, Int.reduceNeg, Int.reduceAdd, Int.reduceSub, Int.reduceMul, Int.reduceLT, Int.reduceLE, Int.reduceGT, Int.reduceGE, Int.reduceEq, Int.reduceNe, Nat.reduceEqDiff, Int.zero_add, Int.add_zero, p_ty0, p_ty1, p_ty2, p_ty3, p_ty4, p_ty5, p_ty6, p_ty7, p_ty8, p_ty9, p_ty10, p_ty11, t0, fy9, tybd, gd_t, B_t, B_f]
  have h9 := key 91 0 M (by omega) (by omega) (fun j j0 j1 => by omega) hz
  show R e m_X8_empty 0 [.val (.ref 127), .unset] [] T M F = _
  clear key hY hz
  simp (disch := omega) only [x_X8_empty_0, x_X8_empty_1, List.length_cons, List.length_nil, Nat.reduceLeDiff, Nat.zero_add, iI_add, iI_sub, iI_mul, iI_neg, iI_lt, iI_le, iI_eq, jI_iI, B_True, B_False, B_t, B_f, ck_True, gd_True, cb_v, cb_n, p_mv_rw, p_fv_rw, p_rv_some, pA_1, pA_90, pA_92, pA_3, pA_2, pA_93, pA_4, pA_91, pA_95, pS_i, pW_i, pZ_0, pZ_1, pZ_b, bI_e0, u1_s, u1_n, uA_s, uA_n, true_and, and_true, not_true_eq_false, not_false_eq_true, eq_self, iI_z, al1, al2, al3, al4, al90, al91, al92, al93, al95, Int.cast_ofNat_Int, Nat.reduceAdd, Int.reduceNeg, Int.reduceAdd, Int.reduceSub, Int.reduceMul, Int.reduceLT, Int.reduceLE, Int.reduceGT, Int.reduceGE, Int.reduceEq, Int.reduceNe, Nat.reduceEqDiff, Int.zero_add, Int.add_zero, p_ty0, p_ty1, p_ty2, p_ty3, p_ty4, p_ty5, p_ty6, p_ty7, p_ty8, p_ty9, p_ty10, p_ty11, h9]
theorem y_placeB (hY : YT T F bd lg N) (hG : YG M) (hc : 0 ≤ c ∧ c ≤ 10) (hn : 1 ≤ n1 ∧ n1 ≤ q_csz c) (hx : 0 ≤ x ∧ x ≤ 16) (hd : 1 ≤ d) : callD d m_X8_place [.ref 127, .int (iI c), .int (iI n1), .int (iI x)] T M F = some (.inl none, T, uA M bd (u1 (M bd) (p_roM 1 c + n1 - 1) x), F) := by
  refine callD_go 0 hd rfl (fun e he => ?_)
  show R e m_X8_place 0 [.val (.ref 127), .val (.int (iI c)), .val (.int (iI n1)), .val (.int (iI x))] [] T M F = _
  have h131 := hG.2.2.1 c hc.1 (by omega)
  have e3 : 0 ≤ p_roM 1 c ∧ p_roM 1 c + q_csz c ≤ 91 := by
    have h : ∀ m : Nat, m < 11 → 0 ≤ p_roM 1 (m : Int) ∧ p_roM 1 (m : Int) + q_csz (m : Int) ≤ 91 := by decide +kernel
    have h2 := h c.toNat (by omega)
    rwa [Int.toNat_of_nonneg (by omega)] at h2
  obtain ⟨ty127, ty128, fy1, ty129, fy4, ty130, fy5, ty131, fy6, ty132, fy7, ty133, fy8, ty136, fy15, ty137, fy16, ty138, fy17, ty139, fy18, ty140, fy19, ty141, fy20, ty142, fy21, ty143, fy22, hbd, tybd, fy9, hlg, tylg, fy13, hN⟩ := hY
  clear hG
  simp (disch := omega) only [x_X8_place_0, x_X8_place_1, x_X8_place_4, x_X8_place_5, x_X8_place_8, x_X8_place_9, x_X8_place_10, x_X8_place_11, x_X8_place_12, x_X8_place_13, x_X8_place_14, x_X8_place_15, x_X8_place_16, List.length_cons, List.length_nil, Nat.reduceLeDiff, Nat.zero_add, iI_add, iI_sub, iI_mul, iI_neg, iI_lt, iI_le, iI_eq, jI_iI, B_True, B_False, B_t, B_f, ck_True, gd_True, cb_v, cb_n, p_mv_rw, p_fv_rw, p_rv_some, pA_1, pA_90, pA_92, pA_3, pA_2, pA_93, pA_4, pA_91, pA_95, pS_i, pW_i, pZ_0, pZ_1, pZ_b, bI_e0, u1_s, u1_n, uA_s, uA_n, true_and, and_true, not_true_eq_false, not_false_eq_true, eq_self, iI_z, al1, al2, al3, al4, al90, al91, al92, al93, al95, Int.cast_ofNat_Int, Nat.reduceAdd, Int.reduceNeg, Int.reduceAdd, Int.reduceSub, Int.reduceMul, Int.reduceLT, Int.reduceLE, Int.reduceGT, Int.reduceGE, Int.reduceEq, Int.reduceNe, Nat.reduceEqDiff, Int.zero_add, Int.add_zero, p_ty0, p_ty1, p_ty2, p_ty3, p_ty4, p_ty5, p_ty6, p_ty7, p_ty8, p_ty9, p_ty10, p_ty11, ty127, ty128, fy1, ty129, fy4, ty130, fy5, ty131, fy6, ty132, fy7, ty133, fy8, ty136, fy15, ty137, fy16, ty138, fy17, ty139, fy18, ty140, fy19, ty141, fy20, ty142, fy21, ty143, fy22, tybd, fy9, tylg, fy13, h131, B_t, B_f]
def bsS (f : Int → Int) (k : Nat) : Int → Int := u1 (u1 f (p_roM 1 5 + (1 + (k : Int)) - 1) 4) (p_roM 1 5 + (11 - (k : Int)) - 1) 14
def bsF : Nat → Int → Int
  | 0 => pwn 91
  | k + 1 => bsS (bsF k) k
def suC (k : Nat) : Int := ([2, 8, 3, 7, 4, 6] : List Int).getD k 0
def suP (k : Nat) : Int := ([3, 3, 5, 5, 2, 1] : List Int).getD k 0
def suS (f : Int → Int) (k : Nat) : Int → Int := u1 (u1 f (p_roM 1 (suC k) + 1 - 1) (suP k)) (p_roM 1 (suC k) + q_csz (suC k) - 1) (10 + suP k)
def suF : Nat → Int → Int
  | 0 => bsF 3
  | k + 1 => suS (suF k) k
theorem ZB.pwnZ : ZB (pwn 91) := fun k hk => if_neg hk
theorem ZB.suZ : ZB (suF 6) := by
  show ZB (suS (suS (suS (suS (suS (suS (bsS (bsS (bsS (pwn 91) 0) 1) 2) 0) 1) 2) 3) 4) 5)
  unfold suS bsS
  repeat' (first | exact ZB.pwnZ | refine ZB.uZ ?_ (by decide +kernel))
theorem ZB.sbZ : ZB q_sb := by
  show ZB (q_sb)
  unfold q_sb
  dsimp only
  repeat' (first | exact ZB.pwnZ | refine ZB.uZ ?_ (by decide +kernel))
theorem su_N : ∀ k : Nat, k < 91 → suF 6 (k : Int) = q_sb (k : Int) := by decide +kernel
theorem su_eq : suF 6 = q_sb := by
  funext k
  by_cases c : 0 ≤ k ∧ k < 91
  · have h := su_N k.toNat (by omega)
    rwa [Int.toNat_of_nonneg c.1] at h
  · rw [ZB.suZ k c, ZB.sbZ k c]
theorem pw_m (hk : 0 ≤ w ∧ w < 91) : (m_fst w 0 → pw w = 6) ∧ (¬ m_fst w 0 → m_fst w 1 → pw w = 16) ∧ (¬ m_fst w 0 → ¬ m_fst w 1 → pw w = 0) := by
  have h0 := fst_eq (s := 0) hk (Or.inl rfl)
  have h1 := fst_eq (s := 1) hk (Or.inr rfl)
  rw [pwB_iff] at h0 h1
  have hno : ¬ (m_fst w 0 ∧ m_fst w 1) := by
    rintro ⟨⟨a1, a2, a3⟩, ⟨b1, b2, b3⟩⟩
    rw [if_pos rfl] at a3
    rw [if_neg (by decide)] at b3
    split at a3 <;> split at b3 <;> omega
  unfold pw
  refine ⟨fun a => ?_, fun a b => ?_, fun a b => ?_⟩
  · rw [if_neg (fun z => hno ⟨a, h1.mp z⟩), if_pos (h0.mpr a)]
  · rw [if_pos (h1.mpr b)]
  · rw [if_neg (fun z => b (h1.mp z)), if_neg (fun z => a (h0.mp z))]
end PYSU
