section PYRT
variable {d bd lg N : Nat} {T : pT} {M M0 M1 M2 : pM} {F F1 : pF} {bs : Int → Int} {p z e0 i n b c : Int} {k : Nat}
/-- the model's code of a kind -/
def mcd (k : Nat) : Int := if k < 13 then (k : Int) else if k = 13 then 21 else if k = 14 then 20 else 23
/-- where the tokens begin, and their codes -/
noncomputable def spn (bs : Int → Int) (z : Int) : Nat → Int
  | 0 => t_bk bs z 2000 0
  | n + 1 => t_bk bs z 2000 (t_end bs z (spn bs z n))
noncomputable def kcn (bs : Int → Int) (z : Int) (i : Nat) : Int := if z ≤ spn bs z i then 22 else if i = 400 then 23 else mcd (t_kd bs z (spn bs z i) (t_end bs z (spn bs z i)))
theorem spn_rg (hz : 0 ≤ z ∧ z ≤ 2000) : ∀ n : Nat, 0 ≤ spn bs z n
  | 0 => by have := t_bk_rg 2000 0 (bs := bs) (z := z); rw [spn]; omega
  | n + 1 => by rw [spn]; exact t_end_nn (spn_rg hz n)
theorem t_end_hi (hz : 0 ≤ z ∧ z ≤ 2000) (h : z ≤ p) : t_end bs z p = p + 1 := by
  unfold t_end
  refine if_neg ?_
  unfold t_b t_L
  rw [if_neg (by omega)]
  omega
theorem spn_z (hz : 0 ≤ z ∧ z ≤ 2000) : ∀ n : Nat, spn bs z n < z → ∀ j : Nat, j ≤ n → spn bs z j < z
  | 0, h, j, hj => by
    obtain rfl : j = 0 := by omega
    exact h
  | n + 1, h, j, hj => by
    by_cases e : j = n + 1
    · rw [e]; exact h
    · refine spn_z hz n ?_ j (by omega)
      refine Classical.byContradiction (fun q => ?_)
      have h1 := t_end_hi (bs := bs) (p := spn bs z n) hz (by omega)
      have h2 := t_bk_rg 2000 (t_end bs z (spn bs z n)) (bs := bs) (z := z)
      rw [spn] at h
      omega
theorem wf_kd (hL : t_L (t_b bs z p)) (h10 : e0 - p ≤ 10) (h1 : 1 ≤ e0 - p) : ∀ n k : Nat, n + k = 13 → mcd (t_kf bs z p e0 (n + 3) k) = t_wf bs z p e0 n k
  | 0, k, hk => by
    obtain rfl : k = 13 := by omega
    have n1 : ¬ t_sp bs z p e0 (64 + 13) := by
      rintro ⟨q1, q2⟩
      have q3 := q2 0 (by decide)
      rw [show p + ((0 : Nat) : Int) = p by omega] at q3
      rw [q3] at hL
      exact absurd hL.1 (by decide)
    have n2 : ¬ t_sp bs z p e0 (64 + (13 + 1)) := by
      rintro ⟨q1, q2⟩
      have q4 : (p_roL (64 + (13 + 1))).length = 0 := by decide
      omega
    have n3 : ¬ t_sp bs z p e0 (64 + (13 + 1 + 1)) := by
      rintro ⟨q1, q2⟩
      have q4 : (p_roL (64 + (13 + 1 + 1))).length = 0 := by decide
      omega
    rw [t_kf, if_neg n1, t_kf, if_neg n2, t_kf, if_neg n3, t_kf, if_pos ⟨hL, h10⟩, t_wf]
    rfl
  | n + 1, k, hk => by
    rw [show n + 1 + 3 = (n + 3) + 1 from rfl, t_kf, t_wf]
    by_cases c : t_sp bs z p e0 (64 + k)
    · rw [if_pos c, if_pos c]; unfold mcd; rw [if_pos (by omega)]
    · rw [if_neg c, if_neg c]; exact wf_kd hL h10 h1 n (k + 1) (by omega)
theorem kf_bad (h10 : ¬ (t_L (t_b bs z p) ∧ e0 - p ≤ 10)) (h1 : ∀ k : Nat, k < 16 → ¬ t_sp bs z p e0 (64 + k)) : ∀ n k : Nat, k + n = 16 → t_kf bs z p e0 n k = 15
  | 0, k, hk => by rw [t_kf, if_neg h10]
  | n + 1, k, hk => by rw [t_kf, if_neg (h1 k (by omega))]; exact kf_bad h10 h1 n (k + 1) (by omega)
theorem ln_all : ∀ k : Nat, k < 16 → (p_roL (64 + k)).length ≤ 6 ∧ ((p_roL (64 + k)).length = 1 → k = 13) := by decide +kernel
/-- the code of a token by its bytes -/
theorem kd_code (hp : 0 ≤ p ∧ p < z) : mcd (t_kd bs z p (t_end bs z p)) = @ite _ (t_L (t_b bs z p)) (Classical.propDecidable _) (if 10 < t_end bs z p - p then 23 else t_wf bs z p (t_end bs z p) 13 0) (if t_b bs z p = 59 then 21 else 23) := by
  have hE := t_end_rg (bs := bs) (p := p) (z := z) hp
  by_cases c : t_L (t_b bs z p)
  · rw [if_pos c]
    by_cases c2 : 10 < t_end bs z p - p
    · rw [if_pos c2]
      have : t_kd bs z p (t_end bs z p) = 15 := kf_bad (fun q => by omega) (fun k hk q => by have := (ln_all k hk).1; have := q.1; omega) 16 0 rfl
      rw [this]; rfl
    · rw [if_neg c2]
      exact wf_kd c (by omega) (by omega) 13 0 rfl
  · rw [if_neg c]
    have he : t_end bs z p = p + 1 := if_neg c
    by_cases c3 : t_b bs z p = 59
    · rw [if_pos c3]
      have key : ∀ n k : Nat, n + k = 13 → t_kf bs z p (t_end bs z p) (n + 3) k = 13 := by
        intro n
        induction n with
        | zero =>
          intro k hk
          obtain rfl : k = 13 := by omega
          rw [t_kf, if_pos]
          refine ⟨?_, fun i hi => ?_⟩
          · rw [he]
            have : (p_roL (64 + 13)).length = 1 := by decide
            omega
          · have : (p_roL (64 + 13)).length = 1 := by decide
            obtain rfl : i = 0 := by omega
            rw [show p + ((0 : Nat) : Int) = p by omega, c3]
            rfl
        | succ n ih =>
          intro k hk
          rw [show n + 1 + 3 = (n + 3) + 1 from rfl, t_kf, if_neg, ih (k + 1) (by omega)]
          rintro ⟨q1, -⟩
          have q2 := (ln_all k (by omega)).2
          rw [he] at q1
          have := q2 (by omega)
          omega
      have : t_kd bs z p (t_end bs z p) = 13 := key 13 0 rfl
      rw [this]; rfl
    · rw [if_neg c3]
      have : t_kd bs z p (t_end bs z p) = 15 := by
        refine kf_bad (fun q => c q.1) (fun k hk q => ?_) 16 0 rfl
        obtain ⟨q1, q2⟩ := q
        rw [he] at q1
        have q3 := (ln_all k hk).2 (by omega)
        subst q3
        have q4 := q2 0 (by decide)
        rw [show p + ((0 : Nat) : Int) = p by omega] at q4
        exact c3 q4
      rw [this]; rfl
theorem y_kindAt (hY : YT T F bd lg N) (hS : YTp M bs z) (hk : k ≤ 400) (hp : 0 ≤ p ∧ p ≤ 100000) :
    ∃ M', (∀ d, 6 ≤ d → callD d m_X8_kindAt [.ref 127, .int (iI p), .int (iI (k : Int))] T M F = some (.inl (some (.int (iI (if z ≤ p then 22 else if k = 400 then 23 else mcd (t_kd bs z p (t_end bs z p)))))), T, M', F)) ∧ (p < z → M' 143 = u1 (M 143) (k : Int) (t_end bs z p - p)) ∧ (z ≤ p → M' = M) ∧ ∀ a, a ≠ 143 → M' a = M a := by
  obtain ⟨h1, h2, h3, h4⟩ := id hS
  have ty := hY
  obtain ⟨ty127, ty128, fy1, ty129, fy4, ty130, fy5, ty131, fy6, ty132, fy7, ty133, fy8, ty136, fy15, ty137, fy16, ty138, fy17, ty139, fy18, ty140, fy19, ty141, fy20, ty142, fy21, ty143, fy22, hbd, tybd, fy9, hlg, tylg, fy13, hN⟩ := ty
  by_cases c0 : z ≤ p
  · rw [if_pos c0]
    refine ⟨M, fun d hd => ?_, fun q => by omega, fun _ => rfl, fun _ _ => rfl⟩
    refine callD_go 5 hd rfl (fun e he => ?_)
    show R e m_X8_kindAt 0 [.val (.ref 127), .val (.int (iI p)), .val (.int (iI (k : Int))), .unset, .unset] [] T M F = _
    have b1 := y_byteAt (d := e) hY hS (by omega) hp
    rw [show t_b bs z p = -1 from if_neg (by omega)] at b1
    clear hY hS h4
    simp (disch := omega) only [x_X8_kindAt_0, x_X8_kindAt_1, x_X8_kindAt_2, x_X8_kindAt_5, x_X8_kindAt_6, x_X8_kindAt_7, x_X8_kindAt_8, x_X8_kindAt_9, x_X8_kindAt_11, x_X8_kindAt_12, x_X8_kindAt_13, x_X8_kindAt_16, x_X8_kindAt_18, List.length_cons, List.length_nil, Nat.reduceLeDiff, Nat.zero_add, iI_add, iI_sub, iI_mul, iI_neg, iI_lt, iI_le, iI_eq, jI_iI, B_True, B_False, B_t, B_f, ck_True, gd_True, cb_v, cb_n, p_mv_rw, p_fv_rw, p_rv_some, pA_1, pA_90, pA_92, pA_3, pA_2, pA_93, pA_4, pA_91, pA_95, pS_i, pW_i, pZ_0, pZ_1, pZ_b, bI_e0, u1_s, u1_n, uA_s, uA_n, true_and, and_true, not_true_eq_false, not_false_eq_true, eq_self, iI_z, al1, al2, al3, al4, al90, al91, al92, al93, al95, Int.cast_ofNat_Int, Nat.reduceAdd, Int.reduceNeg, Int.reduceAdd, Int.reduceSub, Int.reduceMul, Int.reduceLT, Int.reduceLE, Int.reduceGT, Int.reduceGE, Int.reduceEq, Int.reduceNe, Nat.reduceEqDiff, Int.zero_add, Int.add_zero, p_ty0, p_ty1, p_ty2, p_ty3, p_ty4, p_ty5, p_ty6, p_ty7, p_ty8, p_ty9, p_ty10, p_ty11, ty127, b1, gd_t, B_t, B_f]
  · rw [if_neg c0]
    have hE := t_end_rg (bs := bs) (p := p) (z := z) (by omega)
    have hbr := t_b_rg (p := p) (z := z) h4
    have htb : t_b bs z p = bs p := if_pos (by omega)
    have hbp := h4 p
    obtain ⟨M1, hM1⟩ : ∃ M1 : pM, M1 = uA M 143 (u1 (M 143) (k : Int) (t_end bs z p - p)) := ⟨_, rfl⟩
    have m1 : ∀ a, a ≠ 143 → M1 a = M a := fun a ha => by rw [hM1, uA_n ha]
    refine ⟨M1, fun d hd => ?_, fun _ => by rw [hM1, uA_s], fun q => absurd q c0, m1⟩
    refine callD_go 5 hd rfl (fun e he => ?_)
    show R e m_X8_kindAt 0 [.val (.ref 127), .val (.int (iI p)), .val (.int (iI (k : Int))), .unset, .unset] [] T M F = _
    have b1 := y_byteAt (d := e) hY hS (by omega) hp
    have l1 := fun M => y_isLetter (d := e) (T := T) (M := M) (F := F) (b := t_b bs z p) (by omega) hbr
    have hS1 : YTp M1 bs z := ⟨by rw [m1 128 (by omega)]; exact h1, by rw [m1 127 (by omega)]; exact h2, h3, h4⟩
    -- the token's end
    have loop : ∀ (n : Nat) (x : Int), z ≤ x + n → 0 ≤ x → x ≤ 2001 → R e m_X8_kindAt 26 [.val (.ref 127), .val (.int (iI p)), .val (.int (iI (k : Int))), .val (.int (iI (t_b bs z p))), .val (.int (iI x))] [] T M F = R e m_X8_kindAt 56 [.val (.ref 127), .val (.int (iI p)), .val (.int (iI (k : Int))), .val (.int (iI (t_b bs z p))), .val (.int (iI (t_tk bs z n x)))] [] T M F := by
      intro n
      induction n with
      | zero =>
        intro x hx h0 hx2
        have b2 := y_byteAt (d := e) (p := x) hY hS (by omega) (by omega)
        rw [show t_b bs z x = -1 from if_neg (by omega)] at b2
        have l2 := y_isLetter (d := e) (T := T) (M := M) (F := F) (b := -1) (by omega) (by omega)
        have l3 := y_isDigit (d := e) (T := T) (M := M) (F := F) (b := -1) (by omega) (by omega)
        rw [bI_f (show ¬ t_L (-1) from fun q => absurd q.1 (by decide))] at l2
        rw [bI_f (show ¬ t_D (-1) from fun q => absurd q.1 (by decide))] at l3
        rw [t_tk]
        clear hY hS hS1 h4 hM1 m1 b1 l1
        simp (disch := omega) only [x_X8_kindAt_26, x_X8_kindAt_27, x_X8_kindAt_29, x_X8_kindAt_32, x_X8_kindAt_35, x_X8_kindAt_38, x_X8_kindAt_39, x_X8_kindAt_41, x_X8_kindAt_44, x_X8_kindAt_47, List.length_cons, List.length_nil, Nat.reduceLeDiff, Nat.zero_add, iI_add, iI_sub, iI_mul, iI_neg, iI_lt, iI_le, iI_eq, jI_iI, B_True, B_False, B_t, B_f, ck_True, gd_True, cb_v, cb_n, p_mv_rw, p_fv_rw, p_rv_some, pA_1, pA_90, pA_92, pA_3, pA_2, pA_93, pA_4, pA_91, pA_95, pS_i, pW_i, pZ_0, pZ_1, pZ_b, bI_e0, u1_s, u1_n, uA_s, uA_n, true_and, and_true, not_true_eq_false, not_false_eq_true, eq_self, iI_z, al1, al2, al3, al4, al90, al91, al92, al93, al95, Int.cast_ofNat_Int, Nat.reduceAdd, Int.reduceNeg, Int.reduceAdd, Int.reduceSub, Int.reduceMul, Int.reduceLT, Int.reduceLE, Int.reduceGT, Int.reduceGE, Int.reduceEq, Int.reduceNe, Nat.reduceEqDiff, Int.zero_add, Int.add_zero, p_ty0, p_ty1, p_ty2, p_ty3, p_ty4, p_ty5, p_ty6, p_ty7, p_ty8, p_ty9, p_ty10, p_ty11, ty127, b2, l2, l3, gd_t, B_t, B_f]
      | succ n ih =>
        intro x hx h0 hx2
        have b2 := y_byteAt (d := e) (p := x) hY hS (by omega) (by omega)
        have hbx := t_b_rg (p := x) (z := z) h4
        have l2 := y_isLetter (d := e) (T := T) (M := M) (F := F) (b := t_b bs z x) (by omega) hbx
        have l3 := y_isDigit (d := e) (T := T) (M := M) (F := F) (b := t_b bs z x) (by omega) hbx
        have hlt : t_L (t_b bs z x) ∨ t_D (t_b bs z x) → x < z := by
          unfold t_b t_L t_D
          intro q
          split at q <;> omega
        rw [t_tk]
        by_cases c1 : t_L (t_b bs z x)
        · have hxz := hlt (Or.inl c1)
          have ih := ih (x + 1) (by omega) (by omega) (by omega)
          rw [bI_t c1] at l2
          rw [if_pos (Or.inl c1), ← ih, x_X8_kindAt_26]
          clear ih hY hS hS1 h4 hM1 m1 b1 l1 hlt
          simp (disch := omega) only [x_X8_kindAt_27, x_X8_kindAt_29, x_X8_kindAt_32, x_X8_kindAt_35, x_X8_kindAt_38, x_X8_kindAt_39, x_X8_kindAt_41, x_X8_kindAt_44, x_X8_kindAt_47, x_X8_kindAt_50, x_X8_kindAt_53, List.length_cons, List.length_nil, Nat.reduceLeDiff, Nat.zero_add, iI_add, iI_sub, iI_mul, iI_neg, iI_lt, iI_le, iI_eq, jI_iI, B_True, B_False, B_t, B_f, ck_True, gd_True, cb_v, cb_n, p_mv_rw, p_fv_rw, p_rv_some, pA_1, pA_90, pA_92, pA_3, pA_2, pA_93, pA_4, pA_91, pA_95, pS_i, pW_i, pZ_0, pZ_1, pZ_b, bI_e0, u1_s, u1_n, uA_s, uA_n, true_and, and_true, not_true_eq_false, not_false_eq_true, eq_self, iI_z, al1, al2, al3, al4, al90, al91, al92, al93, al95, Int.cast_ofNat_Int, Nat.reduceAdd, Int.reduceNeg, Int.reduceAdd, Int.reduceSub, Int.reduceMul, Int.reduceLT, Int.reduceLE, Int.reduceGT, Int.reduceGE, Int.reduceEq, Int.reduceNe, Nat.reduceEqDiff, Int.zero_add, Int.add_zero, p_ty0, p_ty1, p_ty2, p_ty3, p_ty4, p_ty5, p_ty6, p_ty7, p_ty8, p_ty9, p_ty10, p_ty11, ty127, b2, l2, gd_t, B_t, B_f]
        · rw [bI_f c1] at l2
          by_cases c2 : t_D (t_b bs z x)
          · have hxz := hlt (Or.inr c2)
            have ih := ih (x + 1) (by omega) (by omega) (by omega)
            rw [bI_t c2] at l3
            rw [if_pos (Or.inr c2), ← ih, x_X8_kindAt_26]
            clear ih hY hS hS1 h4 hM1 m1 b1 l1 hlt
            simp (disch := omega) only [x_X8_kindAt_27, x_X8_kindAt_29, x_X8_kindAt_32, x_X8_kindAt_35, x_X8_kindAt_38, x_X8_kindAt_39, x_X8_kindAt_41, x_X8_kindAt_44, x_X8_kindAt_47, x_X8_kindAt_50, x_X8_kindAt_53, List.length_cons, List.length_nil, Nat.reduceLeDiff, Nat.zero_add, iI_add, iI_sub, iI_mul, iI_neg, iI_lt, iI_le, iI_eq, jI_iI, B_True, B_False, B_t, B_f, ck_True, gd_True, cb_v, cb_n, p_mv_rw, p_fv_rw, p_rv_some, pA_1, pA_90, pA_92, pA_3, pA_2, pA_93, pA_4, pA_91, pA_95, pS_i, pW_i, pZ_0, pZ_1, pZ_b, bI_e0, u1_s, u1_n, uA_s, uA_n, true_and, and_true, not_true_eq_false, not_false_eq_true, eq_self, iI_z, al1, al2, al3, al4, al90, al91, al92, al93, al95, Int.cast_ofNat_Int, Nat.reduceAdd, Int.reduceNeg, Int.reduceAdd, Int.reduceSub, Int.reduceMul, Int.reduceLT, Int.reduceLE, Int.reduceGT, Int.reduceGE, Int.reduceEq, Int.reduceNe, Nat.reduceEqDiff, Int.zero_add, Int.add_zero, p_ty0, p_ty1, p_ty2, p_ty3, p_ty4, p_ty5, p_ty6, p_ty7, p_ty8, p_ty9, p_ty10, p_ty11, ty127, b2, l2, l3, gd_t, B_t, B_f]
          · rw [bI_f c2] at l3
            rw [if_neg (by rintro (q | q) <;> contradiction), x_X8_kindAt_26]
            clear ih hY hS hS1 h4 hM1 m1 b1 l1 hlt
            simp (disch := omega) only [x_X8_kindAt_27, x_X8_kindAt_29, x_X8_kindAt_32, x_X8_kindAt_35, x_X8_kindAt_38, x_X8_kindAt_39, x_X8_kindAt_41, x_X8_kindAt_44, x_X8_kindAt_47, List.length_cons, List.length_nil, Nat.reduceLeDiff, Nat.zero_add, iI_add, iI_sub, iI_mul, iI_neg, iI_lt, iI_le, iI_eq, jI_iI, B_True, B_False, B_t, B_f, ck_True, gd_True, cb_v, cb_n, p_mv_rw, p_fv_rw, p_rv_some, pA_1, pA_90, pA_92, pA_3, pA_2, pA_93, pA_4, pA_91, pA_95, pS_i, pW_i, pZ_0, pZ_1, pZ_b, bI_e0, u1_s, u1_n, uA_s, uA_n, true_and, and_true, not_true_eq_false, not_false_eq_true, eq_self, iI_z, al1, al2, al3, al4, al90, al91, al92, al93, al95, Int.cast_ofNat_Int, Nat.reduceAdd, Int.reduceNeg, Int.reduceAdd, Int.reduceSub, Int.reduceMul, Int.reduceLT, Int.reduceLE, Int.reduceGT, Int.reduceGE, Int.reduceEq, Int.reduceNe, Nat.reduceEqDiff, Int.zero_add, Int.add_zero, p_ty0, p_ty1, p_ty2, p_ty3, p_ty4, p_ty5, p_ty6, p_ty7, p_ty8, p_ty9, p_ty10, p_ty11, ty127, b2, l2, l3, gd_t, B_t, B_f]
    have pre : R e m_X8_kindAt 0 [.val (.ref 127), .val (.int (iI p)), .val (.int (iI (k : Int))), .unset, .unset] [] T M F = R e m_X8_kindAt 56 [.val (.ref 127), .val (.int (iI p)), .val (.int (iI (k : Int))), .val (.int (iI (t_b bs z p))), .val (.int (iI (t_end bs z p)))] [] T M F := by
      unfold t_end
      by_cases c : t_L (t_b bs z p)
      · rw [if_pos c, ← loop 2000 (p + 1) (by omega) (by omega) (by omega)]
        have l1 := l1 M
        rw [bI_t c] at l1
        clear loop hY hS hS1 h4 hM1 m1
        simp (disch := omega) only [x_X8_kindAt_0, x_X8_kindAt_1, x_X8_kindAt_2, x_X8_kindAt_5, x_X8_kindAt_6, x_X8_kindAt_7, x_X8_kindAt_8, x_X8_kindAt_9, x_X8_kindAt_11, x_X8_kindAt_12, x_X8_kindAt_13, x_X8_kindAt_16, x_X8_kindAt_18, x_X8_kindAt_19, x_X8_kindAt_20, x_X8_kindAt_23, List.length_cons, List.length_nil, Nat.reduceLeDiff, Nat.zero_add, iI_add, iI_sub, iI_mul, iI_neg, iI_lt, iI_le, iI_eq, jI_iI, B_True, B_False, B_t, B_f, ck_True, gd_True, cb_v, cb_n, p_mv_rw, p_fv_rw, p_rv_some, pA_1, pA_90, pA_92, pA_3, pA_2, pA_93, pA_4, pA_91, pA_95, pS_i, pW_i, pZ_0, pZ_1, pZ_b, bI_e0, u1_s, u1_n, uA_s, uA_n, true_and, and_true, not_true_eq_false, not_false_eq_true, eq_self, iI_z, al1, al2, al3, al4, al90, al91, al92, al93, al95, Int.cast_ofNat_Int, Nat.reduceAdd, Int.reduceNeg, Int.reduceAdd, Int.reduceSub, Int.reduceMul, Int.reduceLT, Int.reduceLE, Int.reduceGT, Int.reduceGE, Int.reduceEq, Int.reduceNe, Nat.reduceEqDiff, Int.zero_add, Int.add_zero, p_ty0, p_ty1, p_ty2, p_ty3, p_ty4, p_ty5, p_ty6, p_ty7, p_ty8, p_ty9, p_ty10, p_ty11, ty127, b1, l1, gd_t, B_t, B_f]
      · rw [if_neg c]
        have l1 := l1 M
        rw [bI_f c] at l1
        clear loop hY hS hS1 h4 hM1 m1
        simp (disch := omega) only [x_X8_kindAt_0, x_X8_kindAt_1, x_X8_kindAt_2, x_X8_kindAt_5, x_X8_kindAt_6, x_X8_kindAt_7, x_X8_kindAt_8, x_X8_kindAt_9, x_X8_kindAt_11, x_X8_kindAt_12, x_X8_kindAt_13, x_X8_kindAt_16, x_X8_kindAt_18, x_X8_kindAt_19, x_X8_kindAt_20, x_X8_kindAt_23, List.length_cons, List.length_nil, Nat.reduceLeDiff, Nat.zero_add, iI_add, iI_sub, iI_mul, iI_neg, iI_lt, iI_le, iI_eq, jI_iI, B_True, B_False, B_t, B_f, ck_True, gd_True, cb_v, cb_n, p_mv_rw, p_fv_rw, p_rv_some, pA_1, pA_90, pA_92, pA_3, pA_2, pA_93, pA_4, pA_91, pA_95, pS_i, pW_i, pZ_0, pZ_1, pZ_b, bI_e0, u1_s, u1_n, uA_s, uA_n, true_and, and_true, not_true_eq_false, not_false_eq_true, eq_self, iI_z, al1, al2, al3, al4, al90, al91, al92, al93, al95, Int.cast_ofNat_Int, Nat.reduceAdd, Int.reduceNeg, Int.reduceAdd, Int.reduceSub, Int.reduceMul, Int.reduceLT, Int.reduceLE, Int.reduceGT, Int.reduceGE, Int.reduceEq, Int.reduceNe, Nat.reduceEqDiff, Int.zero_add, Int.add_zero, p_ty0, p_ty1, p_ty2, p_ty3, p_ty4, p_ty5, p_ty6, p_ty7, p_ty8, p_ty9, p_ty10, p_ty11, ty127, b1, l1, gd_t, B_t, B_f]
    rw [pre]
    clear pre loop
    have c4 : R e m_X8_kindAt 56 [.val (.ref 127), .val (.int (iI p)), .val (.int (iI (k : Int))), .val (.int (iI (t_b bs z p))), .val (.int (iI (t_end bs z p)))] [] T M F = R e m_X8_kindAt 66 [.val (.ref 127), .val (.int (iI p)), .val (.int (iI (k : Int))), .val (.int (iI (t_b bs z p))), .val (.int (iI (t_end bs z p)))] [] T M1 F := by
      rw [hM1]
      clear hY hS hS1 h4 hM1 m1
      simp (disch := omega) only [x_X8_kindAt_56, x_X8_kindAt_57, x_X8_kindAt_60, x_X8_kindAt_61, x_X8_kindAt_63, x_X8_kindAt_64, x_X8_kindAt_65, List.length_cons, List.length_nil, Nat.reduceLeDiff, Nat.zero_add, iI_add, iI_sub, iI_mul, iI_neg, iI_lt, iI_le, iI_eq, jI_iI, B_True, B_False, B_t, B_f, ck_True, gd_True, cb_v, cb_n, p_mv_rw, p_fv_rw, p_rv_some, pA_1, pA_90, pA_92, pA_3, pA_2, pA_93, pA_4, pA_91, pA_95, pS_i, pW_i, pZ_0, pZ_1, pZ_b, bI_e0, u1_s, u1_n, uA_s, uA_n, true_and, and_true, not_true_eq_false, not_false_eq_true, eq_self, iI_z, al1, al2, al3, al4, al90, al91, al92, al93, al95, Int.cast_ofNat_Int, Nat.reduceAdd, Int.reduceNeg, Int.reduceAdd, Int.reduceSub, Int.reduceMul, Int.reduceLT, Int.reduceLE, Int.reduceGT, Int.reduceGE, Int.reduceEq, Int.reduceNe, Nat.reduceEqDiff, Int.zero_add, Int.add_zero, p_ty0, p_ty1, p_ty2, p_ty3, p_ty4, p_ty5, p_ty6, p_ty7, p_ty8, p_ty9, p_ty10, p_ty11, ty127, ty128, fy1, ty129, fy4, ty130, fy5, ty131, fy6, ty132, fy7, ty133, fy8, ty136, fy15, ty137, fy16, ty138, fy17, ty139, fy18, ty140, fy19, ty141, fy20, ty142, fy21, ty143, fy22, tybd, fy9, tylg, fy13, B_t, B_f]
    rw [c4]
    clear c4
    by_cases c5 : k = 400
    · rw [if_pos c5]
      clear hY hS hS1 h4 hM1 m1
      simp (disch := omega) only [x_X8_kindAt_66, x_X8_kindAt_67, x_X8_kindAt_70, x_X8_kindAt_73, x_X8_kindAt_75, List.length_cons, List.length_nil, Nat.reduceLeDiff, Nat.zero_add, iI_add, iI_sub, iI_mul, iI_neg, iI_lt, iI_le, iI_eq, jI_iI, B_True, B_False, B_t, B_f, ck_True, gd_True, cb_v, cb_n, p_mv_rw, p_fv_rw, p_rv_some, pA_1, pA_90, pA_92, pA_3, pA_2, pA_93, pA_4, pA_91, pA_95, pS_i, pW_i, pZ_0, pZ_1, pZ_b, bI_e0, u1_s, u1_n, uA_s, uA_n, true_and, and_true, not_true_eq_false, not_false_eq_true, eq_self, iI_z, al1, al2, al3, al4, al90, al91, al92, al93, al95, Int.cast_ofNat_Int, Nat.reduceAdd, Int.reduceNeg, Int.reduceAdd, Int.reduceSub, Int.reduceMul, Int.reduceLT, Int.reduceLE, Int.reduceGT, Int.reduceGE, Int.reduceEq, Int.reduceNe, Nat.reduceEqDiff, Int.zero_add, Int.add_zero, p_ty0, p_ty1, p_ty2, p_ty3, p_ty4, p_ty5, p_ty6, p_ty7, p_ty8, p_ty9, p_ty10, p_ty11, B_t, B_f]
    · rw [if_neg c5, kd_code (by omega)]
      have l2 := l1 M1
      by_cases c6 : t_L (t_b bs z p)
      · rw [if_pos c6]
        rw [bI_t c6] at l2
        by_cases c7 : 10 < t_end bs z p - p
        · rw [if_pos c7]
          clear hY hS hS1 h4 hM1 m1
          simp (disch := omega) only [x_X8_kindAt_66, x_X8_kindAt_67, x_X8_kindAt_70, x_X8_kindAt_73, x_X8_kindAt_75, x_X8_kindAt_76, x_X8_kindAt_77, x_X8_kindAt_80, x_X8_kindAt_83, x_X8_kindAt_85, x_X8_kindAt_86, x_X8_kindAt_87, x_X8_kindAt_89, x_X8_kindAt_92, x_X8_kindAt_94, x_X8_kindAt_97, x_X8_kindAt_98, x_X8_kindAt_99, x_X8_kindAt_101, x_X8_kindAt_102, x_X8_kindAt_103, x_X8_kindAt_106, List.length_cons, List.length_nil, Nat.reduceLeDiff, Nat.zero_add, iI_add, iI_sub, iI_mul, iI_neg, iI_lt, iI_le, iI_eq, jI_iI, B_True, B_False, B_t, B_f, ck_True, gd_True, cb_v, cb_n, p_mv_rw, p_fv_rw, p_rv_some, pA_1, pA_90, pA_92, pA_3, pA_2, pA_93, pA_4, pA_91, pA_95, pS_i, pW_i, pZ_0, pZ_1, pZ_b, bI_e0, u1_s, u1_n, uA_s, uA_n, true_and, and_true, not_true_eq_false, not_false_eq_true, eq_self, iI_z, al1, al2, al3, al4, al90, al91, al92, al93, al95, Int.cast_ofNat_Int, Nat.reduceAdd, Int.reduceNeg, Int.reduceAdd, Int.reduceSub, Int.reduceMul, Int.reduceLT, Int.reduceLE, Int.reduceGT, Int.reduceGE, Int.reduceEq, Int.reduceNe, Nat.reduceEqDiff, Int.zero_add, Int.add_zero, p_ty0, p_ty1, p_ty2, p_ty3, p_ty4, p_ty5, p_ty6, p_ty7, p_ty8, p_ty9, p_ty10, p_ty11, ty127, l2, gd_t, B_t, B_f]
        · rw [if_neg c7]
          have w1 := y_wordAt (d := e) (p := p) (e0 := t_end bs z p) hY hS1 he (by omega) (by omega)
          clear hY hS hS1 h4 hM1 m1
          simp (disch := omega) only [x_X8_kindAt_66, x_X8_kindAt_67, x_X8_kindAt_70, x_X8_kindAt_73, x_X8_kindAt_75, x_X8_kindAt_76, x_X8_kindAt_77, x_X8_kindAt_80, x_X8_kindAt_83, x_X8_kindAt_85, x_X8_kindAt_86, x_X8_kindAt_87, x_X8_kindAt_89, x_X8_kindAt_92, x_X8_kindAt_94, x_X8_kindAt_97, x_X8_kindAt_98, x_X8_kindAt_99, x_X8_kindAt_101, x_X8_kindAt_102, x_X8_kindAt_103, x_X8_kindAt_106, List.length_cons, List.length_nil, Nat.reduceLeDiff, Nat.zero_add, iI_add, iI_sub, iI_mul, iI_neg, iI_lt, iI_le, iI_eq, jI_iI, B_True, B_False, B_t, B_f, ck_True, gd_True, cb_v, cb_n, p_mv_rw, p_fv_rw, p_rv_some, pA_1, pA_90, pA_92, pA_3, pA_2, pA_93, pA_4, pA_91, pA_95, pS_i, pW_i, pZ_0, pZ_1, pZ_b, bI_e0, u1_s, u1_n, uA_s, uA_n, true_and, and_true, not_true_eq_false, not_false_eq_true, eq_self, iI_z, al1, al2, al3, al4, al90, al91, al92, al93, al95, Int.cast_ofNat_Int, Nat.reduceAdd, Int.reduceNeg, Int.reduceAdd, Int.reduceSub, Int.reduceMul, Int.reduceLT, Int.reduceLE, Int.reduceGT, Int.reduceGE, Int.reduceEq, Int.reduceNe, Nat.reduceEqDiff, Int.zero_add, Int.add_zero, p_ty0, p_ty1, p_ty2, p_ty3, p_ty4, p_ty5, p_ty6, p_ty7, p_ty8, p_ty9, p_ty10, p_ty11, ty127, l2, w1, gd_t, B_t, B_f]
      · rw [if_neg c6]
        rw [bI_f c6] at l2
        by_cases c8 : t_b bs z p = 59
        · rw [if_pos c8]
          rw [c8] at l2
          rw [c8]
          clear hY hS hS1 h4 hM1 m1
          simp (disch := omega) only [x_X8_kindAt_66, x_X8_kindAt_67, x_X8_kindAt_70, x_X8_kindAt_73, x_X8_kindAt_75, x_X8_kindAt_76, x_X8_kindAt_77, x_X8_kindAt_80, x_X8_kindAt_83, x_X8_kindAt_85, x_X8_kindAt_86, x_X8_kindAt_87, x_X8_kindAt_89, x_X8_kindAt_92, x_X8_kindAt_94, x_X8_kindAt_97, x_X8_kindAt_98, x_X8_kindAt_99, x_X8_kindAt_101, x_X8_kindAt_102, x_X8_kindAt_103, x_X8_kindAt_106, x_X8_kindAt_107, x_X8_kindAt_108, x_X8_kindAt_110, x_X8_kindAt_113, x_X8_kindAt_115, x_X8_kindAt_118, x_X8_kindAt_120, List.length_cons, List.length_nil, Nat.reduceLeDiff, Nat.zero_add, iI_add, iI_sub, iI_mul, iI_neg, iI_lt, iI_le, iI_eq, jI_iI, B_True, B_False, B_t, B_f, ck_True, gd_True, cb_v, cb_n, p_mv_rw, p_fv_rw, p_rv_some, pA_1, pA_90, pA_92, pA_3, pA_2, pA_93, pA_4, pA_91, pA_95, pS_i, pW_i, pZ_0, pZ_1, pZ_b, bI_e0, u1_s, u1_n, uA_s, uA_n, true_and, and_true, not_true_eq_false, not_false_eq_true, eq_self, iI_z, al1, al2, al3, al4, al90, al91, al92, al93, al95, Int.cast_ofNat_Int, Nat.reduceAdd, Int.reduceNeg, Int.reduceAdd, Int.reduceSub, Int.reduceMul, Int.reduceLT, Int.reduceLE, Int.reduceGT, Int.reduceGE, Int.reduceEq, Int.reduceNe, Nat.reduceEqDiff, Int.zero_add, Int.add_zero, p_ty0, p_ty1, p_ty2, p_ty3, p_ty4, p_ty5, p_ty6, p_ty7, p_ty8, p_ty9, p_ty10, p_ty11, ty127, l2, gd_t, B_t, B_f]
        · rw [if_neg c8]
          clear hY hS hS1 h4 hM1 m1
          simp (disch := omega) only [x_X8_kindAt_66, x_X8_kindAt_67, x_X8_kindAt_70, x_X8_kindAt_73, x_X8_kindAt_75, x_X8_kindAt_76, x_X8_kindAt_77, x_X8_kindAt_80, x_X8_kindAt_83, x_X8_kindAt_85, x_X8_kindAt_86, x_X8_kindAt_87, x_X8_kindAt_89, x_X8_kindAt_92, x_X8_kindAt_94, x_X8_kindAt_97, x_X8_kindAt_98, x_X8_kindAt_99, x_X8_kindAt_101, x_X8_kindAt_102, x_X8_kindAt_103, x_X8_kindAt_106, x_X8_kindAt_107, x_X8_kindAt_108, x_X8_kindAt_110, x_X8_kindAt_113, x_X8_kindAt_115, x_X8_kindAt_118, x_X8_kindAt_120, List.length_cons, List.length_nil, Nat.reduceLeDiff, Nat.zero_add, iI_add, iI_sub, iI_mul, iI_neg, iI_lt, iI_le, iI_eq, jI_iI, B_True, B_False, B_t, B_f, ck_True, gd_True, cb_v, cb_n, p_mv_rw, p_fv_rw, p_rv_some, pA_1, pA_90, pA_92, pA_3, pA_2, pA_93, pA_4, pA_91, pA_95, pS_i, pW_i, pZ_0, pZ_1, pZ_b, bI_e0, u1_s, u1_n, uA_s, uA_n, true_and, and_true, not_true_eq_false, not_false_eq_true, eq_self, iI_z, al1, al2, al3, al4, al90, al91, al92, al93, al95, Int.cast_ofNat_Int, Nat.reduceAdd, Int.reduceNeg, Int.reduceAdd, Int.reduceSub, Int.reduceMul, Int.reduceLT, Int.reduceLE, Int.reduceGT, Int.reduceGE, Int.reduceEq, Int.reduceNe, Nat.reduceEqDiff, Int.zero_add, Int.add_zero, p_ty0, p_ty1, p_ty2, p_ty3, p_ty4, p_ty5, p_ty6, p_ty7, p_ty8, p_ty9, p_ty10, p_ty11, ty127, l2, gd_t, B_t, B_f]
end PYRT
