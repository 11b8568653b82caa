section PTCO
variable {d g : Nat} {T : pT} {M M0 M1 M2 : pM} {F F1 : pF} {bb : Int → Int} {t pas q its to as p z n i c s x er st : Int} {k j : Nat} {Q P R0 : List TKn} {H : List HE}
noncomputable def d_run : List TKn → GSx → Int × Int × GSx
  | [], S => (0, -1, S)
  | x :: R, S =>
    if x.2.1 = 0 then d_run R (q_sb, 0, -1, 0, [])
    else if x.2.1 = 1 then (if (d_put R S).1 = 0 then d_run R (d_put R S).2.2 else d_put R S)
    else if x.2.1 = 2 then d_run R (S.1, knum (R.getD 0 tk0).2.1, -1, 0, [])
    else if x.2.1 = 3 then (if (d_go x R S).1 = 0 then d_run R (d_go x R S).2.2 else d_go x R S)
    else d_run R S
/-- the grammar runs over tokens -/
def g_run : Int → List TKn → Int
  | st, [] => st
  | st, x :: L => if g_b st x.2.1 = 10 then 10 else g_run (g_b st x.2.1) L
theorem acc_cons {R : List TKn} (h : g_run st R = 0) (h0 : st ≠ 0) : ∃ x R', R = x :: R' ∧ g_b st x.2.1 ≠ 10 ∧ g_run (g_b st x.2.1) R' = 0 := by
  cases R with
  | nil => exact absurd h h0
  | cons x R' =>
    rw [g_run] at h
    split at h
    · exact absurd h (by decide)
    · rename_i h2; exact ⟨x, R', rfl, h2, h⟩
theorem g_first (hk : k < 4) (h : g_b st k ≠ 10) (hs : 0 ≤ st ∧ st ≤ 9) : st = 0 := by
  by_cases e : st = 0
  · exact e
  · exfalso
    apply h
    unfold g_b g_l
    obtain rfl | rfl | rfl | rfl | rfl | rfl | rfl | rfl | rfl : st = 1 ∨ st = 2 ∨ st = 3 ∨ st = 4 ∨ st = 5 ∨ st = 6 ∨ st = 7 ∨ st = 8 ∨ st = 9 := by omega
    all_goals (simp only [Int.reduceEq, if_false, if_true]; (repeat' split) <;> first | rfl | omega)
theorem g_1 (h : g_b 1 k ≠ 10) : (k = 5 ∨ k = 6) ∧ g_b 1 k = 2 := by
  by_cases c : k = 5 ∨ k = 6
  · exact ⟨c, if_pos c⟩
  · exact absurd (if_neg c) h
theorem g_2 (h : g_b 2 k ≠ 10) : (7 ≤ k ∧ k ≤ 12) ∧ g_b 2 k = 3 := by
  by_cases c : 7 ≤ k ∧ k ≤ 12
  · exact ⟨c, if_pos c⟩
  · exact absurd (if_neg c) h
theorem g_3 (h : g_b 3 k ≠ 10) : k = 14 ∧ g_b 3 k = 9 := by
  by_cases c : k = 14
  · exact ⟨c, if_pos c⟩
  · exact absurd (if_neg c) h
theorem g_4 (h : g_b 4 k ≠ 10) : (k = 5 ∨ k = 6) ∧ g_b 4 k = 9 := by
  by_cases c : k = 5 ∨ k = 6
  · exact ⟨c, if_pos c⟩
  · exact absurd (if_neg c) h
theorem g_5 (h : g_b 5 k ≠ 10) : k = 14 ∧ g_b 5 k = 6 := by
  by_cases c : k = 14
  · exact ⟨c, if_pos c⟩
  · exact absurd (if_neg c) h
theorem g_6 (h : g_b 6 k ≠ 10) : k = 14 ∧ g_b 6 k = 7 := by
  by_cases c : k = 14
  · exact ⟨c, if_pos c⟩
  · exact absurd (if_neg c) h
theorem g_7 (h : g_b 7 k ≠ 10) : (k = 4 ∧ g_b 7 k = 8) ∨ (k = 13 ∧ g_b 7 k = 0) := by
  by_cases c : k = 4
  · exact Or.inl ⟨c, if_pos c⟩
  · have e : g_b 7 k = g_l k := if_neg c
    by_cases c2 : k = 13
    · exact Or.inr ⟨c2, e.trans (if_pos c2)⟩
    · exact absurd (e.trans (if_neg c2)) h
theorem g_8 (h : g_b 8 k ≠ 10) : (7 ≤ k ∧ k ≤ 12) ∧ g_b 8 k = 9 := by
  by_cases c : 7 ≤ k ∧ k ≤ 12
  · exact ⟨c, if_pos c⟩
  · exact absurd (if_neg c) h
theorem g_9 (h : g_b 9 k ≠ 10) : k = 13 ∧ g_b 9 k = 0 := by
  by_cases c : k = 13
  · exact ⟨c, if_pos c⟩
  · exact absurd (if_neg c) h
def g_w (st : Int) : Int := if st = 5 then 3 else if st = 6 then 2 else if st = 7 then 1 else 0
theorem g_w_rg : 0 ≤ g_w st ∧ g_w st ≤ 3 := by unfold g_w; repeat' split <;> omega
theorem g_w_st (h : g_b st k ≠ 10) (hs : 0 ≤ st ∧ st ≤ 9) : g_w st ≤ 1 + g_w (g_b st k) := by
  have h0 := g_w_rg (st := g_b st k)
  obtain rfl | rfl | rfl | rfl | rfl | rfl | rfl | rfl | rfl | rfl : st = 0 ∨ st = 1 ∨ st = 2 ∨ st = 3 ∨ st = 4 ∨ st = 5 ∨ st = 6 ∨ st = 7 ∨ st = 8 ∨ st = 9 := by omega
  all_goals try (rw [show ∀ y : Int, g_w y = if y = 5 then 3 else if y = 6 then 2 else if y = 7 then 1 else 0 from fun _ => rfl]; simp only [Int.reduceEq, if_false, if_true]; omega)
  · rw [(g_5 h).2]; decide
  · rw [(g_6 h).2]; decide
theorem d_go_len {x : TKn} {R : List TKn} {S : GSx} : (d_go x R S).2.2.2.2.2.2.length ≤ S.2.2.2.2.length + 1 := by
  unfold d_go
  repeat' split
  all_goals first | exact Nat.le_succ _ | exact Nat.le_refl _
theorem d_put_len {R : List TKn} {S : GSx} : (d_put R S).2.2.2.2.2.2.length ≤ S.2.2.2.2.length := by
  unfold d_put
  repeat' split
  all_goals first | exact Nat.zero_le _ | exact Nat.le_refl _
theorem sm_congr {f h : Int → Int} : ∀ n : Nat, (∀ k : Nat, k < n → f k = h k) → sm f n = sm h n
  | 0, _ => rfl
  | n + 1, e => by rw [sm, sm, sm_congr n (fun k hk => e k (by omega)), e n (by omega)]
def a_pcC (b : Int → Int) (s k : Int) : Int := if m_side (b k) = s then 1 else 0
theorem a_pc_C (b : Int → Int) (s k : Int) : a_pc b s k = a_pcC b s k := by
  unfold a_pc a_pcC
  split
  · exact bI_t ‹_›
  · exact bI_f ‹_›
theorem p20_sb : P20 q_sb := by
  intro s hs
  rw [sm_congr (h := a_pcC q_sb s) 91 (fun k _ => a_pc_C _ _ _)]
  rcases hs with rfl | rfl <;> decide +kernel
theorem p20_0 : P20 (fun _ => 0) := by
  intro s hs
  rw [sm_congr (h := a_pcC (fun _ => 0) s) 91 (fun k _ => a_pc_C _ _ _)]
  rcases hs with rfl | rfl <;> decide +kernel
theorem tc_out {l5 : Slot} (t0 : p_ty T 107 = (15, 1)) (hR : RT T F 103) (hS : RS M F 103 Q) (hj : j < 401) (he : 1 ≤ er ∧ er ≤ 5) {e : Nat} : R e m_X5_carryOut 109 [.val (.ref 107), .val (.ref 103), .val (.ref g), .val (.int (iI er)), .val (.int (iI (j : Int))), l5] [] T M F = some (.inl (some (.int (iI er))), T, M, F) := by
  have r0 := hR.2.1
  have s0 := hS.1
  have s1 := hS.2.1
  clear hR hS
  by_cases c : j + 1 < Q.length
  · simp (disch := omega) only [x_X5_carryOut_109, x_X5_carryOut_112, x_X5_carryOut_115, x_X5_carryOut_10, x_X5_carryOut_12, x_X5_carryOut_13, x_X5_carryOut_16, x_X5_carryOut_19, x_X5_carryOut_20, x_X5_carryOut_115, x_X5_carryOut_116, List.length_cons, List.length_nil, Nat.reduceLeDiff, Nat.zero_add, iI_add, iI_sub, iI_mul, iI_neg, iI_lt, iI_le, iI_eq, jI_iI, B_True, B_False, B_t, B_f, ck_True, gd_True, cb_v, cb_n, p_mv_rw, p_fv_rw, p_rv_some, pA_1, pA_90, pA_92, pA_3, pA_5, pA_93, pA_4, pA_91, pA_6, pS_i, pB_i, pW_i, pZ_0, pZ_1, pZ_b, bI_e0, u1_s, u1_n, uA_s, uA_n, true_and, and_true, not_true_eq_false, not_false_eq_true, eq_self, iI_z, al1, al5, al3, al4, al90, al91, al92, al93, al6, Int.cast_ofNat_Int, Nat.reduceAdd, Int.reduceNeg, Int.reduceAdd, Int.reduceSub, Int.reduceMul, Int.reduceLT, Int.reduceLE, Int.reduceGT, Int.reduceGE, Int.reduceEq, Int.reduceNe, Nat.reduceEqDiff, Int.zero_add, Int.add_zero, p_ty0, p_ty1, p_ty2, p_ty3, p_ty4, p_ty5, p_ty8, p_ty9, p_ty10, r0, s0, gd_t, B_t, B_f]
  · simp (disch := omega) only [x_X5_carryOut_109, x_X5_carryOut_112, x_X5_carryOut_115, x_X5_carryOut_10, x_X5_carryOut_12, x_X5_carryOut_13, x_X5_carryOut_16, x_X5_carryOut_19, x_X5_carryOut_20, x_X5_carryOut_115, x_X5_carryOut_116, List.length_cons, List.length_nil, Nat.reduceLeDiff, Nat.zero_add, iI_add, iI_sub, iI_mul, iI_neg, iI_lt, iI_le, iI_eq, jI_iI, B_True, B_False, B_t, B_f, ck_True, gd_True, cb_v, cb_n, p_mv_rw, p_fv_rw, p_rv_some, pA_1, pA_90, pA_92, pA_3, pA_5, pA_93, pA_4, pA_91, pA_6, pS_i, pB_i, pW_i, pZ_0, pZ_1, pZ_b, bI_e0, u1_s, u1_n, uA_s, uA_n, true_and, and_true, not_true_eq_false, not_false_eq_true, eq_self, iI_z, al1, al5, al3, al4, al90, al91, al92, al93, al6, Int.cast_ofNat_Int, Nat.reduceAdd, Int.reduceNeg, Int.reduceAdd, Int.reduceSub, Int.reduceMul, Int.reduceLT, Int.reduceLE, Int.reduceGT, Int.reduceGE, Int.reduceEq, Int.reduceNe, Nat.reduceEqDiff, Int.zero_add, Int.add_zero, p_ty0, p_ty1, p_ty2, p_ty3, p_ty4, p_ty5, p_ty8, p_ty9, p_ty10, r0, s0, gd_t, B_t, B_f]
theorem co_loop (hg : 113 ≤ g) (t0 : p_ty T 107 = (15, 1)) (hR : RT T F 103) (hG : GT T F g) : ∀ (R0 P : List TKn) (st : Int) (S : GSx) (M : pM), P ++ R0 = Q → RS M F 103 Q → GAx M g S → (0 ≤ st ∧ st ≤ 9) → g_run st R0 = 0 → 4 * (S.2.2.2.2.length : Int) ≤ P.length + g_w st → M 107 0 = -1 →
    ∃ M', (∀ e l5, 8 ≤ e → R e m_X5_carryOut 10 [.val (.ref 107), .val (.ref 103), .val (.ref g), .val (.int (iI 0)), .val (.int (iI (P.length : Int))), l5] [] T M F = some (.inl (some (.int (iI (d_run R0 S).1))), T, M', F)) ∧ GAx M' g (d_run R0 S).2.2 ∧ (0 ≤ (d_run R0 S).1 ∧ (d_run R0 S).1 ≤ 5) ∧ M' 107 0 = (d_run R0 S).2.1 ∧ ((d_run R0 S).1 = 0 → (d_run R0 S).2.1 = -1) ∧ (d_run R0 S).2.2.2.2.2.2.length ≤ 100 ∧ ∀ a, a ≠ 107 → (a < g ∨ g + 6 < a) → M' a = M a := by
  intro R0
  induction R0 with
  | nil =>
    intro P st S M hQ hS hA hst hrun hlen h107
    have hw := g_w_rg (st := st)
    rw [g_run] at hrun
    subst hrun
    have hl := hS.2.1
    rw [List.append_nil] at hQ
    subst hQ
    rw [d_run]
    refine ⟨M, fun e l5 he => ?_, hA, ⟨Int.le_refl _, by show (0 : Int) ≤ 5; omega⟩, h107, fun _ => rfl, ?_, fun _ _ _ => rfl⟩
    · have r0 := hR.2.1
      have s0 := hS.1
      show _ = (some (.inl (some (.int (iI 0))), T, M, F) : Option pR)
      clear hS hR hG hA
      simp (disch := omega) only [x_X5_carryOut_10, x_X5_carryOut_12, x_X5_carryOut_13, x_X5_carryOut_16, x_X5_carryOut_19, x_X5_carryOut_20, x_X5_carryOut_115, x_X5_carryOut_116, List.length_cons, List.length_nil, Nat.reduceLeDiff, Nat.zero_add, iI_add, iI_sub, iI_mul, iI_neg, iI_lt, iI_le, iI_eq, jI_iI, B_True, B_False, B_t, B_f, ck_True, gd_True, cb_v, cb_n, p_mv_rw, p_fv_rw, p_rv_some, pA_1, pA_90, pA_92, pA_3, pA_5, pA_93, pA_4, pA_91, pA_6, pS_i, pB_i, pW_i, pZ_0, pZ_1, pZ_b, bI_e0, u1_s, u1_n, uA_s, uA_n, true_and, and_true, not_true_eq_false, not_false_eq_true, eq_self, iI_z, al1, al5, al3, al4, al90, al91, al92, al93, al6, Int.cast_ofNat_Int, Nat.reduceAdd, Int.reduceNeg, Int.reduceAdd, Int.reduceSub, Int.reduceMul, Int.reduceLT, Int.reduceLE, Int.reduceGT, Int.reduceGE, Int.reduceEq, Int.reduceNe, Nat.reduceEqDiff, Int.zero_add, Int.add_zero, p_ty0, p_ty1, p_ty2, p_ty3, p_ty4, p_ty5, p_ty8, p_ty9, p_ty10, r0, s0, gd_t, B_t, B_f]
    · show S.2.2.2.2.length ≤ 100
      rw [show g_w 0 = 0 from rfl] at hlen
      omega
  | cons x R0 ih =>
    intro P st S M hQ hS hA hst hrun hlen h107
    have hl := hS.2.1
    have hQl : P.length + 1 + R0.length = Q.length := by rw [← hQ]; simp; omega
    have hx : Q.getD P.length tk0 = x := by rw [← hQ]; exact tk_at0 _ _
    have hok : TKok x := by rw [← hx]; exact tk_ok hS.2.2.1
    have hk := hok.2.1
    have hQ' : (P ++ [x]) ++ R0 = Q := by rw [List.append_assoc]; exact hQ
    have hPl : (P ++ [x]).length = P.length + 1 := by rw [List.length_append, List.length_singleton]
    rw [g_run] at hrun
    have hb10 : g_b st x.2.1 ≠ 10 := by
      intro z; rw [if_pos z] at hrun; exact absurd hrun (by decide)
    rw [if_neg hb10] at hrun
    have hbr := g_b_rg (k := x.2.1) (st := st)
    have hbr9 : 0 ≤ g_b st x.2.1 ∧ g_b st x.2.1 ≤ 9 := by omega
    have hw := g_w_st hb10 hst
    have hwr := g_w_rg (st := st)
    have hwr2 := g_w_rg (st := g_b st x.2.1)
    have r0 := hR.2.1
    have s0 := hS.1
    have ka := fun e (he : 8 ≤ e) => c_kindAt (d := e) hR hS (j := P.length) (by omega) (by omega)
    rw [hx] at ka
    have y0 := kd_ty (T := T) hk
    have y1 := kd_t (T := T) 12 (by omega)
    have y2 := kd_t (T := T) 13 (by omega)
    have y3 := kd_t (T := T) 14 (by omega)
    have y4 := kd_t (T := T) 15 (by omega)
    have tg := hG.2.1
    have hH : S.2.2.2.2.length < 620 := by omega
    by_cases c0 : x.2.1 = 0
    · obtain ⟨M1, v1, S1, z5, z8, gf⟩ := c_gsetUp (T := T) (F := F) hG hA.gs.1.1
      obtain ⟨M2, v2, A2, r2, p2, q2, l2, f2⟩ := ih (P ++ [x]) (g_b st x.2.1) (q_sb, 0, -1, 0, []) M1 hQ' (hS.o hg gf) (GAx.new S1 z5 z8 p20_sb) hbr9 hrun (by rw [hPl]; show 4 * ((0 : Nat) : Int) ≤ _; omega) (by rw [gf 107 (by omega)]; exact h107)
      rw [d_run, if_pos c0]
      refine ⟨M2, fun e l5 he => ?_, A2, r2, p2, q2, l2, fun a a1 a2 => (f2 a a1 a2).trans (gf a a2)⟩
      have v1 := v1 e (by omega)
      have v2 := fun l5 => v2 e l5 he
      have ka := ka e he
      rw [hPl, Int.natCast_add_one] at v2
      clear ih hS hR hG hA A2 f2 gf S1 hQ hQ' hx hok
      rw [x_X5_carryOut_10]
      simp (disch := omega) only [x_X5_carryOut_12, x_X5_carryOut_13, x_X5_carryOut_16, x_X5_carryOut_19, x_X5_carryOut_20, x_X5_carryOut_23, x_X5_carryOut_24, x_X5_carryOut_26, x_X5_carryOut_29, x_X5_carryOut_31, x_X5_carryOut_33, x_X5_carryOut_36, x_X5_carryOut_39, x_X5_carryOut_40, x_X5_carryOut_43, x_X5_carryOut_46, x_X5_carryOut_48, x_X5_carryOut_51, x_X5_carryOut_54, x_X5_carryOut_55, x_X5_carryOut_56, x_X5_carryOut_57, x_X5_carryOut_59, x_X5_carryOut_62, x_X5_carryOut_63, x_X5_carryOut_66, x_X5_carryOut_68, x_X5_carryOut_71, x_X5_carryOut_74, x_X5_carryOut_75, x_X5_carryOut_76, x_X5_carryOut_78, x_X5_carryOut_79, x_X5_carryOut_80, x_X5_carryOut_83, x_X5_carryOut_86, x_X5_carryOut_89, x_X5_carryOut_92, x_X5_carryOut_94, x_X5_carryOut_97, x_X5_carryOut_100, x_X5_carryOut_101, x_X5_carryOut_102, x_X5_carryOut_103, x_X5_carryOut_105, x_X5_carryOut_108, x_X5_carryOut_109, x_X5_carryOut_112, x_X5_carryOut_115, List.length_cons, List.length_nil, Nat.reduceLeDiff, Nat.zero_add, iI_add, iI_sub, iI_mul, iI_neg, iI_lt, iI_le, iI_eq, jI_iI, B_True, B_False, B_t, B_f, ck_True, gd_True, cb_v, cb_n, p_mv_rw, p_fv_rw, p_rv_some, pA_1, pA_90, pA_92, pA_3, pA_5, pA_93, pA_4, pA_91, pA_6, pS_i, pB_i, pW_i, pZ_0, pZ_1, pZ_b, bI_e0, u1_s, u1_n, uA_s, uA_n, true_and, and_true, not_true_eq_false, not_false_eq_true, eq_self, iI_z, al1, al5, al3, al4, al90, al91, al92, al93, al6, Int.cast_ofNat_Int, Nat.reduceAdd, Int.reduceNeg, Int.reduceAdd, Int.reduceSub, Int.reduceMul, Int.reduceLT, Int.reduceLE, Int.reduceGT, Int.reduceGE, Int.reduceEq, Int.reduceNe, Nat.reduceEqDiff, Int.zero_add, Int.add_zero, p_ty0, p_ty1, p_ty2, p_ty3, p_ty4, p_ty5, p_ty8, p_ty9, p_ty10, t0, r0, s0, tg, ka, y0, y1, y2, y3, y4, c0, v1, v2, gd_t, B_t, B_f]
    rw [d_run, if_neg c0]
    by_cases c1 : x.2.1 = 1
    · rw [if_pos c1]
      have hst0 := g_first (k := x.2.1) (by omega) hb10 hst
      rw [hst0, c1] at hrun
      obtain ⟨x1, R1, e1, b1, u1⟩ := acc_cons (show g_run 1 R0 = 0 from hrun) (by decide)
      obtain ⟨k1, w1⟩ := g_1 b1
      rw [w1] at u1
      obtain ⟨x2, R2, e2, b2, u2⟩ := acc_cons u1 (by decide)
      obtain ⟨k2, w2⟩ := g_2 b2
      rw [w2] at u2
      obtain ⟨x3, R3, e3, b3, u3⟩ := acc_cons u2 (by decide)
      have eR : R0 = x1 :: x2 :: x3 :: R3 := by rw [e1, e2, e3]
      obtain ⟨M1, v1, A1, r1, p1, q1, f1⟩ := c_tput (T := T) (F := F) hg t0 hR hS hG hA (P := P) (x0 := x) (x1 := x1) (x2 := x2) (x3 := x3) (R' := R3) (by rw [← eR]; exact hQ) k1 k2
      rw [← eR] at v1 A1 r1 p1 q1
      have hln := d_put_len (R := R0) (S := S)
      have hS1 : RS M1 F 103 Q := hS.fr (f1 _ (by omega) (by omega)) (f1 _ (by omega) (by omega)) (f1 _ (by omega) (by omega)) rfl
      by_cases cz : (d_put R0 S).1 = 0
      · rw [if_pos cz]
        obtain ⟨M2, v2, A2, r2, p2, q2, l2, f2⟩ := ih (P ++ [x]) (g_b st x.2.1) (d_put R0 S).2.2 M1 hQ' hS1 A1 hbr9 (by rw [hst0, c1]; exact hrun) (by rw [hPl]; omega) (by rw [(q1 cz).1]; exact h107)
        refine ⟨M2, fun e l5 he => ?_, A2, r2, p2, q2, l2, fun a a1 a2 => (f2 a a1 a2).trans (f1 a a1 a2)⟩
        have v1 := v1 e (by omega)
        have v2 := fun l5 => v2 e l5 he
        have ka := ka e he
        rw [hPl, Int.natCast_add_one] at v2
        rw [cz] at v1
        clear ih hS hR hG hA A2 f2 f1 A1 hQ hQ' hx hok hS1 p1 q1 p2 q2 u1 u2 u3 hrun
        rw [x_X5_carryOut_10]
        simp (disch := omega) only [x_X5_carryOut_12, x_X5_carryOut_13, x_X5_carryOut_16, x_X5_carryOut_19, x_X5_carryOut_20, x_X5_carryOut_23, x_X5_carryOut_24, x_X5_carryOut_26, x_X5_carryOut_29, x_X5_carryOut_31, x_X5_carryOut_33, x_X5_carryOut_36, x_X5_carryOut_39, x_X5_carryOut_40, x_X5_carryOut_43, x_X5_carryOut_46, x_X5_carryOut_48, x_X5_carryOut_51, x_X5_carryOut_54, x_X5_carryOut_55, x_X5_carryOut_56, x_X5_carryOut_57, x_X5_carryOut_59, x_X5_carryOut_62, x_X5_carryOut_63, x_X5_carryOut_66, x_X5_carryOut_68, x_X5_carryOut_71, x_X5_carryOut_74, x_X5_carryOut_75, x_X5_carryOut_76, x_X5_carryOut_78, x_X5_carryOut_79, x_X5_carryOut_80, x_X5_carryOut_83, x_X5_carryOut_86, x_X5_carryOut_89, x_X5_carryOut_92, x_X5_carryOut_94, x_X5_carryOut_97, x_X5_carryOut_100, x_X5_carryOut_101, x_X5_carryOut_102, x_X5_carryOut_103, x_X5_carryOut_105, x_X5_carryOut_108, x_X5_carryOut_109, x_X5_carryOut_112, x_X5_carryOut_115, List.length_cons, List.length_nil, Nat.reduceLeDiff, Nat.zero_add, iI_add, iI_sub, iI_mul, iI_neg, iI_lt, iI_le, iI_eq, jI_iI, B_True, B_False, B_t, B_f, ck_True, gd_True, cb_v, cb_n, p_mv_rw, p_fv_rw, p_rv_some, pA_1, pA_90, pA_92, pA_3, pA_5, pA_93, pA_4, pA_91, pA_6, pS_i, pB_i, pW_i, pZ_0, pZ_1, pZ_b, bI_e0, u1_s, u1_n, uA_s, uA_n, true_and, and_true, not_true_eq_false, not_false_eq_true, eq_self, iI_z, al1, al5, al3, al4, al90, al91, al92, al93, al6, Int.cast_ofNat_Int, Nat.reduceAdd, Int.reduceNeg, Int.reduceAdd, Int.reduceSub, Int.reduceMul, Int.reduceLT, Int.reduceLE, Int.reduceGT, Int.reduceGE, Int.reduceEq, Int.reduceNe, Nat.reduceEqDiff, Int.zero_add, Int.add_zero, p_ty0, p_ty1, p_ty2, p_ty3, p_ty4, p_ty5, p_ty8, p_ty9, p_ty10, t0, r0, s0, tg, ka, y0, y1, y2, y3, y4, c1, v1, v2, gd_t, B_t, B_f]
      · rw [if_neg cz]
        refine ⟨M1, fun e l5 he => ?_, A1, r1, p1 cz, fun z => absurd z cz, by omega, f1⟩
        have v1 := v1 e (by omega)
        have ka := ka e he
        have v2 := fun l5 => tc_out (g := g) (l5 := l5) (e := e) (j := P.length) (er := (d_put R0 S).1) t0 hR hS1 (by omega) (by omega)
        clear ih hS hR hG hA f1 A1 hQ hQ' hx hok hS1 p1 q1 u1 u2 u3 hrun
        rw [x_X5_carryOut_10]
        simp (disch := omega) only [x_X5_carryOut_12, x_X5_carryOut_13, x_X5_carryOut_16, x_X5_carryOut_19, x_X5_carryOut_20, x_X5_carryOut_23, x_X5_carryOut_24, x_X5_carryOut_26, x_X5_carryOut_29, x_X5_carryOut_31, x_X5_carryOut_33, x_X5_carryOut_36, x_X5_carryOut_39, x_X5_carryOut_40, x_X5_carryOut_43, x_X5_carryOut_46, x_X5_carryOut_48, x_X5_carryOut_51, x_X5_carryOut_54, x_X5_carryOut_55, x_X5_carryOut_56, x_X5_carryOut_57, x_X5_carryOut_59, x_X5_carryOut_62, x_X5_carryOut_63, x_X5_carryOut_66, x_X5_carryOut_68, x_X5_carryOut_71, x_X5_carryOut_74, x_X5_carryOut_75, x_X5_carryOut_76, x_X5_carryOut_78, x_X5_carryOut_79, x_X5_carryOut_80, x_X5_carryOut_83, x_X5_carryOut_86, x_X5_carryOut_89, x_X5_carryOut_92, x_X5_carryOut_94, x_X5_carryOut_97, x_X5_carryOut_100, x_X5_carryOut_101, x_X5_carryOut_102, x_X5_carryOut_103, x_X5_carryOut_105, x_X5_carryOut_108, List.length_cons, List.length_nil, Nat.reduceLeDiff, Nat.zero_add, iI_add, iI_sub, iI_mul, iI_neg, iI_lt, iI_le, iI_eq, jI_iI, B_True, B_False, B_t, B_f, ck_True, gd_True, cb_v, cb_n, p_mv_rw, p_fv_rw, p_rv_some, pA_1, pA_90, pA_92, pA_3, pA_5, pA_93, pA_4, pA_91, pA_6, pS_i, pB_i, pW_i, pZ_0, pZ_1, pZ_b, bI_e0, u1_s, u1_n, uA_s, uA_n, true_and, and_true, not_true_eq_false, not_false_eq_true, eq_self, iI_z, al1, al5, al3, al4, al90, al91, al92, al93, al6, Int.cast_ofNat_Int, Nat.reduceAdd, Int.reduceNeg, Int.reduceAdd, Int.reduceSub, Int.reduceMul, Int.reduceLT, Int.reduceLE, Int.reduceGT, Int.reduceGE, Int.reduceEq, Int.reduceNe, Nat.reduceEqDiff, Int.zero_add, Int.add_zero, p_ty0, p_ty1, p_ty2, p_ty3, p_ty4, p_ty5, p_ty8, p_ty9, p_ty10, t0, r0, s0, tg, ka, y0, y1, y2, y3, y4, c1, v1, v2, gd_t, B_t, B_f]
    rw [if_neg c1]
    by_cases c2 : x.2.1 = 2
    · rw [if_pos c2]
      have hst0 := g_first (k := x.2.1) (by omega) hb10 hst
      rw [hst0, c2] at hrun
      obtain ⟨x1, R1, e1, b1, u1⟩ := acc_cons (show g_run 4 R0 = 0 from hrun) (by decide)
      obtain ⟨k1, w1⟩ := g_4 b1
      have g1 : Q.getD (P.length + 1) tk0 = x1 := by rw [← hQ, e1]; exact tk_at _ _ 0
      have d0 : (R0.getD 0 tk0) = x1 := by rw [e1]; rfl
      have hs : knum x1.2.1 = 0 ∨ knum x1.2.1 = 1 := by
        rcases k1 with e | e <;> rw [e]
        · exact Or.inl rfl
        · exact Or.inr rfl
      rw [d0]
      obtain ⟨M1, v1, S1, z5, z8, gf⟩ := c_giveTurn (T := T) (F := F) hG hA.gs.1 hs
      obtain ⟨M2, v2, A2, r2, p2, q2, l2, f2⟩ := ih (P ++ [x]) (g_b st x.2.1) (S.1, knum x1.2.1, -1, 0, []) M1 hQ' (hS.o hg gf) (GAx.new S1 z5 z8 hA.1.2.2.1) hbr9 (by rw [hst0, c2]; exact hrun) (by rw [hPl]; show 4 * ((0 : Nat) : Int) ≤ _; omega) (by rw [gf 107 (by omega)]; exact h107)
      refine ⟨M2, fun e l5 he => ?_, A2, r2, p2, q2, l2, fun a a1 a2 => (f2 a a1 a2).trans (gf a a2)⟩
      have v1 := v1 e (by omega)
      have v2 := fun l5 => v2 e l5 he
      have ka := ka e he
      have kb := c_kindAt (d := e) hR hS (j := P.length + 1) (by omega) (by omega)
      rw [g1, Int.natCast_add_one] at kb
      have nb := kd_num (M := M) (k := x1.2.1) (by omega)
      have yb := kd_ty (T := T) (k := x1.2.1) (by omega)
      rw [hPl, Int.natCast_add_one] at v2
      clear ih hS hR hG hA A2 f2 gf S1 hQ hQ' hx hok u1 hrun g1 d0 p2 q2
      rw [x_X5_carryOut_10]
      simp (disch := omega) only [x_X5_carryOut_12, x_X5_carryOut_13, x_X5_carryOut_16, x_X5_carryOut_19, x_X5_carryOut_20, x_X5_carryOut_23, x_X5_carryOut_24, x_X5_carryOut_26, x_X5_carryOut_29, x_X5_carryOut_31, x_X5_carryOut_33, x_X5_carryOut_36, x_X5_carryOut_39, x_X5_carryOut_40, x_X5_carryOut_43, x_X5_carryOut_46, x_X5_carryOut_48, x_X5_carryOut_51, x_X5_carryOut_54, x_X5_carryOut_55, x_X5_carryOut_56, x_X5_carryOut_57, x_X5_carryOut_59, x_X5_carryOut_62, x_X5_carryOut_63, x_X5_carryOut_66, x_X5_carryOut_68, x_X5_carryOut_71, x_X5_carryOut_74, x_X5_carryOut_75, x_X5_carryOut_76, x_X5_carryOut_78, x_X5_carryOut_79, x_X5_carryOut_80, x_X5_carryOut_83, x_X5_carryOut_86, x_X5_carryOut_89, x_X5_carryOut_92, x_X5_carryOut_94, x_X5_carryOut_97, x_X5_carryOut_100, x_X5_carryOut_101, x_X5_carryOut_102, x_X5_carryOut_103, x_X5_carryOut_105, x_X5_carryOut_108, x_X5_carryOut_109, x_X5_carryOut_112, x_X5_carryOut_115, List.length_cons, List.length_nil, Nat.reduceLeDiff, Nat.zero_add, iI_add, iI_sub, iI_mul, iI_neg, iI_lt, iI_le, iI_eq, jI_iI, B_True, B_False, B_t, B_f, ck_True, gd_True, cb_v, cb_n, p_mv_rw, p_fv_rw, p_rv_some, pA_1, pA_90, pA_92, pA_3, pA_5, pA_93, pA_4, pA_91, pA_6, pS_i, pB_i, pW_i, pZ_0, pZ_1, pZ_b, bI_e0, u1_s, u1_n, uA_s, uA_n, true_and, and_true, not_true_eq_false, not_false_eq_true, eq_self, iI_z, al1, al5, al3, al4, al90, al91, al92, al93, al6, Int.cast_ofNat_Int, Nat.reduceAdd, Int.reduceNeg, Int.reduceAdd, Int.reduceSub, Int.reduceMul, Int.reduceLT, Int.reduceLE, Int.reduceGT, Int.reduceGE, Int.reduceEq, Int.reduceNe, Nat.reduceEqDiff, Int.zero_add, Int.add_zero, p_ty0, p_ty1, p_ty2, p_ty3, p_ty4, p_ty5, p_ty8, p_ty9, p_ty10, t0, r0, s0, tg, ka, kb, nb, yb, y0, y1, y2, y3, y4, c2, v1, v2, gd_t, B_t, B_f]
    rw [if_neg c2]
    by_cases c3 : x.2.1 = 3
    · rw [if_pos c3]
      have hst0 := g_first (k := x.2.1) (by omega) hb10 hst
      rw [hst0, c3] at hrun
      obtain ⟨x1, R1, e1, b1, u1⟩ := acc_cons (show g_run 5 R0 = 0 from hrun) (by decide)
      obtain ⟨k1, w1⟩ := g_5 b1
      rw [w1] at u1
      obtain ⟨x2, R2, e2, b2, u2⟩ := acc_cons u1 (by decide)
      obtain ⟨k2, w2⟩ := g_6 b2
      rw [w2] at u2
      obtain ⟨x3, R3, e3, b3, u3⟩ := acc_cons u2 (by decide)
      have eR : R0 = x1 :: x2 :: x3 :: R3 := by rw [e1, e2, e3]
      obtain ⟨M1, v1, A1, r1, p1, q1, f1⟩ := c_tgo (T := T) (F := F) hg t0 hR hS hG hA (P := P) (x0 := x) (x1 := x1) (x2 := x2) (x3 := x3) (R' := R3) (by rw [← eR]; exact hQ) (by
        intro k4
        rcases g_7 b3 with ⟨-, w3⟩ | ⟨k13, -⟩
        · rw [w3] at u3
          obtain ⟨x4, R4, e4, b4, u4⟩ := acc_cons u3 (by decide)
          exact ⟨x4, R4, e4, (g_8 b4).1⟩
        · omega) hH
      rw [← eR] at v1 A1 r1 p1 q1
      have hln := d_go_len (x := x) (R := R0) (S := S)
      have hS1 : RS M1 F 103 Q := hS.fr (f1 _ (by omega) (by omega)) (f1 _ (by omega) (by omega)) (f1 _ (by omega) (by omega)) rfl
      have hw5 : g_w (g_b st x.2.1) = 3 := by rw [hst0, c3]; rfl
      have hw0 : g_w st = 0 := by rw [hst0]; rfl
      by_cases cz : (d_go x R0 S).1 = 0
      · rw [if_pos cz]
        obtain ⟨M2, v2, A2, r2, p2, q2, l2, f2⟩ := ih (P ++ [x]) (g_b st x.2.1) (d_go x R0 S).2.2 M1 hQ' hS1 A1 hbr9 (by rw [hst0, c3]; exact hrun) (by rw [hPl]; omega) (by rw [(q1 cz).1]; exact h107)
        refine ⟨M2, fun e l5 he => ?_, A2, r2, p2, q2, l2, fun a a1 a2 => (f2 a a1 a2).trans (f1 a a1 a2)⟩
        have v1 := v1 e (by omega)
        have v2 := fun l5 => v2 e l5 he
        have ka := ka e he
        rw [hPl, Int.natCast_add_one] at v2
        rw [cz] at v1
        clear ih hS hR hG hA A2 f2 f1 A1 hQ hQ' hx hok hS1 p1 q1 p2 q2 u1 u2 u3 hrun
        rw [x_X5_carryOut_10]
        simp (disch := omega) only [x_X5_carryOut_12, x_X5_carryOut_13, x_X5_carryOut_16, x_X5_carryOut_19, x_X5_carryOut_20, x_X5_carryOut_23, x_X5_carryOut_24, x_X5_carryOut_26, x_X5_carryOut_29, x_X5_carryOut_31, x_X5_carryOut_33, x_X5_carryOut_36, x_X5_carryOut_39, x_X5_carryOut_40, x_X5_carryOut_43, x_X5_carryOut_46, x_X5_carryOut_48, x_X5_carryOut_51, x_X5_carryOut_54, x_X5_carryOut_55, x_X5_carryOut_56, x_X5_carryOut_57, x_X5_carryOut_59, x_X5_carryOut_62, x_X5_carryOut_63, x_X5_carryOut_66, x_X5_carryOut_68, x_X5_carryOut_71, x_X5_carryOut_74, x_X5_carryOut_75, x_X5_carryOut_76, x_X5_carryOut_78, x_X5_carryOut_79, x_X5_carryOut_80, x_X5_carryOut_83, x_X5_carryOut_86, x_X5_carryOut_89, x_X5_carryOut_92, x_X5_carryOut_94, x_X5_carryOut_97, x_X5_carryOut_100, x_X5_carryOut_101, x_X5_carryOut_102, x_X5_carryOut_103, x_X5_carryOut_105, x_X5_carryOut_108, x_X5_carryOut_109, x_X5_carryOut_112, x_X5_carryOut_115, List.length_cons, List.length_nil, Nat.reduceLeDiff, Nat.zero_add, iI_add, iI_sub, iI_mul, iI_neg, iI_lt, iI_le, iI_eq, jI_iI, B_True, B_False, B_t, B_f, ck_True, gd_True, cb_v, cb_n, p_mv_rw, p_fv_rw, p_rv_some, pA_1, pA_90, pA_92, pA_3, pA_5, pA_93, pA_4, pA_91, pA_6, pS_i, pB_i, pW_i, pZ_0, pZ_1, pZ_b, bI_e0, u1_s, u1_n, uA_s, uA_n, true_and, and_true, not_true_eq_false, not_false_eq_true, eq_self, iI_z, al1, al5, al3, al4, al90, al91, al92, al93, al6, Int.cast_ofNat_Int, Nat.reduceAdd, Int.reduceNeg, Int.reduceAdd, Int.reduceSub, Int.reduceMul, Int.reduceLT, Int.reduceLE, Int.reduceGT, Int.reduceGE, Int.reduceEq, Int.reduceNe, Nat.reduceEqDiff, Int.zero_add, Int.add_zero, p_ty0, p_ty1, p_ty2, p_ty3, p_ty4, p_ty5, p_ty8, p_ty9, p_ty10, t0, r0, s0, tg, ka, y0, y1, y2, y3, y4, c3, v1, v2, gd_t, B_t, B_f]
      · rw [if_neg cz]
        have hR3l : P.length + 4 + R3.length = Q.length := by rw [← hQ, eR]; simp; omega
        refine ⟨M1, fun e l5 he => ?_, A1, r1, p1 cz, fun z => absurd z cz, by omega, f1⟩
        have v1 := v1 e (by omega)
        have ka := ka e he
        have v2 := fun l5 => tc_out (g := g) (l5 := l5) (e := e) (j := P.length) (er := (d_go x R0 S).1) t0 hR hS1 (by omega) (by omega)
        clear ih hS hR hG hA f1 A1 hQ hQ' hx hok hS1 p1 q1 u1 u2 u3 hrun
        rw [x_X5_carryOut_10]
        simp (disch := omega) only [x_X5_carryOut_12, x_X5_carryOut_13, x_X5_carryOut_16, x_X5_carryOut_19, x_X5_carryOut_20, x_X5_carryOut_23, x_X5_carryOut_24, x_X5_carryOut_26, x_X5_carryOut_29, x_X5_carryOut_31, x_X5_carryOut_33, x_X5_carryOut_36, x_X5_carryOut_39, x_X5_carryOut_40, x_X5_carryOut_43, x_X5_carryOut_46, x_X5_carryOut_48, x_X5_carryOut_51, x_X5_carryOut_54, x_X5_carryOut_55, x_X5_carryOut_56, x_X5_carryOut_57, x_X5_carryOut_59, x_X5_carryOut_62, x_X5_carryOut_63, x_X5_carryOut_66, x_X5_carryOut_68, x_X5_carryOut_71, x_X5_carryOut_74, x_X5_carryOut_75, x_X5_carryOut_76, x_X5_carryOut_78, x_X5_carryOut_79, x_X5_carryOut_80, x_X5_carryOut_83, x_X5_carryOut_86, x_X5_carryOut_89, x_X5_carryOut_92, x_X5_carryOut_94, x_X5_carryOut_97, x_X5_carryOut_100, x_X5_carryOut_101, x_X5_carryOut_102, x_X5_carryOut_103, x_X5_carryOut_105, x_X5_carryOut_108, List.length_cons, List.length_nil, Nat.reduceLeDiff, Nat.zero_add, iI_add, iI_sub, iI_mul, iI_neg, iI_lt, iI_le, iI_eq, jI_iI, B_True, B_False, B_t, B_f, ck_True, gd_True, cb_v, cb_n, p_mv_rw, p_fv_rw, p_rv_some, pA_1, pA_90, pA_92, pA_3, pA_5, pA_93, pA_4, pA_91, pA_6, pS_i, pB_i, pW_i, pZ_0, pZ_1, pZ_b, bI_e0, u1_s, u1_n, uA_s, uA_n, true_and, and_true, not_true_eq_false, not_false_eq_true, eq_self, iI_z, al1, al5, al3, al4, al90, al91, al92, al93, al6, Int.cast_ofNat_Int, Nat.reduceAdd, Int.reduceNeg, Int.reduceAdd, Int.reduceSub, Int.reduceMul, Int.reduceLT, Int.reduceLE, Int.reduceGT, Int.reduceGE, Int.reduceEq, Int.reduceNe, Nat.reduceEqDiff, Int.zero_add, Int.add_zero, p_ty0, p_ty1, p_ty2, p_ty3, p_ty4, p_ty5, p_ty8, p_ty9, p_ty10, t0, r0, s0, tg, ka, y0, y1, y2, y3, y4, c3, v1, v2, gd_t, B_t, B_f]
    rw [if_neg c3]
    obtain ⟨M2, v2, A2, r2, p2, q2, l2, f2⟩ := ih (P ++ [x]) (g_b st x.2.1) S M hQ' hS hA hbr9 hrun (by rw [hPl]; omega) h107
    refine ⟨M2, fun e l5 he => ?_, A2, r2, p2, q2, l2, f2⟩
    have v2 := fun l5 => v2 e l5 he
    have ka := ka e he
    rw [hPl, Int.natCast_add_one] at v2
    clear ih hS hR hG hA A2 f2 hQ hQ' hx hok p2 q2 hrun
    rw [x_X5_carryOut_10]
    simp (disch := omega) only [x_X5_carryOut_12, x_X5_carryOut_13, x_X5_carryOut_16, x_X5_carryOut_19, x_X5_carryOut_20, x_X5_carryOut_23, x_X5_carryOut_24, x_X5_carryOut_26, x_X5_carryOut_29, x_X5_carryOut_31, x_X5_carryOut_33, x_X5_carryOut_36, x_X5_carryOut_39, x_X5_carryOut_40, x_X5_carryOut_43, x_X5_carryOut_46, x_X5_carryOut_48, x_X5_carryOut_51, x_X5_carryOut_54, x_X5_carryOut_55, x_X5_carryOut_56, x_X5_carryOut_57, x_X5_carryOut_59, x_X5_carryOut_62, x_X5_carryOut_63, x_X5_carryOut_66, x_X5_carryOut_68, x_X5_carryOut_71, x_X5_carryOut_74, x_X5_carryOut_75, x_X5_carryOut_76, x_X5_carryOut_78, x_X5_carryOut_79, x_X5_carryOut_80, x_X5_carryOut_83, x_X5_carryOut_86, x_X5_carryOut_89, x_X5_carryOut_92, x_X5_carryOut_94, x_X5_carryOut_97, x_X5_carryOut_100, x_X5_carryOut_101, x_X5_carryOut_102, x_X5_carryOut_103, x_X5_carryOut_105, x_X5_carryOut_108, x_X5_carryOut_109, x_X5_carryOut_112, x_X5_carryOut_115, List.length_cons, List.length_nil, Nat.reduceLeDiff, Nat.zero_add, iI_add, iI_sub, iI_mul, iI_neg, iI_lt, iI_le, iI_eq, jI_iI, B_True, B_False, B_t, B_f, ck_True, gd_True, cb_v, cb_n, p_mv_rw, p_fv_rw, p_rv_some, pA_1, pA_90, pA_92, pA_3, pA_5, pA_93, pA_4, pA_91, pA_6, pS_i, pB_i, pW_i, pZ_0, pZ_1, pZ_b, bI_e0, u1_s, u1_n, uA_s, uA_n, true_and, and_true, not_true_eq_false, not_false_eq_true, eq_self, iI_z, al1, al5, al3, al4, al90, al91, al92, al93, al6, Int.cast_ofNat_Int, Nat.reduceAdd, Int.reduceNeg, Int.reduceAdd, Int.reduceSub, Int.reduceMul, Int.reduceLT, Int.reduceLE, Int.reduceGT, Int.reduceGE, Int.reduceEq, Int.reduceNe, Nat.reduceEqDiff, Int.zero_add, Int.add_zero, p_ty0, p_ty1, p_ty2, p_ty3, p_ty4, p_ty5, p_ty8, p_ty9, p_ty10, t0, r0, s0, tg, ka, y0, y1, y2, y3, y4, v2, gd_t, B_t, B_f]
theorem c_carry {S : GSx} (hg : 113 ≤ g) (t0 : p_ty T 107 = (15, 1)) (hR : RT T F 103) (hG : GT T F g) (hS : RS M F 103 Q) (hA : GAx M g S) (hH : S.2.2.2.2.length = 0) (hrun : g_run 0 Q = 0) :
    ∃ M', (∀ d, 9 ≤ d → callD d m_X5_carryOut [.ref 107, .ref 103, .ref g] T M F = some (.inl (some (.int (iI (d_run Q S).1))), T, M', F)) ∧ GAx M' g (d_run Q S).2.2 ∧ (0 ≤ (d_run Q S).1 ∧ (d_run Q S).1 ≤ 5) ∧ M' 107 0 = (d_run Q S).2.1 ∧ ((d_run Q S).1 = 0 → (d_run Q S).2.1 = -1) ∧ (d_run Q S).2.2.2.2.2.2.length ≤ 100 ∧ ∀ a, a ≠ 107 → (a < g ∨ g + 6 < a) → M' a = M a := by
  obtain ⟨M1, hM1⟩ : ∃ M1 : pM, M1 = uA M 107 (u1 (M 107) 0 (-1)) := ⟨_, rfl⟩
  have m1 : ∀ b, b ≠ 107 → M1 b = M b := fun b hb => by rw [hM1, uA_n hb]
  have hS1 : RS M1 F 103 Q := hS.fr (m1 _ (by omega)) (m1 _ (by omega)) (m1 _ (by omega)) rfl
  obtain ⟨M2, v2, A2, r2, p2, q2, l2, f2⟩ := co_loop (T := T) (F := F) (Q := Q) hg t0 hR hG Q [] 0 S M1 rfl hS1 (GF.fr hA m1 hg) (by omega) hrun (by rw [hH]; decide) (by rw [hM1, uA_s, u1_s])
  refine ⟨M2, fun d hd => ?_, A2, r2, p2, q2, l2, fun a a1 a2 => (f2 a a1 a2).trans (m1 a a1)⟩
  refine callD_go 8 hd rfl (fun e he => ?_)
  show R e m_X5_carryOut 0 [.val (.ref 107), .val (.ref 103), .val (.ref g), .unset, .unset, .unset] [] T M F = _
  have v2 := fun l5 => v2 e l5 he
  rw [List.length_nil, Int.natCast_zero, hM1] at v2
  clear A2 r2 p2 q2 l2 f2 hS1 hS hR hG hA m1 hM1
  simp (disch := omega) only [x_X5_carryOut_0, x_X5_carryOut_1, x_X5_carryOut_2, x_X5_carryOut_5, x_X5_carryOut_6, x_X5_carryOut_7, x_X5_carryOut_8, List.length_cons, List.length_nil, Nat.reduceLeDiff, Nat.zero_add, iI_add, iI_sub, iI_mul, iI_neg, iI_lt, iI_le, iI_eq, jI_iI, B_True, B_False, B_t, B_f, ck_True, gd_True, cb_v, cb_n, p_mv_rw, p_fv_rw, p_rv_some, pA_1, pA_90, pA_92, pA_3, pA_5, pA_93, pA_4, pA_91, pA_6, pS_i, pB_i, pW_i, pZ_0, pZ_1, pZ_b, bI_e0, u1_s, u1_n, uA_s, uA_n, true_and, and_true, not_true_eq_false, not_false_eq_true, eq_self, iI_z, al1, al5, al3, al4, al90, al91, al92, al93, al6, Int.cast_ofNat_Int, Nat.reduceAdd, Int.reduceNeg, Int.reduceAdd, Int.reduceSub, Int.reduceMul, Int.reduceLT, Int.reduceLE, Int.reduceGT, Int.reduceGE, Int.reduceEq, Int.reduceNe, Nat.reduceEqDiff, Int.zero_add, Int.add_zero, p_ty0, p_ty1, p_ty2, p_ty3, p_ty4, p_ty5, p_ty8, p_ty9, p_ty10, t0, v2, gd_t]
end PTCO
