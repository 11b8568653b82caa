section PMAKE
variable {d : Nat} {T : pT} {M M0 M1 : pM} {F : pF} {b g : Nat} {bb v w : Int → Int} {k s t pas q its to as c x p kc i acc : Int} {A Z P L : List Int}
/-- one move that was made: the position before it, and the move -/
abbrev HE : Type := (Int → Int) × Int × Int × Int × Int × Int × Int
/-- the moves that were made, the newest first -/
def HI : List HE → (Int → Int) → Int → Int → Int → Prop
  | [], _, _, _, _ => True
  | (b, t, p, q, i, o, a) :: H, bb, t', p', q' => (MB b ∧ UK b ∧ P20 b ∧ (t = 0 ∨ t = 1) ∧ PS b t p ∧ (0 ≤ q ∧ q < 60) ∧ MV b t p i o ∧ (2 ≤ a ∧ a ≤ 5)) ∧ (bb = mk_bb b p i o a ∧ t' = 1 - t ∧ p' = mk_ps b i o ∧ q' = mk_q b p q i o) ∧ HI H b t p q
def CH (v : Int → Int) : List HE → Prop
  | [] => True
  | (b, _, p, q, i, o, _) :: H => v (H.length : Int) = q_pk b p q i o ∧ CH v H
theorem CH.fr {n : Int} (h : ∀ j : Int, 0 ≤ j → j < n → w j = v j) : ∀ H : List HE, (H.length : Int) ≤ n → CH v H → CH w H
  | [], _, _ => trivial
  | (b, t, p, q, i, o, a) :: H, hn, hc => by
    rw [List.length_cons] at hn
    exact ⟨(h _ (by omega) (by omega)).trans hc.1, CH.fr h H (by omega) hc.2⟩
/-- a game's state with all that was made -/
def GA (M : pM) (g : Nat) (H : List HE) (bb : Int → Int) (t pas q : Int) : Prop := GK M g bb t pas q ∧ M g 5 = (H.length : Int) ∧ CH (M (g + 3)) H ∧ HI H bb t pas q
variable {H : List HE}
theorem GA.fr (h : GA M g H bb t pas q) (f : FMv M M1 g) (hk : GK M1 g bb t pas q) : GA M1 g H bb t pas q := by
  refine ⟨hk, ?_, ?_, h.2.2.2⟩
  · rw [f.2 5 (by omega) (by omega) (by omega) (by omega) (by omega)]; exact h.2.1
  · rw [f.1 (g + 3) (by omega) (by omega) (by omega) (by omega)]; exact h.2.2.1
theorem FMv.gf (f : FMv M M1 g) : GF M M1 g := fun a ha => f.1 a (by omega) (by omega) (by omega) (by omega)
theorem c_isFull (hG : GT T F g) (h : M g 5 = (H.length : Int)) (hl : H.length ≤ 620) (hd : 1 ≤ d) : callD d m_X1_isFull [.ref g] T M F = some (.inl (some (.int (iI (bI (H.length = 620))))), T, M, F) := by
  refine callD_go 0 hd rfl (fun e he => ?_)
  show R e m_X1_isFull 0 [.val (.ref g)] [] T M F = _
  obtain ⟨hg, t0, f0, hB, t3, f4, t4, f6, t5, f9, t6, f11⟩ := hG
  by_cases c1 : H.length = 620
  · rw [bI_t c1]
    simp (disch := omega) only [x_X1_isFull_0, x_X1_isFull_1, x_X1_isFull_4, x_X1_isFull_5, x_X1_isFull_8, x_X1_isFull_9, x_X1_isFull_12, x_X1_isFull_13, x_X1_isFull_16, x_X1_isFull_17, List.length_cons, List.length_nil, Nat.reduceLeDiff, Nat.zero_add, iI_add, iI_sub, iI_mul, iI_neg, iI_lt, iI_le, iI_eq, jI_iI, B_True, B_False, B_t, B_f, ck_True, gd_True, cb_v, cb_n, p_mv_rw, p_fv_rw, p_rv_some, pA_1, pA_90, pA_92, pA_3, pA_5, pA_93, pA_4, pA_91, pA_6, pS_i, pB_i, pW_i, pZ_0, pZ_1, pZ_b, bI_e0, u1_s, u1_n, uA_s, uA_n, true_and, and_true, not_true_eq_false, not_false_eq_true, eq_self, iI_z, al1, al5, al3, al4, al90, al91, al92, al93, al6, Int.cast_ofNat_Int, Nat.reduceAdd, Int.reduceNeg, Int.reduceAdd, Int.reduceSub, Int.reduceMul, Int.reduceLT, Int.reduceLE, Int.reduceGT, Int.reduceGE, Int.reduceEq, Int.reduceNe, Nat.reduceEqDiff, Int.zero_add, Int.add_zero, p_ty0, p_ty1, p_ty2, p_ty3, p_ty4, p_ty5, p_ty8, p_ty9, p_ty10, t0, f4, t3, h, gd_t, B_t, B_f]
  · rw [bI_f c1]
    simp (disch := omega) only [x_X1_isFull_0, x_X1_isFull_1, x_X1_isFull_4, x_X1_isFull_5, x_X1_isFull_8, x_X1_isFull_9, x_X1_isFull_12, x_X1_isFull_13, x_X1_isFull_16, x_X1_isFull_17, List.length_cons, List.length_nil, Nat.reduceLeDiff, Nat.zero_add, iI_add, iI_sub, iI_mul, iI_neg, iI_lt, iI_le, iI_eq, jI_iI, B_True, B_False, B_t, B_f, ck_True, gd_True, cb_v, cb_n, p_mv_rw, p_fv_rw, p_rv_some, pA_1, pA_90, pA_92, pA_3, pA_5, pA_93, pA_4, pA_91, pA_6, pS_i, pB_i, pW_i, pZ_0, pZ_1, pZ_b, bI_e0, u1_s, u1_n, uA_s, uA_n, true_and, and_true, not_true_eq_false, not_false_eq_true, eq_self, iI_z, al1, al5, al3, al4, al90, al91, al92, al93, al6, Int.cast_ofNat_Int, Nat.reduceAdd, Int.reduceNeg, Int.reduceAdd, Int.reduceSub, Int.reduceMul, Int.reduceLT, Int.reduceLE, Int.reduceGT, Int.reduceGE, Int.reduceEq, Int.reduceNe, Nat.reduceEqDiff, Int.zero_add, Int.add_zero, p_ty0, p_ty1, p_ty2, p_ty3, p_ty4, p_ty5, p_ty8, p_ty9, p_ty10, t0, f4, t3, h, gd_t, B_t, B_f]
theorem c_comesToLast (hG : GT T F g) (hR : RB M (g + 1) bb) (hi : 0 ≤ its ∧ its < 91) (ho : 0 ≤ to ∧ to < 91) (hd : 3 ≤ d) : callD d m_X1_comesToLast [.ref g, .int (iI its), .int (iI to)] T M F = some (.inl (some (.int (iI (bI (mk_be bb its to))))), T, M, F) := by
  refine callD_go 2 hd rfl (fun e he => ?_)
  show R e m_X1_comesToLast 0 [.val (.ref g), .val (.int (iI its)), .val (.int (iI to)), .unset] [] T M F = _
  have hb := hR.2.2.1
  obtain ⟨c1, c2, c3⟩ := cv_facts hb its
  have hv := c_valueOn (d := e) (T := T) (F := F) hG hR (by omega) hi
  have hbi := hb its
  obtain ⟨hg, t0, f0, hB, -⟩ := hG
  by_cases c6 : bb its % 10 = 6
  · have hs : m_side (bb its) = 0 ∨ m_side (bb its) = 1 := by unfold m_side; unfold VX at hbi; split <;> omega
    obtain ⟨a1, a2, a3, a4⟩ := ah_fwd hs
    have hq := q_pl_nn ho
    have hp1 : 0 ≤ q_pl to + q_fwd (m_side (bb its)) ∧ q_pl to + q_fwd (m_side (bb its)) < 289 := by omega
    have e1 : q_cel (q_pl to + q_fwd (m_side (bb its))) = gn to (m_ah (m_side (bb its))) := by unfold gn; rw [a1]
    obtain ⟨s1, -, -⟩ := sl_cel hR.2.1 hb hp1 hs
    rw [e1] at s1
    have hbe : mk_be bb its to ↔ q_on (M (g + 1 + 1)) (q_pl to + q_fwd (m_side (bb its))) = -1 := by
      unfold mk_be; rw [s1]; exact ⟨fun z => z.2, fun z => ⟨c6, z⟩⟩
    have hon := c_on (d := e) (T := T) (M := M) (F := F) (p := q_pl to + q_fwd (m_side (bb its))) hB (by omega) (by omega)
    have hrg := q_on_rg hR.1 (q_pl to + q_fwd (m_side (bb its)))
    have hfw := c_fwd (d := e) (T := T) (M := M) (F := F) (s := m_side (bb its)) (by omega) (by omega)
    have hpl := c_placeOf (d := e) (T := T) (M := M) (F := F) (k := to) (by omega) (by omega)
    have hb0 := hB.1
    clear hR hbi s1
    rw [bI_iff hbe]
    by_cases c9 : q_on (M (g + 1 + 1)) (q_pl to + q_fwd (m_side (bb its))) = -1
    · rw [bI_t c9]
      rw [c9] at hon
      simp (disch := omega) only [x_X1_comesToLast_0, x_X1_comesToLast_1, x_X1_comesToLast_2, x_X1_comesToLast_5, x_X1_comesToLast_6, x_X1_comesToLast_7, x_X1_comesToLast_10, x_X1_comesToLast_12, x_X1_comesToLast_15, x_X1_comesToLast_16, x_X1_comesToLast_19, x_X1_comesToLast_20, x_X1_comesToLast_23, x_X1_comesToLast_24, x_X1_comesToLast_27, x_X1_comesToLast_30, x_X1_comesToLast_31, x_X1_comesToLast_34, x_X1_comesToLast_35, x_X1_comesToLast_38, x_X1_comesToLast_39, x_X1_comesToLast_42, x_X1_comesToLast_43, List.length_cons, List.length_nil, Nat.reduceLeDiff, Nat.zero_add, iI_add, iI_sub, iI_mul, iI_neg, iI_lt, iI_le, iI_eq, jI_iI, B_True, B_False, B_t, B_f, ck_True, gd_True, cb_v, cb_n, p_mv_rw, p_fv_rw, p_rv_some, pA_1, pA_90, pA_92, pA_3, pA_5, pA_93, pA_4, pA_91, pA_6, pS_i, pB_i, pW_i, pZ_0, pZ_1, pZ_b, bI_e0, u1_s, u1_n, uA_s, uA_n, true_and, and_true, not_true_eq_false, not_false_eq_true, eq_self, iI_z, al1, al5, al3, al4, al90, al91, al92, al93, al6, Int.cast_ofNat_Int, Nat.reduceAdd, Int.reduceNeg, Int.reduceAdd, Int.reduceSub, Int.reduceMul, Int.reduceLT, Int.reduceLE, Int.reduceGT, Int.reduceGE, Int.reduceEq, Int.reduceNe, Nat.reduceEqDiff, Int.zero_add, Int.add_zero, p_ty0, p_ty1, p_ty2, p_ty3, p_ty4, p_ty5, p_ty8, p_ty9, p_ty10, t0, f0, hv, hb0, c_kind, c_side, c2, c3, c6, hfw, hpl, hon, gd_t, B_t, B_f, hB.2.1]
    · rw [bI_f c9]
      simp (disch := omega) only [x_X1_comesToLast_0, x_X1_comesToLast_1, x_X1_comesToLast_2, x_X1_comesToLast_5, x_X1_comesToLast_6, x_X1_comesToLast_7, x_X1_comesToLast_10, x_X1_comesToLast_12, x_X1_comesToLast_15, x_X1_comesToLast_16, x_X1_comesToLast_19, x_X1_comesToLast_20, x_X1_comesToLast_23, x_X1_comesToLast_24, x_X1_comesToLast_27, x_X1_comesToLast_30, x_X1_comesToLast_31, x_X1_comesToLast_34, x_X1_comesToLast_35, x_X1_comesToLast_38, x_X1_comesToLast_39, x_X1_comesToLast_42, x_X1_comesToLast_43, List.length_cons, List.length_nil, Nat.reduceLeDiff, Nat.zero_add, iI_add, iI_sub, iI_mul, iI_neg, iI_lt, iI_le, iI_eq, jI_iI, B_True, B_False, B_t, B_f, ck_True, gd_True, cb_v, cb_n, p_mv_rw, p_fv_rw, p_rv_some, pA_1, pA_90, pA_92, pA_3, pA_5, pA_93, pA_4, pA_91, pA_6, pS_i, pB_i, pW_i, pZ_0, pZ_1, pZ_b, bI_e0, u1_s, u1_n, uA_s, uA_n, true_and, and_true, not_true_eq_false, not_false_eq_true, eq_self, iI_z, al1, al5, al3, al4, al90, al91, al92, al93, al6, Int.cast_ofNat_Int, Nat.reduceAdd, Int.reduceNeg, Int.reduceAdd, Int.reduceSub, Int.reduceMul, Int.reduceLT, Int.reduceLE, Int.reduceGT, Int.reduceGE, Int.reduceEq, Int.reduceNe, Nat.reduceEqDiff, Int.zero_add, Int.add_zero, p_ty0, p_ty1, p_ty2, p_ty3, p_ty4, p_ty5, p_ty8, p_ty9, p_ty10, t0, f0, hv, hb0, c_kind, c_side, c2, c3, c6, hfw, hpl, hon, gd_t, B_t, B_f, hB.2.1]
  · rw [bI_f (fun z => c6 z.1)]
    clear hR hbi
    simp (disch := omega) only [x_X1_comesToLast_0, x_X1_comesToLast_1, x_X1_comesToLast_2, x_X1_comesToLast_5, x_X1_comesToLast_6, x_X1_comesToLast_7, x_X1_comesToLast_10, x_X1_comesToLast_12, x_X1_comesToLast_15, x_X1_comesToLast_16, x_X1_comesToLast_19, x_X1_comesToLast_20, x_X1_comesToLast_23, x_X1_comesToLast_24, x_X1_comesToLast_27, x_X1_comesToLast_30, x_X1_comesToLast_31, x_X1_comesToLast_34, x_X1_comesToLast_35, x_X1_comesToLast_38, x_X1_comesToLast_39, x_X1_comesToLast_42, x_X1_comesToLast_43, List.length_cons, List.length_nil, Nat.reduceLeDiff, Nat.zero_add, iI_add, iI_sub, iI_mul, iI_neg, iI_lt, iI_le, iI_eq, jI_iI, B_True, B_False, B_t, B_f, ck_True, gd_True, cb_v, cb_n, p_mv_rw, p_fv_rw, p_rv_some, pA_1, pA_90, pA_92, pA_3, pA_5, pA_93, pA_4, pA_91, pA_6, pS_i, pB_i, pW_i, pZ_0, pZ_1, pZ_b, bI_e0, u1_s, u1_n, uA_s, uA_n, true_and, and_true, not_true_eq_false, not_false_eq_true, eq_self, iI_z, al1, al5, al3, al4, al90, al91, al92, al93, al6, Int.cast_ofNat_Int, Nat.reduceAdd, Int.reduceNeg, Int.reduceAdd, Int.reduceSub, Int.reduceMul, Int.reduceLT, Int.reduceLE, Int.reduceGT, Int.reduceGE, Int.reduceEq, Int.reduceNe, Nat.reduceEqDiff, Int.zero_add, Int.add_zero, p_ty0, p_ty1, p_ty2, p_ty3, p_ty4, p_ty5, p_ty8, p_ty9, p_ty10, t0, f0, hv, c_kind, c2, c3, gd_t, B_t, B_f]
theorem c_make (hG : GT T F g) (h : GA M g H bb t pas q) (hq : q < 60) (hl : H.length < 620) (hV : MV bb t pas its to) (has : 2 ≤ as ∧ as ≤ 5) :
    ∃ M', (∀ d, 3 ≤ d → callD d m_X1_make [.ref g, .int (iI its), .int (iI to), .int (iI as)] T M F = some (.inl (some (.int (iI (bb (mk_pl bb pas its to) % 10)))), T, M', F)) ∧
      GA M' g ((bb, t, pas, q, its, to, as) :: H) (mk_bb bb pas its to as) (1 - t) (mk_ps bb its to) (mk_q bb pas q its to) ∧ GF M M' g := by
  obtain ⟨⟨hS, hL, h20, -⟩, h5, hC, hH⟩ := h
  have hb := hS.1.2.2.1
  have ht := hS.2.2.2.2.1
  have hq0 := hS.2.2.2.2.2.1
  obtain ⟨M1, e1, S1, n1, n2, n3, n4⟩ := c_play (T := T) (F := F) hG hS (by omega) hV has
  obtain ⟨k0, k1, k2, k3, k4, k5, k6, k7⟩ := pk_facts (q := q) hb ht hS.PS (by omega) hV
  have hm : M1 g 5 = (H.length : Int) := by rw [n1 5 (by omega) (by omega) (by omega)]; exact h5
  have hcvf := cv_facts hb (mk_pl bb pas its to)
  refine ⟨uA (uA M1 (g + 3) (u1 (M1 (g + 3)) (H.length : Int) (q_pk bb pas q its to))) g (u1 (u1 (M1 g) 5 ((H.length : Int) + 1)) 8 0), fun d hd => ?_, ⟨⟨?_, Or.inl ?_, h20.mk hb ht hS.PS hV has, (mk_q_rg ⟨hq0.1, hq⟩).2⟩, ?_, ⟨?_, ?_⟩, ⟨hb, hS.1.UK, h20, ht, hS.PS, ⟨hq0.1, hq⟩, hV, has⟩, ⟨rfl, rfl, rfl, rfl⟩, hH⟩, ?_⟩
  · refine callD_go 2 hd rfl (fun e he => ?_)
    show R e m_X1_make 0 [.val (.ref g), .val (.int (iI its)), .val (.int (iI to)), .val (.int (iI as)), .unset, .unset] [] T M F = _
    have e1 := e1 e he
    have hp1 := c_placeOf (d := e) (T := T) (M := M) (F := F) (k := its) (by omega) (by have := hV.1; omega)
    have hp2 := c_placeOf (d := e) (T := T) (M := M) (F := F) (k := to) (by omega) (by have := hV.2.1; omega)
    obtain ⟨hg, t0, f0, hB, t3, f4, t4, f6, t5, f9, t6, f11⟩ := hG
    obtain ⟨w1, -, w3⟩ := hcvf
    have hjl : jL (iL (q_pk bb pas q its to)) = q_pk bb pas q its to := iL_toInt (by omega) (by omega)
    clear hS hL h20 hC hH S1 n1 n2 n3 n4 hV k1 k2 k3 k4 k6 k7
    simp (disch := omega) only [x_X1_make_0, x_X1_make_1, x_X1_make_2, x_X1_make_5, x_X1_make_6, x_X1_make_9, x_X1_make_10, x_X1_make_13, x_X1_make_15, x_X1_make_16, x_X1_make_19, x_X1_make_22, x_X1_make_23, x_X1_make_26, x_X1_make_27, x_X1_make_30, x_X1_make_31, x_X1_make_34, x_X1_make_35, x_X1_make_38, x_X1_make_39, x_X1_make_42, x_X1_make_44, x_X1_make_45, x_X1_make_46, x_X1_make_47, x_X1_make_50, x_X1_make_51, x_X1_make_52, x_X1_make_55, x_X1_make_56, x_X1_make_57, x_X1_make_60, x_X1_make_62, x_X1_make_65, x_X1_make_68, List.length_cons, List.length_nil, Nat.reduceLeDiff, Nat.zero_add, iI_add, iI_sub, iI_mul, iI_neg, iI_lt, iI_le, iI_eq, jI_iI, B_True, B_False, B_t, B_f, ck_True, gd_True, cb_v, cb_n, p_mv_rw, p_fv_rw, p_rv_some, pA_1, pA_90, pA_92, pA_3, pA_5, pA_93, pA_4, pA_91, pA_6, pS_i, pB_i, pW_i, pZ_0, pZ_1, pZ_b, bI_e0, u1_s, u1_n, uA_s, uA_n, true_and, and_true, not_true_eq_false, not_false_eq_true, eq_self, iI_z, al1, al5, al3, al4, al90, al91, al92, al93, al6, Int.cast_ofNat_Int, Nat.reduceAdd, Int.reduceNeg, Int.reduceAdd, Int.reduceSub, Int.reduceMul, Int.reduceLT, Int.reduceLE, Int.reduceGT, Int.reduceGE, Int.reduceEq, Int.reduceNe, Nat.reduceEqDiff, Int.zero_add, Int.add_zero, p_ty0, p_ty1, p_ty2, p_ty3, p_ty4, p_ty5, p_ty8, p_ty9, p_ty10, t0, f4, t3, hm, hp1, hp2, e1, gd_t, B_t, B_f, uA_uA, c_taken k0, k5, c_kind, w3, hjl]
  · refine S1.fr (uA_n (by omega) |>.trans (uA_n (by omega))) (uA_n (by omega) |>.trans (uA_n (by omega))) ?_ ?_ ?_
    all_goals rw [uA_s]; rfl
  · rw [uA_s]; rfl
  · rw [uA_s, List.length_cons]; rfl
  · rw [uA_n (by omega), uA_s]; exact if_pos rfl
  · rw [uA_n (by omega), uA_s]
    refine CH.fr (n := (H.length : Int)) (v := M (g + 3)) (fun j j0 j1 => ?_) H (Int.le_refl _) hC
    rw [n2 (g + 3) (by omega) (by omega) (by omega)]
    exact if_neg (by omega)
  · intro a ha
    rw [uA_n (by omega), uA_n (by omega)]
    exact n2 a (by omega) (by omega) (by omega)
theorem c_takeBack (hG : GT T F g) {b0 : Int → Int} {t0' p0 q0 i0 o0 a0 : Int} (h : GA M g ((b0, t0', p0, q0, i0, o0, a0) :: H) bb t pas q) (hl : H.length < 620) :
    ∃ M', (∀ d, 3 ≤ d → callD d m_X1_takeBack [.ref g] T M F = some (.inl none, T, M', F)) ∧ GA M' g H b0 t0' p0 q0 ∧ GF M M' g := by
  obtain ⟨⟨hS, hL, h20, -⟩, h5, ⟨hC1, hC⟩, ⟨v1, v2, v3, v4, v5, v6, v7, v8⟩, ⟨r1, r2, r3, r4⟩, hH⟩ := h
  subst r1 r2 r3 r4
  rw [List.length_cons] at h5
  have hS1 : GS (uA M g (u1 (M g) 5 (H.length : Int))) g (mk_bb b0 p0 i0 o0 a0) (1 - t0') (mk_ps b0 i0 o0) (mk_q b0 p0 q0 i0 o0) := hS.fr (uA_n (by omega)) (uA_n (by omega)) (by rw [uA_s]; rfl) (by rw [uA_s]; rfl) (by rw [uA_s]; rfl)
  obtain ⟨M1, e1, S1, n1, n2⟩ := c_undoG (T := T) (F := F) hG v1 v2 v4 v5 (by omega) v7 v8 hS1
  refine ⟨uA M1 g (u1 (M1 g) 8 0), fun d hd => ?_, ⟨⟨?_, Or.inl ?_, v3, by omega⟩, ?_, ?_, hH⟩, ?_⟩
  · refine callD_go 2 hd rfl (fun e he => ?_)
    show R e m_X1_takeBack 0 [.val (.ref g)] [] T M F = _
    have e1 := e1 e he
    obtain ⟨k0, -⟩ := pk_facts (q := q0) v1 v4 v5 (by omega) v7
    obtain ⟨hg, t0, f0, hB, t3, f4, t4, f6, t5, f9, t6, f11⟩ := hG
    clear hS hL h20 hC hH S1 n1 n2 hS1 v1 v2 v3 v5 v7
    have e9 : ((H.length + 1 : Nat) : Int) - 1 = H.length := by omega
    simp (disch := omega) only [x_X1_takeBack_0, x_X1_takeBack_1, x_X1_takeBack_4, x_X1_takeBack_7, x_X1_takeBack_8, x_X1_takeBack_11, x_X1_takeBack_12, x_X1_takeBack_15, x_X1_takeBack_16, x_X1_takeBack_19, x_X1_takeBack_20, x_X1_takeBack_21, x_X1_takeBack_24, x_X1_takeBack_25, x_X1_takeBack_26, x_X1_takeBack_29, x_X1_takeBack_30, x_X1_takeBack_31, x_X1_takeBack_34, x_X1_takeBack_35, x_X1_takeBack_38, x_X1_takeBack_39, x_X1_takeBack_42, x_X1_takeBack_43, x_X1_takeBack_44, x_X1_takeBack_47, List.length_cons, List.length_nil, Nat.reduceLeDiff, Nat.zero_add, iI_add, iI_sub, iI_mul, iI_neg, iI_lt, iI_le, iI_eq, jI_iI, B_True, B_False, B_t, B_f, ck_True, gd_True, cb_v, cb_n, p_mv_rw, p_fv_rw, p_rv_some, pA_1, pA_90, pA_92, pA_3, pA_5, pA_93, pA_4, pA_91, pA_6, pS_i, pB_i, pW_i, pZ_0, pZ_1, pZ_b, bI_e0, u1_s, u1_n, uA_s, uA_n, true_and, and_true, not_true_eq_false, not_false_eq_true, eq_self, iI_z, al1, al5, al3, al4, al90, al91, al92, al93, al6, Int.cast_ofNat_Int, Nat.reduceAdd, Int.reduceNeg, Int.reduceAdd, Int.reduceSub, Int.reduceMul, Int.reduceLT, Int.reduceLE, Int.reduceGT, Int.reduceGE, Int.reduceEq, Int.reduceNe, Nat.reduceEqDiff, Int.zero_add, Int.add_zero, p_ty0, p_ty1, p_ty2, p_ty3, p_ty4, p_ty5, p_ty8, p_ty9, p_ty10, t0, f4, t3, h5, hC1, e1, e9, gd_t, B_t, B_f]
  · refine S1.fr (uA_n (by omega)) (uA_n (by omega)) ?_ ?_ ?_
    all_goals rw [uA_s]; rfl
  · rw [uA_s]; rfl
  · rw [uA_s]
    show M1 g 5 = _
    rw [n1 5 (by omega) (by omega) (by omega), uA_s]; rfl
  · rw [uA_n (by omega), n2 (g + 3) (by omega) (by omega) (by omega), uA_n (by omega)]; exact hC
  · intro a ha
    rw [uA_n (by omega), n2 a (by omega) (by omega) (by omega), uA_n (by omega)]
end PMAKE
