section PGAT
variable {d : Nat} {T : pT} {M M1 : pM} {F : pF} {b g : Nat} {bb : Int → Int} {k s t pas q its to as c x p kc i : Int} {L : List Int} {v : Int → Int}
def gaP (v : Int → Int) (t : Int) (A rc : Nat) (p : Int) : Nat → Int → List Int
  | 0, _ => []
  | n + 1, i => slP v t (p_roM A i) rc (p + p_roM A i) ++ gaP v t A rc p n (i + 1)
def smN (f : Int → Nat) : Nat → Int → Nat
  | 0, _ => 0
  | n + 1, i => f i + smN f n (i + 1)
theorem smN_le {f h : Int → Nat} : ∀ (n : Nat) (i : Int), (∀ j, i ≤ j → j < i + n → f j ≤ h j) → smN f n i ≤ smN h n i
  | 0, _, _ => Nat.le_refl _
  | n + 1, i, hj => by
    have h1 := hj i (by omega) (by omega)
    have h2 := smN_le n (i + 1) (fun j a b => hj j (by omega) (by omega))
    unfold smN
    omega
theorem smN_one : ∀ (n : Nat) (i : Int), smN (fun _ => 1) n i = n
  | 0, _ => rfl
  | n + 1, i => by unfold smN; rw [smN_one n]; omega
def rlen (i : Int) : Nat → Int → Nat
  | 0, _ => 0
  | n + 1, c => if c = -1 then 0 else 1 + rlen i n (gn c i)
theorem slN_le (h : VB v bb) (hb : MB bb) (hi : 0 ≤ i ∧ i < 12) : ∀ (n : Nat) (p : Int), 0 ≤ p ∧ p < 289 → slN v (p_roM 2 i) n p ≤ rlen i n (q_cel p)
  | 0, p, _ => Nat.le_refl _
  | n + 1, p, hp => by
    have hon := h.on hb hp
    have hr := ro2 hi
    unfold slN rlen
    by_cases e : q_cel p = -1
    · have : q_on v p = -1 := by rw [hon, e]; rfl
      rw [if_pos this]; omega
    · rw [if_neg e]
      obtain ⟨g1, g2, g3⟩ := (geo2 hp).resolve_left e
      have hq := q_pl_nn ⟨g1, g2⟩
      have h2 := slN_le h hb hi n (p + p_roM 2 i) (by omega)
      have e2 : q_cel (p + p_roM 2 i) = gn (q_cel p) i := by unfold gn; rw [g3]
      rw [e2] at h2
      split
      · omega
      · split <;> omega
set_option maxRecDepth 20000 in
theorem rlen_N : ∀ k : Nat, k < 91 → smN (fun i => rlen i 17 (gn (k : Int) i)) 12 0 ≤ 42 ∧ smN (fun i => rlen i 17 (gn (k : Int) i)) 6 0 ≤ 42 ∧ smN (fun i => rlen i 17 (gn (k : Int) i)) 6 6 ≤ 42 := by decide +kernel
theorem rlen_ok (hk : 0 ≤ k ∧ k < 91) : smN (fun i => rlen i 17 (gn k i)) 12 0 ≤ 42 ∧ smN (fun i => rlen i 17 (gn k i)) 6 0 ≤ 42 ∧ smN (fun i => rlen i 17 (gn k i)) 6 6 ≤ 42 := by
  have h2 := rlen_N k.toNat (by omega)
  rwa [Int.toNat_of_nonneg hk.1] at h2
theorem slN_one (st p : Int) : slN v st 1 p ≤ 1 := by
  rw [slN]
  split
  · omega
  · split <;> (try rw [slN]) <;> omega
theorem c_gaLoop {A : Nat} {v0 kd hi rc : Int} {rcN : Nat} (hA : A = 2 ∨ A = 3) (hG : GT T F g) (hR : RB M (g + 1) bb) (s1 : M g 1 = t) (ht : t = 0 ∨ t = 1) (hp : 0 ≤ p ∧ p < 289) (hh : hi ≤ 12) (hrc : rc = (rcN : Int)) (hrc17 : rcN ≤ 17) :
    ∀ (n : Nat) (i : Int) (l8 l9 : Slot) (M1 : pM) (L : List Int), i = hi - (n : Int) → 0 ≤ i → TG M M1 g L → L.length + smN (fun i => slN (M (g + 1 + 1)) (p_roM A i) rcN (p + p_roM A i)) n i ≤ 42 →
      ∃ M2, (∀ e, 2 ≤ e → R e m_X1_gatherTargets 73 [.val (.ref g), .val (.int (iI p)), .val (.int (iI v0)), .val (.int (iI kd)), .val (.ref A), .val (.int (iI hi)), .val (.int (iI rc)), .val (.int (iI i)), l8, l9] [] T M1 F = some (.inl none, T, M2, F)) ∧ TG M M2 g (L ++ gaP (M (g + 1 + 1)) t A rcN p n i) := by
  intro n
  induction n with
  | zero =>
    intro i l8 l9 M1 L hi0 h0 h hl
    refine ⟨M1, fun e he => ?_, by unfold gaP; rw [List.append_nil]; exact h⟩
    simp (disch := omega) only [x_X1_gatherTargets_73, x_X1_gatherTargets_75, x_X1_gatherTargets_77, x_X1_gatherTargets_80, x_X1_gatherTargets_81, x_X1_gatherTargets_83, x_X1_gatherTargets_85, x_X1_gatherTargets_86, x_X1_gatherTargets_87, x_X1_gatherTargets_89, x_X1_gatherTargets_90, x_X1_gatherTargets_130, List.length_cons, List.length_nil, Nat.reduceLeDiff, Nat.zero_add, iI_add, iI_sub, iI_mul, iI_neg, iI_lt, iI_le, iI_eq, jI_iI, B_True, B_False, B_t, B_f, ck_True, gd_True, cb_v, cb_n, p_mv_rw, p_fv_rw, p_rv_some, pA_1, pA_90, pA_92, pA_3, pA_5, pA_93, pA_4, pA_91, pA_6, pS_i, pB_i, pW_i, pZ_0, pZ_1, pZ_b, bI_e0, u1_s, u1_n, uA_s, uA_n, true_and, and_true, not_true_eq_false, not_false_eq_true, eq_self, iI_z, al1, al5, al3, al4, al90, al91, al92, al93, al6, Int.cast_ofNat_Int, Nat.reduceAdd, Int.reduceNeg, Int.reduceAdd, Int.reduceSub, Int.reduceMul, Int.reduceLT, Int.reduceLE, Int.reduceGT, Int.reduceGE, Int.reduceEq, Int.reduceNe, Nat.reduceEqDiff, Int.zero_add, Int.add_zero, p_ty0, p_ty1, p_ty2, p_ty3, p_ty4, p_ty5, p_ty8, p_ty9, p_ty10, B_t, B_f]
  | succ n ih =>
    intro i l8 l9 M1 L hi0 h0 h hl
    rw [smN] at hl
    have hro : -50 ≤ p_roM A i ∧ p_roM A i ≤ 50 := by
      rcases hA with rfl | rfl
      · exact ro2 (by omega)
      · exact ro3 (by omega)
    obtain ⟨M2, a8, a9, e2, T2⟩ := c_slide (T := T) (F := F) (v0 := v0) (kd := kd) (en := hi) (rc := rc) (ix := i) (st := p_roM A i) (l1 := .val (.int (iI p))) hA hG hR s1 ht (by omega) rfl hro (by omega) rcN 0 (p + p_roM A i) M1 L (by omega) (by omega) (by omega) h (by omega)
    have hsl := slP_len (M (g + 1 + 1)) t (p_roM A i) rcN (p + p_roM A i)
    obtain ⟨M3, e3, T3⟩ := ih (i + 1) a8 a9 M2 _ (by omega) (by omega) T2 (by rw [List.length_append]; omega)
    refine ⟨M3, fun e he => ?_, by rw [gaP, ← List.append_assoc]; exact T3⟩
    rw [← e3 e he, x_X1_gatherTargets_73]
    have e2 := e2 e he
    have t0 := hG.2.1
    clear hR ih e3 T3 h T2
    rcases hA with rfl | rfl
    · simp (disch := omega) only [x_X1_gatherTargets_75, x_X1_gatherTargets_77, x_X1_gatherTargets_80, x_X1_gatherTargets_81, x_X1_gatherTargets_83, x_X1_gatherTargets_85, x_X1_gatherTargets_86, x_X1_gatherTargets_87, x_X1_gatherTargets_89, x_X1_gatherTargets_90, List.length_cons, List.length_nil, Nat.reduceLeDiff, Nat.zero_add, iI_add, iI_sub, iI_mul, iI_neg, iI_lt, iI_le, iI_eq, jI_iI, B_True, B_False, B_t, B_f, ck_True, gd_True, cb_v, cb_n, p_mv_rw, p_fv_rw, p_rv_some, pA_1, pA_90, pA_92, pA_3, pA_5, pA_93, pA_4, pA_91, pA_6, pS_i, pB_i, pW_i, pZ_0, pZ_1, pZ_b, bI_e0, u1_s, u1_n, uA_s, uA_n, true_and, and_true, not_true_eq_false, not_false_eq_true, eq_self, iI_z, al1, al5, al3, al4, al90, al91, al92, al93, al6, Int.cast_ofNat_Int, Nat.reduceAdd, Int.reduceNeg, Int.reduceAdd, Int.reduceSub, Int.reduceMul, Int.reduceLT, Int.reduceLE, Int.reduceGT, Int.reduceGE, Int.reduceEq, Int.reduceNe, Nat.reduceEqDiff, Int.zero_add, Int.add_zero, p_ty0, p_ty1, p_ty2, p_ty3, p_ty4, p_ty5, p_ty8, p_ty9, p_ty10, t0, p_mv_ro, B_t, B_f, gd_t]
      rw [e2]
      simp (disch := omega) only [x_X1_gatherTargets_124, x_X1_gatherTargets_127, List.length_cons, List.length_nil, Nat.reduceLeDiff, Nat.zero_add, iI_add, iI_sub, iI_mul, iI_neg, iI_lt, iI_le, iI_eq, jI_iI, B_True, B_False, B_t, B_f, ck_True, gd_True, cb_v, cb_n, p_mv_rw, p_fv_rw, p_rv_some, pA_1, pA_90, pA_92, pA_3, pA_5, pA_93, pA_4, pA_91, pA_6, pS_i, pB_i, pW_i, pZ_0, pZ_1, pZ_b, bI_e0, u1_s, u1_n, uA_s, uA_n, true_and, and_true, not_true_eq_false, not_false_eq_true, eq_self, iI_z, al1, al5, al3, al4, al90, al91, al92, al93, al6, Int.cast_ofNat_Int, Nat.reduceAdd, Int.reduceNeg, Int.reduceAdd, Int.reduceSub, Int.reduceMul, Int.reduceLT, Int.reduceLE, Int.reduceGT, Int.reduceGE, Int.reduceEq, Int.reduceNe, Nat.reduceEqDiff, Int.zero_add, Int.add_zero, p_ty0, p_ty1, p_ty2, p_ty3, p_ty4, p_ty5, p_ty8, p_ty9, p_ty10]
    · simp (disch := omega) only [x_X1_gatherTargets_75, x_X1_gatherTargets_77, x_X1_gatherTargets_80, x_X1_gatherTargets_81, x_X1_gatherTargets_83, x_X1_gatherTargets_85, x_X1_gatherTargets_86, x_X1_gatherTargets_87, x_X1_gatherTargets_89, x_X1_gatherTargets_90, List.length_cons, List.length_nil, Nat.reduceLeDiff, Nat.zero_add, iI_add, iI_sub, iI_mul, iI_neg, iI_lt, iI_le, iI_eq, jI_iI, B_True, B_False, B_t, B_f, ck_True, gd_True, cb_v, cb_n, p_mv_rw, p_fv_rw, p_rv_some, pA_1, pA_90, pA_92, pA_3, pA_5, pA_93, pA_4, pA_91, pA_6, pS_i, pB_i, pW_i, pZ_0, pZ_1, pZ_b, bI_e0, u1_s, u1_n, uA_s, uA_n, true_and, and_true, not_true_eq_false, not_false_eq_true, eq_self, iI_z, al1, al5, al3, al4, al90, al91, al92, al93, al6, Int.cast_ofNat_Int, Nat.reduceAdd, Int.reduceNeg, Int.reduceAdd, Int.reduceSub, Int.reduceMul, Int.reduceLT, Int.reduceLE, Int.reduceGT, Int.reduceGE, Int.reduceEq, Int.reduceNe, Nat.reduceEqDiff, Int.zero_add, Int.add_zero, p_ty0, p_ty1, p_ty2, p_ty3, p_ty4, p_ty5, p_ty8, p_ty9, p_ty10, t0, p_mv_ro, B_t, B_f, gd_t]
      rw [e2]
      simp (disch := omega) only [x_X1_gatherTargets_124, x_X1_gatherTargets_127, List.length_cons, List.length_nil, Nat.reduceLeDiff, Nat.zero_add, iI_add, iI_sub, iI_mul, iI_neg, iI_lt, iI_le, iI_eq, jI_iI, B_True, B_False, B_t, B_f, ck_True, gd_True, cb_v, cb_n, p_mv_rw, p_fv_rw, p_rv_some, pA_1, pA_90, pA_92, pA_3, pA_5, pA_93, pA_4, pA_91, pA_6, pS_i, pB_i, pW_i, pZ_0, pZ_1, pZ_b, bI_e0, u1_s, u1_n, uA_s, uA_n, true_and, and_true, not_true_eq_false, not_false_eq_true, eq_self, iI_z, al1, al5, al3, al4, al90, al91, al92, al93, al6, Int.cast_ofNat_Int, Nat.reduceAdd, Int.reduceNeg, Int.reduceAdd, Int.reduceSub, Int.reduceMul, Int.reduceLT, Int.reduceLE, Int.reduceGT, Int.reduceGE, Int.reduceEq, Int.reduceNe, Nat.reduceEqDiff, Int.zero_add, Int.add_zero, p_ty0, p_ty1, p_ty2, p_ty3, p_ty4, p_ty5, p_ty8, p_ty9, p_ty10]
/-- a pawn's targets -/
noncomputable def pwP (v : Int → Int) (t pp p : Int) : List Int :=
  (if q_on v (p + q_fwd t) = 0 then (p + q_fwd t) :: (if pwB p t = true ∧ q_on v (p + q_fwd t + q_fwd t) = 0 then [p + q_fwd t + q_fwd t] else []) else []) ++
  ((if p + p_roM 4 0 * q_fwd t = pp ∨ q_side (q_on v (p + p_roM 4 0 * q_fwd t)) = 1 - t then [p + p_roM 4 0 * q_fwd t] else []) ++
   (if p + p_roM 4 1 * q_fwd t = pp ∨ q_side (q_on v (p + p_roM 4 1 * q_fwd t)) = 1 - t then [p + p_roM 4 1 * q_fwd t] else []))
theorem c_pawn (hG : GT T F g) (hS : GS M g bb t pas q) (hk : 0 ≤ k ∧ k < 91) (h : TG M M1 g []) : ∃ M2, (∀ d, 3 ≤ d → callD d m_X1_gatherForPawn [.ref g, .int (iI (q_pl k))] T M1 F = some (.inl none, T, M2, F)) ∧ TG M M2 g (pwP (M (g + 1 + 1)) t (q_pp pas) (q_pl k)) := by
  obtain ⟨hR, s1, s2, s3, ht, s5, hp⟩ := hS
  have hG' := hG
  obtain ⟨hg, t0, f0, hB, -⟩ := hG
  have hb0 := hB.2.1
  have hq := q_pl_nn hk
  have hpp := q_pp_rg (PS_rg hp)
  obtain ⟨a1, a2, a3, a4⟩ := ah_fwd ht
  have r40 : p_roM 4 0 * q_fwd t = 17 ∨ p_roM 4 0 * q_fwd t = -17 := by rcases ht with rfl | rfl <;> decide +kernel
  have r41 : p_roM 4 1 * q_fwd t = -16 ∨ p_roM 4 1 * q_fwd t = 16 := by rcases ht with rfl | rfl <;> decide +kernel
  have frd : ∀ {M' : pM} {L : List Int}, TG M M' g L → M' (g + 1 + 1) = M (g + 1 + 1) ∧ M' g 1 = t ∧ M' g 3 = q_pp pas := fun h => ⟨h.2.2.2 _ (by omega) (by omega), by rw [h.2.2.1 1 (by omega)]; exact s1, by rw [h.2.2.1 3 (by omega)]; exact s3⟩
  have hfst := pwB_iff (q_pl k) t
  -- the second loop: the two taking steps
  have tk : ∀ (i : Int) (l2 l3 l4 : Slot) (M1 : pM) (L : List Int), (i = 0 ∨ i = 1) → L.length ≤ 10 → TG M M1 g L → ∃ M2 l4', (∀ e, 2 ≤ e → R e m_X1_gatherForPawn 65 [.val (.ref g), .val (.int (iI (q_pl k))), l2, .val (.int (iI i)), l4] [] T M1 F = R e m_X1_gatherForPawn 65 [.val (.ref g), .val (.int (iI (q_pl k))), l2, .val (.int (iI (i + 1))), l4'] [] T M2 F) ∧ TG M M2 g (L ++ (if q_pl k + p_roM 4 i * q_fwd t = q_pp pas ∨ q_side (q_on (M (g + 1 + 1)) (q_pl k + p_roM 4 i * q_fwd t)) = 1 - t then [q_pl k + p_roM 4 i * q_fwd t] else [])) := by
    intro i l2 l3 l4 M1 L hi hl h
    obtain ⟨m1, m2, m3⟩ := frd h
    have hr : -17 ≤ p_roM 4 i * q_fwd t ∧ p_roM 4 i * q_fwd t ≤ 17 := by rcases hi with rfl | rfl <;> omega
    have hr4 := ro4 (i := i) (by omega)
    have hon := q_on_rg hR.1 (q_pl k + p_roM 4 i * q_fwd t)
    have hsd := q_side_rg (q_on (M (g + 1 + 1)) (q_pl k + p_roM 4 i * q_fwd t))
    by_cases c : q_pl k + p_roM 4 i * q_fwd t = q_pp pas ∨ q_side (q_on (M (g + 1 + 1)) (q_pl k + p_roM 4 i * q_fwd t)) = 1 - t
    · obtain ⟨M2, e2, T2⟩ := c_keep (T := T) (F := F) (p := q_pl k + p_roM 4 i * q_fwd t) hG' h (by omega) (by omega)
      refine ⟨M2, .val (.int (iI (q_pl k + p_roM 4 i * q_fwd t))), fun e he => ?_, by rw [if_pos c]; exact T2⟩
      rw [x_X1_gatherForPawn_65]
      clear hR h T2 hp
      by_cases c1 : q_pl k + p_roM 4 i * q_fwd t = q_pp pas
      · simp (disch := omega) only [x_X1_gatherForPawn_66, x_X1_gatherForPawn_69, x_X1_gatherForPawn_70, x_X1_gatherForPawn_73, x_X1_gatherForPawn_74, x_X1_gatherForPawn_77, x_X1_gatherForPawn_78, x_X1_gatherForPawn_79, x_X1_gatherForPawn_80, x_X1_gatherForPawn_83, x_X1_gatherForPawn_86, x_X1_gatherForPawn_87, x_X1_gatherForPawn_88, x_X1_gatherForPawn_90, x_X1_gatherForPawn_92, x_X1_gatherForPawn_93, x_X1_gatherForPawn_96, x_X1_gatherForPawn_99, x_X1_gatherForPawn_100, x_X1_gatherForPawn_103, x_X1_gatherForPawn_105, x_X1_gatherForPawn_108, x_X1_gatherForPawn_111, x_X1_gatherForPawn_112, x_X1_gatherForPawn_113, x_X1_gatherForPawn_116, x_X1_gatherForPawn_117, x_X1_gatherForPawn_120, x_X1_gatherForPawn_121, x_X1_gatherForPawn_123, x_X1_gatherForPawn_126, x_X1_gatherForPawn_129, List.length_cons, List.length_nil, Nat.reduceLeDiff, Nat.zero_add, iI_add, iI_sub, iI_mul, iI_neg, iI_lt, iI_le, iI_eq, jI_iI, B_True, B_False, B_t, B_f, ck_True, gd_True, cb_v, cb_n, p_mv_rw, p_fv_rw, p_rv_some, pA_1, pA_90, pA_92, pA_3, pA_5, pA_93, pA_4, pA_91, pA_6, pS_i, pB_i, pW_i, pZ_0, pZ_1, pZ_b, bI_e0, u1_s, u1_n, uA_s, uA_n, true_and, and_true, not_true_eq_false, not_false_eq_true, eq_self, iI_z, al1, al5, al3, al4, al90, al91, al92, al93, al6, Int.cast_ofNat_Int, Nat.reduceAdd, Int.reduceNeg, Int.reduceAdd, Int.reduceSub, Int.reduceMul, Int.reduceLT, Int.reduceLE, Int.reduceGT, Int.reduceGE, Int.reduceEq, Int.reduceNe, Nat.reduceEqDiff, Int.zero_add, Int.add_zero, p_ty0, p_ty1, p_ty2, p_ty3, p_ty4, p_ty5, p_ty8, p_ty9, p_ty10, t0, f0, hb0, m1, m2, m3, p_ty4, p_mv_ro, c_fwd, e2, B_t, B_f, gd_t]
      · have c2 := c.resolve_left c1
        simp (disch := omega) only [x_X1_gatherForPawn_66, x_X1_gatherForPawn_69, x_X1_gatherForPawn_70, x_X1_gatherForPawn_73, x_X1_gatherForPawn_74, x_X1_gatherForPawn_77, x_X1_gatherForPawn_78, x_X1_gatherForPawn_79, x_X1_gatherForPawn_80, x_X1_gatherForPawn_83, x_X1_gatherForPawn_86, x_X1_gatherForPawn_87, x_X1_gatherForPawn_88, x_X1_gatherForPawn_90, x_X1_gatherForPawn_92, x_X1_gatherForPawn_93, x_X1_gatherForPawn_96, x_X1_gatherForPawn_99, x_X1_gatherForPawn_100, x_X1_gatherForPawn_103, x_X1_gatherForPawn_105, x_X1_gatherForPawn_108, x_X1_gatherForPawn_111, x_X1_gatherForPawn_112, x_X1_gatherForPawn_113, x_X1_gatherForPawn_116, x_X1_gatherForPawn_117, x_X1_gatherForPawn_120, x_X1_gatherForPawn_121, x_X1_gatherForPawn_123, x_X1_gatherForPawn_126, x_X1_gatherForPawn_129, List.length_cons, List.length_nil, Nat.reduceLeDiff, Nat.zero_add, iI_add, iI_sub, iI_mul, iI_neg, iI_lt, iI_le, iI_eq, jI_iI, B_True, B_False, B_t, B_f, ck_True, gd_True, cb_v, cb_n, p_mv_rw, p_fv_rw, p_rv_some, pA_1, pA_90, pA_92, pA_3, pA_5, pA_93, pA_4, pA_91, pA_6, pS_i, pB_i, pW_i, pZ_0, pZ_1, pZ_b, bI_e0, u1_s, u1_n, uA_s, uA_n, true_and, and_true, not_true_eq_false, not_false_eq_true, eq_self, iI_z, al1, al5, al3, al4, al90, al91, al92, al93, al6, Int.cast_ofNat_Int, Nat.reduceAdd, Int.reduceNeg, Int.reduceAdd, Int.reduceSub, Int.reduceMul, Int.reduceLT, Int.reduceLE, Int.reduceGT, Int.reduceGE, Int.reduceEq, Int.reduceNe, Nat.reduceEqDiff, Int.zero_add, Int.add_zero, p_ty0, p_ty1, p_ty2, p_ty3, p_ty4, p_ty5, p_ty8, p_ty9, p_ty10, t0, f0, hb0, m1, m2, m3, p_ty4, p_mv_ro, c_fwd, c_on hB, c_side, e2, B_t, B_f, gd_t]
    · refine ⟨M1, .val (.int (iI (q_pl k + p_roM 4 i * q_fwd t))), fun e he => ?_, by rw [if_neg c, List.append_nil]; exact h⟩
      rw [x_X1_gatherForPawn_65]
      clear hR h hp
      simp (disch := omega) only [x_X1_gatherForPawn_66, x_X1_gatherForPawn_69, x_X1_gatherForPawn_70, x_X1_gatherForPawn_73, x_X1_gatherForPawn_74, x_X1_gatherForPawn_77, x_X1_gatherForPawn_78, x_X1_gatherForPawn_79, x_X1_gatherForPawn_80, x_X1_gatherForPawn_83, x_X1_gatherForPawn_86, x_X1_gatherForPawn_87, x_X1_gatherForPawn_88, x_X1_gatherForPawn_90, x_X1_gatherForPawn_92, x_X1_gatherForPawn_93, x_X1_gatherForPawn_96, x_X1_gatherForPawn_99, x_X1_gatherForPawn_100, x_X1_gatherForPawn_103, x_X1_gatherForPawn_105, x_X1_gatherForPawn_108, x_X1_gatherForPawn_111, x_X1_gatherForPawn_112, x_X1_gatherForPawn_113, x_X1_gatherForPawn_116, x_X1_gatherForPawn_117, x_X1_gatherForPawn_120, x_X1_gatherForPawn_121, x_X1_gatherForPawn_123, x_X1_gatherForPawn_126, x_X1_gatherForPawn_129, List.length_cons, List.length_nil, Nat.reduceLeDiff, Nat.zero_add, iI_add, iI_sub, iI_mul, iI_neg, iI_lt, iI_le, iI_eq, jI_iI, B_True, B_False, B_t, B_f, ck_True, gd_True, cb_v, cb_n, p_mv_rw, p_fv_rw, p_rv_some, pA_1, pA_90, pA_92, pA_3, pA_5, pA_93, pA_4, pA_91, pA_6, pS_i, pB_i, pW_i, pZ_0, pZ_1, pZ_b, bI_e0, u1_s, u1_n, uA_s, uA_n, true_and, and_true, not_true_eq_false, not_false_eq_true, eq_self, iI_z, al1, al5, al3, al4, al90, al91, al92, al93, al6, Int.cast_ofNat_Int, Nat.reduceAdd, Int.reduceNeg, Int.reduceAdd, Int.reduceSub, Int.reduceMul, Int.reduceLT, Int.reduceLE, Int.reduceGT, Int.reduceGE, Int.reduceEq, Int.reduceNe, Nat.reduceEqDiff, Int.zero_add, Int.add_zero, p_ty0, p_ty1, p_ty2, p_ty3, p_ty4, p_ty5, p_ty8, p_ty9, p_ty10, t0, f0, hb0, m1, m2, m3, p_ty4, p_mv_ro, c_fwd, c_on hB, c_side, B_t, B_f, gd_t]
  have fin : ∀ (l2 l4 : Slot) (M1 : pM) (L : List Int), L.length ≤ 5 → TG M M1 g L → ∃ M', (∀ e, 2 ≤ e → R e m_X1_gatherForPawn 65 [.val (.ref g), .val (.int (iI (q_pl k))), l2, .val (.int (iI 0)), l4] [] T M1 F = some (.inl none, T, M', F)) ∧ TG M M' g (L ++ ((if q_pl k + p_roM 4 0 * q_fwd t = q_pp pas ∨ q_side (q_on (M (g + 1 + 1)) (q_pl k + p_roM 4 0 * q_fwd t)) = 1 - t then [q_pl k + p_roM 4 0 * q_fwd t] else []) ++ (if q_pl k + p_roM 4 1 * q_fwd t = q_pp pas ∨ q_side (q_on (M (g + 1 + 1)) (q_pl k + p_roM 4 1 * q_fwd t)) = 1 - t then [q_pl k + p_roM 4 1 * q_fwd t] else []))) := by
    intro l2 l4 M1 L hl h
    obtain ⟨M2, l5, e2, T2⟩ := tk 0 l2 l2 l4 M1 L (Or.inl rfl) (by omega) h
    obtain ⟨M3, l6, e3, T3⟩ := tk 1 l2 l2 l5 M2 _ (Or.inr rfl) (by rw [List.length_append]; split <;> simp <;> omega) T2
    refine ⟨M3, fun e he => ?_, by rw [← List.append_assoc]; exact T3⟩
    rw [e2 e he]
    rw [show (0 : Int) + 1 = 1 from rfl, e3 e he]
    rw [x_X1_gatherForPawn_65]
    simp (disch := omega) only [x_X1_gatherForPawn_66, x_X1_gatherForPawn_69, x_X1_gatherForPawn_70, x_X1_gatherForPawn_73, x_X1_gatherForPawn_74, x_X1_gatherForPawn_77, x_X1_gatherForPawn_78, x_X1_gatherForPawn_79, x_X1_gatherForPawn_80, x_X1_gatherForPawn_83, x_X1_gatherForPawn_86, x_X1_gatherForPawn_87, x_X1_gatherForPawn_88, x_X1_gatherForPawn_90, x_X1_gatherForPawn_92, x_X1_gatherForPawn_93, x_X1_gatherForPawn_96, x_X1_gatherForPawn_99, x_X1_gatherForPawn_100, x_X1_gatherForPawn_103, x_X1_gatherForPawn_105, x_X1_gatherForPawn_108, x_X1_gatherForPawn_111, x_X1_gatherForPawn_112, x_X1_gatherForPawn_113, x_X1_gatherForPawn_116, x_X1_gatherForPawn_117, x_X1_gatherForPawn_120, x_X1_gatherForPawn_121, x_X1_gatherForPawn_123, x_X1_gatherForPawn_126, x_X1_gatherForPawn_129, x_X1_gatherForPawn_132, List.length_cons, List.length_nil, Nat.reduceLeDiff, Nat.zero_add, iI_add, iI_sub, iI_mul, iI_neg, iI_lt, iI_le, iI_eq, jI_iI, B_True, B_False, B_t, B_f, ck_True, gd_True, cb_v, cb_n, p_mv_rw, p_fv_rw, p_rv_some, pA_1, pA_90, pA_92, pA_3, pA_5, pA_93, pA_4, pA_91, pA_6, pS_i, pB_i, pW_i, pZ_0, pZ_1, pZ_b, bI_e0, u1_s, u1_n, uA_s, uA_n, true_and, and_true, not_true_eq_false, not_false_eq_true, eq_self, iI_z, al1, al5, al3, al4, al90, al91, al92, al93, al6, Int.cast_ofNat_Int, Nat.reduceAdd, Int.reduceNeg, Int.reduceAdd, Int.reduceSub, Int.reduceMul, Int.reduceLT, Int.reduceLE, Int.reduceGT, Int.reduceGE, Int.reduceEq, Int.reduceNe, Nat.reduceEqDiff, Int.zero_add, Int.add_zero, p_ty0, p_ty1, p_ty2, p_ty3, p_ty4, p_ty5, p_ty8, p_ty9, p_ty10, p_ty4, B_t, B_f]
  obtain ⟨m1, m2, m3⟩ := frd h
  have q2 : 0 ≤ q_pl k ∧ q_pl k < 289 := by omega
  unfold pwP
  by_cases c1 : q_on (M (g + 1 + 1)) (q_pl k + q_fwd t) = 0
  · obtain ⟨M2, e2, T2⟩ := c_keep (T := T) (F := F) (p := q_pl k + q_fwd t) hG' h (by simp) (by omega)
    obtain ⟨n1, n2, n3⟩ := frd T2
    rw [if_pos c1]
    by_cases c2 : q_fst (q_pl k) t
    · by_cases c3 : q_on (M (g + 1 + 1)) (q_pl k + q_fwd t + q_fwd t) = 0
      · obtain ⟨M3, e3, T3⟩ := c_keep (T := T) (F := F) (p := q_pl k + q_fwd t + q_fwd t) hG' T2 (by simp) (by omega)
        rw [if_pos ⟨hfst.mp c2, c3⟩]
        obtain ⟨M4, e4, T4⟩ := fin (.val (.int (iI (q_pl k + q_fwd t)))) .unset M3 _ (by simp) T3
        refine ⟨M4, fun d hd => ?_, T4⟩
        refine callD_go 2 hd rfl (fun e he => ?_)
        show R e m_X1_gatherForPawn 0 [.val (.ref g), .val (.int (iI (q_pl k))), .unset, .unset, .unset] [] T M1 F = _
        rw [← e4 e he]
        clear hR fin tk frd T2 T3 T4 h hp hfst
        simp (disch := omega) only [x_X1_gatherForPawn_0, x_X1_gatherForPawn_1, x_X1_gatherForPawn_2, x_X1_gatherForPawn_5, x_X1_gatherForPawn_8, x_X1_gatherForPawn_9, x_X1_gatherForPawn_10, x_X1_gatherForPawn_11, x_X1_gatherForPawn_14, x_X1_gatherForPawn_15, x_X1_gatherForPawn_18, x_X1_gatherForPawn_21, x_X1_gatherForPawn_22, x_X1_gatherForPawn_23, x_X1_gatherForPawn_26, x_X1_gatherForPawn_27, x_X1_gatherForPawn_28, x_X1_gatherForPawn_31, x_X1_gatherForPawn_34, x_X1_gatherForPawn_35, x_X1_gatherForPawn_36, x_X1_gatherForPawn_37, x_X1_gatherForPawn_38, x_X1_gatherForPawn_41, x_X1_gatherForPawn_44, x_X1_gatherForPawn_47, x_X1_gatherForPawn_48, x_X1_gatherForPawn_51, x_X1_gatherForPawn_52, x_X1_gatherForPawn_55, x_X1_gatherForPawn_58, x_X1_gatherForPawn_59, x_X1_gatherForPawn_60, x_X1_gatherForPawn_63, x_X1_gatherForPawn_64, List.length_cons, List.length_nil, Nat.reduceLeDiff, Nat.zero_add, iI_add, iI_sub, iI_mul, iI_neg, iI_lt, iI_le, iI_eq, jI_iI, B_True, B_False, B_t, B_f, ck_True, gd_True, cb_v, cb_n, p_mv_rw, p_fv_rw, p_rv_some, pA_1, pA_90, pA_92, pA_3, pA_5, pA_93, pA_4, pA_91, pA_6, pS_i, pB_i, pW_i, pZ_0, pZ_1, pZ_b, bI_e0, u1_s, u1_n, uA_s, uA_n, true_and, and_true, not_true_eq_false, not_false_eq_true, eq_self, iI_z, al1, al5, al3, al4, al90, al91, al92, al93, al6, Int.cast_ofNat_Int, Nat.reduceAdd, Int.reduceNeg, Int.reduceAdd, Int.reduceSub, Int.reduceMul, Int.reduceLT, Int.reduceLE, Int.reduceGT, Int.reduceGE, Int.reduceEq, Int.reduceNe, Nat.reduceEqDiff, Int.zero_add, Int.add_zero, p_ty0, p_ty1, p_ty2, p_ty3, p_ty4, p_ty5, p_ty8, p_ty9, p_ty10, t0, f0, hb0, m1, m2, m3, n1, n2, n3, c_fwd, c_on hB, c_fst, e2, e3, bI_t c2, B_t, B_f, gd_t]
      · rw [if_neg (fun z => c3 z.2)]
        obtain ⟨M4, e4, T4⟩ := fin (.val (.int (iI (q_pl k + q_fwd t)))) .unset M2 _ (by simp) T2
        refine ⟨M4, fun d hd => ?_, T4⟩
        refine callD_go 2 hd rfl (fun e he => ?_)
        show R e m_X1_gatherForPawn 0 [.val (.ref g), .val (.int (iI (q_pl k))), .unset, .unset, .unset] [] T M1 F = _
        rw [← e4 e he]
        have hon := q_on_rg hR.1 (q_pl k + q_fwd t + q_fwd t)
        clear hR fin tk frd T2 T4 h hp hfst
        simp (disch := omega) only [x_X1_gatherForPawn_0, x_X1_gatherForPawn_1, x_X1_gatherForPawn_2, x_X1_gatherForPawn_5, x_X1_gatherForPawn_8, x_X1_gatherForPawn_9, x_X1_gatherForPawn_10, x_X1_gatherForPawn_11, x_X1_gatherForPawn_14, x_X1_gatherForPawn_15, x_X1_gatherForPawn_18, x_X1_gatherForPawn_21, x_X1_gatherForPawn_22, x_X1_gatherForPawn_23, x_X1_gatherForPawn_26, x_X1_gatherForPawn_27, x_X1_gatherForPawn_28, x_X1_gatherForPawn_31, x_X1_gatherForPawn_34, x_X1_gatherForPawn_35, x_X1_gatherForPawn_36, x_X1_gatherForPawn_37, x_X1_gatherForPawn_38, x_X1_gatherForPawn_41, x_X1_gatherForPawn_44, x_X1_gatherForPawn_47, x_X1_gatherForPawn_48, x_X1_gatherForPawn_51, x_X1_gatherForPawn_52, x_X1_gatherForPawn_55, x_X1_gatherForPawn_58, x_X1_gatherForPawn_59, x_X1_gatherForPawn_60, x_X1_gatherForPawn_63, x_X1_gatherForPawn_64, List.length_cons, List.length_nil, Nat.reduceLeDiff, Nat.zero_add, iI_add, iI_sub, iI_mul, iI_neg, iI_lt, iI_le, iI_eq, jI_iI, B_True, B_False, B_t, B_f, ck_True, gd_True, cb_v, cb_n, p_mv_rw, p_fv_rw, p_rv_some, pA_1, pA_90, pA_92, pA_3, pA_5, pA_93, pA_4, pA_91, pA_6, pS_i, pB_i, pW_i, pZ_0, pZ_1, pZ_b, bI_e0, u1_s, u1_n, uA_s, uA_n, true_and, and_true, not_true_eq_false, not_false_eq_true, eq_self, iI_z, al1, al5, al3, al4, al90, al91, al92, al93, al6, Int.cast_ofNat_Int, Nat.reduceAdd, Int.reduceNeg, Int.reduceAdd, Int.reduceSub, Int.reduceMul, Int.reduceLT, Int.reduceLE, Int.reduceGT, Int.reduceGE, Int.reduceEq, Int.reduceNe, Nat.reduceEqDiff, Int.zero_add, Int.add_zero, p_ty0, p_ty1, p_ty2, p_ty3, p_ty4, p_ty5, p_ty8, p_ty9, p_ty10, t0, f0, hb0, m1, m2, m3, n1, n2, n3, c_fwd, c_on hB, c_fst, e2, bI_t c2, B_t, B_f, gd_t]
    · rw [if_neg (fun z => c2 (hfst.mpr z.1))]
      obtain ⟨M4, e4, T4⟩ := fin (.val (.int (iI (q_pl k + q_fwd t)))) .unset M2 _ (by simp) T2
      refine ⟨M4, fun d hd => ?_, T4⟩
      refine callD_go 2 hd rfl (fun e he => ?_)
      show R e m_X1_gatherForPawn 0 [.val (.ref g), .val (.int (iI (q_pl k))), .unset, .unset, .unset] [] T M1 F = _
      rw [← e4 e he]
      clear hR fin tk frd T2 T4 h hp hfst
      simp (disch := omega) only [x_X1_gatherForPawn_0, x_X1_gatherForPawn_1, x_X1_gatherForPawn_2, x_X1_gatherForPawn_5, x_X1_gatherForPawn_8, x_X1_gatherForPawn_9, x_X1_gatherForPawn_10, x_X1_gatherForPawn_11, x_X1_gatherForPawn_14, x_X1_gatherForPawn_15, x_X1_gatherForPawn_18, x_X1_gatherForPawn_21, x_X1_gatherForPawn_22, x_X1_gatherForPawn_23, x_X1_gatherForPawn_26, x_X1_gatherForPawn_27, x_X1_gatherForPawn_28, x_X1_gatherForPawn_31, x_X1_gatherForPawn_34, x_X1_gatherForPawn_35, x_X1_gatherForPawn_36, x_X1_gatherForPawn_37, x_X1_gatherForPawn_38, x_X1_gatherForPawn_41, x_X1_gatherForPawn_44, x_X1_gatherForPawn_47, x_X1_gatherForPawn_48, x_X1_gatherForPawn_51, x_X1_gatherForPawn_52, x_X1_gatherForPawn_55, x_X1_gatherForPawn_58, x_X1_gatherForPawn_59, x_X1_gatherForPawn_60, x_X1_gatherForPawn_63, x_X1_gatherForPawn_64, List.length_cons, List.length_nil, Nat.reduceLeDiff, Nat.zero_add, iI_add, iI_sub, iI_mul, iI_neg, iI_lt, iI_le, iI_eq, jI_iI, B_True, B_False, B_t, B_f, ck_True, gd_True, cb_v, cb_n, p_mv_rw, p_fv_rw, p_rv_some, pA_1, pA_90, pA_92, pA_3, pA_5, pA_93, pA_4, pA_91, pA_6, pS_i, pB_i, pW_i, pZ_0, pZ_1, pZ_b, bI_e0, u1_s, u1_n, uA_s, uA_n, true_and, and_true, not_true_eq_false, not_false_eq_true, eq_self, iI_z, al1, al5, al3, al4, al90, al91, al92, al93, al6, Int.cast_ofNat_Int, Nat.reduceAdd, Int.reduceNeg, Int.reduceAdd, Int.reduceSub, Int.reduceMul, Int.reduceLT, Int.reduceLE, Int.reduceGT, Int.reduceGE, Int.reduceEq, Int.reduceNe, Nat.reduceEqDiff, Int.zero_add, Int.add_zero, p_ty0, p_ty1, p_ty2, p_ty3, p_ty4, p_ty5, p_ty8, p_ty9, p_ty10, t0, f0, hb0, m1, m2, m3, n1, n2, n3, c_fwd, c_on hB, c_fst, e2, bI_f c2, B_t, B_f, gd_t]
  · rw [if_neg c1]
    obtain ⟨M4, e4, T4⟩ := fin (.val (.int (iI (q_pl k + q_fwd t)))) .unset M1 _ (by simp) h
    refine ⟨M4, fun d hd => ?_, T4⟩
    refine callD_go 2 hd rfl (fun e he => ?_)
    show R e m_X1_gatherForPawn 0 [.val (.ref g), .val (.int (iI (q_pl k))), .unset, .unset, .unset] [] T M1 F = _
    rw [← e4 e he]
    have hon := q_on_rg hR.1 (q_pl k + q_fwd t)
    clear hR fin tk frd T4 h hp hfst
    simp (disch := omega) only [x_X1_gatherForPawn_0, x_X1_gatherForPawn_1, x_X1_gatherForPawn_2, x_X1_gatherForPawn_5, x_X1_gatherForPawn_8, x_X1_gatherForPawn_9, x_X1_gatherForPawn_10, x_X1_gatherForPawn_11, x_X1_gatherForPawn_14, x_X1_gatherForPawn_15, x_X1_gatherForPawn_18, x_X1_gatherForPawn_21, x_X1_gatherForPawn_22, x_X1_gatherForPawn_23, x_X1_gatherForPawn_26, x_X1_gatherForPawn_27, x_X1_gatherForPawn_28, x_X1_gatherForPawn_31, x_X1_gatherForPawn_34, x_X1_gatherForPawn_35, x_X1_gatherForPawn_36, x_X1_gatherForPawn_37, x_X1_gatherForPawn_38, x_X1_gatherForPawn_41, x_X1_gatherForPawn_44, x_X1_gatherForPawn_47, x_X1_gatherForPawn_48, x_X1_gatherForPawn_51, x_X1_gatherForPawn_52, x_X1_gatherForPawn_55, x_X1_gatherForPawn_58, x_X1_gatherForPawn_59, x_X1_gatherForPawn_60, x_X1_gatherForPawn_63, x_X1_gatherForPawn_64, List.length_cons, List.length_nil, Nat.reduceLeDiff, Nat.zero_add, iI_add, iI_sub, iI_mul, iI_neg, iI_lt, iI_le, iI_eq, jI_iI, B_True, B_False, B_t, B_f, ck_True, gd_True, cb_v, cb_n, p_mv_rw, p_fv_rw, p_rv_some, pA_1, pA_90, pA_92, pA_3, pA_5, pA_93, pA_4, pA_91, pA_6, pS_i, pB_i, pW_i, pZ_0, pZ_1, pZ_b, bI_e0, u1_s, u1_n, uA_s, uA_n, true_and, and_true, not_true_eq_false, not_false_eq_true, eq_self, iI_z, al1, al5, al3, al4, al90, al91, al92, al93, al6, Int.cast_ofNat_Int, Nat.reduceAdd, Int.reduceNeg, Int.reduceAdd, Int.reduceSub, Int.reduceMul, Int.reduceLT, Int.reduceLE, Int.reduceGT, Int.reduceGE, Int.reduceEq, Int.reduceNe, Nat.reduceEqDiff, Int.zero_add, Int.add_zero, p_ty0, p_ty1, p_ty2, p_ty3, p_ty4, p_ty5, p_ty8, p_ty9, p_ty10, t0, f0, hb0, m1, m2, m3, c_fwd, c_on hB, B_t, B_f, gd_t]
end PGAT
