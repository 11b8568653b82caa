section PLOOK
variable {d : Nat} {T : pT} {M M1 : pM} {F : pF} {b g : Nat} {bb : Int → Int} {k s t pas q its to as c x n p : Int}
/-- a shield of the king's, and its place -/
def pin1 (bb : Int → Int) (t kc i : Int) : Prop := m_side (m_on bb (rayC bb i 16 (gn kc i))) = t ∧ slv (1 - t) i (m_on bb (rayC bb i 16 (gn (rayC bb i 16 (gn kc i)) i)))
def PN (M : pM) (g : Nat) (bb : Int → Int) (t kc n : Int) : Prop := (0 ≤ M g 12 ∧ M g 12 ≤ n) ∧ ∀ p, (∃ j, 0 ≤ j ∧ j < M g 12 ∧ M (g + 6) j = p) ↔ ∃ i, 0 ≤ i ∧ i < n ∧ pin1 bb t kc i ∧ p = q_pl (rayC bb i 16 (gn kc i))
theorem ray_at {v : Int → Int} (h : VB v bb) (hb : MB bb) {i : Int} (hk : 0 ≤ k ∧ k < 91) (hi : 0 ≤ i ∧ i < 12) : (0 ≤ ft v (p_roM 2 i) 17 (q_pl k + p_roM 2 i) ∧ ft v (p_roM 2 i) 17 (q_pl k + p_roM 2 i) < 289) ∧ q_cel (ft v (p_roM 2 i) 17 (q_pl k + p_roM 2 i)) = rayC bb i 16 (gn k i) ∧ q_on v (ft v (p_roM 2 i) 17 (q_pl k + p_roM 2 i)) = cm (m_on bb (rayC bb i 16 (gn k i))) ∧ (rayC bb i 16 (gn k i) ≠ -1 → ft v (p_roM 2 i) 17 (q_pl k + p_roM 2 i) = q_pl (rayC bb i 16 (gn k i))) := by
  have hq := q_pl_nn hk
  have hr := ro2 hi
  have hp : 0 ≤ q_pl k + p_roM 2 i ∧ q_pl k + p_roM 2 i < 289 := by omega
  have hray := h.ray hb hi 17 (q_pl k + p_roM 2 i) hp
  have e1 : q_cel (q_pl k + p_roM 2 i) = gn k i := rfl
  rw [e1, rayC_fix 16 _ (rayO_ok hk hi)] at hray
  have hon := h.on hb hray.1
  rw [hray.2] at hon
  refine ⟨hray.1, hray.2, hon, fun z => ?_⟩
  have := geo2 hray.1
  rw [hray.2] at this
  rcases this with w | ⟨-, -, w⟩
  · exact absurd w z
  · exact w.symm
theorem cm_side (hb : MB bb) (c : Int) (ht : t = 0 ∨ t = 1) : q_side (cm (m_on bb c)) = t ↔ (c ≠ -1 ∧ m_side (m_on bb c) = t) := by
  have := hb c
  unfold cm m_on cv q_side m_side
  by_cases e : c = -1
  · rw [if_pos e]
    constructor
    · intro z; simp at z; omega
    · intro z; exact absurd e z.1
  · rw [if_neg e]
    constructor
    · intro z; refine ⟨e, ?_⟩; (repeat' split at z) <;> (repeat' split) <;> omega
    · rintro ⟨-, z⟩; (repeat' split at z) <;> (repeat' split) <;> omega
theorem cm_slv (hb : MB bb) (c i : Int) (hs : s = 0 ∨ s = 1) : (q_side (cm (m_on bb c)) = s ∧ q_goes (q_kind (cm (m_on bb c))) i False) ↔ slv s i (m_on bb c) := by
  have := hb c
  unfold q_goes slv
  have hc := cm_side hb c hs
  rw [hc]
  have hk : c ≠ -1 → q_kind (cm (m_on bb c)) = m_on bb c % 10 := by
    intro e
    have := (cv_facts hb c).2.2
    unfold cm m_on
    rw [if_neg e, if_neg (by omega)]
    exact this
  by_cases e : c = -1
  · have e9 : m_on bb c = -1 := by unfold m_on; rw [if_pos e]
    rw [e9]
    constructor
    · rintro ⟨⟨z, -⟩, -⟩; exact absurd e z
    · intro z; exfalso; split at z <;> omega
  · rw [hk e]
    have e9 : m_on bb c = bb c := by unfold m_on; rw [if_neg e]
    rw [e9]
    unfold m_side
    constructor
    · rintro ⟨⟨z1, z2⟩, z3⟩
      rcases z3 with z3 | z3 | ⟨-, z3⟩
      · left; split at z2 <;> omega
      · right; split at z2 <;> split at z3 <;> split <;> omega
      · exact z3.elim
    · intro z
      refine ⟨⟨e, ?_⟩, ?_⟩
      · split at z <;> split <;> omega
      · rcases z with z | z
        · left; omega
        · right; left; split at z <;> split <;> omega
theorem c_look (hG : GT T F g) (hS : GS M g bb t pas q) (hk : m_king bb t ≠ -1) :
    ∃ M', (∀ d, 3 ≤ d → callD d m_X1_lookAtKing [.ref g] T M F = some (.inl none, T, M', F)) ∧ M' g 13 = bI (m_chk bb t) ∧ PN M' g bb t (m_king bb t) 12 ∧ (∀ j, j ≠ 12 → j ≠ 13 → M' g j = M g j) ∧ (∀ a, a ≠ g → a ≠ g + 6 → M' a = M a) := by
  have hS' := hS
  obtain ⟨hR, s1, s2, s3, ht, s5, hp⟩ := hS
  have hb := hR.2.2.1
  have hkr := (m_king_rg bb t).resolve_left hk
  have hkc : 0 ≤ m_king bb t ∧ m_king bb t < 91 := ⟨hkr.1, hkr.2.1⟩
  have hpp : q_pp (m_king bb t) = q_pl (m_king bb t) := if_neg hk
  have ha := m_att_rg bb (m_king bb t) (1 - t)
  have hs1 : 1 - t = 0 ∨ 1 - t = 1 := by omega
  have hGT := hG
  obtain ⟨hg, t0, f0, hB, t3, f4, t4, f6, t5, f9, t6, f11⟩ := hG
  have hb0 := hB.2.1
  generalize hkk : m_king bb t = kc at *
  have hq := q_pl_nn hkc
  have key : ∀ (m : Nat) (i : Int) (l3 l4 : Slot) (M1 : pM), i = 12 - (m : Int) → 0 ≤ i → (∀ a, a ≠ g → a ≠ g + 6 → M1 a = M a) → (∀ j, j ≠ 12 → j ≠ 13 → M1 g j = M g j) → PN M1 g bb t kc i →
      ∃ M', (∀ e, 2 ≤ e → R e m_X1_lookAtKing 45 [.val (.ref g), .val (.int (iI (q_pl kc))), .val (.int (iI i)), l3, l4] [] T M1 F = some (.inl none, T, M', F)) ∧ M' g 13 = M1 g 13 ∧ PN M' g bb t kc 12 ∧ (∀ j, j ≠ 12 → j ≠ 13 → M' g j = M g j) ∧ (∀ a, a ≠ g → a ≠ g + 6 → M' a = M a) := by
    intro m
    induction m with
    | zero =>
      intro i l3 l4 M1 hi h0 hf hj hpn
      obtain rfl : i = 12 := by omega
      refine ⟨M1, fun e he => ?_, rfl, hpn, hj, hf⟩
      simp (disch := omega) only [x_X1_lookAtKing_45, x_X1_lookAtKing_46, x_X1_lookAtKing_49, x_X1_lookAtKing_50, x_X1_lookAtKing_53, x_X1_lookAtKing_54, x_X1_lookAtKing_57, x_X1_lookAtKing_58, x_X1_lookAtKing_61, x_X1_lookAtKing_62, x_X1_lookAtKing_63, x_X1_lookAtKing_66, x_X1_lookAtKing_67, x_X1_lookAtKing_68, x_X1_lookAtKing_71, x_X1_lookAtKing_72, x_X1_lookAtKing_75, x_X1_lookAtKing_76, x_X1_lookAtKing_79, x_X1_lookAtKing_80, x_X1_lookAtKing_81, x_X1_lookAtKing_84, x_X1_lookAtKing_87, x_X1_lookAtKing_89, x_X1_lookAtKing_90, x_X1_lookAtKing_93, x_X1_lookAtKing_94, x_X1_lookAtKing_97, x_X1_lookAtKing_100, x_X1_lookAtKing_101, x_X1_lookAtKing_104, x_X1_lookAtKing_107, x_X1_lookAtKing_109, x_X1_lookAtKing_112, x_X1_lookAtKing_113, x_X1_lookAtKing_114, x_X1_lookAtKing_117, x_X1_lookAtKing_118, x_X1_lookAtKing_121, x_X1_lookAtKing_123, x_X1_lookAtKing_126, x_X1_lookAtKing_127, x_X1_lookAtKing_128, x_X1_lookAtKing_131, x_X1_lookAtKing_134, x_X1_lookAtKing_135, x_X1_lookAtKing_138, x_X1_lookAtKing_141, x_X1_lookAtKing_142, x_X1_lookAtKing_145, x_X1_lookAtKing_146, x_X1_lookAtKing_149, x_X1_lookAtKing_150, x_X1_lookAtKing_153, x_X1_lookAtKing_154, x_X1_lookAtKing_157, x_X1_lookAtKing_158, x_X1_lookAtKing_161, x_X1_lookAtKing_162, x_X1_lookAtKing_163, x_X1_lookAtKing_164, x_X1_lookAtKing_165, x_X1_lookAtKing_168, x_X1_lookAtKing_169, x_X1_lookAtKing_170, x_X1_lookAtKing_173, x_X1_lookAtKing_176, x_X1_lookAtKing_179, List.length_cons, List.length_nil, Nat.reduceLeDiff, Nat.zero_add, iI_add, iI_sub, iI_mul, iI_neg, iI_lt, iI_le, iI_eq, jI_iI, B_True, B_False, B_t, B_f, ck_True, gd_True, cb_v, cb_n, p_mv_rw, p_fv_rw, p_rv_some, pA_1, pA_90, pA_92, pA_3, pA_5, pA_93, pA_4, pA_91, pA_6, pS_i, pB_i, pW_i, pZ_0, pZ_1, pZ_b, bI_e0, u1_s, u1_n, uA_s, uA_n, true_and, and_true, not_true_eq_false, not_false_eq_true, eq_self, iI_z, al1, al5, al3, al4, al90, al91, al92, al93, al6, Int.cast_ofNat_Int, Nat.reduceAdd, Int.reduceNeg, Int.reduceAdd, Int.reduceSub, Int.reduceMul, Int.reduceLT, Int.reduceLE, Int.reduceGT, Int.reduceGE, Int.reduceEq, Int.reduceNe, Nat.reduceEqDiff, Int.zero_add, Int.add_zero, p_ty0, p_ty1, p_ty2, p_ty3, p_ty4, p_ty5, p_ty8, p_ty9, p_ty10]
    | succ m ih =>
      intro i l3 l4 M1 hi h0 hf hj hpn
      have hi12 : 0 ≤ i ∧ i < 12 := by omega
      have hro := ro2 hi12
      have hm : M1 (g + 1 + 1) = M (g + 1 + 1) := hf _ (by omega) (by omega)
      have hR1 : RB M1 (g + 1) bb := by unfold RB; rw [hm, hf (g + 1) (by omega) (by omega)]; exact hR
      have hv := hR1.1
      obtain ⟨r1, r2, r3, r4⟩ := ray_at hR1.2.1 hb hkc hi12
      have hcr := rayC_rg (b := bb) hi12 16 (gn kc i) (gn_rg hkc hi12)
      have hft2 := ft_rg (v := M1 (g + 1 + 1)) hro 17 (ft (M1 (g + 1 + 1)) (p_roM 2 i) 17 (q_pl kc + p_roM 2 i) + p_roM 2 i)
      have hon2 := q_on_rg hv (ft (M1 (g + 1 + 1)) (p_roM 2 i) 17 (ft (M1 (g + 1 + 1)) (p_roM 2 i) 17 (q_pl kc + p_roM 2 i) + p_roM 2 i))
      have hon1 := q_on_rg hv (ft (M1 (g + 1 + 1)) (p_roM 2 i) 17 (q_pl kc + p_roM 2 i))
      have hkd := q_kind_rg hon2
      have hsd1 := q_side_rg (q_on (M1 (g + 1 + 1)) (ft (M1 (g + 1 + 1)) (p_roM 2 i) 17 (q_pl kc + p_roM 2 i)))
      have hsd2 := q_side_rg (q_on (M1 (g + 1 + 1)) (ft (M1 (g + 1 + 1)) (p_roM 2 i) 17 (ft (M1 (g + 1 + 1)) (p_roM 2 i) 17 (q_pl kc + p_roM 2 i) + p_roM 2 i)))
      have hpin : (q_side (q_on (M1 (g + 1 + 1)) (ft (M1 (g + 1 + 1)) (p_roM 2 i) 17 (q_pl kc + p_roM 2 i))) = t ∧ q_side (q_on (M1 (g + 1 + 1)) (ft (M1 (g + 1 + 1)) (p_roM 2 i) 17 (ft (M1 (g + 1 + 1)) (p_roM 2 i) 17 (q_pl kc + p_roM 2 i) + p_roM 2 i))) = 1 - t ∧ q_goes (q_kind (q_on (M1 (g + 1 + 1)) (ft (M1 (g + 1 + 1)) (p_roM 2 i) 17 (ft (M1 (g + 1 + 1)) (p_roM 2 i) 17 (q_pl kc + p_roM 2 i) + p_roM 2 i)))) i False) ↔ pin1 bb t kc i := by
        rw [r3, cm_side hb _ ht]
        unfold pin1
        constructor
        · rintro ⟨⟨y1, y2⟩, y3⟩
          refine ⟨y2, ?_⟩
          have hc2 : 0 ≤ rayC bb i 16 (gn kc i) ∧ rayC bb i 16 (gn kc i) < 91 := by omega
          obtain ⟨-, -, w3, -⟩ := ray_at hR1.2.1 hb hc2 hi12
          rw [r4 y1, w3] at y3
          exact (cm_slv hb _ i hs1).mp y3
        · rintro ⟨y2, y3⟩
          have y1 : rayC bb i 16 (gn kc i) ≠ -1 := by
            intro z
            rw [z] at y2
            unfold m_on m_side at y2
            simp at y2
            omega
          refine ⟨⟨y1, y2⟩, ?_⟩
          have hc2 : 0 ≤ rayC bb i 16 (gn kc i) ∧ rayC bb i 16 (gn kc i) < 91 := by omega
          obtain ⟨-, -, w3, -⟩ := ray_at hR1.2.1 hb hc2 hi12
          rw [r4 y1, w3]
          exact (cm_slv hb _ i hs1).mpr y3
      have m1 : M1 g 1 = t := by rw [hj 1 (by omega) (by omega)]; exact s1
      have hpl : pin1 bb t kc i → ft (M1 (g + 1 + 1)) (p_roM 2 i) 17 (q_pl kc + p_roM 2 i) = q_pl (rayC bb i 16 (gn kc i)) := by
        intro y
        refine r4 (fun z => ?_)
        have y2 := y.1
        rw [z] at y2
        unfold m_on m_side at y2
        simp at y2
        omega
      by_cases hpi : pin1 bb t kc i
      · obtain ⟨y1, y2, y3⟩ := hpin.mpr hpi
        have hpl := hpl hpi
        generalize hsh : ft (M1 (g + 1 + 1)) (p_roM 2 i) 17 (q_pl kc + p_roM 2 i) = sh at *
        have hn := hpn.1
        have w0 : uA (uA M1 (g + 6) (u1 (M1 (g + 6)) (M1 g 12) sh)) g (u1 (M1 g) 12 (M1 g 12 + 1)) g = u1 (M1 g) 12 (M1 g 12 + 1) := uA_s
        have w6 : uA (uA M1 (g + 6) (u1 (M1 (g + 6)) (M1 g 12) sh)) g (u1 (M1 g) 12 (M1 g 12 + 1)) (g + 6) = u1 (M1 (g + 6)) (M1 g 12) sh := by rw [uA_n (by omega), uA_s]
        obtain ⟨M', e3, f1, f2, f3, f4'⟩ := ih (i + 1) (.val (.int (iI sh))) (.val (.int (iI (q_on (M1 (g + 1 + 1)) (ft (M1 (g + 1 + 1)) (p_roM 2 i) 17 (sh + p_roM 2 i)))))) (uA (uA M1 (g + 6) (u1 (M1 (g + 6)) (M1 g 12) sh)) g (u1 (M1 g) 12 (M1 g 12 + 1))) (by omega) (by omega)
          (fun a a1 a2 => by rw [uA_n a1, uA_n a2]; exact hf a a1 a2) (fun j j1 j2 => by rw [w0]; unfold u1; rw [if_neg j1]; exact hj j j1 j2) (by
            refine ⟨?_, fun p => ?_⟩
            · rw [w0]; show 0 ≤ M1 g 12 + 1 ∧ M1 g 12 + 1 ≤ i + 1; omega
            · rw [w0, w6]
              have hp9 := hpn.2 p
              constructor
              · rintro ⟨j, j0, j1, j2⟩
                have j1' : j < M1 g 12 + 1 := j1
                unfold u1 at j2
                by_cases e9 : j = M1 g 12
                · rw [if_pos e9] at j2
                  exact ⟨i, h0, by omega, hpi, by rw [← j2]; exact hpl⟩
                · rw [if_neg e9] at j2
                  obtain ⟨i', x1, x2, x3, x4⟩ := hp9.mp ⟨j, j0, by omega, j2⟩
                  exact ⟨i', x1, by omega, x3, x4⟩
              · rintro ⟨i', x1, x2, x3, x4⟩
                by_cases e9 : i' = i
                · subst e9
                  refine ⟨M1 g 12, hn.1, ?_, ?_⟩
                  · show M1 g 12 < M1 g 12 + 1; omega
                  · unfold u1; rw [if_pos rfl, x4]; exact hpl
                · obtain ⟨j, j0, j1, j2⟩ := hp9.mpr ⟨i', x1, by omega, x3, x4⟩
                  refine ⟨j, j0, ?_, ?_⟩
                  · show j < M1 g 12 + 1; omega
                  · unfold u1; rw [if_neg (by omega)]; exact j2)
        refine ⟨M', fun e he => ?_, by rw [f1, w0]; rfl, f2, f3, f4'⟩
        rw [x_X1_lookAtKing_45]
        clear hR hR1 hpn hpin hS' ih
        simp (disch := omega) only [x_X1_lookAtKing_46, x_X1_lookAtKing_49, x_X1_lookAtKing_50, x_X1_lookAtKing_53, x_X1_lookAtKing_54, x_X1_lookAtKing_57, x_X1_lookAtKing_58, x_X1_lookAtKing_61, x_X1_lookAtKing_62, x_X1_lookAtKing_63, x_X1_lookAtKing_66, x_X1_lookAtKing_67, x_X1_lookAtKing_68, x_X1_lookAtKing_71, x_X1_lookAtKing_72, x_X1_lookAtKing_75, x_X1_lookAtKing_76, x_X1_lookAtKing_79, x_X1_lookAtKing_80, x_X1_lookAtKing_81, x_X1_lookAtKing_84, x_X1_lookAtKing_87, x_X1_lookAtKing_89, x_X1_lookAtKing_90, x_X1_lookAtKing_93, x_X1_lookAtKing_94, x_X1_lookAtKing_97, x_X1_lookAtKing_100, x_X1_lookAtKing_101, x_X1_lookAtKing_104, x_X1_lookAtKing_107, x_X1_lookAtKing_109, x_X1_lookAtKing_112, x_X1_lookAtKing_113, x_X1_lookAtKing_114, x_X1_lookAtKing_117, x_X1_lookAtKing_118, x_X1_lookAtKing_121, x_X1_lookAtKing_123, x_X1_lookAtKing_126, x_X1_lookAtKing_127, x_X1_lookAtKing_128, x_X1_lookAtKing_131, x_X1_lookAtKing_134, x_X1_lookAtKing_135, x_X1_lookAtKing_138, x_X1_lookAtKing_141, x_X1_lookAtKing_142, x_X1_lookAtKing_145, x_X1_lookAtKing_146, x_X1_lookAtKing_149, x_X1_lookAtKing_150, x_X1_lookAtKing_153, x_X1_lookAtKing_154, x_X1_lookAtKing_157, x_X1_lookAtKing_158, x_X1_lookAtKing_161, x_X1_lookAtKing_162, x_X1_lookAtKing_163, x_X1_lookAtKing_164, x_X1_lookAtKing_165, x_X1_lookAtKing_168, x_X1_lookAtKing_169, x_X1_lookAtKing_170, x_X1_lookAtKing_173, x_X1_lookAtKing_176, List.length_cons, List.length_nil, Nat.reduceLeDiff, Nat.zero_add, iI_add, iI_sub, iI_mul, iI_neg, iI_lt, iI_le, iI_eq, jI_iI, B_True, B_False, B_t, B_f, ck_True, gd_True, cb_v, cb_n, p_mv_rw, p_fv_rw, p_rv_some, pA_1, pA_90, pA_92, pA_3, pA_5, pA_93, pA_4, pA_91, pA_6, pS_i, pB_i, pW_i, pZ_0, pZ_1, pZ_b, bI_e0, u1_s, u1_n, uA_s, uA_n, true_and, and_true, not_true_eq_false, not_false_eq_true, eq_self, iI_z, al1, al5, al3, al4, al90, al91, al92, al93, al6, Int.cast_ofNat_Int, Nat.reduceAdd, Int.reduceNeg, Int.reduceAdd, Int.reduceSub, Int.reduceMul, Int.reduceLT, Int.reduceLE, Int.reduceGT, Int.reduceGE, Int.reduceEq, Int.reduceNe, Nat.reduceEqDiff, Int.zero_add, Int.add_zero, p_ty0, p_ty1, p_ty2, p_ty3, p_ty4, p_ty5, p_ty8, p_ty9, p_ty10, t0, f0, t6, f11, hb0, m1, p_mv_ro, c_ft hB hv, hsh, c_on hB, c_side, c_kind, c_goes0, bI_t y3, B_t, B_f, gd_t]
        exact e3 e he
      · obtain ⟨M', e3, f1, f2, f3, f4'⟩ := ih (i + 1) (.val (.int (iI (ft (M1 (g + 1 + 1)) (p_roM 2 i) 17 (q_pl kc + p_roM 2 i))))) (.val (.int (iI (q_on (M1 (g + 1 + 1)) (ft (M1 (g + 1 + 1)) (p_roM 2 i) 17 (ft (M1 (g + 1 + 1)) (p_roM 2 i) 17 (q_pl kc + p_roM 2 i) + p_roM 2 i)))))) M1 (by omega) (by omega) hf hj (by
            refine ⟨by have := hpn.1; omega, fun p => ?_⟩
            have hp9 := hpn.2 p
            rw [hp9]
            constructor
            · rintro ⟨i', x1, x2, x3, x4⟩; exact ⟨i', x1, by omega, x3, x4⟩
            · rintro ⟨i', x1, x2, x3, x4⟩
              by_cases e9 : i' = i
              · subst e9; contradiction
              · exact ⟨i', x1, by omega, x3, x4⟩)
        refine ⟨M', fun e he => ?_, f1, f2, f3, f4'⟩
        have hno := fun z => hpi (hpin.mp z)
        clear hR hR1 hpn hpin hS' ih hpl r4
        generalize hsh : ft (M1 (g + 1 + 1)) (p_roM 2 i) 17 (q_pl kc + p_roM 2 i) = sh at *
        rw [x_X1_lookAtKing_45]
        by_cases y1 : q_side (q_on (M1 (g + 1 + 1)) sh) = t
        · by_cases y2 : q_side (q_on (M1 (g + 1 + 1)) (ft (M1 (g + 1 + 1)) (p_roM 2 i) 17 (sh + p_roM 2 i))) = 1 - t
          · have y3 : ¬ q_goes (q_kind (q_on (M1 (g + 1 + 1)) (ft (M1 (g + 1 + 1)) (p_roM 2 i) 17 (sh + p_roM 2 i)))) i False := fun z => hno ⟨y1, y2, z⟩
            simp (disch := omega) only [x_X1_lookAtKing_46, x_X1_lookAtKing_49, x_X1_lookAtKing_50, x_X1_lookAtKing_53, x_X1_lookAtKing_54, x_X1_lookAtKing_57, x_X1_lookAtKing_58, x_X1_lookAtKing_61, x_X1_lookAtKing_62, x_X1_lookAtKing_63, x_X1_lookAtKing_66, x_X1_lookAtKing_67, x_X1_lookAtKing_68, x_X1_lookAtKing_71, x_X1_lookAtKing_72, x_X1_lookAtKing_75, x_X1_lookAtKing_76, x_X1_lookAtKing_79, x_X1_lookAtKing_80, x_X1_lookAtKing_81, x_X1_lookAtKing_84, x_X1_lookAtKing_87, x_X1_lookAtKing_89, x_X1_lookAtKing_90, x_X1_lookAtKing_93, x_X1_lookAtKing_94, x_X1_lookAtKing_97, x_X1_lookAtKing_100, x_X1_lookAtKing_101, x_X1_lookAtKing_104, x_X1_lookAtKing_107, x_X1_lookAtKing_109, x_X1_lookAtKing_112, x_X1_lookAtKing_113, x_X1_lookAtKing_114, x_X1_lookAtKing_117, x_X1_lookAtKing_118, x_X1_lookAtKing_121, x_X1_lookAtKing_123, x_X1_lookAtKing_126, x_X1_lookAtKing_127, x_X1_lookAtKing_128, x_X1_lookAtKing_131, x_X1_lookAtKing_134, x_X1_lookAtKing_135, x_X1_lookAtKing_138, x_X1_lookAtKing_141, x_X1_lookAtKing_142, x_X1_lookAtKing_145, x_X1_lookAtKing_146, x_X1_lookAtKing_149, x_X1_lookAtKing_150, x_X1_lookAtKing_153, x_X1_lookAtKing_154, x_X1_lookAtKing_157, x_X1_lookAtKing_158, x_X1_lookAtKing_161, x_X1_lookAtKing_162, x_X1_lookAtKing_163, x_X1_lookAtKing_164, x_X1_lookAtKing_165, x_X1_lookAtKing_168, x_X1_lookAtKing_169, x_X1_lookAtKing_170, x_X1_lookAtKing_173, x_X1_lookAtKing_176, List.length_cons, List.length_nil, Nat.reduceLeDiff, Nat.zero_add, iI_add, iI_sub, iI_mul, iI_neg, iI_lt, iI_le, iI_eq, jI_iI, B_True, B_False, B_t, B_f, ck_True, gd_True, cb_v, cb_n, p_mv_rw, p_fv_rw, p_rv_some, pA_1, pA_90, pA_92, pA_3, pA_5, pA_93, pA_4, pA_91, pA_6, pS_i, pB_i, pW_i, pZ_0, pZ_1, pZ_b, bI_e0, u1_s, u1_n, uA_s, uA_n, true_and, and_true, not_true_eq_false, not_false_eq_true, eq_self, iI_z, al1, al5, al3, al4, al90, al91, al92, al93, al6, Int.cast_ofNat_Int, Nat.reduceAdd, Int.reduceNeg, Int.reduceAdd, Int.reduceSub, Int.reduceMul, Int.reduceLT, Int.reduceLE, Int.reduceGT, Int.reduceGE, Int.reduceEq, Int.reduceNe, Nat.reduceEqDiff, Int.zero_add, Int.add_zero, p_ty0, p_ty1, p_ty2, p_ty3, p_ty4, p_ty5, p_ty8, p_ty9, p_ty10, t0, f0, t6, f11, hb0, m1, p_mv_ro, c_ft hB hv, hsh, c_on hB, c_side, c_kind, c_goes0, bI_f y3, B_t, B_f, gd_t]
            exact e3 e he
          · simp (disch := omega) only [x_X1_lookAtKing_46, x_X1_lookAtKing_49, x_X1_lookAtKing_50, x_X1_lookAtKing_53, x_X1_lookAtKing_54, x_X1_lookAtKing_57, x_X1_lookAtKing_58, x_X1_lookAtKing_61, x_X1_lookAtKing_62, x_X1_lookAtKing_63, x_X1_lookAtKing_66, x_X1_lookAtKing_67, x_X1_lookAtKing_68, x_X1_lookAtKing_71, x_X1_lookAtKing_72, x_X1_lookAtKing_75, x_X1_lookAtKing_76, x_X1_lookAtKing_79, x_X1_lookAtKing_80, x_X1_lookAtKing_81, x_X1_lookAtKing_84, x_X1_lookAtKing_87, x_X1_lookAtKing_89, x_X1_lookAtKing_90, x_X1_lookAtKing_93, x_X1_lookAtKing_94, x_X1_lookAtKing_97, x_X1_lookAtKing_100, x_X1_lookAtKing_101, x_X1_lookAtKing_104, x_X1_lookAtKing_107, x_X1_lookAtKing_109, x_X1_lookAtKing_112, x_X1_lookAtKing_113, x_X1_lookAtKing_114, x_X1_lookAtKing_117, x_X1_lookAtKing_118, x_X1_lookAtKing_121, x_X1_lookAtKing_123, x_X1_lookAtKing_126, x_X1_lookAtKing_127, x_X1_lookAtKing_128, x_X1_lookAtKing_131, x_X1_lookAtKing_134, x_X1_lookAtKing_135, x_X1_lookAtKing_138, x_X1_lookAtKing_141, x_X1_lookAtKing_142, x_X1_lookAtKing_145, x_X1_lookAtKing_146, x_X1_lookAtKing_149, x_X1_lookAtKing_150, x_X1_lookAtKing_153, x_X1_lookAtKing_154, x_X1_lookAtKing_157, x_X1_lookAtKing_158, x_X1_lookAtKing_161, x_X1_lookAtKing_162, x_X1_lookAtKing_163, x_X1_lookAtKing_164, x_X1_lookAtKing_165, x_X1_lookAtKing_168, x_X1_lookAtKing_169, x_X1_lookAtKing_170, x_X1_lookAtKing_173, x_X1_lookAtKing_176, List.length_cons, List.length_nil, Nat.reduceLeDiff, Nat.zero_add, iI_add, iI_sub, iI_mul, iI_neg, iI_lt, iI_le, iI_eq, jI_iI, B_True, B_False, B_t, B_f, ck_True, gd_True, cb_v, cb_n, p_mv_rw, p_fv_rw, p_rv_some, pA_1, pA_90, pA_92, pA_3, pA_5, pA_93, pA_4, pA_91, pA_6, pS_i, pB_i, pW_i, pZ_0, pZ_1, pZ_b, bI_e0, u1_s, u1_n, uA_s, uA_n, true_and, and_true, not_true_eq_false, not_false_eq_true, eq_self, iI_z, al1, al5, al3, al4, al90, al91, al92, al93, al6, Int.cast_ofNat_Int, Nat.reduceAdd, Int.reduceNeg, Int.reduceAdd, Int.reduceSub, Int.reduceMul, Int.reduceLT, Int.reduceLE, Int.reduceGT, Int.reduceGE, Int.reduceEq, Int.reduceNe, Nat.reduceEqDiff, Int.zero_add, Int.add_zero, p_ty0, p_ty1, p_ty2, p_ty3, p_ty4, p_ty5, p_ty8, p_ty9, p_ty10, t0, f0, t6, f11, hb0, m1, p_mv_ro, c_ft hB hv, hsh, c_on hB, c_side, c_kind, c_goes0, B_t, B_f, gd_t]
            exact e3 e he
        · simp (disch := omega) only [x_X1_lookAtKing_46, x_X1_lookAtKing_49, x_X1_lookAtKing_50, x_X1_lookAtKing_53, x_X1_lookAtKing_54, x_X1_lookAtKing_57, x_X1_lookAtKing_58, x_X1_lookAtKing_61, x_X1_lookAtKing_62, x_X1_lookAtKing_63, x_X1_lookAtKing_66, x_X1_lookAtKing_67, x_X1_lookAtKing_68, x_X1_lookAtKing_71, x_X1_lookAtKing_72, x_X1_lookAtKing_75, x_X1_lookAtKing_76, x_X1_lookAtKing_79, x_X1_lookAtKing_80, x_X1_lookAtKing_81, x_X1_lookAtKing_84, x_X1_lookAtKing_87, x_X1_lookAtKing_89, x_X1_lookAtKing_90, x_X1_lookAtKing_93, x_X1_lookAtKing_94, x_X1_lookAtKing_97, x_X1_lookAtKing_100, x_X1_lookAtKing_101, x_X1_lookAtKing_104, x_X1_lookAtKing_107, x_X1_lookAtKing_109, x_X1_lookAtKing_112, x_X1_lookAtKing_113, x_X1_lookAtKing_114, x_X1_lookAtKing_117, x_X1_lookAtKing_118, x_X1_lookAtKing_121, x_X1_lookAtKing_123, x_X1_lookAtKing_126, x_X1_lookAtKing_127, x_X1_lookAtKing_128, x_X1_lookAtKing_131, x_X1_lookAtKing_134, x_X1_lookAtKing_135, x_X1_lookAtKing_138, x_X1_lookAtKing_141, x_X1_lookAtKing_142, x_X1_lookAtKing_145, x_X1_lookAtKing_146, x_X1_lookAtKing_149, x_X1_lookAtKing_150, x_X1_lookAtKing_153, x_X1_lookAtKing_154, x_X1_lookAtKing_157, x_X1_lookAtKing_158, x_X1_lookAtKing_161, x_X1_lookAtKing_162, x_X1_lookAtKing_163, x_X1_lookAtKing_164, x_X1_lookAtKing_165, x_X1_lookAtKing_168, x_X1_lookAtKing_169, x_X1_lookAtKing_170, x_X1_lookAtKing_173, x_X1_lookAtKing_176, List.length_cons, List.length_nil, Nat.reduceLeDiff, Nat.zero_add, iI_add, iI_sub, iI_mul, iI_neg, iI_lt, iI_le, iI_eq, jI_iI, B_True, B_False, B_t, B_f, ck_True, gd_True, cb_v, cb_n, p_mv_rw, p_fv_rw, p_rv_some, pA_1, pA_90, pA_92, pA_3, pA_5, pA_93, pA_4, pA_91, pA_6, pS_i, pB_i, pW_i, pZ_0, pZ_1, pZ_b, bI_e0, u1_s, u1_n, uA_s, uA_n, true_and, and_true, not_true_eq_false, not_false_eq_true, eq_self, iI_z, al1, al5, al3, al4, al90, al91, al92, al93, al6, Int.cast_ofNat_Int, Nat.reduceAdd, Int.reduceNeg, Int.reduceAdd, Int.reduceSub, Int.reduceMul, Int.reduceLT, Int.reduceLE, Int.reduceGT, Int.reduceGE, Int.reduceEq, Int.reduceNe, Nat.reduceEqDiff, Int.zero_add, Int.add_zero, p_ty0, p_ty1, p_ty2, p_ty3, p_ty4, p_ty5, p_ty8, p_ty9, p_ty10, t0, f0, t6, f11, hb0, m1, p_mv_ro, c_ft hB hv, hsh, c_on hB, c_side, c_kind, c_goes0, B_t, B_f, gd_t]
          exact e3 e he
  have z0 : ∀ ch : Int, uA M g (u1 (u1 (M g) 13 ch) 12 0) g = u1 (u1 (M g) 13 ch) 12 0 := fun ch => uA_s
  have kk := fun ch : Int => key 12 0 .unset .unset (uA M g (u1 (u1 (M g) 13 ch) 12 0)) (by omega) (by omega) (fun a a1 a2 => uA_n a1) (fun j j1 j2 => by rw [z0]; unfold u1; rw [if_neg j1, if_neg j2]) (by
    refine ⟨by rw [z0]; show (0 : Int) ≤ 0 ∧ (0 : Int) ≤ 0; omega, fun p => ?_⟩
    rw [z0]
    constructor
    · rintro ⟨j, j0, j1, -⟩
      have j1' : j < 0 := j1
      omega
    · rintro ⟨i, i0, i1, -⟩; omega)
  obtain ⟨M', e3, f1, f2, f3, f4'⟩ := kk (bI (m_chk bb t))
  refine ⟨M', fun d hd => ?_, by rw [f1, z0]; rfl, f2, f3, f4'⟩
  refine callD_go 2 hd rfl (fun e he => ?_)
  show R e m_X1_lookAtKing 0 [.val (.ref g), .unset, .unset, .unset, .unset] [] T M F = _
  have e3 := e3 e he
  by_cases hch : m_chk bb t
  · have hch' := hch
    unfold m_chk at hch'
    rw [hkk] at hch'
    rw [bI_t hch] at e3
    clear key kk hS'
    simp (disch := omega) only [x_X1_lookAtKing_0, x_X1_lookAtKing_1, x_X1_lookAtKing_4, x_X1_lookAtKing_5, x_X1_lookAtKing_8, x_X1_lookAtKing_11, x_X1_lookAtKing_12, x_X1_lookAtKing_13, x_X1_lookAtKing_14, x_X1_lookAtKing_17, x_X1_lookAtKing_18, x_X1_lookAtKing_19, x_X1_lookAtKing_20, x_X1_lookAtKing_23, x_X1_lookAtKing_24, x_X1_lookAtKing_27, x_X1_lookAtKing_30, x_X1_lookAtKing_31, x_X1_lookAtKing_34, x_X1_lookAtKing_35, x_X1_lookAtKing_38, x_X1_lookAtKing_39, x_X1_lookAtKing_40, x_X1_lookAtKing_43, x_X1_lookAtKing_44, List.length_cons, List.length_nil, Nat.reduceLeDiff, Nat.zero_add, iI_add, iI_sub, iI_mul, iI_neg, iI_lt, iI_le, iI_eq, jI_iI, B_True, B_False, B_t, B_f, ck_True, gd_True, cb_v, cb_n, p_mv_rw, p_fv_rw, p_rv_some, pA_1, pA_90, pA_92, pA_3, pA_5, pA_93, pA_4, pA_91, pA_6, pS_i, pB_i, pW_i, pZ_0, pZ_1, pZ_b, bI_e0, u1_s, u1_n, uA_s, uA_n, true_and, and_true, not_true_eq_false, not_false_eq_true, eq_self, iI_z, al1, al5, al3, al4, al90, al91, al92, al93, al6, Int.cast_ofNat_Int, Nat.reduceAdd, Int.reduceNeg, Int.reduceAdd, Int.reduceSub, Int.reduceMul, Int.reduceLT, Int.reduceLE, Int.reduceGT, Int.reduceGE, Int.reduceEq, Int.reduceNe, Nat.reduceEqDiff, Int.zero_add, Int.add_zero, p_ty0, p_ty1, p_ty2, p_ty3, p_ty4, p_ty5, p_ty8, p_ty9, p_ty10, t0, f0, hb0, s1, c_kingR hB hR, hkk, hpp, c_attR hB hR, B_t, B_f, uA_uA, gd_t]
    exact e3
  · have hch' := hch
    unfold m_chk at hch'
    rw [hkk] at hch'
    rw [bI_f hch] at e3
    clear key kk hS'
    simp (disch := omega) only [x_X1_lookAtKing_0, x_X1_lookAtKing_1, x_X1_lookAtKing_4, x_X1_lookAtKing_5, x_X1_lookAtKing_8, x_X1_lookAtKing_11, x_X1_lookAtKing_12, x_X1_lookAtKing_13, x_X1_lookAtKing_14, x_X1_lookAtKing_17, x_X1_lookAtKing_18, x_X1_lookAtKing_19, x_X1_lookAtKing_20, x_X1_lookAtKing_23, x_X1_lookAtKing_24, x_X1_lookAtKing_27, x_X1_lookAtKing_30, x_X1_lookAtKing_31, x_X1_lookAtKing_34, x_X1_lookAtKing_35, x_X1_lookAtKing_38, x_X1_lookAtKing_39, x_X1_lookAtKing_40, x_X1_lookAtKing_43, x_X1_lookAtKing_44, List.length_cons, List.length_nil, Nat.reduceLeDiff, Nat.zero_add, iI_add, iI_sub, iI_mul, iI_neg, iI_lt, iI_le, iI_eq, jI_iI, B_True, B_False, B_t, B_f, ck_True, gd_True, cb_v, cb_n, p_mv_rw, p_fv_rw, p_rv_some, pA_1, pA_90, pA_92, pA_3, pA_5, pA_93, pA_4, pA_91, pA_6, pS_i, pB_i, pW_i, pZ_0, pZ_1, pZ_b, bI_e0, u1_s, u1_n, uA_s, uA_n, true_and, and_true, not_true_eq_false, not_false_eq_true, eq_self, iI_z, al1, al5, al3, al4, al90, al91, al92, al93, al6, Int.cast_ofNat_Int, Nat.reduceAdd, Int.reduceNeg, Int.reduceAdd, Int.reduceSub, Int.reduceMul, Int.reduceLT, Int.reduceLE, Int.reduceGT, Int.reduceGE, Int.reduceEq, Int.reduceNe, Nat.reduceEqDiff, Int.zero_add, Int.add_zero, p_ty0, p_ty1, p_ty2, p_ty3, p_ty4, p_ty5, p_ty8, p_ty9, p_ty10, t0, f0, hb0, s1, c_kingR hB hR, hkk, hpp, c_attR hB hR, B_t, B_f, uA_uA, gd_t]
    exact e3
end PLOOK
