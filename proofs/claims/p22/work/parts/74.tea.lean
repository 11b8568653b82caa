section PTEA
variable {d g G1 G2 : Nat} {T : pT} {M M0 M1 M2 : pM} {F F1 : pF} {bb bs bs1 : Int → Int} {t pas q its to as p z z1 n i c s x er ea k a b st : Int} {S S1 : GSx} {D : Nat} {m : pC} {v : List Value}
theorem read_run (hb : ∀ p, 0 ≤ p → 0 ≤ t_bk bs z 2000 (t_end bs z p)) : ∀ (n : Nat) (st p : Int) (Q : List TKn), 0 ≤ p → ∃ R0, (t_read bs z n st p Q).1 = Q ++ R0 ∧ ((t_read bs z n st p Q).2 = -1 → g_run st R0 = 0)
  | 0, st, p, Q, hp => ⟨[], by rw [t_read, List.append_nil], fun h => by
      rw [t_read] at h
      have h : (if z ≤ p ∧ st = 0 then -1 else p) = -1 := h
      rw [g_run]
      split at h
      · rename_i c; exact c.2
      · omega⟩
  | n + 1, st, p, Q, hp => by
    rw [t_read]
    by_cases c1 : p < z
    · rw [if_pos c1]
      by_cases c2 : g_b st (t_kd bs z p (t_end bs z p)) = 10
      · rw [if_pos c2]
        exact ⟨[], (List.append_nil _).symm, fun h => by have h : p = -1 := h; omega⟩
      · rw [if_neg c2]
        obtain ⟨R0, e1, e2⟩ := read_run hb n (g_b st (t_kd bs z p (t_end bs z p))) (t_bk bs z 2000 (t_end bs z p)) (Q ++ [(p, t_kd bs z p (t_end bs z p), t_cs bs z p (t_end bs z p))]) (hb p hp)
        refine ⟨(p, t_kd bs z p (t_end bs z p), t_cs bs z p (t_end bs z p)) :: R0, by rw [e1, List.append_assoc]; rfl, fun h => ?_⟩
        rw [g_run]
        show (if g_b st (t_kd bs z p (t_end bs z p)) = 10 then 10 else _) = 0
        rw [if_neg c2]
        exact e2 h
    · rw [if_neg c1]
      exact ⟨[], (List.append_nil _).symm, fun h => by
        have h : (if z ≤ p ∧ st = 0 then -1 else p) = -1 := h
        rw [g_run]
        split at h
        · rename_i c; exact c.2
        · omega⟩
theorem t_end_nn (h : 0 ≤ p) : 0 ≤ t_bk bs z 2000 (t_end bs z p) := by
  have h1 := t_bk_rg 2000 (t_end bs z p) (bs := bs) (z := z)
  have h2 : 0 ≤ t_end bs z p := by
    unfold t_end
    split
    · have := t_tk_rg 2000 (p + 1) (bs := bs) (z := z); omega
    · omega
  omega
noncomputable def z_tok (bs : Int → Int) (z : Int) : List TKn × Int := t_read bs z 400 0 (t_bk bs z 2000 0) []
theorem z_tok_run (h : (z_tok bs z).2 = -1) : g_run 0 (z_tok bs z).1 = 0 := by
  have h1 := t_bk_rg 2000 0 (bs := bs) (z := z)
  obtain ⟨R0, e1, e2⟩ := read_run (bs := bs) (z := z) (fun p hp => t_end_nn hp) 400 0 (t_bk bs z 2000 0) [] (by omega)
  unfold z_tok at h ⊢
  rw [e1, List.nil_append]
  exact e2 h
def z_new : GSx := (fun _ => 0, 0, -1, 0, [])
/-- teaching: the error, its place, the game behind it -/
noncomputable def z_tea (S : GSx) (bs : Int → Int) (z : Int) : Int × Int × GSx :=
  if (z_tok bs z).2 ≠ -1 then (1, (z_tok bs z).2, S) else if (d_run (z_tok bs z).1 z_new).1 = 0 then (0, -1, (d_run (z_tok bs z).1 z_new).2.2) else ((d_run (z_tok bs z).1 z_new).1, (d_run (z_tok bs z).1 z_new).2.1, S)
theorem pos_rg (hz : 0 ≤ z ∧ z ≤ 2000) : ∀ (n : Nat) (st p : Int) (Q : List TKn), 0 ≤ p → p ≤ z → -1 ≤ (t_read bs z n st p Q).2 ∧ (t_read bs z n st p Q).2 ≤ 2000
  | 0, st, p, Q, hp, hp2 => by
    rw [t_read]
    show -1 ≤ (if z ≤ p ∧ st = 0 then -1 else p) ∧ (if z ≤ p ∧ st = 0 then -1 else p) ≤ 2000
    split <;> omega
  | n + 1, st, p, Q, hp, hp2 => by
    rw [t_read]
    by_cases c1 : p < z
    · rw [if_pos c1]
      by_cases c2 : g_b st (t_kd bs z p (t_end bs z p)) = 10
      · rw [if_pos c2]; exact ⟨by show -1 ≤ p; omega, by show p ≤ 2000; omega⟩
      · rw [if_neg c2]
        have hE := t_end_rg (bs := bs) (p := p) (z := z) (by omega)
        exact pos_rg hz n _ _ _ (t_end_nn hp) (t_bk_z 2000 _ hE.2)
    · rw [if_neg c1]
      show -1 ≤ (if z ≤ p ∧ st = 0 then -1 else p) ∧ (if z ≤ p ∧ st = 0 then -1 else p) ≤ 2000
      split <;> omega
theorem d_put_pos {L : List TKn} (h : ∀ x ∈ L, TKok x) : -1 ≤ (d_put L S).2.1 ∧ (d_put L S).2.1 ≤ 2000 := by
  have h0 := (tk_ok (j := 0) h).1
  have h1 := (tk_ok (j := 1) h).1
  have h2 := (tk_ok (j := 2) h).1
  unfold d_put
  repeat' split
  · exact ⟨by show -1 ≤ (L.getD 0 tk0).1; omega, by show (L.getD 0 tk0).1 ≤ 2000; omega⟩
  · exact ⟨by show -1 ≤ (L.getD 1 tk0).1; omega, by show (L.getD 1 tk0).1 ≤ 2000; omega⟩
  · exact ⟨by show -1 ≤ (L.getD 2 tk0).1; omega, by show (L.getD 2 tk0).1 ≤ 2000; omega⟩
  · exact ⟨by show -1 ≤ (L.getD 2 tk0).1; omega, by show (L.getD 2 tk0).1 ≤ 2000; omega⟩
  · exact ⟨by show (-1 : Int) ≤ -1; omega, by show (-1 : Int) ≤ 2000; omega⟩
theorem d_go_pos {L : List TKn} {y : TKn} (hy : TKok y) (h : ∀ x ∈ L, TKok x) : -1 ≤ (d_go y L S).2.1 ∧ (d_go y L S).2.1 ≤ 2000 := by
  have h0 := (tk_ok (j := 0) h).1
  have h1 := (tk_ok (j := 1) h).1
  have h3 := (tk_ok (j := 3) h).1
  have h9 := hy.1
  unfold d_go
  repeat' split
  · exact ⟨by show -1 ≤ y.1; omega, by show y.1 ≤ 2000; omega⟩
  · exact ⟨by show -1 ≤ (L.getD 0 tk0).1; omega, by show (L.getD 0 tk0).1 ≤ 2000; omega⟩
  · exact ⟨by show -1 ≤ (L.getD 0 tk0).1; omega, by show (L.getD 0 tk0).1 ≤ 2000; omega⟩
  · exact ⟨by show -1 ≤ (L.getD 1 tk0).1; omega, by show (L.getD 1 tk0).1 ≤ 2000; omega⟩
  · exact ⟨by show -1 ≤ (L.getD 1 tk0).1; omega, by show (L.getD 1 tk0).1 ≤ 2000; omega⟩
  · exact ⟨by show -1 ≤ (L.getD 3 tk0).1; omega, by show (L.getD 3 tk0).1 ≤ 2000; omega⟩
  all_goals exact ⟨by show (-1 : Int) ≤ -1; omega, by show (-1 : Int) ≤ 2000; omega⟩
theorem d_run_pos : ∀ (L : List TKn) (S : GSx), (∀ x ∈ L, TKok x) → -1 ≤ (d_run L S).2.1 ∧ (d_run L S).2.1 ≤ 2000
  | [], S, _ => ⟨by show (-1 : Int) ≤ -1; omega, by show (-1 : Int) ≤ 2000; omega⟩
  | y :: L, S, h => by
    have hL : ∀ x ∈ L, TKok x := fun x hx => h x (List.mem_cons_of_mem _ hx)
    rw [d_run]
    by_cases c0 : y.2.1 = 0
    · rw [if_pos c0]; exact d_run_pos L _ hL
    rw [if_neg c0]
    by_cases c1 : y.2.1 = 1
    · rw [if_pos c1]
      by_cases c : (d_put L S).1 = 0
      · rw [if_pos c]; exact d_run_pos L _ hL
      · rw [if_neg c]; exact d_put_pos hL
    rw [if_neg c1]
    by_cases c2 : y.2.1 = 2
    · rw [if_pos c2]; exact d_run_pos L _ hL
    rw [if_neg c2]
    by_cases c3 : y.2.1 = 3
    · rw [if_pos c3]
      by_cases c : (d_go y L S).1 = 0
      · rw [if_pos c]; exact d_run_pos L _ hL
      · rw [if_neg c]; exact d_go_pos (h y List.mem_cons_self) hL
    rw [if_neg c3]
    exact d_run_pos L _ hL
theorem x_teach (hW : CW T M F S ea bs z) : ∃ M' F', (∀ d, 10 ≤ d → callD d m_X7_teach [.ref 100] T M F = some (.inl (some (.int (iI (z_tea S bs z).1))), T, M', F')) ∧ CW T M' F' (z_tea S bs z).2.2 (z_tea S bs z).2.1 bs 0 ∧ FX M M' F F' ∧ ((z_tea S bs z).1 = 0 → (z_tea S bs z).2.2.2.2.2.2.length ≤ 100) ∧ (0 ≤ (z_tea S bs z).1 ∧ (z_tea S bs z).1 ≤ 5) := by
  obtain ⟨G1, G2, hT, hS⟩ := hW
  obtain ⟨x0, ⟨x1, x2, x3, x4, x5, x6⟩, xt, xr, xc, xw, xg, xg2, hg⟩ := id hT
  obtain ⟨s1, s2, s3, s4, s5⟩ := hS
  obtain ⟨M1, F1, r1, R1, Q1, m1, f1⟩ := c_readT xt (r := 103) (by omega) s3 xr
  have hgt : ∀ g, 113 ≤ g → GT T F g → GT T F1 g := by
    intro g hg0 h
    obtain ⟨h1, h2, h3, h4, h5, h6, h7, h8, h9, h10, h11, h12⟩ := h
    refine ⟨h1, h2, by rw [f1 g (by omega)]; exact h3, ⟨h4.1, h4.2.1, h4.2.2.1, by rw [f1 (g + 1) (by omega)]; exact h4.2.2.2⟩, h5, by rw [f1 g (by omega)]; exact h6, h7, by rw [f1 g (by omega)]; exact h8, h9, by rw [f1 g (by omega)]; exact h10, h11, by rw [f1 g (by omega)]; exact h12⟩
  have hG1 := hgt G1 (by omega) xg
  have hG2 := hgt G2 (by omega) xg2
  have hTT1 : TT T F1 101 := ⟨xt.1, xt.2.1, by rw [f1 101 (by omega)]; exact xt.2.2.1, xt.2.2.2⟩
  have hWT1 : WT T F1 108 := by
    obtain ⟨h1, h2, h3, h4, h5, h6, h7, h8⟩ := xw
    exact ⟨h1, h2, by rw [f1 108 (by omega)]; exact h3, ⟨h4.1, h4.2.1, h4.2.2.1, by rw [f1 (108 + 1) (by omega)]; exact h4.2.2.2⟩, h5, by rw [f1 108 (by omega)]; exact h6, h7, by rw [f1 108 (by omega)]; exact h8⟩
  have e100 := f1 100 (by omega)
  have xF : F1 100 0 = some 101 ∧ F1 100 1 = some 103 ∧ F1 100 2 = some 107 ∧ F1 100 3 = some 108 ∧ F1 100 4 = some G1 ∧ F1 100 5 = some G2 := by rw [e100]; exact ⟨x1, x2, x3, x4, x5, x6⟩
  have hT1 : XT T F1 G1 G2 := ⟨x0, xF, hTT1, R1, xc, hWT1, hG1, hG2, hg⟩
  have A1 : GAx M1 G1 S := s1.fr (fun a a1 a2 => m1 a (by omega) (by omega) (by omega))
  have B1 : BV (M1 (G2 + 1 + 1)) := by rw [m1 (G2 + 1 + 1) (by omega) (by omega) (by omega)]; exact s2
  have T1 : TS M1 101 bs z := s3.fr (m1 _ (by omega) (by omega) (by omega)) (m1 _ (by omega) (by omega) (by omega))
  have W1 : RB M1 109 (fun _ => 0) := by unfold RB at *; rw [m1 109 (by omega) (by omega) (by omega), m1 (109 + 1) (by omega) (by omega) (by omega)]; exact s5
  have hz := s3.2.2.1
  have hbk := t_bk_rg 2000 0 (bs := bs) (z := z)
  have hbz := t_bk_z 2000 0 (bs := bs) (z := z) hz.1
  have hpr := pos_rg (bs := bs) hz 400 0 (t_bk bs z 2000 0) [] (by omega) hbz
  have hx0 := x0
  obtain ⟨y1, y2, y3, y4, y5, y6⟩ := xF
  -- the end: the error's place, the tape is cleared
  have fin : ∀ (M3 : pM) (F3 : pF) (er ps : Int) (Ga Gb : Nat) (S' : GSx) (l3 : Slot), XT T F3 Ga Gb → GAx M3 Ga S' → BV (M3 (Gb + 1 + 1)) → TS M3 101 bs z → RB M3 109 (fun _ => 0) → ∃ M4, (∀ e, 9 ≤ e → R e m_X7_teach 80 [.val (.ref 100), .val (.int (iI ps)), .val (.int (iI er)), l3] [] T M3 F3 = some (.inl (some (.int (iI er))), T, M4, F3)) ∧ (-1 ≤ ps ∧ ps ≤ 2000 → CW T M4 F3 S' ps bs 0) ∧ ∀ a, 127 ≤ a → M4 a = M3 a := by
    intro M3 F3 er ps Ga Gb S' l3 hT3 hA3 hB3 hT3' hW3
    obtain ⟨z0, ⟨z1, z2, z3, z4, z5, z6⟩, zt, -, -, -, -, -, zg⟩ := id hT3
    obtain ⟨M3', hM3⟩ : ∃ M3' : pM, M3' = uA M3 100 (u1 (M3 100) 6 (jI (iI ps))) := ⟨_, rfl⟩
    have m3 : ∀ a, a ≠ 100 → M3' a = M3 a := fun a ha => by rw [hM3, uA_n ha]
    obtain ⟨M4, r4, T4, f4⟩ := c_shorten (n := 0) zt (hT3'.fr (m3 _ (by omega)) (m3 _ (by omega))) (by omega)
    have m4 : ∀ a, a ≠ 100 → a ≠ 101 → M4 a = M3 a := fun a a1 a2 => (f4 a a2).trans (m3 a a1)
    refine ⟨M4, fun e he => ?_, fun hps => ⟨Ga, Gb, hT3, hA3.fr (fun a a1 a2 => m4 a (by omega) (by omega)), ?_, T4, ?_, ?_⟩, fun a ha => m4 a (by omega) (by omega)⟩
    · have r4 := r4 e (by omega)
      rw [hM3] at r4
      have tt := zt.2.1
      clear hT3 hA3 hB3 hT3' hW3 m3 T4 f4 m4 hM3 zt r1 hT hT1 xg xg2 xw xr xt xc hG1 hG2 hTT1 hWT1 R1 A1 B1 T1 W1 Q1 m1 f1 hgt s1 s2 s3 s5
      simp (disch := omega) only [x_X7_teach_80, x_X7_teach_81, x_X7_teach_82, x_X7_teach_85, x_X7_teach_86, x_X7_teach_89, x_X7_teach_90, x_X7_teach_93, x_X7_teach_94, List.length_cons, List.length_nil, Nat.reduceLeDiff, Nat.zero_add, iI_add, iI_sub, iI_mul, iI_neg, iI_lt, iI_le, iI_eq, jI_iI, B_True, B_False, B_t, B_f, ck_True, gd_True, cb_v, cb_n, p_mv_rw, p_fv_rw, p_rv_some, pA_1, pA_90, pA_92, pA_3, pA_5, pA_93, pA_4, pA_91, pA_6, pS_i, pB_i, pW_i, pZ_0, pZ_1, pZ_b, bI_e0, u1_s, u1_n, uA_s, uA_n, true_and, and_true, not_true_eq_false, not_false_eq_true, eq_self, iI_z, al1, al5, al3, al4, al90, al91, al92, al93, al6, Int.cast_ofNat_Int, Nat.reduceAdd, Int.reduceNeg, Int.reduceAdd, Int.reduceSub, Int.reduceMul, Int.reduceLT, Int.reduceLE, Int.reduceGT, Int.reduceGE, Int.reduceEq, Int.reduceNe, Nat.reduceEqDiff, Int.zero_add, Int.add_zero, p_ty0, p_ty1, p_ty2, p_ty3, p_ty4, p_ty5, p_ty8, p_ty9, p_ty10, z0, z1, tt, r4, gd_t]
    · rw [m4 (Gb + 1 + 1) (by omega) (by omega)]; exact hB3
    · rw [f4 100 (by omega), hM3, uA_s, u1_s]; exact jI_iI (by omega) (by omega)
    · unfold RB at *; rw [m4 109 (by omega) (by omega), m4 (109 + 1) (by omega) (by omega)]; exact hW3
  have pre : ∀ e, 9 ≤ e → R e m_X7_teach 0 [.val (.ref 100), .unset, .unset, .unset] [] T M F = R e m_X7_teach 12 [.val (.ref 100), .val (.int (iI (z_tok bs z).2)), .unset, .unset] [] T M1 F1 := by
    intro e he
    have r1 := r1 e (by omega)
    have r0 := xr.2.1
    have tt := xt.2.1
    unfold z_tok
    clear fin hT hT1 xg xg2 xw xr xt xc hG1 hG2 hTT1 hWT1 R1 A1 B1 T1 W1 Q1 m1 f1 hgt s1 s2 s3 s5
    simp (disch := omega) only [x_X7_teach_0, x_X7_teach_1, x_X7_teach_4, x_X7_teach_5, x_X7_teach_8, x_X7_teach_11, List.length_cons, List.length_nil, Nat.reduceLeDiff, Nat.zero_add, iI_add, iI_sub, iI_mul, iI_neg, iI_lt, iI_le, iI_eq, jI_iI, B_True, B_False, B_t, B_f, ck_True, gd_True, cb_v, cb_n, p_mv_rw, p_fv_rw, p_rv_some, pA_1, pA_90, pA_92, pA_3, pA_5, pA_93, pA_4, pA_91, pA_6, pS_i, pB_i, pW_i, pZ_0, pZ_1, pZ_b, bI_e0, u1_s, u1_n, uA_s, uA_n, true_and, and_true, not_true_eq_false, not_false_eq_true, eq_self, iI_z, al1, al5, al3, al4, al90, al91, al92, al93, al6, Int.cast_ofNat_Int, Nat.reduceAdd, Int.reduceNeg, Int.reduceAdd, Int.reduceSub, Int.reduceMul, Int.reduceLT, Int.reduceLE, Int.reduceGT, Int.reduceGE, Int.reduceEq, Int.reduceNe, Nat.reduceEqDiff, Int.zero_add, Int.add_zero, p_ty0, p_ty1, p_ty2, p_ty3, p_ty4, p_ty5, p_ty8, p_ty9, p_ty10, x0, x1, x2, r0, r1, gd_t]
  unfold z_tea
  by_cases c1 : (z_tok bs z).2 = -1
  · rw [if_neg (fun q => q c1)]
    have hrun := z_tok_run c1
    obtain ⟨M2, v2, G2s, z5, z8, gf2⟩ := c_gclear (T := T) (F := F1) hG2 B1
    have A2 : GAx M2 G2 z_new := GAx.new G2s z5 z8 p20_0
    have Q2 : RS M2 F1 103 (z_tok bs z).1 := RS.o (g := G2) Q1 (by omega) gf2
    obtain ⟨M3, v3, A3, q3, p3, p3', l3, f3⟩ := c_carry (T := T) (F := F1) (by omega) xc R1 hG2 Q2 A2 rfl hrun
    have m3 : ∀ a, a ≠ 107 → (a < G2 ∨ G2 + 6 < a) → M3 a = M1 a := fun a a1 a2 => (f3 a a1 a2).trans (gf2 a a2)
    have T3 : TS M3 101 bs z := T1.fr (m3 _ (by omega) (by omega)) (m3 _ (by omega) (by omega))
    have W3 : RB M3 109 (fun _ => 0) := by unfold RB at *; rw [m3 109 (by omega) (by omega), m3 (109 + 1) (by omega) (by omega)]; exact W1
    have AA3 : GAx M3 G1 S := A1.fr (fun a a1 a2 => m3 a (by omega) (by omega))
    have mid : ∀ e, 9 ≤ e → ∀ er ps, (d_run (z_tok bs z).1 z_new).1 = er → (if er = 0 then -1 else (d_run (z_tok bs z).1 z_new).2.1) = ps → R e m_X7_teach 12 [.val (.ref 100), .val (.int (iI (z_tok bs z).2)), .unset, .unset] [] T M1 F1 = R e m_X7_teach 58 [.val (.ref 100), .val (.int (iI ps)), .val (.int (iI er)), .unset] [] T M3 F1 := by
      intro e he er ps h1 h2
      have v2 := v2 e (by omega)
      have v3 := v3 e (by omega)
      rw [h1] at v3
      have d0 := hG2.2.1
      have r0 := R1.2.1
      rw [c1]
      have g1 := hG2.1
      by_cases c2 : er = 0
      · rw [if_pos c2] at h2
        have p4 : M3 107 0 = -1 := p3.trans (p3' (h1.trans c2))
        rw [← h2]
        clear fin pre hT hT1 xg xg2 xw xr xt hG1 hG2 hTT1 hWT1 R1 A1 B1 T1 W1 Q1 m1 f1 hgt s1 s2 s3 s5 A2 Q2 A3 f3 m3 T3 W3 AA3 gf2 G2s hrun h1 h2
        rw [c2] at v3 ⊢
        simp (disch := omega) only [x_X7_teach_12, x_X7_teach_13, x_X7_teach_14, x_X7_teach_17, x_X7_teach_18, x_X7_teach_21, x_X7_teach_22, x_X7_teach_23, x_X7_teach_24, x_X7_teach_27, x_X7_teach_28, x_X7_teach_31, x_X7_teach_34, x_X7_teach_35, x_X7_teach_38, x_X7_teach_39, x_X7_teach_42, x_X7_teach_43, x_X7_teach_46, x_X7_teach_49, x_X7_teach_50, x_X7_teach_51, x_X7_teach_54, x_X7_teach_57, List.length_cons, List.length_nil, Nat.reduceLeDiff, Nat.zero_add, iI_add, iI_sub, iI_mul, iI_neg, iI_lt, iI_le, iI_eq, jI_iI, B_True, B_False, B_t, B_f, ck_True, gd_True, cb_v, cb_n, p_mv_rw, p_fv_rw, p_rv_some, pA_1, pA_90, pA_92, pA_3, pA_5, pA_93, pA_4, pA_91, pA_6, pS_i, pB_i, pW_i, pZ_0, pZ_1, pZ_b, bI_e0, u1_s, u1_n, uA_s, uA_n, true_and, and_true, not_true_eq_false, not_false_eq_true, eq_self, iI_z, al1, al5, al3, al4, al90, al91, al92, al93, al6, Int.cast_ofNat_Int, Nat.reduceAdd, Int.reduceNeg, Int.reduceAdd, Int.reduceSub, Int.reduceMul, Int.reduceLT, Int.reduceLE, Int.reduceGT, Int.reduceGE, Int.reduceEq, Int.reduceNe, Nat.reduceEqDiff, Int.zero_add, Int.add_zero, p_ty0, p_ty1, p_ty2, p_ty3, p_ty4, p_ty5, p_ty8, p_ty9, p_ty10, x0, y1, y2, y3, y6, d0, r0, xc, v2, v3, p4, gd_t, B_t, B_f]
      · rw [if_neg c2, ← p3] at h2
        rw [← h2]
        have q3 := q3
        rw [h1] at q3
        clear fin pre hT hT1 xg xg2 xw xr xt hG1 hG2 hTT1 hWT1 R1 A1 B1 T1 W1 Q1 m1 f1 hgt s1 s2 s3 s5 A2 Q2 A3 f3 m3 T3 W3 AA3 gf2 G2s hrun h1 h2
        simp (disch := omega) only [x_X7_teach_12, x_X7_teach_13, x_X7_teach_14, x_X7_teach_17, x_X7_teach_18, x_X7_teach_21, x_X7_teach_22, x_X7_teach_23, x_X7_teach_24, x_X7_teach_27, x_X7_teach_28, x_X7_teach_31, x_X7_teach_34, x_X7_teach_35, x_X7_teach_38, x_X7_teach_39, x_X7_teach_42, x_X7_teach_43, x_X7_teach_46, x_X7_teach_49, x_X7_teach_50, x_X7_teach_51, x_X7_teach_54, x_X7_teach_57, List.length_cons, List.length_nil, Nat.reduceLeDiff, Nat.zero_add, iI_add, iI_sub, iI_mul, iI_neg, iI_lt, iI_le, iI_eq, jI_iI, B_True, B_False, B_t, B_f, ck_True, gd_True, cb_v, cb_n, p_mv_rw, p_fv_rw, p_rv_some, pA_1, pA_90, pA_92, pA_3, pA_5, pA_93, pA_4, pA_91, pA_6, pS_i, pB_i, pW_i, pZ_0, pZ_1, pZ_b, bI_e0, u1_s, u1_n, uA_s, uA_n, true_and, and_true, not_true_eq_false, not_false_eq_true, eq_self, iI_z, al1, al5, al3, al4, al90, al91, al92, al93, al6, Int.cast_ofNat_Int, Nat.reduceAdd, Int.reduceNeg, Int.reduceAdd, Int.reduceSub, Int.reduceMul, Int.reduceLT, Int.reduceLE, Int.reduceGT, Int.reduceGE, Int.reduceEq, Int.reduceNe, Nat.reduceEqDiff, Int.zero_add, Int.add_zero, p_ty0, p_ty1, p_ty2, p_ty3, p_ty4, p_ty5, p_ty8, p_ty9, p_ty10, x0, y1, y2, y3, y6, d0, r0, xc, v2, v3, gd_t, B_t, B_f]
    by_cases c2 : (d_run (z_tok bs z).1 z_new).1 = 0
    · rw [if_pos c2]
      obtain ⟨F2, hF2⟩ : ∃ F2 : pF, F2 = uA F1 100 (u1 (u1 (F1 100) 4 (some G2)) 5 (some G1)) := ⟨_, rfl⟩
      have f2 : ∀ a, a ≠ 100 → F2 a = F1 a := fun a ha => by rw [hF2, uA_n ha]
      have hgt2 : ∀ g, 113 ≤ g → GT T F1 g → GT T F2 g := by
        intro g hg0 h
        obtain ⟨h1, h2, h3, h4, h5, h6, h7, h8, h9, h10, h11, h12⟩ := h
        refine ⟨h1, h2, by rw [f2 g (by omega)]; exact h3, ⟨h4.1, h4.2.1, h4.2.2.1, by rw [f2 (g + 1) (by omega)]; exact h4.2.2.2⟩, h5, by rw [f2 g (by omega)]; exact h6, h7, by rw [f2 g (by omega)]; exact h8, h9, by rw [f2 g (by omega)]; exact h10, h11, by rw [f2 g (by omega)]; exact h12⟩
      have hT2 : XT T F2 G2 G1 := by
        refine ⟨x0, ?_, ⟨hTT1.1, hTT1.2.1, by rw [f2 101 (by omega)]; exact hTT1.2.2.1, hTT1.2.2.2⟩, ?_, xc, ?_, hgt2 G2 (by omega) hG2, hgt2 G1 (by omega) hG1, by omega⟩
        · rw [hF2, uA_s]
          exact ⟨y1, y2, y3, y4, rfl, rfl⟩
        · obtain ⟨h1, h2, h3, h4, h5, h6, h7, h8⟩ := R1
          exact ⟨h1, h2, by rw [f2 103 (by omega)]; exact h3, by rw [f2 103 (by omega)]; exact h4, by rw [f2 103 (by omega)]; exact h5, h6, h7, h8⟩
        · obtain ⟨h1, h2, h3, h4, h5, h6, h7, h8⟩ := hWT1
          exact ⟨h1, h2, by rw [f2 108 (by omega)]; exact h3, ⟨h4.1, h4.2.1, h4.2.2.1, by rw [f2 (108 + 1) (by omega)]; exact h4.2.2.2⟩, h5, by rw [f2 108 (by omega)]; exact h6, h7, by rw [f2 108 (by omega)]; exact h8⟩
      obtain ⟨M4, v4, W4, f4⟩ := fin M3 F2 0 (-1) G2 G1 (d_run (z_tok bs z).1 z_new).2.2 (.val (.ref G1)) hT2 A3 AA3.gs.1.1 T3 W3
      refine ⟨M4, F2, fun d hd => ?_, W4 (by omega), fun a ha => ⟨(f4 a ha).trans ((m3 a (by omega) (by omega)).trans (m1 a (by omega) (by omega) (by omega))), (f2 a (by omega)).trans (f1 a (by omega))⟩, fun _ => l3, ⟨Int.le_refl _, by show (0 : Int) ≤ 5; omega⟩⟩
      refine callD_go 9 hd rfl (fun e he => ?_)
      show R e m_X7_teach 0 [.val (.ref 100), .unset, .unset, .unset] [] T M F = _
      rw [pre e he, mid e he 0 (-1) c2 (if_pos rfl), ← v4 e he, hF2]
      have d0 := hG2.2.1
      have d1 := hG1.2.1
      clear fin pre mid hT hT1 xg xg2 xw xr xt hG1 hG2 hTT1 hWT1 R1 A1 B1 T1 W1 Q1 m1 f1 hgt s1 s2 s3 s5 A2 Q2 A3 f3 m3 T3 W3 AA3 gf2 G2s hrun v4 W4 f4 hT2 hgt2 f2 hF2
      simp (disch := omega) only [x_X7_teach_58, x_X7_teach_59, x_X7_teach_62, x_X7_teach_63, x_X7_teach_66, x_X7_teach_67, x_X7_teach_68, x_X7_teach_69, x_X7_teach_72, x_X7_teach_75, x_X7_teach_76, x_X7_teach_77, List.length_cons, List.length_nil, Nat.reduceLeDiff, Nat.zero_add, iI_add, iI_sub, iI_mul, iI_neg, iI_lt, iI_le, iI_eq, jI_iI, B_True, B_False, B_t, B_f, ck_True, gd_True, cb_v, cb_n, p_mv_rw, p_fv_rw, p_rv_some, pA_1, pA_90, pA_92, pA_3, pA_5, pA_93, pA_4, pA_91, pA_6, pS_i, pB_i, pW_i, pZ_0, pZ_1, pZ_b, bI_e0, u1_s, u1_n, uA_s, uA_n, true_and, and_true, not_true_eq_false, not_false_eq_true, eq_self, iI_z, al1, al5, al3, al4, al90, al91, al92, al93, al6, Int.cast_ofNat_Int, Nat.reduceAdd, Int.reduceNeg, Int.reduceAdd, Int.reduceSub, Int.reduceMul, Int.reduceLT, Int.reduceLE, Int.reduceGT, Int.reduceGE, Int.reduceEq, Int.reduceNe, Nat.reduceEqDiff, Int.zero_add, Int.add_zero, p_ty0, p_ty1, p_ty2, p_ty3, p_ty4, p_ty5, p_ty8, p_ty9, p_ty10, x0, y5, y6, d0, d1, uA_uA, gd_t, B_t, B_f]
    · rw [if_neg c2]
      obtain ⟨M4, v4, W4, f4⟩ := fin M3 F1 (d_run (z_tok bs z).1 z_new).1 (d_run (z_tok bs z).1 z_new).2.1 G1 G2 S .unset hT1 AA3 A3.gs.1.1 T3 W3
      refine ⟨M4, F1, fun d hd => ?_, W4 ?_, fun a ha => ⟨(f4 a ha).trans ((m3 a (by omega) (by omega)).trans (m1 a (by omega) (by omega) (by omega))), f1 a (by omega)⟩, fun q => absurd q c2, q3⟩
      · refine callD_go 9 hd rfl (fun e he => ?_)
        show R e m_X7_teach 0 [.val (.ref 100), .unset, .unset, .unset] [] T M F = _
        rw [pre e he, mid e he _ _ rfl (if_neg c2)]
        show _ = (some (.inl (some (.int (iI (d_run (z_tok bs z).1 z_new).1))), T, M4, F1) : Option pR)
        rw [← v4 e he]
        clear fin pre mid hT hT1 xg xg2 xw xr xt hG1 hG2 hTT1 hWT1 R1 A1 B1 T1 W1 Q1 m1 f1 hgt s1 s2 s3 s5 A2 Q2 A3 f3 m3 T3 W3 AA3 gf2 G2s hrun v4 W4 f4
        simp (disch := omega) only [x_X7_teach_58, x_X7_teach_59, List.length_cons, List.length_nil, Nat.reduceLeDiff, Nat.zero_add, iI_add, iI_sub, iI_mul, iI_neg, iI_lt, iI_le, iI_eq, jI_iI, B_True, B_False, B_t, B_f, ck_True, gd_True, cb_v, cb_n, p_mv_rw, p_fv_rw, p_rv_some, pA_1, pA_90, pA_92, pA_3, pA_5, pA_93, pA_4, pA_91, pA_6, pS_i, pB_i, pW_i, pZ_0, pZ_1, pZ_b, bI_e0, u1_s, u1_n, uA_s, uA_n, true_and, and_true, not_true_eq_false, not_false_eq_true, eq_self, iI_z, al1, al5, al3, al4, al90, al91, al92, al93, al6, Int.cast_ofNat_Int, Nat.reduceAdd, Int.reduceNeg, Int.reduceAdd, Int.reduceSub, Int.reduceMul, Int.reduceLT, Int.reduceLE, Int.reduceGT, Int.reduceGE, Int.reduceEq, Int.reduceNe, Nat.reduceEqDiff, Int.zero_add, Int.add_zero, p_ty0, p_ty1, p_ty2, p_ty3, p_ty4, p_ty5, p_ty8, p_ty9, p_ty10, B_t, B_f]
      · exact d_run_pos _ _ Q1.2.2.1
  · rw [if_pos c1]
    obtain ⟨M4, v4, W4, f4⟩ := fin M1 F1 1 (z_tok bs z).2 G1 G2 S .unset hT1 A1 B1 T1 W1
    refine ⟨M4, F1, fun d hd => ?_, W4 hpr, fun a ha => ⟨(f4 a ha).trans (m1 a (by omega) (by omega) (by omega)), f1 a (by omega)⟩, fun q => absurd q (by show ¬ (1 : Int) = 0; decide), ⟨by show (0 : Int) ≤ 1; omega, by show (1 : Int) ≤ 5; omega⟩⟩
    refine callD_go 9 hd rfl (fun e he => ?_)
    show R e m_X7_teach 0 [.val (.ref 100), .unset, .unset, .unset] [] T M F = _
    rw [pre e he]
    show _ = (some (.inl (some (.int (iI 1))), T, M4, F1) : Option pR)
    rw [← v4 e he]
    have hpr : -1 ≤ (z_tok bs z).2 ∧ (z_tok bs z).2 ≤ 2000 := hpr
    clear fin pre hT hT1 xg xg2 xw xr xt hG1 hG2 hTT1 hWT1 R1 A1 B1 T1 W1 Q1 m1 f1 hgt s1 s2 s3 s5 v4 W4 f4
    simp (disch := omega) only [x_X7_teach_12, x_X7_teach_13, x_X7_teach_14, x_X7_teach_17, x_X7_teach_18, x_X7_teach_21, x_X7_teach_22, x_X7_teach_23, x_X7_teach_24, x_X7_teach_58, x_X7_teach_59, List.length_cons, List.length_nil, Nat.reduceLeDiff, Nat.zero_add, iI_add, iI_sub, iI_mul, iI_neg, iI_lt, iI_le, iI_eq, jI_iI, B_True, B_False, B_t, B_f, ck_True, gd_True, cb_v, cb_n, p_mv_rw, p_fv_rw, p_rv_some, pA_1, pA_90, pA_92, pA_3, pA_5, pA_93, pA_4, pA_91, pA_6, pS_i, pB_i, pW_i, pZ_0, pZ_1, pZ_b, bI_e0, u1_s, u1_n, uA_s, uA_n, true_and, and_true, not_true_eq_false, not_false_eq_true, eq_self, iI_z, al1, al5, al3, al4, al90, al91, al92, al93, al6, Int.cast_ofNat_Int, Nat.reduceAdd, Int.reduceNeg, Int.reduceAdd, Int.reduceSub, Int.reduceMul, Int.reduceLT, Int.reduceLE, Int.reduceGT, Int.reduceGE, Int.reduceEq, Int.reduceNe, Nat.reduceEqDiff, Int.zero_add, Int.add_zero, p_ty0, p_ty1, p_ty2, p_ty3, p_ty4, p_ty5, p_ty8, p_ty9, p_ty10, B_t, B_f]
end PTEA
