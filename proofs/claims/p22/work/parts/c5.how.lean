section PHOW
variable {d s b n s1 b1 : Nat} {T : pT} {M : pM} {F : pF} {bb : Int → Int} {k t pas q its to as i c p x y X Y mv side f g u : Int}
/-- what a listing may cost -/
def LBs (n : Nat) (T T' : pT) : Prop := T'.1.1 ≤ T.1.1 + n * 5000 ∧ T'.1.2 ≤ T.1.2 + n * 600000
theorem z_all (h100 : 100 ≤ T.1.1) (hI : SI T F s b) (hs : s < T.1.1) (hb : b < T.1.1) (hS : SM M s b bb t pas q mv) (hPS : PS bb t pas) (h20 : P20 bb) (hl : (lgA bb t pas).length ≤ 840) (hq9 : q ≤ 900) (hm9 : mv ≤ 900) :
    ∃ T' M' F', ∃ r : Nat, (∀ d, 6 ≤ d → callD d m_X8_all [.ref s] T M F = some (.inl (some (.ref r)), T', M', F')) ∧ LBs 1 T T' ∧ IX T.1.1 T M F T' M' F' ∧ AR T' M' r (lgA bb t pas) ∧ T.1.1 ≤ r ∧ r < T'.1.1 := by
  obtain ⟨hB, s1, s2, s3, s4, hst, hp, hq, hmv⟩ := id hS
  have X0 : IX T.1.1 T M F (p_new T 1 0) (uA M T.1.1 (fun _ => 0)) (uA F T.1.1 (fun _ => none)) := ⟨s_mono.new, fun a ha => ⟨uA_n (by omega), uA_n (by omega)⟩⟩
  have tn : p_ty (p_new T 1 0) T.1.1 = (1, 0) := p_ty_nw h100
  have I0 := hI.ix X0 hs hb
  have S0 := hS.eq (X0.2 s hs).1 (X0.2 b hb).1
  have A0 : AR (p_new T 1 0) (uA M T.1.1 (fun _ => 0)) T.1.1 [] := ⟨h100, tn, fun j hj => absurd hj (by simp)⟩
  have pl := fun e (he : 5 ≤ e) => z_isPlayed (d := e) I0 S0 (by omega)
  have i1 := I0.2.1
  have i0 := I0.1
  have y0 : (0 : Int).toNat = 0 := rfl
  by_cases hy : m_ply bb t
  · have hkg : m_king bb t ≠ -1 := by rcases hst with rfl | rfl; exact hy.1; exact hy.2.1
    obtain ⟨T1, M1, F1, r, q1, x1, A1, g1⟩ := z_alO (b0 := T.1.1) h100 hs hb hPS hkg hq9 hm9 91 0 (p_new T 1 0) (uA M T.1.1 (fun _ => 0)) (uA F T.1.1 (fun _ => none)) T.1.1 [] .unset .unset .unset .unset (by rw [p_nn]; omega) I0 S0 A0 ⟨Nat.le_refl _, by rw [p_nn]; omega⟩ (by show 0 + _ ≤ _; omega) (by omega) (by omega)
    rw [List.nil_append] at x1 A1
    have eL : lgA bb t pas = lgL bb t pas 91 0 := by unfold lgA; rw [if_pos hy]
    rw [← eL] at x1 A1
    have hpc : pcn bb t 91 0 ≤ 20 := by
      have := pcn_sm (bb := bb) (t := t) 91 0
      rw [show ((0 : Nat) : Int) = 0 from rfl, show sm (a_pc bb t) 0 = 0 from rfl] at this
      have := h20 t hst
      rw [show 0 + 91 = 91 from rfl] at *
      omega
    have hn : (p_new T 1 0).1.1 = T.1.1 + 1 := p_nn
    have hn2 : (p_new T 1 0).1.2 = T.1.2 + 0 := rfl
    have ht := tri_mono hl
    have ht8 : tri 840 = 353220 := by decide +kernel
    have hc := x1.2.1
    have hc2 := x1.2.2
    have hlb : LBs 1 T T1 := by
      rw [hn] at hc
      rw [hn2, show tri ([] : List Int).length = 0 from rfl] at hc2
      have h0 : ([] : List Int).length = 0 := rfl
      rw [h0] at hc
      constructor
      · omega
      · omega
    refine ⟨T1, M1, F1, r, fun d hd => ?_, hlb, X0.tr x1.1 (Nat.le_refl _), A1, g1⟩
    refine callD_go 5 hd rfl (fun e he => ?_)
    show R e m_X8_all 0 [.val (.ref s), .unset, .unset, .unset, .unset, .unset, .unset] [] T M F = _
    rw [← q1 e he]
    have pl := pl e he
    rw [bI_t hy] at pl
    clear q1 x1 hB hS S0 A1
    simp (disch := omega) only [x_X8_all_0, x_X8_all_1, x_X8_all_3, x_X8_all_4, x_X8_all_5, x_X8_all_8, x_X8_all_11, x_X8_all_12, x_X8_all_13, x_X8_all_14, List.length_cons, List.length_nil, Nat.reduceLeDiff, Nat.zero_add, iI_add, iI_sub, iI_mul, iI_neg, iI_lt, iI_le, iI_eq, jI_iI, B_True, B_False, B_t, B_f, ck_True, gd_True, cb_v, cb_n, p_mv_rw, p_fv_rw, p_rv_some, pA_1, pA_90, pA_92, pA_3, pA_5, pA_93, pA_4, pA_91, pA_6, pS_i, pB_i, pW_i, pZ_0, pZ_1, pZ_b, bI_e0, u1_s, u1_n, uA_s, uA_n, true_and, and_true, not_true_eq_false, not_false_eq_true, eq_self, iI_z, al1, al5, al3, al4, al90, al91, al92, al93, al6, Int.cast_ofNat_Int, Nat.reduceAdd, Int.reduceNeg, Int.reduceAdd, Int.reduceSub, Int.reduceMul, Int.reduceLT, Int.reduceLE, Int.reduceGT, Int.reduceGE, Int.reduceEq, Int.reduceNe, Nat.reduceEqDiff, Int.zero_add, Int.add_zero, p_ty0, p_ty1, p_ty2, p_ty3, p_ty4, p_ty5, p_ty8, p_ty9, p_ty10, pl, i1, i0, y0, gd_t, ck_t, B_t, B_f]
  · have eL : lgA bb t pas = [] := by unfold lgA; rw [if_neg hy]
    rw [eL]
    refine ⟨p_new T 1 0, _, _, T.1.1, fun d hd => ?_, ⟨by rw [p_nn]; omega, Nat.le_add_right T.1.2 _⟩, X0, A0, Nat.le_refl _, Nat.lt_succ_self _⟩
    refine callD_go 5 hd rfl (fun e he => ?_)
    show R e m_X8_all 0 [.val (.ref s), .unset, .unset, .unset, .unset, .unset, .unset] [] T M F = _
    have pl := pl e he
    rw [bI_f hy] at pl
    clear hB hS S0
    simp (disch := omega) only [x_X8_all_0, x_X8_all_1, x_X8_all_3, x_X8_all_4, x_X8_all_5, x_X8_all_8, x_X8_all_11, x_X8_all_12, x_X8_all_13, x_X8_all_14, List.length_cons, List.length_nil, Nat.reduceLeDiff, Nat.zero_add, iI_add, iI_sub, iI_mul, iI_neg, iI_lt, iI_le, iI_eq, jI_iI, B_True, B_False, B_t, B_f, ck_True, gd_True, cb_v, cb_n, p_mv_rw, p_fv_rw, p_rv_some, pA_1, pA_90, pA_92, pA_3, pA_5, pA_93, pA_4, pA_91, pA_6, pS_i, pB_i, pW_i, pZ_0, pZ_1, pZ_b, bI_e0, u1_s, u1_n, uA_s, uA_n, true_and, and_true, not_true_eq_false, not_false_eq_true, eq_self, iI_z, al1, al5, al3, al4, al90, al91, al92, al93, al6, Int.cast_ofNat_Int, Nat.reduceAdd, Int.reduceNeg, Int.reduceAdd, Int.reduceSub, Int.reduceMul, Int.reduceLT, Int.reduceLE, Int.reduceGT, Int.reduceGE, Int.reduceEq, Int.reduceNe, Nat.reduceEqDiff, Int.zero_add, Int.add_zero, p_ty0, p_ty1, p_ty2, p_ty3, p_ty4, p_ty5, p_ty8, p_ty9, p_ty10, pl, i1, i0, tn, y0, gd_t, ck_t, B_t, B_f]
end PHOW
