section PMAT
variable {d : Nat} {T : pT} {M M0 M1 M2 : pM} {F : pF} {b g : Nat} {bb v w : Int → Int} {k s t pas q its to as c x p kc i acc en : Int} {A Z P L Q : List Int} {n : Nat}
/-- does a move mate -/
def mtd (bb : Int → Int) (t pas q its to : Int) : Prop := hw (mk_bb bb pas its to 2) (1 - t) (mk_ps bb its to) (mk_q bb pas q its to) = 2
noncomputable def fmt (bb : Int → Int) (t pas q : Int) : List Int → Int
  | [] => -1
  | x :: L => @ite _ (mtd bb t pas q (x / 91) (x % 91)) (Classical.propDecidable _) x (fmt bb t pas q L)
theorem fm_loop (hG : GT T F g) (hq : q < 60) : ∀ (Q P : List Int) (M : pM), P ++ Q = lgA bb t pas → GKL M g bb t pas q →
    ∃ M', (∀ e l3 l4 l5, 6 ≤ e → R e m_X1_firstMate 7 [.val (.ref g), .val (.int (iI ((lgA bb t pas).length : Int))), .val (.int (iI (P.length : Int))), l3, l4, l5] [] T M F = some (.inl (some (.int (iI (fmt bb t pas q Q)))), T, M', F)) ∧ GKL M' g bb t pas q ∧ FTr M M' g := by
  intro Q
  have t0 := hG.2.1
  have hg := hG.1
  induction Q with
  | nil =>
    intro P M hP h
    refine ⟨M, fun e l3 l4 l5 he => ?_, h, FTr.rf⟩
    have hl := h.len
    rw [List.append_nil] at hP
    rw [fmt, ← hP]
    rw [← hP] at hl
    clear h
    simp (disch := omega) only [x_X1_firstMate_7, x_X1_firstMate_8, x_X1_firstMate_9, x_X1_firstMate_66, x_X1_firstMate_67, List.length_cons, List.length_nil, Nat.reduceLeDiff, Nat.zero_add, iI_add, iI_sub, iI_mul, iI_neg, iI_lt, iI_le, iI_eq, jI_iI, B_True, B_False, B_t, B_f, ck_True, gd_True, cb_v, cb_n, p_mv_rw, p_fv_rw, p_rv_some, pA_1, pA_90, pA_92, pA_3, pA_2, pA_93, pA_4, pA_91, pA_95, pS_i, pW_i, pZ_0, pZ_1, pZ_b, bI_e0, u1_s, u1_n, uA_s, uA_n, true_and, and_true, not_true_eq_false, not_false_eq_true, eq_self, iI_z, al1, al2, al3, al4, al90, al91, al92, al93, al95, Int.cast_ofNat_Int, Nat.reduceAdd, Int.reduceNeg, Int.reduceAdd, Int.reduceSub, Int.reduceMul, Int.reduceLT, Int.reduceLE, Int.reduceGT, Int.reduceGE, Int.reduceEq, Int.reduceNe, Nat.reduceEqDiff, Int.zero_add, Int.add_zero, p_ty0, p_ty1, p_ty2, p_ty3, p_ty4, p_ty5, p_ty6, p_ty7, p_ty8, p_ty9, p_ty10, p_ty11]
  | cons x Q ih =>
    intro P M hP h
    have hl := h.len
    have hPl : P.length + 1 + Q.length = (lgA bb t pas).length := by rw [← hP]; simp; omega
    have hx : (lgA bb t pas).getD P.length 0 = x := by rw [← hP, getD_mid]
    have hm := lgA_at (n := P.length) (bb := bb) (t := t) (pas := pas) (by omega)
    rw [hx] at hm
    have hxr := lgA_rg hm
    obtain ⟨hy, hV, hs⟩ := lg_move hm
    have hb := h.1.1.2.2.1
    have ht := h.1.2.2.2.2.1
    have hq0 := h.1.2.2.2.2.2.1
    obtain ⟨M1, e1, S1, n1, n2⟩ := c_playListed (T := T) (F := F) hG h (n := P.length) (by omega) hx
    have hy' := ply_mk hb ht h.1.PS hy hV (as := 2) (by omega) hs
    have hq1 := mk_q_rg (bb := bb) (pas := pas) (its := x / 91) (to := x % 91) ⟨hq0.1, hq⟩
    have hA : lgA (mk_bb bb pas (x / 91) (x % 91) 2) (1 - t) (mk_ps bb (x / 91) (x % 91)) = lgL (mk_bb bb pas (x / 91) (x % 91) 2) (1 - t) (mk_ps bb (x / 91) (x % 91)) 91 0 := if_pos hy'
    have ht1 := S1.2.2.2.2.1
    have hk : m_king (mk_bb bb pas (x / 91) (x % 91) 2) (1 - t) ≠ -1 := by
      rcases ht1 with z | z
      · rw [z] at hy' ⊢; exact hy'.1
      · rw [z] at hy' ⊢; exact hy'.2.1
    have s1 := S1.2.1
    have hiff : mtd bb t pas q (x / 91) (x % 91) ↔ (m_chk (mk_bb bb pas (x / 91) (x % 91) 2) (1 - t) ∧ (lgL (mk_bb bb pas (x / 91) (x % 91) 2) (1 - t) (mk_ps bb (x / 91) (x % 91)) 91 0).length = 0) := by
      unfold mtd hw
      rw [if_pos hy', hA]
      have hr := bI_rg (m_chk (mk_bb bb pas (x / 91) (x % 91) 2) (1 - t))
      by_cases z1 : m_chk (mk_bb bb pas (x / 91) (x % 91) 2) (1 - t)
      · rw [bI_t z1]
        split
        · rename_i z; exact ⟨fun _ => ⟨z1, z⟩, fun _ => by omega⟩
        · rename_i z
          split
          · exact ⟨fun y => by omega, fun y => absurd y.2 z⟩
          · exact ⟨fun y => by omega, fun y => absurd y.2 z⟩
      · rw [bI_f z1]
        refine ⟨fun y => ?_, fun y => absurd y.1 z1⟩
        split at y
        · omega
        · split at y <;> omega
    have hat := fun e (he : 3 ≤ e) => c_isAttacked (d := e) (T := T) (F := F) hG S1.1 he ht1 hk
    by_cases c1 : m_chk (mk_bb bb pas (x / 91) (x % 91) 2) (1 - t)
    · obtain ⟨M2, e2, S2, f2⟩ := c_countMoves (T := T) (F := F) hG S1 (by omega) hk (en := 1) (by omega)
      obtain ⟨M3, e3, K3, f3, f4⟩ := c_again (T := T) (F := F) hG h hV (as := 2) (by omega) S2 (fun j j1 j2 j3 j4 j5 j6 => (f2.2 j j4 j5 j6).trans (n1 j j1 j2 j3)) (fun a a1 a2 a3 a4 a5 => (f2.1 a a1 a4 a5).trans (n2 a a1 a2 a3))
      have hat3 := fun e (he : 1 ≤ e) => c_moveAt (d := e) (T := T) (F := F) hG K3.2.2.1 hl (n := P.length) (by omega) he
      rw [hx] at hat3
      rw [bI_t c1] at hat
      by_cases c2 : (lgL (mk_bb bb pas (x / 91) (x % 91) 2) (1 - t) (mk_ps bb (x / 91) (x % 91)) 91 0).length = 0
      · refine ⟨M3, fun e l3 l4 l5 he => ?_, K3, ⟨f3, f4⟩⟩
        have e1 := e1 e (by omega)
        have e2 := e2 e (by omega)
        have e3 := e3 e (by omega)
        have hat := hat e (by omega)
        have hat3 := hat3 e (by omega)
        rw [c2, if_neg (by omega)] at e2
        rw [fmt, if_pos (hiff.mpr ⟨c1, c2⟩)]
        clear ih K3 f3 f4 f2 S2 S1 n1 n2 h hP hA hV hs hy hm hy' hb hk hiff c1
        simp (disch := omega) only [x_X1_firstMate_7, x_X1_firstMate_8, x_X1_firstMate_9, x_X1_firstMate_12, x_X1_firstMate_13, x_X1_firstMate_14, x_X1_firstMate_17, x_X1_firstMate_18, x_X1_firstMate_19, x_X1_firstMate_20, x_X1_firstMate_23, x_X1_firstMate_26, x_X1_firstMate_29, x_X1_firstMate_30, x_X1_firstMate_31, x_X1_firstMate_34, x_X1_firstMate_37, x_X1_firstMate_38, x_X1_firstMate_41, x_X1_firstMate_42, x_X1_firstMate_44, x_X1_firstMate_45, x_X1_firstMate_46, x_X1_firstMate_49, x_X1_firstMate_51, x_X1_firstMate_54, x_X1_firstMate_55, x_X1_firstMate_56, x_X1_firstMate_59, x_X1_firstMate_60, List.length_cons, List.length_nil, Nat.reduceLeDiff, Nat.zero_add, iI_add, iI_sub, iI_mul, iI_neg, iI_lt, iI_le, iI_eq, jI_iI, B_True, B_False, B_t, B_f, ck_True, gd_True, cb_v, cb_n, p_mv_rw, p_fv_rw, p_rv_some, pA_1, pA_90, pA_92, pA_3, pA_2, pA_93, pA_4, pA_91, pA_95, pS_i, pW_i, pZ_0, pZ_1, pZ_b, bI_e0, u1_s, u1_n, uA_s, uA_n, true_and, and_true, not_true_eq_false, not_false_eq_true, eq_self, iI_z, al1, al2, al3, al4, al90, al91, al92, al93, al95, Int.cast_ofNat_Int, Nat.reduceAdd, Int.reduceNeg, Int.reduceAdd, Int.reduceSub, Int.reduceMul, Int.reduceLT, Int.reduceLE, Int.reduceGT, Int.reduceGE, Int.reduceEq, Int.reduceNe, Nat.reduceEqDiff, Int.zero_add, Int.add_zero, p_ty0, p_ty1, p_ty2, p_ty3, p_ty4, p_ty5, p_ty6, p_ty7, p_ty8, p_ty9, p_ty10, p_ty11, t0, e1, e2, e3, hat, hat3, s1, gd_t]
      · obtain ⟨M', e4, K4, f5⟩ := ih (P ++ [x]) M3 (by rw [List.append_assoc]; exact hP) K3
        refine ⟨M', fun e l3 l4 l5 he => ?_, K4, FTr.tr ⟨f3, f4⟩ f5⟩
        have e1 := e1 e (by omega)
        have e2 := e2 e (by omega)
        have e3 := e3 e (by omega)
        have hat := hat e (by omega)
        have e4 := fun l3 l4 l5 => e4 e l3 l4 l5 he
        have e5 : (if 1 < ((lgL (mk_bb bb pas (x / 91) (x % 91) 2) (1 - t) (mk_ps bb (x / 91) (x % 91)) 91 0).length : Int) then 1 else ((lgL (mk_bb bb pas (x / 91) (x % 91) 2) (1 - t) (mk_ps bb (x / 91) (x % 91)) 91 0).length : Int)) = 1 := by split <;> omega
        rw [e5] at e2
        rw [List.length_append, List.length_singleton, Int.natCast_add_one] at e4
        rw [fmt, if_neg (fun z => c2 (hiff.mp z).2)]
        clear ih K3 K4 f5 f3 f4 f2 S2 S1 n1 n2 h hP hA hV hs hy hm hy' hb hk hiff c1 hat3 e5
        rw [x_X1_firstMate_7]
        simp (disch := omega) only [x_X1_firstMate_8, x_X1_firstMate_9, x_X1_firstMate_12, x_X1_firstMate_13, x_X1_firstMate_14, x_X1_firstMate_17, x_X1_firstMate_18, x_X1_firstMate_19, x_X1_firstMate_20, x_X1_firstMate_23, x_X1_firstMate_26, x_X1_firstMate_29, x_X1_firstMate_30, x_X1_firstMate_31, x_X1_firstMate_34, x_X1_firstMate_37, x_X1_firstMate_38, x_X1_firstMate_41, x_X1_firstMate_42, x_X1_firstMate_44, x_X1_firstMate_45, x_X1_firstMate_46, x_X1_firstMate_49, x_X1_firstMate_51, x_X1_firstMate_54, x_X1_firstMate_55, x_X1_firstMate_56, x_X1_firstMate_59, x_X1_firstMate_60, x_X1_firstMate_63, List.length_cons, List.length_nil, Nat.reduceLeDiff, Nat.zero_add, iI_add, iI_sub, iI_mul, iI_neg, iI_lt, iI_le, iI_eq, jI_iI, B_True, B_False, B_t, B_f, ck_True, gd_True, cb_v, cb_n, p_mv_rw, p_fv_rw, p_rv_some, pA_1, pA_90, pA_92, pA_3, pA_2, pA_93, pA_4, pA_91, pA_95, pS_i, pW_i, pZ_0, pZ_1, pZ_b, bI_e0, u1_s, u1_n, uA_s, uA_n, true_and, and_true, not_true_eq_false, not_false_eq_true, eq_self, iI_z, al1, al2, al3, al4, al90, al91, al92, al93, al95, Int.cast_ofNat_Int, Nat.reduceAdd, Int.reduceNeg, Int.reduceAdd, Int.reduceSub, Int.reduceMul, Int.reduceLT, Int.reduceLE, Int.reduceGT, Int.reduceGE, Int.reduceEq, Int.reduceNe, Nat.reduceEqDiff, Int.zero_add, Int.add_zero, p_ty0, p_ty1, p_ty2, p_ty3, p_ty4, p_ty5, p_ty6, p_ty7, p_ty8, p_ty9, p_ty10, p_ty11, t0, e1, e2, e3, e4, hat, s1, gd_t]
    · obtain ⟨M3, e3, K3, f3, f4⟩ := c_again (T := T) (F := F) hG h hV (as := 2) (by omega) S1 (fun j j1 j2 j3 _ _ _ => n1 j j1 j2 j3) (fun a a1 a2 a3 _ _ => n2 a a1 a2 a3)
      obtain ⟨M', e4, K4, f5⟩ := ih (P ++ [x]) M3 (by rw [List.append_assoc]; exact hP) K3
      refine ⟨M', fun e l3 l4 l5 he => ?_, K4, FTr.tr ⟨f3, f4⟩ f5⟩
      have e1 := e1 e (by omega)
      have e3 := e3 e (by omega)
      have hat := hat e (by omega)
      rw [bI_f c1] at hat
      have e4 := fun l3 l4 l5 => e4 e l3 l4 l5 he
      rw [List.length_append, List.length_singleton, Int.natCast_add_one] at e4
      rw [fmt, if_neg (fun z => c1 (hiff.mp z).1)]
      clear ih K3 K4 f5 f3 f4 S1 n1 n2 h hP hA hV hs hy hm hy' hb hk hiff c1
      rw [x_X1_firstMate_7]
      simp (disch := omega) only [x_X1_firstMate_8, x_X1_firstMate_9, x_X1_firstMate_12, x_X1_firstMate_13, x_X1_firstMate_14, x_X1_firstMate_17, x_X1_firstMate_18, x_X1_firstMate_19, x_X1_firstMate_20, x_X1_firstMate_23, x_X1_firstMate_26, x_X1_firstMate_29, x_X1_firstMate_30, x_X1_firstMate_31, x_X1_firstMate_34, x_X1_firstMate_37, x_X1_firstMate_38, x_X1_firstMate_41, x_X1_firstMate_42, x_X1_firstMate_44, x_X1_firstMate_45, x_X1_firstMate_46, x_X1_firstMate_49, x_X1_firstMate_51, x_X1_firstMate_54, x_X1_firstMate_55, x_X1_firstMate_56, x_X1_firstMate_59, x_X1_firstMate_60, x_X1_firstMate_63, List.length_cons, List.length_nil, Nat.reduceLeDiff, Nat.zero_add, iI_add, iI_sub, iI_mul, iI_neg, iI_lt, iI_le, iI_eq, jI_iI, B_True, B_False, B_t, B_f, ck_True, gd_True, cb_v, cb_n, p_mv_rw, p_fv_rw, p_rv_some, pA_1, pA_90, pA_92, pA_3, pA_2, pA_93, pA_4, pA_91, pA_95, pS_i, pW_i, pZ_0, pZ_1, pZ_b, bI_e0, u1_s, u1_n, uA_s, uA_n, true_and, and_true, not_true_eq_false, not_false_eq_true, eq_self, iI_z, al1, al2, al3, al4, al90, al91, al92, al93, al95, Int.cast_ofNat_Int, Nat.reduceAdd, Int.reduceNeg, Int.reduceAdd, Int.reduceSub, Int.reduceMul, Int.reduceLT, Int.reduceLE, Int.reduceGT, Int.reduceGE, Int.reduceEq, Int.reduceNe, Nat.reduceEqDiff, Int.zero_add, Int.add_zero, p_ty0, p_ty1, p_ty2, p_ty3, p_ty4, p_ty5, p_ty6, p_ty7, p_ty8, p_ty9, p_ty10, p_ty11, t0, e1, e3, e4, hat, s1, gd_t]
theorem c_firstMate (hG : GT T F g) (h : GK M g bb t pas q) : ∃ M', (∀ d, 7 ≤ d → callD d m_X1_firstMate [.ref g] T M F = some (.inl (some (.int (iI (fmt bb t pas q (lgQ bb t pas q))))), T, M', F)) ∧ GKL M' g bb t pas q ∧ (∀ a, a ≠ g → a ≠ g + 1 → a ≠ g + 1 + 1 → a ≠ g + 4 → a ≠ g + 5 → a ≠ g + 6 → M' a = M a) ∧ M' g 5 = M g 5 := by
  obtain ⟨M1, e1, f1, K1⟩ := c_moveCount (T := T) (F := F) hG h
  have t0 := hG.2.1
  have hg := hG.1
  by_cases hq : 60 ≤ q
  · have hlq : lgQ bb t pas q = [] := if_pos hq
    rw [hlq] at e1 ⊢
    refine ⟨M1, fun d hd => ?_, K1, FTr.all FTr.rf f1⟩
    refine callD_go 6 hd rfl (fun e he => ?_)
    show R e m_X1_firstMate 0 [.val (.ref g), .unset, .unset, .unset, .unset, .unset] [] T M F = _
    have e1 := e1 e he
    rw [show ((([] : List Int).length : Nat) : Int) = 0 from rfl] at e1
    rw [fmt]
    clear K1 f1 h
    simp (disch := omega) only [x_X1_firstMate_0, x_X1_firstMate_1, x_X1_firstMate_4, x_X1_firstMate_5, x_X1_firstMate_6, x_X1_firstMate_7, x_X1_firstMate_8, x_X1_firstMate_9, x_X1_firstMate_66, x_X1_firstMate_67, List.length_cons, List.length_nil, Nat.reduceLeDiff, Nat.zero_add, iI_add, iI_sub, iI_mul, iI_neg, iI_lt, iI_le, iI_eq, jI_iI, B_True, B_False, B_t, B_f, ck_True, gd_True, cb_v, cb_n, p_mv_rw, p_fv_rw, p_rv_some, pA_1, pA_90, pA_92, pA_3, pA_2, pA_93, pA_4, pA_91, pA_95, pS_i, pW_i, pZ_0, pZ_1, pZ_b, bI_e0, u1_s, u1_n, uA_s, uA_n, true_and, and_true, not_true_eq_false, not_false_eq_true, eq_self, iI_z, al1, al2, al3, al4, al90, al91, al92, al93, al95, Int.cast_ofNat_Int, Nat.reduceAdd, Int.reduceNeg, Int.reduceAdd, Int.reduceSub, Int.reduceMul, Int.reduceLT, Int.reduceLE, Int.reduceGT, Int.reduceGE, Int.reduceEq, Int.reduceNe, Nat.reduceEqDiff, Int.zero_add, Int.add_zero, p_ty0, p_ty1, p_ty2, p_ty3, p_ty4, p_ty5, p_ty6, p_ty7, p_ty8, p_ty9, p_ty10, p_ty11, t0, e1, gd_t]
  · have hlq : lgQ bb t pas q = lgA bb t pas := if_neg hq
    rw [hlq] at e1 ⊢
    obtain ⟨M', e2, K2, f2⟩ := fm_loop (T := T) (F := F) hG (by omega) (lgA bb t pas) [] M1 (List.nil_append _) K1
    refine ⟨M', fun d hd => ?_, K2, FTr.all f2 f1⟩
    refine callD_go 6 hd rfl (fun e he => ?_)
    show R e m_X1_firstMate 0 [.val (.ref g), .unset, .unset, .unset, .unset, .unset] [] T M F = _
    have e1 := e1 e he
    have e2 := fun l3 l4 l5 => e2 e l3 l4 l5 he
    rw [List.length_nil, Int.natCast_zero] at e2
    clear K1 K2 f1 f2 h
    simp (disch := omega) only [x_X1_firstMate_0, x_X1_firstMate_1, x_X1_firstMate_4, x_X1_firstMate_5, x_X1_firstMate_6, List.length_cons, List.length_nil, Nat.reduceLeDiff, Nat.zero_add, iI_add, iI_sub, iI_mul, iI_neg, iI_lt, iI_le, iI_eq, jI_iI, B_True, B_False, B_t, B_f, ck_True, gd_True, cb_v, cb_n, p_mv_rw, p_fv_rw, p_rv_some, pA_1, pA_90, pA_92, pA_3, pA_2, pA_93, pA_4, pA_91, pA_95, pS_i, pW_i, pZ_0, pZ_1, pZ_b, bI_e0, u1_s, u1_n, uA_s, uA_n, true_and, and_true, not_true_eq_false, not_false_eq_true, eq_self, iI_z, al1, al2, al3, al4, al90, al91, al92, al93, al95, Int.cast_ofNat_Int, Nat.reduceAdd, Int.reduceNeg, Int.reduceAdd, Int.reduceSub, Int.reduceMul, Int.reduceLT, Int.reduceLE, Int.reduceGT, Int.reduceGE, Int.reduceEq, Int.reduceNe, Nat.reduceEqDiff, Int.zero_add, Int.add_zero, p_ty0, p_ty1, p_ty2, p_ty3, p_ty4, p_ty5, p_ty6, p_ty7, p_ty8, p_ty9, p_ty10, p_ty11, t0, e1, e2, gd_t]
end PMAT
