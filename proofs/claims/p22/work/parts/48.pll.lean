section PPLL
variable {d : Nat} {T : pT} {M M0 M1 M2 : pM} {F : pF} {b g : Nat} {bb v w : Int → Int} {k s t pas q its to as c x p kc i acc en : Int} {A Z P L Q : List Int} {n : Nat}
theorem lgA_at (hn : n < (lgA bb t pas).length) : (lgA bb t pas).getD n 0 ∈ lgA bb t pas := by
  rw [List.getD_eq_getElem?_getD, List.getElem?_eq_getElem hn]
  exact List.getElem_mem hn
theorem c_playListed (hG : GT T F g) (h : GKL M g bb t pas q) (hn : n < (lgA bb t pas).length) (hx : (lgA bb t pas).getD n 0 = x) :
    ∃ M', (∀ d, 3 ≤ d → callD d m_X1_playListed [.ref g, .int (iI (n : Int))] T M F = some (.inl (some (.long (iL (q_pk bb pas q (x / 91) (x % 91))))), T, M', F)) ∧
      GS M' g (mk_bb bb pas (x / 91) (x % 91) 2) (1 - t) (mk_ps bb (x / 91) (x % 91)) (mk_q bb pas q (x / 91) (x % 91)) ∧ (∀ j, j ≠ 1 → j ≠ 2 → j ≠ 3 → M' g j = M g j) ∧ (∀ a, a ≠ g → a ≠ g + 1 → a ≠ g + 1 + 1 → M' a = M a) := by
  have hm := lgA_at hn
  rw [hx] at hm
  obtain ⟨hy, hV, hs⟩ := lg_move hm
  have hxr := lgA_rg hm
  have hl := h.len
  obtain ⟨M', e1, S1, n1, n2, -, -⟩ := c_play (T := T) (F := F) hG h.1 (by have := h.2.2.2.2; omega) hV (as := 2) (by omega)
  refine ⟨M', fun d hd => ?_, S1, n1, n2⟩
  refine callD_go 2 hd rfl (fun e he => ?_)
  show R e m_X1_playListed 0 [.val (.ref g), .val (.int (iI (n : Int))), .unset] [] T M F = _
  have e1 := e1 e he
  have hat := c_moveAt (d := e) (T := T) (F := F) hG h.2.2.1 hl hn (by omega)
  rw [hx] at hat
  have hp1 := c_placeOf (d := e) (T := T) (M := M) (F := F) (k := x / 91) (by omega) (by omega)
  have hp2 := c_placeOf (d := e) (T := T) (M := M) (F := F) (k := x % 91) (by omega) (by omega)
  have hrm : x - x / 91 * 91 = x % 91 := by omega
  have t0 := hG.2.1
  have hg := hG.1
  clear h S1 n1 n2 hV hs hy hm
  simp (disch := omega) only [x_X1_playListed_0, x_X1_playListed_1, x_X1_playListed_2, x_X1_playListed_5, x_X1_playListed_6, x_X1_playListed_7, x_X1_playListed_8, x_X1_playListed_10, x_X1_playListed_11, x_X1_playListed_14, x_X1_playListed_15, x_X1_playListed_17, x_X1_playListed_18, x_X1_playListed_21, x_X1_playListed_22, x_X1_playListed_25, List.length_cons, List.length_nil, Nat.reduceLeDiff, Nat.zero_add, iI_add, iI_sub, iI_mul, iI_neg, iI_lt, iI_le, iI_eq, jI_iI, B_True, B_False, B_t, B_f, ck_True, gd_True, cb_v, cb_n, p_mv_rw, p_fv_rw, p_rv_some, pA_1, pA_90, pA_92, pA_3, pA_5, pA_93, pA_4, pA_91, pA_6, pS_i, pB_i, pW_i, pZ_0, pZ_1, pZ_b, bI_e0, u1_s, u1_n, uA_s, uA_n, true_and, and_true, not_true_eq_false, not_false_eq_true, eq_self, iI_z, al1, al5, al3, al4, al90, al91, al92, al93, al6, Int.cast_ofNat_Int, Nat.reduceAdd, Int.reduceNeg, Int.reduceAdd, Int.reduceSub, Int.reduceMul, Int.reduceLT, Int.reduceLE, Int.reduceGT, Int.reduceGE, Int.reduceEq, Int.reduceNe, Nat.reduceEqDiff, Int.zero_add, Int.add_zero, p_ty0, p_ty1, p_ty2, p_ty3, p_ty4, p_ty5, p_ty8, p_ty9, p_ty10, t0, gd_t, hat, hp1, hp2, e1, iI_div, hrm]
end PPLL
