section PNOT
variable {d bd lg N lg1 N1 lg2 N2 : Nat} {T T1 T2 : pT} {M M0 M1 M2 : pM} {F F1 F2 : pF} {bb v w : Int → Int} {t pas q its to as p n i c s x k a b tk pc : Int} {H : List HE} {X : Nat → Prop}
theorem y_note (hV : YV T M F bd lg N H) (hH : H.length < 614) (hi : 0 ≤ its ∧ its < 91) (hr : (-100 ≤ to ∧ to ≤ 100) ∧ (-100 ≤ tk ∧ tk ≤ 100) ∧ (-100 ≤ pc ∧ pc ≤ 100) ∧ (-100 ≤ M bd its ∧ M bd its ≤ 100) ∧ (-100 ≤ M 127 11 ∧ M 127 11 ≤ 100) ∧ (0 ≤ M 127 12 ∧ M 127 12 ≤ 1000)) :
    ∃ T' M' F' lg' N', (∀ d, 1 ≤ d → callD d m_X8_note [.ref 127, .int (iI its), .int (iI to), .int (iI tk), .int (iI pc)] T M F = some (.inl none, T', M', F')) ∧ YT T' F' bd lg' N' ∧ YD bd lg' T' ∧ YN N' ∧ 7 * (H.length + 1) ≤ N' ∧ LGc (M' lg') H ∧
      (M' lg' (7 * (H.length : Int)) = its ∧ M' lg' (7 * (H.length : Int) + 1) = to ∧ M' lg' (7 * (H.length : Int) + 2) = M bd its ∧ M' lg' (7 * (H.length : Int) + 3) = tk ∧ M' lg' (7 * (H.length : Int) + 4) = pc ∧ M' lg' (7 * (H.length : Int) + 5) = M 127 11 ∧ M' lg' (7 * (H.length : Int) + 6) = M 127 12) ∧
      M' 127 = u1 (M 127) 14 ((H.length : Int) + 1) ∧ GC N N' H.length ∧ YC (fun a => a = 127) T M F lg N T' M' F' lg' N' := by
  obtain ⟨hY, hD, hN, hL, hl, h14⟩ := hV
  have hN7 : 448 ≤ N ∧ N ≤ 7168 := by unfold YN at hN; omega
  obtain ⟨d0, d0', d1, d2, d3, d4⟩ := id hD
  by_cases c : 7 * (H.length + 1) ≤ N
  · have h9 := fun e => note_in (e := e) (T := T) (M := M) (F := F) (n := (H.length : Int)) (to := to) (tk := tk) (pc := pc) (l5 := .unset) hY hD (by omega) hN7.2 h14 hi hr
    obtain ⟨M', hM⟩ : ∃ M' : pM, M' = uA (uA M lg (lg_put (M lg) (H.length : Int) its to (M bd its) tk pc (M 127 11) (M 127 12))) 127 (u1 (M 127) 14 ((H.length : Int) + 1)) := ⟨_, rfl⟩
    have mlg : M' lg = lg_put (M lg) (H.length : Int) its to (M bd its) tk pc (M 127 11) (M 127 12) := by rw [hM, uA_n (by omega), uA_s]
    refine ⟨T, M', F, lg, N, fun d hd => ?_, hY, hD, hN, c, ?_, ?_, by rw [hM, uA_s], GC.rf, s_mono.rf, fun a _ hx hl => by rw [hM, uA_n hx, uA_n hl], fun _ _ _ => rfl, fun _ _ => rfl, Or.inl rfl, Nat.le_refl _, Nat.le_refl _, Nat.le_refl _⟩
    · refine callD_go 0 hd rfl (fun e he => ?_)
      show R e m_X8_note 0 [.val (.ref 127), .val (.int (iI its)), .val (.int (iI to)), .val (.int (iI tk)), .val (.int (iI pc)), .unset] [] T M F = _
      have h9 := h9 e
      rw [← hM] at h9
      rw [← h9]
      obtain ⟨ty127, ty128, fy1, ty129, fy4, ty130, fy5, ty131, fy6, ty132, fy7, ty133, fy8, ty136, fy15, ty137, fy16, ty138, fy17, ty139, fy18, ty140, fy19, ty141, fy20, ty142, fy21, ty143, fy22, hbd, tybd, fy9, hlg, tylg, fy13, hN⟩ := hY
      clear h9 hM mlg hL hr
      simp (disch := omega) only [x_X8_note_0, x_X8_note_1, x_X8_note_4, x_X8_note_5, x_X8_note_6, x_X8_note_8, x_X8_note_9, x_X8_note_10, x_X8_note_13, x_X8_note_14, List.length_cons, List.length_nil, Nat.reduceLeDiff, Nat.zero_add, iI_add, iI_sub, iI_mul, iI_neg, iI_lt, iI_le, iI_eq, jI_iI, B_True, B_False, B_t, B_f, ck_True, gd_True, cb_v, cb_n, p_mv_rw, p_fv_rw, p_rv_some, pA_1, pA_90, pA_92, pA_3, pA_2, pA_93, pA_4, pA_91, pA_95, pS_i, pW_i, pZ_0, pZ_1, pZ_b, bI_e0, u1_s, u1_n, uA_s, uA_n, true_and, and_true, not_true_eq_false, not_false_eq_true, eq_self, iI_z, al1, al2, al3, al4, al90, al91, al92, al93, al95, Int.cast_ofNat_Int, Nat.reduceAdd, Int.reduceNeg, Int.reduceAdd, Int.reduceSub, Int.reduceMul, Int.reduceLT, Int.reduceLE, Int.reduceGT, Int.reduceGE, Int.reduceEq, Int.reduceNe, Nat.reduceEqDiff, Int.zero_add, Int.add_zero, p_ty0, p_ty1, p_ty2, p_ty3, p_ty4, p_ty5, p_ty6, p_ty7, p_ty8, p_ty9, p_ty10, p_ty11, ty127, ty128, fy1, ty129, fy4, ty130, fy5, ty131, fy6, ty132, fy7, ty133, fy8, ty136, fy15, ty137, fy16, ty138, fy17, ty139, fy18, ty140, fy19, ty141, fy20, ty142, fy21, ty143, fy22, tybd, fy9, tylg, fy13, h14, gd_t, B_t, B_f]
    · rw [mlg]
      exact LGc.fr (n := (H.length : Int)) (fun j j0 j1 => lg_put_lo (by omega)) H (Int.le_refl _) hL
    · rw [mlg]; exact lg_put_at
  · have hN2 : N ≤ 3584 := by unfold YN at hN; omega
    have hNN : YN (2 * N) := by unfold YN at hN ⊢; omega
    obtain ⟨M1, hM1⟩ : ∃ M1 : pM, M1 = uA M T.1.1 (fun j => if 0 ≤ j ∧ j < (N : Int) then M lg j else 0) := ⟨_, rfl⟩
    obtain ⟨F1, hF1⟩ : ∃ F1 : pF, F1 = uA (uA F T.1.1 (fun _ => none)) 127 (u1 (F 127) 13 (some T.1.1)) := ⟨_, rfl⟩
    have m1 : ∀ a, a ≠ T.1.1 → M1 a = M a := fun a ha => by rw [hM1, uA_n ha]
    have f1 : ∀ a, a < T.1.1 → a ≠ 127 → F1 a = F a := fun a ha h => by rw [hF1, uA_n h, uA_n (by omega)]
    have f127 : F1 127 = u1 (F 127) 13 (some T.1.1) := by rw [hF1, uA_s]
    have C1 : YC (fun a => a = 127) T M F lg N (p_new T 1 (2 * N)) M1 F1 T.1.1 (2 * N) := by
      refine ⟨s_mono.new, fun a ha _ _ => m1 a (by omega), f1, fun j hj => by rw [f127, u1_n hj], Or.inr (Nat.le_refl _), by omega, ?_, ?_⟩
      · show 448 * (T.1.1 + 1) + N ≤ _; omega
      · show T.1.2 + 2 * N + 2 * N ≤ _; omega
    have tnew : p_ty (p_new T 1 (2 * N)) T.1.1 = (1, 2 * N) := p_ty_nw (by omega)
    have Y1 : YT (p_new T 1 (2 * N)) F1 bd T.1.1 (2 * N) := hY.mono hD C1 (by omega) tnew (by rw [f127, u1_s]) (by omega)
    have D1 : YD bd T.1.1 (p_new T 1 (2 * N)) := ⟨d0, Or.inr d4, by omega, Nat.lt_succ_of_lt d2, Nat.lt_succ_self _, Nat.le_succ_of_le d4⟩
    have e127 := m1 127 (by omega)
    have ebd := m1 bd (by omega)
    have h9 := fun e l5 => note_in (e := e) (T := p_new T 1 (2 * N)) (M := M1) (F := F1) (n := (H.length : Int)) (to := to) (tk := tk) (pc := pc) (l5 := l5) Y1 D1 (by omega) (by omega) (by rw [e127]; exact h14) hi (by rw [e127, ebd]; exact hr)
    obtain ⟨M', hM⟩ : ∃ M' : pM, M' = uA (uA M1 T.1.1 (lg_put (M1 T.1.1) (H.length : Int) its to (M bd its) tk pc (M 127 11) (M 127 12))) 127 (u1 (M 127) 14 ((H.length : Int) + 1)) := ⟨_, rfl⟩
    have mlg : M' T.1.1 = lg_put (M1 T.1.1) (H.length : Int) its to (M bd its) tk pc (M 127 11) (M 127 12) := by rw [hM, uA_n (by omega), uA_s]
    refine ⟨p_new T 1 (2 * N), M', F1, T.1.1, 2 * N, fun d hd => ?_, Y1, D1, hNN, by omega, ?_, ?_, by rw [hM, uA_s], Or.inr (by omega), C1.1, fun a ha hx _ => by rw [hM, uA_n hx, uA_n (by omega)]; exact m1 a (by omega), C1.2.2⟩
    · refine callD_go 0 hd rfl (fun e he => ?_)
      show R e m_X8_note 0 [.val (.ref 127), .val (.int (iI its)), .val (.int (iI to)), .val (.int (iI tk)), .val (.int (iI pc)), .unset] [] T M F = _
      have h9 := fun l5 => h9 e l5
      rw [e127, ebd, ← hM] at h9
      obtain ⟨ty127, ty128, fy1, ty129, fy4, ty130, fy5, ty131, fy6, ty132, fy7, ty133, fy8, ty136, fy15, ty137, fy16, ty138, fy17, ty139, fy18, ty140, fy19, ty141, fy20, ty142, fy21, ty143, fy22, hbd, tybd, fy9, hlg, tylg, fy13, hN⟩ := hY
      have u1' := (p_ty_nx (T := T) (tag := 1) (n := 2 * N) (a := 127) (by omega)).trans ty127
      have u2' := (p_ty_nx (T := T) (tag := 1) (n := 2 * N) (a := lg) (by omega)).trans tylg
      have e2N : (2 * (N : Int)).toNat = 2 * N := by omega
      have hFF : uA (uA F T.1.1 (fun _ => none)) 127 (u1 (F 127) 13 (some T.1.1)) = F1 := hF1.symm
      have hMM : uA M T.1.1 (fun j => if 0 ≤ j ∧ j < (N : Int) then M lg j else 0) = M1 := hM1.symm
      have hcp : (fun j : Int => if (0 : Int) ≤ j ∧ j < 0 + (N : Int) then M lg (0 + (j - 0)) else (0 : Int)) = fun j => if 0 ≤ j ∧ j < (N : Int) then M lg j else 0 := by
        funext j
        rw [Int.zero_add, Int.zero_add, Int.sub_zero]
      clear hM mlg hL hr C1 Y1 D1 m1 f1 hM1 hF1
      simp (disch := omega) only [x_X8_note_0, x_X8_note_1, x_X8_note_4, x_X8_note_5, x_X8_note_6, x_X8_note_8, x_X8_note_9, x_X8_note_10, x_X8_note_13, x_X8_note_14, x_X8_note_17, x_X8_note_18, x_X8_note_19, x_X8_note_22, x_X8_note_23, x_X8_note_24, x_X8_note_26, x_X8_note_28, x_X8_note_29, x_X8_note_32, x_X8_note_33, x_X8_note_35, x_X8_note_36, x_X8_note_37, x_X8_note_40, x_X8_note_41, x_X8_note_44, x_X8_note_45, x_X8_note_47, List.length_cons, List.length_nil, Nat.reduceLeDiff, Nat.zero_add, iI_add, iI_sub, iI_mul, iI_neg, iI_lt, iI_le, iI_eq, jI_iI, B_True, B_False, B_t, B_f, ck_True, gd_True, cb_v, cb_n, p_mv_rw, p_fv_rw, p_rv_some, pA_1, pA_90, pA_92, pA_3, pA_2, pA_93, pA_4, pA_91, pA_95, pS_i, pW_i, pZ_0, pZ_1, pZ_b, bI_e0, u1_s, u1_n, uA_s, uA_n, true_and, and_true, not_true_eq_false, not_false_eq_true, eq_self, iI_z, al1, al2, al3, al4, al90, al91, al92, al93, al95, Int.cast_ofNat_Int, Nat.reduceAdd, Int.reduceNeg, Int.reduceAdd, Int.reduceSub, Int.reduceMul, Int.reduceLT, Int.reduceLE, Int.reduceGT, Int.reduceGE, Int.reduceEq, Int.reduceNe, Nat.reduceEqDiff, Int.zero_add, Int.add_zero, p_ty0, p_ty1, p_ty2, p_ty3, p_ty4, p_ty5, p_ty6, p_ty7, p_ty8, p_ty9, p_ty10, p_ty11, ty127, ty128, fy1, ty129, fy4, ty130, fy5, ty131, fy6, ty132, fy7, ty133, fy8, ty136, fy15, ty137, fy16, ty138, fy17, ty139, fy18, ty140, fy19, ty141, fy20, ty142, fy21, ty143, fy22, tybd, fy9, tylg, fy13, h14, e2N, u1', u2', tnew, uA_uA, gd_t, ck_t, B_t, B_f, Int.sub_zero, hMM, hFF, h9]
    · rw [mlg]
      refine LGc.fr (n := (H.length : Int)) (fun j j0 j1 => ?_) H (Int.le_refl _) hL
      rw [lg_put_lo (by omega), hM1, uA_s]
      exact if_pos ⟨j0, by omega⟩
    · rw [mlg]; exact lg_put_at
end PNOT
