section PINI
variable {d b g r a w : Nat} {T T1 : pT} {M M1 : pM} {F F1 : pF}
/-- what is built leaves what lies below alone -/
def IX (b : Nat) (T : pT) (M : pM) (F : pF) (T' : pT) (M' : pM) (F' : pF) : Prop := s_mono T T' ∧ ∀ a, a < b → M' a = M a ∧ F' a = F a
theorem IX.tr {b' : Nat} {T2 : pT} {M2 : pM} {F2 : pF} (h : IX b T M F T1 M1 F1) (h' : IX b' T1 M1 F1 T2 M2 F2) (hb : b ≤ b') : IX b T M F T2 M2 F2 := ⟨h.1.tr h'.1, fun a ha => ⟨((h'.2 a (by omega)).1).trans (h.2 a ha).1, ((h'.2 a (by omega)).2).trans (h.2 a ha).2⟩⟩
theorem IX.wk {b' : Nat} (h : IX b T M F T1 M1 F1) (hb : b' ≤ b) : IX b' T M F T1 M1 F1 := ⟨h.1, fun a ha => h.2 a (by omega)⟩
theorem nA {α : Type} (X : Nat → Int → α) (f h : Int → α) (hr : g < r) : uA (uA X g f) r h = uA (uA X r h) g f := by
  funext b
  unfold uA
  by_cases q1 : b = r
  · rw [if_pos q1, if_neg (by omega), if_pos q1]
  · rw [if_neg q1]
    by_cases q2 : b = g
    · rw [if_pos q2, if_pos q2]
    · rw [if_neg q2, if_neg q2, if_neg q1]
theorem p_nn {tag n : Nat} : (p_new T tag n).1.1 = T.1.1 + 1 := rfl
theorem i_board (hb : 100 ≤ b) (t0 : p_ty T b = (10, 3)) (hn : T.1.1 = b + 1) :
    ∃ T' M' F', (∀ d, 3 ≤ d → callD d m_X0_init [.ref b] T M F = some (.inl none, T', M', F')) ∧ T'.1.1 = b + 2 ∧ T'.1.2 = T.1.2 + 289 ∧ BT T' F' b ∧ RB M' b (fun _ => 0) ∧ IX b T M F T' M' F' := by
  obtain ⟨M1, hM1⟩ : ∃ M1 : pM, M1 = uA (uA M (b + 1) (fun _ => 0)) b (u1 (u1 (M b) 1 (-1)) 2 (-1)) := ⟨_, rfl⟩
  obtain ⟨F1, hF1⟩ : ∃ F1 : pF, F1 = uA (uA F (b + 1) (fun _ => none)) b (u1 (F b) 0 (some (b + 1))) := ⟨_, rfl⟩
  have tb : p_ty (p_new T 1 289) b = (10, 3) := (p_ty_nx (by omega)).trans t0
  have tv : p_ty (p_new T 1 289) (b + 1) = (1, 289) := by rw [← hn]; exact p_ty_nw (by omega)
  have hB : BT (p_new T 1 289) F1 b := ⟨hb, tb, tv, by rw [hF1, uA_s, u1_s]⟩
  obtain ⟨M2, r2, R2, f2⟩ := c_clear (M := M1) hB
  refine ⟨p_new T 1 289, M2, F1, fun d hd => ?_, by rw [p_nn, hn], rfl, hB, R2 (fun i => ?_), s_mono.new, fun a ha => ⟨?_, ?_⟩⟩
  · refine callD_go 2 hd rfl (fun e he => ?_)
    show R e m_X0_init 0 [.val (.ref b)] [] T M F = _
    have r2 := r2 e he
    have y9 : (289 : Int).toNat = 289 := rfl
    have n1 := fun {α : Type} (X : Nat → Int → α) f h => nA (g := b) (r := b + 1) X f h (by omega)
    rw [hM1, hF1] at r2
    rw [hF1]
    clear R2 f2 hB hM1 hF1
    simp (disch := omega) only [x_X0_init_0, x_X0_init_1, x_X0_init_4, x_X0_init_5, x_X0_init_8, x_X0_init_10, x_X0_init_13, x_X0_init_14, x_X0_init_15, x_X0_init_18, x_X0_init_19, x_X0_init_20, x_X0_init_23, x_X0_init_24, x_X0_init_27, List.length_cons, List.length_nil, Nat.reduceLeDiff, Nat.zero_add, iI_add, iI_sub, iI_mul, iI_neg, iI_lt, iI_le, iI_eq, jI_iI, B_True, B_False, B_t, B_f, ck_True, gd_True, cb_v, cb_n, p_mv_rw, p_fv_rw, p_rv_some, pA_1, pA_90, pA_92, pA_3, pA_5, pA_93, pA_4, pA_91, pA_6, pS_i, pB_i, pW_i, pZ_0, pZ_1, pZ_b, bI_e0, u1_s, u1_n, uA_s, uA_n, true_and, and_true, not_true_eq_false, not_false_eq_true, eq_self, iI_z, al1, al5, al3, al4, al90, al91, al92, al93, al6, Int.cast_ofNat_Int, Nat.reduceAdd, Int.reduceNeg, Int.reduceAdd, Int.reduceSub, Int.reduceMul, Int.reduceLT, Int.reduceLE, Int.reduceGT, Int.reduceGE, Int.reduceEq, Int.reduceNe, Nat.reduceEqDiff, Int.zero_add, Int.add_zero, p_ty0, p_ty1, p_ty2, p_ty3, p_ty4, p_ty5, p_ty8, p_ty9, p_ty10, t0, tb, hn, y9, r2, n1, uA_uA, gd_t, ck_t]
  · have hz : M1 (b + 1) i = 0 := by rw [hM1, uA_n (by omega), uA_s]
    rw [hz]; omega
  · rw [f2 a (by omega) (by omega), hM1, uA_n (by omega), uA_n (by omega)]
  · rw [hF1, uA_n (by omega), uA_n (by omega)]
theorem i_tape (ha : 100 ≤ a) (t0 : p_ty T a = (14, 2)) (hn : T.1.1 = a + 1) :
    ∃ T' M' F', (∀ d, 3 ≤ d → callD d m_X4_init [.ref a] T M F = some (.inl none, T', M', F')) ∧ T'.1.1 = a + 2 ∧ T'.1.2 = T.1.2 + 2000 ∧ TT T' F' a ∧ TS M' a (fun _ => 0) 0 ∧ IX a T M F T' M' F' := by
  have tb : p_ty (p_new T 1 2000) a = (14, 2) := (p_ty_nx (by omega)).trans t0
  have tv : p_ty (p_new T 1 2000) (a + 1) = (1, 2000) := by rw [← hn]; exact p_ty_nw (by omega)
  refine ⟨p_new T 1 2000, uA (uA M (a + 1) (fun _ => 0)) a (u1 (M a) 1 0), uA (uA F (a + 1) (fun _ => none)) a (u1 (F a) 0 (some (a + 1))), fun d hd => ?_, by rw [p_nn, hn], rfl, ⟨ha, tb, by rw [uA_s, u1_s], tv⟩, ⟨by rw [uA_n (by omega), uA_s], by rw [uA_s, u1_s], by omega, fun _ => by show (0 : Int) ≤ 0 ∧ (0 : Int) < 256; omega⟩, s_mono.new, fun c hc => ⟨?_, ?_⟩⟩
  · refine callD_go 2 hd rfl (fun e he => ?_)
    show R e m_X4_init 0 [.val (.ref a)] [] T M F = _
    have y9 : (2000 : Int).toNat = 2000 := rfl
    have n1 := fun {α : Type} (X : Nat → Int → α) f h => nA (g := a) (r := a + 1) X f h (by omega)
    simp (disch := omega) only [x_X4_init_0, x_X4_init_1, x_X4_init_4, x_X4_init_5, x_X4_init_8, x_X4_init_10, x_X4_init_13, x_X4_init_14, x_X4_init_15, x_X4_init_18, List.length_cons, List.length_nil, Nat.reduceLeDiff, Nat.zero_add, iI_add, iI_sub, iI_mul, iI_neg, iI_lt, iI_le, iI_eq, jI_iI, B_True, B_False, B_t, B_f, ck_True, gd_True, cb_v, cb_n, p_mv_rw, p_fv_rw, p_rv_some, pA_1, pA_90, pA_92, pA_3, pA_5, pA_93, pA_4, pA_91, pA_6, pS_i, pB_i, pW_i, pZ_0, pZ_1, pZ_b, bI_e0, u1_s, u1_n, uA_s, uA_n, true_and, and_true, not_true_eq_false, not_false_eq_true, eq_self, iI_z, al1, al5, al3, al4, al90, al91, al92, al93, al6, Int.cast_ofNat_Int, Nat.reduceAdd, Int.reduceNeg, Int.reduceAdd, Int.reduceSub, Int.reduceMul, Int.reduceLT, Int.reduceLE, Int.reduceGT, Int.reduceGE, Int.reduceEq, Int.reduceNe, Nat.reduceEqDiff, Int.zero_add, Int.add_zero, p_ty0, p_ty1, p_ty2, p_ty3, p_ty4, p_ty5, p_ty8, p_ty9, p_ty10, t0, tb, hn, y9, n1, uA_uA, gd_t, ck_t]
  · rw [uA_n (by omega), uA_n (by omega)]
  · rw [uA_n (by omega), uA_n (by omega)]
end PINI
