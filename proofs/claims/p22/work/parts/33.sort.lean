section PSORT
variable {d : Nat} {T : pT} {M M1 : pM} {F : pF} {b g : Nat} {bb : Int → Int} {k s t pas q its to as c x p kc i w y : Int} {L : List Int}
theorem set_mid : ∀ (A : List Int) (w y : Int) (R : List Int), (A ++ w :: R).set A.length y = A ++ y :: R
  | [], w, y, R => rfl
  | a :: A, w, y, R => by
    show a :: (A ++ w :: R).set A.length y = a :: (A ++ y :: R)
    rw [set_mid A]
theorem getD_mid (A : List Int) (w : Int) (R : List Int) : (A ++ w :: R).getD A.length 0 = w := by
  rw [List.getD_eq_getElem?_getD, List.getElem?_append_right (Nat.le_refl _)]
  simp
theorem TG.set {n : Nat} (h : TG M M1 g L) (hn : n < L.length) : TG M (uA M1 (g + 5) (u1 (M1 (g + 5)) (n : Int) y)) g (L.set n y) := by
  obtain ⟨h1, h2, h3, h4⟩ := h
  refine ⟨by rw [uA_n (by omega), List.length_set]; exact h1, fun j hj => ?_, fun j hj => by rw [uA_n (by omega)]; exact h3 j hj, fun a a1 a2 => by rw [uA_n a2]; exact h4 a a1 a2⟩
  rw [List.length_set] at hj
  rw [uA_s]
  unfold u1
  by_cases e : j = n
  · subst e
    rw [if_pos rfl, List.getD_eq_getElem?_getD, List.getElem?_set_self hj]
    rfl
  · rw [if_neg (by omega), h2 j hj, List.getD_eq_getElem?_getD, List.getD_eq_getElem?_getD, List.getElem?_set_ne (fun z => e z.symm)]
theorem c_insert (hG : GT T F g) (hx : -1000000 ≤ x ∧ x ≤ 1000000) (C : List Int) {i : Int} (hi : 0 ≤ i ∧ i < 42) : ∀ (n : Nat) (A : List Int) (w : Int) (B : List Int) (M1 : pM), A.length = n → A.Pairwise (· ≤ ·) → (∀ a ∈ A, -1000000 ≤ a ∧ a ≤ 1000000) → (-1000000 ≤ w ∧ w ≤ 1000000) → (A ++ w :: (B ++ C)).length ≤ 42 → TG M M1 g (A ++ w :: (B ++ C)) →
    ∃ A' D M2 l3, (∀ e, 0 ≤ e → R e m_X1_sortTargets 28 [.val (.ref g), .val (.int (iI i)), .val (.int (iI x)), .val (.int (iI (A.length : Int)))] [] T M1 F = R e m_X1_sortTargets 2 [.val (.ref g), .val (.int (iI (i + 1))), .val (.int (iI x)), l3] [] T M2 F) ∧ A = A' ++ D ∧ (∀ a ∈ A', a ≤ x) ∧ (∀ y ∈ D, x ≤ y) ∧ TG M M2 g (A' ++ x :: (D ++ (B ++ C))) := by
  intro n
  induction n with
  | zero =>
    intro A w B M1 hA hs hr hw hl h
    have hA' : A = [] := List.eq_nil_of_length_eq_zero hA
    subst hA'
    have h2 := h.set (n := 0) (y := x) (by simp)
    refine ⟨[], [], uA M1 (g + 5) (u1 (M1 (g + 5)) ((0 : Nat) : Int) x), .val (.int (iI 0)), fun e he => ?_, rfl, by simp, by simp, h2⟩
    obtain ⟨hg, t0, f0, hB, t3, f4, t4, f6, t5, f9, t6, f11⟩ := hG
    show R e m_X1_sortTargets 28 [.val (.ref g), .val (.int (iI i)), .val (.int (iI x)), .val (.int (iI 0))] [] T M1 F = _
    simp (disch := omega) only [x_X1_sortTargets_28, x_X1_sortTargets_29, x_X1_sortTargets_32, x_X1_sortTargets_33, x_X1_sortTargets_36, x_X1_sortTargets_37, x_X1_sortTargets_38, x_X1_sortTargets_39, x_X1_sortTargets_40, x_X1_sortTargets_41, x_X1_sortTargets_44, x_X1_sortTargets_45, x_X1_sortTargets_48, x_X1_sortTargets_49, x_X1_sortTargets_50, x_X1_sortTargets_53, x_X1_sortTargets_54, x_X1_sortTargets_55, x_X1_sortTargets_56, x_X1_sortTargets_57, x_X1_sortTargets_58, x_X1_sortTargets_61, x_X1_sortTargets_64, x_X1_sortTargets_65, x_X1_sortTargets_68, x_X1_sortTargets_69, x_X1_sortTargets_70, x_X1_sortTargets_71, x_X1_sortTargets_74, List.length_cons, List.length_nil, Nat.reduceLeDiff, Nat.zero_add, iI_add, iI_sub, iI_mul, iI_neg, iI_lt, iI_le, iI_eq, jI_iI, B_True, B_False, B_t, B_f, ck_True, gd_True, cb_v, cb_n, p_mv_rw, p_fv_rw, p_rv_some, pA_1, pA_90, pA_92, pA_3, pA_5, pA_93, pA_4, pA_91, pA_6, pS_i, pB_i, pW_i, pZ_0, pZ_1, pZ_b, bI_e0, u1_s, u1_n, uA_s, uA_n, true_and, and_true, not_true_eq_false, not_false_eq_true, eq_self, iI_z, al1, al5, al3, al4, al90, al91, al92, al93, al6, Int.cast_ofNat_Int, Nat.reduceAdd, Int.reduceNeg, Int.reduceAdd, Int.reduceSub, Int.reduceMul, Int.reduceLT, Int.reduceLE, Int.reduceGT, Int.reduceGE, Int.reduceEq, Int.reduceNe, Nat.reduceEqDiff, Int.zero_add, Int.add_zero, p_ty0, p_ty1, p_ty2, p_ty3, p_ty4, p_ty5, p_ty8, p_ty9, p_ty10, t0, f9, t5, B_t, B_f]
  | succ n ih =>
    intro A w B M1 hA hs hr hw hl h
    obtain ⟨A0, a, hAa⟩ := (List.eq_nil_or_concat A).resolve_left (by intro z; rw [z] at hA; simp at hA)
    rw [List.concat_eq_append] at hAa
    subst hAa
    have hln : A0.length = n := by simp at hA; exact hA
    have ha := hr a (by simp)
    have hG' := hG
    obtain ⟨hg, t0, f0, hB, t3, f4, t4, f6, t5, f9, t6, f11⟩ := hG
    have hlen : ((A0 ++ [a]).length : Int) = (A0.length : Int) + 1 := by simp
    have hl' : A0.length + 1 + (1 + (B.length + C.length)) ≤ 42 := by simp at hl; omega
    have hrd : M1 (g + 5) (A0.length : Int) = a := by
      rw [h.2.1 A0.length (by simp), List.append_assoc]
      exact getD_mid A0 a _
    by_cases c : x < a
    · have h2 := h.set (n := (A0 ++ [a]).length) (y := a) (by simp)
      rw [set_mid, List.append_assoc] at h2
      have h3 : TG M (uA M1 (g + 5) (u1 (M1 (g + 5)) (((A0 ++ [a]).length : Nat) : Int) a)) g (A0 ++ a :: ((a :: B) ++ C)) := h2
      obtain ⟨A', D, M2, l3, e1, e2, e3, e4, e5⟩ := ih A0 a (a :: B) _ hln (List.pairwise_append.mp hs).1 (fun z hz => hr z (by simp [hz])) ha (by simp; omega) h3
      refine ⟨A', D ++ [a], M2, l3, fun e he => ?_, by rw [e2, List.append_assoc], e3, fun y hy => ?_, ?_⟩
      · rw [← e1 e he, hlen]
        rw [x_X1_sortTargets_28]
        have e9 : (A0.length : Int) + 1 - 1 = A0.length := by omega
        simp (disch := omega) only [x_X1_sortTargets_29, x_X1_sortTargets_32, x_X1_sortTargets_33, x_X1_sortTargets_36, x_X1_sortTargets_37, x_X1_sortTargets_38, x_X1_sortTargets_39, x_X1_sortTargets_40, x_X1_sortTargets_41, x_X1_sortTargets_44, x_X1_sortTargets_45, x_X1_sortTargets_48, x_X1_sortTargets_49, x_X1_sortTargets_50, x_X1_sortTargets_53, x_X1_sortTargets_54, x_X1_sortTargets_55, x_X1_sortTargets_56, x_X1_sortTargets_57, x_X1_sortTargets_58, x_X1_sortTargets_61, List.length_cons, List.length_nil, Nat.reduceLeDiff, Nat.zero_add, iI_add, iI_sub, iI_mul, iI_neg, iI_lt, iI_le, iI_eq, jI_iI, B_True, B_False, B_t, B_f, ck_True, gd_True, cb_v, cb_n, p_mv_rw, p_fv_rw, p_rv_some, pA_1, pA_90, pA_92, pA_3, pA_5, pA_93, pA_4, pA_91, pA_6, pS_i, pB_i, pW_i, pZ_0, pZ_1, pZ_b, bI_e0, u1_s, u1_n, uA_s, uA_n, true_and, and_true, not_true_eq_false, not_false_eq_true, eq_self, iI_z, al1, al5, al3, al4, al90, al91, al92, al93, al6, Int.cast_ofNat_Int, Nat.reduceAdd, Int.reduceNeg, Int.reduceAdd, Int.reduceSub, Int.reduceMul, Int.reduceLT, Int.reduceLE, Int.reduceGT, Int.reduceGE, Int.reduceEq, Int.reduceNe, Nat.reduceEqDiff, Int.zero_add, Int.add_zero, p_ty0, p_ty1, p_ty2, p_ty3, p_ty4, p_ty5, p_ty8, p_ty9, p_ty10, t0, f9, t5, hrd, e9, B_t, B_f]
        rw [show (A0.length : Int) + 1 + -1 = A0.length by omega]
      · rcases List.mem_append.mp hy with hy | hy
        · exact e4 y hy
        · rw [List.mem_singleton.mp hy]; omega
      · rw [List.append_assoc]; exact e5
    · have h2 := h.set (n := (A0 ++ [a]).length) (y := x) (by simp)
      rw [set_mid] at h2
      refine ⟨A0 ++ [a], [], _, .val (.int (iI ((A0.length : Int) + 1))), fun e he => ?_, by rw [List.append_nil], fun z hz => ?_, by simp, h2⟩
      · rw [hlen]
        rw [x_X1_sortTargets_28]
        have e9 : (A0.length : Int) + 1 - 1 = A0.length := by omega
        simp (disch := omega) only [x_X1_sortTargets_29, x_X1_sortTargets_32, x_X1_sortTargets_33, x_X1_sortTargets_36, x_X1_sortTargets_37, x_X1_sortTargets_38, x_X1_sortTargets_39, x_X1_sortTargets_40, x_X1_sortTargets_41, x_X1_sortTargets_44, x_X1_sortTargets_45, x_X1_sortTargets_48, x_X1_sortTargets_49, x_X1_sortTargets_50, x_X1_sortTargets_53, x_X1_sortTargets_54, x_X1_sortTargets_55, x_X1_sortTargets_56, x_X1_sortTargets_57, x_X1_sortTargets_58, x_X1_sortTargets_61, x_X1_sortTargets_64, x_X1_sortTargets_65, x_X1_sortTargets_68, x_X1_sortTargets_69, x_X1_sortTargets_70, x_X1_sortTargets_71, x_X1_sortTargets_74, List.length_cons, List.length_nil, Nat.reduceLeDiff, Nat.zero_add, iI_add, iI_sub, iI_mul, iI_neg, iI_lt, iI_le, iI_eq, jI_iI, B_True, B_False, B_t, B_f, ck_True, gd_True, cb_v, cb_n, p_mv_rw, p_fv_rw, p_rv_some, pA_1, pA_90, pA_92, pA_3, pA_5, pA_93, pA_4, pA_91, pA_6, pS_i, pB_i, pW_i, pZ_0, pZ_1, pZ_b, bI_e0, u1_s, u1_n, uA_s, uA_n, true_and, and_true, not_true_eq_false, not_false_eq_true, eq_self, iI_z, al1, al5, al3, al4, al90, al91, al92, al93, al6, Int.cast_ofNat_Int, Nat.reduceAdd, Int.reduceNeg, Int.reduceAdd, Int.reduceSub, Int.reduceMul, Int.reduceLT, Int.reduceLE, Int.reduceGT, Int.reduceGE, Int.reduceEq, Int.reduceNe, Nat.reduceEqDiff, Int.zero_add, Int.add_zero, p_ty0, p_ty1, p_ty2, p_ty3, p_ty4, p_ty5, p_ty8, p_ty9, p_ty10, t0, f9, t5, hrd, e9, B_t, B_f]
      · rcases List.mem_append.mp hz with hz | hz
        · have := (List.pairwise_append.mp hs).2.2 z hz a (by simp)
          omega
        · rw [List.mem_singleton.mp hz]; omega
theorem c_sort (hG : GT T F g) (h : TG M M1 g L) (hL : L.length ≤ 42) (hr : ∀ a ∈ L, -1000000 ≤ a ∧ a ≤ 1000000) : ∃ M2 L', (∀ d, 1 ≤ d → callD d m_X1_sortTargets [.ref g] T M1 F = some (.inl none, T, M2, F)) ∧ TG M M2 g L' ∧ L'.Pairwise (· ≤ ·) ∧ L'.Perm L := by
  have key : ∀ (m : Nat) (P R' : List Int) (l2 l3 : Slot) (M1 : pM), P.length + m = L.length → 1 ≤ P.length → P.Pairwise (· ≤ ·) → (P ++ R').Perm L → TG M M1 g (P ++ R') →
      ∃ M2 L', (∀ e, 0 ≤ e → R e m_X1_sortTargets 2 [.val (.ref g), .val (.int (iI (P.length : Int))), l2, l3] [] T M1 F = some (.inl none, T, M2, F)) ∧ TG M M2 g L' ∧ L'.Pairwise (· ≤ ·) ∧ L'.Perm L := by
    intro m
    induction m with
    | zero =>
      intro P R' l2 l3 M1 hm h1 hs hp h
      have hlen := hp.length_eq
      rw [List.length_append] at hlen
      have hR' : R' = [] := List.eq_nil_of_length_eq_zero (by omega)
      subst hR'
      rw [List.append_nil] at hp h
      refine ⟨M1, P, fun e he => ?_, h, hs, hp⟩
      obtain ⟨hg, t0, f0, hB, t3, f4, t4, f6, t5, f9, t6, f11⟩ := hG
      have hc := h.1
      simp (disch := omega) only [x_X1_sortTargets_2, x_X1_sortTargets_3, x_X1_sortTargets_4, x_X1_sortTargets_7, x_X1_sortTargets_77, List.length_cons, List.length_nil, Nat.reduceLeDiff, Nat.zero_add, iI_add, iI_sub, iI_mul, iI_neg, iI_lt, iI_le, iI_eq, jI_iI, B_True, B_False, B_t, B_f, ck_True, gd_True, cb_v, cb_n, p_mv_rw, p_fv_rw, p_rv_some, pA_1, pA_90, pA_92, pA_3, pA_5, pA_93, pA_4, pA_91, pA_6, pS_i, pB_i, pW_i, pZ_0, pZ_1, pZ_b, bI_e0, u1_s, u1_n, uA_s, uA_n, true_and, and_true, not_true_eq_false, not_false_eq_true, eq_self, iI_z, al1, al5, al3, al4, al90, al91, al92, al93, al6, Int.cast_ofNat_Int, Nat.reduceAdd, Int.reduceNeg, Int.reduceAdd, Int.reduceSub, Int.reduceMul, Int.reduceLT, Int.reduceLE, Int.reduceGT, Int.reduceGE, Int.reduceEq, Int.reduceNe, Nat.reduceEqDiff, Int.zero_add, Int.add_zero, p_ty0, p_ty1, p_ty2, p_ty3, p_ty4, p_ty5, p_ty8, p_ty9, p_ty10, t0, f9, t5, hc, B_t, B_f]
    | succ m ih =>
      intro P R' l2 l3 M1 hm h1 hs hp h
      have hlen := hp.length_eq
      rw [List.length_append] at hlen
      cases R' with
      | nil => simp at hlen; omega
      | cons x R' =>
        have hmem : ∀ a ∈ P ++ x :: R', -1000000 ≤ a ∧ a ≤ 1000000 := fun a ha => hr a (hp.mem_iff.mp ha)
        obtain ⟨A', D, M2, l4, e1, e2, e3, e4, e5⟩ := c_insert (T := T) (F := F) (x := x) hG (hmem x (by simp)) R' (i := P.length) (by omega) P.length P x [] M1 rfl hs (fun a ha => hmem a (by simp [ha])) (hmem x (by simp)) (by simp at hlen ⊢; omega) h
        rw [List.nil_append] at e5
        have h5 : TG M M2 g ((A' ++ x :: D) ++ R') := by rw [List.append_assoc]; exact e5
        have hpl : (A' ++ x :: D).length = P.length + 1 := by rw [e2]; simp; omega
        obtain ⟨M3, L', e6, e7, e8, e9⟩ := ih (A' ++ x :: D) R' (.val (.int (iI x))) l4 M2 (by omega) (by omega) (by
          rw [e2] at hs
          obtain ⟨s1, s2, s3⟩ := List.pairwise_append.mp hs
          refine List.pairwise_append.mpr ⟨s1, List.pairwise_cons.mpr ⟨e4, s2⟩, fun a ha z hz => ?_⟩
          rcases List.mem_cons.mp hz with rfl | hz
          · exact e3 a ha
          · exact s3 a ha z hz) (by
          refine List.Perm.trans ?_ hp
          rw [e2]
          refine List.Perm.trans ?_ (List.perm_middle.symm)
          exact List.Perm.append_right R' List.perm_middle) h5
        refine ⟨M3, L', fun e he => ?_, e7, e8, e9⟩
        have e6 := e6 e he
        rw [hpl] at e6
        rw [← e6]
        have hx : M1 (g + 5) (P.length : Int) = x := by
          rw [h.2.1 P.length (by simp)]
          exact getD_mid P x R'
        obtain ⟨hg, t0, f0, hB, t3, f4, t4, f6, t5, f9, t6, f11⟩ := hG
        have hc : M1 g 10 = (L.length : Int) := by rw [h.1, List.length_append, hlen]
        rw [x_X1_sortTargets_2]
        have hl9 : (P.length : Int) + 1 ≤ L.length := by omega
        have e1 := e1 e he
        rw [Int.natCast_add_one]
        rw [← e1]
        clear e1 ih e6 h hp hmem e5 h5 hs
        simp (disch := omega) only [x_X1_sortTargets_3, x_X1_sortTargets_4, x_X1_sortTargets_7, x_X1_sortTargets_10, x_X1_sortTargets_11, x_X1_sortTargets_12, x_X1_sortTargets_15, x_X1_sortTargets_16, x_X1_sortTargets_19, x_X1_sortTargets_20, x_X1_sortTargets_23, x_X1_sortTargets_24, x_X1_sortTargets_25, x_X1_sortTargets_26, x_X1_sortTargets_27, List.length_cons, List.length_nil, Nat.reduceLeDiff, Nat.zero_add, iI_add, iI_sub, iI_mul, iI_neg, iI_lt, iI_le, iI_eq, jI_iI, B_True, B_False, B_t, B_f, ck_True, gd_True, cb_v, cb_n, p_mv_rw, p_fv_rw, p_rv_some, pA_1, pA_90, pA_92, pA_3, pA_5, pA_93, pA_4, pA_91, pA_6, pS_i, pB_i, pW_i, pZ_0, pZ_1, pZ_b, bI_e0, u1_s, u1_n, uA_s, uA_n, true_and, and_true, not_true_eq_false, not_false_eq_true, eq_self, iI_z, al1, al5, al3, al4, al90, al91, al92, al93, al6, Int.cast_ofNat_Int, Nat.reduceAdd, Int.reduceNeg, Int.reduceAdd, Int.reduceSub, Int.reduceMul, Int.reduceLT, Int.reduceLE, Int.reduceGT, Int.reduceGE, Int.reduceEq, Int.reduceNe, Nat.reduceEqDiff, Int.zero_add, Int.add_zero, p_ty0, p_ty1, p_ty2, p_ty3, p_ty4, p_ty5, p_ty8, p_ty9, p_ty10, t0, f9, t5, hc, hx, B_t, B_f]
  cases hLL : L with
  | nil =>
    subst hLL
    refine ⟨M1, [], fun d hd => ?_, h, List.Pairwise.nil, List.Perm.refl _⟩
    refine callD_go 0 hd rfl (fun e he => ?_)
    show R e m_X1_sortTargets 0 [.val (.ref g), .unset, .unset, .unset] [] T M1 F = _
    obtain ⟨hg, t0, f0, hB, t3, f4, t4, f6, t5, f9, t6, f11⟩ := hG
    have hc : M1 g 10 = 0 := h.1
    simp (disch := omega) only [x_X1_sortTargets_0, x_X1_sortTargets_1, x_X1_sortTargets_2, x_X1_sortTargets_3, x_X1_sortTargets_4, x_X1_sortTargets_7, x_X1_sortTargets_77, List.length_cons, List.length_nil, Nat.reduceLeDiff, Nat.zero_add, iI_add, iI_sub, iI_mul, iI_neg, iI_lt, iI_le, iI_eq, jI_iI, B_True, B_False, B_t, B_f, ck_True, gd_True, cb_v, cb_n, p_mv_rw, p_fv_rw, p_rv_some, pA_1, pA_90, pA_92, pA_3, pA_5, pA_93, pA_4, pA_91, pA_6, pS_i, pB_i, pW_i, pZ_0, pZ_1, pZ_b, bI_e0, u1_s, u1_n, uA_s, uA_n, true_and, and_true, not_true_eq_false, not_false_eq_true, eq_self, iI_z, al1, al5, al3, al4, al90, al91, al92, al93, al6, Int.cast_ofNat_Int, Nat.reduceAdd, Int.reduceNeg, Int.reduceAdd, Int.reduceSub, Int.reduceMul, Int.reduceLT, Int.reduceLE, Int.reduceGT, Int.reduceGE, Int.reduceEq, Int.reduceNe, Nat.reduceEqDiff, Int.zero_add, Int.add_zero, p_ty0, p_ty1, p_ty2, p_ty3, p_ty4, p_ty5, p_ty8, p_ty9, p_ty10, t0, f9, t5, hc, B_t, B_f]
  | cons x R' =>
    rw [hLL] at key h
    obtain ⟨M2, L', e1, e2, e3, e4⟩ := key R'.length [x] R' .unset .unset M1 (by simp; omega) (by simp) (List.pairwise_singleton ..) (List.Perm.refl _) h
    refine ⟨M2, L', fun d hd => ?_, e2, e3, e4⟩
    refine callD_go 0 hd rfl (fun e he => ?_)
    show R e m_X1_sortTargets 0 [.val (.ref g), .unset, .unset, .unset] [] T M1 F = _
    simp (disch := omega) only [x_X1_sortTargets_0, x_X1_sortTargets_1, List.length_cons, List.length_nil, Nat.reduceLeDiff, Nat.zero_add, iI_add, iI_sub, iI_mul, iI_neg, iI_lt, iI_le, iI_eq, jI_iI, B_True, B_False, B_t, B_f, ck_True, gd_True, cb_v, cb_n, p_mv_rw, p_fv_rw, p_rv_some, pA_1, pA_90, pA_92, pA_3, pA_5, pA_93, pA_4, pA_91, pA_6, pS_i, pB_i, pW_i, pZ_0, pZ_1, pZ_b, bI_e0, u1_s, u1_n, uA_s, uA_n, true_and, and_true, not_true_eq_false, not_false_eq_true, eq_self, iI_z, al1, al5, al3, al4, al90, al91, al92, al93, al6, Int.cast_ofNat_Int, Nat.reduceAdd, Int.reduceNeg, Int.reduceAdd, Int.reduceSub, Int.reduceMul, Int.reduceLT, Int.reduceLE, Int.reduceGT, Int.reduceGE, Int.reduceEq, Int.reduceNe, Nat.reduceEqDiff, Int.zero_add, Int.add_zero, p_ty0, p_ty1, p_ty2, p_ty3, p_ty4, p_ty5, p_ty8, p_ty9, p_ty10]
    exact e1 e he
end PSORT
