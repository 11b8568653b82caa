section PCNT
variable {d : Nat} {T : pT} {M M0 M1 M2 : pM} {F : pF} {b g : Nat} {bb v w : Int → Int} {k s t pas q its to as c x p kc i acc en : Int} {A Z P L Q : List Int} {n : Nat}
/-- how many of the places are safe -/
noncomputable def cSn (bb : Int → Int) (t pas its : Int) : List Int → Nat
  | [] => 0
  | p :: L => @ite _ (¬ m_chk (mk_bb bb pas its (q_cel p) 2) t) (Classical.propDecidable _) 1 0 + cSn bb t pas its L
theorem cSn_perm {A B : List Int} (h : A.Perm B) : cSn bb t pas its A = cSn bb t pas its B := by
  induction h with
  | nil => rfl
  | cons x h ih => rw [cSn, cSn, ih]
  | swap x y l => rw [cSn, cSn, cSn, cSn]; omega
  | trans h1 h2 ih1 ih2 => exact ih1.trans ih2
theorem cSn_fS : ∀ L : List Int, (∀ c ∈ L, 0 ≤ c ∧ c < 91) → cSn bb t pas its (L.map q_pl) = (fS bb t pas its L).length
  | [], _ => rfl
  | c :: L, h => by
    rw [List.map_cons, cSn, fS, List.length_append, cSn_fS L (fun c hc => h c (List.mem_cons_of_mem _ hc)), geo1 (h c List.mem_cons_self)]
    by_cases z : ¬ m_chk (mk_bb bb pas its c 2) t
    · rw [if_pos z, if_pos z]; rfl
    · rw [if_neg z, if_neg z]; rfl
theorem cSn_gaL (h : VB v bb) (hb : MB bb) (ht : t = 0 ∨ t = 1) (hp : PS bb t pas) (hk : 0 ≤ its ∧ its < 91) : cSn bb t pas its (gaL v bb t pas its) = (lgC bb t pas its).length := by
  have h1 : ((gaL v bb t pas its).mergeSort (fun a b => decide (a ≤ b))).Perm (gaL v bb t pas its) := List.mergeSort_perm _ _
  have h2 : ((gaL v bb t pas its).mergeSort (fun a b => decide (a ≤ b))).Pairwise (· ≤ ·) := by
    refine (List.pairwise_mergeSort (le := fun a b => decide (a ≤ b)) ?_ ?_ _).imp ?_
    · intro a b c h1 h2; simp at h1 h2 ⊢; omega
    · intro a b; simp; omega
    · intro a b h; simpa using h
  have h3 := sorted_eq h hb ht hp hk h2 h1
  rw [h3] at h1
  rw [← cSn_perm h1, cSn_fS _ (fun c hc => by have := (flt_mem _ 91 0).mp hc; omega), fS_flt]
  rfl
theorem cSn_len : ∀ L : List Int, cSn bb t pas its L ≤ L.length
  | [] => Nat.le_refl _
  | p :: L => by
    have := cSn_len L
    rw [cSn, List.length_cons]
    split <;> omega
theorem cm_in (hG : GT T F g) (hS : GS M g bb t pas q) (hq : q ≤ 190) (hk : m_king bb t ≠ -1) (h13 : M g 13 = bI (m_chk bb t)) (hP : PN M g bb t (m_king bb t) 12) (hi : 0 ≤ its ∧ its < 91) (hen : 1 ≤ en ∧ en ≤ 840)
    (hZ : ∀ x ∈ Z, ∃ c, x = q_pl c ∧ MV bb t pas its c) (hZl : Z.length ≤ 42) (h10 : M g 10 = Z.length) (h5 : ∀ j : Nat, j < Z.length → M (g + 5) (j : Int) = Z.getD j 0) {e : Nat} (he : 4 ≤ e) :
    ∀ (Q P : List Int) (n : Nat), P ++ Q = Z → n + Q.length ≤ 10000 →
      R e m_X1_countMoves 34 [.val (.ref g), .val (.int (iI en)), .val (.int (iI (n : Int))), .val (.int (iI its)), .val (.int (iI (q_pl its))), .val (.int (iI (P.length : Int)))] [] T M F = R e m_X1_countMoves 8 [.val (.ref g), .val (.int (iI en)), .val (.int (iI ((n + cSn bb t pas its Q : Nat) : Int))), .val (.int (iI (its + 1))), .val (.int (iI (q_pl its))), .val (.int (iI (Z.length : Int)))] [] T M F := by
  intro Q
  have t0 := hG.2.1
  induction Q with
  | nil =>
    intro P n hP' hn
    rw [List.append_nil] at hP'
    subst hP'
    rw [cSn, Nat.add_zero, x_X1_countMoves_34]
    obtain ⟨hg, -, f0, hB, t3, f4, t4, f6, t5, f9, t6, f11⟩ := hG
    clear hS hP hZ h5
    simp (disch := omega) only [x_X1_countMoves_36, x_X1_countMoves_37, x_X1_countMoves_40, x_X1_countMoves_78, x_X1_countMoves_81, List.length_cons, List.length_nil, Nat.reduceLeDiff, Nat.zero_add, iI_add, iI_sub, iI_mul, iI_neg, iI_lt, iI_le, iI_eq, jI_iI, B_True, B_False, B_t, B_f, ck_True, gd_True, cb_v, cb_n, p_mv_rw, p_fv_rw, p_rv_some, pA_1, pA_90, pA_92, pA_3, pA_5, pA_93, pA_4, pA_91, pA_6, pS_i, pB_i, pW_i, pZ_0, pZ_1, pZ_b, bI_e0, u1_s, u1_n, uA_s, uA_n, true_and, and_true, not_true_eq_false, not_false_eq_true, eq_self, iI_z, al1, al5, al3, al4, al90, al91, al92, al93, al6, Int.cast_ofNat_Int, Nat.reduceAdd, Int.reduceNeg, Int.reduceAdd, Int.reduceSub, Int.reduceMul, Int.reduceLT, Int.reduceLE, Int.reduceGT, Int.reduceGE, Int.reduceEq, Int.reduceNe, Nat.reduceEqDiff, Int.zero_add, Int.add_zero, p_ty0, p_ty1, p_ty2, p_ty3, p_ty4, p_ty5, p_ty8, p_ty9, p_ty10, t0, f9, t5, h10, B_t, B_f]
  | cons x Q ih =>
    intro P n hP' hn
    have hPl : P.length + 1 + Q.length = Z.length := by rw [← hP']; simp; omega
    obtain ⟨c, hxc, hmv⟩ := hZ x (by rw [← hP']; simp)
    have hx : M (g + 5) (P.length : Int) = x := by
      rw [h5 P.length (by omega), ← hP', getD_mid]
    have hqc := q_pl_nn hmv.2.1
    have hqi := q_pl_nn hi
    have hsf := c_isSafe (d := e) (T := T) (F := F) hG hS hq hk h13 hP hmv (by omega)
    have hcx : q_cel x = c := by rw [hxc, geo1 hmv.2.1]
    rw [← hxc] at hsf hqc
    rw [List.length_cons] at hn
    rw [cSn, hcx, x_X1_countMoves_34]
    by_cases hs : ¬ m_chk (mk_bb bb pas its c 2) t
    · have ih := ih (P ++ [x]) (n + 1) (by rw [List.append_assoc]; exact hP') (by omega)
      rw [List.length_append, List.length_singleton, Int.natCast_add_one, Int.natCast_add_one] at ih
      rw [if_pos hs, show n + (1 + cSn bb t pas its Q) = n + 1 + cSn bb t pas its Q by omega, ← ih]
      rw [bI_t hs] at hsf
      obtain ⟨hg, -, f0, hB, t3, f4, t4, f6, t5, f9, t6, f11⟩ := hG
      clear ih hS hP hZ h5 hmv
      simp (disch := omega) only [x_X1_countMoves_36, x_X1_countMoves_37, x_X1_countMoves_40, x_X1_countMoves_43, x_X1_countMoves_45, x_X1_countMoves_46, x_X1_countMoves_49, x_X1_countMoves_50, x_X1_countMoves_53, x_X1_countMoves_54, x_X1_countMoves_56, x_X1_countMoves_57, x_X1_countMoves_60, x_X1_countMoves_62, x_X1_countMoves_63, x_X1_countMoves_66, x_X1_countMoves_69, x_X1_countMoves_72, x_X1_countMoves_75, List.length_cons, List.length_nil, Nat.reduceLeDiff, Nat.zero_add, iI_add, iI_sub, iI_mul, iI_neg, iI_lt, iI_le, iI_eq, jI_iI, B_True, B_False, B_t, B_f, ck_True, gd_True, cb_v, cb_n, p_mv_rw, p_fv_rw, p_rv_some, pA_1, pA_90, pA_92, pA_3, pA_5, pA_93, pA_4, pA_91, pA_6, pS_i, pB_i, pW_i, pZ_0, pZ_1, pZ_b, bI_e0, u1_s, u1_n, uA_s, uA_n, true_and, and_true, not_true_eq_false, not_false_eq_true, eq_self, iI_z, al1, al5, al3, al4, al90, al91, al92, al93, al6, Int.cast_ofNat_Int, Nat.reduceAdd, Int.reduceNeg, Int.reduceAdd, Int.reduceSub, Int.reduceMul, Int.reduceLT, Int.reduceLE, Int.reduceGT, Int.reduceGE, Int.reduceEq, Int.reduceNe, Nat.reduceEqDiff, Int.zero_add, Int.add_zero, p_ty0, p_ty1, p_ty2, p_ty3, p_ty4, p_ty5, p_ty8, p_ty9, p_ty10, t0, f9, t5, h10, hx, hsf, B_t, B_f, gd_t]
    · have ih := ih (P ++ [x]) n (by rw [List.append_assoc]; exact hP') (by omega)
      rw [List.length_append, List.length_singleton, Int.natCast_add_one] at ih
      rw [if_neg hs, Nat.zero_add, ← ih]
      rw [bI_f hs] at hsf
      obtain ⟨hg, -, f0, hB, t3, f4, t4, f6, t5, f9, t6, f11⟩ := hG
      clear ih hS hP hZ h5 hmv
      simp (disch := omega) only [x_X1_countMoves_36, x_X1_countMoves_37, x_X1_countMoves_40, x_X1_countMoves_43, x_X1_countMoves_45, x_X1_countMoves_46, x_X1_countMoves_49, x_X1_countMoves_50, x_X1_countMoves_53, x_X1_countMoves_54, x_X1_countMoves_56, x_X1_countMoves_57, x_X1_countMoves_60, x_X1_countMoves_62, x_X1_countMoves_63, x_X1_countMoves_66, x_X1_countMoves_69, x_X1_countMoves_72, x_X1_countMoves_75, List.length_cons, List.length_nil, Nat.reduceLeDiff, Nat.zero_add, iI_add, iI_sub, iI_mul, iI_neg, iI_lt, iI_le, iI_eq, jI_iI, B_True, B_False, B_t, B_f, ck_True, gd_True, cb_v, cb_n, p_mv_rw, p_fv_rw, p_rv_some, pA_1, pA_90, pA_92, pA_3, pA_5, pA_93, pA_4, pA_91, pA_6, pS_i, pB_i, pW_i, pZ_0, pZ_1, pZ_b, bI_e0, u1_s, u1_n, uA_s, uA_n, true_and, and_true, not_true_eq_false, not_false_eq_true, eq_self, iI_z, al1, al5, al3, al4, al90, al91, al92, al93, al6, Int.cast_ofNat_Int, Nat.reduceAdd, Int.reduceNeg, Int.reduceAdd, Int.reduceSub, Int.reduceMul, Int.reduceLT, Int.reduceLE, Int.reduceGT, Int.reduceGE, Int.reduceEq, Int.reduceNe, Nat.reduceEqDiff, Int.zero_add, Int.add_zero, p_ty0, p_ty1, p_ty2, p_ty3, p_ty4, p_ty5, p_ty8, p_ty9, p_ty10, t0, f9, t5, h10, hx, hsf, B_t, B_f, gd_t]
end PCNT
