section PH6
variable {d : Nat} {T : pT} {M : pM} {F : pF} {b g : Nat} {p s k x : Int}
def BK (M : pM) (b : Nat) : Prop := (-1 ≤ M b 1 ∧ M b 1 < 289) ∧ (-1 ≤ M b 2 ∧ M b 2 < 289)
def q_kf (M : pM) (b : Nat) (p x : Int) : Int → Int := fun j => if j = 1 then (if x = 1 then p else if p = M b 1 then -1 else M b 1) else if j = 2 then (if x = 9 then p else if p = M b 2 then -1 else M b 2) else M b j
def q_set (M : pM) (b : Nat) (p x : Int) : pM := if 0 ≤ p ∧ p < 289 ∧ M (b + 1) p ≠ -1 then uA (uA M (b + 1) (u1 (M (b + 1)) p x)) b (q_kf M b p x) else M
theorem c_set (hB : BT T F b) (hv : BV (M (b + 1))) (hK : BK M b) (hd : 1 ≤ d) (hp : -1000 ≤ p ∧ p ≤ 1000) (hx : -100 ≤ x ∧ x ≤ 100) :
    callD d m_X0_set [.ref b, .int (iI p), .int (iI x)] T M F = some (.inl none, T, q_set M b p x, F) := by
  obtain ⟨hb, t0, t1, f0⟩ := hB
  obtain ⟨hk1, hk2⟩ := hK
  refine callD_go 0 hd rfl (fun e he => ?_)
  show R e m_X0_set 0 [.val (.ref b), .val (.int (iI p)), .val (.int (iI x))] [] T M F = _
  have hvp := hv p
  repeat' (first | (refine B_splitn (fun _ => ?_) (fun _ => ?_)) | (refine B_split (fun _ => ?_) (fun _ => ?_)) | (simp (disch := omega) only [x_X0_set_0, x_X0_set_1, x_X0_set_4, x_X0_set_5, x_X0_set_6, x_X0_set_9, x_X0_set_10, x_X0_set_13, x_X0_set_14, x_X0_set_17, x_X0_set_18, x_X0_set_19, x_X0_set_20, x_X0_set_23, x_X0_set_24, x_X0_set_25, x_X0_set_28, x_X0_set_29, x_X0_set_30, x_X0_set_31, x_X0_set_32, x_X0_set_33, x_X0_set_36, x_X0_set_39, x_X0_set_40, x_X0_set_41, x_X0_set_44, x_X0_set_45, x_X0_set_46, x_X0_set_49, x_X0_set_52, x_X0_set_53, x_X0_set_54, x_X0_set_57, x_X0_set_58, x_X0_set_59, x_X0_set_62, x_X0_set_63, x_X0_set_64, x_X0_set_67, x_X0_set_68, x_X0_set_70, x_X0_set_73, x_X0_set_74, x_X0_set_75, x_X0_set_78, List.length_cons, List.length_nil, Nat.reduceLeDiff, Nat.zero_add, iI_add, iI_sub, iI_mul, iI_neg, iI_lt, iI_le, iI_eq, jI_iI, B_True, B_False, B_t, B_f, ck_True, gd_True, cb_v, cb_n, p_mv_rw, p_fv_rw, p_rv_some, pA_1, pA_90, pA_92, pA_3, pA_5, pA_93, pA_4, pA_91, pA_6, pS_i, pB_i, pW_i, pZ_0, pZ_1, pZ_b, bI_e0, u1_s, u1_n, uA_s, uA_n, true_and, and_true, not_true_eq_false, not_false_eq_true, eq_self, iI_z, al1, al5, al3, al4, al90, al91, al92, al93, al6, Int.cast_ofNat_Int, Nat.reduceAdd, Int.reduceNeg, Int.reduceAdd, Int.reduceSub, Int.reduceMul, Int.reduceLT, Int.reduceLE, Int.reduceGT, Int.reduceGE, Int.reduceEq, Int.reduceNe, Nat.reduceEqDiff, Int.zero_add, Int.add_zero, p_ty0, p_ty1, p_ty2, p_ty3, p_ty4, p_ty5, p_ty8, p_ty9, p_ty10, t0, t1, f0]))
  all_goals refine congrArg (fun z => some (Sum.inl none, T, z, F)) ?_
  all_goals unfold q_set
  all_goals first
    | (rw [if_neg (by omega)]; done)
    | rw [if_pos (by omega)]
  all_goals
    funext a j
    simp only [uA, u1, q_kf]
    by_cases e1 : a = b
    · subst e1
      have e2 : ¬ a = a + 1 := by omega
      by_cases j1 : j = 1
      · subst j1; (repeat' split) <;> first | rfl | omega | (unfold q_kf; (try unfold u1); (try unfold u1); (repeat' split) <;> first | rfl | omega)
      · by_cases j2 : j = 2
        · subst j2; (repeat' split) <;> first | rfl | omega | (unfold q_kf; (try unfold u1); (try unfold u1); (repeat' split) <;> first | rfl | omega)
        · (repeat' split) <;> first | rfl | omega | (unfold q_kf; (try unfold u1); (try unfold u1); (repeat' split) <;> first | rfl | omega)
    · (repeat' split) <;> first | rfl | omega | (unfold q_kf; (try unfold u1); (try unfold u1); (repeat' split) <;> first | rfl | omega)
end PH6
