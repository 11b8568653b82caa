section PATT
/-! attacks: the simulation's answer is AT's -/
variable {d s b n : Nat} {T T1 : pT} {M M1 : pM} {F F1 : pF} {bb : Int → Int} {k t pas q its to as i c p x y X Y mv side f g st n9 fr : Int}
theorem z_isFree (hI : SI T F s b) (hr : ∀ j, 1 ≤ j → j < n9 → 0 ≤ fr + j * st ∧ fr + j * st < 121) (hv : ∀ p, 0 ≤ p → p < 121 → -6 ≤ M b p ∧ M b p ≤ 99) (hn : 1 ≤ n9 ∧ n9 ≤ 20) (hf : 0 ≤ fr ∧ fr < 121 ∧ -100 ≤ st ∧ st ≤ 100) (hd : 1 ≤ d) :
    callD d m_X8_isFree [.ref s, .int (iI fr), .int (iI st), .int (iI n9)] T M F = some (.inl (some (.int (iI (bI (∀ j, 1 ≤ j → j < n9 → M b (fr + j * st) = 0))))), T, M, F) := by
  refine callD_go 0 hd rfl (fun e he => ?_)
  show R e m_X8_isFree 0 [.val (.ref s), .val (.int (iI fr)), .val (.int (iI st)), .val (.int (iI n9)), .unset] [] T M F = _
  have h := z_frL e hI (st := st) (n9 := n9) (fr := fr) hr hv ⟨hn.2, hf⟩ (n9 - 1).toNat 1 (by omega) (by omega)
  rw [← h]
  simp (disch := omega) only [x_X8_isFree_0, x_X8_isFree_1, List.length_cons, List.length_nil, Nat.reduceLeDiff, Nat.zero_add, iI_add, iI_sub, iI_mul, iI_neg, iI_lt, iI_le, iI_eq, jI_iI, B_True, B_False, B_t, B_f, ck_True, gd_True, cb_v, cb_n, p_mv_rw, p_fv_rw, p_rv_some, pA_1, pA_90, pA_92, pA_3, pA_5, pA_93, pA_4, pA_91, pA_6, pS_i, pB_i, pW_i, pZ_0, pZ_1, pZ_b, bI_e0, u1_s, u1_n, uA_s, uA_n, true_and, and_true, not_true_eq_false, not_false_eq_true, eq_self, iI_z, al1, al5, al3, al4, al90, al91, al92, al93, al6, Int.cast_ofNat_Int, Nat.reduceAdd, Int.reduceNeg, Int.reduceAdd, Int.reduceSub, Int.reduceMul, Int.reduceLT, Int.reduceLE, Int.reduceGT, Int.reduceGE, Int.reduceEq, Int.reduceNe, Nat.reduceEqDiff, Int.zero_add, Int.add_zero, p_ty0, p_ty1, p_ty2, p_ty3, p_ty4, p_ty5, p_ty8, p_ty9, p_ty10]
theorem exdivN : ∀ i : Nat, i < 12 → ∀ n : Nat, n < 11 → (n == 0 || iI ((n : Int) * (11 * dX (i : Int) + dY (i : Int))) / iI (n : Int) == iI (11 * dX (i : Int) + dY (i : Int))) = true := by decide +kernel
theorem exdiv {i n : Nat} (hi : i < 12) (hn : 1 ≤ n ∧ n < 11) : iI ((n : Int) * (11 * dX (i : Int) + dY (i : Int))) / iI (n : Int) = iI (11 * dX (i : Int) + dY (i : Int)) := by
  have h := exdivN i hi n hn.2
  rw [Bool.or_eq_true, beq_iff_eq, beq_iff_eq] at h
  exact h.resolve_left (by omega)
theorem ray_xy (hk : 0 ≤ k ∧ k < 91) (ht : 0 ≤ to ∧ to < 91) (hi : 0 ≤ i ∧ i < 12) (h : onRay bb i 17 (gn k i) to) : ∃ n : Nat, (1 ≤ n ∧ n ≤ 10) ∧ gx to - gx k = n * dX i ∧ gy to - gy k = n * dY i ∧ ∀ j : Nat, 1 ≤ j → j < n → wk k i j ≠ -1 ∧ bb (wk k i j) = 0 := by
  obtain ⟨n, n1, n2, n3, n4, n5⟩ := (onRay_wk hi 17 k hk).mp h
  obtain ⟨e1, e2⟩ := (to_cA ht).mp n3
  have r1 := gxy_rg hk
  have r2 := gxy_rg ht
  refine ⟨n, ⟨n1, ?_⟩, by omega, by omega, n5⟩
  have hcs : i = 0 ∨ i = 1 ∨ i = 2 ∨ i = 3 ∨ i = 4 ∨ i = 5 ∨ i = 6 ∨ i = 7 ∨ i = 8 ∨ i = 9 ∨ i = 10 ∨ i = 11 := by omega
  clear n3 n5 h
  rcases hcs with rfl | rfl | rfl | rfl | rfl | rfl | rfl | rfl | rfl | rfl | rfl | rfl <;> (simp only [dX, dY] at e1 e2; simp at e1 e2; omega)
theorem ray_is (hk : 0 ≤ k ∧ k < 91) (ht : 0 ≤ to ∧ to < 91) (hi : 0 ≤ i ∧ i < 12) (hn : 1 ≤ n ∧ n ≤ 10) (hX : gx to - gx k = n * dX i) (hY : gy to - gy k = n * dY i) (h : ∀ j : Nat, 1 ≤ j → j < n → wk k i j ≠ -1 ∧ bb (wk k i j) = 0) : onRay bb i 17 (gn k i) to :=
  (onRay_wk hi 17 k hk).mpr ⟨n, hn.1, by omega, (to_cA ht).mpr ⟨by omega, by omega⟩, by omega, h⟩
/-- at most one way leads there -/
theorem dXY_inj {i j n : Nat} (hi : i < 12) (hj : j < 12) (h1 : dX i = dX j) (h2 : dY i = dY j) : i = j := by
  have h : ∀ i : Nat, i < 12 → ∀ j : Nat, j < 12 → dX i = dX j → dY i = dY j → i = j := by decide +kernel
  exact h i hi j hj h1 h2
theorem ray_one (hk : 0 ≤ k ∧ k < 91) (ht : 0 ≤ to ∧ to < 91) {i : Nat} (hi : i < 12) (hn : 1 ≤ n ∧ n ≤ 10) (hX : gx to - gx k = n * dX i) (hY : gy to - gy k = n * dY i) {i' : Int} (hi' : 0 ≤ i' ∧ i' < 12) (h6 : i < 6 ↔ i' < 6) (h : onRay bb i' 17 (gn k i') to) : i' = i ∧ ∀ j : Nat, 1 ≤ j → j < n → wk k i j ≠ -1 ∧ bb (wk k i j) = 0 := by
  obtain ⟨n', m1, m2, m3, m4⟩ := ray_xy hk ht hi' h
  obtain ⟨i', rfl⟩ : ∃ u : Nat, i' = u := ⟨i'.toNat, (Int.toNat_of_nonneg hi'.1).symm⟩
  have t1 := tb5_of (i := i) (n := n) hi (by omega)
  have t2 := tb5_of (i := i') (n := n') (by omega) (by omega)
  rw [← hX, ← hY] at t1
  rw [← m2, ← m3] at t2
  have en : n' = n := by
    by_cases c : i < 6
    · have := (t1.1 c).2; have := (t2.1 (by omega)).2; omega
    · have := (t1.2 (by omega)).1; have := (t2.2 (by omega)).1; omega
  subst en
  have ei : i' = i := by
    refine dXY_inj (n := 0) (by omega) hi ?_ ?_
    · exact Int.eq_of_mul_eq_mul_left (a := (n' : Int)) (by omega) (by omega)
    · exact Int.eq_of_mul_eq_mul_left (a := (n' : Int)) (by omega) (by omega)
  subst ei
  exact ⟨rfl, m4⟩
/-- the words for what attacks, by steps -/
theorem AT_k (hk : 0 ≤ k ∧ k < 91) (ht : 0 ≤ to ∧ to < 91) : (∃ i : Int, 0 ≤ i ∧ i < 12 ∧ to = gn k i) ↔ ∃ i : Nat, i < 12 ∧ gx to - gx k = dX i ∧ gy to - gy k = dY i := by
  constructor
  · rintro ⟨i, h1, h2, h3⟩
    rw [(gn_xy hk ⟨h1, h2⟩).1, to_cA ht] at h3
    exact ⟨i.toNat, by omega, by rw [Int.toNat_of_nonneg h1]; omega, by rw [Int.toNat_of_nonneg h1]; omega⟩
  · rintro ⟨i, h1, h2, h3⟩
    refine ⟨i, by omega, by omega, ?_⟩
    rw [(gn_xy hk (by omega)).1, to_cA ht]
    omega
theorem AT_j (hk : 0 ≤ k ∧ k < 91) (ht : 0 ≤ to ∧ to < 91) : (∃ i : Int, 0 ≤ i ∧ i < 12 ∧ to = gj k i) ↔ ∃ i : Nat, i < 12 ∧ gx to - gx k = jX i ∧ gy to - gy k = jY i := by
  constructor
  · rintro ⟨i, h1, h2, h3⟩
    rw [(gn_xy hk ⟨h1, h2⟩).2, to_cA ht] at h3
    exact ⟨i.toNat, by omega, by rw [Int.toNat_of_nonneg h1]; omega, by rw [Int.toNat_of_nonneg h1]; omega⟩
  · rintro ⟨i, h1, h2, h3⟩
    refine ⟨i, by omega, by omega, ?_⟩
    rw [(gn_xy hk (by omega)).2, to_cA ht]
    omega
theorem AT_p (hk : 0 ≤ k ∧ k < 91) (ht : 0 ≤ to ∧ to < 91) (hs : side = 0 ∨ side = 1) : (∃ i, (i = 0 ∨ i = 1) ∧ to = gn k (m_tk side i)) ↔ (if side = 0 then (gx to - gx k = 1 ∧ gy to - gy k = 0 ∨ gx to - gx k = -1 ∧ gy to - gy k = 1) else (gx to - gx k = -1 ∧ gy to - gy k = 0 ∨ gx to - gx k = 1 ∧ gy to - gy k = -1)) := by
  have e : ∀ j : Int, 0 ≤ j ∧ j < 12 → (to = gn k j ↔ gx to - gx k = dX j ∧ gy to - gy k = dY j) := by
    intro j hj
    rw [(gn_xy hk hj).1, to_cA ht]
    omega
  have e2 : (∃ i, (i = 0 ∨ i = 1) ∧ to = gn k (m_tk side i)) ↔ to = gn k (m_tk side 0) ∨ to = gn k (m_tk side 1) := by
    constructor
    · rintro ⟨i, rfl | rfl, h⟩
      · exact Or.inl h
      · exact Or.inr h
    · rintro (h | h)
      · exact ⟨0, Or.inl rfl, h⟩
      · exact ⟨1, Or.inr rfl, h⟩
  rw [e2]
  rcases hs with rfl | rfl
  · rw [show m_tk 0 0 = 1 from rfl, show m_tk 0 1 = 5 from rfl, e 1 (by decide), e 5 (by decide), if_pos (by decide)]
    exact Iff.rfl
  · rw [show m_tk 1 0 = 4 from rfl, show m_tk 1 1 = 2 from rfl, e 4 (by decide), e 2 (by decide), if_neg (by decide)]
    exact Iff.rfl
theorem frA_0 : frA X Y = 0 ↔ X = 0 ∧ Y = 0 := by
  unfold frA ab
  (repeat' split) <;> omega
theorem frA_rg (hX : -10 ≤ X ∧ X ≤ 10) (hY : -10 ≤ Y ∧ Y ≤ 10) : (0 ≤ frA X Y ∧ frA X Y ≤ 20) ∧ (0 ≤ nrA X Y ∧ nrA X Y ≤ 10) ∧ nrA X Y ≤ frA X Y := by
  unfold frA nrA ab
  (repeat' split) <;> omega
/-- straight -/
theorem line_s {v : Int → Int} (h : SB1 v bb) (hb : MB bb) (hk : 0 ≤ k ∧ k < 91) (ht : 0 ≤ to ∧ to < 91) (hX : gx to - gx k = X) (hY : gy to - gy k = Y) (hf : frA X Y ≠ 0) (hg : nrA X Y = 0) :
    ∃ st, iI (pl1 to - pl1 k) / iI (frA X Y) = iI st ∧ (-100 ≤ st ∧ st ≤ 100) ∧ (∀ j, 1 ≤ j → j < frA X Y → 0 ≤ pl1 k + j * st ∧ pl1 k + j * st < 121) ∧ ((∃ i, 0 ≤ i ∧ i < 6 ∧ onRay bb i 17 (gn k i) to) ↔ ∀ j, 1 ≤ j → j < frA X Y → v (pl1 k + j * st) = 0) ∧ (1 ≤ frA X Y ∧ frA X Y ≤ 10) := by
  have r1 := gxy_rg hk
  have r2 := gxy_rg ht
  obtain ⟨i, i1, i2, i3⟩ := (tb_of (X := X) (Y := Y) (by omega) (by omega)).2.2.1 ⟨hf, hg⟩
  have hr := (frA_rg (X := X) (Y := Y) (by omega) (by omega)).1
  have hd := dXY i (by omega)
  obtain ⟨n, hn⟩ : ∃ n : Nat, frA X Y = n := ⟨(frA X Y).toNat, (Int.toNat_of_nonneg hr.1).symm⟩
  rw [hn] at i2 i3 hf hr ⊢
  have hn10 : n ≤ 10 := by
    have hcs : i = 0 ∨ i = 1 ∨ i = 2 ∨ i = 3 ∨ i = 4 ∨ i = 5 := by omega
    clear hn hd
    rcases hcs with rfl | rfl | rfl | rfl | rfl | rfl <;> (simp only [dX, dY] at i2 i3; simp at i2 i3; omega)
  obtain ⟨w1, w2, w3⟩ := ray_free h hb hk ht (i := i) (n := n) (by omega) (by omega) (by omega) (by omega)
  refine ⟨11 * dX i + dY i, ?_, by omega, w3, ?_, by omega⟩
  · rw [← exdiv (i := i) (n := n) (by omega) (by omega)]
    have e : pl1 to - pl1 k = (n : Int) * (11 * dX i + dY i) := by
      rw [Int.mul_add, Int.mul_left_comm, ← i2, ← i3]
      unfold pl1
      omega
    rw [e]
  · rw [w2]
    constructor
    · rintro ⟨i', a1, a2, a3⟩
      exact (ray_one hk ht (i := i) (by omega) ⟨by omega, hn10⟩ (by omega) (by omega) ⟨a1, by omega⟩ (by omega) a3).2
    · intro z
      exact ⟨i, by omega, by omega, ray_is hk ht (by omega) ⟨by omega, hn10⟩ (by omega) (by omega) z⟩
theorem line_sn (hk : 0 ≤ k ∧ k < 91) (ht : 0 ≤ to ∧ to < 91) (hX : gx to - gx k = X) (hY : gy to - gy k = Y) (h : ¬ (frA X Y ≠ 0 ∧ nrA X Y = 0)) : ¬ ∃ i, 0 ≤ i ∧ i < 6 ∧ onRay bb i 17 (gn k i) to := by
  rintro ⟨i, a1, a2, a3⟩
  obtain ⟨n, n1, n2, n3, -⟩ := ray_xy hk ht ⟨a1, by omega⟩ a3
  obtain ⟨i, rfl⟩ : ∃ u : Nat, i = u := ⟨i.toNat, (Int.toNat_of_nonneg a1).symm⟩
  have t := (tb5_of (i := i) (n := n) (by omega) (by omega)).1 (by omega)
  rw [← n2, ← n3, hX, hY] at t
  exact h ⟨by omega, t.1⟩
/-- slanting -/
theorem line_g {v : Int → Int} (h : SB1 v bb) (hb : MB bb) (hk : 0 ≤ k ∧ k < 91) (ht : 0 ≤ to ∧ to < 91) (hX : gx to - gx k = X) (hY : gy to - gy k = Y) (hf : frA X Y ≠ 0) (hg : frA X Y = 2 * nrA X Y) :
    ∃ st, iI (pl1 to - pl1 k) / iI (nrA X Y) = iI st ∧ (-100 ≤ st ∧ st ≤ 100) ∧ (∀ j, 1 ≤ j → j < nrA X Y → 0 ≤ pl1 k + j * st ∧ pl1 k + j * st < 121) ∧ ((∃ i, 6 ≤ i ∧ i < 12 ∧ onRay bb i 17 (gn k i) to) ↔ ∀ j, 1 ≤ j → j < nrA X Y → v (pl1 k + j * st) = 0) ∧ (1 ≤ nrA X Y ∧ nrA X Y ≤ 10) := by
  have r1 := gxy_rg hk
  have r2 := gxy_rg ht
  obtain ⟨i, i1, i2, i3⟩ := (tb_of (X := X) (Y := Y) (by omega) (by omega)).2.2.2 ⟨hf, hg⟩
  have hr := (frA_rg (X := X) (Y := Y) (by omega) (by omega)).2.1
  have hd := dXY (i + 6) (by omega)
  have hg1 : nrA X Y ≠ 0 := by omega
  obtain ⟨n, hn⟩ : ∃ n : Nat, nrA X Y = n := ⟨(nrA X Y).toNat, (Int.toNat_of_nonneg hr.1).symm⟩
  rw [hn] at i2 i3 hg1 hr ⊢
  obtain ⟨w1, w2, w3⟩ := ray_free h hb hk ht (i := i + 6) (n := n) (by omega) (by omega) (by omega) (by omega)
  refine ⟨11 * dX (i + 6 : Nat) + dY (i + 6 : Nat), ?_, by omega, w3, ?_, by omega⟩
  · rw [← exdiv (i := i + 6) (n := n) (by omega) (by omega)]
    have e : pl1 to - pl1 k = (n : Int) * (11 * dX (i + 6 : Nat) + dY (i + 6 : Nat)) := by
      rw [Int.mul_add, Int.mul_left_comm, ← i2, ← i3]
      unfold pl1
      omega
    rw [e]
  · rw [w2]
    constructor
    · rintro ⟨i', a1, a2, a3⟩
      exact (ray_one hk ht (i := i + 6) (by omega) ⟨by omega, by omega⟩ (by omega) (by omega) ⟨by omega, by omega⟩ (by omega) a3).2
    · intro z
      exact ⟨(i + 6 : Nat), by omega, by omega, ray_is hk ht (by omega) ⟨by omega, by omega⟩ (by omega) (by omega) z⟩
theorem line_gn (hk : 0 ≤ k ∧ k < 91) (ht : 0 ≤ to ∧ to < 91) (hX : gx to - gx k = X) (hY : gy to - gy k = Y) (h : ¬ (frA X Y ≠ 0 ∧ frA X Y = 2 * nrA X Y)) : ¬ ∃ i, 6 ≤ i ∧ i < 12 ∧ onRay bb i 17 (gn k i) to := by
  rintro ⟨i, a1, a2, a3⟩
  obtain ⟨n, n1, n2, n3, -⟩ := ray_xy hk ht ⟨by omega, a2⟩ a3
  obtain ⟨i, rfl⟩ : ∃ u : Nat, i = u := ⟨i.toNat, (Int.toNat_of_nonneg (by omega)).symm⟩
  have t := (tb5_of (i := i) (n := n) (by omega) (by omega)).2 (by omega)
  rw [← n2, ← n3, hX, hY] at t
  exact h ⟨by omega, by omega⟩
theorem AT_iff (hk : 0 ≤ k ∧ k < 91) (ht : 0 ≤ to ∧ to < 91) (hb : MB bb) (h0 : bb k ≠ 0) (hX : gx to - gx k = X) (hY : gy to - gy k = Y) : AT bb k to ↔
    (bb k % 10 = 6 ∧ (if m_side (bb k) = 0 then X = 1 ∧ Y = 0 ∨ X = -1 ∧ Y = 1 else X = -1 ∧ Y = 0 ∨ X = 1 ∧ Y = -1)) ∨
    ((bb k % 10 = 2 ∨ bb k % 10 = 3) ∧ ∃ i, 0 ≤ i ∧ i < 6 ∧ onRay bb i 17 (gn k i) to) ∨
    ((bb k % 10 = 2 ∨ bb k % 10 = 4) ∧ ∃ i, 6 ≤ i ∧ i < 12 ∧ onRay bb i 17 (gn k i) to) ∨
    (bb k % 10 = 1 ∧ (nrA X Y = 0 ∧ frA X Y = 1 ∨ frA X Y = 2 * nrA X Y ∧ frA X Y = 2)) ∨
    (bb k % 10 = 5 ∧ frA X Y = 3 ∧ nrA X Y = 1) := by
  have r1 := gxy_rg hk
  have r2 := gxy_rg ht
  have hs : m_side (bb k) = 0 ∨ m_side (bb k) = 1 := by
    have := hb k
    unfold m_side
    split <;> omega
  have ht := tb_of (X := X) (Y := Y) (by omega) (by omega)
  unfold AT
  rw [AT_p hk (by omega) hs, AT_k hk (by omega), AT_j hk (by omega), hX, hY, ht.1, ht.2.1]
end PATT
