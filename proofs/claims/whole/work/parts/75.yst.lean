section PYST
variable {d bd lg N lg1 N1 lg2 N2 : Nat} {T T1 T2 : pT} {M M0 M1 M2 : pM} {F F1 F2 : pF} {bb v w : Int → Int} {t pas q its to as p n i c s x k a b tk pc : Int} {H : List HE} {X : Nat → Prop}
/-! the model's state: its board, its log -/
def YN (N : Nat) : Prop := N = 448 ∨ N = 896 ∨ N = 1792 ∨ N = 3584 ∨ N = 7168
/-- how the log grows -/
def GC (N N' h : Nat) : Prop := N' = N ∨ N' ≤ 14 * h + 14
theorem GC.rf {h : Nat} : GC N N h := Or.inl rfl
theorem GC.tr {h : Nat} (a : GC N N1 h) (b : GC N1 N2 h) : GC N N2 h := by unfold GC at *; omega
def GD (N N' : Nat) : Prop := N ≤ 1500 → N' ≤ 1500
theorem GD.rf : GD N N := fun h => h
theorem GD.tr (a : GD N N1) (b : GD N1 N2) : GD N N2 := fun h => b (a h)
theorem GC.gd {h : Nat} (a : GC N N1 h) (hh : h ≤ 100) : GD N N1 := by unfold GC at a; unfold GD; omega
def YD (bd lg : Nat) (T : pT) : Prop := (bd = 134 ∨ 145 ≤ bd) ∧ (lg = 135 ∨ 145 ≤ lg) ∧ bd ≠ lg ∧ bd < T.1.1 ∧ lg < T.1.1 ∧ 145 ≤ T.1.1
/-- one entry of the log -/
def LG1 (v : Int → Int) (n : Int) (b : Int → Int) (p q i o : Int) : Prop := v (7 * n) = i ∧ v (7 * n + 1) = o ∧ v (7 * n + 2) = b i ∧ v (7 * n + 3) = b (mk_pl b p i o) ∧ v (7 * n + 4) = mk_pl b p i o ∧ v (7 * n + 5) = p ∧ v (7 * n + 6) = q
def LGc (v : Int → Int) : List HE → Prop
  | [] => True
  | (b, _, p, q, i, o, _) :: H => LG1 v (H.length : Int) b p q i o ∧ LGc v H
theorem LG1.fr (h : ∀ j : Int, 7 * n ≤ j → j < 7 * n + 7 → w j = v j) (hc : LG1 v n bb p q i c) : LG1 w n bb p q i c := by
  obtain ⟨h1, h2, h3, h4, h5, h6, h7⟩ := hc
  exact ⟨(h _ (by omega) (by omega)).trans h1, (h _ (by omega) (by omega)).trans h2, (h _ (by omega) (by omega)).trans h3, (h _ (by omega) (by omega)).trans h4, (h _ (by omega) (by omega)).trans h5, (h _ (by omega) (by omega)).trans h6, (h _ (by omega) (by omega)).trans h7⟩
theorem LGc.fr {n : Int} (h : ∀ j : Int, 0 ≤ j → j < 7 * n → w j = v j) : ∀ H : List HE, (H.length : Int) ≤ n → LGc v H → LGc w H
  | [], _, _ => trivial
  | (b, t, p, q, i, o, a) :: H, hn, hc => by
    rw [List.length_cons] at hn
    exact ⟨hc.1.fr (fun j j0 j1 => h j (by omega) (by omega)), LGc.fr h H (by omega) hc.2⟩
def YV (T : pT) (M : pM) (F : pF) (bd lg N : Nat) (H : List HE) : Prop := YT T F bd lg N ∧ YD bd lg T ∧ YN N ∧ LGc (M lg) H ∧ 7 * H.length ≤ N ∧ M 127 14 = (H.length : Int)
def YS (M : pM) (bd : Nat) (bb : Int → Int) (t pas q : Int) : Prop := YG M ∧ M bd = bb ∧ M 127 10 = t ∧ M 127 11 = pas ∧ M 127 12 = q
/-- what is true of every position -/
def SP (bb : Int → Int) (t pas q : Int) : Prop := MB bb ∧ UK bb ∧ P20 bb ∧ (t = 0 ∨ t = 1) ∧ PS bb t pas ∧ (0 ≤ q ∧ q ≤ 60)
/-- what changes: the cells of X, the log -/
def YC (X : Nat → Prop) (T : pT) (M : pM) (F : pF) (lg N : Nat) (T' : pT) (M' : pM) (F' : pF) (lg' N' : Nat) : Prop :=
  s_mono T T' ∧ (∀ a, a < T.1.1 → ¬ X a → a ≠ lg → M' a = M a) ∧ (∀ a, a < T.1.1 → a ≠ 127 → F' a = F a) ∧ (∀ j, j ≠ 13 → F' 127 j = F 127 j) ∧ (lg' = lg ∨ T.1.1 ≤ lg') ∧ N ≤ N' ∧ 448 * T'.1.1 + N ≤ 448 * T.1.1 + N' ∧ T'.1.2 + 2 * N ≤ T.1.2 + 2 * N'
theorem YC.rf : YC X T M F lg N T M F lg N := ⟨s_mono.rf, fun _ _ _ _ => rfl, fun _ _ _ => rfl, fun _ _ => rfl, Or.inl rfl, Nat.le_refl _, Nat.le_refl _, Nat.le_refl _⟩
theorem YC.tr (h : YC X T M F lg N T1 M1 F1 lg1 N1) (h' : YC X T1 M1 F1 lg1 N1 T2 M2 F2 lg2 N2) : YC X T M F lg N T2 M2 F2 lg2 N2 := by
  obtain ⟨a1, a2, a3, a4, a5, a6, a7, a8⟩ := h
  obtain ⟨b1, b2, b3, b4, b5, b6, b7, b8⟩ := h'
  have hT := a1.1
  refine ⟨a1.tr b1, fun a ha hx hl => (b2 a (by omega) hx (by omega)).trans (a2 a ha hx hl), fun a ha h => (b3 a (by omega) h).trans (a3 a ha h), fun j hj => (b4 j hj).trans (a4 j hj), by omega, by omega, by omega, by omega⟩
theorem YC.wk {Y : Nat → Prop} (h : YC X T M F lg N T1 M1 F1 lg1 N1) (hx : ∀ a, X a → Y a) : YC Y T M F lg N T1 M1 F1 lg1 N1 :=
  ⟨h.1, fun a ha hn hl => h.2.1 a ha (fun z => hn (hx a z)) hl, h.2.2⟩
/-- cells are written, nothing else -/
theorem YC.wr (f : ∀ a, ¬ X a → M1 a = M a) : YC X T M F lg N T M1 F lg N := ⟨s_mono.rf, fun a _ hx _ => f a hx, fun _ _ _ => rfl, fun _ _ => rfl, Or.inl rfl, Nat.le_refl _, Nat.le_refl _, Nat.le_refl _⟩
theorem p_ty_nw {tag n : Nat} (h : 100 ≤ T.1.1) : p_ty (p_new T tag n) T.1.1 = (tag, n) := by
  unfold p_ty p_new
  rw [if_neg (by omega)]
  exact if_pos rfl
theorem p_ty_nx {tag n a : Nat} (h : a < T.1.1) : p_ty (p_new T tag n) a = p_ty T a := (s_mono.new (T := T) (tag := tag) (N := n)).2.2 a h
theorem YT.mono (hY : YT T F bd lg N) (hD : YD bd lg T) (h : YC X T M F lg N T1 M1 F1 lg1 N1) (h1 : 100 ≤ lg1) (h2 : p_ty T1 lg1 = (1, N1)) (h3 : F1 127 13 = some lg1) (h4 : 448 ≤ N1) : YT T1 F1 bd lg1 N1 := by
  obtain ⟨-, -, -, d1, -, d2⟩ := hD
  obtain ⟨⟨-, -, c1⟩, -, -, c3, -⟩ := h
  obtain ⟨ty127, ty128, fy1, ty129, fy4, ty130, fy5, ty131, fy6, ty132, fy7, ty133, fy8, ty136, fy15, ty137, fy16, ty138, fy17, ty139, fy18, ty140, fy19, ty141, fy20, ty142, fy21, ty143, fy22, hbd, tybd, fy9, hlg, tylg, fy13, hN⟩ := hY
  have f := fun a (ha : a < 145) => c1 a (by omega)
  refine ⟨(f _ (by omega)).trans ty127, (f _ (by omega)).trans ty128, (c3 _ (by omega)).trans fy1, (f _ (by omega)).trans ty129, (c3 _ (by omega)).trans fy4, (f _ (by omega)).trans ty130, (c3 _ (by omega)).trans fy5, (f _ (by omega)).trans ty131, (c3 _ (by omega)).trans fy6, (f _ (by omega)).trans ty132, (c3 _ (by omega)).trans fy7, (f _ (by omega)).trans ty133, (c3 _ (by omega)).trans fy8, (f _ (by omega)).trans ty136, (c3 _ (by omega)).trans fy15, (f _ (by omega)).trans ty137, (c3 _ (by omega)).trans fy16, (f _ (by omega)).trans ty138, (c3 _ (by omega)).trans fy17, (f _ (by omega)).trans ty139, (c3 _ (by omega)).trans fy18, (f _ (by omega)).trans ty140, (c3 _ (by omega)).trans fy19, (f _ (by omega)).trans ty141, (c3 _ (by omega)).trans fy20, (f _ (by omega)).trans ty142, (c3 _ (by omega)).trans fy21, (f _ (by omega)).trans ty143, (c3 _ (by omega)).trans fy22, hbd, (c1 bd d1).trans tybd, (c3 _ (by omega)).trans fy9, h1, h2, h3, h4⟩
/-- the log behind a note -/
def lg_put (v : Int → Int) (n : Int) (a0 a1 a2 a3 a4 a5 a6 : Int) : Int → Int := u1 (u1 (u1 (u1 (u1 (u1 (u1 v (7 * n) a0) (7 * n + 1) a1) (7 * n + 2) a2) (7 * n + 3) a3) (7 * n + 4) a4) (7 * n + 5) a5) (7 * n + 6) a6
theorem lg_put_lo {a0 a1 a2 a3 a4 a5 a6 : Int} (h : i < 7 * n) : lg_put v n a0 a1 a2 a3 a4 a5 a6 i = v i := by
  unfold lg_put
  rw [u1_n (by omega), u1_n (by omega), u1_n (by omega), u1_n (by omega), u1_n (by omega), u1_n (by omega), u1_n (by omega)]
theorem lg_put_at {a0 a1 a2 a3 a4 a5 a6 : Int} : lg_put v n a0 a1 a2 a3 a4 a5 a6 (7 * n) = a0 ∧ lg_put v n a0 a1 a2 a3 a4 a5 a6 (7 * n + 1) = a1 ∧ lg_put v n a0 a1 a2 a3 a4 a5 a6 (7 * n + 2) = a2 ∧ lg_put v n a0 a1 a2 a3 a4 a5 a6 (7 * n + 3) = a3 ∧ lg_put v n a0 a1 a2 a3 a4 a5 a6 (7 * n + 4) = a4 ∧ lg_put v n a0 a1 a2 a3 a4 a5 a6 (7 * n + 5) = a5 ∧ lg_put v n a0 a1 a2 a3 a4 a5 a6 (7 * n + 6) = a6 := by
  unfold lg_put
  refine ⟨?_, ?_, ?_, ?_, ?_, ?_, u1_s⟩
  · rw [u1_n (by omega), u1_n (by omega), u1_n (by omega), u1_n (by omega), u1_n (by omega), u1_n (by omega), u1_s]
  · rw [u1_n (by omega), u1_n (by omega), u1_n (by omega), u1_n (by omega), u1_n (by omega), u1_s]
  · rw [u1_n (by omega), u1_n (by omega), u1_n (by omega), u1_n (by omega), u1_s]
  · rw [u1_n (by omega), u1_n (by omega), u1_n (by omega), u1_s]
  · rw [u1_n (by omega), u1_n (by omega), u1_s]
  · rw [u1_n (by omega), u1_s]
/-- the last part of note: the entry is written -/
theorem note_in {e : Nat} {l5 : Slot} (hY : YT T F bd lg N) (hD : YD bd lg T) (hn : 0 ≤ n ∧ 7 * (n + 1) ≤ N) (hN : N ≤ 7168) (h14 : M 127 14 = n) (hi : 0 ≤ its ∧ its < 91) (hr : (-100 ≤ to ∧ to ≤ 100) ∧ (-100 ≤ tk ∧ tk ≤ 100) ∧ (-100 ≤ pc ∧ pc ≤ 100) ∧ (-100 ≤ M bd its ∧ M bd its ≤ 100) ∧ (-100 ≤ M 127 11 ∧ M 127 11 ≤ 100) ∧ (0 ≤ M 127 12 ∧ M 127 12 ≤ 1000)) :
    R e m_X8_note 50 [.val (.ref 127), .val (.int (iI its)), .val (.int (iI to)), .val (.int (iI tk)), .val (.int (iI pc)), l5] [] T M F = some (.inl none, T, uA (uA M lg (lg_put (M lg) n its to (M bd its) tk pc (M 127 11) (M 127 12))) 127 (u1 (M 127) 14 (n + 1)), F) := by
  obtain ⟨d0, d0', d1, d2, d3, d4⟩ := hD
  obtain ⟨ty127, ty128, fy1, ty129, fy4, ty130, fy5, ty131, fy6, ty132, fy7, ty133, fy8, ty136, fy15, ty137, fy16, ty138, fy17, ty139, fy18, ty140, fy19, ty141, fy20, ty142, fy21, ty143, fy22, hbd, tybd, fy9, hlg, tylg, fy13, hN⟩ := hY
  obtain ⟨r1, r2, r3, r4, r5, r6⟩ := hr
  have e1 : n * 7 = 7 * n := by omega
  unfold lg_put
  simp (disch := omega) only [x_X8_note_50, x_X8_note_51, x_X8_note_54, x_X8_note_56, x_X8_note_57, x_X8_note_59, x_X8_note_60, x_X8_note_63, x_X8_note_65, x_X8_note_66, x_X8_note_67, x_X8_note_68, x_X8_note_71, x_X8_note_73, x_X8_note_74, x_X8_note_75, x_X8_note_76, x_X8_note_77, x_X8_note_78, x_X8_note_81, x_X8_note_83, x_X8_note_84, x_X8_note_85, x_X8_note_86, x_X8_note_89, x_X8_note_90, x_X8_note_91, x_X8_note_92, x_X8_note_93, x_X8_note_96, x_X8_note_98, x_X8_note_99, x_X8_note_100, x_X8_note_101, x_X8_note_102, x_X8_note_103, x_X8_note_106, x_X8_note_108, x_X8_note_109, x_X8_note_110, x_X8_note_112, x_X8_note_113, x_X8_note_114, x_X8_note_117, x_X8_note_119, x_X8_note_120, x_X8_note_121, x_X8_note_122, x_X8_note_125, x_X8_note_126, x_X8_note_127, x_X8_note_130, x_X8_note_132, x_X8_note_134, x_X8_note_135, x_X8_note_136, x_X8_note_139, x_X8_note_140, x_X8_note_141, x_X8_note_142, x_X8_note_145, x_X8_note_146, x_X8_note_147, x_X8_note_150, List.length_cons, List.length_nil, Nat.reduceLeDiff, Nat.zero_add, iI_add, iI_sub, iI_mul, iI_neg, iI_lt, iI_le, iI_eq, jI_iI, B_True, B_False, B_t, B_f, ck_True, gd_True, cb_v, cb_n, p_mv_rw, p_fv_rw, p_rv_some, pA_1, pA_90, pA_92, pA_3, pA_2, pA_93, pA_4, pA_91, pA_95, pS_i, pW_i, pZ_0, pZ_1, pZ_b, bI_e0, u1_s, u1_n, uA_s, uA_n, true_and, and_true, not_true_eq_false, not_false_eq_true, eq_self, iI_z, al1, al2, al3, al4, al90, al91, al92, al93, al95, Int.cast_ofNat_Int, Nat.reduceAdd, Int.reduceNeg, Int.reduceAdd, Int.reduceSub, Int.reduceMul, Int.reduceLT, Int.reduceLE, Int.reduceGT, Int.reduceGE, Int.reduceEq, Int.reduceNe, Nat.reduceEqDiff, Int.zero_add, Int.add_zero, p_ty0, p_ty1, p_ty2, p_ty3, p_ty4, p_ty5, p_ty6, p_ty7, p_ty8, p_ty9, p_ty10, p_ty11, ty127, ty128, fy1, ty129, fy4, ty130, fy5, ty131, fy6, ty132, fy7, ty133, fy8, ty136, fy15, ty137, fy16, ty138, fy17, ty139, fy18, ty140, fy19, ty141, fy20, ty142, fy21, ty143, fy22, tybd, fy9, tylg, fy13, h14, e1, uA_uA, gd_t, B_t, B_f]
end PYST
