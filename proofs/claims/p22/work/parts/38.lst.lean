section PLST
variable {d : Nat} {T : pT} {M M0 M1 : pM} {F : pF} {b g : Nat} {bb v : Int → Int} {k s t pas q its to as c x p kc i : Int} {A Z P L : List Int}
/-- the safe ones of a list of cells -/
noncomputable def fS (bb : Int → Int) (t pas its : Int) : List Int → List Int
  | [] => []
  | c :: R => @ite _ (¬ m_chk (mk_bb bb pas its c 2) t) (Classical.propDecidable _) [c] [] ++ fS bb t pas its R
/-- where the piece on a cell can legally go -/
noncomputable def lgC (bb : Int → Int) (t pas its : Int) : List Int := flt (fun c => MV bb t pas its c ∧ ¬ m_chk (mk_bb bb pas its c 2) t) 91 0
noncomputable def lgL (bb : Int → Int) (t pas : Int) : Nat → Int → List Int
  | 0, _ => []
  | n + 1, i => (lgC bb t pas i).map (fun c => 91 * i + c) ++ lgL bb t pas n (i + 1)
theorem fS_app : ∀ A B : List Int, fS bb t pas its (A ++ B) = fS bb t pas its A ++ fS bb t pas its B
  | [], B => rfl
  | c :: A, B => by rw [List.cons_append, fS, fS, fS_app A B, List.append_assoc]
theorem fS_flt (P : Int → Prop) : ∀ (n : Nat) (i : Int), fS bb t pas its (flt P n i) = flt (fun c => P c ∧ ¬ m_chk (mk_bb bb pas its c 2) t) n i
  | 0, _ => rfl
  | n + 1, i => by
    rw [flt, flt, fS_app, fS_flt P n (i + 1)]
    refine congrArg (· ++ _) ?_
    by_cases c1 : P i
    · rw [if_pos c1, fS]
      by_cases c2 : ¬ m_chk (mk_bb bb pas its i 2) t
      · rw [if_pos c2, if_pos ⟨c1, c2⟩]; rfl
      · rw [if_neg c2, if_neg (fun z => c2 z.2)]; rfl
    · rw [if_neg c1, if_neg (fun z => c1 z.1)]; rfl
theorem fS_len : ∀ A : List Int, (fS bb t pas its A).length ≤ A.length
  | [] => Nat.le_refl _
  | c :: A => by
    have := fS_len A
    rw [fS, List.length_append, List.length_cons]
    split
    · rw [List.length_singleton]; omega
    · rw [List.length_nil]; omega
theorem flt_len (h : VB v bb) (hb : MB bb) (ht : t = 0 ∨ t = 1) (hp : PS bb t pas) (hk : 0 ≤ its ∧ its < 91) : (flt (MV bb t pas its) 91 0).length ≤ 42 := by
  have h1 : ((gaL v bb t pas its).mergeSort (fun a b => decide (a ≤ b))).Perm (gaL v bb t pas its) := List.mergeSort_perm _ _
  have h2 : ((gaL v bb t pas its).mergeSort (fun a b => decide (a ≤ b))).Pairwise (· ≤ ·) := by
    refine (List.pairwise_mergeSort (le := fun a b => decide (a ≤ b)) ?_ ?_ _).imp ?_
    · intro a b c h1 h2; simp at h1 h2 ⊢; omega
    · intro a b; simp; omega
    · intro a b h; simpa using h
  have h3 := sorted_eq h hb ht hp hk h2 h1
  have h4 := h1.length_eq
  rw [h3, List.length_map] at h4
  rw [h4]
  exact (gaL_ok h hb ht hp hk).2
theorem lgC_len (h : VB v bb) (hb : MB bb) (ht : t = 0 ∨ t = 1) (hp : PS bb t pas) (hk : 0 ≤ its ∧ its < 91) : ((lgC bb t pas its).length : Int) ≤ 42 * a_pc bb t its := by
  have h1 := flt_len h hb ht hp hk
  unfold a_pc
  by_cases c : m_side (bb its) = t
  · rw [bI_t c]
    have := fS_len (bb := bb) (t := t) (pas := pas) (its := its) (flt (MV bb t pas its) 91 0)
    rw [fS_flt] at this
    unfold lgC
    omega
  · rw [bI_f c]
    have : lgC bb t pas its = [] := by
      refine List.eq_nil_iff_forall_not_mem.mpr (fun x hx => ?_)
      exact c ((flt_mem _ 91 0).mp hx).2.2.1.2.2.1
    rw [this]; exact Int.le_refl _
theorem lgL_snoc : ∀ (n : Nat) (i : Int), lgL bb t pas (n + 1) i = lgL bb t pas n i ++ (lgC bb t pas (i + n)).map (fun c => 91 * (i + n) + c)
  | 0, i => by
    rw [lgL, lgL, show lgL bb t pas 0 (i + 1) = [] from rfl, List.append_nil, List.nil_append]
    rw [show i + ((0 : Nat) : Int) = i by omega]
  | n + 1, i => by
    rw [lgL, lgL_snoc n (i + 1), lgL, List.append_assoc, show i + ((n + 1 : Nat) : Int) = i + 1 + (n : Int) by omega]
theorem lgL_len (h : VB v bb) (hb : MB bb) (ht : t = 0 ∨ t = 1) (hp : PS bb t pas) : ∀ n : Nat, n ≤ 91 → ((lgL bb t pas n 0).length : Int) ≤ 42 * sm (a_pc bb t) n
  | 0, _ => by rw [lgL, sm]; exact Int.le_refl _
  | n + 1, hn => by
    have h1 := lgL_len h hb ht hp n (by omega)
    have h2 := lgC_len h hb ht hp (its := n) (by omega)
    rw [lgL_snoc, List.length_append, List.length_map, sm]
    rw [show (0 : Int) + (n : Int) = n by omega]
    omega
/-- what listing leaves alone -/
def FMv (M M' : pM) (g : Nat) : Prop := (∀ a, a ≠ g → a ≠ g + 4 → a ≠ g + 5 → a ≠ g + 6 → M' a = M a) ∧ (∀ j, j ≠ 7 → j ≠ 8 → j ≠ 10 → j ≠ 12 → j ≠ 13 → M' g j = M g j)
def LM (M : pM) (g : Nat) (A : List Int) : Prop := M g 7 = A.length ∧ ∀ j : Nat, j < A.length → M (g + 4) (j : Int) = A.getD j 0
def LI (M0 : pM) (g : Nat) (bb : Int → Int) (t pas q : Int) (M : pM) (A : List Int) : Prop :=
  GS M g bb t pas q ∧ PN M g bb t (m_king bb t) 12 ∧ M g 13 = bI (m_chk bb t) ∧ LM M g A ∧ FMv M0 M g ∧ M g 8 = 1
theorem GS.fr (h : GS M g bb t pas q) (h1 : M1 (g + 1) = M (g + 1)) (h2 : M1 (g + 1 + 1) = M (g + 1 + 1)) (h3 : M1 g 1 = M g 1) (h4 : M1 g 2 = M g 2) (h5 : M1 g 3 = M g 3) : GS M1 g bb t pas q := by
  unfold GS RB at *
  rw [h1, h2, h3, h4, h5]
  exact h
theorem LI.tg (h : LI M0 g bb t pas q M A) (ht : TG M M1 g L) : LI M0 g bb t pas q M1 A := by
  obtain ⟨h1, h2, h3, h4, h5, h6⟩ := h
  obtain ⟨-, -, t3, t4⟩ := ht
  refine ⟨h1.fr (t4 _ (by omega) (by omega)) (t4 _ (by omega) (by omega)) (t3 _ (by omega)) (t3 _ (by omega)) (t3 _ (by omega)), ?_, ?_, ?_, ?_, ?_⟩
  · unfold PN; rw [t3 12 (by omega), t4 (g + 6) (by omega) (by omega)]; exact h2
  · rw [t3 13 (by omega)]; exact h3
  · unfold LM; rw [t3 7 (by omega), t4 (g + 4) (by omega) (by omega)]; exact h4
  · exact ⟨fun a a1 a2 a3 a4 => (t4 a a1 a3).trans (h5.1 a a1 a2 a3 a4), fun j j1 j2 j3 j4 j5 => (t3 j j3).trans (h5.2 j j1 j2 j3 j4 j5)⟩
  · rw [t3 8 (by omega)]; exact h6
theorem getD_app (A : List Int) (x : Int) {j : Nat} (h : j < A.length) : (A ++ [x]).getD j 0 = A.getD j 0 := by
  rw [List.getD_eq_getElem?_getD, List.getD_eq_getElem?_getD, List.getElem?_append_left h]
theorem LI.add (h : LI M0 g bb t pas q M A) : LI M0 g bb t pas q (uA (uA M (g + 4) (u1 (M (g + 4)) (A.length : Int) x)) g (u1 (M g) 7 ((A.length : Int) + 1))) (A ++ [x]) := by
  obtain ⟨h1, h2, h3, h4, h5, h6⟩ := h
  have eg : ∀ j, j ≠ 7 → uA (uA M (g + 4) (u1 (M (g + 4)) (A.length : Int) x)) g (u1 (M g) 7 ((A.length : Int) + 1)) g j = M g j := fun j hj => by rw [uA_s]; exact if_neg hj
  have eo : ∀ a, a ≠ g → a ≠ g + 4 → uA (uA M (g + 4) (u1 (M (g + 4)) (A.length : Int) x)) g (u1 (M g) 7 ((A.length : Int) + 1)) a = M a := fun a a1 a2 => by rw [uA_n a1, uA_n a2]
  refine ⟨h1.fr (eo _ (by omega) (by omega)) (eo _ (by omega) (by omega)) (eg _ (by omega)) (eg _ (by omega)) (eg _ (by omega)), ?_, ?_, ⟨?_, ?_⟩, ?_, ?_⟩
  · unfold PN; rw [eg 12 (by omega), eo (g + 6) (by omega) (by omega)]; exact h2
  · rw [eg 13 (by omega)]; exact h3
  · rw [uA_s, List.length_append, List.length_singleton]; show (A.length : Int) + 1 = _; omega
  · intro j hj
    rw [List.length_append, List.length_singleton] at hj
    rw [uA_n (by omega), uA_s]
    by_cases e : j = A.length
    · subst e
      have := getD_mid A x []
      rw [this]
      exact if_pos rfl
    · rw [getD_app A x (by omega), ← h4.2 j (by omega)]
      exact if_neg (by omega)
  · exact ⟨fun a a1 a2 a3 a4 => (eo a a1 a2).trans (h5.1 a a1 a2 a3 a4), fun j j1 j2 j3 j4 j5 => (eg j j1).trans (h5.2 j j1 j2 j3 j4 j5)⟩
  · rw [eg 8 (by omega)]; exact h6
end PLST
