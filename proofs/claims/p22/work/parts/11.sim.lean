section PSIM
theorem iI_toInt {a : Int} (h1 : -2147483648 ≤ a) (h2 : a < 2147483648) : (iI a).toInt = a := by
  unfold iI
  exact Int32.toInt_ofInt_of_le (by simpa using h1) (by simpa using h2)
theorem jI_iI {a : Int} (h1 : -2147483648 ≤ a) (h2 : a < 2147483648) : jI (iI a) = a := iI_toInt h1 h2
theorem iI_jI (x : Int32) : iI (jI x) = x := by
  unfold iI jI
  exact Int32.ofInt_toInt x
theorem jI_rg (x : Int32) : -2147483648 ≤ jI x ∧ jI x < 2147483648 := by
  unfold jI
  have h1 := Int32.le_toInt x
  have h2 := Int32.toInt_lt x
  constructor
  · simpa using h1
  · simpa using h2
theorem iI_add (a b : Int) : iI a + iI b = iI (a + b) := by
  unfold iI; exact (Int32.ofInt_add a b).symm
theorem iI_sub (a b : Int) : iI a - iI b = iI (a - b) := by
  unfold iI; exact (Int32.ofInt_sub a b).symm
theorem iI_mul (a b : Int) : iI a * iI b = iI (a * b) := by
  unfold iI; exact (Int32.ofInt_mul a b).symm
theorem iI_neg (a : Int) : -iI a = iI (-a) := by
  unfold iI; exact (Int32.ofInt_neg a).symm
theorem iI_lt {a b : Int} (h1 : -2147483648 ≤ a) (h2 : a < 2147483648) (h3 : -2147483648 ≤ b) (h4 : b < 2147483648) : (iI a < iI b) = (a < b) := by
  rw [Int32.lt_iff_toInt_lt, iI_toInt h1 h2, iI_toInt h3 h4]
theorem iI_le {a b : Int} (h1 : -2147483648 ≤ a) (h2 : a < 2147483648) (h3 : -2147483648 ≤ b) (h4 : b < 2147483648) : (iI a ≤ iI b) = (a ≤ b) := by
  rw [Int32.le_iff_toInt_le, iI_toInt h1 h2, iI_toInt h3 h4]
theorem iI_eq {a b : Int} (h1 : -2147483648 ≤ a) (h2 : a < 2147483648) (h3 : -2147483648 ≤ b) (h4 : b < 2147483648) : (iI a = iI b) = (a = b) := by
  rw [← Int32.toInt_inj, iI_toInt h1 h2, iI_toInt h3 h4]
theorem iI_z : (0 : Int32) = iI 0 := rfl
theorem B_True {d : Nat} {m : pC} {p q : Nat} {L : List Slot} {st : List Value} {T : pT} {M : pM} {F : pF} : B d m True p q L st T M F = R d m p L st T M F := if_pos trivial
theorem B_False {d : Nat} {m : pC} {p q : Nat} {L : List Slot} {st : List Value} {T : pT} {M : pM} {F : pF} : B d m False p q L st T M F = R d m q L st T M F := if_neg id
theorem B_t {d : Nat} {m : pC} {c : Prop} {p q : Nat} {L : List Slot} {st : List Value} {T : pT} {M : pM} {F : pF} (h : c) : B d m c p q L st T M F = R d m p L st T M F := if_pos h
theorem B_f {d : Nat} {m : pC} {c : Prop} {p q : Nat} {L : List Slot} {st : List Value} {T : pT} {M : pM} {F : pF} (h : ¬ c) : B d m c p q L st T M F = R d m q L st T M F := if_neg h
theorem B_split {d : Nat} {m : pC} {c : Prop} {p q : Nat} {L : List Slot} {st : List Value} {T : pT} {M : pM} {F : pF} {X : Option pR} (h1 : c → R d m p L st T M F = X) (h2 : ¬ c → R d m q L st T M F = X) : B d m c p q L st T M F = X := by
  by_cases hc : c
  · rw [B_t hc]; exact h1 hc
  · rw [B_f hc]; exact h2 hc
theorem B_splitn {d : Nat} {m : pC} {c : Prop} {p q : Nat} {L : List Slot} {st : List Value} {T : pT} {M : pM} {F : pF} {X : Option pR} (h1 : ¬ c → R d m p L st T M F = X) (h2 : c → R d m q L st T M F = X) : B d m (¬ c) p q L st T M F = X := by
  by_cases hc : c
  · rw [B_f (fun k => k hc)]; exact h2 hc
  · rw [B_t hc]; exact h1 hc
theorem ck_True {d : Nat} {m : pC} {p : Nat} {L : List Slot} {st : List Value} {T : pT} {M : pM} {F : pF} : ck True d m p L st T M F = R d m p L st T M F := if_pos trivial
theorem ck_t {d : Nat} {m : pC} {c : Prop} {p : Nat} {L : List Slot} {st : List Value} {T : pT} {M : pM} {F : pF} (h : c) : ck c d m p L st T M F = R d m p L st T M F := if_pos h
theorem gd_True {o : Option pR} : gd True o = o := if_pos trivial
theorem gd_t {c : Prop} {o : Option pR} (h : c) : gd c o = o := if_pos h
theorem cb_v {d : Nat} {m : pC} {pc q : Nat} {L : List Slot} {st : List Value} {T : pT} {M : pM} {F : pF} {v : Value} : cb (some (.inl (some v), T, M, F)) d m pc q L st = R d m q L (v :: st) T M F := rfl
theorem cb_n {d : Nat} {m : pC} {pc q : Nat} {L : List Slot} {st : List Value} {T : pT} {M : pM} {F : pF} : cb (some (.inl none, T, M, F)) d m pc q L st = R d m q L st T M F := rfl
theorem p_mv_rw {M : pM} {a : Nat} {i : Int} (h : 100 ≤ a) : p_mv M a i = M a i := if_neg (fun k => absurd k.1 (by omega))
theorem p_fv_rw {F : pF} {a : Nat} {i : Int} (h : 100 ≤ a) : p_fv F a i = F a i := if_neg (fun k => absurd k.1 (by omega))
theorem p_mv_ro {M : pM} {a : Nat} {i : Int} (h : a < 100) (h2 : a ≠ 29) : p_mv M a i = p_roM a i := if_pos ⟨h, h2⟩
theorem p_fv_ro {F : pF} {a : Nat} {i : Int} (h : a < 100) (h2 : a ≠ 29) : p_fv F a i = p_roF a i := if_pos ⟨h, h2⟩
theorem p_ty_ro {T : pT} {a : Nat} (h : a < 100) (h2 : a ≠ 29) : p_ty T a = p_roT a := if_pos ⟨h, h2⟩
theorem pA_1 {n : Nat} {j : Int} (h1 : 0 ≤ j) (h2 : j < (n : Int)) (h3 : j < 2147483648) : pA [1, 90, 92] (1, n) (iI j) = True := eq_true ⟨by simp, by unfold p_in; rw [jI_iI (by omega) h3]; exact ⟨h1, h2⟩⟩
theorem pA_90 {n : Nat} {j : Int} (h1 : 0 ≤ j) (h2 : j < (n : Int)) (h3 : j < 2147483648) : pA [1, 90, 92] (90, n) (iI j) = True := eq_true ⟨by simp, by unfold p_in; rw [jI_iI (by omega) h3]; exact ⟨h1, h2⟩⟩
theorem pA_92 {n : Nat} {j : Int} (h1 : 0 ≤ j) (h2 : j < (n : Int)) (h3 : j < 2147483648) : pA [1, 90, 92] (92, n) (iI j) = True := eq_true ⟨by simp, by unfold p_in; rw [jI_iI (by omega) h3]; exact ⟨h1, h2⟩⟩
theorem pA_3 {n : Nat} {j : Int} (h1 : 0 ≤ j) (h2 : j < (n : Int)) (h3 : j < 2147483648) : pA [3] (3, n) (iI j) = True := eq_true ⟨by simp, by unfold p_in; rw [jI_iI (by omega) h3]; exact ⟨h1, h2⟩⟩
theorem pA_5 {n : Nat} {j : Int} (h1 : 0 ≤ j) (h2 : j < (n : Int)) (h3 : j < 2147483648) : pA [5, 93] (5, n) (iI j) = True := eq_true ⟨by simp, by unfold p_in; rw [jI_iI (by omega) h3]; exact ⟨h1, h2⟩⟩
theorem pA_93 {n : Nat} {j : Int} (h1 : 0 ≤ j) (h2 : j < (n : Int)) (h3 : j < 2147483648) : pA [5, 93] (93, n) (iI j) = True := eq_true ⟨by simp, by unfold p_in; rw [jI_iI (by omega) h3]; exact ⟨h1, h2⟩⟩
theorem pA_4 {n : Nat} {j : Int} (h1 : 0 ≤ j) (h2 : j < (n : Int)) (h3 : j < 2147483648) : pA [4, 6, 91] (4, n) (iI j) = True := eq_true ⟨by simp, by unfold p_in; rw [jI_iI (by omega) h3]; exact ⟨h1, h2⟩⟩
theorem pA_91 {n : Nat} {j : Int} (h1 : 0 ≤ j) (h2 : j < (n : Int)) (h3 : j < 2147483648) : pA [4, 6, 91] (91, n) (iI j) = True := eq_true ⟨by simp, by unfold p_in; rw [jI_iI (by omega) h3]; exact ⟨h1, h2⟩⟩
theorem pA_6 {n : Nat} {j : Int} (h1 : 0 ≤ j) (h2 : j < (n : Int)) (h3 : j < 2147483648) : pA [4, 6, 91] (6, n) (iI j) = True := eq_true ⟨by simp, by unfold p_in; rw [jI_iI (by omega) h3]; exact ⟨h1, h2⟩⟩
theorem pB_i {j : Int} (h1 : -128 ≤ j) (h2 : j < 128) : pB (iI j) = True := eq_true (by unfold pB; rw [jI_iI (by omega) (by omega)]; exact ⟨h1, h2⟩)
theorem pS_i {t a n : Nat} {j : Int} (ha : 100 ≤ a) (h1 : 0 ≤ j) (h2 : j < (n : Int)) (h3 : j < 2147483648) : pS t a (t, n) (iI j) = True := eq_true ⟨ha, rfl, by unfold p_in; rw [jI_iI (by omega) h3]; exact ⟨h1, h2⟩⟩
theorem pW_i {K a n : Nat} (ha : 100 ≤ a) : pW K a (K, n) = True := eq_true ⟨ha, rfl⟩
noncomputable def bI (c : Prop) : Int := @ite _ c (Classical.propDecidable c) 1 0
theorem bI_t {c : Prop} (h : c) : bI c = 1 := if_pos h
theorem bI_f {c : Prop} (h : ¬ c) : bI c = 0 := if_neg h
theorem bI_cases (c : Prop) : bI c = 0 ∨ bI c = 1 := by
  by_cases h : c
  · exact Or.inr (bI_t h)
  · exact Or.inl (bI_f h)
theorem bI_e0 {c : Prop} : (iI (bI c) = iI 0) = ¬ c := by
  by_cases h : c
  · rw [bI_t h]; exact propext ⟨fun k => absurd k (by decide), fun k => absurd h k⟩
  · rw [bI_f h]; exact propext ⟨fun _ => h, fun _ => rfl⟩
theorem pZ_0 : pZ (iI 0) = True := eq_true (Or.inl rfl)
theorem pZ_1 : pZ (iI 1) = True := eq_true (Or.inr rfl)
theorem pZ_b {c : Prop} : pZ (iI (bI c)) = True := by
  rcases bI_cases c with h | h <;> rw [h]
  · exact pZ_0
  · exact pZ_1
theorem u1_s {α : Type} {f : Int → α} {i : Int} {v : α} : u1 f i v i = v := if_pos rfl
theorem u1_n {α : Type} {f : Int → α} {i j : Int} {v : α} (h : j ≠ i) : u1 f i v j = f j := if_neg h
theorem uA_s {α : Type} {M : Nat → Int → α} {a : Nat} {f : Int → α} : uA M a f a = f := if_pos rfl
theorem uA_n {α : Type} {M : Nat → Int → α} {a b : Nat} {f : Int → α} (h : b ≠ a) : uA M a f b = M b := if_neg h
theorem uA_uA {α : Type} {M : Nat → Int → α} {a : Nat} {f g : Int → α} : uA (uA M a f) a g = uA M a g := by
  funext b; unfold uA; by_cases h : b = a <;> simp [h]
theorem uA_id {α : Type} {M : Nat → Int → α} {a : Nat} : uA M a (M a) = M := by
  funext b; unfold uA; by_cases h : b = a <;> simp [h]
theorem u1_id {α : Type} {f : Int → α} {i : Int} : u1 f i (f i) = f := by
  funext b; unfold u1; by_cases h : b = i <;> simp [h]
theorem u1_u1 {α : Type} {f : Int → α} {i : Int} {v w : α} : u1 (u1 f i v) i w = u1 f i w := by
  funext b; unfold u1; by_cases h : b = i <;> simp [h]
theorem callD_go {d : Nat} {m : pC} {as : List Value} {T : pT} {M : pM} {F : pF} {X : Option pR} (k : Nat) (hd : k + 1 ≤ d) (hl : Nat.ble (lg_sl as).length m.2.2.2.1 = true) (h : ∀ e, k ≤ e → R e m 0 (p_ent m as) [] T M F = X) : callD d m as T M F = X := by
  obtain ⟨e, rfl⟩ : ∃ e, d = e + 1 := ⟨d - 1, by omega⟩
  rw [callD_succ _ _ _ _ _ _ (Nat.le_of_ble_eq_true hl)]
  exact h e (by omega)
theorem p_rv_some {a : Nat} : p_rv (some a) = .ref a := rfl
theorem al1 : (1 ∈ ([1, 3, 4, 5, 6, 90, 91, 92, 93] : List Nat)) = True := eq_true (by decide)
theorem al5 : (5 ∈ ([1, 3, 4, 5, 6, 90, 91, 92, 93] : List Nat)) = True := eq_true (by decide)
theorem al3 : (3 ∈ ([1, 3, 4, 5, 6, 90, 91, 92, 93] : List Nat)) = True := eq_true (by decide)
theorem al4 : (4 ∈ ([1, 3, 4, 5, 6, 90, 91, 92, 93] : List Nat)) = True := eq_true (by decide)
theorem al90 : (90 ∈ ([1, 3, 4, 5, 6, 90, 91, 92, 93] : List Nat)) = True := eq_true (by decide)
theorem al91 : (91 ∈ ([1, 3, 4, 5, 6, 90, 91, 92, 93] : List Nat)) = True := eq_true (by decide)
theorem al92 : (92 ∈ ([1, 3, 4, 5, 6, 90, 91, 92, 93] : List Nat)) = True := eq_true (by decide)
theorem al93 : (93 ∈ ([1, 3, 4, 5, 6, 90, 91, 92, 93] : List Nat)) = True := eq_true (by decide)
theorem al6 : (6 ∈ ([1, 3, 4, 5, 6, 90, 91, 92, 93] : List Nat)) = True := eq_true (by decide)
theorem p_ty0 {T : pT} : p_ty T 0 = (90, 91) := rfl
theorem p_ty1 {T : pT} : p_ty T 1 = (90, 11) := rfl
theorem p_ty2 {T : pT} : p_ty T 2 = (90, 12) := rfl
theorem p_ty3 {T : pT} : p_ty T 3 = (90, 12) := rfl
theorem p_ty4 {T : pT} : p_ty T 4 = (90, 2) := rfl
theorem p_ty5 {T : pT} : p_ty T 5 = (90, 7) := rfl
theorem p_ty8 {T : pT} : p_ty T 8 = (93, 100) := rfl
theorem p_ty9 {T : pT} : p_ty T 9 = (93, 100) := rfl
theorem p_ty10 {T : pT} : p_ty T 10 = (91, 16) := rfl
theorem ri {e1 e2 : Int} {T : pT} {M : pM} {F : pF} (h : e1 = e2) : (some (.inl (some (.int (iI e1))), T, M, F) : Option pR) = some (.inl (some (.int (iI e2))), T, M, F) := by rw [h]
theorem rb1 {c : Prop} {T : pT} {M : pM} {F : pF} (h : c) : (some (.inl (some (.int (iI 1))), T, M, F) : Option pR) = some (.inl (some (.int (iI (bI c)))), T, M, F) := by rw [bI_t h]
theorem rb0 {c : Prop} {T : pT} {M : pM} {F : pF} (h : ¬ c) : (some (.inl (some (.int (iI 0))), T, M, F) : Option pR) = some (.inl (some (.int (iI (bI c)))), T, M, F) := by rw [bI_f h]
end PSIM
