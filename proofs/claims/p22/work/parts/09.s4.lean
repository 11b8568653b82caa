section PS4
/-! what a cell is, by its kind -/
theorem s_c.arrI {D : va_G} {vm : Value → Value} {M : pM} {F : pF} {t : Nat × Nat} {id a : Nat} {U : State} {H : Heap} (h : s_c D vm M F t id a U H) (ht : t.1 ∈ [1, 90, 92]) : s_A .int t.2 (fun j => .int (iI (p_mv M id j))) a U H := by
  have ht : t.1 = 1 ∨ t.1 = 90 ∨ t.1 = 92 := by simpa using ht
  unfold s_c at h
  rwa [if_neg (by omega), if_pos ht] at h
theorem s_c.arrZ {D : va_G} {vm : Value → Value} {M : pM} {F : pF} {t : Nat × Nat} {id a : Nat} {U : State} {H : Heap} (h : s_c D vm M F t id a U H) (ht : t.1 = 2) : s_A .boolean t.2 (fun j => .int (iI (p_mv M id j))) a U H := by
  unfold s_c at h
  rwa [if_neg (by omega), if_neg (by omega), if_pos ht] at h
theorem s_c.arrB {D : va_G} {vm : Value → Value} {M : pM} {F : pF} {t : Nat × Nat} {id a : Nat} {U : State} {H : Heap} (h : s_c D vm M F t id a U H) (ht : t.1 = 93) : s_A .byte t.2 (fun j => .int (iI (p_mv M id j))) a U H := by
  unfold s_c at h
  rwa [if_neg (by omega), if_neg (by omega), if_neg (by omega), if_pos ht] at h
theorem s_c.arrL {D : va_G} {vm : Value → Value} {M : pM} {F : pF} {t : Nat × Nat} {id a : Nat} {U : State} {H : Heap} (h : s_c D vm M F t id a U H) (ht : t.1 = 3) : s_A .long t.2 (fun j => .long (iL (p_mv M id j))) a U H := by
  unfold s_c at h
  rwa [if_neg (by omega), if_neg (by omega), if_neg (by omega), if_neg (by omega), if_pos ht] at h
theorem s_c.arrQ {D : va_G} {vm : Value → Value} {M : pM} {F : pF} {t : Nat × Nat} {id a : Nat} {U : State} {H : Heap} (h : s_c D vm M F t id a U H) (ht : t.1 = 4) : s_Q s_KC t.2 (fun j => vm (p_rv (p_fv F id j))) a U H := by
  unfold s_c at h
  rwa [if_neg (by omega), if_neg (by omega), if_neg (by omega), if_neg (by omega), if_neg (by omega), if_pos ht] at h
theorem s_c.arrY {D : va_G} {vm : Value → Value} {M : pM} {F : pF} {t : Nat × Nat} {id a : Nat} {U : State} {H : Heap} (h : s_c D vm M F t id a U H) (ht : t.1 = 5) : s_B t.2 (fun j => .int (iI (p_mv M id j))) a U H := by
  unfold s_c at h
  rwa [if_neg (by omega), if_neg (by omega), if_neg (by omega), if_neg (by omega), if_neg (by omega), if_neg (by omega), if_pos ht] at h
theorem s_c.arrN {D : va_G} {vm : Value → Value} {M : pM} {F : pF} {t : Nat × Nat} {id a : Nat} {U : State} {H : Heap} (h : s_c D vm M F t id a U H) (ht : t.1 = 6) : s_Q s_SC t.2 (fun j => vm (p_rv (p_fv F id j))) a U H := by
  unfold s_c at h
  rwa [if_neg (by omega), if_neg (by omega), if_neg (by omega), if_neg (by omega), if_neg (by omega), if_neg (by omega), if_neg (by omega), if_pos ht] at h
theorem s_c.arrK {D : va_G} {vm : Value → Value} {M : pM} {F : pF} {t : Nat × Nat} {id a : Nat} {U : State} {H : Heap} (h : s_c D vm M F t id a U H) (ht : t.1 = 91) : s_A (.object s_KC) t.2 (fun j => vm (p_rv (p_fv F id j))) a U H := by
  unfold s_c at h
  rwa [if_neg (by omega), if_neg (by omega), if_neg (by omega), if_neg (by omega), if_neg (by omega), if_neg (by omega), if_neg (by omega), if_neg (by omega), if_pos ht] at h
theorem s_c.arrS {D : va_G} {vm : Value → Value} {M : pM} {F : pF} {t : Nat × Nat} {id a : Nat} {U : State} {H : Heap} (h : s_c D vm M F t id a U H) (ht : t.1 = 95) : s_A (.object s_SC) t.2 (fun j => vm (p_rv (p_fv F id j))) a U H := by
  unfold s_c at h
  rwa [if_neg (by omega), if_neg (by omega), if_neg (by omega), if_neg (by omega), if_neg (by omega), if_neg (by omega), if_neg (by omega), if_neg (by omega), if_neg (by omega), if_pos ht] at h
theorem s_c.kind {D : va_G} {vm : Value → Value} {M : pM} {F : pF} {t : Nat × Nat} {id a : Nat} {U : State} {H : Heap} (h : s_c D vm M F t id a U H) (ht : t.1 = 12) : s_O s_KC a U H ∧ s_F s_KC "text" "Ljava/lang/String;" (vm (p_rv (p_fv F id 0))) a U H ∧ s_F s_KC "number" "I" (.int (iI (p_mv M id 1))) a U H := by
  unfold s_c at h
  rwa [if_neg (by omega), if_neg (by omega), if_neg (by omega), if_neg (by omega), if_neg (by omega), if_neg (by omega), if_neg (by omega), if_neg (by omega), if_neg (by omega), if_neg (by omega), if_pos ht] at h
theorem s_c.str {D : va_G} {vm : Value → Value} {M : pM} {F : pF} {t : Nat × Nat} {id a : Nat} {U : State} {H : Heap} (h : s_c D vm M F t id a U H) (ht : t.1 = 21) (hid : id < 100) : s_O s_SC a U H ∧ s_F s_SC "value" "[B" (vm (p_rv (p_fv F id 0))) a U H ∧ s_F s_SC "coder" "B" (.int (iI (p_mv M id 1))) a U H := by
  unfold s_c at h
  rwa [if_neg (by omega), if_neg (by omega), if_neg (by omega), if_neg (by omega), if_neg (by omega), if_neg (by omega), if_neg (by omega), if_neg (by omega), if_neg (by omega), if_neg (by omega), if_neg (by omega), if_pos ⟨ht, hid⟩] at h
theorem s_c_obj {D : va_G} {vm : Value → Value} {M : pM} {F : pF} {t : Nat × Nat} {id a : Nat} {U : State} {H : Heap} {k : Nat} {q : vw_C} (ht : t.1 = 10 + k) (hk : k ≠ 2) (hid : k = 11 → 100 ≤ id) (hc : vcl k = some q) : s_c D vm M F t id a U H ↔ t_OB a (D.1 (vix k)) q.2.2 (D.2 (vix k)) H (fun j => s_fv vm M F k id j) := by
  have hk9 := vcl_lt hc
  have hd : ¬ (t.1 = 21 ∧ id < 100) := by
    rintro ⟨z1, z2⟩
    have := hid (by omega)
    omega
  unfold s_c
  rw [if_neg (by omega), if_neg (by omega), if_neg (by omega), if_neg (by omega), if_neg (by omega), if_neg (by omega), if_neg (by omega), if_neg (by omega), if_neg (by omega), if_neg (by omega), if_neg (by omega), if_neg hd]
  constructor
  · rintro ⟨k', q', e, h1, h2⟩
    have : k' = k := by omega
    subst this
    rw [hc] at h1
    cases h1
    exact h2
  · intro h
    exact ⟨k, q, by omega, hc, h⟩
/-! the world after a write to one cell -/
theorem s_W.put {D : va_G} {σ : Nat → Nat} {fv : Value} {T : pT} {M M' : pM} {F F' : pF} {U : State} {H H' : Heap} {a : Nat} (hW : s_W D σ fv T M F U H) (ha : 100 ≤ a) (ht : (p_ty T a).1 ≠ 0) (hM : ∀ b, b ≠ a → M' b = M b) (hF : ∀ b, b ≠ a → F' b = F b) (oq : ∀ q : Nat, q ≠ σ a → H'[q]? = H[q]?)
    (hc : s_c D (s_vm σ fv) M' F' (p_ty T a) a (σ a) U H') (hlt : ∀ i r, F' a i = some r → r < T.1.1) : s_W D σ fv T M' F' U H' := by
  obtain ⟨h1, h2, h3, h4, h5, h6, h7⟩ := hW
  refine ⟨h1, h2, fun b => ?_, h4, h5, h6, fun b i r hb => ?_⟩
  · by_cases e : b = a
    · subst e; exact hc
    · by_cases e0 : (p_ty T b).1 = 0
      · unfold s_c; rw [if_pos e0]; trivial
      · refine s_c.same (M := M) (F := F) (vm := s_vm σ fv) (fun i => ?_) (fun i => ?_) ((h3 b).kept (oq _ (fun z => e (h4 a b ha ht e0 z.symm).symm)))
        · unfold p_mv; rw [hM b e]
        · unfold p_fv; rw [hF b e]
  · by_cases e : b = a
    · subst e
      unfold p_fv at hb
      rw [if_neg (by omega)] at hb
      exact hlt i r hb
    · refine h7 b i r ?_
      unfold p_fv at hb ⊢
      rwa [hF b e] at hb
variable {p : Program} {l : Launch} {e : Env} {Rm : Room} {s : State} {m : MethodId} {args : Array Value} {below : List Frame} {meth : Method} {c : Code} {Q : State → Prop} {D : va_G} {fv : Value} {A : Nat → Prop} {n : Nat} {σ : Nat → Nat} {T : pT} {M M' : pM} {F F' : pF} {H H' : Heap} {locs : List Loc} {L : List Slot} {ls : Array Slot} {cells slots : Nat} {st st' : List Value} {pc : Nat} {o : pG ⊕ pR} {cc : ByteArray} {a : Nat}
theorem s_I.put {i : Nat} (hI : s_I D fv A s n σ T M F H locs L ls st) (ha : 100 ≤ a) (ht : (p_ty T a).1 ≠ 0) (hM : ∀ b, b ≠ a → M' b = M b) (hF : ∀ b, b ≠ a → F' b = F b) (hz : H'.size = H.size) (oq : ∀ q : Nat, q ≠ σ a → H'[q]? = H[q]?)
    (hc : s_c D (s_vm σ fv) M' F' (p_ty T a) a (σ a) s H') (hlt : ∀ i r, F' a i = some r → r < T.1.1) (hst : ∀ v ∈ st', s_lt T.1.1 v) : s_I D fv A s n σ T M' F' H' (locs ++ [⟨σ a, i⟩]) L ls st' := by
  obtain ⟨h1, h2, h3, h4, h5, h6, h7, h8, h9⟩ := hI
  exact ⟨h1.put ha ht hM hF oq hc hlt, h2, h3.put hz oq (h5 a ha ht), h4, h5, h6, h7, hst, h9⟩
theorem s_refs {b : Nat} (hI : s_I D fv A s n σ T M F H locs L ls st) (hb : 100 ≤ b) {i : Int} {r : Nat} (h : F b i = some r) : r < T.1.1 := hI.1.2.2.2.2.2.2 b i r (by unfold p_fv; rw [if_neg (by omega)]; exact h)
theorem s_idx {i : Int32} {N : Nat} {S : Nat} (h : p_in i N) (hN : N ≤ S) : ¬ (i < 0 ∨ S ≤ i.toNatClampNeg) ∧ i.toNatClampNeg < N ∧ ((i.toNatClampNeg : Nat) : Int) = jI i := by
  unfold p_in jI at h
  have e : i.toNatClampNeg = i.toInt.toNat := rfl
  have h0 : ¬ i < 0 := by
    rw [Int32.lt_iff_toInt_lt]
    have : (0 : Int32).toInt = 0 := rfl
    omega
  refine ⟨?_, by omega, by unfold jI; omega⟩
  rintro (q | q)
  · exact h0 q
  · omega
theorem s_slot {cell : Cell} {N k : Nat} {f : Nat → Value} {v : Value} (h : ∀ j : Nat, j < N → cell.slots[j]? = some (f j)) (hk : k < cell.slots.size) : ∀ j : Nat, j < N → (cell.setSlot k v).slots[j]? = some (if j = k then v else f j) := by
  intro j hj
  show (cell.slots.setIfInBounds k v)[j]? = _
  by_cases e : j = k
  · subst e
    rw [if_pos rfl, Array.getElem?_setIfInBounds_self_of_lt hk]
  · rw [if_neg e, Array.getElem?_setIfInBounds_ne (Ne.symm e)]
    exact h j hj
theorem s_put_arr {ty : FieldType} {N k : Nat} {f g : Nat → Value} {b : Nat} {U : State} {cell : Cell} {v : Value} (h2 : U.isArrayOf cell ty) (h3 : cell.vm ≠ .unknown) (h4 : N ≤ cell.slots.size) (h5 : cell.slots.size.toInt32 = Int32.ofNat N) (h6 : ∀ j : Nat, j < N → cell.slots[j]? = some (f j)) (hk : k < cell.slots.size) (e1 : H'[b]? = some (cell.setSlot k v)) (hg : ∀ j, j < N → g j = if j = k then v else f j) : s_A ty N g b U H' := by
  refine ⟨_, e1, h2, h3, ?_, ?_, fun j hj => by rw [s_slot h6 hk j hj, hg j hj]⟩
  · show N ≤ (cell.slots.setIfInBounds k v).size
    rw [Array.size_setIfInBounds]; exact h4
  · show (cell.slots.setIfInBounds k v).size.toInt32 = _
    rw [Array.size_setIfInBounds]; exact h5
theorem iI_jI' (x : Int32) : iI (jI x) = x := Int32.ofInt_toInt x
theorem iL_jL' (x : Int64) : iL (jL x) = x := Int64.ofInt_toInt x
theorem s_u1 {α : Type} (M : Nat → Int → α) {a : Nat} {i : Int} {v : α} {b : Nat} (h : b ≠ a) : uA M a (u1 (M a) i v) b = M b := if_neg h
theorem s_mv_u {x : Int} {i : Int} {j : Nat} (ha : 100 ≤ a) : p_mv (uA M a (u1 (M a) i x)) a j = if (j : Int) = i then x else p_mv M a j := by
  have h : ¬ (a < 100 ∧ a ≠ 29) := by omega
  unfold p_mv uA u1
  simp only [if_neg h, if_true]
theorem s_fv_u {x : Nat} {i : Int} {j : Nat} (ha : 100 ≤ a) : p_fv (uA F a (u1 (F a) i (some x))) a j = if (j : Int) = i then some x else p_fv F a j := by
  have h : ¬ (a < 100 ∧ a ≠ 29) := by omega
  unfold p_fv uA u1
  simp only [if_neg h, if_true]
end PS4
