section PS8
variable {p : Program} {l : Launch} {e : Env} {Rm : Room} {s : State} {m : MethodId} {args : Array Value} {below : List Frame} {meth : Method} {c : Code} {Q : State → Prop} {D : va_G} {fv : Value} {A : Nat → Prop} {n : Nat} {σ : Nat → Nat} {T : pT} {M M' : pM} {F F' : pF} {H H' : Heap} {locs : List Loc} {L : List Slot} {ls : Array Slot} {cells slots : Nat} {st st' : List Value} {pc : Nat} {o : pG ⊕ pR} {a : Nat} {y : pC}
def s_sn (σ : Nat → Nat) (n b : Nat) : Nat → Nat := fun a => if a = n then b else σ a
theorem s_sn_lt {b : Nat} : ∀ a, a < T.1.1 → s_sn σ T.1.1 b a = σ a := fun a h => if_neg (Nat.ne_of_lt h)
theorem p_ty_new {tag N b : Nat} (h : b ≠ T.1.1) : p_ty (p_new T tag N) b = p_ty T b := by
  unfold p_ty p_new
  dsimp only
  rw [if_neg h]
theorem p_ty_newS {tag N : Nat} (h : 100 ≤ T.1.1) : p_ty (p_new T tag N) T.1.1 = (tag, N) := by
  unfold p_ty p_new
  dsimp only
  rw [if_neg (by omega), if_pos rfl]
theorem s_W.new {tag N : Nat} {mf : Int → Int} (hW : s_W D σ fv T M F s H) (h12 : tag ≠ 12) (z : H'.size = H.size + 1) (oq : ∀ q : Nat, q < H.size → H'[q]? = H[q]?)
    (hc : s_c D (s_vm (s_sn σ T.1.1 H.size) fv) (uA M T.1.1 mf) (uA F T.1.1 (fun _ => none)) (tag, N) T.1.1 H.size s H') : s_W D (s_sn σ T.1.1 H.size) fv (p_new T tag N) (uA M T.1.1 mf) (uA F T.1.1 (fun _ => none)) s H' := by
  obtain ⟨h1, h2, h3, h4, h5, h6, h7⟩ := hW
  have hlt : ∀ b, (p_ty T b).1 ≠ 0 → σ b < H.size := fun b hb => (h3 b).lt hb
  have hn0 : (p_ty T T.1.1).1 = 0 := h2 _ (Nat.le_refl _)
  refine ⟨Nat.le_succ_of_le h1, fun b hb => ?_, fun b => ?_, fun x z' hx tx tz ez => ?_, fun x z' tx tz ez => ?_, h6, fun b i r hb => ?_⟩
  · have hb : T.1.1 + 1 ≤ b := hb
    rw [p_ty_new (by omega)]
    exact h2 b (by omega)
  · by_cases e : b = T.1.1
    · subst e
      rw [p_ty_newS h1, show s_sn σ T.1.1 H.size T.1.1 = H.size from if_pos rfl]
      exact hc
    · rw [p_ty_new e, show s_sn σ T.1.1 H.size b = σ b from if_neg e]
      by_cases e0 : (p_ty T b).1 = 0
      · unfold s_c; rw [if_pos e0]; trivial
      · refine s_c.same (M := M) (F := F) (vm := s_vm σ fv) (fun i => ?_) (fun i => ?_) ((h3 b).kept (oq _ (hlt b e0)))
        · unfold p_mv; rw [show uA M T.1.1 mf b = M b from if_neg e]
        · have e2 : p_fv (uA F T.1.1 (fun _ => none)) b i = p_fv F b i := by unfold p_fv; rw [show uA F T.1.1 (fun _ => none) b = F b from if_neg e]
          rw [e2]
          refine s_vm_ext (n := T.1.1) s_sn_lt (fun r hr => ?_)
          cases hf : p_fv F b i with
          | none => rw [hf] at hr; cases hr
          | some x => rw [hf] at hr; cases hr; exact h7 b i _ hf
  · by_cases ex : x = T.1.1
    · subst ex
      by_cases e2 : z' = T.1.1
      · exact e2.symm
      · rw [show s_sn σ T.1.1 H.size T.1.1 = H.size from if_pos rfl, show s_sn σ T.1.1 H.size z' = σ z' from if_neg e2] at ez
        rw [p_ty_new e2] at tz
        have := hlt z' tz
        omega
    · rw [p_ty_new ex] at tx
      by_cases e2 : z' = T.1.1
      · subst e2
        rw [show s_sn σ T.1.1 H.size T.1.1 = H.size from if_pos rfl, show s_sn σ T.1.1 H.size x = σ x from if_neg ex] at ez
        have := hlt x tx
        omega
      · rw [p_ty_new e2] at tz
        rw [show s_sn σ T.1.1 H.size z' = σ z' from if_neg e2, show s_sn σ T.1.1 H.size x = σ x from if_neg ex] at ez
        exact h4 x z' hx tx tz ez
  · have ex : x ≠ T.1.1 := by rintro rfl; rw [p_ty_newS h1] at tx; exact h12 tx
    have e2 : z' ≠ T.1.1 := by rintro rfl; rw [p_ty_newS h1] at tz; exact h12 tz
    rw [p_ty_new ex] at tx
    rw [p_ty_new e2] at tz
    rw [show s_sn σ T.1.1 H.size z' = σ z' from if_neg e2, show s_sn σ T.1.1 H.size x = σ x from if_neg ex] at ez
    exact h5 x z' tx tz ez
  · by_cases e : b = T.1.1
    · subst e
      unfold p_fv at hb
      rw [if_neg (by omega), show uA F T.1.1 (fun _ => none) T.1.1 = (fun _ => none) from if_pos rfl] at hb
      cases hb
    · have : p_fv F b i = some r := by unfold p_fv at hb ⊢; rwa [show uA F T.1.1 (fun _ => none) b = F b from if_neg e] at hb
      exact Nat.lt_succ_of_lt (h7 b i r this)
theorem s_L.ext {vm vm' : Value → Value} (h : s_L vm L ls n) (hv : ∀ (i : Nat) (v : Value), L[i]? = some (.val v) → vm' v = vm v) : s_L vm' L ls n := by
  obtain ⟨h1, lv, h2, h3⟩ := h
  exact ⟨h1, lv, h2, fun i v hi h5 => by rw [hv i v hi]; exact h3 i v hi h5⟩
theorem s_lq100 : ∀ q ∈ p_lq, q.2.2 < 100 := by decide +kernel
theorem s_Z.sig {σ' : Nat → Nat} {U : State} (hσ : ∀ a, a < 100 → σ' a = σ a) (h : s_Z σ fv A U H) : s_Z σ' fv A U H := by
  refine ⟨fun q hq t ht => ?_, h.2.1, h.2.2.1, fun q hq => by rw [hσ q.2.2 (s_lq100 q hq)]; exact h.2.2.2 q hq⟩
  have h1 := h.1 q hq t ht
  have e1 : s_sv σ' fv q.2 = s_sv σ fv q.2 := by
    unfold s_sv
    by_cases e : q.2.1 = 0
    · rw [if_pos e, if_pos e]
      have hb : q.2.2 < 100 := by
        have : ∀ q ∈ p_sl, q.2.2 < 100 := by decide +kernel
        exact this q hq
      show (if q.2.2 = 28 then fv else .ref (σ' q.2.2)) = (if q.2.2 = 28 then fv else .ref (σ q.2.2))
      rw [hσ _ hb]
    · rw [if_neg e, if_neg e]
  rw [e1]; exact h1
theorem s_I.new {tag N : Nat} {mf : Int → Int} (hI : s_I D fv A s n σ T M F H locs L ls st) (h12 : tag ≠ 12) (z : H'.size = H.size + 1) (oq : ∀ q : Nat, q < H.size → H'[q]? = H[q]?)
    (hc : s_c D (s_vm (s_sn σ T.1.1 H.size) fv) (uA M T.1.1 mf) (uA F T.1.1 (fun _ => none)) (tag, N) T.1.1 H.size s H') (hst : ∀ v ∈ st', s_lt T.1.1 v) : s_I D fv A s n (s_sn σ T.1.1 H.size) (p_new T tag N) (uA M T.1.1 mf) (uA F T.1.1 (fun _ => none)) H' locs L ls (.ref T.1.1 :: st') := by
  obtain ⟨h1, h2, h3, h4, h5, h6, h7, h8, h9⟩ := hI
  have h100 : 100 ≤ T.1.1 := h1.1
  have up : ∀ {v : Value}, s_lt T.1.1 v → s_lt (T.1.1 + 1) v := fun h a e => Nat.lt_succ_of_lt (h a e)
  refine ⟨h1.new h12 z oq hc, h2.sig (fun a ha => if_neg (by omega)), ⟨Nat.le_trans h3.1 (by omega), fun q g1 g2 => (oq q (Nat.lt_of_lt_of_le g1 h3.1)).trans (h3.2.1 q g1 g2), h3.2.2⟩, h4, fun b hb tb => ?_, fun b hb tb => ?_, h7.ext (fun i v hi => s_vm_ext (n := T.1.1) s_sn_lt (h9 i v hi)), fun v hv => ?_, fun i v hi => up (h9 i v hi)⟩
  · by_cases e : b = T.1.1
    · subst e
      rw [show s_sn σ T.1.1 H.size T.1.1 = H.size from if_pos rfl]
      exact h4 _ h3.1
    · rw [p_ty_new e] at tb
      rw [show s_sn σ T.1.1 H.size b = σ b from if_neg e]
      exact h5 b hb tb
  · have e : b ≠ T.1.1 := by omega
    rw [p_ty_new e] at tb
    rw [show s_sn σ T.1.1 H.size b = σ b from if_neg e]
    exact h6 b hb tb
  · rcases List.mem_cons.mp hv with rfl | hv
    · exact s_lt.ref (Nat.lt_succ_self _)
    · exact up (hst v hv)
/-- behind an allocation -/
theorem s_al {tag N pc' : Nat} {mf : Int → Int} (hI : s_I D fv A s n σ T M F H locs L ls st) (hst : ∀ v ∈ st', s_lt T.1.1 v) (h12 : tag ≠ 12) (h : p_nx pc' L (.ref T.1.1 :: st') (p_new T tag N) (uA M T.1.1 mf) (uA F T.1.1 (fun _ => none)) = some o) (k : ∀ g, o = .inl g → s_K p l e Rm s m args below meth c Q D fv A n σ T cells slots g)
    (z : H'.size = H.size + 1) (oq : ∀ q : Nat, q < H.size → H'[q]? = H[q]?) (hc : s_c D (s_vm (s_sn σ T.1.1 H.size) fv) (uA M T.1.1 mf) (uA F T.1.1 (fun _ => none)) (tag, N) T.1.1 H.size s H') :
    W p l e Rm s m args below meth c H' locs (cells + 1) (slots + N) Q (F0 m pc' ls (.ref H.size :: st'.map (s_vm σ fv))) := by
  have h100 : 100 ≤ T.1.1 := hI.1.1
  have h' := k _ (Option.some.inj h).symm (s_sn σ T.1.1 H.size) H' locs ls (hI.new h12 z oq hc hst) s_sn_lt (Nat.le_succ _) (Nat.le_add_right _ _)
  have e1 : (Value.ref T.1.1 :: st').map (s_vm (s_sn σ T.1.1 H.size) fv) = .ref H.size :: st'.map (s_vm σ fv) := by
    rw [List.map_cons, s_vm_map s_sn_lt hst]
    congr 1
    show (if T.1.1 = 28 then fv else .ref (s_sn σ T.1.1 H.size T.1.1)) = _
    rw [if_neg (by omega), show s_sn σ T.1.1 H.size T.1.1 = H.size from if_pos rfl]
  dsimp only at h'
  rw [e1] at h'
  exact W.cs (by show _ = cells + (T.1.1 + 1 - T.1.1); omega) (by show _ = slots + (T.1.2 + N - T.1.2); omega) h'
theorem s_mv_z {i : Int} (h : 100 ≤ T.1.1) : p_mv (uA M T.1.1 (fun _ => 0)) T.1.1 i = 0 := by
  unfold p_mv
  rw [if_neg (by omega), show uA M T.1.1 (fun _ => 0) T.1.1 = (fun _ => 0) from if_pos rfl]
theorem s_fv_z {i : Int} (h : 100 ≤ T.1.1) : p_fv (uA F T.1.1 (fun _ => none)) T.1.1 i = none := by
  unfold p_fv
  rw [if_neg (by omega), show uA F T.1.1 (fun _ => none) T.1.1 = (fun _ => none) from if_pos rfl]
theorem s_new (hX : s_X p l s m meth c D y) {idx : Nat} (hI : s_I D fv A s n σ T M F H locs L ls st) (hdg : decode y.2.2.1 pc = .ok (.new idx, 3)) {k0 N q q2 q3 : Nat} (hl : (p_c y.1).lookup idx = some (0, k0, N, q, q2, q3)) (hk2 : k0 ≠ 2)
    (h : p_nx (pc + 3) L (.ref T.1.1 :: st) (p_new T (10 + k0) N) (uA M T.1.1 (fun _ => 0)) (uA F T.1.1 (fun _ => none)) = some o) (k : ∀ g, o = .inl g → s_K p l e Rm s m args below meth c Q D fv A n σ T cells slots g) (hroom : ∀ g, o = .inl g → cells + (g.2.2.2.1.1.1 - T.1.1) ≤ Rm.cells ∧ slots + (g.2.2.2.1.1.2 - T.1.2) ≤ Rm.slots) :
    W p l e Rm s m args below meth c H locs cells slots Q (F0 m pc ls (st.map (s_vm σ fv))) := by
  have h100 : 100 ≤ T.1.1 := hI.1.1
  have hchk := s_all s_cOK hl
  unfold s_cchk at hchk
  simp only [Bool.and_eq_true, Bool.or_eq_true] at hchk
  obtain ⟨⟨⟨w1, w2⟩, w3⟩, w4⟩ := hchk
  have hts := hX.hts (args := args)
  cases hr : vcl k0 with
  | none => rw [hr] at w4; simp [hk2] at w4
  | some r =>
    rw [hr] at w4
    have w4 : (r.1, r.2.2) = (p_cn k0, N) := by
      rcases w4 with w4 | w4
      · exact absurd (of_decide_eq_true w4) hk2
      · exact Option.some.inj (of_decide_eq_true w4)
    have hr1 : r.1 = p_cn k0 := congrArg Prod.fst w4
    have hr2 : r.2.2 = N := congrArg Prod.snd w4
    have hKn := hX.hK.1 _ _ (vcl_ix hr)
    have hrm := hroom _ (Option.some.inj h).symm
    have hrm1 : cells + 1 ≤ Rm.cells := by have : cells + (T.1.1 + 1 - T.1.1) ≤ _ := hrm.1; omega
    have hrm2 : slots + N ≤ Rm.slots := by have : slots + (T.1.2 + N - T.1.2) ≤ _ := hrm.2; omega
    obtain ⟨hin, hty, hnm⟩ := s_own hr
    refine W.newcK hX.1 hX.2.1 hX.2.2.2.1 (hts _ (s_in_tbl w1)) (hts _ (s_in_tbl w2)) (hts _ (s_in_tbl w3)) rfl hdg hrm1 hrm2 (by rw [← hr1]; exact hKn.2.1) rfl fun H1 kC hkC e1 z1 o1 => ?_
    refine s_al hI hI.bnd (by omega) h k z1 o1 ((s_c_obj (k := k0) (q := r) rfl hk2 (fun _ => h100) hr).mpr ((u_born (s_ty k0) hts hin hKn hkC e1 hty).to (fun j hj => ?_)))
    unfold s_fv
    rw [s_mv_z h100, s_fv_z h100]
    have hd : ∀ i, parseFieldDescriptor (r.2.1 j).2.2.1 = some i → i = s_ty k0 j := fun i hi => Option.some.inj (hi.symm.trans (hty j hj))
    have hnd : s_ty k0 j = .int ∨ s_ty k0 j = .boolean ∨ s_ty k0 j = .byte ∨ s_isR (s_ty k0 j) = true := by
      have hall : ∀ k r, vcl k = some r → ∀ j, j < r.2.2 → s_ty k j = .int ∨ s_ty k j = .boolean ∨ s_ty k j = .byte ∨ s_isR (s_ty k j) = true := by
        intro k r hr
        match k, hr with
        | 0, hr => cases hr; decide
        | 1, hr => cases hr; decide
        | 2, hr => cases hr; exact fun j hj => absurd hj (Nat.not_lt_zero _)
        | 3, hr => cases hr; decide
        | 4, hr => cases hr; decide
        | 5, hr => cases hr; decide
        | 6, hr => cases hr; decide
        | 7, hr => cases hr; decide
        | 8, hr => cases hr; decide
        | 9, hr => cases hr; decide
        | 10, hr => cases hr
        | 11, hr => cases hr; decide
        | k + 12, hr => cases hr
      exact hall k0 r hr j hj
    rcases hnd with e9 | e9 | e9 | e9
    · rw [e9]; rfl
    · rw [e9]; rfl
    · rw [e9]; rfl
    · rw [if_pos e9]
      cases hq : s_ty k0 j <;> rw [hq] at e9 <;> first | rfl | cases e9
theorem s_newarr (hX : s_X p l s m meth c D y) {ty : ArrayType} {x : Int32} {tag : Nat} (hI : s_I D fv A s n σ T M F H locs L ls (.int x :: st)) (hdg : decode y.2.2.1 pc = .ok (.newarray ty, 2)) (htag : ty = .int ∧ tag = 1 ∨ ty = .long ∧ tag = 3 ∨ ty = .byte ∧ tag = 5)
    (h : p_if (0 ≤ jI x ∧ jI x ≤ 1000000) (p_nx (pc + 2) L (.ref T.1.1 :: st) (p_new T tag (jI x).toNat) (uA M T.1.1 (fun _ => 0)) (uA F T.1.1 (fun _ => none))) none = some o) (k : ∀ g, o = .inl g → s_K p l e Rm s m args below meth c Q D fv A n σ T cells slots g) (hroom : ∀ g, o = .inl g → cells + (g.2.2.2.1.1.1 - T.1.1) ≤ Rm.cells ∧ slots + (g.2.2.2.1.1.2 - T.1.2) ≤ Rm.slots) :
    W p l e Rm s m args below meth c H locs cells slots Q (F0 m pc ls ((.int x :: st).map (s_vm σ fv))) := by
  have h100 : 100 ≤ T.1.1 := hI.1.1
  obtain ⟨⟨hx0, hx1⟩, h⟩ := s_pifn h
  have hts := hX.hts (args := args)
  have hrm := hroom _ (Option.some.inj h).symm
  have hrm1 : cells + 1 ≤ Rm.cells := by have : cells + (T.1.1 + 1 - T.1.1) ≤ _ := hrm.1; omega
  have hrm2 : slots + (jI x).toNat ≤ Rm.slots := by have : slots + (T.1.2 + (jI x).toNat - T.1.2) ≤ _ := hrm.2; omega
  have hn0 : ¬ x < 0 := by
    rw [Int32.lt_iff_toInt_lt]
    have : (0 : Int32).toInt = 0 := rfl
    unfold jI at hx0
    omega
  have hcl : x.toNatClampNeg = (jI x).toNat := rfl
  have harr : (Cond.arrayClass (newarray.typeOf ty)).before args s = true := by
    refine hts _ ?_
    rcases htag with ⟨rfl, -⟩ | ⟨rfl, -⟩ | ⟨rfl, -⟩
    · exact s_inA_tbl (by decide +kernel)
    · exact s_inA_tbl (by decide +kernel)
    · exact s_inA_tbl (by decide +kernel)
  refine W.newa hX.1 hX.2.1 harr rfl hdg rfl hn0 ?_ hrm1 hrm2 (fun cA kA comp f1 f2 f3 => ?_)
  · rw [hcl]
    rcases htag with ⟨rfl, -⟩ | ⟨rfl, -⟩ | ⟨rfl, -⟩ <;> simp only [newarray.typeOf, componentBytes] <;> omega
  · rw [hcl]
    refine s_al hI hI.pop.bnd (by rcases htag with ⟨-, rfl⟩ | ⟨-, rfl⟩ | ⟨-, rfl⟩ <;> decide) h k (Array.size_push ..) (fun q hq => by rw [Array.getElem?_push, if_neg (Nat.ne_of_lt hq)]) ?_
    have hcell : (H.push ({ cls := cA, slots := Array.replicate (jI x).toNat (defaultValue (newarray.typeOf ty)), vm := .none } : Cell))[H.size]? = some { cls := cA, slots := Array.replicate (jI x).toNat (defaultValue (newarray.typeOf ty)), vm := .none } := Array.getElem?_push_size
    have gA : ∀ f : Nat → Value, (∀ j, f j = defaultValue (newarray.typeOf ty)) → s_A (newarray.typeOf ty) (jI x).toNat f H.size s (H.push { cls := cA, slots := Array.replicate (jI x).toNat (defaultValue (newarray.typeOf ty)), vm := .none }) := fun f hf =>
      ⟨_, hcell, ⟨fun q z => (by cases z), kA, f2, comp, f3⟩, fun z => (by cases z), by dsimp only; rw [Array.size_replicate]; exact Nat.le_refl _, by dsimp only; rw [Array.size_replicate], fun j hj => by rw [hf]; exact (Array.getElem?_replicate ..).trans (if_pos hj)⟩
    rcases htag with ⟨rfl, rfl⟩ | ⟨rfl, rfl⟩ | ⟨rfl, rfl⟩
    · exact s_c_arrI rfl (gA _ (fun j => by rw [s_mv_z h100]; rfl))
    · exact s_c_arrL rfl (gA _ (fun j => by rw [s_mv_z h100]; rfl))
    · exact s_c_arrY rfl ⟨_, hcell, rfl, f1, ⟨fun q z => (by cases z), kA, f2, comp, f3⟩, by dsimp only; rw [Array.size_replicate], fun j v hv => (by
        rw [Array.getElem?_replicate] at hv
        split at hv
        · cases hv; rfl
        · cases hv), fun j hj => by dsimp only; rw [s_mv_z h100]; exact (Array.getElem?_replicate ..).trans (if_pos hj)⟩
theorem s_anew (hX : s_X p l s m meth c D y) {idx : Nat} {x : Int32} (hI : s_I D fv A s n σ T M F H locs L ls (.int x :: st)) (hdg : decode y.2.2.1 pc = .ok (.anewarray idx, 3)) {z : Nat × Nat × Nat × Nat} (hl : (p_c y.1).lookup idx = some (0, 2, z))
    (h : p_if (0 ≤ jI x ∧ jI x ≤ 1000000) (p_nx (pc + 3) L (.ref T.1.1 :: st) (p_new T 4 (jI x).toNat) (uA M T.1.1 (fun _ => 0)) (uA F T.1.1 (fun _ => none))) none = some o) (k : ∀ g, o = .inl g → s_K p l e Rm s m args below meth c Q D fv A n σ T cells slots g) (hroom : ∀ g, o = .inl g → cells + (g.2.2.2.1.1.1 - T.1.1) ≤ Rm.cells ∧ slots + (g.2.2.2.1.1.2 - T.1.2) ≤ Rm.slots) :
    W p l e Rm s m args below meth c H locs cells slots Q (F0 m pc ls ((.int x :: st).map (s_vm σ fv))) := by
  have h100 : 100 ≤ T.1.1 := hI.1.1
  obtain ⟨⟨hx0, hx1⟩, h⟩ := s_pifn h
  have hts := hX.hts (args := args)
  have hrm := hroom _ (Option.some.inj h).symm
  have hrm1 : cells + 1 ≤ Rm.cells := by have : cells + (T.1.1 + 1 - T.1.1) ≤ _ := hrm.1; omega
  have hrm2 : slots + (jI x).toNat ≤ Rm.slots := by have : slots + (T.1.2 + (jI x).toNat - T.1.2) ≤ _ := hrm.2; omega
  have hn0 : ¬ x < 0 := by
    rw [Int32.lt_iff_toInt_lt]
    have : (0 : Int32).toInt = 0 := rfl
    unfold jI at hx0
    omega
  have hcl : x.toNatClampNeg = (jI x).toNat := rfl
  obtain ⟨n0, q, q2, q3⟩ := z
  have hchk := s_all s_cOK hl
  unfold s_cchk at hchk
  simp only [Bool.and_eq_true, Bool.or_eq_true] at hchk
  obtain ⟨⟨⟨w1, -⟩, -⟩, -⟩ := hchk
  refine W.anew hX.1 hX.2.1 hX.2.2.2.1 (hts _ (s_in_tbl w1)) (va_AO.use (hX.2.2.2.2.2.2.2.2.1.2.2.2.1.1)) rfl hdg rfl hn0 (by rw [hcl]; omega) hrm1 hrm2 fun cA kA comp f1 f2 f3 f4 => ?_
  rw [hcl]
  refine s_al hI hI.pop.bnd (by decide) h k (Array.size_push ..) (fun q hq => by rw [Array.getElem?_push, if_neg (Nat.ne_of_lt hq)]) (s_c_arrQ rfl ⟨_, Array.getElem?_push_size, rfl, ⟨kA, comp, f2, f3, f4, f1⟩, by dsimp only; rw [Array.size_replicate], fun j hj => ?_⟩)
  dsimp only
  rw [s_fv_z h100]
  exact (Array.getElem?_replicate ..).trans (if_pos hj)
theorem s_anewN (hX : s_X p l s m meth c D y) {idx : Nat} {x : Int32} (hI : s_I D fv A s n σ T M F H locs L ls (.int x :: st)) (hdg : decode y.2.2.1 pc = .ok (.anewarray idx, 3)) {z : Nat × Nat × Nat × Nat} (hl : (p_c y.1).lookup idx = some (0, 11, z))
    (h : p_if (0 ≤ jI x ∧ jI x ≤ 1000000) (p_nx (pc + 3) L (.ref T.1.1 :: st) (p_new T 6 (jI x).toNat) (uA M T.1.1 (fun _ => 0)) (uA F T.1.1 (fun _ => none))) none = some o) (k : ∀ g, o = .inl g → s_K p l e Rm s m args below meth c Q D fv A n σ T cells slots g) (hroom : ∀ g, o = .inl g → cells + (g.2.2.2.1.1.1 - T.1.1) ≤ Rm.cells ∧ slots + (g.2.2.2.1.1.2 - T.1.2) ≤ Rm.slots) :
    W p l e Rm s m args below meth c H locs cells slots Q (F0 m pc ls ((.int x :: st).map (s_vm σ fv))) := by
  have h100 : 100 ≤ T.1.1 := hI.1.1
  obtain ⟨⟨hx0, hx1⟩, h⟩ := s_pifn h
  have hts := hX.hts (args := args)
  have hrm := hroom _ (Option.some.inj h).symm
  have hrm1 : cells + 1 ≤ Rm.cells := by have : cells + (T.1.1 + 1 - T.1.1) ≤ _ := hrm.1; omega
  have hrm2 : slots + (jI x).toNat ≤ Rm.slots := by have : slots + (T.1.2 + (jI x).toNat - T.1.2) ≤ _ := hrm.2; omega
  have hn0 : ¬ x < 0 := by
    rw [Int32.lt_iff_toInt_lt]
    have : (0 : Int32).toInt = 0 := rfl
    unfold jI at hx0
    omega
  have hcl : x.toNatClampNeg = (jI x).toNat := rfl
  obtain ⟨n0, q, q2, q3⟩ := z
  have hchk := s_all s_cOK hl
  unfold s_cchk at hchk
  simp only [Bool.and_eq_true, Bool.or_eq_true] at hchk
  obtain ⟨⟨⟨w1, -⟩, -⟩, -⟩ := hchk
  refine W.anew hX.1 hX.2.1 hX.2.2.2.1 (hts _ (s_in_tbl w1)) (va_AO.use (hX.2.2.2.2.2.2.2.2.1.2.2.2.1.2)) rfl hdg rfl hn0 (by rw [hcl]; omega) hrm1 hrm2 fun cA kA comp f1 f2 f3 f4 => ?_
  rw [hcl]
  refine s_al hI hI.pop.bnd (by decide) h k (Array.size_push ..) (fun q hq => by rw [Array.getElem?_push, if_neg (Nat.ne_of_lt hq)]) (s_c_arrN rfl ⟨_, Array.getElem?_push_size, rfl, ⟨kA, comp, f2, f3, f4, f1⟩, by dsimp only; rw [Array.size_replicate], fun j hj => ?_⟩)
  dsimp only
  rw [s_fv_z h100]
  exact (Array.getElem?_replicate ..).trans (if_pos hj)
end PS8
