section PSHO
variable {k e d : Nat} {T T1 T' T1' T2 T2' : pT} {M M1 M' M1' M2 M2' : pM} {F F1 F' F1' F2 F2' : pF} {L : List Slot} {st : List Value} {pc : Nat} {o : pG ⊕ pR} {y : pC} {call : pK}
theorem h_K0 {m idx K j kd : Nat} {z : Nat × Nat × Bool} (hl : (p_f m).lookup idx = some (K, j, kd, z)) : K ≠ 0 := by
  obtain ⟨q, nest, fin⟩ := z
  have hchk := s_all s_fOK hl
  unfold s_fchk at hchk
  dsimp only at hchk
  rw [Bool.and_eq_true] at hchk
  by_cases h12 : K = 12
  · omega
  · rw [if_neg h12, Bool.and_eq_true] at hchk
    have := of_decide_eq_true hchk.2.1
    omega
theorem h_st0 {m idx v : Nat} {z : Nat × Nat × Nat} (hl : (p_s m).lookup idx = some (0, v, z)) : v < 100 := by
  have h1 := of_decide_eq_true (List.all_eq_true.mp (s_statlt' m) _ (lookup_mem _ hl))
  rcases h1 with h1 | h1
  · exact absurd rfl h1
  · exact h1
theorem h_q0 {m idx z : Nat} {v : Int} (hl : (p_q m).lookup idx = some (1, v, z)) : v.toNat < 100 := by
  have hchk := s_all s_qOK hl
  unfold s_qchk at hchk
  simp only [Bool.and_eq_true] at hchk
  have := of_decide_eq_true hchk.1.1.1.2
  omega
theorem hx_cb {c c' : Option pR} (hm : ∀ r, c = some r → 101 ≤ r.2.1.1.1) (hc : ∀ r, c = some r → ∃ r', c' = some r' ∧ r'.1 = hR k r.1 ∧ hW k e r.2.1 r.2.2.1 r.2.2.2 r'.2.1 r'.2.2.1 r'.2.2.2 ∧ hFr k T T' M' F' r'.2.1 r'.2.2.1 r'.2.2.2) (h : p_cb c y pc L st = some o) : hG k e T T' M' F' o (p_cb c' y pc (L.map (hL k)) (st.map (hV k))) := by
  cases c with
  | none => cases h
  | some r =>
    obtain ⟨r', e1, e2, hw, hf⟩ := hc r rfl
    have h101 := hm r rfl
    obtain ⟨r0, T1, M1, F1⟩ := r
    obtain ⟨r0', T1', M1', F1'⟩ := r'
    subst e1
    dsimp only at e2 hw hf h101
    subst e2
    cases r0 with
    | inl v =>
      have z := hx_nx (st := v.toList ++ st) h hw hf
      rw [List.map_append] at z
      cases v with
      | none => exact z
      | some x => exact z
    | inr E =>
      unfold p_cb at h ⊢
      dsimp only [hR] at h ⊢
      cases hp : p_hnd y pc E with
      | none => rw [hp] at h; cases h
      | some q =>
        rw [hp] at h
        dsimp only at h ⊢
        have z := hx_nx h hw hf
        have e3 : hV k (.ref (T1.1.1 - 1)) = .ref (T1'.1.1 - 1) := by
          have e4 : hS k (T1.1.1 - 1) = T1'.1.1 - 1 := by
            rw [hS_hi (by omega)]
            have e5 := hw.1
            omega
          show Value.ref (hS k (T1.1.1 - 1)) = _
          rw [e4]
        rw [List.map_cons, e3] at z
        exact z
/-- what the callees do -/
def hC (k e : Nat) (call : pK) : Prop := ∀ y as T M F r, call y as T M F = some r → 101 ≤ T.1.1 → ∀ T' M' F', hW k e T M F T' M' F' → ∃ r', call y (as.map (hV k)) T' M' F' = some r' ∧ r'.1 = hR k r.1 ∧ hW k e r.2.1 r.2.2.1 r.2.2.2 r'.2.1 r'.2.2.1 r'.2.2.2 ∧ hFr k T T' M' F' r'.2.1 r'.2.2.1 r'.2.2.2
theorem hx_inv {kind idx : Nat} (h101 : 101 ≤ T.1.1) (hm : ∀ y as T M F r, call y as T M F = some r → s_mono T r.2.1) (hc : hC k e call) (hw : hW k e T M F T' M' F') (h : p_inv d y call pc kind idx L st T M F = some o) : hG k e T T' M' F' o (p_inv d y call pc kind idx (L.map (hL k)) (st.map (hV k)) T' M' F') := by
  unfold p_inv at h ⊢
  cases hl : (p_m y.1).lookup idx with
  | none => rw [hl] at h; cases h
  | some q =>
    obtain ⟨k0, y', n, q⟩ := q
    rw [hl] at h
    dsimp only at h ⊢
    have vcase : ∀ {a : Nat} {st' : List Value}, st.drop n = .ref a :: st' → p_if ((p_ty T a).1 = p_tag y'.1 ∧ st'.length ≤ 4) (p_cb (call y' (.ref a :: (st.take n).reverse) T M F) y pc L st') none = some o →
        hG k e T T' M' F' o (match (st.map (hV k)).drop n with
          | .ref a :: st' => p_if ((p_ty T' a).1 = p_tag y'.1 ∧ st'.length ≤ 4) (p_cb (call y' (.ref a :: ((st.map (hV k)).take n).reverse) T' M' F') y pc (L.map (hL k)) st') none
          | _ => none) := by
      intro a st' hst h
      rw [← List.map_drop, hst, List.map_cons]
      refine hx_if h (fun c => ?_) (fun c h => ?_)
      · rw [hw.ty (by rw [c.1]; exact s_tag0 _), List.length_map]; exact c
      · refine hx_cb (fun r hr => Nat.le_trans h101 (hm _ _ _ _ _ _ hr).1) (fun r hr => ?_) h
        have z := hc _ _ _ _ _ _ hr h101 T' M' F' hw
        rw [List.map_cons, List.map_reverse, List.map_take] at z
        exact z
    split at h
    · -- static
      split at h
      · rename_i c0
        rw [if_pos (by rw [List.length_map]; exact c0)]
        rw [← List.map_drop]
        refine hx_if h (fun c => by rw [List.length_map]; exact c) (fun c h => ?_)
        refine hx_cb (fun r hr => Nat.le_trans h101 (hm _ _ _ _ _ _ hr).1) (fun r hr => ?_) h
        have z := hc _ _ _ _ _ _ hr h101 T' M' F' hw
        rw [List.map_reverse, List.map_take] at z
        exact z
      · cases h
    · split at h
      · rename_i hst; exact vcase hst h
      · cases h
    · split at h
      · rename_i hst; exact vcase hst h
      · cases h
    · split at h
      · rename_i hst; exact vcase hst h
      · cases h
    · split at h
      · rename_i hst; exact vcase hst h
      · cases h
    · split at h
      · rename_i hst; exact vcase hst h
      · cases h
    · split at h
      · rename_i a st'
        show hG k e T T' M' F' o (p_if (pW (p_tag y.1) (hS k a) (p_ty T' (hS k a)) ∧ (st'.map (hV k)).length ≤ 4) (p_nx (pc + 3) (L.map (hL k)) (st'.map (hV k)) T' M' F') none)
        refine hx_if h (fun c => ?_) (fun c h => hx_0 h hw)
        obtain ⟨⟨c1, c2⟩, c3⟩ := c
        rw [List.length_map]
        refine ⟨⟨hS_ge c1, ?_⟩, c3⟩
        rw [hw.ty (by rw [c2]; exact s_tag0 _)]; exact c2
      · cases h
    · split at h
      · rename_i a st'
        show hG k e T T' M' F' o (p_if (100 ≤ hS k a ∧ (p_ty T' (hS k a)).1 = 5 ∧ (st'.map (hV k)).length ≤ 4) (p_nx (pc + 3) (L.map (hL k)) (.ref T'.1.1 :: st'.map (hV k)) (p_new T' 5 (p_ty T' (hS k a)).2) (uA M' T'.1.1 (M' (hS k a))) (uA F' T'.1.1 (fun _ => none))) none)
        refine hx_if h (fun c => ?_) (fun c h => ?_)
        · rw [hw.ty (by omega), List.length_map]
          exact ⟨hS_ge c.1, c.2.1, c.2.2⟩
        · rw [hw.ty (by omega), (hw.2.2 a ⟨Or.inl c.1, by omega⟩).2.1]
          exact hx_nw hw (by omega) h
      · cases h
    · split at h
      · rename_i n9 dp b sp a st'
        show hG k e T T' M' F' o (p_if (100 ≤ hS k b ∧ hS k a ≠ hS k b ∧ ((p_ty T' (hS k a)).1 = 5 ∨ (p_ty T' (hS k a)).1 = 93 ∧ hS k a < 100 ∧ hS k a ≠ 29) ∧ (p_ty T' (hS k b)).1 = 5 ∧ 0 ≤ jI sp ∧ 0 ≤ jI dp ∧ 0 ≤ jI n9 ∧ jI sp + jI n9 ≤ (p_ty T' (hS k a)).2 ∧ jI dp + jI n9 ≤ (p_ty T' (hS k b)).2 ∧ (st'.map (hV k)).length ≤ 4) (p_nx (pc + 3) (L.map (hL k)) (st'.map (hV k)) T' (uA M' (hS k b) (fun j => if jI dp ≤ j ∧ j < jI dp + jI n9 then p_mv M' (hS k a) (jI sp + (j - jI dp)) else M' (hS k b) j)) F') none)
        refine hx_if h (fun c => ?_) (fun c h => ?_)
        · obtain ⟨c1, c2, c3, c4, c5⟩ := c
          rw [hw.ty (a := a) (by omega), hw.ty (a := b) (by omega), List.length_map]
          refine ⟨hS_ge c1, fun z => c2 (hS_inj z), ?_, c4, c5⟩
          rcases c3 with c3 | ⟨c3, c31, c32⟩
          · exact Or.inl c3
          · rw [hS_lo c31]; exact Or.inr ⟨c3, c31, c32⟩
        · obtain ⟨c1, c2, c3, c4, c5⟩ := c
          have e1 := fun i => hw.mv (a := a) (by omega) i
          have e2 := (hw.2.2 b ⟨Or.inl c1, by omega⟩).2.1
          simp only [e1, e2]
          exact hx_nx h (hw.wM c1 (by omega) rfl) (hFr.wM c1 (by omega))
      · cases h
    · split at h
      · rename_i n9 dp b sp a st'
        show hG k e T T' M' F' o (p_if (100 ≤ hS k a ∧ 100 ≤ hS k b ∧ hS k a ≠ hS k b ∧ (p_ty T' (hS k a)).1 = 1 ∧ (p_ty T' (hS k b)).1 = 1 ∧ 0 ≤ jI sp ∧ 0 ≤ jI dp ∧ 0 ≤ jI n9 ∧ jI sp + jI n9 ≤ (p_ty T' (hS k a)).2 ∧ jI dp + jI n9 ≤ (p_ty T' (hS k b)).2 ∧ (st'.map (hV k)).length ≤ 4) (p_nx (pc + 3) (L.map (hL k)) (st'.map (hV k)) T' (uA M' (hS k b) (fun j => if jI dp ≤ j ∧ j < jI dp + jI n9 then M' (hS k a) (jI sp + (j - jI dp)) else M' (hS k b) j)) F') none)
        refine hx_if h (fun c => ?_) (fun c h => ?_)
        · obtain ⟨c1, c2, c3, c4, c5⟩ := c
          rw [hw.ty (a := a) (by omega), hw.ty (a := b) (by omega), List.length_map]
          exact ⟨hS_ge c1, hS_ge c2, fun z => c3 (hS_inj z), c4, c5⟩
        · obtain ⟨c1, c2, c3, c4, c5⟩ := c
          have e1 := (hw.2.2 a ⟨Or.inl c1, by omega⟩).2.1
          have e2 := (hw.2.2 b ⟨Or.inl c2, by omega⟩).2.1
          rw [e1, e2]
          exact hx_nx h (hw.wM c2 (by omega) rfl) (hFr.wM c2 (by omega))
      · cases h
    · cases h
set_option maxHeartbeats 8000000 in
theorem hs_one {ins : Instr} {len : Nat} (h101 : 101 ≤ T.1.1) (hm : ∀ y as T M F r, call y as T M F = some r → s_mono T r.2.1) (hc : hC k e call) (hw : hW k e T M F T' M' F') (h : p_one d y call pc ins len L st T M F = some o) : hG k e T T' M' F' o (p_one d y call pc ins len (L.map (hL k)) (st.map (hV k)) T' M' F') := by
  have h100 : 100 ≤ T.1.1 := by omega
  unfold p_one at h
  split at h
  · have z := hx_0 h hw
    exact z
  · exact hx_ite h (fun c => c) (fun _ h => by have z := hx_0 h hw; exact z)
  · exact hx_ite h (fun c => c) (fun _ h => by have z := hx_0 h hw; exact z)
  · have z := hx_0 h hw
    exact z
  · exact hx_ite h (fun c => c) (fun _ h => by have z := hx_0 h hw; exact z)
  · rename_i idx
    show hG k e T T' M' F' o (match (p_q y.1).lookup idx with | some (0, v, _) => p_nx (pc + 2) (L.map (hL k)) (.int (iI v) :: st.map (hV k)) T' M' F' | some (1, v, _) => p_nx (pc + 2) (L.map (hL k)) (.ref v.toNat :: st.map (hV k)) T' M' F' | _ => none)
    split at h
    · rename_i v z9 hl
      rw [hl]
      have z := hx_0 h hw
      exact z
    · rename_i v z9 hl
      rw [hl]
      have z := hx_0 h hw
      rw [List.map_cons, show hV k (.ref v.toNat) = .ref v.toNat from congrArg Value.ref (hS_lo (h_q0 hl))] at z
      exact z
    · cases h
  · have z := hx_0 h hw
    exact z
  · rename_i idx
    show hG k e T T' M' F' o (match (p_k y.1).lookup idx with | some (v, _) => p_nx (pc + 3) (L.map (hL k)) (.long (iL v) :: st.map (hV k)) T' M' F' | none => none)
    split at h
    · rename_i v z9 hl
      rw [hl]
      have z := hx_0 h hw
      exact z
    · cases h
  · have z := hx_ld ((h_ldI (k := k) _).trans h_mI.symm) h hw
    exact z
  · have z := hx_ld ((h_ldI (k := k) _).trans h_mI.symm) h hw
    exact z
  · have z := hx_ld (h_ldA _) h hw
    exact z
  · have z := hx_ld (h_ldA _) h hw
    exact z
  · have z := hx_ld ((h_ldL (k := k) _).trans h_mL.symm) h hw
    exact z
  · have z := hx_ld ((h_ldL (k := k) _).trans h_mL.symm) h hw
    exact z
  · have z := hx_ld ((h_ldD (k := k) _).trans h_mD.symm) h hw
    exact z
  · have z := hx_ld ((h_ldD (k := k) _).trans h_mD.symm) h hw
    exact z
  · have z := hx_st (h_sv1 _ _) h hw
    exact z
  · have z := hx_st (h_sv1 _ _) h hw
    exact z
  · have z := hx_st (h_sv1 _ _) h hw
    exact z
  · have z := hx_st (h_sv1 _ _) h hw
    exact z
  · have z := hx_st (h_sv2 _ _) h hw
    exact z
  · have z := hx_st (h_sv2 _ _) h hw
    exact z
  · have z := hx_st (h_sv2 _ _) h hw
    exact z
  · have z := hx_st (h_sv2 _ _) h hw
    exact z
  · rename_i i n0
    show hG k e T T' M' F' o (match (L.map (hL k))[i]? with | some (.val (.int x)) => p_nx (pc + 3) ((L.map (hL k)).set i (.val (.int (x + iI n0)))) (st.map (hV k)) T' M' F' | _ => none)
    split at h
    · rename_i x hl
      rw [h_get, hl]
      have z := hx_0 h hw
      rw [List.map_set] at z
      exact z
    · cases h
  · exact hx_ite h (fun c => by rw [hV_cat]; exact c) (fun _ h => by have z := hx_0 h hw; exact z)
  · exact hx_ite h (fun c => by rw [hV_cat, hV_cat]; exact c) (fun _ h => by have z := hx_0 h hw; exact z)
  · exact hx_ite h (fun c => by rw [hV_cat]; exact c) (fun _ h => by have z := hx_0 h hw; exact z)
  · have z := hx_0 h hw
    exact z
  · have z := hx_0 h hw
    exact z
  · have z := hx_0 h hw
    exact z
  · have z := hx_0 h hw
    exact z
  · have z := hx_0 h hw
    exact z
  · have z := hx_0 h hw
    exact z
  · exact hx_ifn h (fun c => c) (fun _ h => by have z := hx_0 h hw; exact z)
  · exact hx_ifn h (fun c => c) (fun _ h => by have z := hx_0 h hw; exact z)
  · have z := hx_0 h hw
    exact z
  · have z := hx_0 h hw
    exact z
  · have z := hx_0 h hw
    exact z
  · have z := hx_0 h hw
    exact z
  · have z := hx_0 h hw
    exact z
  · have z := hx_0 h hw
    exact z
  · have z := hx_0 h hw
    exact z
  · have z := hx_0 h hw
    exact z
  · have z := hx_0 h hw
    exact z
  · have z := hx_0 h hw
    exact z
  · have z := hx_0 h hw
    exact z
  · have z := hx_0 h hw
    exact z
  · have z := hx_0 h hw
    exact z
  · have z := hx_0 h hw
    exact z
  · have z := hx_0 h hw
    exact z
  · exact hx_if h (fun c => c) (fun _ h => by have z := hx_0 h hw; exact z)
  · have z := hx_0 h hw
    exact z
  · have z := hx_br h hw
    exact z
  · have z := hx_br h hw
    exact z
  · rename_i off y0 x0 st0
    show hG k e T T' M' F' o (p_if ((p_ty T' (hS k x0)).1 = 12 ∧ (p_ty T' (hS k y0)).1 = 12) (p_br (hS k x0 = hS k y0) pc off (L.map (hL k)) (st0.map (hV k)) T' M' F') none)
    refine hx_if h (fun c => by rw [hw.ty (by omega), hw.ty (by omega)]; exact c) (fun _ h => ?_)
    rw [show (hS k x0 = hS k y0) = (x0 = y0) from propext ⟨fun z => hS_inj z, fun z => congrArg _ z⟩]
    exact hx_br h hw
  · rename_i off y0 x0 st0
    show hG k e T T' M' F' o (p_if ((p_ty T' (hS k x0)).1 = 12 ∧ (p_ty T' (hS k y0)).1 = 12) (p_br (¬ hS k x0 = hS k y0) pc off (L.map (hL k)) (st0.map (hV k)) T' M' F') none)
    refine hx_if h (fun c => by rw [hw.ty (by omega), hw.ty (by omega)]; exact c) (fun _ h => ?_)
    rw [show (¬ hS k x0 = hS k y0) = (¬ x0 = y0) from propext ⟨fun z q => z (congrArg _ q), fun z q => z (hS_inj q)⟩]
    exact hx_br h hw
  · exact hx_ifn h (fun c => by rw [hw.ty c]; exact c) (fun _ h => hx_0 h hw)
  · exact hx_ite h (fun c => c) (fun _ h => hx_ifn h (fun c => by rw [hw.ty c]; exact c) (fun _ h => hx_0 h hw))
  · exact hx_ite h (fun c => c) (fun _ h => hx_0 h hw)
  · rename_i df lo hi offs x0 st0
    refine hx_if2 h (fun h => ?_) (fun h => ?_)
    · cases hz : offs[(jI x0 - lo).toNat]? with
      | none => rw [hz] at h; cases h
      | some off =>
        rw [hz] at h
        exact hx_ite h (fun c => c) (fun _ h => hx_0 h hw)
    · exact hx_ite h (fun c => c) (fun _ h => hx_0 h hw)
  · rename_i idx a st0
    show hG k e T T' M' F' o (match (p_f y.1).lookup idx with | some (K, j, kd, _) => p_if ((p_ty T' (hS k a)).1 = K) (p_nx (pc + 3) (L.map (hL k)) ((if kd = 2 then p_rv (p_fv F' (hS k a) j) else .int (iI (p_mv M' (hS k a) j))) :: st0.map (hV k)) T' M' F') none | none => none)
    split at h
    · rename_i K j kd z9 hl
      rw [hl]
      have hK := h_K0 hl
      refine hx_if h (fun c => by rw [hw.ty (by rw [c]; exact hK)]; exact c) (fun c h => ?_)
      rw [hw.mv (by rw [c]; exact hK), hw.fv (by rw [c]; exact hK), h_rv]
      have z := hx_0 h hw
      rw [List.map_cons] at z
      split at z
      · rename_i q; rw [if_pos q]; exact z
      · rename_i q; rw [if_neg q]; exact z
    · cases h
  · rename_i idx x a st0
    show hG k e T T' M' F' o (match (p_f y.1).lookup idx with | some (K, j, kd, _, nest, fin) => if ((!fin || (y.2.1.name == "<init>" && K == 10 + y.1 && nest == 0)) && K != 12) = false then none else if kd = 0 then p_if (100 ≤ hS k a ∧ (p_ty T' (hS k a)).1 = K) (p_nx (pc + 3) (L.map (hL k)) (st0.map (hV k)) T' (uA M' (hS k a) (u1 (M' (hS k a)) j (jI x))) F') none else if kd = 1 then p_if (100 ≤ hS k a ∧ (p_ty T' (hS k a)).1 = K ∧ (x = 0 ∨ x = 1)) (p_nx (pc + 3) (L.map (hL k)) (st0.map (hV k)) T' (uA M' (hS k a) (u1 (M' (hS k a)) j (jI x))) F') none else if kd = 3 then p_if (100 ≤ hS k a ∧ (p_ty T' (hS k a)).1 = K ∧ -128 ≤ jI x ∧ jI x < 128) (p_nx (pc + 3) (L.map (hL k)) (st0.map (hV k)) T' (uA M' (hS k a) (u1 (M' (hS k a)) j (jI x))) F') none else none | none => none)
    split at h
    · rename_i K j kd q nest fin hl
      rw [hl]
      have hK := h_K0 hl
      dsimp only at h ⊢
      split at h
      · cases h
      · rename_i g0
        rw [if_neg g0]
        split at h
        · rename_i e0
          rw [if_pos e0]
          exact hx_if h (fun c => by rw [hw.ty (by rw [c.2]; exact hK)]; exact ⟨hS_ge c.1, c.2⟩) (fun c h => by
            have e2 := (hw.2.2 _ ⟨Or.inl c.1, by rw [c.2]; exact hK⟩).2.1
            rw [e2]
            exact hx_nx h (hw.wM c.1 (by rw [c.2]; exact hK) rfl) (hFr.wM c.1 (by rw [c.2]; exact hK)))
        · rename_i e0
          rw [if_neg e0]
          split at h
          · rename_i e1
            rw [if_pos e1]
            exact hx_if h (fun c => by rw [hw.ty (by rw [c.2.1]; exact hK)]; exact ⟨hS_ge c.1, c.2⟩) (fun c h => by
              have e2 := (hw.2.2 _ ⟨Or.inl c.1, by rw [c.2.1]; exact hK⟩).2.1
              rw [e2]
              exact hx_nx h (hw.wM c.1 (by rw [c.2.1]; exact hK) rfl) (hFr.wM c.1 (by rw [c.2.1]; exact hK)))
          · rename_i e1
            rw [if_neg e1]
            split at h
            · rename_i e2
              rw [if_pos e2]
              exact hx_if h (fun c => by rw [hw.ty (by rw [c.2.1]; exact hK)]; exact ⟨hS_ge c.1, c.2⟩) (fun c h => by
                have e2 := (hw.2.2 _ ⟨Or.inl c.1, by rw [c.2.1]; exact hK⟩).2.1
                rw [e2]
                exact hx_nx h (hw.wM c.1 (by rw [c.2.1]; exact hK) rfl) (hFr.wM c.1 (by rw [c.2.1]; exact hK)))
            · cases h
    · cases h
  · rename_i idx r a st0
    show hG k e T T' M' F' o (match (p_f y.1).lookup idx with | some (K, j, kd, _, nest, fin) => if ((!fin || (y.2.1.name == "<init>" && K == 10 + y.1 && nest == 0)) && K != 12) = false then none else if kd = 2 then p_if (100 ≤ hS k a ∧ (p_ty T' (hS k a)).1 = K) (p_nx (pc + 3) (L.map (hL k)) (st0.map (hV k)) T' M' (uA F' (hS k a) (u1 (F' (hS k a)) j (some (hS k r))))) none else none | none => none)
    split at h
    · rename_i K j kd q nest fin hl
      rw [hl]
      have hK := h_K0 hl
      dsimp only at h ⊢
      split at h
      · cases h
      · rename_i g0
        rw [if_neg g0]
        split at h
        · rename_i e0
          rw [if_pos e0]
          exact hx_if h (fun c => by rw [hw.ty (by rw [c.2]; exact hK)]; exact ⟨hS_ge c.1, c.2⟩) (fun c h => hx_nx h (hw.wF c.1 (by rw [c.2]; exact hK)) (hFr.wF c.1 (by rw [c.2]; exact hK)))
        · cases h
    · cases h
  · rename_i idx
    show hG k e T T' M' F' o (match (p_s y.1).lookup idx with | some (0, v, _) => p_nx (pc + 3) (L.map (hL k)) (.ref v :: st.map (hV k)) T' M' F' | some (1, v, _) => p_nx (pc + 3) (L.map (hL k)) (.int (iI v) :: st.map (hV k)) T' M' F' | _ => none)
    split at h
    · rename_i v z9 hl
      rw [hl]
      have z := hx_0 h hw
      rw [List.map_cons, show hV k (.ref v) = .ref v from congrArg Value.ref (hS_lo (h_st0 hl))] at z
      exact z
    · rename_i v z9 hl
      rw [hl]
      have z := hx_0 h hw
      exact z
    · cases h
  · rename_i a st0
    show hG k e T T' M' F' o (p_if ((p_ty T' (hS k a)).1 ∈ [1, 3, 4, 5, 6, 90, 91, 92, 93]) (p_nx (pc + 1) (L.map (hL k)) (.int (iI (p_ty T' (hS k a)).2) :: st0.map (hV k)) T' M' F') none)
    refine hx_if h (fun c => by rw [hw.ty (by intro z; rw [z] at c; simp at c)]; exact c) (fun c h => ?_)
    rw [hw.ty (by intro z; rw [z] at c; simp at c)]
    have z := hx_0 h hw
    exact z
  · rename_i i a st0
    show hG k e T T' M' F' o (p_if ((p_ty T' (hS k a)).1 ∈ [1, 90, 92] ∧ p_in i (p_ty T' (hS k a)).2) (p_nx (pc + 1) (L.map (hL k)) (.int (iI (p_mv M' (hS k a) (jI i))) :: st0.map (hV k)) T' M' F') none)
    refine hx_if h (fun c => by rw [hw.ty (by intro z; have c := c.1; rw [z] at c; simp at c)]; exact c) (fun c h => ?_)
    rw [hw.mv (by intro z; have c := c.1; rw [z] at c; simp at c)]
    have z := hx_0 h hw
    exact z
  · rename_i i a st0
    show hG k e T T' M' F' o (p_if ((p_ty T' (hS k a)).1 ∈ [5, 93] ∧ p_in i (p_ty T' (hS k a)).2) (p_nx (pc + 1) (L.map (hL k)) (.int (iI (p_mv M' (hS k a) (jI i))) :: st0.map (hV k)) T' M' F') none)
    refine hx_if h (fun c => by rw [hw.ty (by intro z; have c := c.1; rw [z] at c; simp at c)]; exact c) (fun c h => ?_)
    rw [hw.mv (by intro z; have c := c.1; rw [z] at c; simp at c)]
    have z := hx_0 h hw
    exact z
  · rename_i i a st0
    show hG k e T T' M' F' o (p_if ((p_ty T' (hS k a)).1 = 3 ∧ p_in i (p_ty T' (hS k a)).2) (p_nx (pc + 1) (L.map (hL k)) (.long (iL (p_mv M' (hS k a) (jI i))) :: st0.map (hV k)) T' M' F') none)
    refine hx_if h (fun c => by rw [hw.ty (by intro z; have c := c.1; rw [z] at c; simp at c)]; exact c) (fun c h => ?_)
    rw [hw.mv (by intro z; have c := c.1; rw [z] at c; simp at c)]
    have z := hx_0 h hw
    exact z
  · rename_i i a st0
    show hG k e T T' M' F' o (p_if ((p_ty T' (hS k a)).1 ∈ [4, 6, 91] ∧ p_in i (p_ty T' (hS k a)).2) (p_nx (pc + 1) (L.map (hL k)) (p_rv (p_fv F' (hS k a) (jI i)) :: st0.map (hV k)) T' M' F') none)
    refine hx_if h (fun c => by rw [hw.ty (by intro z; have c := c.1; rw [z] at c; simp at c)]; exact c) (fun c h => ?_)
    rw [hw.fv (by intro z; have c := c.1; rw [z] at c; simp at c), h_rv]
    have z := hx_0 h hw
    exact z
  · rename_i x i a st0
    show hG k e T T' M' F' o (p_if (100 ≤ hS k a ∧ (p_ty T' (hS k a)).1 = 1 ∧ p_in i (p_ty T' (hS k a)).2) (p_nx (pc + 1) (L.map (hL k)) (st0.map (hV k)) T' (uA M' (hS k a) (u1 (M' (hS k a)) (jI i) (jI x))) F') none)
    refine hx_if h (fun c => by rw [hw.ty (by omega)]; exact ⟨hS_ge c.1, c.2⟩) (fun c h => ?_)
    have e2 := (hw.2.2 _ ⟨Or.inl c.1, by omega⟩).2.1
    rw [e2]
    exact hx_nx h (hw.wM c.1 (by omega) rfl) (hFr.wM c.1 (by omega))
  · rename_i x i a st0
    show hG k e T T' M' F' o (p_if (100 ≤ hS k a ∧ (p_ty T' (hS k a)).1 = 5 ∧ p_in i (p_ty T' (hS k a)).2 ∧ -128 ≤ jI x ∧ jI x < 128) (p_nx (pc + 1) (L.map (hL k)) (st0.map (hV k)) T' (uA M' (hS k a) (u1 (M' (hS k a)) (jI i) (jI x))) F') none)
    refine hx_if h (fun c => by rw [hw.ty (by omega)]; exact ⟨hS_ge c.1, c.2⟩) (fun c h => ?_)
    have e2 := (hw.2.2 _ ⟨Or.inl c.1, by omega⟩).2.1
    rw [e2]
    exact hx_nx h (hw.wM c.1 (by omega) rfl) (hFr.wM c.1 (by omega))
  · rename_i x i a st0
    show hG k e T T' M' F' o (p_if (100 ≤ hS k a ∧ (p_ty T' (hS k a)).1 = 3 ∧ p_in i (p_ty T' (hS k a)).2) (p_nx (pc + 1) (L.map (hL k)) (st0.map (hV k)) T' (uA M' (hS k a) (u1 (M' (hS k a)) (jI i) (jL x))) F') none)
    refine hx_if h (fun c => by rw [hw.ty (by omega)]; exact ⟨hS_ge c.1, c.2⟩) (fun c h => ?_)
    have e2 := (hw.2.2 _ ⟨Or.inl c.1, by omega⟩).2.1
    rw [e2]
    exact hx_nx h (hw.wM c.1 (by omega) rfl) (hFr.wM c.1 (by omega))
  · rename_i r i a st0
    show hG k e T T' M' F' o (if y.1 = 10 then p_if (100 ≤ hS k a ∧ (p_ty T' (hS k a)).1 = 6 ∧ p_in i (p_ty T' (hS k a)).2 ∧ (p_ty T' (hS k r)).1 = 21) (p_nx (pc + 1) (L.map (hL k)) (st0.map (hV k)) T' M' (uA F' (hS k a) (u1 (F' (hS k a)) (jI i) (some (hS k r))))) none else p_if (100 ≤ hS k a ∧ (p_ty T' (hS k a)).1 = 4 ∧ p_in i (p_ty T' (hS k a)).2 ∧ (p_ty T' (hS k r)).1 = 12) (p_nx (pc + 1) (L.map (hL k)) (st0.map (hV k)) T' M' (uA F' (hS k a) (u1 (F' (hS k a)) (jI i) (some (hS k r))))) none)
    split at h
    · rename_i q
      rw [if_pos q]
      refine hx_if h (fun c => by rw [hw.ty (by omega), hw.ty (by omega)]; exact ⟨hS_ge c.1, c.2⟩) (fun c h => ?_)
      exact hx_nx h (hw.wF c.1 (by omega)) (hFr.wF c.1 (by omega))
    · rename_i q
      rw [if_neg q]
      refine hx_if h (fun c => by rw [hw.ty (by omega), hw.ty (by omega)]; exact ⟨hS_ge c.1, c.2⟩) (fun c h => ?_)
      exact hx_nx h (hw.wF c.1 (by omega)) (hFr.wF c.1 (by omega))
  · rename_i ty n9 st0
    cases ty <;> first | (cases h; done) | exact hx_if h (fun c => c) (fun _ h => hx_nw hw h100 h)
  · rename_i idx n9 st0
    show hG k e T T' M' F' o (match (p_c y.1).lookup idx with | some (0, 2, _) => p_if (0 ≤ jI n9 ∧ jI n9 ≤ 1000000) (p_nx (pc + 3) (L.map (hL k)) (.ref T'.1.1 :: st0.map (hV k)) (p_new T' 4 (jI n9).toNat) (uA M' T'.1.1 (fun _ => 0)) (uA F' T'.1.1 (fun _ => none))) none | some (0, 11, _) => p_if (0 ≤ jI n9 ∧ jI n9 ≤ 1000000) (p_nx (pc + 3) (L.map (hL k)) (.ref T'.1.1 :: st0.map (hV k)) (p_new T' 6 (jI n9).toNat) (uA M' T'.1.1 (fun _ => 0)) (uA F' T'.1.1 (fun _ => none))) none | _ => none)
    split at h
    · rename_i z9 hl
      rw [hl]
      exact hx_if h (fun c => c) (fun _ h => hx_nw hw h100 h)
    · rename_i z9 hl
      rw [hl]
      exact hx_if h (fun c => c) (fun _ h => hx_nw hw h100 h)
    · cases h
  · rename_i idx a st0
    show hG k e T T' M' F' o (match (p_c y.1).lookup idx with | some (3, _) => p_if ((p_ty T' (hS k a)).1 = 5) (p_nx (pc + 3) (L.map (hL k)) (.ref (hS k a) :: st0.map (hV k)) T' M' F') none | _ => none)
    split at h
    · rename_i z9 hl
      rw [hl]
      refine hx_if h (fun c => by rw [hw.ty (by omega)]; exact c) (fun c h => ?_)
      have z := hx_0 h hw
      exact z
    · cases h
  · rename_i idx
    show hG k e T T' M' F' o (match (p_c y.1).lookup idx with | some (0, k9, N, _) => if k9 = 2 then none else p_nx (pc + 3) (L.map (hL k)) (.ref T'.1.1 :: st.map (hV k)) (p_new T' (10 + k9) N) (uA M' T'.1.1 (fun _ => 0)) (uA F' T'.1.1 (fun _ => none)) | some (1, E, _) => if 6 ≤ d ∧ (st.map (hV k)).length ≤ 4 ∧ p_thr y y.2.2.1 pc E = true then some (.inr (.inr E, p_new T' 0 6, uA M' T'.1.1 (fun _ => 0), uA F' T'.1.1 (fun _ => none))) else none | _ => none)
    split at h
    · rename_i k0 N z9 hl
      rw [hl]
      show hG k e T T' M' F' o (if k0 = 2 then none else p_nx (pc + 3) (L.map (hL k)) (.ref T'.1.1 :: st.map (hV k)) (p_new T' (10 + k0) N) (uA M' T'.1.1 (fun _ => 0)) (uA F' T'.1.1 (fun _ => none)))
      split at h
      · cases h
      · rename_i g0
        rw [if_neg g0]
        exact hx_nw hw h100 h
    · rename_i E z9 hl
      rw [hl]
      show hG k e T T' M' F' o (if 6 ≤ d ∧ (st.map (hV k)).length ≤ 4 ∧ p_thr y y.2.2.1 pc E = true then some (.inr (.inr E, p_new T' 0 6, uA M' T'.1.1 (fun _ => 0), uA F' T'.1.1 (fun _ => none))) else none)
      split at h
      · rename_i g0
        rw [if_pos (by rw [List.length_map]; exact g0)]
        cases h
        exact ⟨_, rfl, rfl, hw.nw h100, hFr.nw⟩
      · cases h
    · cases h
  · have z := hx_inv h101 hm hc hw h
    exact z
  · have z := hx_inv h101 hm hc hw h
    exact z
  · have z := hx_inv h101 hm hc hw h
    exact z
  · exact hx_if h (fun c => c) (fun _ h => by cases h; exact ⟨_, rfl, rfl, hw, .rf⟩)
  · exact hx_ite h (fun c => c) (fun _ h => by cases h; exact ⟨_, rfl, rfl, hw, .rf⟩)
  · exact hx_ite h (fun c => c) (fun _ h => by cases h; exact ⟨_, rfl, rfl, hw, .rf⟩)
  · rename_i v
    show hG k e T T' M' F' o (match y.2.2.2.2.1 with | some (.object _) => p_if ((p_ty T' (hS k v)).1 = 0) none (some (.inr (.inl (some (.ref (hS k v))), T', M', F'))) | some (.array _) => p_if ((p_ty T' (hS k v)).1 = 0) none (some (.inr (.inl (some (.ref (hS k v))), T', M', F'))) | _ => none)
    split at h
    · rename_i q
      rw [q]
      exact hx_ifn h (fun c => by rw [hw.ty c]; exact c) (fun _ h => by cases h; exact ⟨_, rfl, rfl, hw, .rf⟩)
    · rename_i q
      rw [q]
      exact hx_ifn h (fun c => by rw [hw.ty c]; exact c) (fun _ h => by cases h; exact ⟨_, rfl, rfl, hw, .rf⟩)
    · cases h
  · exact hx_ite h (fun c => c) (fun _ h => by cases h; exact ⟨_, rfl, rfl, hw, .rf⟩)
  · cases h
theorem hs_run (hm : ∀ y as T M F r, call y as T M F = some r → s_mono T r.2.1) (hc : hC k e call) : ∀ (n : Nat) (pc : Nat) (L : List Slot) (st : List Value) (T : pT) (M : pM) (F : pF) (T' : pT) (M' : pM) (F' : pF) (r : pR), 101 ≤ T.1.1 → hW k e T M F T' M' F' → p_run d y call n (pc, L, st, T, M, F) = some r → ∃ r', p_run d y call n (pc, L.map (hL k), st.map (hV k), T', M', F') = some r' ∧ r'.1 = hR k r.1 ∧ hW k e r.2.1 r.2.2.1 r.2.2.2 r'.2.1 r'.2.2.1 r'.2.2.2 ∧ hFr k T T' M' F' r'.2.1 r'.2.2.1 r'.2.2.2
  | 0, pc, L, st, T, M, F, T', M', F', r, h101, hw, h => by cases h
  | n + 1, pc, L, st, T, M, F, T', M', F', r, h101, hw, h => by
    rw [p_run] at h ⊢
    cases hs : p_step d y call (pc, L, st, T, M, F) with
    | none => rw [hs] at h; cases h
    | some x =>
      rw [hs] at h
      have hst : hG k e T T' M' F' x (p_step d y call (pc, L.map (hL k), st.map (hV k), T', M', F')) ∧ s_mono T (p_oT x) := by
        unfold p_step at hs ⊢
        dsimp only at hs ⊢
        cases hdg : decode y.2.2.1 pc with
        | error er => rw [hdg] at hs; cases hs
        | ok il =>
          rw [hdg] at hs
          exact ⟨hs_one h101 hm hc hw hs, p_one_mono hm hs⟩
      obtain ⟨⟨x', e1, h1⟩, hmo⟩ := hst
      rw [e1]
      cases x with
      | inr r0 =>
        cases x' with
        | inl g' => exact h1.elim
        | inr r' =>
          cases h
          exact ⟨r', rfl, h1⟩
      | inl g =>
        cases x' with
        | inr r' => exact h1.elim
        | inl g' =>
          obtain ⟨pc1, L1, st1, T1, M1, F1⟩ := g
          obtain ⟨pc1', L1', st1', T1', M1', F1'⟩ := g'
          obtain ⟨a1, a2, a3, a4, a5⟩ := h1
          dsimp only at a1 a2 a3 a4 a5
          subst a1; subst a2; subst a3
          have hmo : s_mono T T1 := hmo
          obtain ⟨r', b1, b2, b3, b4⟩ := hs_run hm hc n _ L1 st1 T1 M1 F1 T1' M1' F1' r (Nat.le_trans h101 hmo.1) a4 h
          exact ⟨r', b1, b2, b3, a5.tr hmo hw.1 (by rw [hw.1, a4.1]; exact Nat.add_le_add_right hmo.1 k) (by omega) b4⟩
theorem h_sl : ∀ as : List Value, (lg_sl (as.map (hV k))) = (lg_sl as).map (hL k)
  | [] => rfl
  | v :: as => by
    have e1 : lg_sl (v :: as) = (if v.category = 2 then [.val v, .second] else [.val v]) ++ lg_sl as := rfl
    have e2 : lg_sl ((v :: as).map (hV k)) = (if (hV k v).category = 2 then [.val (hV k v), .second] else [.val (hV k v)]) ++ lg_sl (as.map (hV k)) := rfl
    rw [e1, e2, hV_cat, h_sl as, List.map_append]
    by_cases c : v.category = 2
    · rw [if_pos c, if_pos c]; rfl
    · rw [if_neg c, if_neg c]; rfl
theorem callD_S : ∀ (d : Nat), hC k e (callD d)
  | 0 => fun y as T M F r h => by cases h
  | d + 1 => fun y as T M F r h h101 T' M' F' hw => by
    rw [callD] at h ⊢
    dsimp only at h ⊢
    have el : (lg_sl (as.map (hV k))).length = (lg_sl as).length := by rw [h_sl, List.length_map]
    split at h
    · rename_i c0
      rw [if_pos (by rw [el]; exact c0)]
      obtain ⟨n, hn⟩ := p_lim_ex h
      obtain ⟨r', b1, b2⟩ := hs_run (callD_T d) (callD_S d) n 0 (p_ent y as) [] T M F T' M' F' r h101 hw hn
      refine ⟨r', p_lim_of (fun n r h k hk => p_run_mono n _ h k hk) (n := n) ?_, b2⟩
      have e9 : p_ent y (as.map (hV k)) = (p_ent y as).map (hL k) := by
        unfold p_ent
        rw [el, h_sl, List.map_append, List.map_replicate]
        rfl
      rw [e9]
      exact b1
    · cases h
end PSHO
