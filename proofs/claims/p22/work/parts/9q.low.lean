section PLOW
def p_oM : pG ⊕ pR → pM
  | .inl g => g.2.2.2.2.1
  | .inr r => r.2.2.1
/-- the given cells are not written -/
def s_lo (M M' : pM) : Prop := ∀ a, a < 100 → M' a = M a
theorem s_lo.rf {M : pM} : s_lo M M := fun _ _ => rfl
theorem s_lo.tr {M M' M'' : pM} (h : s_lo M M') (h' : s_lo M' M'') : s_lo M M'' := fun a ha => (h' a ha).trans (h a ha)
theorem s_lo.wr {M : pM} {a : Nat} {f : Int → Int} (h : 100 ≤ a) : s_lo M (uA M a f) := fun b hb => uA_n (by omega)
variable {T T' : pT} {M M' : pM} {F : pF} {L : List Slot} {st : List Value} {pc d : Nat} {o : pG ⊕ pR} {y : pC} {call : pK}
theorem mx_nx (h : p_nx pc L st T' M' F = some o) (hm : s_lo M M') : s_lo M (p_oM o) := by cases h; exact hm
theorem mx_ld {v : Option Value} (h : p_ld v pc L st T M F = some o) : s_lo M (p_oM o) := by
  unfold p_ld at h
  split at h
  · exact mx_nx h .rf
  · cases h
theorem mx_st {v : Option (List Slot)} (h : p_st v pc st T M F = some o) : s_lo M (p_oM o) := by
  unfold p_st at h
  split at h
  · exact mx_nx h .rf
  · cases h
theorem mx_br {cnd : Prop} {off : Int} (h : p_br cnd pc off L st T M F = some o) : s_lo M (p_oM o) := by
  unfold p_br at h
  split at h
  · rcases s_pif h with ⟨-, h⟩ | ⟨-, h⟩
    · exact mx_nx h .rf
    · exact mx_nx h .rf
  · cases h
theorem mx_cb {c : Option pR} (hc : ∀ r, c = some r → s_lo M r.2.2.1) (h : p_cb c y pc L st = some o) : s_lo M (p_oM o) := by
  unfold p_cb at h
  split at h
  · cases h
  · exact mx_nx h (hc _ rfl)
  · split at h
    · exact mx_nx h (hc _ rfl)
    · cases h
theorem mx_if {cnd G : Prop} {x z : Option (pG ⊕ pR)} (h : p_if cnd x z = some o) (h1 : cnd → x = some o → G) (h2 : z = some o → G) : G := by
  rcases s_pif h with ⟨c, h⟩ | ⟨-, h⟩
  · exact h1 c h
  · exact h2 h
theorem mx_inv {kind idx : Nat} (hT : 100 ≤ T.1.1) (hc : ∀ y as T M F r, call y as T M F = some r → 100 ≤ T.1.1 → s_lo M r.2.2.1) (h : p_inv d y call pc kind idx L st T M F = some o) : s_lo M (p_oM o) := by
  unfold p_inv at h
  split at h
  · cases h
  · split at h
    all_goals first
      | (cases h; done)
      | skip
    all_goals split at h
    all_goals first
      | (cases h; done)
      | exact mx_cb (fun r hr => hc _ _ _ _ _ r hr hT) (s_pifn h).2
      | exact mx_nx (s_pifn h).2 .rf
      | exact mx_nx (s_pifn h).2 (.wr hT)
      | exact mx_nx (s_pifn h).2 (.wr (s_pifn h).1.1)
      | exact mx_nx (s_pifn h).2 (.wr (s_pifn h).1.2.1)
theorem p_one_lo {ins : Instr} {len : Nat} (hT : 100 ≤ T.1.1) (hc : ∀ y as T M F r, call y as T M F = some r → 100 ≤ T.1.1 → s_lo M r.2.2.1) (h : p_one d y call pc ins len L st T M F = some o) : s_lo M (p_oM o) := by
  unfold p_one at h
  split at h
  all_goals
    repeat' first
      | with_reducible exact mx_nx h .rf
      | with_reducible exact mx_nx h (.wr hT)
      | with_reducible exact mx_ld h
      | with_reducible exact mx_st h
      | with_reducible exact mx_br h
      | with_reducible exact mx_inv hT hc h
      | with_reducible exact mx_if h (fun c h => mx_nx h (.wr c.1)) (fun h => by cases h)
      | with_reducible refine mx_if h (fun _ h => ?_) (fun h => ?_)
      | split at h
      | (cases h; done)
      | (cases h; exact .rf)
      | (cases h; exact .wr hT)
theorem p_run_lo (hm : ∀ y as T M F r, call y as T M F = some r → s_mono T r.2.1) (hc : ∀ y as T M F r, call y as T M F = some r → 100 ≤ T.1.1 → s_lo M r.2.2.1) : ∀ (n : Nat) (g : pG) {r : pR}, 100 ≤ g.2.2.2.1.1.1 → p_run d y call n g = some r → s_lo g.2.2.2.2.1 r.2.2.1
  | 0, g, r, _, h => by cases h
  | n + 1, g, r, hT, h => by
    rw [p_run] at h
    cases hs : p_step d y call g with
    | none => rw [hs] at h; cases h
    | some x =>
      rw [hs] at h
      have h1 : s_lo g.2.2.2.2.1 (p_oM x) ∧ s_mono g.2.2.2.1 (p_oT x) := by
        unfold p_step at hs
        split at hs
        · exact ⟨p_one_lo hT hc hs, p_one_mono hm hs⟩
        · cases hs
      cases x with
      | inr r' => cases h; exact h1.1
      | inl g' => exact h1.1.tr (p_run_lo hm hc n g' (Nat.le_trans hT h1.2.1) h)
theorem callD_M : ∀ (d : Nat) (y : pC) (as : List Value) (T : pT) (M : pM) (F : pF) (r : pR), callD d y as T M F = some r → 100 ≤ T.1.1 → s_lo M r.2.2.1
  | 0, y, as, T, M, F, r, h, _ => by cases h
  | d + 1, y, as, T, M, F, r, h, hT => by
    rw [callD] at h
    dsimp only at h
    split at h
    · obtain ⟨n, hn⟩ := p_lim_ex h
      exact p_run_lo (callD_T d) (callD_M d) n _ hT hn
    · cases h
end PLOW
