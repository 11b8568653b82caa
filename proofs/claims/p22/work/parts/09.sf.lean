section PSF
/-- the world behind a step -/
def p_oT : pG ⊕ pR → pT
  | .inl g => g.2.2.2.1
  | .inr r => r.2.1
variable {T T' : pT} {M : pM} {F : pF} {L : List Slot} {st : List Value} {pc d : Nat} {o : pG ⊕ pR} {y : pC} {call : pK}
theorem mo_nx (h : p_nx pc L st T' M F = some o) (hm : s_mono T T') : s_mono T (p_oT o) := by cases h; exact hm
theorem mo_ld {v : Option Value} (h : p_ld v pc L st T M F = some o) : s_mono T (p_oT o) := by
  unfold p_ld at h
  split at h
  · exact mo_nx h .rf
  · cases h
theorem mo_st {v : Option (List Slot)} (h : p_st v pc st T M F = some o) : s_mono T (p_oT o) := by
  unfold p_st at h
  split at h
  · exact mo_nx h .rf
  · cases h
theorem mo_br {cnd : Prop} {off : Int} (h : p_br cnd pc off L st T M F = some o) : s_mono T (p_oT o) := by
  unfold p_br at h
  split at h
  · rcases s_pif h with ⟨-, h⟩ | ⟨-, h⟩
    · exact mo_nx h .rf
    · exact mo_nx h .rf
  · cases h
theorem mo_cb {c : Option pR} (hc : ∀ r, c = some r → s_mono T r.2.1) (h : p_cb c y pc L st = some o) : s_mono T (p_oT o) := by
  cases c with
  | none => cases h
  | some r =>
    obtain ⟨g, rfl, e⟩ := p_cb_T h
    show s_mono T g.2.2.2.1
    rw [e]
    exact hc r rfl
theorem mo_if {cnd G : Prop} {x z : Option (pG ⊕ pR)} (h : p_if cnd x z = some o) (h1 : x = some o → G) (h2 : z = some o → G) : G := by
  rcases s_pif h with ⟨-, h⟩ | ⟨-, h⟩
  · exact h1 h
  · exact h2 h
theorem mo_inv {kind idx : Nat} (hc : ∀ y as T M F r, call y as T M F = some r → s_mono T r.2.1) (h : p_inv d y call pc kind idx L st T M F = some o) : s_mono T (p_oT o) := by
  unfold p_inv at h
  split at h
  · cases h
  · split at h
    all_goals first
      | (cases h; done)
      | skip
    all_goals split at h
    all_goals first
      | (cases h; done)
      | exact mo_cb (fun r hr => hc _ _ _ _ _ r hr) (s_pifn h).2
      | exact mo_nx (s_pifn h).2 .rf
      | exact mo_nx (s_pifn h).2 .new
theorem p_one_mono {ins : Instr} {len : Nat} (hc : ∀ y as T M F r, call y as T M F = some r → s_mono T r.2.1) (h : p_one d y call pc ins len L st T M F = some o) : s_mono T (p_oT o) := by
  unfold p_one at h
  split at h
  all_goals
    repeat' first
      | with_reducible exact mo_nx h .rf
      | with_reducible exact mo_nx h .new
      | with_reducible exact mo_ld h
      | with_reducible exact mo_st h
      | with_reducible exact mo_br h
      | with_reducible exact mo_inv hc h
      | with_reducible refine mo_if h (fun h => ?_) (fun h => ?_)
      | split at h
      | (cases h; done)
      | (cases h; exact .rf)
      | (cases h; exact .new)
theorem p_run_T (hc : ∀ y as T M F r, call y as T M F = some r → s_mono T r.2.1) : ∀ (n : Nat) (g : pG) {r : pR}, p_run d y call n g = some r → s_mono g.2.2.2.1 r.2.1
  | 0, g, r, h => by cases h
  | n + 1, g, r, h => by
    rw [p_run] at h
    cases hs : p_step d y call g with
    | none => rw [hs] at h; cases h
    | some x =>
      rw [hs] at h
      have h1 : s_mono g.2.2.2.1 (p_oT x) := by
        unfold p_step at hs
        split at hs
        · exact p_one_mono hc hs
        · cases hs
      cases x with
      | inr r' => cases h; exact h1
      | inl g' => exact h1.tr (p_run_T hc n g' h)
theorem callD_T : ∀ (d : Nat) (y : pC) (as : List Value) (T : pT) (M : pM) (F : pF) (r : pR), callD d y as T M F = some r → s_mono T r.2.1
  | 0, y, as, T, M, F, r, h => by cases h
  | d + 1, y, as, T, M, F, r, h => by
    rw [callD] at h
    dsimp only at h
    split at h
    · obtain ⟨n, hn⟩ := p_lim_ex h
      exact p_run_T (callD_T d) n _ hn
    · cases h
end PSF
