section PNAN
/-- a quotient of small numbers is a number -/
def nanc (m p : Nat) : Bool := decide ((FP.ddiv (FP.i2d (Int32.ofNat m)) (FP.i2d (Int32.ofNat p))).toNat % 2 ^ 63 ≤ 9218868437227405312)
set_option maxRecDepth 20000 in
theorem nan_N : ∀ p : Nat, p < 20 → ∀ m : Nat, m < 841 → nanc m (p + 1) = true := by decide +kernel
theorem nan_ok {a b : Int} (ha : 0 ≤ a ∧ a ≤ 840) (hb : 1 ≤ b ∧ b ≤ 20) : vf_n64 (FP.ddiv (FP.i2d (iI a)) (FP.i2d (iI b))) := by
  obtain ⟨m, rfl⟩ := Int.eq_ofNat_of_zero_le ha.1
  obtain ⟨p, rfl⟩ := Int.eq_ofNat_of_zero_le (a := b) (by omega)
  have h := nan_N (p - 1) (by omega) m (by omega)
  unfold nanc at h
  rw [show p - 1 + 1 = p by omega] at h
  have h2 := of_decide_eq_true h
  have e1 : ∀ n : Nat, Int32.ofNat n = iI (n : Int) := fun n => by
    apply Int32.toBitVec_inj.mp
    rw [bN32]; rfl
  rw [e1, e1] at h2
  unfold vf_n64
  rw [UInt64.le_iff_toNat_le, UInt64.toNat_and]
  show _ &&& (2 ^ 63 - 1) ≤ _
  rw [Nat.and_two_pow_sub_one_eq_mod]
  exact h2
/-- the mean -/
noncomputable def z_mean (S : GSx) : UInt64 := if sm (a_pc S.1 S.2.1) 91 = 0 then 0 else FP.ddiv (FP.i2d (iI ((lgQ S.1 S.2.1 S.2.2.1 S.2.2.2.1).length : Int))) (FP.i2d (iI (sm (a_pc S.1 S.2.1) 91)))
theorem z_mean_ok {S : GSx} (h20 : P20 S.1) (ht : S.2.1 = 0 ∨ S.2.1 = 1) (hl : (lgQ S.1 S.2.1 S.2.2.1 S.2.2.2.1).length ≤ 840) : vf_n64 (z_mean S) := by
  have h1 := h20 S.2.1 ht
  have h2 := sm_rg (f := a_pc S.1 S.2.1) (a := 0) (b := 1) (fun i => bI_rg _) 91
  unfold z_mean
  by_cases c : sm (a_pc S.1 S.2.1) 91 = 0
  · rw [if_pos c]; unfold vf_n64; decide
  · rw [if_neg c]
    exact nan_ok (by omega) (by omega)
end PNAN
