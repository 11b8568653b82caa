section PWRD
variable {n a c z p i : Int} {bs : Int → Int}
theorem iI_bvn {m : Nat} (h : m < 2 ^ 32) : (iI (m : Int)).toBitVec.toNat = m := by
  show (Int32.ofInt (m : Int)).toBitVec.toNat = m
  have e : (Int32.ofInt (m : Int)).toBitVec = BitVec.ofInt 32 (m : Int) := rfl
  rw [e, BitVec.toNat_ofInt]
  omega
theorem shl8 {x y : Nat} (hx : x < 2 ^ 23) (hy : y < 256) : iI (x : Int) <<< (iI 8 &&& 31) ||| iI (y : Int) = iI (256 * (x : Int) + y) := by
  apply Int32.toBitVec_inj.mp
  apply BitVec.eq_of_toNat_eq
  rw [Int32.toBitVec_or, Int32.toBitVec_shiftLeft, BitVec.toNat_or]
  have e8 : (iI 8 &&& 31 : Int32).toBitVec.smod 32 = 8#32 := by decide
  rw [e8, iI_bvn (m := y) (by omega)]
  have e1 : ((iI (x : Int)).toBitVec <<< (8#32 : BitVec 32)).toNat = x * 256 := by
    rw [BitVec.shiftLeft_eq', BitVec.toNat_shiftLeft, iI_bvn (m := x) (by omega)]
    show x <<< 8 % 2 ^ 32 = _
    rw [Nat.shiftLeft_eq]
    omega
  rw [e1]
  have e2 : 256 * (x : Int) + (y : Int) = ((x * 256 + y : Nat) : Int) := by omega
  rw [e2, iI_bvn (m := x * 256 + y) (by omega)]
  have := Nat.shiftLeft_add_eq_or_of_lt (i := 8) (b := y) (by omega) x
  rw [Nat.shiftLeft_eq] at this
  exact this.symm
theorem shl8i (ha : 0 ≤ a ∧ a < 8388608) (hc : 0 ≤ c ∧ c < 256) : iI a <<< (iI 8 &&& 31) ||| iI c = iI (256 * a + c) := by
  have := shl8 (x := a.toNat) (y := c.toNat) (by omega) (by omega)
  rwa [Int.toNat_of_nonneg ha.1, Int.toNat_of_nonneg hc.1] at this
/-- four bytes in a word -/
def wd4 (c0 c1 c2 c3 : Int) : Int := 256 * (256 * (256 * (256 * 0 + c0) + c1) + c2) + c3
theorem nbt_w {c0 c1 c2 c3 : Int} (h0 : 0 ≤ c0 ∧ c0 < 128) (h1 : 0 ≤ c1 ∧ c1 < 128) (h2 : 0 ≤ c2 ∧ c2 < 128) (h3 : 0 ≤ c3 ∧ c3 < 128) : nbt (iI (wd4 c0 c1 c2 c3)) 0 = c0 ∧ nbt (iI (wd4 c0 c1 c2 c3)) 1 = c1 ∧ nbt (iI (wd4 c0 c1 c2 c3)) 2 = c2 ∧ nbt (iI (wd4 c0 c1 c2 c3)) 3 = c3 := by
  have hw : 0 ≤ wd4 c0 c1 c2 c3 ∧ wd4 c0 c1 c2 c3 < 2147483648 := by unfold wd4; omega
  have e : (iI (wd4 c0 c1 c2 c3)).toUInt32.toNat = (wd4 c0 c1 c2 c3).toNat := by
    have := iI_bvn (m := (wd4 c0 c1 c2 c3).toNat) (by omega)
    rw [Int.toNat_of_nonneg hw.1] at this
    exact this
  unfold nbt
  rw [e]
  have hh : wd4 c0 c1 c2 c3 = 16777216 * c0 + 65536 * c1 + 256 * c2 + c3 := by unfold wd4; omega
  rw [hh]
  refine ⟨?_, ?_, ?_, ?_⟩
  · show (((16777216 * c0 + 65536 * c1 + 256 * c2 + c3).toNat / 2 ^ 24 % 256 : Nat) : Int) = _; omega
  · show (((16777216 * c0 + 65536 * c1 + 256 * c2 + c3).toNat / 2 ^ 16 % 256 : Nat) : Int) = _; omega
  · show (((16777216 * c0 + 65536 * c1 + 256 * c2 + c3).toNat / 2 ^ 8 % 256 : Nat) : Int) = _; omega
  · show (((16777216 * c0 + 65536 * c1 + 256 * c2 + c3).toNat / 2 ^ 0 % 256 : Nat) : Int) = _; omega
theorem t_p4_lo {x : Int32} (h : p < z) : t_p4 bs z x p = bs p := by
  unfold t_p4
  rw [u1_n (by omega), u1_n (by omega), u1_n (by omega), u1_n (by omega)]
theorem t_p4_at {x : Int32} : t_p4 bs z x z = nbt x 0 ∧ t_p4 bs z x (z + 1) = nbt x 1 ∧ t_p4 bs z x (z + 2) = nbt x 2 ∧ t_p4 bs z x (z + 3) = nbt x 3 := by
  unfold t_p4
  rw [show z + 1 + 1 + 1 = z + 3 by omega, show z + 1 + 1 = z + 2 by omega]
  refine ⟨?_, ?_, ?_, ?_⟩ <;> simp (disch := omega) only [u1_s, u1_n]
/-- what is fed: a function of places -/
def wdf (f : Int → Int) (z : Int) : Int32 := iI (wd4 (f z) (f (z + 1)) (f (z + 2)) (f (z + 3)))
theorem t_p4_f {f : Int → Int} (hf : ∀ i, 0 ≤ f i ∧ f i < 128) (h : ∀ q, q < z → 0 ≤ q → bs q = f q) : ∀ q, q < z + 4 → 0 ≤ q → t_p4 bs z (wdf f z) q = f q := by
  intro q hq h0
  obtain ⟨w0, w1, w2, w3⟩ := nbt_w (hf z) (hf (z + 1)) (hf (z + 2)) (hf (z + 3))
  obtain ⟨a0, a1, a2, a3⟩ := t_p4_at (bs := bs) (z := z) (x := wdf f z)
  unfold wdf at *
  by_cases c : q < z
  · rw [t_p4_lo c]; exact h q c h0
  · have : q = z ∨ q = z + 1 ∨ q = z + 2 ∨ q = z + 3 := by omega
    rcases this with rfl | rfl | rfl | rfl
    · rw [a0, w0]
    · rw [a1, w1]
    · rw [a2, w2]
    · rw [a3, w3]
theorem t_p20_f {f : Int → Int} (hf : ∀ i, 0 ≤ f i ∧ f i < 128) (h : ∀ q, q < z → 0 ≤ q → bs q = f q) : ∀ q, q < z + 20 → 0 ≤ q → t_p20 bs z (wdf f z) (wdf f (z + 4)) (wdf f (z + 8)) (wdf f (z + 12)) (wdf f (z + 16)) q = f q := by
  unfold t_p20
  rw [show z + 4 + 4 + 4 + 4 = z + 16 by omega, show z + 4 + 4 + 4 = z + 12 by omega, show z + 4 + 4 = z + 8 by omega]
  have h1 := t_p4_f hf h
  have h2 := t_p4_f hf h1
  rw [show z + 4 + 4 = z + 8 by omega] at h2
  have h3 := t_p4_f hf h2
  rw [show z + 8 + 4 = z + 12 by omega] at h3
  have h4 := t_p4_f hf h3
  rw [show z + 12 + 4 = z + 16 by omega] at h4
  have h5 := t_p4_f hf h4
  rw [show z + 16 + 4 = z + 20 by omega] at h5
  exact h5
end PWRD
