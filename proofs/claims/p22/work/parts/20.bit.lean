section PBIT
theorem bN32 {n : Nat} : (iI (n : Int)).toBitVec = BitVec.ofNat 32 n := by
  show BitVec.ofInt 32 (n : Int) = _
  exact BitVec.ofInt_natCast 32 n
theorem bN64 {n : Nat} : (iL (n : Int)).toBitVec = BitVec.ofNat 64 n := by
  show BitVec.ofInt 64 (n : Int) = _
  exact BitVec.ofInt_natCast 64 n
theorem or_nat (k a b : Nat) (ha : a < 2 ^ k) : a ||| (b * 2 ^ k) = a + b * 2 ^ k := by
  have h := Nat.shiftLeft_add_eq_or_of_lt ha b
  rw [Nat.shiftLeft_eq] at h
  rw [Nat.or_comm, ← h, Nat.add_comm]
theorem or32 (k : Nat) {a b : Nat} (ha : a < 2 ^ k) (h : a + b * 2 ^ k < 2 ^ 32) : iI (a : Int) ||| iI ((b * 2 ^ k : Nat) : Int) = iI ((a + b * 2 ^ k : Nat) : Int) := by
  apply Int32.toBitVec_inj.mp
  rw [Int32.toBitVec_or, bN32, bN32, bN32]
  apply BitVec.eq_of_toNat_eq
  rw [BitVec.toNat_or, BitVec.toNat_ofNat, BitVec.toNat_ofNat, BitVec.toNat_ofNat, Nat.mod_eq_of_lt (by omega), Nat.mod_eq_of_lt (by omega), Nat.mod_eq_of_lt h, or_nat k a b ha]
theorem or64 (k : Nat) {a b : Nat} (ha : a < 2 ^ k) (h : a + b * 2 ^ k < 2 ^ 64) : iL (a : Int) ||| iL ((b * 2 ^ k : Nat) : Int) = iL ((a + b * 2 ^ k : Nat) : Int) := by
  apply Int64.toBitVec_inj.mp
  rw [Int64.toBitVec_or, bN64, bN64, bN64]
  apply BitVec.eq_of_toNat_eq
  rw [BitVec.toNat_or, BitVec.toNat_ofNat, BitVec.toNat_ofNat, BitVec.toNat_ofNat, Nat.mod_eq_of_lt (by omega), Nat.mod_eq_of_lt (by omega), Nat.mod_eq_of_lt h, or_nat k a b ha]
theorem shl32 (k : Nat) (hk : k < 31) {y : Int32} (hy : y.toBitVec.smod 32 = BitVec.ofNat 32 k) {a : Nat} (h : a * 2 ^ k < 2 ^ 32) : iI (a : Int) <<< y = iI ((a * 2 ^ k : Nat) : Int) := by
  apply Int32.toBitVec_inj.mp
  show (iI (a : Int)).toBitVec <<< (y.toBitVec.smod 32) = _
  rw [hy, bN32, bN32]
  apply BitVec.eq_of_toNat_eq
  have h2 : a ≤ a * 2 ^ k := Nat.le_mul_of_pos_right a (Nat.pow_pos (by decide))
  rw [BitVec.shiftLeft_eq', BitVec.toNat_shiftLeft, BitVec.toNat_ofNat, BitVec.toNat_ofNat, BitVec.toNat_ofNat, Nat.mod_eq_of_lt (a := k) (by omega), Nat.mod_eq_of_lt (a := a) (by omega), Nat.shiftLeft_eq]
theorem shl64 (k : Nat) (hk : k < 63) {y : Int64} (hy : y.toBitVec.smod 64 = BitVec.ofNat 64 k) {a : Nat} (h : a * 2 ^ k < 2 ^ 64) : iL (a : Int) <<< y = iL ((a * 2 ^ k : Nat) : Int) := by
  apply Int64.toBitVec_inj.mp
  show (iL (a : Int)).toBitVec <<< (y.toBitVec.smod 64) = _
  rw [hy, bN64, bN64]
  apply BitVec.eq_of_toNat_eq
  have h2 : a ≤ a * 2 ^ k := Nat.le_mul_of_pos_right a (Nat.pow_pos (by decide))
  rw [BitVec.shiftLeft_eq', BitVec.toNat_shiftLeft, BitVec.toNat_ofNat, BitVec.toNat_ofNat, BitVec.toNat_ofNat, Nat.mod_eq_of_lt (a := k) (by omega), Nat.mod_eq_of_lt (a := a) (by omega), Nat.shiftLeft_eq]
theorem shr64 (k : Nat) (hk : k < 63) {y : Int64} (hy : y.toBitVec.smod 64 = BitVec.ofNat 64 k) {a : Nat} (h : a < 2 ^ 63) : iL (a : Int) >>> y = iL ((a / 2 ^ k : Nat) : Int) := by
  apply Int64.toBitVec_inj.mp
  show (iL (a : Int)).toBitVec.sshiftRight' (y.toBitVec.smod 64) = _
  rw [hy, bN64, bN64]
  apply BitVec.eq_of_toNat_eq
  have h3 : (BitVec.ofNat 64 a).msb = false := by
    rw [BitVec.msb_eq_false_iff_two_mul_lt, BitVec.toNat_ofNat, Nat.mod_eq_of_lt (by omega)]
    omega
  have h4 : a / 2 ^ k ≤ a := Nat.div_le_self ..
  rw [BitVec.sshiftRight_eq', BitVec.sshiftRight_eq_of_msb_false h3, BitVec.toNat_ushiftRight, BitVec.toNat_ofNat, BitVec.toNat_ofNat, BitVec.toNat_ofNat, Nat.mod_eq_of_lt (a := k) (by omega), Nat.mod_eq_of_lt (a := a) (by omega), Nat.shiftRight_eq_div_pow, Nat.mod_eq_of_lt (by omega)]
theorem and64 (k : Nat) (hk : k < 63) {a : Nat} (h : a < 2 ^ 63) : iL (a : Int) &&& iL ((2 ^ k - 1 : Nat) : Int) = iL ((a % 2 ^ k : Nat) : Int) := by
  apply Int64.toBitVec_inj.mp
  rw [Int64.toBitVec_and, bN64, bN64, bN64]
  apply BitVec.eq_of_toNat_eq
  have h4 : a % 2 ^ k ≤ a := Nat.mod_le ..
  have h5 : 2 ^ k < 2 ^ 63 := Nat.pow_lt_pow_right (by decide) hk
  rw [BitVec.toNat_and, BitVec.toNat_ofNat, BitVec.toNat_ofNat, BitVec.toNat_ofNat, Nat.mod_eq_of_lt (a := a) (by omega), Nat.mod_eq_of_lt (a := 2 ^ k - 1) (by omega), Nat.and_two_pow_sub_one_eq_mod, Nat.mod_eq_of_lt (a := a % 2 ^ k) (by omega)]
theorem i2lN {n : Int} (h1 : -2147483648 ≤ n) (h2 : n < 2147483648) : (iI n).toInt64 = iL n := by
  apply Int64.toInt_inj.mp
  rw [Int32.toInt_toInt64, iI_toInt h1 h2]
  unfold iL
  rw [Int64.toInt_ofInt, Int.bmod_def]
  simp only [Int64.size]
  omega
theorem iL_toInt {n : Int} (h1 : -9223372036854775808 ≤ n) (h2 : n < 9223372036854775808) : (iL n).toInt = n := by
  unfold iL
  rw [Int64.toInt_ofInt, Int.bmod_def]
  simp only [Int64.size]
  omega
theorem l2iN {n : Int} (h1 : -2147483648 ≤ n) (h2 : n < 2147483648) : (iL n).toInt32 = iI n := by
  apply Int32.toInt_inj.mp
  rw [Int64.toInt_toInt32, iL_toInt (by omega) (by omega), iI_toInt h1 h2, Int.bmod_def]
  omega
end PBIT
