section PPL
theorem q_nat {n : Int} (h : 0 ≤ n) : ∃ m : Nat, n = (m : Int) := ⟨n.toNat, (Int.toNat_of_nonneg h).symm⟩
theorem i_shl (k : Nat) (K : Int) (hk : k < 31) (hK : K = ((2 ^ k : Nat) : Int)) {y : Int32} (hy : y.toBitVec.smod 32 = BitVec.ofNat 32 k) {n : Int} (h0 : 0 ≤ n) (h1 : n * K < 4294967296) : iI n <<< y = iI (n * K) := by
  obtain ⟨m, rfl⟩ := q_nat h0
  subst hK
  rw [← Int.natCast_mul] at h1
  rw [shl32 k hk hy (by omega), Int.natCast_mul]
theorem l_shl (k : Nat) (K : Int) (hk : k < 63) (hK : K = ((2 ^ k : Nat) : Int)) {y : Int64} (hy : y.toBitVec.smod 64 = BitVec.ofNat 64 k) {n : Int} (h0 : 0 ≤ n) (h1 : n * K < 18446744073709551616) : iL n <<< y = iL (n * K) := by
  obtain ⟨m, rfl⟩ := q_nat h0
  subst hK
  rw [← Int.natCast_mul] at h1
  rw [shl64 k hk hy (by omega), Int.natCast_mul]
theorem l_shr (k : Nat) (K : Int) (hk : k < 63) (hK : K = ((2 ^ k : Nat) : Int)) {y : Int64} (hy : y.toBitVec.smod 64 = BitVec.ofNat 64 k) {n : Int} (h0 : 0 ≤ n) (h1 : n < 9223372036854775808) : iL n >>> y = iL (n / K) := by
  obtain ⟨m, rfl⟩ := q_nat h0
  subst hK
  rw [shr64 k hk hy (by omega), Int.natCast_ediv]
theorem l_and (k : Nat) (K Z : Int) (hk : k < 63) (hK : K = ((2 ^ k : Nat) : Int)) (hZ : Z = ((2 ^ k - 1 : Nat) : Int)) {n : Int} (h0 : 0 ≤ n) (h1 : n < 9223372036854775808) : iL n &&& iL Z = iL (n % K) := by
  obtain ⟨m, rfl⟩ := q_nat h0
  subst hK
  subst hZ
  rw [and64 k hk (by omega), Int.natCast_emod]
theorem i_or (k : Nat) (K : Int) (hK : K = ((2 ^ k : Nat) : Int)) {a b : Int} (h0 : 0 ≤ a) (h1 : a < K) (h2 : 0 ≤ b) (h3 : b % K = 0) (h4 : a + b < 4294967296) : iI a ||| iI b = iI (a + b) := by
  obtain ⟨m, rfl⟩ := q_nat h0
  obtain ⟨n, rfl⟩ := q_nat h2
  subst hK
  have h5 : n % 2 ^ k = 0 := by
    rw [← Int.natCast_emod] at h3
    omega
  have h6 : n = n / 2 ^ k * 2 ^ k := by
    have := Nat.div_add_mod n (2 ^ k)
    rw [h5, Nat.add_zero, Nat.mul_comm] at this
    exact this.symm
  have h7 : m < 2 ^ k := by omega
  have h8 := or32 k (b := n / 2 ^ k) h7 (by rw [← h6]; omega)
  rw [← h6] at h8
  rw [h8, Int.natCast_add]
theorem l_or (k : Nat) (K : Int) (hK : K = ((2 ^ k : Nat) : Int)) {a b : Int} (h0 : 0 ≤ a) (h1 : a < K) (h2 : 0 ≤ b) (h3 : b % K = 0) (h4 : a + b < 18446744073709551616) : iL a ||| iL b = iL (a + b) := by
  obtain ⟨m, rfl⟩ := q_nat h0
  obtain ⟨n, rfl⟩ := q_nat h2
  subst hK
  have h5 : n % 2 ^ k = 0 := by
    rw [← Int.natCast_emod] at h3
    omega
  have h6 : n = n / 2 ^ k * 2 ^ k := by
    have := Nat.div_add_mod n (2 ^ k)
    rw [h5, Nat.add_zero, Nat.mul_comm] at this
    exact this.symm
  have h7 : m < 2 ^ k := by omega
  have h8 := or64 k (b := n / 2 ^ k) h7 (by rw [← h6]; omega)
  rw [← h6] at h8
  rw [h8, Int.natCast_add]
variable {n a b : Int}
theorem i_shl9 (h0 : 0 ≤ n) (h1 : n < 4000) : iI n <<< (iI 9 &&& 31) = iI (n * 512) := i_shl 9 512 (by decide) rfl (by decide) h0 (by omega)
theorem i_shl18 (h0 : 0 ≤ n) (h1 : n < 4000) : iI n <<< (iI 18 &&& 31) = iI (n * 262144) := i_shl 18 262144 (by decide) rfl (by decide) h0 (by omega)
theorem i_shl4 (h0 : 0 ≤ n) (h1 : n < 4000) : iI n <<< (iI 4 &&& 31) = iI (n * 16) := i_shl 4 16 (by decide) rfl (by decide) h0 (by omega)
theorem i_shl8 (h0 : 0 ≤ n) (h1 : n < 4000) : iI n <<< (iI 8 &&& 31) = iI (n * 256) := i_shl 8 256 (by decide) rfl (by decide) h0 (by omega)
theorem i_or9 (h0 : 0 ≤ a) (h1 : a < 512) (h2 : 0 ≤ b) (h3 : b % 512 = 0) (h4 : b < 2000000000) : iI a ||| iI b = iI (a + b) := i_or 9 512 rfl h0 h1 h2 h3 (by omega)
theorem i_or18 (h0 : 0 ≤ a) (h1 : a < 262144) (h2 : 0 ≤ b) (h3 : b % 262144 = 0) (h4 : b < 2000000000) : iI a ||| iI b = iI (a + b) := i_or 18 262144 rfl h0 h1 h2 h3 (by omega)
theorem i_or4 (h0 : 0 ≤ a) (h1 : a < 16) (h2 : 0 ≤ b) (h3 : b % 16 = 0) (h4 : b < 2000000000) : iI a ||| iI b = iI (a + b) := i_or 4 16 rfl h0 h1 h2 h3 (by omega)
theorem i_or8 (h0 : 0 ≤ a) (h1 : a < 256) (h2 : 0 ≤ b) (h3 : b % 256 = 0) (h4 : b < 2000000000) : iI a ||| iI b = iI (a + b) := i_or 8 256 rfl h0 h1 h2 h3 (by omega)
theorem l_shl27 (h0 : 0 ≤ n) (h1 : n < 1000000) : iL n <<< (iL 27 &&& 63) = iL (n * 134217728) := l_shl 27 134217728 (by decide) rfl (by decide) h0 (by omega)
theorem l_shl43 (h0 : 0 ≤ n) (h1 : n < 1000) : iL n <<< (iL 43 &&& 63) = iL (n * 8796093022208) := l_shl 43 8796093022208 (by decide) rfl (by decide) h0 (by omega)
theorem l_or43 (h0 : 0 ≤ a) (h1 : a < 8796093022208) (h2 : 0 ≤ b) (h3 : b % 8796093022208 = 0) (h4 : b < 9000000000000000000) : iL a ||| iL b = iL (a + b) := l_or 43 8796093022208 rfl h0 h1 h2 h3 (by omega)
theorem l_or27 (h0 : 0 ≤ a) (h1 : a < 134217728) (h2 : 0 ≤ b) (h3 : b % 134217728 = 0) (h4 : b < 9000000000000000000) : iL a ||| iL b = iL (a + b) := l_or 27 134217728 rfl h0 h1 h2 h3 (by omega)
theorem l_shr9 (h0 : 0 ≤ n) (h1 : n < 9000000000000000000) : iL n >>> (iL 9 &&& 63) = iL (n / 512) := l_shr 9 512 (by decide) rfl (by decide) h0 (by omega)
theorem l_shr18 (h0 : 0 ≤ n) (h1 : n < 9000000000000000000) : iL n >>> (iL 18 &&& 63) = iL (n / 262144) := l_shr 18 262144 (by decide) rfl (by decide) h0 (by omega)
theorem l_shr27 (h0 : 0 ≤ n) (h1 : n < 9000000000000000000) : iL n >>> (iL 27 &&& 63) = iL (n / 134217728) := l_shr 27 134217728 (by decide) rfl (by decide) h0 (by omega)
theorem l_shr31 (h0 : 0 ≤ n) (h1 : n < 9000000000000000000) : iL n >>> (iL 31 &&& 63) = iL (n / 2147483648) := l_shr 31 2147483648 (by decide) rfl (by decide) h0 (by omega)
theorem l_shr35 (h0 : 0 ≤ n) (h1 : n < 9000000000000000000) : iL n >>> (iL 35 &&& 63) = iL (n / 34359738368) := l_shr 35 34359738368 (by decide) rfl (by decide) h0 (by omega)
theorem l_shr43 (h0 : 0 ≤ n) (h1 : n < 9000000000000000000) : iL n >>> (iL 43 &&& 63) = iL (n / 8796093022208) := l_shr 43 8796093022208 (by decide) rfl (by decide) h0 (by omega)
theorem l_and511 (h0 : 0 ≤ n) (h1 : n < 9000000000000000000) : iL n &&& iL 511 = iL (n % 512) := l_and 9 512 511 (by decide) rfl rfl h0 (by omega)
theorem l_and15 (h0 : 0 ≤ n) (h1 : n < 9000000000000000000) : iL n &&& iL 15 = iL (n % 16) := l_and 4 16 15 (by decide) rfl rfl h0 (by omega)
theorem l_and255 (h0 : 0 ≤ n) (h1 : n < 9000000000000000000) : iL n &&& iL 255 = iL (n % 256) := l_and 8 256 255 (by decide) rfl rfl h0 (by omega)
end PPL
