/-! the byte that both put on the tape -/
theorem e_byte1 (B : BitVec 64) : (jI B.toInt &&& jI 255).toInt = ((B.toNat % 256 : Nat) : Int) := by
  have h1 : (jI B.toInt).toBitVec = B.setWidth 32 := by
    show BitVec.ofInt 32 B.toInt = _
    apply BitVec.eq_of_toInt_eq
    rw [BitVec.toInt_ofInt, BitVec.toInt_setWidth, BitVec.toInt_eq_toNat_bmod, Int.bmod_bmod_of_dvd (by decide)]
  have h2 : (jI B.toInt &&& jI 255).toBitVec = B.setWidth 32 &&& 255#32 := by
    rw [Int32.toBitVec_and, h1]; rfl
  have h3 : (B.setWidth 32 &&& 255#32).toNat = B.toNat % 256 := by
    rw [BitVec.toNat_and, BitVec.toNat_setWidth]
    show B.toNat % 2 ^ 32 &&& 2 ^ 8 - 1 = _
    rw [Nat.and_two_pow_sub_one_eq_mod]
    omega
  show (jI B.toInt &&& jI 255).toBitVec.toInt = _
  rw [h2, BitVec.toInt_eq_toNat_of_lt (by rw [h3]; omega), h3]
theorem e_byte2 (A : BitVec 64) (j : Nat) (hj : j ≤ 56) : (A.sshiftRight j).toNat % 256 = (A.toNat / 2 ^ j) % 256 := by
  apply Nat.eq_of_testBit_eq
  intro i
  rw [show 256 = 2 ^ 8 from rfl, Nat.testBit_mod_two_pow, Nat.testBit_mod_two_pow, Nat.testBit_div_two_pow]
  by_cases h : i < 8
  · have h1 : (A.sshiftRight j).toNat.testBit i = A.toNat.testBit (j + i) := by
      show (A.sshiftRight j).getLsbD i = A.getLsbD (j + i)
      rw [BitVec.getLsbD_sshiftRight]
      have g1 : j + i < 64 := by omega
      have g2 : i < 64 := by omega
      simp [g1, g2]
    rw [h1, Nat.add_comm]
  · simp [h]
theorem e_byte3 : ∀ n, n < 8 → ∀ A : Int64, (A >>> ((jI (8 * (n : Nat))).toInt64 &&& 63)).toBitVec = A.toBitVec.sshiftRight (8 * n) := by
  intro n hn A
  rcases (show n = 0 ∨ n = 1 ∨ n = 2 ∨ n = 3 ∨ n = 4 ∨ n = 5 ∨ n = 6 ∨ n = 7 by omega) with rfl | rfl | rfl | rfl | rfl | rfl | rfl | rfl <;> rfl
theorem e_byte (zy k : Int) (hk : 0 ≤ k ∧ k ≤ 7) : (jI ((jL zy >>> ((jI (8 * k)).toInt64 &&& 63)).toInt) &&& jI 255).toInt = (jushr zy (8 * k)) % 256 := by
  obtain ⟨n, rfl⟩ := Int.eq_ofNat_of_zero_le hk.1
  have h := e_byte3 n (by omega) (jL zy)
  have h1 : (jL zy >>> ((jI (8 * (n : Int))).toInt64 &&& 63)).toInt = ((jL zy).toBitVec.sshiftRight (8 * n)).toInt := by
    show (jL zy >>> ((jI (8 * (n : Int))).toInt64 &&& 63)).toBitVec.toInt = _
    rw [h]
  rw [h1, e_byte1, e_byte2 _ _ (by omega)]
  have h2 : (jL zy).toBitVec.toNat = (zy % 18446744073709551616).toNat := jL_nat zy
  rw [h2]
  have hx := Int.emod_nonneg zy (show (18446744073709551616 : Int) ≠ 0 by decide)
  obtain ⟨y, hy⟩ := Int.eq_ofNat_of_zero_le hx
  unfold jushr
  rw [hy, show (8 * (n : Int)).toNat = 8 * n by omega, Int.toNat_natCast, ← Int.natCast_ediv]
  rfl
