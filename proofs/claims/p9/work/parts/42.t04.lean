/-! marks -/
theorem mb0 (v : BitVec 32) : (v &&& 1#32).toInt = if v.getLsbD 0 then 1 else 0 := by
  have h : v &&& 1#32 = if v.getLsbD 0 then 1#32 else 0#32 := by
    apply BitVec.eq_of_getLsbD_eq
    intro i hi
    rw [BitVec.getLsbD_and]
    by_cases h0 : i = 0
    · subst h0
      cases v.getLsbD 0 <;> decide
    · have h1 : (1#32).getLsbD i = false := by rw [BitVec.getLsbD_one]; simp; omega
      rw [h1, Bool.and_false]
      cases v.getLsbD 0
      · simp
      · simp only [if_true]; exact h1.symm
  rw [h]
  cases v.getLsbD 0 <;> decide
theorem mb1 (a s : Int32) (c : Nat) (hc : c < 32) (h : (a >>> s).toBitVec = a.toBitVec.sshiftRight c) : (jI ((a >>> s).toInt) &&& jI 1).toInt = if a.toBitVec.getLsbD c then 1 else 0 := by
  rw [jI_ti]
  show ((a >>> s).toBitVec &&& 1#32).toInt = _
  rw [h, mb0, BitVec.getLsbD_sshiftRight]
  simp only [Nat.add_zero, hc]
  simp
theorem mbit_eq (mk x : Int) (hx : 0 ≤ x ∧ x ≤ 7) : mbit mk x = if (jI mk).toBitVec.getLsbD x.toNat then 1 else 0 := by
  unfold mbit
  rcases (show x = 0 ∨ x = 1 ∨ x = 2 ∨ x = 3 ∨ x = 4 ∨ x = 5 ∨ x = 6 ∨ x = 7 by omega) with rfl | rfl | rfl | rfl | rfl | rfl | rfl | rfl
  · exact mb1 _ _ 0 (by decide) rfl
  · exact mb1 _ _ 1 (by decide) rfl
  · exact mb1 _ _ 2 (by decide) rfl
  · exact mb1 _ _ 3 (by decide) rfl
  · exact mb1 _ _ 4 (by decide) rfl
  · exact mb1 _ _ 5 (by decide) rfl
  · exact mb1 _ _ 6 (by decide) rfl
  · exact mb1 _ _ 7 (by decide) rfl
def mput (mk x : Int) : Int := (jI mk ||| jI ((jI 1 <<< (jI x &&& 31)).toInt)).toInt
theorem mbit_zero (x : Int) (hx : 0 ≤ x ∧ x ≤ 7) : mbit 0 x = 0 := by
  rw [mbit_eq 0 x hx]
  rcases (show x = 0 ∨ x = 1 ∨ x = 2 ∨ x = 3 ∨ x = 4 ∨ x = 5 ∨ x = 6 ∨ x = 7 by omega) with rfl | rfl | rfl | rfl | rfl | rfl | rfl | rfl <;> decide
theorem mb2 (y x : Int) (hy : 0 ≤ y ∧ y ≤ 7) (hx : 0 ≤ x ∧ x ≤ 7) : (jI 1 <<< (jI y &&& 31)).toBitVec.getLsbD x.toNat = decide (x = y) := by
  rcases (show y = 0 ∨ y = 1 ∨ y = 2 ∨ y = 3 ∨ y = 4 ∨ y = 5 ∨ y = 6 ∨ y = 7 by omega) with rfl | rfl | rfl | rfl | rfl | rfl | rfl | rfl <;>
  rcases (show x = 0 ∨ x = 1 ∨ x = 2 ∨ x = 3 ∨ x = 4 ∨ x = 5 ∨ x = 6 ∨ x = 7 by omega) with rfl | rfl | rfl | rfl | rfl | rfl | rfl | rfl <;> decide
theorem mbit_put (mk y x : Int) (hy : 0 ≤ y ∧ y ≤ 7) (hx : 0 ≤ x ∧ x ≤ 7) : mbit (mput mk y) x = if x = y then 1 else mbit mk x := by
  rw [mbit_eq _ x hx, mbit_eq mk x hx]
  unfold mput
  rw [jI_ti, jI_ti]
  have h : (jI mk ||| (jI 1 <<< (jI y &&& 31))).toBitVec = (jI mk).toBitVec ||| (jI 1 <<< (jI y &&& 31)).toBitVec := rfl
  rw [h, BitVec.getLsbD_or, mb2 y x hy hx]
  by_cases a : x = y
  · simp [a]
  · simp [a]
theorem mbit_01 (mk x : Int) (hx : 0 ≤ x ∧ x ≤ 7) : mbit mk x = 0 ∨ mbit mk x = 1 := by
  rw [mbit_eq mk x hx]
  split
  · exact Or.inr rfl
  · exact Or.inl rfl
