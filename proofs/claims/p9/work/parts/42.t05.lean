/-! the reference's reader beside the class's: places go on, formulas -/
section EQ5
variable (mn mp tw : Int) (tf : Int → Int)
theorem e_skipM (hmn : 0 ≤ mn ∧ mn ≤ 400) (hmp : 0 ≤ mp ∧ mp ≤ mn) (hf : ∀ i, 0 ≤ tf i ∧ tf i ≤ 255) (z1 : Int) (hz : 0 ≤ z1) : ((f_XT_skipIf mn mp tw tf z1).1 = 0 ∨ (f_XT_skipIf mn mp tw tf z1).1 = 1) ∧ mp ≤ (f_XT_skipIf mn mp tw tf z1).2 ∧ (f_XT_skipIf mn mp tw tf z1).2 ≤ mn ∧ ((f_XT_skipIf mn mp tw tf z1).1 = 1 → mp < (f_XT_skipIf mn mp tw tf z1).2) := by
  have hb := f_XT_next_b mn mp tw tf hmn hmp (fun i => ⟨(hf i).1, by have := hf i; omega⟩)
  rw [f_XT_skipIf_s]
  generalize f_XT_next mn mp tw tf = q at hb
  obtain ⟨r, p⟩ := q
  dsimp only at hb ⊢
  by_cases a : r = z1
  · rw [if_pos a]; dsimp only; omega
  · rw [if_neg a]; dsimp only; omega
theorem e_takeM (hmn : 0 ≤ mn ∧ mn ≤ 400) (hmp : 0 ≤ mp ∧ mp ≤ mn) (hf : ∀ i, 0 ≤ tf i ∧ tf i ≤ 255) (z1 : Int) (hz : 0 ≤ z1) : ((f_XT_take mn mp tw tf z1).1 = 0 ∨ (f_XT_take mn mp tw tf z1).1 = 1) ∧ mp ≤ (f_XT_take mn mp tw tf z1).2.1 ∧ (f_XT_take mn mp tw tf z1).2.1 ≤ mn ∧ ((f_XT_take mn mp tw tf z1).1 = 1 → mp < (f_XT_take mn mp tw tf z1).2.1) := by
  have hb := f_XT_next_b mn mp tw tf hmn hmp (fun i => ⟨(hf i).1, by have := hf i; omega⟩)
  rw [f_XT_take_s]
  generalize f_XT_next mn mp tw tf = q at hb
  obtain ⟨r, p⟩ := q
  dsimp only at hb ⊢
  by_cases a : r = z1
  · rw [if_pos a]; dsimp only; omega
  · rw [if_neg a, f_XT_refuse_s]; dsimp only; omega
theorem e_oneM (hmn : 0 ≤ mn ∧ mn ≤ 400) (hmp : 0 ≤ mp ∧ mp ≤ mn) (hf : ∀ i, 0 ≤ tf i ∧ tf i ≤ 255) (z1 z2 : Int) (hz : 0 ≤ z1) : mp ≤ (f_XT_takeOneOf mn mp tw tf z1 z2).2.1 ∧ (f_XT_takeOneOf mn mp tw tf z1 z2).2.1 ≤ mn ∧ ((f_XT_takeOneOf mn mp tw tf z1 z2).1 ≠ -1 → mp < (f_XT_takeOneOf mn mp tw tf z1 z2).2.1 ∧ (f_XT_takeOneOf mn mp tw tf z1 z2).2.2 = tw) := by
  have hb := f_XT_next_b mn mp tw tf hmn hmp (fun i => ⟨(hf i).1, by have := hf i; omega⟩)
  rw [f_XT_takeOneOf_s]
  generalize f_XT_next mn mp tw tf = q at hb
  obtain ⟨r, p⟩ := q
  dsimp only at hb ⊢
  simp only [f_XT_refuse_s]
  by_cases a : r - z1 < 0
  · rw [if_pos a]; dsimp only; omega
  · rw [if_neg a]
    by_cases b : r - z1 < z2
    · rw [if_pos b]; dsimp only; omega
    · rw [if_neg b]; dsimp only; omega
theorem e_numML (hmn : 0 ≤ mn ∧ mn ≤ 400) (tp zl zm : Int) : ∀ (n : Nat) (v k q : Int), 6 - k < (n : Int) → k ≤ 6 → 0 ≤ q → q ≤ mn → q ≤ (f_XT_number_L22 mn tp tw tf zl zm n v k q).2.1 ∧ (f_XT_number_L22 mn tp tw tf zl zm n v k q).2.1 ≤ mn := by
  intro n
  induction n with
  | zero => intro v k q h1 h2; omega
  | succ n ih =>
    intro v k q h1 h2 h3 h4
    have hend : (eCend mn tw tf zl zm v q).2.1 = q := by unfold eCend; (repeat' split) <;> rfl
    have hgo : k < 6 → f_XG_isDigit (f_XT_here mn q tw tf) ≠ 0 → q ≤ (f_XT_number_L22 mn tp tw tf zl zm n (v * 10 + f_XT_here mn q tw tf - 48) (k + 1) (q + 1)).2.1 ∧ (f_XT_number_L22 mn tp tw tf zl zm n (v * 10 + f_XT_here mn q tw tf - 48) (k + 1) (q + 1)).2.1 ≤ mn := by
      intro hk hd
      have hq : q < mn := by
        by_cases a : q < mn
        · exact a
        · exact absurd (show f_XG_isDigit (f_XT_here mn q tw tf) = 0 by rw [f_XT_here_s, if_neg a, f_XG_isDigit_s, if_pos (by decide)]) hd
      have := ih (v * 10 + f_XT_here mn q tw tf - 48) (k + 1) (q + 1) (by omega) (by omega) (by omega) (by omega)
      omega
    rw [e_L22]
    by_cases a : k < 6
    · rw [if_pos a]
      by_cases b : f_XG_isDigit (f_XT_here mn q tw tf) = 0
      · rw [if_pos b, hend]; omega
      · rw [if_neg b]
        by_cases d : 0 < k
        · rw [if_pos d]
          by_cases x : v = 0
          · rw [if_pos x, hend]; omega
          · rw [if_neg x]; exact hgo a b
        · rw [if_neg d]; exact hgo a b
    · rw [if_neg a, hend]; omega
theorem e_numM (hmn : 0 ≤ mn ∧ mn ≤ 400) (hmp : 0 ≤ mp ∧ mp ≤ mn) (hf : ∀ i, 0 ≤ tf i ∧ tf i ≤ 255) (zl zm : Int) : mp ≤ (f_XT_number mn mp tw tf zl zm).2.1 ∧ (f_XT_number mn mp tw tf zl zm).2.1 ≤ mn := by
  have hb := f_XT_next_b mn mp tw tf hmn hmp (fun i => ⟨(hf i).1, by have := hf i; omega⟩)
  rw [f_XT_number_s]
  generalize f_XT_next mn mp tw tf = q at hb
  obtain ⟨r, p⟩ := q
  dsimp only at hb ⊢
  split
  · rw [f_XT_refuse_s]; dsimp only; omega
  · have := e_numML mn tw tf hmn mp zl zm (Int.toNat (6 - 0) + 1) 0 0 p (by decide) (by decide) (by omega) (by omega)
    omega
end EQ5
/-! how many terms a formula has -/
def ec (b : Int) : Int := if 0 < b then 1 else 0
theorem ec_01 (b : Int) : ec b = 0 ∨ ec b = 1 := by unfold ec; split <;> simp
def ecnt (yd : Int → Int) (zk : Int) : Int := ec (yd (zk * 8 + 0)) + ec (yd (zk * 8 + 1)) + ec (yd (zk * 8 + 2)) + ec (yd (zk * 8 + 3)) + ec (yd (zk * 8 + 4)) + ec (yd (zk * 8 + 5)) + ec (yd (zk * 8 + 6)) + ec (yd (zk * 8 + 7))
theorem ecnt_le (yd : Int → Int) (zk : Int) : 0 ≤ ecnt yd zk ∧ ecnt yd zk ≤ 8 := by
  unfold ecnt
  have h0 := ec_01 (yd (zk * 8 + 0)); have h1 := ec_01 (yd (zk * 8 + 1)); have h2 := ec_01 (yd (zk * 8 + 2)); have h3 := ec_01 (yd (zk * 8 + 3))
  have h4 := ec_01 (yd (zk * 8 + 4)); have h5 := ec_01 (yd (zk * 8 + 5)); have h6 := ec_01 (yd (zk * 8 + 6)); have h7 := ec_01 (yd (zk * 8 + 7))
  omega
theorem ec_set (yd : Int → Int) (zk x d y : Int) (hd : 1 ≤ d) (h : yd (zk * 8 + x) = 0) : ec (jset yd (zk * 8 + x) d (zk * 8 + y)) = ec (yd (zk * 8 + y)) + (if y = x then 1 else 0) := by
  unfold jset ec
  by_cases a : y = x
  · subst a
    rw [if_pos rfl, if_pos (by omega), if_neg (by omega), if_pos rfl]; rfl
  · rw [if_neg (show ¬ zk * 8 + y = zk * 8 + x by omega), if_neg a, Int.add_zero]
theorem ecnt_set (yd : Int → Int) (zk x d : Int) (hx : 0 ≤ x ∧ x ≤ 7) (hd : 1 ≤ d) (h : yd (zk * 8 + x) = 0) : ecnt (jset yd (zk * 8 + x) d) zk = ecnt yd zk + 1 := by
  unfold ecnt
  rw [ec_set yd zk x d 0 hd h, ec_set yd zk x d 1 hd h, ec_set yd zk x d 2 hd h, ec_set yd zk x d 3 hd h, ec_set yd zk x d 4 hd h, ec_set yd zk x d 5 hd h, ec_set yd zk x d 6 hd h, ec_set yd zk x d 7 hd h]
  rcases (show x = 0 ∨ x = 1 ∨ x = 2 ∨ x = 3 ∨ x = 4 ∨ x = 5 ∨ x = 6 ∨ x = 7 by omega) with rfl | rfl | rfl | rfl | rfl | rfl | rfl | rfl <;> simp <;> omega
