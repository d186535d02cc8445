/-! the reference's reader beside the class's: the tape -/
section EQ1
variable (mth mn mp mw mu md mo tw : Int) (tf : Int → Int)
theorem e_here : f_XM_here mth mn mp mw mu md mo tf = f_XT_here mn mp tw tf := by
  rw [f_XM_here_s, f_XT_here_s]
theorem e_seeL (tp : Int) : ∀ (n : Nat) (k : Int), mn - k < (n : Int) → k ≤ mn → f_XM_seeP_L0 mth mn mp mw mu md mo tf n k = f_XT_next_L0 mn tp tw tf n k := by
  intro n
  induction n with
  | zero => intro k h1 h2; omega
  | succ n ih =>
    intro k h1 h2
    rw [f_XM_seeP_L0_s, f_XT_next_L0_s, e_here mth mn k mw mu md mo tw tf, f_XT_here_s]
    by_cases a : k < mn
    · by_cases b : tf k = 32
      · simp only [a, b, ↓reduceIte]
        exact ih (k + 1) (by omega) (by omega)
      · simp only [a, b, ↓reduceIte]
    · simp [a]
theorem e_see (h : mp ≤ mn) : f_XM_seeP mth mn mp mw mu md mo tf = f_XT_next mn mp tw tf := by
  rw [f_XM_seeP_s, f_XT_next_s]
  exact e_seeL mth mn mp mw mu md mo tw tf mp _ mp (by omega) h
theorem e_takes (z1 : Int) (hw : mw < 0) (h : mp ≤ mn) : f_XM_takesP mth mn mp mw mu md mo tf z1 = f_XT_skipIf mn mp tw tf z1 := by
  rw [f_XM_takesP_s, if_pos hw, e_see mth mn mp mw mu md mo tw tf h, f_XT_skipIf_s]
theorem e_takesW (z1 : Int) (hw : 0 ≤ mw) : f_XM_takesP mth mn mp mw mu md mo tf z1 = (0, mp) := by
  rw [f_XM_takesP_s, if_neg (by omega)]
theorem e_fail (z1 : Int) (hw : mw < 0) : f_XM_failP mth mn mp mw mu md mo z1 = z1 := by rw [f_XM_failP_s, if_pos hw]
theorem e_failW (z1 : Int) (hw : 0 ≤ mw) : f_XM_failP mth mn mp mw mu md mo z1 = mw := by rw [f_XM_failP_s, if_neg (by omega)]
theorem e_take (z1 : Int) (hw : mw < 0) (h : mp ≤ mn) : ((f_XT_take mn mp tw tf z1).1 = 1 ∧ (f_XT_take mn mp tw tf z1).2.2 = tw ∧ f_XM_takeP mth mn mp mw mu md mo tf z1 = ((f_XT_take mn mp tw tf z1).2.1, mw)) ∨ ((f_XT_take mn mp tw tf z1).1 = 0 ∧ f_XM_takeP mth mn mp mw mu md mo tf z1 = ((f_XT_take mn mp tw tf z1).2.1, (f_XT_take mn mp tw tf z1).2.1)) := by
  rw [f_XM_takeP_s, if_pos hw, e_see mth mn mp mw mu md mo tw tf h, f_XT_take_s]
  generalize f_XT_next mn mp tw tf = q
  obtain ⟨r, p⟩ := q
  dsimp only
  by_cases a : r = z1
  · simp [a]
  · right
    rw [e_fail mth mn p mw mu md mo p hw]
    simp [a, f_XT_refuse_s]
theorem e_takeW (z1 : Int) (hw : 0 ≤ mw) : f_XM_takeP mth mn mp mw mu md mo tf z1 = (mp, mw) := by
  rw [f_XM_takeP_s, if_neg (by omega)]
/-- a sign that is a digit -/
def eDig (tf : Int → Int) (mn q : Int) : Prop := q < mn ∧ 48 ≤ tf q ∧ tf q ≤ 57
theorem e_isDigit (hmn : 0 ≤ mn ∧ mn ≤ 400) (hmp : 0 ≤ mp ∧ mp ≤ mn) (hf : ∀ i, 0 ≤ tf i ∧ tf i ≤ 255) : (f_XM_isDigit mth mn mp mw mu md mo tf = 1 ∧ f_XG_isDigit (f_XT_here mn mp tw tf) = 1 ∧ eDig tf mn mp) ∨ (f_XM_isDigit mth mn mp mw mu md mo tf = 0 ∧ f_XG_isDigit (f_XT_here mn mp tw tf) = 0 ∧ ¬ eDig tf mn mp) := by
  have h1 := f_XM_isDigit_b mth mn mp mw mu md mo tf hf hmn hmp
  have h2 := hf mp
  unfold eDig
  by_cases a : mp < mn
  · have h3 : f_XT_here mn mp tw tf = tf mp := by rw [f_XT_here_s, if_pos a]
    have h4 := f_XG_isDigit_01 (f_XT_here mn mp tw tf) (by omega)
    omega
  · have h3 : f_XT_here mn mp tw tf = -1 := by rw [f_XT_here_s, if_neg a]
    have h4 := f_XG_isDigit_01 (f_XT_here mn mp tw tf) (by omega)
    omega
theorem e_nextvL (tp : Int) : ∀ (n : Nat) (k : Int), mn - k < (n : Int) → k ≤ mn → f_XT_here mn (f_XT_next_L0 mn tp tw tf n k).2 tw tf = (f_XT_next_L0 mn tp tw tf n k).1 := by
  intro n
  induction n with
  | zero => intro k h1 h2; omega
  | succ n ih =>
    intro k h1 h2
    rw [f_XT_next_L0_s]
    by_cases a : k < mn
    · by_cases b : tf k = 32
      · simp only [a, b, ↓reduceIte]
        exact ih (k + 1) (by omega) (by omega)
      · simp only [a, b, ↓reduceIte, f_XT_here_s]
    · simp [a, f_XT_here_s]
theorem e_nextv (hmn : 0 ≤ mn ∧ mn ≤ 400) (hmp : 0 ≤ mp ∧ mp ≤ mn) : f_XT_here mn (f_XT_next mn mp tw tf).2 tw tf = (f_XT_next mn mp tw tf).1 := by
  rw [f_XT_next_s]
  exact e_nextvL mn tw tf mp _ mp (by omega) hmp.2
theorem e_nextIL (tp tq : Int) : ∀ (n : Nat) (k : Int), mn - k < (n : Int) → k ≤ mn → f_XT_next_L0 mn tq tw tf (Int.toNat (mn - (f_XT_next_L0 mn tp tw tf n k).2) + 1) (f_XT_next_L0 mn tp tw tf n k).2 = f_XT_next_L0 mn tp tw tf n k := by
  intro n
  induction n with
  | zero => intro k h1 h2; omega
  | succ n ih =>
    intro k h1 h2
    rw [f_XT_next_L0_s mn tp tw tf n k]
    by_cases a : k < mn
    · by_cases b : tf k = 32
      · simp only [a, b, ↓reduceIte]
        exact ih (k + 1) (by omega) (by omega)
      · simp only [a, b, ↓reduceIte]
        rw [f_XT_next_L0_s]
        simp only [a, b, ↓reduceIte]
    · simp only [a, ↓reduceIte]
      rw [f_XT_next_L0_s]
      simp only [a, ↓reduceIte]
/-- behind blanks there are no more -/
theorem e_nextI (hmn : 0 ≤ mn ∧ mn ≤ 400) (hmp : 0 ≤ mp ∧ mp ≤ mn) : f_XT_next mn (f_XT_next mn mp tw tf).2 tw tf = f_XT_next mn mp tw tf := by
  rw [f_XT_next_s mn (f_XT_next mn mp tw tf).2 tw tf, f_XT_next_s mn mp tw tf]
  exact e_nextIL mn tw tf mp _ _ mp (by omega) hmp.2
end EQ1
