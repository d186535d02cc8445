section
/-! the reference's reader beside the class's: the tape -/
section EQ1
variable (mth mn mp mw mu md mo tw : Int) (tf : Int → Int)
theorem e_here : f_XM_here mth mn mp mw mu md mo tf = f_XT_here mn mp tw tf := by
  rw [f_XM_here_s, f_XT_here_s]
theorem e_seeL (tp : Int) : ∀ (n : Nat) (k : Int), mn - k < (n : Int) → k ≤ mn → f_XM_seeP_L0 mth mn mp mw mu md mo tf n k = f_XT_next_L0 mn tp tw tf n k := by
  intro n
  induction n with
  | zero => intro k h1 h2; omega
  | succ n ih =>
    intro k h1 h2
    rw [f_XM_seeP_L0_s, f_XT_next_L0_s, e_here mth mn k mw mu md mo tw tf, f_XT_here_s]
    by_cases a : k < mn
    · by_cases b : tf k = 32
      · simp only [a, b, ↓reduceIte]
        exact ih (k + 1) (by omega) (by omega)
      · simp only [a, b, ↓reduceIte]
    · simp [a]
theorem e_see (h : mp ≤ mn) : f_XM_seeP mth mn mp mw mu md mo tf = f_XT_next mn mp tw tf := by
  rw [f_XM_seeP_s, f_XT_next_s]
  exact e_seeL mth mn mp mw mu md mo tw tf mp _ mp (by omega) h
theorem e_takes (z1 : Int) (hw : mw < 0) (h : mp ≤ mn) : f_XM_takesP mth mn mp mw mu md mo tf z1 = f_XT_skipIf mn mp tw tf z1 := by
  rw [f_XM_takesP_s, if_pos hw, e_see mth mn mp mw mu md mo tw tf h, f_XT_skipIf_s]
theorem e_takesW (z1 : Int) (hw : 0 ≤ mw) : f_XM_takesP mth mn mp mw mu md mo tf z1 = (0, mp) := by
  rw [f_XM_takesP_s, if_neg (by omega)]
theorem e_fail (z1 : Int) (hw : mw < 0) : f_XM_failP mth mn mp mw mu md mo z1 = z1 := by rw [f_XM_failP_s, if_pos hw]
theorem e_failW (z1 : Int) (hw : 0 ≤ mw) : f_XM_failP mth mn mp mw mu md mo z1 = mw := by rw [f_XM_failP_s, if_neg (by omega)]
theorem e_take (z1 : Int) (hw : mw < 0) (h : mp ≤ mn) : ((f_XT_take mn mp tw tf z1).1 = 1 ∧ (f_XT_take mn mp tw tf z1).2.2 = tw ∧ f_XM_takeP mth mn mp mw mu md mo tf z1 = ((f_XT_take mn mp tw tf z1).2.1, mw)) ∨ ((f_XT_take mn mp tw tf z1).1 = 0 ∧ f_XM_takeP mth mn mp mw mu md mo tf z1 = ((f_XT_take mn mp tw tf z1).2.1, (f_XT_take mn mp tw tf z1).2.1)) := by
  rw [f_XM_takeP_s, if_pos hw, e_see mth mn mp mw mu md mo tw tf h, f_XT_take_s]
  generalize f_XT_next mn mp tw tf = q
  obtain ⟨r, p⟩ := q
  dsimp only
  by_cases a : r = z1
  · simp [a]
  · right
    rw [e_fail mth mn p mw mu md mo p hw]
    simp [a, f_XT_refuse_s]
theorem e_takeW (z1 : Int) (hw : 0 ≤ mw) : f_XM_takeP mth mn mp mw mu md mo tf z1 = (mp, mw) := by
  rw [f_XM_takeP_s, if_neg (by omega)]
/-- a sign that is a digit -/
def eDig (tf : Int → Int) (mn q : Int) : Prop := q < mn ∧ 48 ≤ tf q ∧ tf q ≤ 57
theorem e_isDigit (hmn : 0 ≤ mn ∧ mn ≤ 400) (hmp : 0 ≤ mp ∧ mp ≤ mn) (hf : ∀ i, 0 ≤ tf i ∧ tf i ≤ 255) : (f_XM_isDigit mth mn mp mw mu md mo tf = 1 ∧ f_XG_isDigit (f_XT_here mn mp tw tf) = 1 ∧ eDig tf mn mp) ∨ (f_XM_isDigit mth mn mp mw mu md mo tf = 0 ∧ f_XG_isDigit (f_XT_here mn mp tw tf) = 0 ∧ ¬ eDig tf mn mp) := by
  have h1 := f_XM_isDigit_b mth mn mp mw mu md mo tf hf hmn hmp
  have h2 := hf mp
  unfold eDig
  by_cases a : mp < mn
  · have h3 : f_XT_here mn mp tw tf = tf mp := by rw [f_XT_here_s, if_pos a]
    have h4 := f_XG_isDigit_01 (f_XT_here mn mp tw tf) (by omega)
    omega
  · have h3 : f_XT_here mn mp tw tf = -1 := by rw [f_XT_here_s, if_neg a]
    have h4 := f_XG_isDigit_01 (f_XT_here mn mp tw tf) (by omega)
    omega
theorem e_nextvL (tp : Int) : ∀ (n : Nat) (k : Int), mn - k < (n : Int) → k ≤ mn → f_XT_here mn (f_XT_next_L0 mn tp tw tf n k).2 tw tf = (f_XT_next_L0 mn tp tw tf n k).1 := by
  intro n
  induction n with
  | zero => intro k h1 h2; omega
  | succ n ih =>
    intro k h1 h2
    rw [f_XT_next_L0_s]
    by_cases a : k < mn
    · by_cases b : tf k = 32
      · simp only [a, b, ↓reduceIte]
        exact ih (k + 1) (by omega) (by omega)
      · simp only [a, b, ↓reduceIte, f_XT_here_s]
    · simp [a, f_XT_here_s]
theorem e_nextv (hmn : 0 ≤ mn ∧ mn ≤ 400) (hmp : 0 ≤ mp ∧ mp ≤ mn) : f_XT_here mn (f_XT_next mn mp tw tf).2 tw tf = (f_XT_next mn mp tw tf).1 := by
  rw [f_XT_next_s]
  exact e_nextvL mn tw tf mp _ mp (by omega) hmp.2
theorem e_nextIL (tp tq : Int) : ∀ (n : Nat) (k : Int), mn - k < (n : Int) → k ≤ mn → f_XT_next_L0 mn tq tw tf (Int.toNat (mn - (f_XT_next_L0 mn tp tw tf n k).2) + 1) (f_XT_next_L0 mn tp tw tf n k).2 = f_XT_next_L0 mn tp tw tf n k := by
  intro n
  induction n with
  | zero => intro k h1 h2; omega
  | succ n ih =>
    intro k h1 h2
    rw [f_XT_next_L0_s mn tp tw tf n k]
    by_cases a : k < mn
    · by_cases b : tf k = 32
      · simp only [a, b, ↓reduceIte]
        exact ih (k + 1) (by omega) (by omega)
      · simp only [a, b, ↓reduceIte]
        rw [f_XT_next_L0_s]
        simp only [a, b, ↓reduceIte]
    · simp only [a, ↓reduceIte]
      rw [f_XT_next_L0_s]
      simp only [a, ↓reduceIte]
/-- behind blanks there are no more -/
theorem e_nextI (hmn : 0 ≤ mn ∧ mn ≤ 400) (hmp : 0 ≤ mp ∧ mp ≤ mn) : f_XT_next mn (f_XT_next mn mp tw tf).2 tw tf = f_XT_next mn mp tw tf := by
  rw [f_XT_next_s mn (f_XT_next mn mp tw tf).2 tw tf, f_XT_next_s mn mp tw tf]
  exact e_nextIL mn tw tf mp _ _ mp (by omega) hmp.2
end EQ1
end
section
/-! the reference's reader beside the class's: numbers -/
noncomputable def eCend (mn tw : Int) (tf : Int → Int) (zl zm v q : Int) : Int × Int × Int :=
  if v < zl then (-1, q, q - 1) else if zm < v then (-1, q, q - 1) else if (f_XG_isDigit (f_XT_here mn q tw tf)) = 0 then (v, q, tw) else (-1, q, q)
theorem e_L22 (mn tp tw : Int) (tf : Int → Int) (zl zm : Int) (n : Nat) (v k q : Int) : f_XT_number_L22 mn tp tw tf zl zm (n + 1) v k q =
    (if k < 6 then
      if (f_XG_isDigit (f_XT_here mn q tw tf)) = 0 then eCend mn tw tf zl zm v q
      else if 0 < k then (if v = 0 then eCend mn tw tf zl zm v q else f_XT_number_L22 mn tp tw tf zl zm n (((v * 10) + (f_XT_here mn q tw tf)) - 48) (k + 1) (q + 1))
      else f_XT_number_L22 mn tp tw tf zl zm n (((v * 10) + (f_XT_here mn q tw tf)) - 48) (k + 1) (q + 1)
    else eCend mn tw tf zl zm v q) := by
  rw [f_XT_number_L22_s]
  simp only [f_XT_refuseLast_s, f_XT_refuse_s]
  rfl
/-- how a number of the class and one of the reference stand to each other -/
def eNum (tf : Int → Int) (mn mw : Int) (C M : Int × Int × Int) : Prop := (0 ≤ C.1 ∧ M = (C.1, C.2.1, mw) ∧ ¬ eDig tf mn C.2.1) ∨ (C.1 = -1 ∧ (0 ≤ M.2.2 ∨ (M.2.2 = mw ∧ 0 ≤ M.2.1 ∧ eDig tf mn M.2.1)))
section EQ2
variable (mth mn mp mw mu md mo tw : Int) (tf : Int → Int) (z1 z2 : Int) (wi : Int)
theorem e_J112W (v dj k w2 : Int) (hw : 0 ≤ w2) : (f_XM_numberP_J112 mth mn mp wi mu md mo tf z1 z2 v dj k w2).2.2 = w2 := by
  rw [f_XM_numberP_J112_s]
  (repeat' split) <;> simp only [f_XM_numberP_J134_s, e_failW _ _ _ _ _ _ _ _ hw] <;> split <;> rfl
theorem e_J112A (v dj k w2 : Int) (hw : w2 < 0) (hk : 0 ≤ k) : (f_XM_numberP_J112 mth mn mp wi mu md mo tf z1 z2 v dj k w2 = (v, k, w2) ∧ (dj = 6 → f_XM_isDigit mth mn k w2 mu md mo tf = 0)) ∨ (f_XM_numberP_J112 mth mn mp wi mu md mo tf z1 z2 v dj k w2 = (z1, k, k) ∧ dj = 6 ∧ f_XM_isDigit mth mn k w2 mu md mo tf ≠ 0) := by
  rw [f_XM_numberP_J112_s]
  by_cases a : dj = 6
  · by_cases b : f_XM_isDigit mth mn k w2 mu md mo tf = 0
    · left
      rw [if_pos a, if_pos b, f_XM_numberP_J134_s, if_pos hw]
      exact ⟨rfl, fun _ => b⟩
    · right
      rw [if_pos a, if_neg b, f_XM_numberP_J134_s, e_fail _ _ _ _ _ _ _ _ hw, if_neg (by omega)]
      exact ⟨rfl, a, b⟩
  · left
    rw [if_neg a, f_XM_numberP_J134_s, if_pos hw]
    exact ⟨rfl, fun h => absurd h a⟩
theorem e_numEnd (hw : mw < 0) (hz : 0 ≤ z1 ∧ z1 ≤ z2 ∧ z2 ≤ 999999) (hmn : 0 ≤ mn ∧ mn ≤ 400) (hf : ∀ i, 0 ≤ tf i ∧ tf i ≤ 255) (v dj k : Int) (hv : i32 v) (hk : 1 ≤ k ∧ k ≤ mn) : eNum tf mn mw (eCend mn tw tf z1 z2 v k) (f_XM_numberP_J93 mth mn mp wi mu md mo tf z1 z2 mw v dj k) := by
  have hi := f_XM_in_b v z1 z2 hv (by omega) (by omega)
  have hd := e_isDigit mth mn k mw mu md mo tw tf hmn (by omega) hf
  rw [f_XM_numberP_J93_s]
  unfold eNum eCend
  by_cases a : v < z1
  · rw [if_pos a, if_pos (show f_XM_in v z1 z2 = 0 by omega)]
    right
    refine ⟨rfl, Or.inl ?_⟩
    rw [e_fail _ _ _ _ _ _ _ _ hw, e_J112W _ _ _ _ _ _ _ _ _ _ _ _ _ _ (by omega)]
    omega
  · by_cases b : z2 < v
    · rw [if_neg a, if_pos b, if_pos (show f_XM_in v z1 z2 = 0 by omega)]
      right
      refine ⟨rfl, Or.inl ?_⟩
      rw [e_fail _ _ _ _ _ _ _ _ hw, e_J112W _ _ _ _ _ _ _ _ _ _ _ _ _ _ (by omega)]
      omega
    · rw [if_neg a, if_neg b, if_neg (show ¬ f_XM_in v z1 z2 = 0 by omega)]
      rcases e_J112A mth mn mp mu md mo tf z1 z2 wi v dj k mw hw (by omega) with ⟨h1, h2⟩ | ⟨h1, h2, h3⟩
      · rw [h1]
        rcases hd with ⟨d1, d2, d3⟩ | ⟨d1, d2, d3⟩
        · rw [if_neg (show ¬ f_XG_isDigit (f_XT_here mn k tw tf) = 0 by omega)]
          right
          exact ⟨rfl, Or.inr ⟨rfl, by show 0 ≤ k; omega, d3⟩⟩
        · rw [if_pos d2]
          left
          exact ⟨by show 0 ≤ v; omega, rfl, d3⟩
      · rw [h1]
        rcases hd with ⟨d1, d2, d3⟩ | ⟨d1, d2, d3⟩
        · rw [if_neg (show ¬ f_XG_isDigit (f_XT_here mn k tw tf) = 0 by omega)]
          right
          exact ⟨rfl, Or.inl (by show 0 ≤ k; omega)⟩
        · omega
theorem e_numL (hw : mw < 0) (hz : 0 ≤ z1 ∧ z1 ≤ z2 ∧ z2 ≤ 999999) (hmn : 0 ≤ mn ∧ mn ≤ 400) (hf : ∀ i, 0 ≤ tf i ∧ tf i ≤ 255) (tp : Int) : ∀ (n : Nat) (v k q : Int), 6 - k < (n : Int) → 0 ≤ k → k ≤ 6 → 0 ≤ q → q ≤ mn → (k = 0 → v = 0 ∧ eDig tf mn q) → (0 < k → 1 ≤ q) → 0 ≤ v → (k ≤ 1 → v ≤ 9) → (k ≤ 2 → v ≤ 99) → (k ≤ 3 → v ≤ 999) → (k ≤ 4 → v ≤ 9999) → (k ≤ 5 → v ≤ 99999) → v ≤ 999999 →
    eNum tf mn mw (f_XT_number_L22 mn tp tw tf z1 z2 n v k q) (f_XM_numberP_L34 mth mn mp wi mu md mo tf z1 z2 mw n v k q) := by
  intro n
  induction n with
  | zero => intro v k q h1 h2 h3; omega
  | succ n ih =>
    intro v k q h1 h2 h3 h4 h5 h6 h7 h8 b1 b2 b3 b4 b5 b6
    have hd := e_isDigit mth mn q mw mu md mo tw tf hmn ⟨h4, h5⟩ hf
    have hh := e_here mth mn q mw mu md mo tw tf
    have hq := hf q
    have hi : i32 v := by omega
    rw [e_L22, f_XM_numberP_L34_s, if_pos hw, hh, show 10 * v = v * 10 from Int.mul_comm 10 v]
    have step : eDig tf mn q → k < 6 → eNum tf mn mw (f_XT_number_L22 mn tp tw tf z1 z2 n (v * 10 + f_XT_here mn q tw tf - 48) (k + 1) (q + 1)) (f_XM_numberP_L34 mth mn mp wi mu md mo tf z1 z2 mw n (v * 10 + f_XT_here mn q tw tf - 48) (k + 1) (q + 1)) := by
      intro hg hk
      have hv : f_XT_here mn q tw tf = tf q := by rw [f_XT_here_s, if_pos hg.1]
      rw [hv]
      have g1 := hg.1
      have g2 := hg.2
      exact ih _ _ _ (by omega) (by omega) (by omega) (by omega) (by omega) (fun h => by omega) (fun _ => by omega) (by omega) (fun _ => by omega) (fun _ => by omega) (fun _ => by omega) (fun _ => by omega) (fun _ => by omega) (by omega)
    rcases hd with ⟨d1, d2, d3⟩ | ⟨d1, d2, d3⟩
    · rw [if_neg (show ¬ f_XM_isDigit mth mn q mw mu md mo tf = 0 by omega), if_neg (show ¬ f_XG_isDigit (f_XT_here mn q tw tf) = 0 by omega)]
      by_cases a : k < 6
      · rw [if_pos a, if_pos a]
        by_cases b : k = 0
        · rw [if_neg (by omega), if_pos b]
          exact step d3 a
        · rw [if_pos (by omega), if_neg b]
          by_cases d : v = 0
          · rw [if_pos d, if_neg (by omega)]
            exact e_numEnd mth mn mp mw mu md mo tw tf z1 z2 wi hw hz hmn hf v k q hi ⟨h7 (by omega), h5⟩
          · rw [if_neg d, if_pos (by omega)]
            exact step d3 a
      · rw [if_neg a, if_neg a]
        exact e_numEnd mth mn mp mw mu md mo tw tf z1 z2 wi hw hz hmn hf v k q hi ⟨h7 (by omega), h5⟩
    · rw [if_pos d1, if_pos d2]
      have hk0 : k ≠ 0 := fun h => d3 (h6 h).2
      have e9 := e_numEnd mth mn mp mw mu md mo tw tf z1 z2 wi hw hz hmn hf v k q hi ⟨h7 (by omega), h5⟩
      by_cases a : k < 6
      · rw [if_pos a]; exact e9
      · rw [if_neg a]; exact e9
theorem e_number (hw : mw < 0) (hz : 0 ≤ z1 ∧ z1 ≤ z2 ∧ z2 ≤ 999999) (hmn : 0 ≤ mn ∧ mn ≤ 400) (hmp : 0 ≤ mp ∧ mp ≤ mn) (hf : ∀ i, 0 ≤ tf i ∧ tf i ≤ 255) : eNum tf mn mw (f_XT_number mn mp tw tf z1 z2) (f_XM_numberP mth mn mp mw mu md mo tf z1 z2) := by
  have hb := f_XT_next_b mn mp tw tf hmn hmp (fun i => ⟨(hf i).1, by have := hf i; omega⟩)
  have hv := e_nextv mn mp tw tf hmn hmp
  rw [f_XT_number_s, f_XM_numberP_s, if_pos hw, e_see mth mn mp mw mu md mo tw tf hmp.2]
  generalize f_XT_next mn mp tw tf = q at hb hv
  obtain ⟨r, p⟩ := q
  dsimp only at hb hv ⊢
  have hd := e_isDigit mth mn p mw mu md mo tw tf hmn (by omega) hf
  have hr : f_XT_here mn p tw tf = r := hv
  rw [hr] at hd
  rcases hd with ⟨d1, d2, d3⟩ | ⟨d1, d2, d3⟩
  · rw [if_neg (show ¬ f_XM_isDigit mth mn p mw mu md mo tf = 0 by omega), if_neg (show ¬ f_XG_isDigit r = 0 by omega), f_XM_numberP_J29_s]
    exact e_numL mth mn mp mw mu md mo tw tf z1 z2 mw hw hz hmn hf mp _ 0 0 p (by decide) (by decide) (by decide) (by omega) (by omega) (fun _ => ⟨rfl, d3⟩) (fun h => by omega) (by decide) (fun _ => by decide) (fun _ => by decide) (fun _ => by decide) (fun _ => by decide) (fun _ => by decide) (by decide)
  · rw [if_pos d1, if_pos d2, f_XM_numberP_J29_s, e_fail _ _ _ _ _ _ _ _ hw, f_XT_refuse_s]
    right
    refine ⟨rfl, Or.inl ?_⟩
    rw [show Int.toNat (6 - 0) + 1 = 6 + 1 from rfl, f_XM_numberP_L34_s, if_neg (by omega), f_XM_numberP_J93_s]
    (repeat' split) <;> (try rw [e_failW _ _ _ _ _ _ _ _ (show 0 ≤ p by omega)]) <;> rw [e_J112W _ _ _ _ _ _ _ _ _ _ _ _ _ _ (show 0 ≤ p by omega)] <;> omega
end EQ2
end
section
/-! the reference's reader beside the class's: kinds, elements, lost places -/
def mbit (mk x : Int) : Int := (jI ((jI mk >>> (jI x &&& 31)).toInt) &&& jI 1).toInt
section EQ3
variable (mth mn mp mw mu md mo tw : Int) (tf : Int → Int)
theorem e_numBig (hw : mw < 0) (wi : Int) (hmn : 0 ≤ mn ∧ mn ≤ 400) (hf : ∀ i, 0 ≤ tf i ∧ tf i ≤ 255) : ∀ (n : Nat) (v k q : Int), 6 - k < (n : Int) → 1 ≤ k → k ≤ 6 → 1 ≤ q → q ≤ mn → 4 ≤ v → (k ≤ 1 → v ≤ 9) → (k ≤ 2 → v ≤ 99) → (k ≤ 3 → v ≤ 999) → (k ≤ 4 → v ≤ 9999) → (k ≤ 5 → v ≤ 99999) → v ≤ 999999 → 0 ≤ (f_XM_numberP_L34 mth mn mp wi mu md mo tf 0 3 mw n v k q).2.2 := by
  intro n
  induction n with
  | zero => intro v k q h1 h2 h3; omega
  | succ n ih =>
    intro v k q h1 h2 h3 h4 h5 h6 b1 b2 b3 b4 b5 b6
    have hd := f_XM_isDigit_b mth mn q mw mu md mo tf hf hmn ⟨by omega, h5⟩
    have hh := f_XM_here_v mth mn q mw mu md mo tf hf hmn ⟨by omega, h5⟩
    have hend : 0 ≤ (f_XM_numberP_J93 mth mn mp wi mu md mo tf 0 3 mw v k q).2.2 := by
      have hi := f_XM_in_b v 0 3 (by omega) (by decide) (by decide)
      rw [f_XM_numberP_J93_s, if_pos (by omega), e_fail _ _ _ _ _ _ _ _ hw, e_J112W _ _ _ _ _ _ _ _ _ _ _ _ _ _ (by omega)]
      omega
    rw [f_XM_numberP_L34_s, if_pos hw]
    by_cases a : f_XM_isDigit mth mn q mw mu md mo tf = 0
    · rw [if_pos a]; exact hend
    · rw [if_neg a]
      by_cases b : k < 6
      · rw [if_pos b, if_neg (by omega), if_pos (by omega)]
        exact ih _ _ _ (by omega) (by omega) (by omega) (by omega) (by omega) (by omega) (fun _ => by omega) (fun _ => by omega) (fun _ => by omega) (fun _ => by omega) (fun _ => by omega) (by omega)
      · rw [if_neg b]; exact hend
theorem e_J93W (wi z1 z2 v dj k w1 : Int) (hw : 0 ≤ w1) : 0 ≤ (f_XM_numberP_J93 mth mn mp wi mu md mo tf z1 z2 w1 v dj k).2.2 := by
  rw [f_XM_numberP_J93_s]
  by_cases a : f_XM_in v z1 z2 = 0
  · rw [if_pos a, e_failW _ _ _ _ _ _ _ _ hw, e_J112W _ _ _ _ _ _ _ _ _ _ _ _ _ _ hw]; exact hw
  · rw [if_neg a, e_J112W _ _ _ _ _ _ _ _ _ _ _ _ _ _ hw]; exact hw
theorem e_kind0 (hw : mw < 0) (hmn : 0 ≤ mn ∧ mn ≤ 400) (hmp : 0 ≤ mp ∧ mp ≤ mn) (hf : ∀ i, 0 ≤ tf i ∧ tf i ≤ 255) : ∀ C, C = f_XT_takeOneOf mn mp tw tf 48 4 → ∀ M, M = f_XM_numberP mth mn mp mw mu md mo tf 0 3 →
    (C.1 = -1 ∧ 0 ≤ M.2.2) ∨ (0 ≤ C.1 ∧ C.1 ≤ 3 ∧ M = (C.1, C.2.1, mw)) ∨ (0 ≤ C.1 ∧ C.1 ≤ 3 ∧ 0 ≤ M.2.2 ∧ eDig tf mn C.2.1) := by
  intro C hC M hM
  have hb := f_XT_next_b mn mp tw tf hmn hmp (fun i => ⟨(hf i).1, by have := hf i; omega⟩)
  have hv := e_nextv mn mp tw tf hmn hmp
  rw [f_XT_takeOneOf_s] at hC
  rw [f_XM_numberP_s, if_pos hw, e_see mth mn mp mw mu md mo tw tf hmp.2] at hM
  generalize f_XT_next mn mp tw tf = q at hb hv hC hM
  obtain ⟨r, p⟩ := q
  dsimp only at hb hv hC hM
  have hd := e_isDigit mth mn p mw mu md mo tw tf hmn (by omega) hf
  have hr : f_XT_here mn p tw tf = r := hv
  have hx := e_here mth mn p mw mu md mo tw tf
  rw [hr] at hx
  rw [hr] at hd
  simp only [f_XT_refuse_s] at hC
  rcases hd with ⟨d1, d2, d3⟩ | ⟨d1, d2, d3⟩
  · have hg : r = tf p := by rw [← hr, f_XT_here_s, if_pos d3.1]
    have g1 := d3.1
    have g2 := d3.2
    have hd2 := e_isDigit mth mn (p + 1) mw mu md mo tw tf hmn (by omega) hf
    have hi := f_XM_in_b (r - 48) 0 3 (by omega) (by decide) (by decide)
    rw [if_neg (show ¬ f_XM_isDigit mth mn p mw mu md mo tf = 0 by omega), f_XM_numberP_J29_s, show Int.toNat (6 - 0) + 1 = 5 + 1 + 1 from rfl, f_XM_numberP_L34_s, if_pos hw, if_neg (show ¬ f_XM_isDigit mth mn p mw mu md mo tf = 0 by omega), if_pos (show (0 : Int) < 6 by decide), if_pos rfl, hx, show 10 * 0 + r - 48 = r - 48 by omega] at hM
    rw [if_neg (show ¬ r - 48 < 0 by omega)] at hC
    by_cases a : r - 48 < 4
    · rw [if_pos a] at hC
      rw [f_XM_numberP_L34_s, if_pos hw] at hM
      have hJ : f_XM_numberP_J93 mth mn mp mw mu md mo tf 0 3 mw (r - 48) (0 + 1) (p + 1) = (r - 48, p + 1, mw) := by
        rw [f_XM_numberP_J93_s, if_neg (by omega), f_XM_numberP_J112_s, if_neg (by decide), f_XM_numberP_J134_s, if_pos hw]
      rw [hC]
      dsimp only
      rcases hd2 with ⟨k1, k2, k3⟩ | ⟨k1, k2, k3⟩
      · rw [if_neg (show ¬ f_XM_isDigit mth mn (p + 1) mw mu md mo tf = 0 by omega), if_pos (show (0 : Int) + 1 < 6 by decide), if_neg (show ¬ (0 : Int) + 1 = 0 by decide)] at hM
        by_cases b : 0 < r - 48
        · right; right
          rw [if_pos b] at hM
          refine ⟨by omega, by omega, ?_, k3⟩
          have hx2 := e_here mth mn (p + 1) mw mu md mo tw tf
          have hg2 : f_XT_here mn (p + 1) tw tf = tf (p + 1) := by rw [f_XT_here_s, if_pos k3.1]
          have k4 := k3.1
          have k5 := k3.2
          rw [hx2, hg2] at hM
          rw [hM]
          exact e_numBig mth mn mp mw mu md mo tf hw mw hmn hf 5 _ _ _ (by decide) (by decide) (by decide) (by omega) (by omega) (by omega) (fun h => by omega) (fun _ => by omega) (fun _ => by omega) (fun _ => by omega) (fun _ => by omega) (by omega)
        · right; left
          rw [if_neg b, hJ] at hM
          exact ⟨by omega, by omega, hM⟩
      · right; left
        rw [if_pos k1, hJ] at hM
        exact ⟨by omega, by omega, hM⟩
    · left
      rw [if_neg a] at hC
      rw [hC, hM]
      exact ⟨rfl, e_numBig mth mn mp mw mu md mo tf hw mw hmn hf (5 + 1) _ _ _ (by decide) (by decide) (by decide) (by omega) (by omega) (by omega) (fun h => by omega) (fun _ => by omega) (fun _ => by omega) (fun _ => by omega) (fun _ => by omega) (by omega)⟩
  · left
    have h48 : r < 48 ∨ 57 < r := by
      have := f_XG_isDigit_01 r (by omega)
      omega
    rw [if_pos d1, f_XM_numberP_J29_s, e_fail _ _ _ _ _ _ _ _ hw, show Int.toNat (6 - 0) + 1 = 6 + 1 from rfl, f_XM_numberP_L34_s, if_neg (show ¬ p < 0 by omega)] at hM
    have hCm : C.1 = -1 := by
      by_cases a : r - 48 < 0
      · rw [if_pos a] at hC; rw [hC]
      · rw [if_neg a, if_neg (show ¬ r - 48 < 4 by omega)] at hC; rw [hC]
    exact ⟨hCm, by rw [hM]; exact e_J93W mth mn mp mu md mo tf mw 0 3 0 0 p p (by omega)⟩
theorem e_kind (hw : mw < 0) (hmn : 0 ≤ mn ∧ mn ≤ 400) (hmp : 0 ≤ mp ∧ mp ≤ mn) (hf : ∀ i, 0 ≤ tf i ∧ tf i ≤ 255) :
    ((f_XT_takeOneOf mn mp tw tf 48 4).1 = -1 ∧ 0 ≤ (f_XM_numberP mth mn mp mw mu md mo tf 0 3).2.2) ∨ (0 ≤ (f_XT_takeOneOf mn mp tw tf 48 4).1 ∧ (f_XT_takeOneOf mn mp tw tf 48 4).1 ≤ 3 ∧ f_XM_numberP mth mn mp mw mu md mo tf 0 3 = ((f_XT_takeOneOf mn mp tw tf 48 4).1, (f_XT_takeOneOf mn mp tw tf 48 4).2.1, mw)) ∨ (0 ≤ (f_XT_takeOneOf mn mp tw tf 48 4).1 ∧ (f_XT_takeOneOf mn mp tw tf 48 4).1 ≤ 3 ∧ 0 ≤ (f_XM_numberP mth mn mp mw mu md mo tf 0 3).2.2 ∧ eDig tf mn (f_XT_takeOneOf mn mp tw tf 48 4).2.1) :=
  e_kind0 mth mn mp mw mu md mo tw tf hw hmn hmp hf _ rfl _ rfl
theorem e_elem (hw : mw < 0) (hmn : 0 ≤ mn ∧ mn ≤ 400) (hmp : 0 ≤ mp ∧ mp ≤ mn) (hf : ∀ i, 0 ≤ tf i ∧ tf i ≤ 255) (mk : Int) :
    ((f_XT_takeOneOf mn mp tw tf 65 8).1 = -1 ∧ f_XM_elementP mth mn mp mw mu md mo tf mk = (-1, (f_XT_takeOneOf mn mp tw tf 65 8).2.1, mw)) ∨ (0 ≤ (f_XT_takeOneOf mn mp tw tf 65 8).1 ∧ (f_XT_takeOneOf mn mp tw tf 65 8).1 ≤ 7 ∧ 1 ≤ (f_XT_takeOneOf mn mp tw tf 65 8).2.1 ∧ ((mbit mk (f_XT_takeOneOf mn mp tw tf 65 8).1 ≠ 1 ∧ f_XM_elementP mth mn mp mw mu md mo tf mk = ((f_XT_takeOneOf mn mp tw tf 65 8).1, (f_XT_takeOneOf mn mp tw tf 65 8).2.1, mw)) ∨ (mbit mk (f_XT_takeOneOf mn mp tw tf 65 8).1 = 1 ∧ 0 ≤ (f_XM_elementP mth mn mp mw mu md mo tf mk).2.2))) := by
  have hb := f_XT_next_b mn mp tw tf hmn hmp (fun i => ⟨(hf i).1, by have := hf i; omega⟩)
  have hv := e_nextv mn mp tw tf hmn hmp
  rw [f_XT_takeOneOf_s, f_XM_elementP_s, if_pos hw, e_see mth mn mp mw mu md mo tw tf hmp.2]
  generalize f_XT_next mn mp tw tf = q at hb hv
  obtain ⟨r, p⟩ := q
  dsimp only at hb hv ⊢
  have hx := (e_here mth mn p mw mu md mo tw tf).trans hv
  have hi := f_XM_in_b r 65 72 (by omega) (by decide) (by decide)
  simp only [f_XT_refuse_s, hx]
  by_cases a : f_XM_in r 65 72 = 0
  · left
    rw [if_pos a]
    by_cases b : r - 65 < 0
    · rw [if_pos b]; exact ⟨rfl, rfl⟩
    · rw [if_neg b, if_neg (by omega)]; exact ⟨rfl, rfl⟩
  · right
    rw [if_neg a, if_neg (show ¬ r - 65 < 0 by omega), if_pos (show r - 65 < 8 by omega)]
    refine ⟨by show 0 ≤ r - 65; omega, by show r - 65 ≤ 7; omega, by show 1 ≤ p + 1; omega, ?_⟩
    by_cases b : mbit mk (r - 65) = 1
    · right
      refine ⟨b, ?_⟩
      rw [if_pos (show (jI ((jI mk >>> (jI (r - 65) &&& 31)).toInt) &&& jI 1).toInt = 1 from b), e_fail _ _ _ _ _ _ _ _ hw]
      show 0 ≤ p
      omega
    · left
      refine ⟨b, ?_⟩
      rw [if_neg (show ¬ (jI ((jI mk >>> (jI (r - 65) &&& 31)).toInt) &&& jI 1).toInt = 1 from b)]
/-- before a digit no other sign is taken -/
theorem e_digNext (h : eDig tf mn mp) (hmp : 0 ≤ mp) : f_XT_next mn mp tw tf = (tf mp, mp) := by
  obtain ⟨h1, h2, h3⟩ := h
  rw [f_XT_next_s, f_XT_next_L0_s, if_pos h1, if_neg (by omega), if_pos h1]
theorem e_digTakes (h : eDig tf mn mp) (hmp : 0 ≤ mp) (z1 : Int) (hz : z1 < 48 ∨ 57 < z1) : f_XM_takesP mth mn mp mw mu md mo tf z1 = (0, mp) := by
  by_cases hw : mw < 0
  · have h2 := h.2
    rw [e_takes mth mn mp mw mu md mo 0 tf z1 hw (by have := h.1; omega), f_XT_skipIf_s, e_digNext mn mp 0 tf h hmp]
    dsimp only
    rw [if_neg (by omega)]
  · exact e_takesW mth mn mp mw mu md mo tf z1 (by omega)
theorem e_digTake (h : eDig tf mn mp) (hmp : 0 ≤ mp) (hw : mw < 0) (z1 : Int) (hz : z1 < 48 ∨ 57 < z1) : f_XM_takeP mth mn mp mw mu md mo tf z1 = (mp, mp) := by
  have h2 := h.2
  rw [f_XM_takeP_s, if_pos hw, e_see mth mn mp mw mu md mo 0 tf (by have := h.1; omega), e_digNext mn mp 0 tf h hmp]
  dsimp only
  rw [if_neg (by omega), e_fail _ _ _ _ _ _ _ _ hw]
theorem e_digElem (h : eDig tf mn mp) (hmp : 0 ≤ mp) (mk : Int) : f_XM_elementP mth mn mp mw mu md mo tf mk = (-1, mp, mw) := by
  rw [f_XM_elementP_s]
  by_cases hw : mw < 0
  · have h2 := h.2
    have hi := f_XM_in_b (tf mp) 65 72 (by omega) (by decide) (by decide)
    rw [if_pos hw, e_see mth mn mp mw mu md mo 0 tf (by have := h.1; omega), e_digNext mn mp 0 tf h hmp]
    dsimp only
    rw [if_pos (by omega)]
  · rw [if_neg hw]
end EQ3
end
section
/-! marks -/
theorem mb0 (v : BitVec 32) : (v &&& 1#32).toInt = if v.getLsbD 0 then 1 else 0 := by
  have h : v &&& 1#32 = if v.getLsbD 0 then 1#32 else 0#32 := by
    apply BitVec.eq_of_getLsbD_eq
    intro i hi
    rw [BitVec.getLsbD_and]
    by_cases h0 : i = 0
    · subst h0
      cases v.getLsbD 0 <;> decide
    · have h1 : (1#32).getLsbD i = false := by rw [BitVec.getLsbD_one]; simp; omega
      rw [h1, Bool.and_false]
      cases v.getLsbD 0
      · simp
      · simp only [if_true]; exact h1.symm
  rw [h]
  cases v.getLsbD 0 <;> decide
theorem mb1 (a s : Int32) (c : Nat) (hc : c < 32) (h : (a >>> s).toBitVec = a.toBitVec.sshiftRight c) : (jI ((a >>> s).toInt) &&& jI 1).toInt = if a.toBitVec.getLsbD c then 1 else 0 := by
  rw [jI_ti]
  show ((a >>> s).toBitVec &&& 1#32).toInt = _
  rw [h, mb0, BitVec.getLsbD_sshiftRight]
  simp only [Nat.add_zero, hc]
  simp
theorem mbit_eq (mk x : Int) (hx : 0 ≤ x ∧ x ≤ 7) : mbit mk x = if (jI mk).toBitVec.getLsbD x.toNat then 1 else 0 := by
  unfold mbit
  rcases (show x = 0 ∨ x = 1 ∨ x = 2 ∨ x = 3 ∨ x = 4 ∨ x = 5 ∨ x = 6 ∨ x = 7 by omega) with rfl | rfl | rfl | rfl | rfl | rfl | rfl | rfl
  · exact mb1 _ _ 0 (by decide) rfl
  · exact mb1 _ _ 1 (by decide) rfl
  · exact mb1 _ _ 2 (by decide) rfl
  · exact mb1 _ _ 3 (by decide) rfl
  · exact mb1 _ _ 4 (by decide) rfl
  · exact mb1 _ _ 5 (by decide) rfl
  · exact mb1 _ _ 6 (by decide) rfl
  · exact mb1 _ _ 7 (by decide) rfl
def mput (mk x : Int) : Int := (jI mk ||| jI ((jI 1 <<< (jI x &&& 31)).toInt)).toInt
theorem mbit_zero (x : Int) (hx : 0 ≤ x ∧ x ≤ 7) : mbit 0 x = 0 := by
  rw [mbit_eq 0 x hx]
  rcases (show x = 0 ∨ x = 1 ∨ x = 2 ∨ x = 3 ∨ x = 4 ∨ x = 5 ∨ x = 6 ∨ x = 7 by omega) with rfl | rfl | rfl | rfl | rfl | rfl | rfl | rfl <;> decide
theorem mb2 (y x : Int) (hy : 0 ≤ y ∧ y ≤ 7) (hx : 0 ≤ x ∧ x ≤ 7) : (jI 1 <<< (jI y &&& 31)).toBitVec.getLsbD x.toNat = decide (x = y) := by
  rcases (show y = 0 ∨ y = 1 ∨ y = 2 ∨ y = 3 ∨ y = 4 ∨ y = 5 ∨ y = 6 ∨ y = 7 by omega) with rfl | rfl | rfl | rfl | rfl | rfl | rfl | rfl <;>
  rcases (show x = 0 ∨ x = 1 ∨ x = 2 ∨ x = 3 ∨ x = 4 ∨ x = 5 ∨ x = 6 ∨ x = 7 by omega) with rfl | rfl | rfl | rfl | rfl | rfl | rfl | rfl <;> decide
theorem mbit_put (mk y x : Int) (hy : 0 ≤ y ∧ y ≤ 7) (hx : 0 ≤ x ∧ x ≤ 7) : mbit (mput mk y) x = if x = y then 1 else mbit mk x := by
  rw [mbit_eq _ x hx, mbit_eq mk x hx]
  unfold mput
  rw [jI_ti, jI_ti]
  have h : (jI mk ||| (jI 1 <<< (jI y &&& 31))).toBitVec = (jI mk).toBitVec ||| (jI 1 <<< (jI y &&& 31)).toBitVec := rfl
  rw [h, BitVec.getLsbD_or, mb2 y x hy hx]
  by_cases a : x = y
  · simp [a]
  · simp [a]
end
section
/-! the reference's reader beside the class's: places go on, formulas -/
section EQ5
variable (mn mp tw : Int) (tf : Int → Int)
theorem e_skipM (hmn : 0 ≤ mn ∧ mn ≤ 400) (hmp : 0 ≤ mp ∧ mp ≤ mn) (hf : ∀ i, 0 ≤ tf i ∧ tf i ≤ 255) (z1 : Int) (hz : 0 ≤ z1) : ((f_XT_skipIf mn mp tw tf z1).1 = 0 ∨ (f_XT_skipIf mn mp tw tf z1).1 = 1) ∧ mp ≤ (f_XT_skipIf mn mp tw tf z1).2 ∧ (f_XT_skipIf mn mp tw tf z1).2 ≤ mn ∧ ((f_XT_skipIf mn mp tw tf z1).1 = 1 → mp < (f_XT_skipIf mn mp tw tf z1).2) := by
  have hb := f_XT_next_b mn mp tw tf hmn hmp (fun i => ⟨(hf i).1, by have := hf i; omega⟩)
  rw [f_XT_skipIf_s]
  generalize f_XT_next mn mp tw tf = q at hb
  obtain ⟨r, p⟩ := q
  dsimp only at hb ⊢
  by_cases a : r = z1
  · rw [if_pos a]; dsimp only; omega
  · rw [if_neg a]; dsimp only; omega
theorem e_takeM (hmn : 0 ≤ mn ∧ mn ≤ 400) (hmp : 0 ≤ mp ∧ mp ≤ mn) (hf : ∀ i, 0 ≤ tf i ∧ tf i ≤ 255) (z1 : Int) (hz : 0 ≤ z1) : ((f_XT_take mn mp tw tf z1).1 = 0 ∨ (f_XT_take mn mp tw tf z1).1 = 1) ∧ mp ≤ (f_XT_take mn mp tw tf z1).2.1 ∧ (f_XT_take mn mp tw tf z1).2.1 ≤ mn ∧ ((f_XT_take mn mp tw tf z1).1 = 1 → mp < (f_XT_take mn mp tw tf z1).2.1) := by
  have hb := f_XT_next_b mn mp tw tf hmn hmp (fun i => ⟨(hf i).1, by have := hf i; omega⟩)
  rw [f_XT_take_s]
  generalize f_XT_next mn mp tw tf = q at hb
  obtain ⟨r, p⟩ := q
  dsimp only at hb ⊢
  by_cases a : r = z1
  · rw [if_pos a]; dsimp only; omega
  · rw [if_neg a, f_XT_refuse_s]; dsimp only; omega
theorem e_oneM (hmn : 0 ≤ mn ∧ mn ≤ 400) (hmp : 0 ≤ mp ∧ mp ≤ mn) (hf : ∀ i, 0 ≤ tf i ∧ tf i ≤ 255) (z1 z2 : Int) (hz : 0 ≤ z1) : mp ≤ (f_XT_takeOneOf mn mp tw tf z1 z2).2.1 ∧ (f_XT_takeOneOf mn mp tw tf z1 z2).2.1 ≤ mn ∧ ((f_XT_takeOneOf mn mp tw tf z1 z2).1 ≠ -1 → mp < (f_XT_takeOneOf mn mp tw tf z1 z2).2.1 ∧ (f_XT_takeOneOf mn mp tw tf z1 z2).2.2 = tw) := by
  have hb := f_XT_next_b mn mp tw tf hmn hmp (fun i => ⟨(hf i).1, by have := hf i; omega⟩)
  rw [f_XT_takeOneOf_s]
  generalize f_XT_next mn mp tw tf = q at hb
  obtain ⟨r, p⟩ := q
  dsimp only at hb ⊢
  simp only [f_XT_refuse_s]
  by_cases a : r - z1 < 0
  · rw [if_pos a]; dsimp only; omega
  · rw [if_neg a]
    by_cases b : r - z1 < z2
    · rw [if_pos b]; dsimp only; omega
    · rw [if_neg b]; dsimp only; omega
theorem e_numML (hmn : 0 ≤ mn ∧ mn ≤ 400) (tp zl zm : Int) : ∀ (n : Nat) (v k q : Int), 6 - k < (n : Int) → k ≤ 6 → 0 ≤ q → q ≤ mn → q ≤ (f_XT_number_L22 mn tp tw tf zl zm n v k q).2.1 ∧ (f_XT_number_L22 mn tp tw tf zl zm n v k q).2.1 ≤ mn := by
  intro n
  induction n with
  | zero => intro v k q h1 h2; omega
  | succ n ih =>
    intro v k q h1 h2 h3 h4
    have hend : (eCend mn tw tf zl zm v q).2.1 = q := by unfold eCend; (repeat' split) <;> rfl
    have hgo : k < 6 → f_XG_isDigit (f_XT_here mn q tw tf) ≠ 0 → q ≤ (f_XT_number_L22 mn tp tw tf zl zm n (v * 10 + f_XT_here mn q tw tf - 48) (k + 1) (q + 1)).2.1 ∧ (f_XT_number_L22 mn tp tw tf zl zm n (v * 10 + f_XT_here mn q tw tf - 48) (k + 1) (q + 1)).2.1 ≤ mn := by
      intro hk hd
      have hq : q < mn := by
        by_cases a : q < mn
        · exact a
        · exact absurd (show f_XG_isDigit (f_XT_here mn q tw tf) = 0 by rw [f_XT_here_s, if_neg a, f_XG_isDigit_s, if_pos (by decide)]) hd
      have := ih (v * 10 + f_XT_here mn q tw tf - 48) (k + 1) (q + 1) (by omega) (by omega) (by omega) (by omega)
      omega
    rw [e_L22]
    by_cases a : k < 6
    · rw [if_pos a]
      by_cases b : f_XG_isDigit (f_XT_here mn q tw tf) = 0
      · rw [if_pos b, hend]; omega
      · rw [if_neg b]
        by_cases d : 0 < k
        · rw [if_pos d]
          by_cases x : v = 0
          · rw [if_pos x, hend]; omega
          · rw [if_neg x]; exact hgo a b
        · rw [if_neg d]; exact hgo a b
    · rw [if_neg a, hend]; omega
theorem e_numM (hmn : 0 ≤ mn ∧ mn ≤ 400) (hmp : 0 ≤ mp ∧ mp ≤ mn) (hf : ∀ i, 0 ≤ tf i ∧ tf i ≤ 255) (zl zm : Int) : mp ≤ (f_XT_number mn mp tw tf zl zm).2.1 ∧ (f_XT_number mn mp tw tf zl zm).2.1 ≤ mn := by
  have hb := f_XT_next_b mn mp tw tf hmn hmp (fun i => ⟨(hf i).1, by have := hf i; omega⟩)
  rw [f_XT_number_s]
  generalize f_XT_next mn mp tw tf = q at hb
  obtain ⟨r, p⟩ := q
  dsimp only at hb ⊢
  split
  · rw [f_XT_refuse_s]; dsimp only; omega
  · have := e_numML mn tw tf hmn mp zl zm (Int.toNat (6 - 0) + 1) 0 0 p (by decide) (by decide) (by omega) (by omega)
    omega
end EQ5
/-! how many terms a formula has -/
def ec (b : Int) : Int := if 0 < b then 1 else 0
theorem ec_01 (b : Int) : ec b = 0 ∨ ec b = 1 := by unfold ec; split <;> simp
def ecnt (yd : Int → Int) (zk : Int) : Int := ec (yd (zk * 8 + 0)) + ec (yd (zk * 8 + 1)) + ec (yd (zk * 8 + 2)) + ec (yd (zk * 8 + 3)) + ec (yd (zk * 8 + 4)) + ec (yd (zk * 8 + 5)) + ec (yd (zk * 8 + 6)) + ec (yd (zk * 8 + 7))
theorem ecnt_le (yd : Int → Int) (zk : Int) : 0 ≤ ecnt yd zk ∧ ecnt yd zk ≤ 8 := by
  unfold ecnt
  have h0 := ec_01 (yd (zk * 8 + 0)); have h1 := ec_01 (yd (zk * 8 + 1)); have h2 := ec_01 (yd (zk * 8 + 2)); have h3 := ec_01 (yd (zk * 8 + 3))
  have h4 := ec_01 (yd (zk * 8 + 4)); have h5 := ec_01 (yd (zk * 8 + 5)); have h6 := ec_01 (yd (zk * 8 + 6)); have h7 := ec_01 (yd (zk * 8 + 7))
  omega
theorem ec_set (yd : Int → Int) (zk x d y : Int) (hd : 1 ≤ d) (h : yd (zk * 8 + x) = 0) : ec (jset yd (zk * 8 + x) d (zk * 8 + y)) = ec (yd (zk * 8 + y)) + (if y = x then 1 else 0) := by
  unfold jset ec
  by_cases a : y = x
  · subst a
    rw [if_pos rfl, if_pos (by omega), if_neg (by omega), if_pos rfl]; rfl
  · rw [if_neg (show ¬ zk * 8 + y = zk * 8 + x by omega), if_neg a, Int.add_zero]
theorem ecnt_set (yd : Int → Int) (zk x d : Int) (hx : 0 ≤ x ∧ x ≤ 7) (hd : 1 ≤ d) (h : yd (zk * 8 + x) = 0) : ecnt (jset yd (zk * 8 + x) d) zk = ecnt yd zk + 1 := by
  unfold ecnt
  rw [ec_set yd zk x d 0 hd h, ec_set yd zk x d 1 hd h, ec_set yd zk x d 2 hd h, ec_set yd zk x d 3 hd h, ec_set yd zk x d 4 hd h, ec_set yd zk x d 5 hd h, ec_set yd zk x d 6 hd h, ec_set yd zk x d 7 hd h]
  rcases (show x = 0 ∨ x = 1 ∨ x = 2 ∨ x = 3 ∨ x = 4 ∨ x = 5 ∨ x = 6 ∨ x = 7 by omega) with rfl | rfl | rfl | rfl | rfl | rfl | rfl | rfl <;> simp <;> omega

end
section
/-! the reference's reader beside the class's: formulas -/
def eD (yd w9 : Int → Int) : Prop := ∀ j x, 0 ≤ j → j ≤ 3 → 0 ≤ x → x ≤ 7 → yd (j * 8 + x) = w9 (8 * (4 + j) + x)
theorem eD_set {yd w9 : Int → Int} (h : eD yd w9) (zk x d : Int) (hk : 0 ≤ zk ∧ zk ≤ 3) (hx : 0 ≤ x ∧ x ≤ 7) : eD (jset yd (zk * 8 + x) d) (jset w9 (8 * (4 + zk) + x) d) := by
  intro j y a b c f
  unfold jset
  by_cases q : j = zk ∧ y = x
  · obtain ⟨rfl, rfl⟩ := q
    rw [if_pos rfl, if_pos rfl]
  · rw [if_neg (by omega), if_neg (by omega)]
    exact h j y a b c f
noncomputable def eFend (mth mn mu md mo : Int) (tf y8 : Int → Int) (zk w q : Int) (w9 : Int → Int) : Int × Int × (Int → Int) × (Int → Int) :=
  match f_XM_takeP mth mn q w mu md mo tf 59 with
  | (p, v) => if v < 0 then (p, v, jset y8 (4 + zk) 1, w9) else (p, v, y8, w9)
section EQ6
variable (mth mn mp mw mu md mo : Int) (tf : Int → Int) (mwi : Int) (y8 y9 : Int → Int)
theorem e_L56end (zk : Int) (n : Nat) (mk q w : Int) (w9 : Int → Int) : f_XM_formulaP_L56 mth mn mp mwi mu md mo tf y8 y9 zk (n + 1) mk 0 q w w9 = eFend mth mn mu md mo tf y8 zk w q w9 := by
  rw [f_XM_formulaP_L56_s, if_pos rfl]; rfl
theorem e_FendW (zk w q : Int) (w9 : Int → Int) (hw : 0 ≤ w) : 0 ≤ (eFend mth mn mu md mo tf y8 zk w q w9).2.1 := by
  unfold eFend
  rw [e_takeW mth mn q w mu md mo tf 59 hw]
  dsimp only
  rw [if_neg (by omega)]
  exact hw
theorem e_FendD (zk q : Int) (w9 : Int → Int) (hw : mw < 0) (hq : 0 ≤ q) (h : eDig tf mn q) : 0 ≤ (eFend mth mn mu md mo tf y8 zk mw q w9).2.1 := by
  unfold eFend
  rw [e_digTake mth mn q mw mu md mo tf h hq hw 59 (by omega)]
  dsimp only
  rw [if_neg (by omega)]
  exact hq
set_option maxHeartbeats 1000000 in
theorem e_terms (hw : mw < 0) (hmn : 0 ≤ mn ∧ mn ≤ 400) (hf : ∀ i, 0 ≤ tf i ∧ tf i ≤ 255) (tp tw bg bf : Int) (fd : Int → Int) (zk : Int) (hk : 0 ≤ zk ∧ zk ≤ 3) : ∀ (n m : Nat) (k q w mk : Int) (yd w9 : Int → Int), 9 - k < (n : Int) → mn - q < (m : Int) → 0 ≤ q → q ≤ mn → k = ecnt yd zk → (∀ x, 0 ≤ x → x ≤ 7 → (mbit mk x = 1 ↔ 0 < yd (zk * 8 + x))) → (∀ x, 0 ≤ x → x ≤ 7 → 0 ≤ yd (zk * 8 + x)) → eD yd w9 →
    ∀ C, C = f_XR_terms_L2 mn tp tw tf bg bf fd zk n k q w yd → ∀ M, M = f_XM_formulaP_L56 mth mn mp mwi mu md mo tf y8 y9 zk m mk 1 q mw w9 →
    (C.1 = 1 ∧ 0 ≤ C.2.1 ∧ C.2.1 ≤ mn ∧ q ≤ C.2.1 ∧ (∀ x, 0 ≤ x → x ≤ 7 → 0 ≤ C.2.2.2 (zk * 8 + x)) ∧ (∀ j x, 0 ≤ j → j ≤ 3 → j ≠ zk → 0 ≤ x → x ≤ 7 → C.2.2.2 (j * 8 + x) = yd (j * 8 + x)) ∧ ∃ w9', eD C.2.2.2 w9' ∧ M = eFend mth mn mu md mo tf y8 zk mw C.2.1 w9') ∨ (C.1 = 0 ∧ 0 ≤ M.2.1) := by
  intro n
  induction n with
  | zero => intro m k q w mk yd w9 h1 h2 h3 h4 h5; have := ecnt_le yd zk; omega
  | succ n ih =>
    intro m k q w mk yd w9 h1 h2 h3 h4 h5 h6 h6b h7 C hC M hM
    have hc := ecnt_le yd zk
    cases m with
    | zero => omega
    | succ m =>
    rw [f_XR_terms_L2_s, if_neg (by omega)] at hC
    rw [f_XM_formulaP_L56_s, if_neg (by decide)] at hM
    have eE := e_elem mth mn q mw mu md mo w tf hw hmn ⟨h3, h4⟩ hf mk
    have oM := e_oneM mn q w tf hmn ⟨h3, h4⟩ hf 65 8 (by decide)
    generalize f_XT_takeOneOf mn q w tf 65 8 = c1 at hC eE oM
    obtain ⟨r1, p1, t1⟩ := c1
    generalize f_XM_elementP mth mn q mw mu md mo tf mk = m1 at hM eE
    obtain ⟨s1, q1, v1⟩ := m1
    dsimp only at hC hM eE oM
    rcases eE with ⟨a1, a2⟩ | ⟨a1, a2, a3, ⟨a4, a5⟩ | ⟨a4, a5⟩⟩
    · cases a2
      rw [if_pos a1] at hC
      rw [if_pos (by decide), e_fail _ _ _ _ _ _ _ _ hw, if_neg (by omega)] at hM
      right
      rw [hC, hM]
      exact ⟨rfl, by show 0 ≤ p1; omega⟩
    · cases a5
      have hne : ¬ r1 = -1 := by omega
      have o2 := oM.2.2 hne
      have hz : yd (zk * 8 + r1) = 0 := by
        have i1 := h6b r1 a1 a2
        have i2 : ¬ 0 < yd (zk * 8 + r1) := fun h => a4 ((h6 r1 a1 a2).mpr h)
        omega
      rw [if_neg hne, f_XB_divisorOf_s, if_neg (by omega)] at hC
      rw [if_neg (show ¬ r1 < 0 by omega), if_pos hw, e_takes mth mn p1 mw mu md mo t1 tf 47 hw (by omega)] at hM
      have sk := e_skipM mn p1 t1 tf hmn ⟨by omega, by omega⟩ hf 47 (by decide)
      generalize f_XT_skipIf mn p1 t1 tf 47 = c2 at hC hM sk
      obtain ⟨r8, p2⟩ := c2
      dsimp only at hC hM sk
      have cont : ∀ (d p3 t3 : Int), 1 ≤ d → p1 ≤ p3 → p3 ≤ mn → ∀ C, C = (match f_XT_skipIf mn p3 t3 tf 43 with | (r16, p4) => if r16 = 0 then (1, p4, t3, f_XB_tellTerm bg bf yd zk r1 d) else f_XR_terms_L2 mn tp tw tf bg bf fd zk n (k + 1) p4 t3 (f_XB_tellTerm bg bf yd zk r1 d)) → ∀ M, M = (match f_XM_takesP mth mn p3 mw mu md mo tf 43 with | (r35, p5) => f_XM_formulaP_L56 mth mn mp mwi mu md mo tf y8 y9 zk m (mput mk r1) r35 p5 mw (jset w9 (8 * (4 + zk) + r1) d)) →
          (C.1 = 1 ∧ 0 ≤ C.2.1 ∧ C.2.1 ≤ mn ∧ q ≤ C.2.1 ∧ (∀ x, 0 ≤ x → x ≤ 7 → 0 ≤ C.2.2.2 (zk * 8 + x)) ∧ (∀ j x, 0 ≤ j → j ≤ 3 → j ≠ zk → 0 ≤ x → x ≤ 7 → C.2.2.2 (j * 8 + x) = yd (j * 8 + x)) ∧ ∃ w9', eD C.2.2.2 w9' ∧ M = eFend mth mn mu md mo tf y8 zk mw C.2.1 w9') ∨ (C.1 = 0 ∧ 0 ≤ M.2.1) := by
        intro d p3 t3 hd hp hp2 C hC M hM
        rw [e_takes mth mn p3 mw mu md mo t3 tf 43 hw hp2] at hM
        have sk3 := e_skipM mn p3 t3 tf hmn ⟨by omega, hp2⟩ hf 43 (by decide)
        generalize f_XT_skipIf mn p3 t3 tf 43 = c3 at hC hM sk3
        obtain ⟨r16, p4⟩ := c3
        dsimp only at hC hM sk3
        rw [f_XB_tellTerm_s] at hC
        have hD' := eD_set h7 zk r1 d hk ⟨a1, a2⟩
        have hfar : ∀ j x, 0 ≤ j → j ≤ 3 → j ≠ zk → 0 ≤ x → x ≤ 7 → jset yd (zk * 8 + r1) d (j * 8 + x) = yd (j * 8 + x) := fun j x _ _ hj _ _ => by
          unfold jset; rw [if_neg (by omega)]
        have hnn : ∀ x, 0 ≤ x → x ≤ 7 → 0 ≤ jset yd (zk * 8 + r1) d (zk * 8 + x) := fun x x1 x2 => by
          unfold jset
          have := h6b x x1 x2
          split <;> omega
        rcases sk3.1 with s0 | s0
        · rw [if_pos s0] at hC
          rw [s0] at hM
          cases m with
          | zero => omega
          | succ m =>
            rw [e_L56end] at hM
            left
            rw [hC, hM]
            exact ⟨rfl, by show 0 ≤ p4; omega, by show p4 ≤ mn; omega, by show q ≤ p4; omega, hnn, hfar, _, hD', rfl⟩
        · rw [if_neg (by omega)] at hC
          rw [s0] at hM
          have hn := ih m (k + 1) p4 t3 (mput mk r1) (jset yd (zk * 8 + r1) d) (jset w9 (8 * (4 + zk) + r1) d) (by omega) (by omega) (by omega) (by omega) (by rw [ecnt_set yd zk r1 d ⟨a1, a2⟩ hd hz]; omega) (fun x x1 x2 => by
            rw [mbit_put mk r1 x ⟨a1, a2⟩ ⟨x1, x2⟩]
            unfold jset
            by_cases g : x = r1
            · rw [if_pos g, if_pos (by omega)]; constructor <;> intro <;> first | omega | rfl
            · rw [if_neg g, if_neg (by omega)]; exact h6 x x1 x2) hnn hD' C hC M hM
          rcases hn with ⟨b1, b2, b3, b4, b0, b5, b6⟩ | hn
          · left
            exact ⟨b1, b2, b3, by omega, b0, fun j x j1 j2 j3 x1 x2 => (b5 j x j1 j2 j3 x1 x2).trans (hfar j x j1 j2 j3 x1 x2), b6⟩
          · right; exact hn
      rcases sk.1 with s0 | s0
      · rw [if_pos s0, if_neg (by decide)] at hC
        rw [if_pos s0] at hM
        exact cont 1 p2 t1 (by decide) (by omega) (by omega) C hC M hM
      · rw [if_neg (by omega)] at hC
        rw [if_neg (by omega)] at hM
        have eN := e_number mth mn p2 mw mu md mo t1 tf 1 20 hw (by omega) hmn ⟨by omega, by omega⟩ hf
        have nb := f_XT_number_b mn p2 t1 tf 1 20 hmn ⟨by omega, by omega⟩ (fun i => ⟨(hf i).1, by have := hf i; omega⟩) (by omega) (by omega)
        have nM := e_numM mn p2 t1 tf hmn ⟨by omega, by omega⟩ hf 1 20
        generalize f_XT_number mn p2 t1 tf 1 20 = c4 at hC eN nb nM
        obtain ⟨r22, p3, t3⟩ := c4
        generalize f_XM_numberP mth mn p2 mw mu md mo tf 1 20 = m4 at hM eN
        obtain ⟨s4, q4, v4⟩ := m4
        unfold eNum at eN
        dsimp only at hC hM eN nb nM
        rcases eN with ⟨b1, b2, b3⟩ | ⟨b1, b2⟩
        · cases b2
          rw [if_neg (by omega)] at hC
          exact cont r22 p3 t3 (by omega) (by omega) (by omega) C hC M hM
        · rw [if_pos b1] at hC
          right
          rw [hC]
          refine ⟨rfl, ?_⟩
          cases m with
          | zero => omega
          | succ m =>
          rcases b2 with b2 | ⟨b2, b3, b4⟩
          · rw [e_takesW mth mn q4 v4 mu md mo tf 43 b2] at hM
            dsimp only at hM
            rw [e_L56end] at hM
            rw [hM]
            exact e_FendW mth mn mu md mo tf y8 zk v4 q4 _ b2
          · rw [e_digTakes mth mn q4 v4 mu md mo tf b4 b3 43 (by omega)] at hM
            dsimp only at hM
            rw [e_L56end, b2] at hM
            rw [hM]
            exact e_FendD mth mn mw mu md mo tf y8 zk q4 _ hw b3 b4
    · have hne : ¬ r1 = -1 := by omega
      rw [if_neg hne, f_XB_divisorOf_s, if_pos ((h6 r1 a1 a2).mp a4), f_XT_refuseLast_s] at hC
      right
      rw [hC]
      refine ⟨rfl, ?_⟩
      by_cases g : s1 < 0
      · rw [if_pos g, e_failW _ _ _ _ _ _ _ _ a5, if_neg (by omega)] at hM
        rw [hM]; exact a5
      · rw [if_neg g, if_neg (by omega)] at hM
        rw [hM]; exact a5
end EQ6
end
section
/-! bits of the class's sets -/
theorem q_hasBit0' (k : Int) : f_XG_hasBit 0 k = 0 := by
  have h1 := jand_nn 0 (jpow k)
  have h2 := jand_le (Int.le_refl 0) (jpow k)
  rw [f_XG_hasBit_s, if_pos (by omega)]
theorem hb_and (x i : Nat) : (x &&& 2 ^ i = 0) ↔ x.testBit i = false := by
  constructor
  · intro h
    have h2 := congrArg (fun y => y.testBit i) h
    try dsimp only at h2
    rw [Nat.testBit_and, Nat.testBit_two_pow, Nat.zero_testBit] at h2
    simpa using h2
  · intro h
    apply Nat.eq_of_testBit_eq
    intro j
    rw [Nat.testBit_and, Nat.testBit_two_pow, Nat.zero_testBit]
    by_cases g : i = j
    · subst g; simp [h]
    · simp [g]
theorem hb_eq (a k : Int) (hk : 0 ≤ k) : f_XG_hasBit a k = if a.toNat.testBit k.toNat then 1 else 0 := by
  rw [f_XG_hasBit_s]
  have h1 : jand a (jpow k) = ((a.toNat &&& 2 ^ k.toNat : Nat) : Int) := by
    unfold jand jpow
    rw [Int.toNat_natCast]
  have h2 := hb_and a.toNat k.toNat
  rw [h1]
  by_cases g : a.toNat.testBit k.toNat = true
  · rw [if_pos g, if_neg]
    intro h
    have h3 : a.toNat &&& 2 ^ k.toNat = 0 := by omega
    rw [h2.mp h3] at g
    exact absurd g (by decide)
  · rw [if_neg g, if_pos]
    have h3 := h2.mpr (by simpa using g)
    rw [h3]; rfl
theorem hb_or (a k j : Int) (hk : 0 ≤ k) (hj : 0 ≤ j) : f_XG_hasBit (jor a (jpow k)) j = if j = k then 1 else f_XG_hasBit a j := by
  rw [hb_eq _ j hj, hb_eq a j hj]
  have h1 : (jor a (jpow k)).toNat = a.toNat ||| 2 ^ k.toNat := by
    unfold jor jpow
    rw [Int.toNat_natCast, Int.toNat_natCast]
  rw [h1, Nat.testBit_or, Nat.testBit_two_pow]
  by_cases g : j = k
  · subst g; simp
  · have : ¬ k.toNat = j.toNat := by omega
    simp [g, this]
/-! a formula's row -/
def eFm (bf : Int) (fd y8 y9 : Int → Int) : Prop := (0 ≤ bf ∧ bf < 2147483648) ∧ (∀ k, 0 ≤ k → k ≤ 3 → f_XG_hasBit bf k = y8 (4 + k)) ∧ eD fd y9 ∧ (∀ k x, 0 ≤ k → k ≤ 3 → 0 ≤ x → x ≤ 7 → 0 ≤ fd (k * 8 + x)) ∧ (∀ k x, 0 ≤ k → k ≤ 3 → 0 ≤ x → x ≤ 7 → f_XG_hasBit bf k = 0 → fd (k * 8 + x) = 0)
section EQ7
variable (mth mn mp mw mu md mo : Int) (tf : Int → Int) (y8 y9 : Int → Int)
theorem e_J35W (r p1 w1 : Int) (hw : 0 ≤ w1) : 0 ≤ (f_XM_formulaP_J35 mth mn mp mw mu md mo tf y8 y9 r p1 w1).2.1 := by
  rw [f_XM_formulaP_J35_s, e_takeW mth mn p1 w1 mu md mo tf 61 hw]
  dsimp only
  rw [if_neg (by omega), f_XM_formulaP_J55_s, e_L56end]
  exact e_FendW mth mn mu md mo tf y8 r w1 p1 _ hw
set_option maxHeartbeats 1000000 in
theorem e_formula (hw : mw < 0) (hmn : 0 ≤ mn ∧ mn ≤ 400) (hmp : 0 ≤ mp ∧ mp ≤ mn) (hf : ∀ i, 0 ≤ tf i ∧ tf i ≤ 255) (tw bg bf : Int) (fd : Int → Int) (hF : eFm bf fd y8 y9) :
    ∀ C, C = f_XR_formula mn mp tw tf bg bf fd → ∀ M, M = f_XM_formulaP mth mn mp mw mu md mo tf y8 y9 →
    (C.1 = 1 ∧ (f_XT_take mn C.2.1 C.2.2.1 tf 59).1 = 1 ∧ mp ≤ C.2.1 ∧ C.2.1 ≤ mn ∧ M.1 = (f_XT_take mn C.2.1 C.2.2.1 tf 59).2.1 ∧ M.2.1 = mw ∧ eFm C.2.2.2.2 C.2.2.2.1 M.2.2.1 M.2.2.2) ∨ ((C.1 = 0 ∨ (C.1 = 1 ∧ (f_XT_take mn C.2.1 C.2.2.1 tf 59).1 = 0)) ∧ 0 ≤ M.2.1) := by
  intro C hC M hM
  obtain ⟨f1, f2, f3, f4, f5⟩ := hF
  rw [f_XR_formula_s] at hC
  rw [f_XM_formulaP_s] at hM
  have eK := e_kind mth mn mp mw mu md mo tw tf hw hmn hmp hf
  have oM := e_oneM mn mp tw tf hmn hmp hf 48 4 (by decide)
  generalize f_XT_takeOneOf mn mp tw tf 48 4 = c1 at hC eK oM
  obtain ⟨r, p1, t1⟩ := c1
  generalize f_XM_numberP mth mn mp mw mu md mo tf 0 3 = m1 at hM eK
  obtain ⟨s1, q1, v1⟩ := m1
  dsimp only at hC hM eK oM
  have lostM : 0 ≤ v1 → 0 ≤ M.2.1 := by
    intro h
    rw [if_neg (by omega)] at hM
    rw [hM]
    exact e_J35W mth mn mp mw mu md mo tf y8 y9 s1 q1 v1 h
  rcases eK with ⟨a1, a2⟩ | ⟨a1, a2, a3⟩ | ⟨a1, a2, a3, a4⟩
  · right
    rw [if_pos a1] at hC
    exact ⟨Or.inl (by rw [hC]), lostM a2⟩
  · cases a3
    have hne : ¬ r = -1 := by omega
    have o2 := oM.2.2 hne
    have hr := f2 r a1 a2
    rw [if_neg hne, f_XB_hasFormula_s] at hC
    rw [if_pos hw] at hM
    by_cases g : f_XG_hasBit bf r = 0
    · rw [if_pos g] at hC
      rw [if_pos (by omega), f_XM_formulaP_J35_s] at hM
      have eT := e_take mth mn p1 mw mu md mo t1 tf 61 hw (by omega)
      have tM := e_takeM mn p1 t1 tf hmn ⟨by omega, by omega⟩ hf 61 (by decide)
      generalize f_XT_take mn p1 t1 tf 61 = c2 at hC eT tM
      obtain ⟨r4, p2, t2⟩ := c2
      generalize f_XM_takeP mth mn p1 mw mu md mo tf 61 = m2 at hM eT
      obtain ⟨q2, v2⟩ := m2
      dsimp only at hC hM eT tM
      rcases eT with ⟨b1, b2, b3⟩ | ⟨b1, b3⟩
      · cases b3
        rw [if_neg (by omega)] at hC
        rw [if_pos hw, f_XM_formulaP_J55_s] at hM
        rw [f_XR_terms_s] at hC
        have hz : ∀ x, 0 ≤ x → x ≤ 7 → fd (r * 8 + x) = 0 := fun x x1 x2 => f5 r x a1 a2 x1 x2 g
        have hcnt : (0 : Int) = ecnt fd r := by
          unfold ecnt
          rw [hz 0 (by decide) (by decide), hz 1 (by decide) (by decide), hz 2 (by decide) (by decide), hz 3 (by decide) (by decide), hz 4 (by decide) (by decide), hz 5 (by decide) (by decide), hz 6 (by decide) (by decide), hz 7 (by decide) (by decide)]
          rfl
        have T := e_terms mth mn mp mw mu md mo tf mw y8 y9 hw hmn hf p2 t2 bg (f_XB_tellFormula bg bf r) fd r ⟨a1, a2⟩ (Int.toNat (9 - 0) + 1) (Int.toNat (mn - p2) + 1) 0 p2 t2 0 fd y9 (by decide) (by omega) (by omega) (by omega) hcnt (fun x x1 x2 => by rw [mbit_zero x ⟨x1, x2⟩, hz x x1 x2]; constructor <;> intro h <;> omega) (fun x x1 x2 => by rw [hz x x1 x2]; decide) f3 _ rfl M hM
        generalize f_XR_terms_L2 mn p2 t2 tf bg (f_XB_tellFormula bg bf r) fd r (Int.toNat (9 - 0) + 1) 0 p2 t2 fd = c3 at hC T
        obtain ⟨r11, p3, t3, fd1⟩ := c3
        dsimp only at hC T
        rcases T with ⟨d1, d2, d3, d4, d5, d6, w9', d7, d8⟩ | ⟨d1, d2⟩
        · rw [if_neg (by omega)] at hC
          subst hC
          dsimp only
          unfold eFend at d8
          have eT2 := e_take mth mn p3 mw mu md mo t3 tf 59 hw d3
          rcases eT2 with ⟨g1, g2, g3⟩ | ⟨g1, g3⟩
          · rw [g3] at d8
            dsimp only at d8
            rw [if_pos hw] at d8
            subst d8
            left
            refine ⟨rfl, g1, by omega, d3, rfl, rfl, ?_⟩
            rw [f_XB_tellFormula_s]
            have hbit : ∀ k, 0 ≤ k → k ≤ 3 → f_XG_hasBit (jor bf (jpow r)) k = if k = r then 1 else f_XG_hasBit bf k := fun k k1 _ => hb_or bf r k a1 k1
            refine ⟨⟨jor_nn _ _, jor_lt f1.2 (jpow_lt (by omega))⟩, ?_, d7, ?_, ?_⟩
            · intro k k1 k2
              rw [hbit k k1 k2]
              dsimp only
              unfold jset
              by_cases e1 : k = r
              · rw [if_pos e1, if_pos (by omega)]
              · rw [if_neg e1, if_neg (by omega)]; exact f2 k k1 k2
            · intro k x k1 k2 x1 x2
              by_cases e1 : k = r
              · rw [e1]; exact d5 x x1 x2
              · rw [d6 k x k1 k2 e1 x1 x2]; exact f4 k x k1 k2 x1 x2
            · intro k x k1 k2 x1 x2 h
              rw [hbit k k1 k2] at h
              by_cases e1 : k = r
              · rw [if_pos e1] at h; exact absurd h (by decide)
              · rw [if_neg e1] at h
                rw [d6 k x k1 k2 e1 x1 x2]; exact f5 k x k1 k2 x1 x2 h
          · rw [g3] at d8
            dsimp only at d8
            have tM2 := e_takeM mn p3 t3 tf hmn ⟨d2, d3⟩ hf 59 (by decide)
            rw [if_neg (by omega)] at d8
            right
            exact ⟨Or.inr ⟨rfl, g1⟩, by rw [d8]; dsimp only; omega⟩
        · rw [if_pos d1] at hC
          right
          exact ⟨Or.inl (by rw [hC]), d2⟩
      · cases b3
        rw [if_pos b1] at hC
        right
        refine ⟨Or.inl (by rw [hC]), ?_⟩
        rw [if_neg (by omega), f_XM_formulaP_J55_s, e_L56end] at hM
        rw [hM]
        exact e_FendW mth mn mu md mo tf y8 r p2 p2 _ (by omega)
    · rw [if_neg g, f_XT_refuseLast_s] at hC
      right
      refine ⟨Or.inl (by rw [hC]), ?_⟩
      rw [if_neg (by omega), e_fail _ _ _ _ _ _ _ _ hw] at hM
      rw [hM]
      exact e_J35W mth mn mp mw mu md mo tf y8 y9 r p1 (p1 - 1) (by omega)
  · right
    have hne : ¬ r = -1 := by omega
    have o2 := oM.2.2 hne
    refine ⟨Or.inl ?_, lostM a3⟩
    rw [if_neg hne] at hC
    by_cases g : f_XB_hasFormula bg bf r = 0
    · have g2 := a4.2
      have hT : f_XT_take mn p1 t1 tf 61 = (0, p1, p1) := by
        rw [f_XT_take_s, e_digNext mn p1 t1 tf a4 (by omega)]
        dsimp only
        rw [if_neg (show ¬ tf p1 = 61 by omega), f_XT_refuse_s]
      rw [if_pos g, hT] at hC
      dsimp only at hC
      rw [if_pos rfl] at hC
      rw [hC]
    · rw [if_neg g, f_XT_refuseLast_s] at hC
      rw [hC]
end EQ7
end
section
/-! the reference's reader beside the class's: spans -/
def eSp (yl yh w3 w4 w5 : Int → Int) : Prop := ∀ g x, 1 ≤ g → g ≤ 30 → 0 ≤ x → x ≤ 7 → (yh (g * 8 + x) = -1 ∧ w3 (8 * (31 + g) + x) = 0) ∨ (0 ≤ yh (g * 8 + x) ∧ w3 (8 * (31 + g) + x) = 1 ∧ yl (g * 8 + x) = w4 (8 * (31 + g) + x) ∧ yh (g * 8 + x) = w5 (8 * (31 + g) + x))
theorem eSp_set {yl yh w3 w4 w5 : Int → Int} (h : eSp yl yh w3 w4 w5) (zg x lo hi : Int) (hg : 1 ≤ zg ∧ zg ≤ 30) (hx : 0 ≤ x ∧ x ≤ 7) (hh : 0 ≤ hi) : eSp (jset yl (zg * 8 + x) lo) (jset yh (zg * 8 + x) hi) (jset w3 (8 * (31 + zg) + x) 1) (jset w4 (8 * (31 + zg) + x) lo) (jset w5 (8 * (31 + zg) + x) hi) := by
  intro j y a b c f
  unfold jset
  by_cases q : j = zg ∧ y = x
  · obtain ⟨rfl, rfl⟩ := q
    right
    simp only [↓reduceIte]
    refine ⟨hh, ?_, ?_, ?_⟩ <;> first | rfl | trivial
  · rw [if_neg (show ¬ j * 8 + y = zg * 8 + x by omega), if_neg (show ¬ j * 8 + y = zg * 8 + x by omega), if_neg (show ¬ 8 * (31 + j) + y = 8 * (31 + zg) + x by omega), if_neg (show ¬ 8 * (31 + j) + y = 8 * (31 + zg) + x by omega), if_neg (show ¬ 8 * (31 + j) + y = 8 * (31 + zg) + x by omega)]
    exact h j y a b c f
def es (b : Int) : Int := if b = -1 then 0 else 1
theorem es_01 (b : Int) : es b = 0 ∨ es b = 1 := by unfold es; split <;> simp
def escnt (yh : Int → Int) (zg : Int) : Int := es (yh (zg * 8 + 0)) + es (yh (zg * 8 + 1)) + es (yh (zg * 8 + 2)) + es (yh (zg * 8 + 3)) + es (yh (zg * 8 + 4)) + es (yh (zg * 8 + 5)) + es (yh (zg * 8 + 6)) + es (yh (zg * 8 + 7))
theorem escnt_le (yh : Int → Int) (zg : Int) : 0 ≤ escnt yh zg ∧ escnt yh zg ≤ 8 := by
  unfold escnt
  have h0 := es_01 (yh (zg * 8 + 0)); have h1 := es_01 (yh (zg * 8 + 1)); have h2 := es_01 (yh (zg * 8 + 2)); have h3 := es_01 (yh (zg * 8 + 3))
  have h4 := es_01 (yh (zg * 8 + 4)); have h5 := es_01 (yh (zg * 8 + 5)); have h6 := es_01 (yh (zg * 8 + 6)); have h7 := es_01 (yh (zg * 8 + 7))
  omega
theorem es_set (yh : Int → Int) (zg x d y : Int) (hd : 0 ≤ d) (h : yh (zg * 8 + x) = -1) : es (jset yh (zg * 8 + x) d (zg * 8 + y)) = es (yh (zg * 8 + y)) + (if y = x then 1 else 0) := by
  unfold jset es
  by_cases a : y = x
  · subst a
    rw [if_pos rfl, if_neg (show ¬ d = -1 by omega), if_pos h, if_pos rfl]; rfl
  · rw [if_neg (show ¬ zg * 8 + y = zg * 8 + x by omega), if_neg a, Int.add_zero]
theorem escnt_set (yh : Int → Int) (zg x d : Int) (hx : 0 ≤ x ∧ x ≤ 7) (hd : 0 ≤ d) (h : yh (zg * 8 + x) = -1) : escnt (jset yh (zg * 8 + x) d) zg = escnt yh zg + 1 := by
  unfold escnt
  rw [es_set yh zg x d 0 hd h, es_set yh zg x d 1 hd h, es_set yh zg x d 2 hd h, es_set yh zg x d 3 hd h, es_set yh zg x d 4 hd h, es_set yh zg x d 5 hd h, es_set yh zg x d 6 hd h, es_set yh zg x d 7 hd h]
  rcases (show x = 0 ∨ x = 1 ∨ x = 2 ∨ x = 3 ∨ x = 4 ∨ x = 5 ∨ x = 6 ∨ x = 7 by omega) with rfl | rfl | rfl | rfl | rfl | rfl | rfl | rfl <;> simp <;> omega
/-- the reference is lost: it has gone wrong, or stands before a digit that nothing takes -/
def eLost (tf : Int → Int) (mn mw p v : Int) : Prop := 0 ≤ v ∨ (v = mw ∧ 0 ≤ p ∧ eDig tf mn p)
section EQ8
variable (mth mn mp mw mu md mo : Int) (tf : Int → Int) (mwi : Int) (y3 y4 y5 : Int → Int)
theorem e_numW (z1 z2 : Int) (p w : Int) (hw : 0 ≤ w) : f_XM_numberP mth mn p w mu md mo tf z1 z2 = (z1, p, w) := by rw [f_XM_numberP_s, if_neg (by omega)]
theorem e_elemW (mks p w : Int) (hw : 0 ≤ w) : f_XM_elementP mth mn p w mu md mo tf mks = (-1, p, w) := by rw [f_XM_elementP_s, if_neg (by omega)]
theorem e_L8end (z1 : Int) (n : Nat) (mks e9 k w : Int) (w3 w4 w5 : Int → Int) (h : e9 < 0 ∨ 0 ≤ w) : f_XM_spansP_L8 mth mn mp mwi mu md mo tf y3 y4 y5 z1 (n + 1) mks e9 k w w3 w4 w5 = (k, w, w3, w4, w5) := by
  rw [f_XM_spansP_L8_s]
  by_cases a : e9 < 0
  · rw [if_pos a]
  · rw [if_neg a, if_neg (by omega)]
theorem e_L8neg (z1 : Int) (n : Nat) (mks k w : Int) (w3 w4 w5 : Int → Int) : f_XM_spansP_L8 mth mn mp mwi mu md mo tf y3 y4 y5 z1 (n + 1) mks (-1) k w w3 w4 w5 = (k, w, w3, w4, w5) := e_L8end _ _ _ _ _ _ _ _ _ _ _ _ _ _ _ _ _ _ _ _ (Or.inl (by decide))
set_option maxHeartbeats 1000000 in
theorem e_spans (hw : mw < 0) (hmn : 0 ≤ mn ∧ mn ≤ 400) (hf : ∀ i, 0 ≤ tf i ∧ tf i ≤ 255) (tp tw bg bf : Int) (fl fh : Int → Int) (zg : Int) (hg : 1 ≤ zg ∧ zg ≤ 30) : ∀ (n m : Nat) (k q w mks : Int) (yl yh w3 w4 w5 : Int → Int), 9 - k < (n : Int) → mn - q + 1 < (m : Int) → 0 ≤ q → q ≤ mn → k = escnt yh zg → (∀ x, 0 ≤ x → x ≤ 7 → (mbit mks x = 1 ↔ yh (zg * 8 + x) ≠ -1)) → eSp yl yh w3 w4 w5 →
    ∀ C, C = f_XR_spans_L2 mn tp tw tf bg bf fl fh zg n k q w yl yh → ∀ M, M = (match f_XM_elementP mth mn q mw mu md mo tf mks with | (s, q1, v1) => f_XM_spansP_L8 mth mn mp mwi mu md mo tf y3 y4 y5 (31 + zg) m mks s q1 v1 w3 w4 w5) →
    (C.1 = 1 ∧ q ≤ C.2.1 ∧ C.2.1 ≤ mn ∧ M.1 = C.2.1 ∧ M.2.1 = mw ∧ eSp C.2.2.2.1 C.2.2.2.2 M.2.2.1 M.2.2.2.1 M.2.2.2.2 ∧ (∀ g x, 1 ≤ g → g ≤ 30 → g ≠ zg → 0 ≤ x → x ≤ 7 → C.2.2.2.2 (g * 8 + x) = yh (g * 8 + x))) ∨ (C.1 = 0 ∧ eLost tf mn mw M.1 M.2.1) := by
  intro n
  induction n with
  | zero => intro m k q w mks yl yh w3 w4 w5 h1 h2 h3 h4 h5; have := escnt_le yh zg; omega
  | succ n ih =>
    intro m k q w mks yl yh w3 w4 w5 h1 h2 h3 h4 h5 h6 h7 C hC M hM
    have hc := escnt_le yh zg
    cases m with
    | zero => omega
    | succ m =>
    cases m with
    | zero => omega
    | succ m =>
    rw [f_XR_spans_L2_s, if_neg (show ¬ 8 < k by omega)] at hC
    have hb := f_XT_next_b mn q w tf hmn ⟨h3, h4⟩ (fun i => ⟨(hf i).1, by have := hf i; omega⟩)
    have hv := e_nextv mn q w tf hmn ⟨h3, h4⟩
    have eE := e_elem mth mn q mw mu md mo w tf hw hmn ⟨h3, h4⟩ hf mks
    have hO := f_XT_takeOneOf_s mn q w tf 65 8
    have hI := e_nextI mn q w tf hmn ⟨h3, h4⟩
    generalize f_XT_next mn q w tf = c0 at hC hb hv hO hI
    obtain ⟨r, p0⟩ := c0
    dsimp only at hC hb hv hO hI
    have hEl := f_XG_isElement_01 r (by omega)
    by_cases g0 : f_XG_isElement r = 0
    · rw [if_pos g0] at hC
      have hO1 : f_XT_takeOneOf mn q w tf 65 8 = (-1, p0, p0) := by
        rw [hO]
        simp only [f_XT_refuse_s]
        by_cases a : r - 65 < 0
        · rw [if_pos a]
        · rw [if_neg a, if_neg (show ¬ r - 65 < 8 by omega)]
      rw [hO1] at eE
      dsimp only at eE
      rcases eE with ⟨a1, a2⟩ | ⟨a1, a2, a3, a4⟩
      · rw [a2] at hM
        dsimp only at hM
        rw [e_L8neg] at hM
        left
        rw [hC, hM]
        exact ⟨rfl, by dsimp only; omega, by dsimp only; omega, rfl, rfl, h7, fun _ _ _ _ _ _ _ => rfl⟩
      · omega
    · rw [if_neg g0] at hC
      have hO1 : f_XT_takeOneOf mn q w tf 65 8 = (r - 65, p0 + 1, w) := by
        rw [hO, if_neg (show ¬ r - 65 < 0 by omega), if_pos (show r - 65 < 8 by omega)]
      have hO2 : f_XT_takeOneOf mn p0 w tf 65 8 = (r - 65, p0 + 1, w) := by
        rw [f_XT_takeOneOf_s, hI]
        dsimp only
        rw [if_neg (show ¬ r - 65 < 0 by omega), if_pos (show r - 65 < 8 by omega)]
      rw [hO2] at hC
      rw [hO1] at eE
      dsimp only at hC eE
      rw [if_neg (show ¬ r - 65 = -1 by omega), f_XB_tellsSpan_s] at hC
      have hb2 := h6 (r - 65) (by omega) (by omega)
      have hp0 : p0 < mn := hb.2.2.2.2 (by omega)
      rcases eE with ⟨a1, a2⟩ | ⟨a1, a2, a3, ⟨a4, a5⟩ | ⟨a4, a5⟩⟩
      · omega
      · have hz : yh (zg * 8 + (r - 65)) = -1 := by
          by_cases i1 : yh (zg * 8 + (r - 65)) = -1
          · exact i1
          · exact absurd (hb2.mpr i1) a4
        rw [if_pos hz, if_pos rfl] at hC
        rw [a5] at hM
        dsimp only at hM
        rw [f_XM_spansP_L8_s, if_neg (show ¬ r - 65 < 0 by omega), if_pos hw] at hM
        -- the first number
        have eN := e_number mth mn (p0 + 1) mw mu md mo w tf 0 100000 hw (by omega) hmn ⟨by omega, by omega⟩ hf
        have nb := f_XT_number_b mn (p0 + 1) w tf 0 100000 hmn ⟨by omega, by omega⟩ (fun i => ⟨(hf i).1, by have := hf i; omega⟩) (by omega) (by omega)
        have nM := e_numM mn (p0 + 1) w tf hmn ⟨by omega, by omega⟩ hf 0 100000
        generalize f_XT_number mn (p0 + 1) w tf 0 100000 = c4 at hC eN nb nM
        obtain ⟨lo, p1, t1⟩ := c4
        generalize f_XM_numberP mth mn (p0 + 1) mw mu md mo tf 0 100000 = m4 at hM eN
        obtain ⟨s4, q4, v4⟩ := m4
        unfold eNum at eN
        dsimp only at hC hM eN nb nM
        have jat : jset w4 (8 * (31 + zg) + (r - 65)) s4 (8 * (31 + zg) + (r - 65)) = s4 := by unfold jset; rw [if_pos rfl]
        rw [jat] at hM
        have lostW : ∀ (p v : Int) (s5 : Int), 0 ≤ v → M = (match f_XM_numberP mth mn p v mu md mo tf s5 100000 with | (r24, p24, w24) => match f_XM_elementP mth mn p24 w24 mu md mo tf (mput mks (r - 65)) with | (r34, p34, w34) => f_XM_spansP_L8 mth mn mp mwi mu md mo tf y3 y4 y5 (31 + zg) (m + 1) (mput mks (r - 65)) r34 p34 w34 (jset w3 (8 * (31 + zg) + (r - 65)) 1) (jset w4 (8 * (31 + zg) + (r - 65)) s4) (jset w5 (8 * (31 + zg) + (r - 65)) r24)) → eLost tf mn mw M.1 M.2.1 := by
          intro p v s5 hv9 h9
          rw [e_numW mth mn mu md mo tf s5 100000 p v hv9] at h9
          dsimp only at h9
          rw [e_elemW mth mn mu md mo tf _ p v hv9] at h9
          dsimp only at h9
          rw [e_L8neg] at h9
          rw [h9]
          exact Or.inl hv9
        rcases eN with ⟨b1, b2, b3⟩ | ⟨b1, b2⟩
        · cases b2
          rw [if_neg (show ¬ lo = -1 by omega)] at hC
          have eT := e_take mth mn p1 mw mu md mo t1 tf 45 hw (by omega)
          have tM := e_takeM mn p1 t1 tf hmn ⟨by omega, by omega⟩ hf 45 (by decide)
          generalize f_XT_take mn p1 t1 tf 45 = c5 at hC eT tM
          obtain ⟨r5, p2, t2⟩ := c5
          generalize f_XM_takeP mth mn p1 mw mu md mo tf 45 = m5 at hM eT
          obtain ⟨q5, v5⟩ := m5
          dsimp only at hC hM eT tM
          rcases eT with ⟨d1, d2, d3⟩ | ⟨d1, d3⟩
          · cases d3
            rw [if_neg (show ¬ r5 = 0 by omega)] at hC
            have eN2 := e_number mth mn p2 mw mu md mo t2 tf lo 100000 hw (by omega) hmn ⟨by omega, by omega⟩ hf
            have nb2 := f_XT_number_b mn p2 t2 tf lo 100000 hmn ⟨by omega, by omega⟩ (fun i => ⟨(hf i).1, by have := hf i; omega⟩) (by omega) (by omega)
            have nM2 := e_numM mn p2 t2 tf hmn ⟨by omega, by omega⟩ hf lo 100000
            generalize f_XT_number mn p2 t2 tf lo 100000 = c6 at hC eN2 nb2 nM2
            obtain ⟨hi, p3, t3⟩ := c6
            generalize f_XM_numberP mth mn p2 mw mu md mo tf lo 100000 = m6 at hM eN2
            obtain ⟨s6, q6, v6⟩ := m6
            unfold eNum at eN2
            dsimp only at hC hM eN2 nb2 nM2
            rcases eN2 with ⟨f1, f2, f3⟩ | ⟨f1, f2⟩
            · cases f2
              rw [if_neg (show ¬ hi = -1 by omega), f_XB_tellSpan_s] at hC
              dsimp only at hC
              have hn := ih (m + 1) (k + 1) p3 t3 (mput mks (r - 65)) (jset yl (zg * 8 + (r - 65)) lo) (jset yh (zg * 8 + (r - 65)) hi) (jset w3 (8 * (31 + zg) + (r - 65)) 1) (jset w4 (8 * (31 + zg) + (r - 65)) lo) (jset w5 (8 * (31 + zg) + (r - 65)) hi) (by omega) (by omega) (by omega) (by omega) (by rw [escnt_set yh zg (r - 65) hi ⟨by omega, by omega⟩ (by omega) hz]; omega) (fun x x1 x2 => by
                rw [mbit_put mks (r - 65) x ⟨by omega, by omega⟩ ⟨x1, x2⟩]
                unfold jset
                by_cases g : x = r - 65
                · rw [if_pos g, if_pos (show zg * 8 + x = zg * 8 + (r - 65) by omega)]; constructor <;> intro <;> first | omega | rfl
                · rw [if_neg g, if_neg (show ¬ zg * 8 + x = zg * 8 + (r - 65) by omega)]; exact h6 x x1 x2) (eSp_set h7 zg (r - 65) lo hi hg ⟨by omega, by omega⟩ (by omega)) C hC M hM
              rcases hn with ⟨i1, i2, i3, i4, i5, i6, i7⟩ | hn
              · left
                refine ⟨i1, by omega, i3, i4, i5, i6, fun g x g1 g2 g3 x1 x2 => ?_⟩
                rw [i7 g x g1 g2 g3 x1 x2]
                unfold jset
                rw [if_neg (show ¬ g * 8 + x = zg * 8 + (r - 65) by omega)]
              · right; exact hn
            · rw [if_pos f1] at hC
              right
              refine ⟨by rw [hC], ?_⟩
              rcases f2 with f2 | ⟨f2, f3, f4⟩
              · rw [e_elemW mth mn mu md mo tf _ q6 v6 f2] at hM
                dsimp only at hM
                rw [e_L8neg] at hM
                rw [hM]
                exact Or.inl f2
              · rw [e_digElem mth mn q6 v6 mu md mo tf f4 f3] at hM
                dsimp only at hM
                rw [e_L8neg] at hM
                rw [hM]
                exact Or.inr ⟨f2, f3, f4⟩
          · cases d3
            rw [if_pos d1] at hC
            right
            exact ⟨by rw [hC], lostW p2 p2 lo (by omega) hM⟩
        · rw [if_pos b1] at hC
          right
          refine ⟨by rw [hC], ?_⟩
          rcases b2 with b2 | ⟨b2, b3, b4⟩
          · rw [e_takeW mth mn q4 v4 mu md mo tf 45 b2] at hM
            dsimp only at hM
            exact lostW q4 v4 s4 b2 hM
          · rw [e_digTake mth mn q4 v4 mu md mo tf b4 b3 (by omega) 45 (by omega)] at hM
            dsimp only at hM
            exact lostW q4 q4 s4 b3 hM
      · rw [if_neg (hb2.mp a4), if_neg (show ¬ (1 : Int) = 0 by decide), f_XT_refuseLast_s] at hC
        right
        refine ⟨by rw [hC], ?_⟩
        generalize f_XM_elementP mth mn q mw mu md mo tf mks = m1 at hM a5
        obtain ⟨s1, q1, v1⟩ := m1
        dsimp only at hM a5
        rw [e_L8end (h := Or.inr a5)] at hM
        rw [hM]
        exact Or.inl a5
end EQ8
end
section
/-! the reference's reader beside the class's: routes -/
theorem mput_or (a d : Int) (ha : 0 ≤ a ∧ a < 2147483648) (hd : 0 ≤ d ∧ d ≤ 7) : mput a d = jor a (jpow d) := by
  unfold mput
  have h1 := jor_nn a (jpow d)
  have h2 := jor_lt ha.2 (jpow_lt (show d < 31 by omega))
  have h3 := jpow_pos d
  rw [jI_shl1 hd.1 (by omega), jI_ti, jI_or ha.1 (by omega)]
  exact jI_toInt (by omega)
section EQ9
variable (mth mn mp mw mu md mo : Int) (tf : Int → Int) (mwi : Int)
theorem e_nextTw (q t1 t2 : Int) (h : q ≤ mn) : f_XT_next mn q t1 tf = f_XT_next mn q t2 tf := (e_see 0 mn q 0 0 0 0 t1 tf h).symm.trans (e_see 0 mn q 0 0 0 0 t2 tf h)
theorem e_L9zero (n : Nat) (bt la k9 p w : Int) : f_XM_routeRowP_L9 mth mn mp mwi mu md mo tf (n + 1) bt la k9 0 p w = (bt, p, w) := by rw [f_XM_routeRowP_L9_s, if_pos rfl]
set_option maxHeartbeats 1000000 in
theorem e_routesL (hw : mw < 0) (hmn : 0 ≤ mn ∧ mn ≤ 400) (hf : ∀ i, 0 ≤ tf i ∧ tf i ≤ 255) (tp tw bg bf : Int) (fr : Int → Int) (zg : Int) : ∀ (n m : Nat) (k v q w p mo9 : Int) (yr : Int → Int), 4 - k < (n : Int) → mn - p < (m : Int) → 0 ≤ k → k ≤ 4 → 0 ≤ q → q ≤ mn → 0 ≤ p → p ≤ mn → -1 ≤ v → v ≤ 7 → (k = 0 → v = -1) → (0 ≤ yr zg ∧ yr zg < 2147483648) → f_XT_next mn p w tf = f_XT_next mn q w tf → ((k = 0 ∧ mo9 = 1) ∨ (0 < k ∧ p = (f_XT_next mn q w tf).2 ∧ mo9 = f_XM_isDigit mth mn p mw mu md mo tf)) →
    ∀ C, C = f_XR_routes_L19 mn tp tw tf bg bf fr zg n k v q w yr → ∀ M, M = f_XM_routeRowP_L9 mth mn mp mwi mu md mo tf m (yr zg) v k mo9 p mw →
    (C.1 = 1 ∧ q ≤ C.2.1 ∧ C.2.1 ≤ mn ∧ 0 ≤ M.2.1 ∧ M.2.1 ≤ mn ∧ (∀ g, g ≠ zg → C.2.2.2 g = yr g) ∧ (0 ≤ C.2.2.2 zg ∧ C.2.2.2 zg < 2147483648) ∧ ((M.2.2 = mw ∧ f_XT_next mn M.2.1 0 tf = f_XT_next mn C.2.1 0 tf ∧ M.1 = C.2.2.2 zg) ∨ (0 ≤ M.2.2 ∧ eDig tf mn (f_XT_next mn C.2.1 0 tf).2))) ∨ (C.1 = 0 ∧ 0 ≤ M.2.2) := by
  intro n
  induction n with
  | zero => intro m k v q w p mo9 yr h1 h2 h3 h4; omega
  | succ n ih =>
    intro m k v q w p mo9 yr h1 h2 h3 h4 h5 h6 h7 h8 h9 h10 h11 h12 h13 h14 C hC M hM
    cases m with
    | zero => omega
    | succ m =>
    have hb := f_XT_next_b mn q w tf hmn ⟨h5, h6⟩ (fun i => ⟨(hf i).1, by have := hf i; omega⟩)
    have hbp := f_XT_next_b mn p w tf hmn ⟨h7, h8⟩ (fun i => ⟨(hf i).1, by have := hf i; omega⟩)
    have hv := e_nextv mn q w tf hmn ⟨h5, h6⟩
    have hI := e_nextI mn q w tf hmn ⟨h5, h6⟩
    have hTw := e_nextTw mn tf q w 0 h6
    have hTp := e_nextTw mn tf p w 0 h8
    have hO := f_XT_takeOneOf_s mn q w tf 48 8
    have hsee := e_see mth mn p mw mu md mo w tf h8
    rw [h13] at hsee hbp hTp
    rw [f_XR_routes_L19_s] at hC
    generalize hnx : f_XT_next mn q w tf = c0 at hC hb hbp hv hI hO hsee h14 hTw hTp h13
    obtain ⟨r, p0⟩ := c0
    dsimp only at hC hb hbp hv hI hO hsee h14 hTw hTp
    have hd := e_isDigit mth mn p0 mw mu md mo w tf hmn (by omega) hf
    rw [hv] at hd
    have hx := (e_here mth mn p0 mw mu md mo w tf).trans hv
    have hdr := f_XG_isDigit_01 r (by omega)
    have hi := f_XM_in_b (r - 48) 0 7 (by omega) (by decide) (by decide)
    -- what the reference does with a sign that it looks at
    have mgo : mo9 ≠ 0 → M = (if f_XM_in (r - 48) 0 7 = 0 then (yr zg, p0, p0) else if v < r - 48 then (if k = 4 then (yr zg, p0, p0) else (match f_XM_seeP mth mn (p0 + 1) mw mu md mo tf with | (r35, p36) => f_XM_routeRowP_L9 mth mn mp mwi mu md mo tf m (mput (yr zg) (r - 48)) (r - 48) (k + 1) (f_XM_isDigit mth mn p36 mw mu md mo tf) p36 mw)) else (yr zg, p0, p0)) := by
      intro h0
      rw [f_XM_routeRowP_L9_s, if_neg h0, if_pos hw, hsee] at hM
      dsimp only at hM
      rw [hx, e_fail _ _ _ _ _ _ _ _ hw, if_neg (show ¬ p0 < 0 by omega), if_pos hw] at hM
      exact hM
    -- one more route, taken by both
    have more : mo9 ≠ 0 → 0 ≤ r - 48 → r - 48 < 8 → v < r - 48 → k < 4 → ∀ C, C = f_XR_routes_L19 mn tp tw tf bg bf fr zg n (k + 1) (r - 48) (p0 + 1) w (f_XB_tellRoute bg bf yr zg (r - 48)) →
        (C.1 = 1 ∧ q ≤ C.2.1 ∧ C.2.1 ≤ mn ∧ 0 ≤ M.2.1 ∧ M.2.1 ≤ mn ∧ (∀ g, g ≠ zg → C.2.2.2 g = yr g) ∧ (0 ≤ C.2.2.2 zg ∧ C.2.2.2 zg < 2147483648) ∧ ((M.2.2 = mw ∧ f_XT_next mn M.2.1 0 tf = f_XT_next mn C.2.1 0 tf ∧ M.1 = C.2.2.2 zg) ∨ (0 ≤ M.2.2 ∧ eDig tf mn (f_XT_next mn C.2.1 0 tf).2))) ∨ (C.1 = 0 ∧ 0 ≤ M.2.2) := by
      intro h0 i1 i2 i3 i4 C hC
      have hM2 := mgo h0
      have hp1 : p0 + 1 ≤ mn := by omega
      rw [if_neg (show ¬ f_XM_in (r - 48) 0 7 = 0 by omega), if_pos i3, if_neg (show ¬ k = 4 by omega), e_see mth mn (p0 + 1) mw mu md mo w tf hp1] at hM2
      have hb2 := f_XT_next_b mn (p0 + 1) w tf hmn ⟨by omega, hp1⟩ (fun i => ⟨(hf i).1, by have := hf i; omega⟩)
      have hI2 := e_nextI mn (p0 + 1) w tf hmn ⟨by omega, hp1⟩
      generalize hn2 : f_XT_next mn (p0 + 1) w tf = c1 at hM2 hb2 hI2
      obtain ⟨r1, p1⟩ := c1
      dsimp only at hM2 hb2 hI2
      rw [f_XB_tellRoute_s] at hC
      have hat : jset yr zg (jor (yr zg) (jpow (r - 48))) zg = jor (yr zg) (jpow (r - 48)) := by unfold jset; rw [if_pos rfl]
      rw [mput_or (yr zg) (r - 48) h12 ⟨i1, by omega⟩, ← hat] at hM2
      have hn := ih m (k + 1) (r - 48) (p0 + 1) w p1 (f_XM_isDigit mth mn p1 mw mu md mo tf) (jset yr zg (jor (yr zg) (jpow (r - 48)))) (by omega) (by omega) (by omega) (by omega) (by omega) hp1 (by omega) (by omega) (by omega) (by omega) (fun h => by omega) (by rw [hat]; exact ⟨jor_nn _ _, jor_lt h12.2 (jpow_lt (by omega))⟩) (by rw [hn2]; exact hI2) (Or.inr ⟨by omega, by rw [hn2], rfl⟩) C hC M hM2
      rcases hn with ⟨j1, j2, j3, j4, j5, j6, j7, j8⟩ | hn
      · left
        refine ⟨j1, by omega, j3, j4, j5, fun g hg => ?_, j7, j8⟩
        rw [j6 g hg]
        unfold jset
        rw [if_neg hg]
      · right; exact hn
    by_cases k4 : k < 4
    · rw [if_pos k4] at hC
      by_cases k0 : 0 < k
      · rw [if_pos k0] at hC
        rcases h14 with h14 | ⟨g1, g2, g3⟩
        · omega
        · subst g2
          by_cases dg : f_XG_isDigit r = 0
          · rw [if_pos dg] at hC
            have m0 : mo9 = 0 := by omega
            rw [m0, e_L9zero] at hM
            left
            rw [hC, hM]
            refine ⟨rfl, by dsimp only; omega, by dsimp only; omega, by dsimp only; omega, by dsimp only; omega, fun _ _ => rfl, h12, Or.inl ⟨rfl, rfl, rfl⟩⟩
          · rw [if_neg dg, f_XT_takeOneOf_s, hI] at hC
            simp only [f_XT_refuse_s] at hC
            have m0 : mo9 ≠ 0 := by omega
            rw [if_neg (show ¬ r - 48 < 0 by omega)] at hC
            by_cases d8 : r - 48 < 8
            · rw [if_pos d8] at hC
              dsimp only at hC
              rw [if_neg (show ¬ r - 48 = -1 by omega)] at hC
              by_cases dv : v < r - 48
              · rw [if_pos dv] at hC
                exact more m0 (by omega) d8 dv k4 C hC
              · rw [if_neg dv, f_XT_refuseLast_s] at hC
                have hM2 := mgo m0
                rw [if_neg (show ¬ f_XM_in (r - 48) 0 7 = 0 by omega), if_neg dv] at hM2
                right
                rw [hC, hM2]
                exact ⟨rfl, by dsimp only; omega⟩
            · rw [if_neg d8] at hC
              dsimp only at hC
              rw [if_pos rfl] at hC
              have hM2 := mgo m0
              rw [if_pos (show f_XM_in (r - 48) 0 7 = 0 by omega)] at hM2
              right
              rw [hC, hM2]
              exact ⟨rfl, by dsimp only; omega⟩
      · rw [if_neg k0, hO] at hC
        simp only [f_XT_refuse_s] at hC
        have m0 : mo9 ≠ 0 := by rcases h14 with ⟨g1, g2⟩ | ⟨g1, g2⟩ <;> omega
        by_cases d0 : r - 48 < 0
        · rw [if_pos d0] at hC
          dsimp only at hC
          rw [if_pos rfl] at hC
          have hM2 := mgo m0
          rw [if_pos (show f_XM_in (r - 48) 0 7 = 0 by omega)] at hM2
          right
          rw [hC, hM2]
          exact ⟨rfl, by dsimp only; omega⟩
        · rw [if_neg d0] at hC
          by_cases d8 : r - 48 < 8
          · rw [if_pos d8] at hC
            dsimp only at hC
            rw [if_neg (show ¬ r - 48 = -1 by omega), if_pos (show v < r - 48 by omega)] at hC
            exact more m0 (by omega) d8 (by omega) k4 C hC
          · rw [if_neg d8] at hC
            dsimp only at hC
            rw [if_pos rfl] at hC
            have hM2 := mgo m0
            rw [if_pos (show f_XM_in (r - 48) 0 7 = 0 by omega)] at hM2
            right
            rw [hC, hM2]
            exact ⟨rfl, by dsimp only; omega⟩
    · rw [if_neg k4] at hC
      left
      rcases h14 with h14 | ⟨g1, g2, g3⟩
      · omega
      · by_cases m0 : mo9 = 0
        · rw [m0, e_L9zero] at hM
          rw [hC, hM]
          refine ⟨rfl, by dsimp only; omega, by dsimp only; omega, by dsimp only; omega, by dsimp only; omega, fun _ _ => rfl, h12, Or.inl ⟨rfl, ?_, rfl⟩⟩
          dsimp only
          rw [← hTp, ← hTw]
        · have hM2 := mgo m0
          have hM3 : M = (yr zg, p0, p0) := by
            rw [hM2]
            by_cases a : f_XM_in (r - 48) 0 7 = 0
            · rw [if_pos a]
            · rw [if_neg a]
              by_cases a2 : v < r - 48
              · rw [if_pos a2, if_pos (show k = 4 by omega)]
              · rw [if_neg a2]
          rw [hC, hM3]
          refine ⟨rfl, by dsimp only; omega, by dsimp only; omega, by dsimp only; omega, by dsimp only; omega, fun _ _ => rfl, h12, Or.inr ⟨by dsimp only; omega, ?_⟩⟩
          dsimp only
          rw [← hTw]
          dsimp only
          rcases hd with ⟨d1, d2, d3⟩ | ⟨d1, d2, d3⟩
          · exact d3
          · exact absurd (g3.trans (by rw [g2]; exact d1)) m0
end EQ9
end
section
/-! the reference's reader beside the class's: limits -/
def eQl (yq w7 : Int → Int) : Prop := ∀ g k, 1 ≤ g → g ≤ 30 → 0 ≤ k → k ≤ 3 → yq (g * 4 + k) = w7 (4 * (31 + g) + k)
theorem eQl_set {yq w7 : Int → Int} (h : eQl yq w7) (zg x d : Int) (hg : 1 ≤ zg ∧ zg ≤ 30) (hx : 0 ≤ x ∧ x ≤ 3) : eQl (jset yq (zg * 4 + x) d) (jset w7 (4 * (31 + zg) + x) d) := by
  intro j y a b c f
  unfold jset
  by_cases q : j = zg ∧ y = x
  · obtain ⟨rfl, rfl⟩ := q
    rw [if_pos rfl, if_pos rfl]
  · rw [if_neg (show ¬ j * 4 + y = zg * 4 + x by omega), if_neg (show ¬ 4 * (31 + j) + y = 4 * (31 + zg) + x by omega)]
    exact h j y a b c f
def eqcnt (yq : Int → Int) (zg : Int) : Int := es (yq (zg * 4 + 0)) + es (yq (zg * 4 + 1)) + es (yq (zg * 4 + 2)) + es (yq (zg * 4 + 3))
theorem eqcnt_le (yq : Int → Int) (zg : Int) : 0 ≤ eqcnt yq zg ∧ eqcnt yq zg ≤ 4 := by
  unfold eqcnt
  have h0 := es_01 (yq (zg * 4 + 0)); have h1 := es_01 (yq (zg * 4 + 1)); have h2 := es_01 (yq (zg * 4 + 2)); have h3 := es_01 (yq (zg * 4 + 3))
  omega
theorem esq_set (yq : Int → Int) (zg x d y : Int) (hd : 0 ≤ d) (h : yq (zg * 4 + x) = -1) : es (jset yq (zg * 4 + x) d (zg * 4 + y)) = es (yq (zg * 4 + y)) + (if y = x then 1 else 0) := by
  unfold jset es
  by_cases a : y = x
  · subst a
    rw [if_pos rfl, if_neg (show ¬ d = -1 by omega), if_pos h, if_pos rfl]; rfl
  · rw [if_neg (show ¬ zg * 4 + y = zg * 4 + x by omega), if_neg a, Int.add_zero]
theorem eqcnt_set (yq : Int → Int) (zg x d : Int) (hx : 0 ≤ x ∧ x ≤ 3) (hd : 0 ≤ d) (h : yq (zg * 4 + x) = -1) : eqcnt (jset yq (zg * 4 + x) d) zg = eqcnt yq zg + 1 := by
  unfold eqcnt
  rw [esq_set yq zg x d 0 hd h, esq_set yq zg x d 1 hd h, esq_set yq zg x d 2 hd h, esq_set yq zg x d 3 hd h]
  rcases (show x = 0 ∨ x = 1 ∨ x = 2 ∨ x = 3 by omega) with rfl | rfl | rfl | rfl <;> simp <;> omega
noncomputable def eGend (mth mn mu md mo : Int) (tf y1 y2 : Int → Int) (r jd : Int) (u3 u4 u5 w6 : Int → Int) (w p : Int) (w7 : Int → Int) : Int × Int × (Int → Int) × (Int → Int) × (Int → Int) × (Int → Int) × (Int → Int) × (Int → Int) × (Int → Int) :=
  match f_XM_takeP mth mn p w mu md mo tf 59 with
  | (p1, w1) => if w1 < 0 then (p1, w1, jset y1 (31 + r) 1, jset y2 (31 + r) jd, u3, u4, u5, w6, w7) else (p1, w1, y1, jset y2 (31 + r) jd, u3, u4, u5, w6, w7)
section EQ10
variable (mth mn mp mw mu md mo : Int) (tf : Int → Int) (mwi : Int) (y1 y2 y3 y4 y5 y6 y7 : Int → Int) (zg jd : Int) (u3 u4 u5 w6 : Int → Int)
theorem e_skipN (p q w z1 : Int) (h : f_XT_next mn p w tf = f_XT_next mn q w tf) : f_XT_skipIf mn p w tf z1 = f_XT_skipIf mn q w tf z1 := by
  rw [f_XT_skipIf_s, h, f_XT_skipIf_s]
theorem e_GendW (w p : Int) (w7 : Int → Int) (hw : 0 ≤ w) : 0 ≤ (eGend mth mn mu md mo tf y1 y2 zg jd u3 u4 u5 w6 w p w7).2.1 := by
  unfold eGend
  rw [e_takeW mth mn p w mu md mo tf 59 hw]
  dsimp only
  rw [if_neg (show ¬ w < 0 by omega)]
  exact hw
theorem e_GendD (p : Int) (w7 : Int → Int) (hw : mw < 0) (hp : 0 ≤ p) (h : eDig tf mn p) : 0 ≤ (eGend mth mn mu md mo tf y1 y2 zg jd u3 u4 u5 w6 mw p w7).2.1 := by
  unfold eGend
  rw [e_digTake mth mn p mw mu md mo tf h hp hw 59 (by omega)]
  dsimp only
  rw [if_neg (show ¬ p < 0 by omega)]
  exact hp
theorem e_L97W (n : Nat) (mks p w : Int) (w7 : Int → Int) (hw : 0 ≤ w) : 0 ≤ (f_XM_gradeP_L97 mth mn mp mwi mu md mo tf y1 y2 y3 y4 y5 y6 y7 zg jd u3 u4 u5 w6 (n + 1) mks p w w7).2.1 := by
  rw [f_XM_gradeP_L97_s, e_takesW mth mn p w mu md mo tf 113 hw]
  dsimp only
  rw [if_pos rfl]
  exact e_GendW mth mn mu md mo tf y1 y2 zg jd u3 u4 u5 w6 w p w7 hw
theorem e_L97D (n : Nat) (mks p : Int) (w7 : Int → Int) (hw : mw < 0) (hp : 0 ≤ p) (h : eDig tf mn p) : 0 ≤ (f_XM_gradeP_L97 mth mn mp mwi mu md mo tf y1 y2 y3 y4 y5 y6 y7 zg jd u3 u4 u5 w6 (n + 1) mks p mw w7).2.1 := by
  rw [f_XM_gradeP_L97_s, e_digTakes mth mn p mw mu md mo tf h hp 113 (by omega)]
  dsimp only
  rw [if_pos rfl]
  exact e_GendD mth mn mw mu md mo tf y1 y2 zg jd u3 u4 u5 w6 p w7 hw hp h
set_option maxHeartbeats 1000000 in
theorem e_limits (hw : mw < 0) (hmn : 0 ≤ mn ∧ mn ≤ 400) (hf : ∀ i, 0 ≤ tf i ∧ tf i ≤ 255) (tp tw bg bf : Int) (fq : Int → Int) (hg : 1 ≤ zg ∧ zg ≤ 30) : ∀ (n m : Nat) (k q w p mks : Int) (yq w7 : Int → Int), 5 - k < (n : Int) → mn - p < (m : Int) → 0 ≤ q → q ≤ mn → 0 ≤ p → p ≤ mn → k = eqcnt yq zg → (∀ x, 0 ≤ x → x ≤ 3 → (mbit mks x = 1 ↔ yq (zg * 4 + x) ≠ -1)) → eQl yq w7 → f_XT_next mn p w tf = f_XT_next mn q w tf →
    ∀ C, C = f_XR_limits_L2 mn tp tw tf bg bf fq zg n k q w yq → ∀ M, M = f_XM_gradeP_L97 mth mn mp mwi mu md mo tf y1 y2 y3 y4 y5 y6 y7 zg jd u3 u4 u5 w6 m mks p mw w7 →
    (C.1 = 1 ∧ q ≤ C.2.1 ∧ C.2.1 ≤ mn ∧ (∀ g x, 1 ≤ g → g ≤ 30 → g ≠ zg → 0 ≤ x → x ≤ 3 → C.2.2.2 (g * 4 + x) = yq (g * 4 + x)) ∧ ∃ w7', eQl C.2.2.2 w7' ∧ M = eGend mth mn mu md mo tf y1 y2 zg jd u3 u4 u5 w6 mw C.2.1 w7') ∨ (C.1 = 0 ∧ 0 ≤ M.2.1) := by
  intro n
  induction n with
  | zero => intro m k q w p mks yq w7 h1 h2 h3 h4 h5 h6 h7; have := eqcnt_le yq zg; omega
  | succ n ih =>
    intro m k q w p mks yq w7 h1 h2 h3 h4 h5 h6 h7 h8 h9 h10 C hC M hM
    have hc := eqcnt_le yq zg
    cases m with
    | zero => omega
    | succ m =>
    rw [f_XR_limits_L2_s, if_neg (show ¬ 4 < k by omega)] at hC
    rw [f_XM_gradeP_L97_s, e_takes mth mn p mw mu md mo w tf 113 hw h6, e_skipN mn tf p q w 113 h10] at hM
    have sk := e_skipM mn q w tf hmn ⟨h3, h4⟩ hf 113 (by decide)
    have skp := e_skipM mn p w tf hmn ⟨h5, h6⟩ hf 113 (by decide)
    rw [e_skipN mn tf p q w 113 h10] at skp
    generalize f_XT_skipIf mn q w tf 113 = c0 at hC hM sk skp
    obtain ⟨r0, p0⟩ := c0
    dsimp only at hC hM sk skp
    rcases sk.1 with s0 | s0
    · rw [if_pos s0] at hC
      rw [if_pos s0] at hM
      left
      rw [hC]
      exact ⟨rfl, by dsimp only; omega, by dsimp only; omega, fun _ _ _ _ _ _ _ => rfl, w7, h9, hM⟩
    · rw [if_neg (show ¬ r0 = 0 by omega)] at hC
      rw [if_neg (show ¬ r0 = 0 by omega)] at hM
      have hm1 : ∃ m', m = m' + 1 := by
        cases m with
        | zero => omega
        | succ m => exact ⟨m, rfl⟩
      obtain ⟨m', rfl⟩ := hm1
      have eK := e_kind mth mn p0 mw mu md mo w tf hw hmn ⟨by omega, by omega⟩ hf
      have oM := e_oneM mn p0 w tf hmn ⟨by omega, by omega⟩ hf 48 4 (by decide)
      generalize f_XT_takeOneOf mn p0 w tf 48 4 = c1 at hC eK oM
      obtain ⟨r1, p1, t1⟩ := c1
      generalize f_XM_numberP mth mn p0 mw mu md mo tf 0 3 = m1 at hM eK
      obtain ⟨s1, q1, v1⟩ := m1
      dsimp only at hC hM eK oM
      have lostM : 0 ≤ v1 → 0 ≤ M.2.1 := by
        intro h
        rw [if_neg (show ¬ v1 < 0 by omega), e_takeW mth mn q1 v1 mu md mo tf 60 h] at hM
        dsimp only at hM
        rw [e_numW mth mn mu md mo tf 0 999999 q1 v1 h] at hM
        dsimp only at hM
        rw [hM]
        exact e_L97W mth mn mp mu md mo tf mwi y1 y2 y3 y4 y5 y6 y7 zg jd u3 u4 u5 w6 m' _ q1 v1 _ h
      rcases eK with ⟨a1, a2⟩ | ⟨a1, a2, a3⟩ | ⟨a1, a2, a3, a4⟩
      · right
        rw [if_pos a1] at hC
        exact ⟨by rw [hC], lostM a2⟩
      · cases a3
        have hne : ¬ r1 = -1 := by omega
        have o2 := oM.2.2 hne
        have hb2 := h8 r1 a1 a2
        rw [if_neg hne, f_XB_tellsLimit_s] at hC
        rw [if_pos hw] at hM
        by_cases g : yq (zg * 4 + r1) = -1
        · have hmb : ¬ mbit mks r1 = 1 := fun h => (hb2.mp h) g
          rw [if_pos g, if_pos rfl] at hC
          rw [if_neg (show ¬ (jI ((jI mks >>> (jI r1 &&& 31)).toInt) &&& jI 1).toInt = 1 from hmb)] at hM
          have eT := e_take mth mn p1 mw mu md mo t1 tf 60 hw (by omega)
          have tM := e_takeM mn p1 t1 tf hmn ⟨by omega, by omega⟩ hf 60 (by decide)
          generalize f_XT_take mn p1 t1 tf 60 = c2 at hC eT tM
          obtain ⟨r4, p2, t2⟩ := c2
          generalize f_XM_takeP mth mn p1 mw mu md mo tf 60 = m2 at hM eT
          obtain ⟨q2, v2⟩ := m2
          dsimp only at hC hM eT tM
          rcases eT with ⟨b1, b2, b3⟩ | ⟨b1, b3⟩
          · cases b3
            rw [if_neg (show ¬ r4 = 0 by omega)] at hC
            have eN := e_number mth mn p2 mw mu md mo t2 tf 0 999999 hw (by omega) hmn ⟨by omega, by omega⟩ hf
            have nb := f_XT_number_b mn p2 t2 tf 0 999999 hmn ⟨by omega, by omega⟩ (fun i => ⟨(hf i).1, by have := hf i; omega⟩) (by omega) (by omega)
            have nM := e_numM mn p2 t2 tf hmn ⟨by omega, by omega⟩ hf 0 999999
            generalize f_XT_number mn p2 t2 tf 0 999999 = c3 at hC eN nb nM
            obtain ⟨d, p3, t3⟩ := c3
            generalize f_XM_numberP mth mn p2 mw mu md mo tf 0 999999 = m3 at hM eN
            obtain ⟨s3, q3, v3⟩ := m3
            unfold eNum at eN
            dsimp only at hC hM eN nb nM
            rcases eN with ⟨f1, f2, f3⟩ | ⟨f1, f2⟩
            · cases f2
              rw [if_neg (show ¬ d = -1 by omega), f_XB_tellLimit_s] at hC
              have hn := ih (m' + 1) (k + 1) p3 t3 p3 (mput mks r1) (jset yq (zg * 4 + r1) d) (jset w7 (4 * (31 + zg) + r1) d) (by omega) (by omega) (by omega) (by omega) (by omega) (by omega) (by rw [eqcnt_set yq zg r1 d ⟨a1, a2⟩ (by omega) g]; omega) (fun x x1 x2 => by
                rw [mbit_put mks r1 x ⟨a1, by omega⟩ ⟨x1, by omega⟩]
                unfold jset
                by_cases g9 : x = r1
                · rw [if_pos g9, if_pos (show zg * 4 + x = zg * 4 + r1 by omega)]; constructor <;> intro <;> first | omega | rfl
                · rw [if_neg g9, if_neg (show ¬ zg * 4 + x = zg * 4 + r1 by omega)]; exact h8 x x1 x2) (eQl_set h9 zg r1 d hg ⟨a1, a2⟩) rfl C hC M hM
              rcases hn with ⟨i1, i2, i3, i4, i5⟩ | hn
              · left
                refine ⟨i1, by omega, i3, fun g x g1 g2 g3 x1 x2 => ?_, i5⟩
                rw [i4 g x g1 g2 g3 x1 x2]
                unfold jset
                rw [if_neg (show ¬ g * 4 + x = zg * 4 + r1 by omega)]
              · right; exact hn
            · rw [if_pos f1] at hC
              right
              refine ⟨by rw [hC], ?_⟩
              rw [hM]
              rcases f2 with f2 | ⟨f2, f3, f4⟩
              · exact e_L97W mth mn mp mu md mo tf mwi y1 y2 y3 y4 y5 y6 y7 zg jd u3 u4 u5 w6 m' _ q3 v3 _ f2
              · rw [f2]
                exact e_L97D mth mn mp mw mu md mo tf mwi y1 y2 y3 y4 y5 y6 y7 zg jd u3 u4 u5 w6 m' _ q3 _ hw f3 f4
          · cases b3
            rw [if_pos b1] at hC
            right
            refine ⟨by rw [hC], ?_⟩
            rw [e_numW mth mn mu md mo tf 0 999999 p2 p2 (by omega)] at hM
            dsimp only at hM
            rw [hM]
            exact e_L97W mth mn mp mu md mo tf mwi y1 y2 y3 y4 y5 y6 y7 zg jd u3 u4 u5 w6 m' _ p2 p2 _ (by omega)
        · rw [if_neg g, if_neg (show ¬ (1 : Int) = 0 by decide), f_XT_refuseLast_s] at hC
          right
          refine ⟨by rw [hC], ?_⟩
          rw [if_pos (show (jI ((jI mks >>> (jI r1 &&& 31)).toInt) &&& jI 1).toInt = 1 from hb2.mpr g), e_fail _ _ _ _ _ _ _ _ hw, e_takeW mth mn p1 (p1 - 1) mu md mo tf 60 (by omega)] at hM
          dsimp only at hM
          rw [e_numW mth mn mu md mo tf 0 999999 p1 (p1 - 1) (by omega)] at hM
          dsimp only at hM
          rw [hM]
          exact e_L97W mth mn mp mu md mo tf mwi y1 y2 y3 y4 y5 y6 y7 zg jd u3 u4 u5 w6 m' _ p1 (p1 - 1) _ (by omega)
      · right
        have hne : ¬ r1 = -1 := by omega
        have o2 := oM.2.2 hne
        refine ⟨?_, lostM a3⟩
        rw [if_neg hne] at hC
        by_cases g : f_XB_tellsLimit bg bf yq zg r1 = 0
        · have g2 := a4.2
          have hT : f_XT_take mn p1 t1 tf 60 = (0, p1, p1) := by
            rw [f_XT_take_s, e_digNext mn p1 t1 tf a4 (by omega)]
            dsimp only
            rw [if_neg (show ¬ tf p1 = 60 by omega), f_XT_refuse_s]
          rw [if_pos g, hT] at hC
          dsimp only at hC
          rw [if_pos rfl] at hC
          rw [hC]
        · rw [if_neg g, f_XT_refuseLast_s] at hC
          rw [hC]
end EQ10
end
section
/-! the reference's reader beside the class's: a grade's row behind its parent -/
noncomputable def eCrest (mn : Int) (tf : Int → Int) (bg bf zg q t : Int) (ft fl fh fq fr : Int → Int) : Int × Int × Int × (Int → Int) × (Int → Int) × (Int → Int) × (Int → Int) × (Int → Int) × Int :=
  match f_XR_spans mn q t tf bg bf fl fh zg with
  | (r14, p15, t16, fl1, fh1) => if r14 = 0 then (0, p15, t16, ft, fl1, fh1, fq, fr, bg) else
    match f_XR_routes mn p15 t16 tf bg bf fr zg with
    | (r24, p25, t26, fr1) => if r24 = 0 then (0, p25, t26, ft, fl1, fh1, fq, fr1, bg) else
      match f_XR_limits mn p25 t26 tf bg bf fq zg with
      | (r33, p34, t35, fq1) => if r33 = 0 then (0, p34, t35, ft, fl1, fh1, fq1, fr1, bg) else (1, p34, t35, ft, fl1, fh1, fq1, fr1, bg)
noncomputable def eClim (mn : Int) (tf : Int → Int) (bg bf zg p25 t26 : Int) (ft fl1 fh1 fq fr1 : Int → Int) : Int × Int × Int × (Int → Int) × (Int → Int) × (Int → Int) × (Int → Int) × (Int → Int) × Int :=
  match f_XR_limits mn p25 t26 tf bg bf fq zg with
  | (r33, p34, t35, fq1) => if r33 = 0 then (0, p34, t35, ft, fl1, fh1, fq1, fr1, bg) else (1, p34, t35, ft, fl1, fh1, fq1, fr1, bg)
section EQ11
variable (mth mn mp mw mu md mo : Int) (tf : Int → Int) (mwi : Int) (y1 y2 y3 y4 y5 y6 y7 : Int → Int) (zg jd : Int)
theorem e_lim (hw : mw < 0) (hmn : 0 ≤ mn ∧ mn ≤ 400) (hf : ∀ i, 0 ≤ tf i ∧ tf i ≤ 255) (hg : 1 ≤ zg ∧ zg ≤ 30) (bg bf : Int) (ft fl1 fh1 fq fr1 u3 u4 u5 w6 : Int → Int) (p t pm : Int) (hp : 0 ≤ p ∧ p ≤ mn) (hpm : 0 ≤ pm ∧ pm ≤ mn) (hnx : f_XT_next mn pm t tf = f_XT_next mn p t tf) (hQ : eQl fq y7) (hz : ∀ x, 0 ≤ x → x ≤ 3 → fq (zg * 4 + x) = -1) :
    ∀ C, C = eClim mn tf bg bf zg p t ft fl1 fh1 fq fr1 → ∀ M, M = f_XM_gradeP_J95 mth mn mp mwi mu md mo tf y1 y2 y3 y4 y5 y6 y7 zg jd u3 u4 u5 pm mw w6 →
    (C.1 = 1 ∧ (f_XT_take mn C.2.1 C.2.2.1 tf 59).1 = 1 ∧ p ≤ C.2.1 ∧ C.2.1 ≤ mn ∧ C.2.2.2.1 = ft ∧ C.2.2.2.2.1 = fl1 ∧ C.2.2.2.2.2.1 = fh1 ∧ C.2.2.2.2.2.2.2.1 = fr1 ∧ C.2.2.2.2.2.2.2.2 = bg ∧ (∀ g x, 1 ≤ g → g ≤ 30 → g ≠ zg → 0 ≤ x → x ≤ 3 → C.2.2.2.2.2.2.1 (g * 4 + x) = fq (g * 4 + x)) ∧ ∃ w7', eQl C.2.2.2.2.2.2.1 w7' ∧ M = ((f_XT_take mn C.2.1 C.2.2.1 tf 59).2.1, mw, jset y1 (31 + zg) 1, jset y2 (31 + zg) jd, u3, u4, u5, w6, w7')) ∨ ((C.1 = 0 ∨ (C.1 = 1 ∧ (f_XT_take mn C.2.1 C.2.2.1 tf 59).1 = 0)) ∧ 0 ≤ M.2.1) := by
  intro C hC M hM
  unfold eClim at hC
  rw [f_XR_limits_s] at hC
  rw [f_XM_gradeP_J95_s] at hM
  have hcnt : (0 : Int) = eqcnt fq zg := by
    unfold eqcnt
    rw [hz 0 (by decide) (by decide), hz 1 (by decide) (by decide), hz 2 (by decide) (by decide), hz 3 (by decide) (by decide)]
    rfl
  have Lm := e_limits mth mn mp mw mu md mo tf mwi y1 y2 y3 y4 y5 y6 y7 zg jd u3 u4 u5 w6 hw hmn hf p t bg bf fq hg (Int.toNat (5 - 0) + 1) (Int.toNat (mn - pm) + 1) 0 p t pm 0 fq y7 (by decide) (by omega) hp.1 hp.2 hpm.1 hpm.2 hcnt (fun x x1 x2 => by rw [mbit_zero x ⟨x1, by omega⟩, hz x x1 x2]; constructor <;> intro h <;> first | omega | exact absurd rfl h) hQ hnx _ rfl M hM
  generalize f_XR_limits_L2 mn p t tf bg bf fq zg (Int.toNat (5 - 0) + 1) 0 p t fq = c1 at hC Lm
  obtain ⟨r33, p34, t35, fq1⟩ := c1
  dsimp only at hC Lm
  rcases Lm with ⟨a1, a2, a3, a4, w7', a5, a6⟩ | ⟨a1, a2⟩
  · rw [if_neg (show ¬ r33 = 0 by omega)] at hC
    subst hC
    dsimp only
    unfold eGend at a6
    rcases e_take mth mn p34 mw mu md mo t35 tf 59 hw a3 with ⟨g1, g2, g3⟩ | ⟨g1, g3⟩
    · rw [g3] at a6
      dsimp only at a6
      rw [if_pos hw] at a6
      left
      exact ⟨rfl, g1, a2, a3, rfl, rfl, rfl, rfl, rfl, a4, w7', a5, a6⟩
    · rw [g3] at a6
      dsimp only at a6
      have tM2 := e_takeM mn p34 t35 tf hmn ⟨by omega, a3⟩ hf 59 (by decide)
      rw [if_neg (show ¬ (f_XT_take mn p34 t35 tf 59).2.1 < 0 by omega)] at a6
      right
      exact ⟨Or.inr ⟨rfl, g1⟩, by rw [a6]; dsimp only; omega⟩
  · rw [if_pos a1] at hC
    right
    exact ⟨Or.inl (by rw [hC]), a2⟩
theorem e_J95W (u3 u4 u5 w6 : Int → Int) (p w : Int) (hw : 0 ≤ w) : 0 ≤ (f_XM_gradeP_J95 mth mn mp mwi mu md mo tf y1 y2 y3 y4 y5 y6 y7 zg jd u3 u4 u5 p w w6).2.1 := by
  rw [f_XM_gradeP_J95_s]
  exact e_L97W mth mn mp mu md mo tf mwi y1 y2 y3 y4 y5 y6 y7 zg jd u3 u4 u5 w6 _ _ p w _ hw
theorem e_J95D (u3 u4 u5 w6 : Int → Int) (p : Int) (hw : mw < 0) (hp : 0 ≤ p) (h : eDig tf mn p) : 0 ≤ (f_XM_gradeP_J95 mth mn mp mwi mu md mo tf y1 y2 y3 y4 y5 y6 y7 zg jd u3 u4 u5 p mw w6).2.1 := by
  rw [f_XM_gradeP_J95_s]
  exact e_L97D mth mn mp mw mu md mo tf mwi y1 y2 y3 y4 y5 y6 y7 zg jd u3 u4 u5 w6 _ _ p _ hw hp h
/-- behind the spans, lost -/
theorem e_lostS (hw : mw < 0) (p w : Int) (a3 a4 a5 : Int → Int) (h : eLost tf mn mw p w) : 0 ≤ (match f_XM_takesP mth mn p w mu md mo tf 114 with
    | (r96, p97) => if r96 = 0 then f_XM_gradeP_J95 mth mn mp mwi mu md mo tf y1 y2 y3 y4 y5 y6 y7 zg jd a3 a4 a5 p97 w y6 else match f_XM_routeRowP mth mn p97 w mu md mo tf with | (r102, p103, w104) => f_XM_gradeP_J95 mth mn mp mwi mu md mo tf y1 y2 y3 y4 y5 y6 y7 zg jd a3 a4 a5 p103 w104 (jset y6 (31 + zg) r102)).2.1 := by
  rcases h with h | ⟨h1, h2, h3⟩
  · rw [e_takesW mth mn p w mu md mo tf 114 h]
    dsimp only
    rw [if_pos rfl]
    exact e_J95W mth mn mp mu md mo tf mwi y1 y2 y3 y4 y5 y6 y7 zg jd a3 a4 a5 y6 p w h
  · rw [e_digTakes mth mn p w mu md mo tf h3 h2 114 (by omega)]
    dsimp only
    rw [if_pos rfl, h1]
    exact e_J95D mth mn mp mw mu md mo tf mwi y1 y2 y3 y4 y5 y6 y7 zg jd a3 a4 a5 y6 p hw h2 h3
theorem e_J70L (hw : mw < 0) (hmn : 0 ≤ mn ∧ mn ≤ 400) (p w : Int) (h : eLost tf mn mw p w) : 0 ≤ (f_XM_gradeP_J70 mth mn mp mwi mu md mo tf y1 y2 y3 y4 y5 y6 y7 zg p w jd).2.1 := by
  rw [f_XM_gradeP_J70_s, f_XM_spansP_s]
  have hE : f_XM_elementP mth mn p w mu md mo tf 0 = (-1, p, w) := by
    rcases h with h | ⟨h1, h2, h3⟩
    · exact e_elemW mth mn mu md mo tf 0 p w h
    · exact e_digElem mth mn p w mu md mo tf h3 h2 0
  rw [hE]
  dsimp only
  rw [e_L8neg]
  exact e_lostS mth mn mp mw mu md mo tf mwi y1 y2 y3 y4 y5 y6 y7 zg jd hw p w y3 y4 y5 h
set_option maxHeartbeats 2000000 in
theorem e_rest (hw : mw < 0) (hmw : -1 ≤ mw) (hmn : 0 ≤ mn ∧ mn ≤ 400) (hf : ∀ i, 0 ≤ tf i ∧ tf i ≤ 255) (hg : 1 ≤ zg ∧ zg ≤ 30) (bg bf : Int) (ft fl fh fq fr : Int → Int) (q t : Int) (hq : 0 ≤ q ∧ q ≤ mn) (hSp : eSp fl fh y3 y4 y5) (hh : ∀ x, 0 ≤ x → x ≤ 7 → fh (zg * 8 + x) = -1) (hfr : fr zg = 0) (hR : ∀ g, 1 ≤ g → g ≤ 30 → fr g = y6 (31 + g)) (hQ : eQl fq y7) (hz : ∀ x, 0 ≤ x → x ≤ 3 → fq (zg * 4 + x) = -1) :
    ∀ C, C = eCrest mn tf bg bf zg q t ft fl fh fq fr → ∀ M, M = f_XM_gradeP_J70 mth mn mp mwi mu md mo tf y1 y2 y3 y4 y5 y6 y7 zg q mw jd →
    (C.1 = 1 ∧ (f_XT_take mn C.2.1 C.2.2.1 tf 59).1 = 1 ∧ q ≤ C.2.1 ∧ C.2.1 ≤ mn ∧ C.2.2.2.1 = ft ∧ C.2.2.2.2.2.2.2.2 = bg ∧
      (∀ g x, 1 ≤ g → g ≤ 30 → g ≠ zg → 0 ≤ x → x ≤ 7 → C.2.2.2.2.2.1 (g * 8 + x) = fh (g * 8 + x)) ∧ (∀ g, g ≠ zg → C.2.2.2.2.2.2.2.1 g = fr g) ∧ (0 ≤ C.2.2.2.2.2.2.2.1 zg ∧ C.2.2.2.2.2.2.2.1 zg < 2147483648) ∧ (∀ g x, 1 ≤ g → g ≤ 30 → g ≠ zg → 0 ≤ x → x ≤ 3 → C.2.2.2.2.2.2.1 (g * 4 + x) = fq (g * 4 + x)) ∧
      M.1 = (f_XT_take mn C.2.1 C.2.2.1 tf 59).2.1 ∧ M.2.1 = mw ∧ M.2.2.1 = jset y1 (31 + zg) 1 ∧ M.2.2.2.1 = jset y2 (31 + zg) jd ∧ eSp C.2.2.2.2.1 C.2.2.2.2.2.1 M.2.2.2.2.1 M.2.2.2.2.2.1 M.2.2.2.2.2.2.1 ∧ (∀ g, 1 ≤ g → g ≤ 30 → C.2.2.2.2.2.2.2.1 g = M.2.2.2.2.2.2.2.1 (31 + g)) ∧ eQl C.2.2.2.2.2.2.1 M.2.2.2.2.2.2.2.2) ∨ ((C.1 = 0 ∨ (C.1 = 1 ∧ (f_XT_take mn C.2.1 C.2.2.1 tf 59).1 = 0)) ∧ 0 ≤ M.2.1) := by
  intro C hC M hM
  unfold eCrest at hC
  rw [f_XM_gradeP_J70_s, f_XM_spansP_s] at hM
  rw [f_XR_spans_s] at hC
  have eE := e_elem mth mn q mw mu md mo t tf hw hmn hq hf 0
  have oM := e_oneM mn q t tf hmn hq hf 65 8 (by decide)
  obtain ⟨x1, hE⟩ : ∃ x1, x1 = f_XM_elementP mth mn q mw mu md mo tf 0 := ⟨_, rfl⟩
  obtain ⟨s, q1, v1⟩ := x1
  rw [← hE] at hM eE
  dsimp only at hM eE
  have hv1 : v1 = mw ∧ q1 ≤ mn := by
    rcases eE with ⟨a1, a2⟩ | ⟨a1, a2, a3, ⟨a4, a5⟩ | ⟨a4, a5⟩⟩
    · injection a2 with b1 b2
      injection b2 with b2 b3
      exact ⟨b3, by omega⟩
    · injection a5 with b1 b2
      injection b2 with b2 b3
      exact ⟨b3, by omega⟩
    · rw [mbit_zero _ ⟨a1, a2⟩] at a4
      exact absurd a4 (by decide)
  obtain ⟨hv1, hq1⟩ := hv1
  have hcnt : (0 : Int) = escnt fh zg := by
    unfold escnt
    rw [hh 0 (by decide) (by decide), hh 1 (by decide) (by decide), hh 2 (by decide) (by decide), hh 3 (by decide) (by decide), hh 4 (by decide) (by decide), hh 5 (by decide) (by decide), hh 6 (by decide) (by decide), hh 7 (by decide) (by decide)]
    rfl
  have S := e_spans mth mn q mw mu md mo tf mw y3 y4 y5 hw hmn hf q t bg bf fl fh zg hg (Int.toNat (9 - 0) + 1) (Int.toNat (mn - q1 - v1 + 400) + 1) 0 q t 0 fl fh y3 y4 y5 (by decide) (by omega) hq.1 hq.2 hcnt (fun x x1 x2 => by rw [mbit_zero x ⟨x1, x2⟩, hh x x1 x2]; constructor <;> intro h <;> first | omega | exact absurd rfl h) hSp _ rfl (f_XM_spansP_L8 mth mn q mw mu md mo tf y3 y4 y5 (31 + zg) (Int.toNat (mn - q1 - v1 + 400) + 1) 0 s q1 v1 y3 y4 y5) (by rw [← hE])
  generalize f_XR_spans_L2 mn q t tf bg bf fl fh zg (Int.toNat (9 - 0) + 1) 0 q t fl fh = c1 at hC S
  obtain ⟨r14, p15, t16, fl1, fh1⟩ := c1
  generalize f_XM_spansP_L8 mth mn q mw mu md mo tf y3 y4 y5 (31 + zg) (Int.toNat (mn - q1 - v1 + 400) + 1) 0 s q1 v1 y3 y4 y5 = m1 at hM S
  obtain ⟨pS, wS, a3, a4, a5⟩ := m1
  dsimp only at hC hM S
  rcases S with ⟨i1, i2, i3, i4, i5, i6, i7⟩ | ⟨i1, i2⟩
  · subst i4
    subst i5
    rw [if_neg (show ¬ r14 = 0 by omega)] at hC
    generalize hcR : f_XR_routes mn pS t16 tf bg bf fr zg = cR at hC
    rw [f_XR_routes_s] at hcR
    rw [e_takes mth mn pS wS mu md mo t16 tf 114 hw (by omega)] at hM
    have sk := e_skipM mn pS t16 tf hmn ⟨by omega, by omega⟩ hf 114 (by decide)
    generalize f_XT_skipIf mn pS t16 tf 114 = c2 at hcR hM sk
    obtain ⟨r2, p2⟩ := c2
    dsimp only at hcR hM sk
    -- the limits behind the routes
    have fin : ∀ (p25 t26 pm : Int) (fr1 w6 : Int → Int), q ≤ p25 → p25 ≤ mn → 0 ≤ pm → pm ≤ mn → f_XT_next mn pm t26 tf = f_XT_next mn p25 t26 tf → (∀ g, g ≠ zg → fr1 g = fr g) → (0 ≤ fr1 zg ∧ fr1 zg < 2147483648) → (∀ g, 1 ≤ g → g ≤ 30 → fr1 g = w6 (31 + g)) → ∀ C, C = eClim mn tf bg bf zg p25 t26 ft fl1 fh1 fq fr1 → ∀ M, M = f_XM_gradeP_J95 mth mn mp mwi mu md mo tf y1 y2 y3 y4 y5 y6 y7 zg jd a3 a4 a5 pm wS w6 →
        (C.1 = 1 ∧ (f_XT_take mn C.2.1 C.2.2.1 tf 59).1 = 1 ∧ q ≤ C.2.1 ∧ C.2.1 ≤ mn ∧ C.2.2.2.1 = ft ∧ C.2.2.2.2.2.2.2.2 = bg ∧
      (∀ g x, 1 ≤ g → g ≤ 30 → g ≠ zg → 0 ≤ x → x ≤ 7 → C.2.2.2.2.2.1 (g * 8 + x) = fh (g * 8 + x)) ∧ (∀ g, g ≠ zg → C.2.2.2.2.2.2.2.1 g = fr g) ∧ (0 ≤ C.2.2.2.2.2.2.2.1 zg ∧ C.2.2.2.2.2.2.2.1 zg < 2147483648) ∧ (∀ g x, 1 ≤ g → g ≤ 30 → g ≠ zg → 0 ≤ x → x ≤ 3 → C.2.2.2.2.2.2.1 (g * 4 + x) = fq (g * 4 + x)) ∧
      M.1 = (f_XT_take mn C.2.1 C.2.2.1 tf 59).2.1 ∧ M.2.1 = wS ∧ M.2.2.1 = jset y1 (31 + zg) 1 ∧ M.2.2.2.1 = jset y2 (31 + zg) jd ∧ eSp C.2.2.2.2.1 C.2.2.2.2.2.1 M.2.2.2.2.1 M.2.2.2.2.2.1 M.2.2.2.2.2.2.1 ∧ (∀ g, 1 ≤ g → g ≤ 30 → C.2.2.2.2.2.2.2.1 g = M.2.2.2.2.2.2.2.1 (31 + g)) ∧ eQl C.2.2.2.2.2.2.1 M.2.2.2.2.2.2.2.2) ∨ ((C.1 = 0 ∨ (C.1 = 1 ∧ (f_XT_take mn C.2.1 C.2.2.1 tf 59).1 = 0)) ∧ 0 ≤ M.2.1) := by
      intro p25 t26 pm fr1 w6 j1 j2 j3 j4 j5 j6 j7 j8 C hC M hM
      rcases e_lim mth mn mp wS mu md mo tf mwi y1 y2 y3 y4 y5 y6 y7 zg jd hw hmn hf hg bg bf ft fl1 fh1 fq fr1 a3 a4 a5 w6 p25 t26 pm ⟨by omega, j2⟩ ⟨j3, j4⟩ j5 hQ hz C hC M hM with ⟨k1, k2, k3, k4, k5, k6, k7, k8, k9, k10, w7', k11, k12⟩ | h
      · left
        rw [k12, k6, k7, k8]
        exact ⟨k1, k2, by omega, k4, k5, k9, i7, j6, j7, k10, rfl, rfl, rfl, rfl, i6, j8, k11⟩
      · right; exact h
    rcases sk.1 with s0 | s0
    · rw [if_pos s0] at hcR
      rw [if_pos s0] at hM
      subst hcR
      dsimp only at hC
      rw [if_neg (show ¬ (1 : Int) = 0 by decide)] at hC
      exact fin p2 t16 p2 fr y6 (by omega) (by omega) (by omega) (by omega) rfl (fun _ _ => rfl) (by rw [hfr]; decide) hR C hC M hM
    · rw [if_neg (show ¬ r2 = 0 by omega)] at hcR
      rw [if_neg (show ¬ r2 = 0 by omega), f_XM_routeRowP_s] at hM
      have Rt := e_routesL mth mn p2 wS mu md mo tf wS hw hmn hf pS t16 bg bf fr zg (Int.toNat (4 - 0) + 1) (Int.toNat (mn - p2) + 1) 0 (-1) p2 t16 p2 1 fr (by decide) (by omega) (by decide) (by decide) (by omega) (by omega) (by omega) (by omega) (by decide) (by decide) (fun _ => rfl) (by rw [hfr]; decide) rfl (Or.inl ⟨rfl, rfl⟩) _ rfl _ rfl
      rw [hfr] at Rt
      generalize f_XR_routes_L19 mn pS t16 tf bg bf fr zg (Int.toNat (4 - 0) + 1) 0 (-1) p2 t16 fr = c3 at hcR Rt
      subst hcR
      obtain ⟨r24, p25, t26, fr1⟩ := c3
      generalize f_XM_routeRowP_L9 mth mn p2 wS mu md mo tf (Int.toNat (mn - p2) + 1) 0 (-1) 0 1 p2 wS = m3 at hM Rt
      obtain ⟨bt, pR, wR⟩ := m3
      dsimp only at hC hM Rt
      rcases Rt with ⟨l1, l2, l3, l4, l5, l6, l7, l8⟩ | ⟨l1, l2⟩
      · rw [if_neg (show ¬ r24 = 0 by omega)] at hC
        rcases l8 with ⟨n1, n2, n3⟩ | ⟨n1, n2⟩
        · subst n1
          subst n3
          have hnx : f_XT_next mn pR t26 tf = f_XT_next mn p25 t26 tf := (e_nextTw mn tf pR t26 0 l5).trans (n2.trans (e_nextTw mn tf p25 0 t26 l3))
          exact fin p25 t26 pR fr1 (jset y6 (31 + zg) (fr1 zg)) (by omega) l3 l4 l5 hnx l6 l7 (fun g g1 g2 => by
            unfold jset
            by_cases e1 : g = zg
            · rw [if_pos (show 31 + g = 31 + zg by omega), e1]
            · rw [if_neg (show ¬ 31 + g = 31 + zg by omega), l6 g e1]; exact hR g g1 g2) C hC M hM
        · right
          have hMW : 0 ≤ M.2.1 := by
            rw [hM]
            exact e_J95W mth mn mp mu md mo tf mwi y1 y2 y3 y4 y5 y6 y7 zg jd a3 a4 a5 _ pR wR n1
          refine ⟨?_, hMW⟩
          -- the class stands before a digit: no limit, no ';'
          have hb2 := f_XT_next_b mn p25 t26 tf hmn ⟨by omega, l3⟩ (fun i => ⟨(hf i).1, by have := hf i; omega⟩)
          have hv2 := e_nextv mn p25 t26 tf hmn ⟨by omega, l3⟩
          have hI2 := e_nextI mn p25 t26 tf hmn ⟨by omega, l3⟩
          rw [e_nextTw mn tf p25 0 t26 l3] at n2
          generalize hn4 : f_XT_next mn p25 t26 tf = c4 at n2 hb2 hv2 hI2
          obtain ⟨r4, p4⟩ := c4
          dsimp only at n2 hb2 hv2 hI2
          have hr4 : r4 = tf p4 := by rw [← hv2, f_XT_here_s, if_pos n2.1]
          have n22 := n2.2
          have hL : f_XR_limits mn p25 t26 tf bg bf fq zg = (1, p4, t26, fq) := by
            rw [f_XR_limits_s, show Int.toNat (5 - 0) + 1 = 5 + 1 from rfl, f_XR_limits_L2_s, if_neg (show ¬ (4 : Int) < 0 by decide), f_XT_skipIf_s, hn4]
            dsimp only
            rw [if_neg (show ¬ r4 = 113 by omega)]
            dsimp only
            rw [if_pos rfl]
          rw [hL] at hC
          dsimp only at hC
          rw [if_neg (show ¬ (1 : Int) = 0 by decide)] at hC
          right
          rw [hC]
          dsimp only
          refine ⟨rfl, ?_⟩
          rw [f_XT_take_s, hI2]
          dsimp only
          rw [if_neg (show ¬ r4 = 59 by omega), f_XT_refuse_s]
      · rw [if_pos l1] at hC
        right
        refine ⟨Or.inl (by rw [hC]), ?_⟩
        rw [hM]
        exact e_J95W mth mn mp mu md mo tf mwi y1 y2 y3 y4 y5 y6 y7 zg jd a3 a4 a5 _ pR wR l2
  · rw [if_pos i1] at hC
    right
    refine ⟨Or.inl (by rw [hC]), ?_⟩
    rw [hM]
    exact e_lostS mth mn mp mw mu md mo tf mwi y1 y2 y3 y4 y5 y6 y7 zg jd hw pS wS a3 a4 a5 i2
end EQ11
end
section
/-! the reference's reader beside the class's: a grade's row -/
def eBk (bg : Int) (ft fl fh fq fr y1 y2 y3 y4 y5 y6 y7 : Int → Int) : Prop := (0 ≤ bg ∧ bg < 2147483648) ∧ (∀ g, 1 ≤ g → g ≤ 30 → f_XG_hasBit bg g = y1 (31 + g)) ∧ (∀ g, 1 ≤ g → g ≤ 30 → ft g = y2 (31 + g)) ∧ eSp fl fh y3 y4 y5 ∧ (∀ g, 1 ≤ g → g ≤ 30 → fr g = y6 (31 + g)) ∧ eQl fq y7 ∧ (∀ g, 1 ≤ g → g ≤ 30 → f_XG_hasBit bg g = 0 → ft g = 0 ∧ fr g = 0 ∧ (∀ x, 0 ≤ x → x ≤ 7 → fh (g * 8 + x) = -1) ∧ (∀ x, 0 ≤ x → x ≤ 3 → fq (g * 4 + x) = -1))
section EQ12
variable (mth mn mp mw mu md mo : Int) (tf : Int → Int) (y1 y2 y3 y4 y5 y6 y7 : Int → Int)
theorem e_numP (tw : Int) (hmn : 0 ≤ mn ∧ mn ≤ 400) (hmp : 0 ≤ mp ∧ mp ≤ mn) (hf : ∀ i, 0 ≤ tf i ∧ tf i ≤ 255) (zl zm : Int) : (f_XT_number mn mp tw tf zl zm).1 ≠ -1 → mp < (f_XT_number mn mp tw tf zl zm).2.1 := by
  have hb := f_XT_next_b mn mp tw tf hmn hmp (fun i => ⟨(hf i).1, by have := hf i; omega⟩)
  have hv := e_nextv mn mp tw tf hmn hmp
  rw [f_XT_number_s]
  generalize f_XT_next mn mp tw tf = q at hb hv
  obtain ⟨r, p⟩ := q
  dsimp only at hb hv ⊢
  by_cases a : f_XG_isDigit r = 0
  · rw [if_pos a, f_XT_refuse_s]
    intro h
    exact absurd rfl h
  · have hr := f_XG_isDigit_01 r (by omega)
    rw [if_neg a, show Int.toNat (6 - 0) + 1 = 6 + 1 from rfl, e_L22, if_pos (show (0 : Int) < 6 by decide), if_neg (show ¬ f_XG_isDigit (f_XT_here mn p tw tf) = 0 by rw [hv]; exact a), if_neg (show ¬ (0 : Int) < 0 by decide)]
    intro _
    have := e_numML mn tw tf hmn mp zl zm 6 (0 * 10 + f_XT_here mn p tw tf - 48) (0 + 1) (p + 1) (by decide) (by decide) (by omega) (by omega)
    omega
theorem e_J37L (hw : mw < 0) (hmn : 0 ≤ mn ∧ mn ≤ 400) (r p w : Int) (h : eLost tf mn mw p w) : 0 ≤ (f_XM_gradeP_J37 mth mn mp mw mu md mo tf y1 y2 y3 y4 y5 y6 y7 r p w).2.1 := by
  rw [f_XM_gradeP_J37_s]
  rcases h with h | ⟨h1, h2, h3⟩
  · rw [if_neg (show ¬ w < 0 by omega)]
    exact h
  · rw [if_pos (show w < 0 by omega), e_digTakes mth mn p w mu md mo tf h3 h2 60 (by omega)]
    dsimp only
    rw [if_pos rfl]
    exact e_J70L mth mn mp mw mu md mo tf mw y1 y2 y3 y4 y5 y6 y7 r 0 hw hmn p w (Or.inr ⟨h1, h2, h3⟩)
set_option maxHeartbeats 2000000 in
theorem e_grade (hw : mw < 0) (hmw : -1 ≤ mw) (hmn : 0 ≤ mn ∧ mn ≤ 400) (hmp : 0 ≤ mp ∧ mp ≤ mn) (hf : ∀ i, 0 ≤ tf i ∧ tf i ≤ 255) (tw bg bf : Int) (ft fl fh fq fr : Int → Int) (hB : eBk bg ft fl fh fq fr y1 y2 y3 y4 y5 y6 y7) :
    ∀ C, C = f_XR_grade mn mp tw tf bg bf ft fl fh fq fr → ∀ M, M = f_XM_gradeP mth mn mp mw mu md mo tf y1 y2 y3 y4 y5 y6 y7 →
    (C.1 = 1 ∧ (f_XT_take mn C.2.1 C.2.2.1 tf 59).1 = 1 ∧ mp ≤ C.2.1 ∧ C.2.1 ≤ mn ∧ M.1 = (f_XT_take mn C.2.1 C.2.2.1 tf 59).2.1 ∧ M.2.1 = mw ∧ eBk C.2.2.2.2.2.2.2.2 C.2.2.2.1 C.2.2.2.2.1 C.2.2.2.2.2.1 C.2.2.2.2.2.2.1 C.2.2.2.2.2.2.2.1 M.2.2.1 M.2.2.2.1 M.2.2.2.2.1 M.2.2.2.2.2.1 M.2.2.2.2.2.2.1 M.2.2.2.2.2.2.2.1 M.2.2.2.2.2.2.2.2) ∨ ((C.1 = 0 ∨ (C.1 = 1 ∧ (f_XT_take mn C.2.1 C.2.2.1 tf 59).1 = 0)) ∧ 0 ≤ M.2.1) := by
  intro C hC M hM
  obtain ⟨f1, f2, f3, f4, f5, f6, f7⟩ := hB
  rw [f_XR_grade_s] at hC
  rw [f_XM_gradeP_s] at hM
  have eN := e_number mth mn mp mw mu md mo tw tf 1 30 hw (by omega) hmn hmp hf
  have nb := f_XT_number_b mn mp tw tf 1 30 hmn hmp (fun i => ⟨(hf i).1, by have := hf i; omega⟩) (by omega) (by omega)
  have nM := e_numM mn mp tw tf hmn hmp hf 1 30
  have nP := e_numP mn mp tf tw hmn hmp hf 1 30
  generalize f_XT_number mn mp tw tf 1 30 = c1 at hC eN nb nM nP
  obtain ⟨r, p1, t1⟩ := c1
  generalize f_XM_numberP mth mn mp mw mu md mo tf 1 30 = m1 at hM eN
  obtain ⟨s1, q1, v1⟩ := m1
  unfold eNum at eN
  dsimp only at hC hM eN nb nM nP
  rcases eN with ⟨a1, a2, a3⟩ | ⟨a1, a2⟩
  · cases a2
    have hne : ¬ r = -1 := by omega
    have hr : 1 ≤ r ∧ r ≤ 30 := by omega
    have hp1 := nP hne
    have hy := f2 r hr.1 hr.2
    rw [if_neg hne] at hC
    rw [if_pos hw] at hM
    have hkn : f_XB_knows bg bf r = 0 ↔ f_XG_hasBit bg r = 0 := by
      rw [f_XB_knows_s, if_neg (show ¬ r < 1 by omega), if_neg (show ¬ 30 < r by omega)]
      by_cases g : f_XG_hasBit bg r = 0
      · rw [if_pos g]; exact ⟨fun _ => g, fun _ => rfl⟩
      · rw [if_neg g]; exact ⟨fun h => absurd h (by decide), fun h => absurd h g⟩
    by_cases g : f_XG_hasBit bg r = 0
    · rw [if_pos (hkn.mpr g)] at hC
      rw [if_pos (show y1 (31 + r) = 0 by omega), f_XM_gradeP_J37_s, if_pos hw, e_takes mth mn p1 mw mu md mo t1 tf 60 hw (by omega)] at hM
      obtain ⟨u1, u2, u3, u4⟩ := f7 r hr.1 hr.2 g
      generalize hcP : f_XR_parent mn p1 t1 tf (f_XB_tellGrade bg bf r) bf ft r = cP at hC
      rw [f_XR_parent_s] at hcP
      have sk := e_skipM mn p1 t1 tf hmn ⟨by omega, by omega⟩ hf 60 (by decide)
      generalize f_XT_skipIf mn p1 t1 tf 60 = c2 at hcP hM sk
      obtain ⟨r2, p2⟩ := c2
      dsimp only at hcP hM sk
      have hbit : ∀ k, 1 ≤ k → k ≤ 30 → f_XG_hasBit (jor bg (jpow r)) k = if k = r then 1 else f_XG_hasBit bg k := fun k k1 _ => hb_or bg r k (by omega) (by omega)
      -- behind the parent
      have fin : ∀ (p t jd : Int) (ft1 : Int → Int), mp ≤ p → p ≤ mn → ft1 r = jd → (∀ k, k ≠ r → ft1 k = ft k) → ∀ C, C = eCrest mn tf (f_XB_tellGrade bg bf r) bf r p t ft1 fl fh fq fr → ∀ M, M = f_XM_gradeP_J70 mth mn mp mw mu md mo tf y1 y2 y3 y4 y5 y6 y7 r p mw jd →
          (C.1 = 1 ∧ (f_XT_take mn C.2.1 C.2.2.1 tf 59).1 = 1 ∧ mp ≤ C.2.1 ∧ C.2.1 ≤ mn ∧ M.1 = (f_XT_take mn C.2.1 C.2.2.1 tf 59).2.1 ∧ M.2.1 = mw ∧ eBk C.2.2.2.2.2.2.2.2 C.2.2.2.1 C.2.2.2.2.1 C.2.2.2.2.2.1 C.2.2.2.2.2.2.1 C.2.2.2.2.2.2.2.1 M.2.2.1 M.2.2.2.1 M.2.2.2.2.1 M.2.2.2.2.2.1 M.2.2.2.2.2.2.1 M.2.2.2.2.2.2.2.1 M.2.2.2.2.2.2.2.2) ∨ ((C.1 = 0 ∨ (C.1 = 1 ∧ (f_XT_take mn C.2.1 C.2.2.1 tf 59).1 = 0)) ∧ 0 ≤ M.2.1) := by
        intro p t jd ft1 j1 j2 j3 j4 C hC M hM
        rcases e_rest mth mn mp mw mu md mo tf mw y1 y2 y3 y4 y5 y6 y7 r jd hw hmw hmn hf hr (f_XB_tellGrade bg bf r) bf ft1 fl fh fq fr p t ⟨by omega, j2⟩ f4 u3 u2 f5 f6 u4 C hC M hM with ⟨k1, k2, k3, k4, k5, k6, k7, k8, k9, k10, k11, k12, k13, k14, k15, k16, k17⟩ | h
        · left
          refine ⟨k1, k2, by omega, k4, k11, k12, ?_⟩
          rw [k5, k6, k13, k14, f_XB_tellGrade_s]
          refine ⟨⟨jor_nn _ _, jor_lt f1.2 (jpow_lt (by omega))⟩, ?_, ?_, k15, k16, k17, ?_⟩
          · intro k l1 l2
            rw [hbit k l1 l2]
            unfold jset
            by_cases e1 : k = r
            · rw [if_pos e1, if_pos (show 31 + k = 31 + r by omega)]
            · rw [if_neg e1, if_neg (show ¬ 31 + k = 31 + r by omega)]; exact f2 k l1 l2
          · intro k l1 l2
            unfold jset
            by_cases e1 : k = r
            · rw [if_pos (show 31 + k = 31 + r by omega), e1]; exact j3
            · rw [if_neg (show ¬ 31 + k = 31 + r by omega), j4 k e1]; exact f3 k l1 l2
          · intro k l1 l2 h
            rw [hbit k l1 l2] at h
            by_cases e1 : k = r
            · rw [if_pos e1] at h; exact absurd h (by decide)
            · rw [if_neg e1] at h
              obtain ⟨o1, o2, o3, o4⟩ := f7 k l1 l2 h
              exact ⟨by rw [j4 k e1]; exact o1, by rw [k8 k e1]; exact o2, fun x x1 x2 => by rw [k7 k x l1 l2 e1 x1 x2]; exact o3 x x1 x2, fun x x1 x2 => by rw [k10 k x l1 l2 e1 x1 x2]; exact o4 x x1 x2⟩
        · right; exact h
      rcases sk.1 with s0 | s0
      · rw [if_pos s0] at hcP
        rw [if_pos s0] at hM
        subst hcP
        dsimp only at hC
        rw [if_neg (show ¬ (1 : Int) = 0 by decide)] at hC
        exact fin p2 t1 0 ft (by omega) (by omega) u1 (fun _ _ => rfl) C hC M hM
      · rw [if_neg (show ¬ r2 = 0 by omega)] at hcP
        rw [if_neg (show ¬ r2 = 0 by omega)] at hM
        have eN2 := e_number mth mn p2 mw mu md mo t1 tf 1 30 hw (by omega) hmn ⟨by omega, by omega⟩ hf
        have nM2 := e_numM mn p2 t1 tf hmn ⟨by omega, by omega⟩ hf 1 30
        generalize f_XT_number mn p2 t1 tf 1 30 = c3 at hcP eN2 nM2
        obtain ⟨r3, p3, t3⟩ := c3
        generalize f_XM_numberP mth mn p2 mw mu md mo tf 1 30 = m3 at hM eN2
        obtain ⟨s3, q3, v3⟩ := m3
        unfold eNum at eN2
        dsimp only at hcP hM eN2 nM2
        rcases eN2 with ⟨b1, b2, b3⟩ | ⟨b1, b2⟩
        · cases b2
          rw [if_neg (show ¬ r3 = -1 by omega), f_XB_tellParent_s] at hcP
          subst hcP
          dsimp only at hC
          rw [if_neg (show ¬ (1 : Int) = 0 by decide)] at hC
          exact fin p3 t3 r3 (jset ft r r3) (by omega) (by omega) (by unfold jset; rw [if_pos rfl]) (fun k hk => by unfold jset; rw [if_neg hk]) C hC M hM
        · rw [if_pos b1] at hcP
          subst hcP
          dsimp only at hC
          rw [if_pos rfl] at hC
          right
          refine ⟨Or.inl (by rw [hC]), ?_⟩
          rw [hM]
          exact e_J70L mth mn mp mw mu md mo tf mw y1 y2 y3 y4 y5 y6 y7 r s3 hw hmn q3 v3 b2
    · rw [if_neg (fun h => g (hkn.mp h)), f_XT_refuseLast_s] at hC
      right
      refine ⟨Or.inl (by rw [hC]), ?_⟩
      rw [if_neg (show ¬ y1 (31 + r) = 0 by omega), e_fail _ _ _ _ _ _ _ _ hw] at hM
      rw [hM]
      exact e_J37L mth mn mp mw mu md mo tf y1 y2 y3 y4 y5 y6 y7 hw hmn r p1 (p1 - 1) (Or.inl (by omega))
  · rw [if_pos a1] at hC
    right
    refine ⟨Or.inl (by rw [hC]), ?_⟩
    rcases a2 with a2 | ⟨a2, a3, a4⟩
    · rw [if_neg (show ¬ v1 < 0 by omega)] at hM
      rw [hM]
      exact e_J37L mth mn mp mw mu md mo tf y1 y2 y3 y4 y5 y6 y7 hw hmn s1 q1 v1 (Or.inl a2)
    · rw [if_pos (show v1 < 0 by omega)] at hM
      by_cases g : y1 (31 + s1) = 0
      · rw [if_pos g] at hM
        rw [hM]
        exact e_J37L mth mn mp mw mu md mo tf y1 y2 y3 y4 y5 y6 y7 hw hmn s1 q1 v1 (Or.inr ⟨a2, a3, a4⟩)
      · rw [if_neg g, e_fail _ _ _ _ _ _ _ _ (show v1 < 0 by omega)] at hM
        rw [hM]
        by_cases g2 : 0 ≤ q1 - 1
        · exact e_J37L mth mn mp mw mu md mo tf y1 y2 y3 y4 y5 y6 y7 hw hmn s1 q1 (q1 - 1) (Or.inl g2)
        · exact e_J37L mth mn mp mw mu md mo tf y1 y2 y3 y4 y5 y6 y7 hw hmn s1 q1 (q1 - 1) (Or.inr ⟨by omega, a3, a4⟩)
end EQ12
end
section
/-! arrays filled, copied -/
def kfill (f : Int → Int) (a b v : Int) : Int → Int := fun i => if a ≤ i ∧ i < b then v else f i
def kcp (f : Int → Int) (n k : Int) : Int → Int := fun i => if 0 ≤ i ∧ i < k then f (n + i) else f i
theorem kfill_zero (f : Int → Int) (a v : Int) : kfill f a a v = f := by
  funext i; unfold kfill; rw [if_neg (by omega)]
theorem kfill_step (f : Int → Int) (a b v : Int) (h : a ≤ b) : jset (kfill f a b v) b v = kfill f a (b + 1) v := by
  funext i; unfold jset kfill
  by_cases q : i = b
  · rw [if_pos q, if_pos (by omega)]
  · rw [if_neg q]
    by_cases r : a ≤ i ∧ i < b
    · rw [if_pos r, if_pos (by omega)]
    · rw [if_neg r, if_neg (by omega)]
theorem kfill_b (f : Int → Int) (a b v lo hi : Int) (hf : ∀ i, lo ≤ f i ∧ f i ≤ hi) (hv : lo ≤ v ∧ v ≤ hi) : ∀ i, lo ≤ kfill f a b v i ∧ kfill f a b v i ≤ hi := by
  intro i; unfold kfill; split
  · exact hv
  · exact hf i
theorem kfill_l {f : Int → Int} {a b v c : Int} (h : c ≤ a) : ∀ i, i < c → kfill f a b v i = f i := by
  intro i hi; unfold kfill; rw [if_neg (by omega)]
theorem kcp_zero (f : Int → Int) (n : Int) : kcp f n 0 = f := by
  funext i; unfold kcp; rw [if_neg (by omega)]
theorem kcp_step (f : Int → Int) (n k : Int) (h : 0 ≤ k ∧ k < n) : jset (kcp f n k) k (kcp f n k (n + k)) = kcp f n (k + 1) := by
  have e1 : kcp f n k (n + k) = f (n + k) := by unfold kcp; rw [if_neg (by omega)]
  rw [e1]
  funext i; unfold jset kcp
  by_cases q : i = k
  · rw [if_pos q, if_pos (by omega), q]
  · rw [if_neg q]
    by_cases r : 0 ≤ i ∧ i < k
    · rw [if_pos r, if_pos (by omega)]
    · rw [if_neg r, if_neg (by omega)]
theorem kcp_b (f : Int → Int) (n k lo hi : Int) (hf : ∀ i, lo ≤ f i ∧ f i ≤ hi) : ∀ i, lo ≤ kcp f n k i ∧ kcp f n k i ≤ hi := by
  intro i; unfold kcp; split
  · exact hf (n + i)
  · exact hf i
set_option maxHeartbeats 4000000 in
set_option maxRecDepth 100000 in
theorem c_XM_forgetC (l : Launch) (dC : Nat → ClassId) (dI : Nat → Nat → Nat) (cA cZ : ClassId) (sz : Nat) (ma : Nat) (a0 : Nat) (a1 : Nat) (a2 : Nat) (a3 : Nat) (a4 : Nat) (a5 : Nat) (a6 : Nat) (a7 : Nat) (a8 : Nat) (a9 : Nat) (a10 : Nat) (a11 : Nat) (mth : Int) (mn : Int) (mp : Int) (mw : Int) (mu : Int) (md : Int) (mo : Int) (y1 : Int → Int) (y2 : Int → Int) (y3 : Int → Int) (y6 : Int → Int) (y7 : Int → Int) (y8 : Int → Int) (y9 : Int → Int) (z1 : Int) (hz1 : 0 ≤ z1 ∧ z1 ≤ 1) : Met l yXM_forget (Cond.code yXM_forget cXM_forget 4 none :: TBL) ({ frames := 0, cells := 0, slots := 0, locals := 0 } : Room) (va_Pc [.ref ma, .int (jI z1)] (jBw (dC, dI) [(cA, .int), (cZ, .boolean)] [(ma, .inr (5, [.int (jI mth), .int (jI mn), .ref a0, .int (jI mp), .int (jI mw), .ref a1, .ref a2, .ref a3, .ref a4, .ref a5, .ref a6, .ref a7, .ref a8, .ref a9, .ref a10, .long (jL mu), .long (jL md), .int (jI mo), .ref a11])), (a1, .inl (cZ, 62, .inl (jA y1))), (a2, .inl (cA, 62, .inl (jA y2))), (a3, .inl (cZ, 496, .inl (jA y3))), (a6, .inl (cA, 62, .inl (jA y6))), (a7, .inl (cA, 248, .inl (jA y7))), (a8, .inl (cZ, 8, .inl (jA y8))), (a9, .inl (cA, 64, .inl (jA y9)))] sz)) (va_Qv (fun (u : (Int → Int) × (Int → Int) × (Int → Int) × (Int → Int) × (Int → Int) × (Int → Int) × (Int → Int)) => (u.1 = kfill y1 (31 * z1) (31 * z1 + 31) 0) ∧ (u.2.1 = kfill y2 (31 * z1) (31 * z1 + 31) 0) ∧ (u.2.2.1 = kfill y3 (248 * z1) (248 * z1 + 248) 0) ∧ (u.2.2.2.1 = kfill y6 (31 * z1) (31 * z1 + 31) 0) ∧ (u.2.2.2.2.1 = kfill y7 (124 * z1) (124 * z1 + 124) (-1)) ∧ (u.2.2.2.2.2.1 = kfill y8 (4 * z1) (4 * z1 + 4) 0) ∧ (u.2.2.2.2.2.2 = kfill y9 (32 * z1) (32 * z1 + 32) 0)) (fun u t => jE (dC, dI) [(cA, .int), (cZ, .boolean)] [(ma, .inr (5, [.int (jI mth), .int (jI mn), .ref a0, .int (jI mp), .int (jI mw), .ref a1, .ref a2, .ref a3, .ref a4, .ref a5, .ref a6, .ref a7, .ref a8, .ref a9, .ref a10, .long (jL mu), .long (jL md), .int (jI mo), .ref a11])), (a1, .inl (cZ, 62, .inl (jA y1))), (a2, .inl (cA, 62, .inl (jA y2))), (a3, .inl (cZ, 496, .inl (jA y3))), (a6, .inl (cA, 62, .inl (jA y6))), (a7, .inl (cA, 248, .inl (jA y7))), (a8, .inl (cZ, 8, .inl (jA y8))), (a9, .inl (cA, 64, .inl (jA y9)))] sz [(ma, .inr (5, [.int (jI mth), .int (jI mn), .ref a0, .int (jI mp), .int (jI mw), .ref a1, .ref a2, .ref a3, .ref a4, .ref a5, .ref a6, .ref a7, .ref a8, .ref a9, .ref a10, .long (jL mu), .long (jL md), .int (jI mo), .ref a11])), (a1, .inl (cZ, 62, .inl (jA u.1))), (a2, .inl (cA, 62, .inl (jA u.2.1))), (a3, .inl (cZ, 496, .inl (jA u.2.2.1))), (a6, .inl (cA, 62, .inl (jA u.2.2.2.1))), (a7, .inl (cA, 248, .inl (jA u.2.2.2.2.1))), (a8, .inl (cZ, 8, .inl (jA u.2.2.2.2.2.1))), (a9, .inl (cA, 64, .inl (jA u.2.2.2.2.2.2)))] t) (va_A [(ma, .inr (5, [.int (jI mth), .int (jI mn), .ref a0, .int (jI mp), .int (jI mw), .ref a1, .ref a2, .ref a3, .ref a4, .ref a5, .ref a6, .ref a7, .ref a8, .ref a9, .ref a10, .long (jL mu), .long (jL md), .int (jI mo), .ref a11])), (a1, .inl (cZ, 62, .inl (jA y1))), (a2, .inl (cA, 62, .inl (jA y2))), (a3, .inl (cZ, 496, .inl (jA y3))), (a6, .inl (cA, 62, .inl (jA y6))), (a7, .inl (cA, 248, .inl (jA y7))), (a8, .inl (cZ, 8, .inl (jA y8))), (a9, .inl (cA, 64, .inl (jA y9)))] sz)) 0 0 (va_A [(ma, .inr (5, [.int (jI mth), .int (jI mn), .ref a0, .int (jI mp), .int (jI mw), .ref a1, .ref a2, .ref a3, .ref a4, .ref a5, .ref a6, .ref a7, .ref a8, .ref a9, .ref a10, .long (jL mu), .long (jL md), .int (jI mo), .ref a11])), (a1, .inl (cZ, 62, .inl (jA y1))), (a2, .inl (cA, 62, .inl (jA y2))), (a3, .inl (cZ, 496, .inl (jA y3))), (a6, .inl (cA, 62, .inl (jA y6))), (a7, .inl (cA, 248, .inl (jA y7))), (a8, .inl (cZ, 8, .inl (jA y8))), (a9, .inl (cA, 64, .inl (jA y9)))] sz) := by
  refine jMet (cc := cXM_forget) (maxL := 4) (ret := none) (by decide) rfl ?_
  intro p e s m args below meth c s₁ R Q hR hQ B hml hv
  obtain ⟨rfl, hsz, hP, hK, hD0, hN⟩ := hv
  have hx := B.exec
  have hb := B.bytes
  have hr := B.returns
  have hts := atoms_spec (ws := Cond.code yXM_forget cXM_forget 4 none :: TBL) B.pre
  have hown : s.vm.findClass RXM = some m.cls := findClass_of_methodNamed B.named
  have hlocks := B.notSynchronized
  subst hsz
  obtain ⟨A, hAe⟩ : ∃ A, A = va_A [(ma, .inr (5, [.int (jI mth), .int (jI mn), .ref a0, .int (jI mp), .int (jI mw), .ref a1, .ref a2, .ref a3, .ref a4, .ref a5, .ref a6, .ref a7, .ref a8, .ref a9, .ref a10, .long (jL mu), .long (jL md), .int (jI mo), .ref a11])), (a1, .inl (cZ, 62, .inl (jA y1))), (a2, .inl (cA, 62, .inl (jA y2))), (a3, .inl (cZ, 496, .inl (jA y3))), (a6, .inl (cA, 62, .inl (jA y6))), (a7, .inl (cA, 248, .inl (jA y7))), (a8, .inl (cZ, 8, .inl (jA y8))), (a9, .inl (cA, 64, .inl (jA y9)))] s.heap.size := ⟨_, rfl⟩
  have hD : va_D A [(ma, .inr (5, [.int (jI mth), .int (jI mn), .ref a0, .int (jI mp), .int (jI mw), .ref a1, .ref a2, .ref a3, .ref a4, .ref a5, .ref a6, .ref a7, .ref a8, .ref a9, .ref a10, .long (jL mu), .long (jL md), .int (jI mo), .ref a11])), (a1, .inl (cZ, 62, .inl (jA y1))), (a2, .inl (cA, 62, .inl (jA y2))), (a3, .inl (cZ, 496, .inl (jA y3))), (a6, .inl (cA, 62, .inl (jA y6))), (a7, .inl (cA, 248, .inl (jA y7))), (a8, .inl (cZ, 8, .inl (jA y8))), (a9, .inl (cA, 64, .inl (jA y9)))] := by rw [hAe]; exact hD0.self
  have hA : ∀ q : Nat, s.heap.size ≤ q → A q := fun q h => by rw [hAe]; exact Or.inr h
  have hS : va_S A s.heap s.heap [] := va_S.rf
  have hP : va_P (dC, dI) vwCl [(ma, .inr (5, [.int (jI mth), .int (jI mn), .ref a0, .int (jI mp), .int (jI mw), .ref a1, .ref a2, .ref a3, .ref a4, .ref a5, .ref a6, .ref a7, .ref a8, .ref a9, .ref a10, .long (jL mu), .long (jL md), .int (jI mo), .ref a11])), (a1, .inl (cZ, 62, .inl (jA y1))), (a2, .inl (cA, 62, .inl (jA y2))), (a3, .inl (cZ, 496, .inl (jA y3))), (a6, .inl (cA, 62, .inl (jA y6))), (a7, .inl (cA, 248, .inl (jA y7))), (a8, .inl (cZ, 8, .inl (jA y8))), (a9, .inl (cA, 64, .inl (jA y9)))] s.heap := hP
  have hl := lv_entry ([.ref ma, .int (jI z1)]) (n := 4) (Nat.le_of_ble_eq_true rfl)
  rw [lg_entry_eq]
  generalize (lg_sl ([.ref ma, .int (jI z1)]) ++ List.replicate (4 - (lg_sl ([.ref ma, .int (jI z1)])).length) Slot.unset).toArray = ls at hl ⊢
  have hl : lv_has ls 4 [(0, .ref ma), (1, .int (jI z1))] := hl
  refine ji_bipush hx hb dXM_forget_0 (by decide) ?_
  refine lv_iload_n hx hb dXM_forget_2 rfl (lv_at hl 1 rfl) ?_
  refine ji_imul hx hb dXM_forget_3 ?_
  refine lv_istore_n (lv' := [(2, .int (jI (31 * z1))), (0, .ref ma), (1, .int (jI z1))]) hx hb dXM_forget_4 rfl hl (by decide) rfl (fun ls hl => ?_)
  have loop5 : ∀ (n9 : Nat) (k : Int) (w1a : Int → Int) (w2a : Int → Int) (w3a : Int → Int) (w6a : Int → Int) (w7a : Int → Int) , 31 * (z1 + 1) - k < (n9 : Int) → (31 * z1 ≤ k ∧ k ≤ 31 * (z1 + 1)) → (w1a = kfill y1 (31 * z1) (k) 0) → (w2a = kfill y2 (31 * z1) (k) 0) → (w6a = kfill y6 (31 * z1) (k) 0) → (w3a = kfill y3 (248 * z1) (8 * k) 0) → (w7a = kfill y7 (124 * z1) (4 * k) (-1)) → ∀ (H : Heap) (locs : List Loc), va_P (dC, dI) vwCl [(ma, .inr (5, [.int (jI mth), .int (jI mn), .ref a0, .int (jI mp), .int (jI mw), .ref a1, .ref a2, .ref a3, .ref a4, .ref a5, .ref a6, .ref a7, .ref a8, .ref a9, .ref a10, .long (jL mu), .long (jL md), .int (jI mo), .ref a11])), (a1, .inl (cZ, 62, .inl (jA w1a))), (a2, .inl (cA, 62, .inl (jA w2a))), (a3, .inl (cZ, 496, .inl (jA w3a))), (a6, .inl (cA, 62, .inl (jA w6a))), (a7, .inl (cA, 248, .inl (jA w7a))), (a8, .inl (cZ, 8, .inl (jA y8))), (a9, .inl (cA, 64, .inl (jA y9)))] H → va_D A [(ma, .inr (5, [.int (jI mth), .int (jI mn), .ref a0, .int (jI mp), .int (jI mw), .ref a1, .ref a2, .ref a3, .ref a4, .ref a5, .ref a6, .ref a7, .ref a8, .ref a9, .ref a10, .long (jL mu), .long (jL md), .int (jI mo), .ref a11])), (a1, .inl (cZ, 62, .inl (jA w1a))), (a2, .inl (cA, 62, .inl (jA w2a))), (a3, .inl (cZ, 496, .inl (jA w3a))), (a6, .inl (cA, 62, .inl (jA w6a))), (a7, .inl (cA, 248, .inl (jA w7a))), (a8, .inl (cZ, 8, .inl (jA y8))), (a9, .inl (cA, 64, .inl (jA y9)))] → va_S A s.heap H locs → ∀ ls : Array Slot, lv_has ls 4 [(2, .int (jI k)), (0, .ref ma), (1, .int (jI z1))] → W p l e R s m ([.ref ma, .int (jI z1)] : List Value).toArray below meth c H locs 0 0 Q (F0 m 5 ls []) := by
    intro n9
    induction n9 with
    | zero =>
      intro k w1a w2a w3a w6a w7a hm hk e1 e2 e6 e3 e7
      exact absurd hm (by omega)
    | succ n9 ih5 =>
      intro k w1a w2a w3a w6a w7a hm hk e1 e2 e6 e3 e7 H locs hP hD hS ls hl
      refine lv_iload_n hx hb dXM_forget_5 rfl (lv_at hl 0 rfl) ?_
      refine ji_bipush hx hb dXM_forget_6 (by decide) ?_
      refine lv_iload_n hx hb dXM_forget_8 rfl (lv_at hl 2 rfl) ?_
      refine ji_iconst hx hb dXM_forget_9 ?_
      refine ji_iadd hx hb dXM_forget_10 ?_
      refine ji_imul hx hb dXM_forget_11 ?_
      refine ji_icmp_ge (tgt := 92) hx hb dXM_forget_12 (by decide) (by first | omega | decide) (by first | omega | decide) (fun c12_ => ?_) (fun c12_ => ?_)
      · refine ji_iconst hx hb dXM_forget_92 ?_
        refine lv_iload_n hx hb dXM_forget_93 rfl (lv_at hl 2 rfl) ?_
        refine ji_imul hx hb dXM_forget_94 ?_
        refine lv_istore_n (lv' := [(2, .int (jI (4 * z1))), (0, .ref ma), (1, .int (jI z1))]) hx hb dXM_forget_95 rfl hl (by decide) rfl (fun ls hl => ?_)
        have loop96 : ∀ (n9 : Nat) (k5 : Int) (w8d : Int → Int) (w9d : Int → Int) , 4 * (z1 + 1) - k5 < (n9 : Int) → (4 * z1 ≤ k5 ∧ k5 ≤ 4 * (z1 + 1)) → (w8d = kfill y8 (4 * z1) (k5) 0) → (w9d = kfill y9 (32 * z1) (8 * k5) 0) → ∀ (H : Heap) (locs : List Loc), va_P (dC, dI) vwCl [(ma, .inr (5, [.int (jI mth), .int (jI mn), .ref a0, .int (jI mp), .int (jI mw), .ref a1, .ref a2, .ref a3, .ref a4, .ref a5, .ref a6, .ref a7, .ref a8, .ref a9, .ref a10, .long (jL mu), .long (jL md), .int (jI mo), .ref a11])), (a1, .inl (cZ, 62, .inl (jA w1a))), (a2, .inl (cA, 62, .inl (jA w2a))), (a3, .inl (cZ, 496, .inl (jA w3a))), (a6, .inl (cA, 62, .inl (jA w6a))), (a7, .inl (cA, 248, .inl (jA w7a))), (a8, .inl (cZ, 8, .inl (jA w8d))), (a9, .inl (cA, 64, .inl (jA w9d)))] H → va_D A [(ma, .inr (5, [.int (jI mth), .int (jI mn), .ref a0, .int (jI mp), .int (jI mw), .ref a1, .ref a2, .ref a3, .ref a4, .ref a5, .ref a6, .ref a7, .ref a8, .ref a9, .ref a10, .long (jL mu), .long (jL md), .int (jI mo), .ref a11])), (a1, .inl (cZ, 62, .inl (jA w1a))), (a2, .inl (cA, 62, .inl (jA w2a))), (a3, .inl (cZ, 496, .inl (jA w3a))), (a6, .inl (cA, 62, .inl (jA w6a))), (a7, .inl (cA, 248, .inl (jA w7a))), (a8, .inl (cZ, 8, .inl (jA w8d))), (a9, .inl (cA, 64, .inl (jA w9d)))] → va_S A s.heap H locs → ∀ ls : Array Slot, lv_has ls 4 [(2, .int (jI k5)), (0, .ref ma), (1, .int (jI z1))] → W p l e R s m ([.ref ma, .int (jI z1)] : List Value).toArray below meth c H locs 0 0 Q (F0 m 96 ls []) := by
          intro n9
          induction n9 with
          | zero =>
            intro k5 w8d w9d hm hk5 e8 e9
            exact absurd hm (by omega)
          | succ n9 ih96 =>
            intro k5 w8d w9d hm hk5 e8 e9 H locs hP hD hS ls hl
            refine lv_iload_n hx hb dXM_forget_96 rfl (lv_at hl 0 rfl) ?_
            refine ji_iconst hx hb dXM_forget_97 ?_
            refine lv_iload_n hx hb dXM_forget_98 rfl (lv_at hl 2 rfl) ?_
            refine ji_iconst hx hb dXM_forget_99 ?_
            refine ji_iadd hx hb dXM_forget_100 ?_
            refine ji_imul hx hb dXM_forget_101 ?_
            refine ji_icmp_ge (tgt := 144) hx hb dXM_forget_102 (by decide) (by first | omega | decide) (by first | omega | decide) (fun c102_ => ?_) (fun c102_ => ?_)
            · have hP9 := hP.sub (ws' := [(ma, .inr (5, [.int (jI mth), .int (jI mn), .ref a0, .int (jI mp), .int (jI mw), .ref a1, .ref a2, .ref a3, .ref a4, .ref a5, .ref a6, .ref a7, .ref a8, .ref a9, .ref a10, .long (jL mu), .long (jL md), .int (jI mo), .ref a11])), (a1, .inl (cZ, 62, .inl (jA w1a))), (a2, .inl (cA, 62, .inl (jA w2a))), (a3, .inl (cZ, 496, .inl (jA w3a))), (a6, .inl (cA, 62, .inl (jA w6a))), (a7, .inl (cA, 248, .inl (jA w7a))), (a8, .inl (cZ, 8, .inl (jA w8d))), (a9, .inl (cA, 64, .inl (jA w9d)))]) [0, 1, 2, 3, 4, 5, 6, 7] rfl
              have hD9 := hD.sub (ws' := [(ma, .inr (5, [.int (jI mth), .int (jI mn), .ref a0, .int (jI mp), .int (jI mw), .ref a1, .ref a2, .ref a3, .ref a4, .ref a5, .ref a6, .ref a7, .ref a8, .ref a9, .ref a10, .long (jL mu), .long (jL md), .int (jI mo), .ref a11])), (a1, .inl (cZ, 62, .inl (jA w1a))), (a2, .inl (cA, 62, .inl (jA w2a))), (a3, .inl (cZ, 496, .inl (jA w3a))), (a6, .inl (cA, 62, .inl (jA w6a))), (a7, .inl (cA, 248, .inl (jA w7a))), (a8, .inl (cZ, 8, .inl (jA w8d))), (a9, .inl (cA, 64, .inl (jA w9d)))]) [0, 1, 2, 3, 4, 5, 6, 7] (by decide) rfl
              subst hAe
              subst hQ
              exact W.vret hx hb hr (fun t ht hW => ⟨⟨(w1a, w2a, w3a, w6a, w7a, w8d, w9d), rfl, ⟨(show w1a = kfill y1 (31 * z1) (31 * z1 + 31) 0 from by rw [e1, show k = 31 * z1 + 31 by omega]), (show w2a = kfill y2 (31 * z1) (31 * z1 + 31) 0 from by rw [e2, show k = 31 * z1 + 31 by omega]), (show w3a = kfill y3 (248 * z1) (248 * z1 + 248) 0 from by rw [e3, show 8 * k = 248 * z1 + 248 by omega]), (show w6a = kfill y6 (31 * z1) (31 * z1 + 31) 0 from by rw [e6, show k = 31 * z1 + 31 by omega]), (show w7a = kfill y7 (124 * z1) (124 * z1 + 124) (-1) from by rw [e7, show 4 * k = 124 * z1 + 124 by omega]), (show w8d = kfill y8 (4 * z1) (4 * z1 + 4) 0 from by rw [e8, show k5 = 4 * z1 + 4 by omega]), (show w9d = kfill y9 (32 * z1) (32 * z1 + 32) 0 from by rw [e9, show 8 * k5 = 32 * z1 + 32 by omega])⟩, ⟨by rw [ht]; exact hP9, va_K.moved hW.alike hK, hD9⟩⟩, hS.F ht⟩) hS.2.2 dXM_forget_144
            · refine lv_aload_n hx hb dXM_forget_105 rfl (lv_at hl 1 rfl) ?_
              refine va_get (D := (dC, dI)) (ci := 5) (v := .ref a8) (C := RXM) (T := TXM) (N := 19) hx hb hts (fun w h => jmem (inXM w h)) hown hK hP 0 rfl rfl 12 (by decide) (hts _ (jmem tw_640)) (fun _ h9 => h9) rfl dXM_forget_106 ?_
              refine lv_iload_n hx hb dXM_forget_109 rfl (lv_at hl 0 rfl) ?_
              refine ji_iconst hx hb dXM_forget_110 ?_
              refine ji_zast hx hb hK hP hD hS 6 1 rfl rfl (by first | decide | omega) ⟨by omega, by omega⟩ (by decide) dXM_forget_111 (fun H locs hP hD hS => ?_)
              have hP : va_P (dC, dI) vwCl [(ma, .inr (5, [.int (jI mth), .int (jI mn), .ref a0, .int (jI mp), .int (jI mw), .ref a1, .ref a2, .ref a3, .ref a4, .ref a5, .ref a6, .ref a7, .ref a8, .ref a9, .ref a10, .long (jL mu), .long (jL md), .int (jI mo), .ref a11])), (a1, .inl (cZ, 62, .inl (jA w1a))), (a2, .inl (cA, 62, .inl (jA w2a))), (a3, .inl (cZ, 496, .inl (jA w3a))), (a6, .inl (cA, 62, .inl (jA w6a))), (a7, .inl (cA, 248, .inl (jA w7a))), (a8, .inl (cZ, 8, .inl (jA (jset w8d k5 0)))), (a9, .inl (cA, 64, .inl (jA w9d)))] H := hP
              have hD : va_D A [(ma, .inr (5, [.int (jI mth), .int (jI mn), .ref a0, .int (jI mp), .int (jI mw), .ref a1, .ref a2, .ref a3, .ref a4, .ref a5, .ref a6, .ref a7, .ref a8, .ref a9, .ref a10, .long (jL mu), .long (jL md), .int (jI mo), .ref a11])), (a1, .inl (cZ, 62, .inl (jA w1a))), (a2, .inl (cA, 62, .inl (jA w2a))), (a3, .inl (cZ, 496, .inl (jA w3a))), (a6, .inl (cA, 62, .inl (jA w6a))), (a7, .inl (cA, 248, .inl (jA w7a))), (a8, .inl (cZ, 8, .inl (jA (jset w8d k5 0)))), (a9, .inl (cA, 64, .inl (jA w9d)))] := hD
              refine ji_iconst hx hb dXM_forget_112 ?_
              refine lv_istore_n (lv' := [(3, .int (jI 0)), (2, .int (jI k5)), (0, .ref ma), (1, .int (jI z1))]) hx hb dXM_forget_113 rfl hl (by decide) rfl (fun ls hl => ?_)
              have loop114 : ∀ (n9 : Nat) (k6 : Int) (w9e : Int → Int) , 8 - k6 < (n9 : Int) → (0 ≤ k6 ∧ k6 ≤ 8) → (w9e = kfill y9 (32 * z1) (8 * k5 + k6) 0) → ∀ (H : Heap) (locs : List Loc), va_P (dC, dI) vwCl [(ma, .inr (5, [.int (jI mth), .int (jI mn), .ref a0, .int (jI mp), .int (jI mw), .ref a1, .ref a2, .ref a3, .ref a4, .ref a5, .ref a6, .ref a7, .ref a8, .ref a9, .ref a10, .long (jL mu), .long (jL md), .int (jI mo), .ref a11])), (a1, .inl (cZ, 62, .inl (jA w1a))), (a2, .inl (cA, 62, .inl (jA w2a))), (a3, .inl (cZ, 496, .inl (jA w3a))), (a6, .inl (cA, 62, .inl (jA w6a))), (a7, .inl (cA, 248, .inl (jA w7a))), (a8, .inl (cZ, 8, .inl (jA (jset w8d k5 0)))), (a9, .inl (cA, 64, .inl (jA w9e)))] H → va_D A [(ma, .inr (5, [.int (jI mth), .int (jI mn), .ref a0, .int (jI mp), .int (jI mw), .ref a1, .ref a2, .ref a3, .ref a4, .ref a5, .ref a6, .ref a7, .ref a8, .ref a9, .ref a10, .long (jL mu), .long (jL md), .int (jI mo), .ref a11])), (a1, .inl (cZ, 62, .inl (jA w1a))), (a2, .inl (cA, 62, .inl (jA w2a))), (a3, .inl (cZ, 496, .inl (jA w3a))), (a6, .inl (cA, 62, .inl (jA w6a))), (a7, .inl (cA, 248, .inl (jA w7a))), (a8, .inl (cZ, 8, .inl (jA (jset w8d k5 0)))), (a9, .inl (cA, 64, .inl (jA w9e)))] → va_S A s.heap H locs → ∀ ls : Array Slot, lv_has ls 4 [(3, .int (jI k6)), (2, .int (jI k5)), (0, .ref ma), (1, .int (jI z1))] → W p l e R s m ([.ref ma, .int (jI z1)] : List Value).toArray below meth c H locs 0 0 Q (F0 m 114 ls []) := by
                intro n9
                induction n9 with
                | zero =>
                  intro k6 w9e hm hk6 g9
                  exact absurd hm (by omega)
                | succ n9 ih114 =>
                  intro k6 w9e hm hk6 g9 H locs hP hD hS ls hl
                  refine lv_iload_n hx hb dXM_forget_114 rfl (lv_at hl 0 rfl) ?_
                  refine ji_bipush hx hb dXM_forget_115 (by decide) ?_
                  refine ji_icmp_ge (tgt := 138) hx hb dXM_forget_117 (by decide) (by first | omega | decide) (by first | omega | decide) (fun c117_ => ?_) (fun c117_ => ?_)
                  · refine ji_iinc (k := 1) (lv' := [(2, .int (jI (k5 + 1))), (3, .int (jI k6)), (0, .ref ma), (1, .int (jI z1))]) hx hb dXM_forget_138 hl rfl (by decide) rfl (fun ls hl => ?_)
                    refine lv_goto (tgt := 96) hx hb dXM_forget_141 (by decide) ?_
                    exact ih96 (k5 + 1) (jset w8d k5 0) w9e (by omega) (by first | assumption | omega | exact jset_b (by assumption) (by omega)) (by rw [e8]; exact kfill_step _ _ _ _ (by omega)) (by rw [g9, show 8 * k5 + k6 = 8 * (k5 + 1) by omega]) _ _ hP hD hS ls (lv_sub hl [0, 2, 3] rfl)
                  · refine lv_aload_n hx hb dXM_forget_120 rfl (lv_at hl 2 rfl) ?_
                    refine va_get (D := (dC, dI)) (ci := 5) (v := .ref a9) (C := RXM) (T := TXM) (N := 19) hx hb hts (fun w h => jmem (inXM w h)) hown hK hP 0 rfl rfl 13 (by decide) (hts _ (jmem tw_641)) (fun _ h9 => h9) rfl dXM_forget_121 ?_
                    refine ji_bipush hx hb dXM_forget_124 (by decide) ?_
                    refine lv_iload_n hx hb dXM_forget_126 rfl (lv_at hl 1 rfl) ?_
                    refine ji_imul hx hb dXM_forget_127 ?_
                    refine lv_iload_n hx hb dXM_forget_128 rfl (lv_at hl 0 rfl) ?_
                    refine ji_iadd hx hb dXM_forget_129 ?_
                    refine ji_iconst hx hb dXM_forget_130 ?_
                    refine ji_iast hx hb hK hP hD hS 7 0 rfl rfl ⟨by omega, by omega⟩ (by decide) dXM_forget_131 (fun H locs hP hD hS => ?_)
                    have hP : va_P (dC, dI) vwCl [(ma, .inr (5, [.int (jI mth), .int (jI mn), .ref a0, .int (jI mp), .int (jI mw), .ref a1, .ref a2, .ref a3, .ref a4, .ref a5, .ref a6, .ref a7, .ref a8, .ref a9, .ref a10, .long (jL mu), .long (jL md), .int (jI mo), .ref a11])), (a1, .inl (cZ, 62, .inl (jA w1a))), (a2, .inl (cA, 62, .inl (jA w2a))), (a3, .inl (cZ, 496, .inl (jA w3a))), (a6, .inl (cA, 62, .inl (jA w6a))), (a7, .inl (cA, 248, .inl (jA w7a))), (a8, .inl (cZ, 8, .inl (jA (jset w8d k5 0)))), (a9, .inl (cA, 64, .inl (jA (jset w9e ((8 * k5) + k6) 0))))] H := hP
                    have hD : va_D A [(ma, .inr (5, [.int (jI mth), .int (jI mn), .ref a0, .int (jI mp), .int (jI mw), .ref a1, .ref a2, .ref a3, .ref a4, .ref a5, .ref a6, .ref a7, .ref a8, .ref a9, .ref a10, .long (jL mu), .long (jL md), .int (jI mo), .ref a11])), (a1, .inl (cZ, 62, .inl (jA w1a))), (a2, .inl (cA, 62, .inl (jA w2a))), (a3, .inl (cZ, 496, .inl (jA w3a))), (a6, .inl (cA, 62, .inl (jA w6a))), (a7, .inl (cA, 248, .inl (jA w7a))), (a8, .inl (cZ, 8, .inl (jA (jset w8d k5 0)))), (a9, .inl (cA, 64, .inl (jA (jset w9e ((8 * k5) + k6) 0))))] := hD
                    refine ji_iinc (k := 0) (lv' := [(3, .int (jI (k6 + 1))), (2, .int (jI k5)), (0, .ref ma), (1, .int (jI z1))]) hx hb dXM_forget_132 hl rfl (by decide) rfl (fun ls hl => ?_)
                    refine lv_goto (tgt := 114) hx hb dXM_forget_135 (by decide) ?_
                    exact ih114 (k6 + 1) (jset w9e ((8 * k5) + k6) 0) (by omega) (by first | assumption | omega | exact jset_b (by assumption) (by omega)) (by rw [g9, show 8 * k5 + (k6 + 1) = 8 * k5 + k6 + 1 by omega]; exact kfill_step _ _ _ _ (by omega)) _ _ hP hD hS ls (lv_sub hl [0, 1, 2, 3] rfl)
              exact loop114 (Int.toNat (8 - 0) + 1) 0 w9d (by omega) (by first | assumption | omega | exact jset_b (by assumption) (by omega)) (by rw [e9, show 8 * k5 + 0 = 8 * k5 by omega]) _ _ hP hD hS ls (lv_sub hl [0, 1, 2, 3] rfl)
        exact loop96 (Int.toNat (4 * (z1 + 1) - (4 * z1)) + 1) (4 * z1) y8 y9 (by omega) (by first | assumption | omega | exact jset_b (by assumption) (by omega)) ((kfill_zero _ _ _).symm) (by rw [show 8 * (4 * z1) = 32 * z1 by omega]; exact (kfill_zero _ _ _).symm) _ _ hP hD hS ls (lv_sub hl [0, 1, 2] rfl)
      · refine lv_aload_n hx hb dXM_forget_15 rfl (lv_at hl 1 rfl) ?_
        refine va_get (D := (dC, dI)) (ci := 5) (v := .ref a1) (C := RXM) (T := TXM) (N := 19) hx hb hts (fun w h => jmem (inXM w h)) hown hK hP 0 rfl rfl 5 (by decide) (hts _ (jmem tw_633)) (fun _ h9 => h9) rfl dXM_forget_16 ?_
        refine lv_iload_n hx hb dXM_forget_19 rfl (lv_at hl 0 rfl) ?_
        refine ji_iconst hx hb dXM_forget_20 ?_
        refine ji_zast hx hb hK hP hD hS 1 1 rfl rfl (by first | decide | omega) ⟨by omega, by omega⟩ (by decide) dXM_forget_21 (fun H locs hP hD hS => ?_)
        have hP : va_P (dC, dI) vwCl [(ma, .inr (5, [.int (jI mth), .int (jI mn), .ref a0, .int (jI mp), .int (jI mw), .ref a1, .ref a2, .ref a3, .ref a4, .ref a5, .ref a6, .ref a7, .ref a8, .ref a9, .ref a10, .long (jL mu), .long (jL md), .int (jI mo), .ref a11])), (a1, .inl (cZ, 62, .inl (jA (jset w1a k 0)))), (a2, .inl (cA, 62, .inl (jA w2a))), (a3, .inl (cZ, 496, .inl (jA w3a))), (a6, .inl (cA, 62, .inl (jA w6a))), (a7, .inl (cA, 248, .inl (jA w7a))), (a8, .inl (cZ, 8, .inl (jA y8))), (a9, .inl (cA, 64, .inl (jA y9)))] H := hP
        have hD : va_D A [(ma, .inr (5, [.int (jI mth), .int (jI mn), .ref a0, .int (jI mp), .int (jI mw), .ref a1, .ref a2, .ref a3, .ref a4, .ref a5, .ref a6, .ref a7, .ref a8, .ref a9, .ref a10, .long (jL mu), .long (jL md), .int (jI mo), .ref a11])), (a1, .inl (cZ, 62, .inl (jA (jset w1a k 0)))), (a2, .inl (cA, 62, .inl (jA w2a))), (a3, .inl (cZ, 496, .inl (jA w3a))), (a6, .inl (cA, 62, .inl (jA w6a))), (a7, .inl (cA, 248, .inl (jA w7a))), (a8, .inl (cZ, 8, .inl (jA y8))), (a9, .inl (cA, 64, .inl (jA y9)))] := hD
        refine lv_aload_n hx hb dXM_forget_22 rfl (lv_at hl 1 rfl) ?_
        refine va_get (D := (dC, dI)) (ci := 5) (v := .ref a2) (C := RXM) (T := TXM) (N := 19) hx hb hts (fun w h => jmem (inXM w h)) hown hK hP 0 rfl rfl 6 (by decide) (hts _ (jmem tw_634)) (fun _ h9 => h9) rfl dXM_forget_23 ?_
        refine lv_iload_n hx hb dXM_forget_26 rfl (lv_at hl 0 rfl) ?_
        refine ji_iconst hx hb dXM_forget_27 ?_
        refine ji_iast hx hb hK hP hD hS 2 0 rfl rfl ⟨by omega, by omega⟩ (by decide) dXM_forget_28 (fun H locs hP hD hS => ?_)
        have hP : va_P (dC, dI) vwCl [(ma, .inr (5, [.int (jI mth), .int (jI mn), .ref a0, .int (jI mp), .int (jI mw), .ref a1, .ref a2, .ref a3, .ref a4, .ref a5, .ref a6, .ref a7, .ref a8, .ref a9, .ref a10, .long (jL mu), .long (jL md), .int (jI mo), .ref a11])), (a1, .inl (cZ, 62, .inl (jA (jset w1a k 0)))), (a2, .inl (cA, 62, .inl (jA (jset w2a k 0)))), (a3, .inl (cZ, 496, .inl (jA w3a))), (a6, .inl (cA, 62, .inl (jA w6a))), (a7, .inl (cA, 248, .inl (jA w7a))), (a8, .inl (cZ, 8, .inl (jA y8))), (a9, .inl (cA, 64, .inl (jA y9)))] H := hP
        have hD : va_D A [(ma, .inr (5, [.int (jI mth), .int (jI mn), .ref a0, .int (jI mp), .int (jI mw), .ref a1, .ref a2, .ref a3, .ref a4, .ref a5, .ref a6, .ref a7, .ref a8, .ref a9, .ref a10, .long (jL mu), .long (jL md), .int (jI mo), .ref a11])), (a1, .inl (cZ, 62, .inl (jA (jset w1a k 0)))), (a2, .inl (cA, 62, .inl (jA (jset w2a k 0)))), (a3, .inl (cZ, 496, .inl (jA w3a))), (a6, .inl (cA, 62, .inl (jA w6a))), (a7, .inl (cA, 248, .inl (jA w7a))), (a8, .inl (cZ, 8, .inl (jA y8))), (a9, .inl (cA, 64, .inl (jA y9)))] := hD
        refine lv_aload_n hx hb dXM_forget_29 rfl (lv_at hl 1 rfl) ?_
        refine va_get (D := (dC, dI)) (ci := 5) (v := .ref a6) (C := RXM) (T := TXM) (N := 19) hx hb hts (fun w h => jmem (inXM w h)) hown hK hP 0 rfl rfl 10 (by decide) (hts _ (jmem tw_638)) (fun _ h9 => h9) rfl dXM_forget_30 ?_
        refine lv_iload_n hx hb dXM_forget_33 rfl (lv_at hl 0 rfl) ?_
        refine ji_iconst hx hb dXM_forget_34 ?_
        refine ji_iast hx hb hK hP hD hS 4 0 rfl rfl ⟨by omega, by omega⟩ (by decide) dXM_forget_35 (fun H locs hP hD hS => ?_)
        have hP : va_P (dC, dI) vwCl [(ma, .inr (5, [.int (jI mth), .int (jI mn), .ref a0, .int (jI mp), .int (jI mw), .ref a1, .ref a2, .ref a3, .ref a4, .ref a5, .ref a6, .ref a7, .ref a8, .ref a9, .ref a10, .long (jL mu), .long (jL md), .int (jI mo), .ref a11])), (a1, .inl (cZ, 62, .inl (jA (jset w1a k 0)))), (a2, .inl (cA, 62, .inl (jA (jset w2a k 0)))), (a3, .inl (cZ, 496, .inl (jA w3a))), (a6, .inl (cA, 62, .inl (jA (jset w6a k 0)))), (a7, .inl (cA, 248, .inl (jA w7a))), (a8, .inl (cZ, 8, .inl (jA y8))), (a9, .inl (cA, 64, .inl (jA y9)))] H := hP
        have hD : va_D A [(ma, .inr (5, [.int (jI mth), .int (jI mn), .ref a0, .int (jI mp), .int (jI mw), .ref a1, .ref a2, .ref a3, .ref a4, .ref a5, .ref a6, .ref a7, .ref a8, .ref a9, .ref a10, .long (jL mu), .long (jL md), .int (jI mo), .ref a11])), (a1, .inl (cZ, 62, .inl (jA (jset w1a k 0)))), (a2, .inl (cA, 62, .inl (jA (jset w2a k 0)))), (a3, .inl (cZ, 496, .inl (jA w3a))), (a6, .inl (cA, 62, .inl (jA (jset w6a k 0)))), (a7, .inl (cA, 248, .inl (jA w7a))), (a8, .inl (cZ, 8, .inl (jA y8))), (a9, .inl (cA, 64, .inl (jA y9)))] := hD
        refine ji_iconst hx hb dXM_forget_36 ?_
        refine lv_istore_n (lv' := [(3, .int (jI 0)), (2, .int (jI k)), (0, .ref ma), (1, .int (jI z1))]) hx hb dXM_forget_37 rfl hl (by decide) rfl (fun ls hl => ?_)
        have loop38 : ∀ (n9 : Nat) (k3 : Int) (w3b : Int → Int) , 8 - k3 < (n9 : Int) → (0 ≤ k3 ∧ k3 ≤ 8) → (w3b = kfill y3 (248 * z1) (8 * k + k3) 0) → ∀ (H : Heap) (locs : List Loc), va_P (dC, dI) vwCl [(ma, .inr (5, [.int (jI mth), .int (jI mn), .ref a0, .int (jI mp), .int (jI mw), .ref a1, .ref a2, .ref a3, .ref a4, .ref a5, .ref a6, .ref a7, .ref a8, .ref a9, .ref a10, .long (jL mu), .long (jL md), .int (jI mo), .ref a11])), (a1, .inl (cZ, 62, .inl (jA (jset w1a k 0)))), (a2, .inl (cA, 62, .inl (jA (jset w2a k 0)))), (a3, .inl (cZ, 496, .inl (jA w3b))), (a6, .inl (cA, 62, .inl (jA (jset w6a k 0)))), (a7, .inl (cA, 248, .inl (jA w7a))), (a8, .inl (cZ, 8, .inl (jA y8))), (a9, .inl (cA, 64, .inl (jA y9)))] H → va_D A [(ma, .inr (5, [.int (jI mth), .int (jI mn), .ref a0, .int (jI mp), .int (jI mw), .ref a1, .ref a2, .ref a3, .ref a4, .ref a5, .ref a6, .ref a7, .ref a8, .ref a9, .ref a10, .long (jL mu), .long (jL md), .int (jI mo), .ref a11])), (a1, .inl (cZ, 62, .inl (jA (jset w1a k 0)))), (a2, .inl (cA, 62, .inl (jA (jset w2a k 0)))), (a3, .inl (cZ, 496, .inl (jA w3b))), (a6, .inl (cA, 62, .inl (jA (jset w6a k 0)))), (a7, .inl (cA, 248, .inl (jA w7a))), (a8, .inl (cZ, 8, .inl (jA y8))), (a9, .inl (cA, 64, .inl (jA y9)))] → va_S A s.heap H locs → ∀ ls : Array Slot, lv_has ls 4 [(3, .int (jI k3)), (2, .int (jI k)), (0, .ref ma), (1, .int (jI z1))] → W p l e R s m ([.ref ma, .int (jI z1)] : List Value).toArray below meth c H locs 0 0 Q (F0 m 38 ls []) := by
          intro n9
          induction n9 with
          | zero =>
            intro k3 w3b hm hk3 g3
            exact absurd hm (by omega)
          | succ n9 ih38 =>
            intro k3 w3b hm hk3 g3 H locs hP hD hS ls hl
            refine lv_iload_n hx hb dXM_forget_38 rfl (lv_at hl 0 rfl) ?_
            refine ji_bipush hx hb dXM_forget_39 (by decide) ?_
            refine ji_icmp_ge (tgt := 62) hx hb dXM_forget_41 (by decide) (by first | omega | decide) (by first | omega | decide) (fun c41_ => ?_) (fun c41_ => ?_)
            · refine ji_iconst hx hb dXM_forget_62 ?_
              refine lv_istore_n (lv' := [(3, .int (jI 0)), (2, .int (jI k)), (0, .ref ma), (1, .int (jI z1))]) hx hb dXM_forget_63 rfl hl (by decide) rfl (fun ls hl => ?_)
              have loop64 : ∀ (n9 : Nat) (k4 : Int) (w7c : Int → Int) , 4 - k4 < (n9 : Int) → (0 ≤ k4 ∧ k4 ≤ 4) → (w7c = kfill y7 (124 * z1) (4 * k + k4) (-1)) → ∀ (H : Heap) (locs : List Loc), va_P (dC, dI) vwCl [(ma, .inr (5, [.int (jI mth), .int (jI mn), .ref a0, .int (jI mp), .int (jI mw), .ref a1, .ref a2, .ref a3, .ref a4, .ref a5, .ref a6, .ref a7, .ref a8, .ref a9, .ref a10, .long (jL mu), .long (jL md), .int (jI mo), .ref a11])), (a1, .inl (cZ, 62, .inl (jA (jset w1a k 0)))), (a2, .inl (cA, 62, .inl (jA (jset w2a k 0)))), (a3, .inl (cZ, 496, .inl (jA w3b))), (a6, .inl (cA, 62, .inl (jA (jset w6a k 0)))), (a7, .inl (cA, 248, .inl (jA w7c))), (a8, .inl (cZ, 8, .inl (jA y8))), (a9, .inl (cA, 64, .inl (jA y9)))] H → va_D A [(ma, .inr (5, [.int (jI mth), .int (jI mn), .ref a0, .int (jI mp), .int (jI mw), .ref a1, .ref a2, .ref a3, .ref a4, .ref a5, .ref a6, .ref a7, .ref a8, .ref a9, .ref a10, .long (jL mu), .long (jL md), .int (jI mo), .ref a11])), (a1, .inl (cZ, 62, .inl (jA (jset w1a k 0)))), (a2, .inl (cA, 62, .inl (jA (jset w2a k 0)))), (a3, .inl (cZ, 496, .inl (jA w3b))), (a6, .inl (cA, 62, .inl (jA (jset w6a k 0)))), (a7, .inl (cA, 248, .inl (jA w7c))), (a8, .inl (cZ, 8, .inl (jA y8))), (a9, .inl (cA, 64, .inl (jA y9)))] → va_S A s.heap H locs → ∀ ls : Array Slot, lv_has ls 4 [(3, .int (jI k4)), (2, .int (jI k)), (0, .ref ma), (1, .int (jI z1))] → W p l e R s m ([.ref ma, .int (jI z1)] : List Value).toArray below meth c H locs 0 0 Q (F0 m 64 ls []) := by
                intro n9
                induction n9 with
                | zero =>
                  intro k4 w7c hm hk4 g7
                  exact absurd hm (by omega)
                | succ n9 ih64 =>
                  intro k4 w7c hm hk4 g7 H locs hP hD hS ls hl
                  refine lv_iload_n hx hb dXM_forget_64 rfl (lv_at hl 0 rfl) ?_
                  refine ji_iconst hx hb dXM_forget_65 ?_
                  refine ji_icmp_ge (tgt := 86) hx hb dXM_forget_66 (by decide) (by first | omega | decide) (by first | omega | decide) (fun c66_ => ?_) (fun c66_ => ?_)
                  · refine ji_iinc (k := 1) (lv' := [(2, .int (jI (k + 1))), (3, .int (jI k4)), (0, .ref ma), (1, .int (jI z1))]) hx hb dXM_forget_86 hl rfl (by decide) rfl (fun ls hl => ?_)
                    refine lv_goto (tgt := 5) hx hb dXM_forget_89 (by decide) ?_
                    exact ih5 (k + 1) (jset w1a k 0) (jset w2a k 0) w3b (jset w6a k 0) w7c (by omega) (by first | assumption | omega | exact jset_b (by assumption) (by omega)) (by rw [e1]; exact kfill_step _ _ _ _ (by omega)) (by rw [e2]; exact kfill_step _ _ _ _ (by omega)) (by rw [e6]; exact kfill_step _ _ _ _ (by omega)) (by rw [g3, show 8 * k + k3 = 8 * (k + 1) by omega]) (by rw [g7, show 4 * k + k4 = 4 * (k + 1) by omega]) _ _ hP hD hS ls (lv_sub hl [0, 2, 3] rfl)
                  · refine lv_aload_n hx hb dXM_forget_69 rfl (lv_at hl 2 rfl) ?_
                    refine va_get (D := (dC, dI)) (ci := 5) (v := .ref a7) (C := RXM) (T := TXM) (N := 19) hx hb hts (fun w h => jmem (inXM w h)) hown hK hP 0 rfl rfl 11 (by decide) (hts _ (jmem tw_639)) (fun _ h9 => h9) rfl dXM_forget_70 ?_
                    refine ji_iconst hx hb dXM_forget_73 ?_
                    refine lv_iload_n hx hb dXM_forget_74 rfl (lv_at hl 1 rfl) ?_
                    refine ji_imul hx hb dXM_forget_75 ?_
                    refine lv_iload_n hx hb dXM_forget_76 rfl (lv_at hl 0 rfl) ?_
                    refine ji_iadd hx hb dXM_forget_77 ?_
                    refine ji_iconst hx hb dXM_forget_78 ?_
                    refine ji_iast hx hb hK hP hD hS 5 0 rfl rfl ⟨by omega, by omega⟩ (by decide) dXM_forget_79 (fun H locs hP hD hS => ?_)
                    have hP : va_P (dC, dI) vwCl [(ma, .inr (5, [.int (jI mth), .int (jI mn), .ref a0, .int (jI mp), .int (jI mw), .ref a1, .ref a2, .ref a3, .ref a4, .ref a5, .ref a6, .ref a7, .ref a8, .ref a9, .ref a10, .long (jL mu), .long (jL md), .int (jI mo), .ref a11])), (a1, .inl (cZ, 62, .inl (jA (jset w1a k 0)))), (a2, .inl (cA, 62, .inl (jA (jset w2a k 0)))), (a3, .inl (cZ, 496, .inl (jA w3b))), (a6, .inl (cA, 62, .inl (jA (jset w6a k 0)))), (a7, .inl (cA, 248, .inl (jA (jset w7c ((4 * k) + k4) (-1))))), (a8, .inl (cZ, 8, .inl (jA y8))), (a9, .inl (cA, 64, .inl (jA y9)))] H := hP
                    have hD : va_D A [(ma, .inr (5, [.int (jI mth), .int (jI mn), .ref a0, .int (jI mp), .int (jI mw), .ref a1, .ref a2, .ref a3, .ref a4, .ref a5, .ref a6, .ref a7, .ref a8, .ref a9, .ref a10, .long (jL mu), .long (jL md), .int (jI mo), .ref a11])), (a1, .inl (cZ, 62, .inl (jA (jset w1a k 0)))), (a2, .inl (cA, 62, .inl (jA (jset w2a k 0)))), (a3, .inl (cZ, 496, .inl (jA w3b))), (a6, .inl (cA, 62, .inl (jA (jset w6a k 0)))), (a7, .inl (cA, 248, .inl (jA (jset w7c ((4 * k) + k4) (-1))))), (a8, .inl (cZ, 8, .inl (jA y8))), (a9, .inl (cA, 64, .inl (jA y9)))] := hD
                    refine ji_iinc (k := 0) (lv' := [(3, .int (jI (k4 + 1))), (2, .int (jI k)), (0, .ref ma), (1, .int (jI z1))]) hx hb dXM_forget_80 hl rfl (by decide) rfl (fun ls hl => ?_)
                    refine lv_goto (tgt := 64) hx hb dXM_forget_83 (by decide) ?_
                    exact ih64 (k4 + 1) (jset w7c ((4 * k) + k4) (-1)) (by omega) (by first | assumption | omega | exact jset_b (by assumption) (by omega)) (by rw [g7, show 4 * k + (k4 + 1) = 4 * k + k4 + 1 by omega]; exact kfill_step _ _ _ _ (by omega)) _ _ hP hD hS ls (lv_sub hl [0, 1, 2, 3] rfl)
              exact loop64 (Int.toNat (4 - 0) + 1) 0 w7a (by omega) (by first | assumption | omega | exact jset_b (by assumption) (by omega)) (by rw [e7, show 4 * k + 0 = 4 * k by omega]) _ _ hP hD hS ls (lv_sub hl [0, 1, 2, 3] rfl)
            · refine lv_aload_n hx hb dXM_forget_44 rfl (lv_at hl 2 rfl) ?_
              refine va_get (D := (dC, dI)) (ci := 5) (v := .ref a3) (C := RXM) (T := TXM) (N := 19) hx hb hts (fun w h => jmem (inXM w h)) hown hK hP 0 rfl rfl 7 (by decide) (hts _ (jmem tw_635)) (fun _ h9 => h9) rfl dXM_forget_45 ?_
              refine ji_bipush hx hb dXM_forget_48 (by decide) ?_
              refine lv_iload_n hx hb dXM_forget_50 rfl (lv_at hl 1 rfl) ?_
              refine ji_imul hx hb dXM_forget_51 ?_
              refine lv_iload_n hx hb dXM_forget_52 rfl (lv_at hl 0 rfl) ?_
              refine ji_iadd hx hb dXM_forget_53 ?_
              refine ji_iconst hx hb dXM_forget_54 ?_
              refine ji_zast hx hb hK hP hD hS 3 1 rfl rfl (by first | decide | omega) ⟨by omega, by omega⟩ (by decide) dXM_forget_55 (fun H locs hP hD hS => ?_)
              have hP : va_P (dC, dI) vwCl [(ma, .inr (5, [.int (jI mth), .int (jI mn), .ref a0, .int (jI mp), .int (jI mw), .ref a1, .ref a2, .ref a3, .ref a4, .ref a5, .ref a6, .ref a7, .ref a8, .ref a9, .ref a10, .long (jL mu), .long (jL md), .int (jI mo), .ref a11])), (a1, .inl (cZ, 62, .inl (jA (jset w1a k 0)))), (a2, .inl (cA, 62, .inl (jA (jset w2a k 0)))), (a3, .inl (cZ, 496, .inl (jA (jset w3b ((8 * k) + k3) 0)))), (a6, .inl (cA, 62, .inl (jA (jset w6a k 0)))), (a7, .inl (cA, 248, .inl (jA w7a))), (a8, .inl (cZ, 8, .inl (jA y8))), (a9, .inl (cA, 64, .inl (jA y9)))] H := hP
              have hD : va_D A [(ma, .inr (5, [.int (jI mth), .int (jI mn), .ref a0, .int (jI mp), .int (jI mw), .ref a1, .ref a2, .ref a3, .ref a4, .ref a5, .ref a6, .ref a7, .ref a8, .ref a9, .ref a10, .long (jL mu), .long (jL md), .int (jI mo), .ref a11])), (a1, .inl (cZ, 62, .inl (jA (jset w1a k 0)))), (a2, .inl (cA, 62, .inl (jA (jset w2a k 0)))), (a3, .inl (cZ, 496, .inl (jA (jset w3b ((8 * k) + k3) 0)))), (a6, .inl (cA, 62, .inl (jA (jset w6a k 0)))), (a7, .inl (cA, 248, .inl (jA w7a))), (a8, .inl (cZ, 8, .inl (jA y8))), (a9, .inl (cA, 64, .inl (jA y9)))] := hD
              refine ji_iinc (k := 0) (lv' := [(3, .int (jI (k3 + 1))), (2, .int (jI k)), (0, .ref ma), (1, .int (jI z1))]) hx hb dXM_forget_56 hl rfl (by decide) rfl (fun ls hl => ?_)
              refine lv_goto (tgt := 38) hx hb dXM_forget_59 (by decide) ?_
              exact ih38 (k3 + 1) (jset w3b ((8 * k) + k3) 0) (by omega) (by first | assumption | omega | exact jset_b (by assumption) (by omega)) (by rw [g3, show 8 * k + (k3 + 1) = 8 * k + k3 + 1 by omega]; exact kfill_step _ _ _ _ (by omega)) _ _ hP hD hS ls (lv_sub hl [0, 1, 2, 3] rfl)
        exact loop38 (Int.toNat (8 - 0) + 1) 0 w3a (by omega) (by first | assumption | omega | exact jset_b (by assumption) (by omega)) (by rw [e3, show 8 * k + 0 = 8 * k by omega]) _ _ hP hD hS ls (lv_sub hl [0, 1, 2, 3] rfl)
  exact loop5 (Int.toNat (31 * (z1 + 1) - (31 * z1)) + 1) (31 * z1) y1 y2 y3 y6 y7 (by omega) (by first | assumption | omega | exact jset_b (by assumption) (by omega)) ((kfill_zero _ _ _).symm) ((kfill_zero _ _ _).symm) ((kfill_zero _ _ _).symm) (by rw [show 8 * (31 * z1) = 248 * z1 by omega]; exact (kfill_zero _ _ _).symm) (by rw [show 4 * (31 * z1) = 124 * z1 by omega]; exact (kfill_zero _ _ _).symm) _ _ hP hD hS ls (lv_sub hl [0, 1, 2] rfl)
set_option maxHeartbeats 4000000 in
set_option maxRecDepth 100000 in
theorem c_XM_copyC (l : Launch) (dC : Nat → ClassId) (dI : Nat → Nat → Nat) (cA cZ : ClassId) (sz : Nat) (ma : Nat) (a0 : Nat) (a1 : Nat) (a2 : Nat) (a3 : Nat) (a4 : Nat) (a5 : Nat) (a6 : Nat) (a7 : Nat) (a8 : Nat) (a9 : Nat) (a10 : Nat) (a11 : Nat) (mth : Int) (mn : Int) (mp : Int) (mw : Int) (mu : Int) (md : Int) (mo : Int) (y1 : Int → Int) (y2 : Int → Int) (y3 : Int → Int) (y4 : Int → Int) (y5 : Int → Int) (y6 : Int → Int) (y7 : Int → Int) (y8 : Int → Int) (y9 : Int → Int) (hy1 : ∀ i, 0 ≤ y1 i ∧ y1 i ≤ 1) (hy3 : ∀ i, 0 ≤ y3 i ∧ y3 i ≤ 1) (hy8 : ∀ i, 0 ≤ y8 i ∧ y8 i ≤ 1) : Met l yXM_copy (Cond.code yXM_copy cXM_copy 2 none :: TBL) ({ frames := 0, cells := 0, slots := 0, locals := 0 } : Room) (va_Pc [.ref ma] (jBw (dC, dI) [(cA, .int), (cZ, .boolean)] [(ma, .inr (5, [.int (jI mth), .int (jI mn), .ref a0, .int (jI mp), .int (jI mw), .ref a1, .ref a2, .ref a3, .ref a4, .ref a5, .ref a6, .ref a7, .ref a8, .ref a9, .ref a10, .long (jL mu), .long (jL md), .int (jI mo), .ref a11])), (a1, .inl (cZ, 62, .inl (jA y1))), (a2, .inl (cA, 62, .inl (jA y2))), (a3, .inl (cZ, 496, .inl (jA y3))), (a4, .inl (cA, 496, .inl (jA y4))), (a5, .inl (cA, 496, .inl (jA y5))), (a6, .inl (cA, 62, .inl (jA y6))), (a7, .inl (cA, 248, .inl (jA y7))), (a8, .inl (cZ, 8, .inl (jA y8))), (a9, .inl (cA, 64, .inl (jA y9)))] sz)) (va_Qv (fun (u : (Int → Int) × (Int → Int) × (Int → Int) × (Int → Int) × (Int → Int) × (Int → Int) × (Int → Int) × (Int → Int) × (Int → Int)) => (u.1 = kcp y1 31 31) ∧ (u.2.1 = kcp y2 31 31) ∧ (u.2.2.1 = kcp y3 248 248) ∧ (u.2.2.2.1 = kcp y4 248 248) ∧ (u.2.2.2.2.1 = kcp y5 248 248) ∧ (u.2.2.2.2.2.1 = kcp y6 31 31) ∧ (u.2.2.2.2.2.2.1 = kcp y7 124 124) ∧ (u.2.2.2.2.2.2.2.1 = kcp y8 4 4) ∧ (u.2.2.2.2.2.2.2.2 = kcp y9 32 32)) (fun u t => jE (dC, dI) [(cA, .int), (cZ, .boolean)] [(ma, .inr (5, [.int (jI mth), .int (jI mn), .ref a0, .int (jI mp), .int (jI mw), .ref a1, .ref a2, .ref a3, .ref a4, .ref a5, .ref a6, .ref a7, .ref a8, .ref a9, .ref a10, .long (jL mu), .long (jL md), .int (jI mo), .ref a11])), (a1, .inl (cZ, 62, .inl (jA y1))), (a2, .inl (cA, 62, .inl (jA y2))), (a3, .inl (cZ, 496, .inl (jA y3))), (a4, .inl (cA, 496, .inl (jA y4))), (a5, .inl (cA, 496, .inl (jA y5))), (a6, .inl (cA, 62, .inl (jA y6))), (a7, .inl (cA, 248, .inl (jA y7))), (a8, .inl (cZ, 8, .inl (jA y8))), (a9, .inl (cA, 64, .inl (jA y9)))] sz [(ma, .inr (5, [.int (jI mth), .int (jI mn), .ref a0, .int (jI mp), .int (jI mw), .ref a1, .ref a2, .ref a3, .ref a4, .ref a5, .ref a6, .ref a7, .ref a8, .ref a9, .ref a10, .long (jL mu), .long (jL md), .int (jI mo), .ref a11])), (a1, .inl (cZ, 62, .inl (jA u.1))), (a2, .inl (cA, 62, .inl (jA u.2.1))), (a3, .inl (cZ, 496, .inl (jA u.2.2.1))), (a4, .inl (cA, 496, .inl (jA u.2.2.2.1))), (a5, .inl (cA, 496, .inl (jA u.2.2.2.2.1))), (a6, .inl (cA, 62, .inl (jA u.2.2.2.2.2.1))), (a7, .inl (cA, 248, .inl (jA u.2.2.2.2.2.2.1))), (a8, .inl (cZ, 8, .inl (jA u.2.2.2.2.2.2.2.1))), (a9, .inl (cA, 64, .inl (jA u.2.2.2.2.2.2.2.2)))] t) (va_A [(ma, .inr (5, [.int (jI mth), .int (jI mn), .ref a0, .int (jI mp), .int (jI mw), .ref a1, .ref a2, .ref a3, .ref a4, .ref a5, .ref a6, .ref a7, .ref a8, .ref a9, .ref a10, .long (jL mu), .long (jL md), .int (jI mo), .ref a11])), (a1, .inl (cZ, 62, .inl (jA y1))), (a2, .inl (cA, 62, .inl (jA y2))), (a3, .inl (cZ, 496, .inl (jA y3))), (a4, .inl (cA, 496, .inl (jA y4))), (a5, .inl (cA, 496, .inl (jA y5))), (a6, .inl (cA, 62, .inl (jA y6))), (a7, .inl (cA, 248, .inl (jA y7))), (a8, .inl (cZ, 8, .inl (jA y8))), (a9, .inl (cA, 64, .inl (jA y9)))] sz)) 0 0 (va_A [(ma, .inr (5, [.int (jI mth), .int (jI mn), .ref a0, .int (jI mp), .int (jI mw), .ref a1, .ref a2, .ref a3, .ref a4, .ref a5, .ref a6, .ref a7, .ref a8, .ref a9, .ref a10, .long (jL mu), .long (jL md), .int (jI mo), .ref a11])), (a1, .inl (cZ, 62, .inl (jA y1))), (a2, .inl (cA, 62, .inl (jA y2))), (a3, .inl (cZ, 496, .inl (jA y3))), (a4, .inl (cA, 496, .inl (jA y4))), (a5, .inl (cA, 496, .inl (jA y5))), (a6, .inl (cA, 62, .inl (jA y6))), (a7, .inl (cA, 248, .inl (jA y7))), (a8, .inl (cZ, 8, .inl (jA y8))), (a9, .inl (cA, 64, .inl (jA y9)))] sz) := by
  refine jMet (cc := cXM_copy) (maxL := 2) (ret := none) (by decide) rfl ?_
  intro p e s m args below meth c s₁ R Q hR hQ B hml hv
  obtain ⟨rfl, hsz, hP, hK, hD0, hN⟩ := hv
  have hx := B.exec
  have hb := B.bytes
  have hr := B.returns
  have hts := atoms_spec (ws := Cond.code yXM_copy cXM_copy 2 none :: TBL) B.pre
  have hown : s.vm.findClass RXM = some m.cls := findClass_of_methodNamed B.named
  have hlocks := B.notSynchronized
  subst hsz
  obtain ⟨A, hAe⟩ : ∃ A, A = va_A [(ma, .inr (5, [.int (jI mth), .int (jI mn), .ref a0, .int (jI mp), .int (jI mw), .ref a1, .ref a2, .ref a3, .ref a4, .ref a5, .ref a6, .ref a7, .ref a8, .ref a9, .ref a10, .long (jL mu), .long (jL md), .int (jI mo), .ref a11])), (a1, .inl (cZ, 62, .inl (jA y1))), (a2, .inl (cA, 62, .inl (jA y2))), (a3, .inl (cZ, 496, .inl (jA y3))), (a4, .inl (cA, 496, .inl (jA y4))), (a5, .inl (cA, 496, .inl (jA y5))), (a6, .inl (cA, 62, .inl (jA y6))), (a7, .inl (cA, 248, .inl (jA y7))), (a8, .inl (cZ, 8, .inl (jA y8))), (a9, .inl (cA, 64, .inl (jA y9)))] s.heap.size := ⟨_, rfl⟩
  have hD : va_D A [(ma, .inr (5, [.int (jI mth), .int (jI mn), .ref a0, .int (jI mp), .int (jI mw), .ref a1, .ref a2, .ref a3, .ref a4, .ref a5, .ref a6, .ref a7, .ref a8, .ref a9, .ref a10, .long (jL mu), .long (jL md), .int (jI mo), .ref a11])), (a1, .inl (cZ, 62, .inl (jA y1))), (a2, .inl (cA, 62, .inl (jA y2))), (a3, .inl (cZ, 496, .inl (jA y3))), (a4, .inl (cA, 496, .inl (jA y4))), (a5, .inl (cA, 496, .inl (jA y5))), (a6, .inl (cA, 62, .inl (jA y6))), (a7, .inl (cA, 248, .inl (jA y7))), (a8, .inl (cZ, 8, .inl (jA y8))), (a9, .inl (cA, 64, .inl (jA y9)))] := by rw [hAe]; exact hD0.self
  have hA : ∀ q : Nat, s.heap.size ≤ q → A q := fun q h => by rw [hAe]; exact Or.inr h
  have hS : va_S A s.heap s.heap [] := va_S.rf
  have hP : va_P (dC, dI) vwCl [(ma, .inr (5, [.int (jI mth), .int (jI mn), .ref a0, .int (jI mp), .int (jI mw), .ref a1, .ref a2, .ref a3, .ref a4, .ref a5, .ref a6, .ref a7, .ref a8, .ref a9, .ref a10, .long (jL mu), .long (jL md), .int (jI mo), .ref a11])), (a1, .inl (cZ, 62, .inl (jA y1))), (a2, .inl (cA, 62, .inl (jA y2))), (a3, .inl (cZ, 496, .inl (jA y3))), (a4, .inl (cA, 496, .inl (jA y4))), (a5, .inl (cA, 496, .inl (jA y5))), (a6, .inl (cA, 62, .inl (jA y6))), (a7, .inl (cA, 248, .inl (jA y7))), (a8, .inl (cZ, 8, .inl (jA y8))), (a9, .inl (cA, 64, .inl (jA y9)))] s.heap := hP
  have hl := lv_entry ([.ref ma]) (n := 2) (Nat.le_of_ble_eq_true rfl)
  rw [lg_entry_eq]
  generalize (lg_sl ([.ref ma]) ++ List.replicate (2 - (lg_sl ([.ref ma])).length) Slot.unset).toArray = ls at hl ⊢
  have hl : lv_has ls 2 [(0, .ref ma)] := hl
  refine ji_iconst hx hb dXM_copy_0 ?_
  refine lv_istore_n (lv' := [(1, .int (jI 0)), (0, .ref ma)]) hx hb dXM_copy_1 rfl hl (by decide) rfl (fun ls hl => ?_)
  have loop2 : ∀ (n9 : Nat) (kA : Int) (w1A : Int → Int) (w2A : Int → Int) (w6A : Int → Int) , 31 - kA < (n9 : Int) → (0 ≤ kA ∧ kA ≤ 31) → (w1A = kcp y1 31 kA) → (w2A = kcp y2 31 kA) → (w6A = kcp y6 31 kA) → ∀ (H : Heap) (locs : List Loc), va_P (dC, dI) vwCl [(ma, .inr (5, [.int (jI mth), .int (jI mn), .ref a0, .int (jI mp), .int (jI mw), .ref a1, .ref a2, .ref a3, .ref a4, .ref a5, .ref a6, .ref a7, .ref a8, .ref a9, .ref a10, .long (jL mu), .long (jL md), .int (jI mo), .ref a11])), (a1, .inl (cZ, 62, .inl (jA w1A))), (a2, .inl (cA, 62, .inl (jA w2A))), (a3, .inl (cZ, 496, .inl (jA y3))), (a4, .inl (cA, 496, .inl (jA y4))), (a5, .inl (cA, 496, .inl (jA y5))), (a6, .inl (cA, 62, .inl (jA w6A))), (a7, .inl (cA, 248, .inl (jA y7))), (a8, .inl (cZ, 8, .inl (jA y8))), (a9, .inl (cA, 64, .inl (jA y9)))] H → va_D A [(ma, .inr (5, [.int (jI mth), .int (jI mn), .ref a0, .int (jI mp), .int (jI mw), .ref a1, .ref a2, .ref a3, .ref a4, .ref a5, .ref a6, .ref a7, .ref a8, .ref a9, .ref a10, .long (jL mu), .long (jL md), .int (jI mo), .ref a11])), (a1, .inl (cZ, 62, .inl (jA w1A))), (a2, .inl (cA, 62, .inl (jA w2A))), (a3, .inl (cZ, 496, .inl (jA y3))), (a4, .inl (cA, 496, .inl (jA y4))), (a5, .inl (cA, 496, .inl (jA y5))), (a6, .inl (cA, 62, .inl (jA w6A))), (a7, .inl (cA, 248, .inl (jA y7))), (a8, .inl (cZ, 8, .inl (jA y8))), (a9, .inl (cA, 64, .inl (jA y9)))] → va_S A s.heap H locs → ∀ ls : Array Slot, lv_has ls 2 [(1, .int (jI kA)), (0, .ref ma)] → W p l e R s m ([.ref ma] : List Value).toArray below meth c H locs 0 0 Q (F0 m 2 ls []) := by
    intro n9
    induction n9 with
    | zero =>
      intro kA w1A w2A w6A hm hkA e1 e2 e6
      exact absurd hm (by omega)
    | succ n9 ih2 =>
      intro kA w1A w2A w6A hm hkA e1 e2 e6 H locs hP hD hS ls hl
      refine lv_iload_n hx hb dXM_copy_2 rfl (lv_at hl 0 rfl) ?_
      refine ji_bipush hx hb dXM_copy_3 (by decide) ?_
      refine ji_icmp_ge (tgt := 59) hx hb dXM_copy_5 (by decide) (by first | omega | decide) (by first | omega | decide) (fun c5_ => ?_) (fun c5_ => ?_)
      · refine ji_iconst hx hb dXM_copy_59 ?_
        refine lv_istore_n (lv' := [(1, .int (jI 0)), (0, .ref ma)]) hx hb dXM_copy_60 rfl hl (by decide) rfl (fun ls hl => ?_)
        have loop61 : ∀ (n9 : Nat) (kB : Int) (w3B : Int → Int) (w4B : Int → Int) (w5B : Int → Int) , 248 - kB < (n9 : Int) → (0 ≤ kB ∧ kB ≤ 248) → (w3B = kcp y3 248 kB) → (w4B = kcp y4 248 kB) → (w5B = kcp y5 248 kB) → ∀ (H : Heap) (locs : List Loc), va_P (dC, dI) vwCl [(ma, .inr (5, [.int (jI mth), .int (jI mn), .ref a0, .int (jI mp), .int (jI mw), .ref a1, .ref a2, .ref a3, .ref a4, .ref a5, .ref a6, .ref a7, .ref a8, .ref a9, .ref a10, .long (jL mu), .long (jL md), .int (jI mo), .ref a11])), (a1, .inl (cZ, 62, .inl (jA w1A))), (a2, .inl (cA, 62, .inl (jA w2A))), (a3, .inl (cZ, 496, .inl (jA w3B))), (a4, .inl (cA, 496, .inl (jA w4B))), (a5, .inl (cA, 496, .inl (jA w5B))), (a6, .inl (cA, 62, .inl (jA w6A))), (a7, .inl (cA, 248, .inl (jA y7))), (a8, .inl (cZ, 8, .inl (jA y8))), (a9, .inl (cA, 64, .inl (jA y9)))] H → va_D A [(ma, .inr (5, [.int (jI mth), .int (jI mn), .ref a0, .int (jI mp), .int (jI mw), .ref a1, .ref a2, .ref a3, .ref a4, .ref a5, .ref a6, .ref a7, .ref a8, .ref a9, .ref a10, .long (jL mu), .long (jL md), .int (jI mo), .ref a11])), (a1, .inl (cZ, 62, .inl (jA w1A))), (a2, .inl (cA, 62, .inl (jA w2A))), (a3, .inl (cZ, 496, .inl (jA w3B))), (a4, .inl (cA, 496, .inl (jA w4B))), (a5, .inl (cA, 496, .inl (jA w5B))), (a6, .inl (cA, 62, .inl (jA w6A))), (a7, .inl (cA, 248, .inl (jA y7))), (a8, .inl (cZ, 8, .inl (jA y8))), (a9, .inl (cA, 64, .inl (jA y9)))] → va_S A s.heap H locs → ∀ ls : Array Slot, lv_has ls 2 [(1, .int (jI kB)), (0, .ref ma)] → W p l e R s m ([.ref ma] : List Value).toArray below meth c H locs 0 0 Q (F0 m 61 ls []) := by
          intro n9
          induction n9 with
          | zero =>
            intro kB w3B w4B w5B hm hkB e3 e4 e5
            exact absurd hm (by omega)
          | succ n9 ih61 =>
            intro kB w3B w4B w5B hm hkB e3 e4 e5 H locs hP hD hS ls hl
            refine lv_iload_n hx hb dXM_copy_61 rfl (lv_at hl 0 rfl) ?_
            refine ji_sipush hx hb dXM_copy_62 (by decide) ?_
            refine ji_icmp_ge (tgt := 122) hx hb dXM_copy_65 (by decide) (by first | omega | decide) (by first | omega | decide) (fun c65_ => ?_) (fun c65_ => ?_)
            · refine ji_iconst hx hb dXM_copy_122 ?_
              refine lv_istore_n (lv' := [(1, .int (jI 0)), (0, .ref ma)]) hx hb dXM_copy_123 rfl hl (by decide) rfl (fun ls hl => ?_)
              have loop124 : ∀ (n9 : Nat) (kC : Int) (w7C : Int → Int) , 124 - kC < (n9 : Int) → (0 ≤ kC ∧ kC ≤ 124) → (w7C = kcp y7 124 kC) → ∀ (H : Heap) (locs : List Loc), va_P (dC, dI) vwCl [(ma, .inr (5, [.int (jI mth), .int (jI mn), .ref a0, .int (jI mp), .int (jI mw), .ref a1, .ref a2, .ref a3, .ref a4, .ref a5, .ref a6, .ref a7, .ref a8, .ref a9, .ref a10, .long (jL mu), .long (jL md), .int (jI mo), .ref a11])), (a1, .inl (cZ, 62, .inl (jA w1A))), (a2, .inl (cA, 62, .inl (jA w2A))), (a3, .inl (cZ, 496, .inl (jA w3B))), (a4, .inl (cA, 496, .inl (jA w4B))), (a5, .inl (cA, 496, .inl (jA w5B))), (a6, .inl (cA, 62, .inl (jA w6A))), (a7, .inl (cA, 248, .inl (jA w7C))), (a8, .inl (cZ, 8, .inl (jA y8))), (a9, .inl (cA, 64, .inl (jA y9)))] H → va_D A [(ma, .inr (5, [.int (jI mth), .int (jI mn), .ref a0, .int (jI mp), .int (jI mw), .ref a1, .ref a2, .ref a3, .ref a4, .ref a5, .ref a6, .ref a7, .ref a8, .ref a9, .ref a10, .long (jL mu), .long (jL md), .int (jI mo), .ref a11])), (a1, .inl (cZ, 62, .inl (jA w1A))), (a2, .inl (cA, 62, .inl (jA w2A))), (a3, .inl (cZ, 496, .inl (jA w3B))), (a4, .inl (cA, 496, .inl (jA w4B))), (a5, .inl (cA, 496, .inl (jA w5B))), (a6, .inl (cA, 62, .inl (jA w6A))), (a7, .inl (cA, 248, .inl (jA w7C))), (a8, .inl (cZ, 8, .inl (jA y8))), (a9, .inl (cA, 64, .inl (jA y9)))] → va_S A s.heap H locs → ∀ ls : Array Slot, lv_has ls 2 [(1, .int (jI kC)), (0, .ref ma)] → W p l e R s m ([.ref ma] : List Value).toArray below meth c H locs 0 0 Q (F0 m 124 ls []) := by
                intro n9
                induction n9 with
                | zero =>
                  intro kC w7C hm hkC e7
                  exact absurd hm (by omega)
                | succ n9 ih124 =>
                  intro kC w7C hm hkC e7 H locs hP hD hS ls hl
                  refine lv_iload_n hx hb dXM_copy_124 rfl (lv_at hl 0 rfl) ?_
                  refine ji_bipush hx hb dXM_copy_125 (by decide) ?_
                  refine ji_icmp_ge (tgt := 151) hx hb dXM_copy_127 (by decide) (by first | omega | decide) (by first | omega | decide) (fun c127_ => ?_) (fun c127_ => ?_)
                  · refine ji_iconst hx hb dXM_copy_151 ?_
                    refine lv_istore_n (lv' := [(1, .int (jI 0)), (0, .ref ma)]) hx hb dXM_copy_152 rfl hl (by decide) rfl (fun ls hl => ?_)
                    have loop153 : ∀ (n9 : Nat) (kD : Int) (w8D : Int → Int) , 4 - kD < (n9 : Int) → (0 ≤ kD ∧ kD ≤ 4) → (w8D = kcp y8 4 kD) → ∀ (H : Heap) (locs : List Loc), va_P (dC, dI) vwCl [(ma, .inr (5, [.int (jI mth), .int (jI mn), .ref a0, .int (jI mp), .int (jI mw), .ref a1, .ref a2, .ref a3, .ref a4, .ref a5, .ref a6, .ref a7, .ref a8, .ref a9, .ref a10, .long (jL mu), .long (jL md), .int (jI mo), .ref a11])), (a1, .inl (cZ, 62, .inl (jA w1A))), (a2, .inl (cA, 62, .inl (jA w2A))), (a3, .inl (cZ, 496, .inl (jA w3B))), (a4, .inl (cA, 496, .inl (jA w4B))), (a5, .inl (cA, 496, .inl (jA w5B))), (a6, .inl (cA, 62, .inl (jA w6A))), (a7, .inl (cA, 248, .inl (jA w7C))), (a8, .inl (cZ, 8, .inl (jA w8D))), (a9, .inl (cA, 64, .inl (jA y9)))] H → va_D A [(ma, .inr (5, [.int (jI mth), .int (jI mn), .ref a0, .int (jI mp), .int (jI mw), .ref a1, .ref a2, .ref a3, .ref a4, .ref a5, .ref a6, .ref a7, .ref a8, .ref a9, .ref a10, .long (jL mu), .long (jL md), .int (jI mo), .ref a11])), (a1, .inl (cZ, 62, .inl (jA w1A))), (a2, .inl (cA, 62, .inl (jA w2A))), (a3, .inl (cZ, 496, .inl (jA w3B))), (a4, .inl (cA, 496, .inl (jA w4B))), (a5, .inl (cA, 496, .inl (jA w5B))), (a6, .inl (cA, 62, .inl (jA w6A))), (a7, .inl (cA, 248, .inl (jA w7C))), (a8, .inl (cZ, 8, .inl (jA w8D))), (a9, .inl (cA, 64, .inl (jA y9)))] → va_S A s.heap H locs → ∀ ls : Array Slot, lv_has ls 2 [(1, .int (jI kD)), (0, .ref ma)] → W p l e R s m ([.ref ma] : List Value).toArray below meth c H locs 0 0 Q (F0 m 153 ls []) := by
                      intro n9
                      induction n9 with
                      | zero =>
                        intro kD w8D hm hkD e8
                        exact absurd hm (by omega)
                      | succ n9 ih153 =>
                        intro kD w8D hm hkD e8 H locs hP hD hS ls hl
                        refine lv_iload_n hx hb dXM_copy_153 rfl (lv_at hl 0 rfl) ?_
                        refine ji_iconst hx hb dXM_copy_154 ?_
                        refine ji_icmp_ge (tgt := 178) hx hb dXM_copy_155 (by decide) (by first | omega | decide) (by first | omega | decide) (fun c155_ => ?_) (fun c155_ => ?_)
                        · refine ji_iconst hx hb dXM_copy_178 ?_
                          refine lv_istore_n (lv' := [(1, .int (jI 0)), (0, .ref ma)]) hx hb dXM_copy_179 rfl hl (by decide) rfl (fun ls hl => ?_)
                          have loop180 : ∀ (n9 : Nat) (kE : Int) (w9E : Int → Int) , 32 - kE < (n9 : Int) → (0 ≤ kE ∧ kE ≤ 32) → (w9E = kcp y9 32 kE) → ∀ (H : Heap) (locs : List Loc), va_P (dC, dI) vwCl [(ma, .inr (5, [.int (jI mth), .int (jI mn), .ref a0, .int (jI mp), .int (jI mw), .ref a1, .ref a2, .ref a3, .ref a4, .ref a5, .ref a6, .ref a7, .ref a8, .ref a9, .ref a10, .long (jL mu), .long (jL md), .int (jI mo), .ref a11])), (a1, .inl (cZ, 62, .inl (jA w1A))), (a2, .inl (cA, 62, .inl (jA w2A))), (a3, .inl (cZ, 496, .inl (jA w3B))), (a4, .inl (cA, 496, .inl (jA w4B))), (a5, .inl (cA, 496, .inl (jA w5B))), (a6, .inl (cA, 62, .inl (jA w6A))), (a7, .inl (cA, 248, .inl (jA w7C))), (a8, .inl (cZ, 8, .inl (jA w8D))), (a9, .inl (cA, 64, .inl (jA w9E)))] H → va_D A [(ma, .inr (5, [.int (jI mth), .int (jI mn), .ref a0, .int (jI mp), .int (jI mw), .ref a1, .ref a2, .ref a3, .ref a4, .ref a5, .ref a6, .ref a7, .ref a8, .ref a9, .ref a10, .long (jL mu), .long (jL md), .int (jI mo), .ref a11])), (a1, .inl (cZ, 62, .inl (jA w1A))), (a2, .inl (cA, 62, .inl (jA w2A))), (a3, .inl (cZ, 496, .inl (jA w3B))), (a4, .inl (cA, 496, .inl (jA w4B))), (a5, .inl (cA, 496, .inl (jA w5B))), (a6, .inl (cA, 62, .inl (jA w6A))), (a7, .inl (cA, 248, .inl (jA w7C))), (a8, .inl (cZ, 8, .inl (jA w8D))), (a9, .inl (cA, 64, .inl (jA w9E)))] → va_S A s.heap H locs → ∀ ls : Array Slot, lv_has ls 2 [(1, .int (jI kE)), (0, .ref ma)] → W p l e R s m ([.ref ma] : List Value).toArray below meth c H locs 0 0 Q (F0 m 180 ls []) := by
                            intro n9
                            induction n9 with
                            | zero =>
                              intro kE w9E hm hkE e9
                              exact absurd hm (by omega)
                            | succ n9 ih180 =>
                              intro kE w9E hm hkE e9 H locs hP hD hS ls hl
                              refine lv_iload_n hx hb dXM_copy_180 rfl (lv_at hl 0 rfl) ?_
                              refine ji_bipush hx hb dXM_copy_181 (by decide) ?_
                              refine ji_icmp_ge (tgt := 207) hx hb dXM_copy_183 (by decide) (by first | omega | decide) (by first | omega | decide) (fun c183_ => ?_) (fun c183_ => ?_)
                              · have hP9 := hP.sub (ws' := [(ma, .inr (5, [.int (jI mth), .int (jI mn), .ref a0, .int (jI mp), .int (jI mw), .ref a1, .ref a2, .ref a3, .ref a4, .ref a5, .ref a6, .ref a7, .ref a8, .ref a9, .ref a10, .long (jL mu), .long (jL md), .int (jI mo), .ref a11])), (a1, .inl (cZ, 62, .inl (jA w1A))), (a2, .inl (cA, 62, .inl (jA w2A))), (a3, .inl (cZ, 496, .inl (jA w3B))), (a4, .inl (cA, 496, .inl (jA w4B))), (a5, .inl (cA, 496, .inl (jA w5B))), (a6, .inl (cA, 62, .inl (jA w6A))), (a7, .inl (cA, 248, .inl (jA w7C))), (a8, .inl (cZ, 8, .inl (jA w8D))), (a9, .inl (cA, 64, .inl (jA w9E)))]) [0, 1, 2, 3, 4, 5, 6, 7, 8, 9] rfl
                                have hD9 := hD.sub (ws' := [(ma, .inr (5, [.int (jI mth), .int (jI mn), .ref a0, .int (jI mp), .int (jI mw), .ref a1, .ref a2, .ref a3, .ref a4, .ref a5, .ref a6, .ref a7, .ref a8, .ref a9, .ref a10, .long (jL mu), .long (jL md), .int (jI mo), .ref a11])), (a1, .inl (cZ, 62, .inl (jA w1A))), (a2, .inl (cA, 62, .inl (jA w2A))), (a3, .inl (cZ, 496, .inl (jA w3B))), (a4, .inl (cA, 496, .inl (jA w4B))), (a5, .inl (cA, 496, .inl (jA w5B))), (a6, .inl (cA, 62, .inl (jA w6A))), (a7, .inl (cA, 248, .inl (jA w7C))), (a8, .inl (cZ, 8, .inl (jA w8D))), (a9, .inl (cA, 64, .inl (jA w9E)))]) [0, 1, 2, 3, 4, 5, 6, 7, 8, 9] (by decide) rfl
                                subst hAe
                                subst hQ
                                exact W.vret hx hb hr (fun t ht hW => ⟨⟨(w1A, w2A, w3B, w4B, w5B, w6A, w7C, w8D, w9E), rfl, ⟨(show w1A = kcp y1 31 31 from by rw [e1, show kA = 31 by omega]), (show w2A = kcp y2 31 31 from by rw [e2, show kA = 31 by omega]), (show w3B = kcp y3 248 248 from by rw [e3, show kB = 248 by omega]), (show w4B = kcp y4 248 248 from by rw [e4, show kB = 248 by omega]), (show w5B = kcp y5 248 248 from by rw [e5, show kB = 248 by omega]), (show w6A = kcp y6 31 31 from by rw [e6, show kA = 31 by omega]), (show w7C = kcp y7 124 124 from by rw [e7, show kC = 124 by omega]), (show w8D = kcp y8 4 4 from by rw [e8, show kD = 4 by omega]), (show w9E = kcp y9 32 32 from by rw [e9, show kE = 32 by omega])⟩, ⟨by rw [ht]; exact hP9, va_K.moved hW.alike hK, hD9⟩⟩, hS.F ht⟩) hS.2.2 dXM_copy_207
                              · refine lv_aload_n hx hb dXM_copy_186 rfl (lv_at hl 1 rfl) ?_
                                refine va_get (D := (dC, dI)) (ci := 5) (v := .ref a9) (C := RXM) (T := TXM) (N := 19) hx hb hts (fun w h => jmem (inXM w h)) hown hK hP 0 rfl rfl 13 (by decide) (hts _ (jmem tw_641)) (fun _ h9 => h9) rfl dXM_copy_187 ?_
                                refine lv_iload_n hx hb dXM_copy_190 rfl (lv_at hl 0 rfl) ?_
                                refine lv_aload_n hx hb dXM_copy_191 rfl (lv_at hl 1 rfl) ?_
                                refine va_get (D := (dC, dI)) (ci := 5) (v := .ref a9) (C := RXM) (T := TXM) (N := 19) hx hb hts (fun w h => jmem (inXM w h)) hown hK hP 0 rfl rfl 13 (by decide) (hts _ (jmem tw_641)) (fun _ h9 => h9) rfl dXM_copy_192 ?_
                                refine ji_bipush hx hb dXM_copy_195 (by decide) ?_
                                refine lv_iload_n hx hb dXM_copy_197 rfl (lv_at hl 0 rfl) ?_
                                refine ji_iadd hx hb dXM_copy_198 ?_
                                refine ji_iald hx hb hK hP 9 0 rfl rfl ⟨by omega, by omega⟩ (by decide) dXM_copy_199 ?_
                                refine ji_iast hx hb hK hP hD hS 9 0 rfl rfl ⟨by omega, by omega⟩ (by decide) dXM_copy_200 (fun H locs hP hD hS => ?_)
                                have hP : va_P (dC, dI) vwCl [(ma, .inr (5, [.int (jI mth), .int (jI mn), .ref a0, .int (jI mp), .int (jI mw), .ref a1, .ref a2, .ref a3, .ref a4, .ref a5, .ref a6, .ref a7, .ref a8, .ref a9, .ref a10, .long (jL mu), .long (jL md), .int (jI mo), .ref a11])), (a1, .inl (cZ, 62, .inl (jA w1A))), (a2, .inl (cA, 62, .inl (jA w2A))), (a3, .inl (cZ, 496, .inl (jA w3B))), (a4, .inl (cA, 496, .inl (jA w4B))), (a5, .inl (cA, 496, .inl (jA w5B))), (a6, .inl (cA, 62, .inl (jA w6A))), (a7, .inl (cA, 248, .inl (jA w7C))), (a8, .inl (cZ, 8, .inl (jA w8D))), (a9, .inl (cA, 64, .inl (jA (jset w9E kE (w9E (32 + kE))))))] H := hP
                                have hD : va_D A [(ma, .inr (5, [.int (jI mth), .int (jI mn), .ref a0, .int (jI mp), .int (jI mw), .ref a1, .ref a2, .ref a3, .ref a4, .ref a5, .ref a6, .ref a7, .ref a8, .ref a9, .ref a10, .long (jL mu), .long (jL md), .int (jI mo), .ref a11])), (a1, .inl (cZ, 62, .inl (jA w1A))), (a2, .inl (cA, 62, .inl (jA w2A))), (a3, .inl (cZ, 496, .inl (jA w3B))), (a4, .inl (cA, 496, .inl (jA w4B))), (a5, .inl (cA, 496, .inl (jA w5B))), (a6, .inl (cA, 62, .inl (jA w6A))), (a7, .inl (cA, 248, .inl (jA w7C))), (a8, .inl (cZ, 8, .inl (jA w8D))), (a9, .inl (cA, 64, .inl (jA (jset w9E kE (w9E (32 + kE))))))] := hD
                                refine ji_iinc (k := 0) (lv' := [(1, .int (jI (kE + 1))), (0, .ref ma)]) hx hb dXM_copy_201 hl rfl (by decide) rfl (fun ls hl => ?_)
                                refine lv_goto (tgt := 180) hx hb dXM_copy_204 (by decide) ?_
                                exact ih180 (kE + 1) (jset w9E kE (w9E (32 + kE))) (by omega) (by first | assumption | omega | exact jset_b (by assumption) (by omega)) (by rw [e9]; exact kcp_step _ _ _ (by omega)) _ _ hP hD hS ls (lv_sub hl [0, 1] rfl)
                          exact loop180 (Int.toNat (32 - 0) + 1) 0 y9 (by omega) (by first | assumption | omega | exact jset_b (by assumption) (by omega)) ((kcp_zero _ _).symm) _ _ hP hD hS ls (lv_sub hl [0, 1] rfl)
                        · refine lv_aload_n hx hb dXM_copy_158 rfl (lv_at hl 1 rfl) ?_
                          refine va_get (D := (dC, dI)) (ci := 5) (v := .ref a8) (C := RXM) (T := TXM) (N := 19) hx hb hts (fun w h => jmem (inXM w h)) hown hK hP 0 rfl rfl 12 (by decide) (hts _ (jmem tw_640)) (fun _ h9 => h9) rfl dXM_copy_159 ?_
                          refine lv_iload_n hx hb dXM_copy_162 rfl (lv_at hl 0 rfl) ?_
                          refine lv_aload_n hx hb dXM_copy_163 rfl (lv_at hl 1 rfl) ?_
                          refine va_get (D := (dC, dI)) (ci := 5) (v := .ref a8) (C := RXM) (T := TXM) (N := 19) hx hb hts (fun w h => jmem (inXM w h)) hown hK hP 0 rfl rfl 12 (by decide) (hts _ (jmem tw_640)) (fun _ h9 => h9) rfl dXM_copy_164 ?_
                          refine ji_iconst hx hb dXM_copy_167 ?_
                          refine lv_iload_n hx hb dXM_copy_168 rfl (lv_at hl 0 rfl) ?_
                          refine ji_iadd hx hb dXM_copy_169 ?_
                          refine ji_zald hx hb hK hP 8 1 rfl rfl ⟨by omega, by omega⟩ (by decide) dXM_copy_170 ?_
                          refine ji_zast hx hb hK hP hD hS 8 1 rfl rfl (by rw [e8]; exact kcp_b _ _ _ _ _ hy8 _) ⟨by omega, by omega⟩ (by decide) dXM_copy_171 (fun H locs hP hD hS => ?_)
                          have hP : va_P (dC, dI) vwCl [(ma, .inr (5, [.int (jI mth), .int (jI mn), .ref a0, .int (jI mp), .int (jI mw), .ref a1, .ref a2, .ref a3, .ref a4, .ref a5, .ref a6, .ref a7, .ref a8, .ref a9, .ref a10, .long (jL mu), .long (jL md), .int (jI mo), .ref a11])), (a1, .inl (cZ, 62, .inl (jA w1A))), (a2, .inl (cA, 62, .inl (jA w2A))), (a3, .inl (cZ, 496, .inl (jA w3B))), (a4, .inl (cA, 496, .inl (jA w4B))), (a5, .inl (cA, 496, .inl (jA w5B))), (a6, .inl (cA, 62, .inl (jA w6A))), (a7, .inl (cA, 248, .inl (jA w7C))), (a8, .inl (cZ, 8, .inl (jA (jset w8D kD (w8D (4 + kD)))))), (a9, .inl (cA, 64, .inl (jA y9)))] H := hP
                          have hD : va_D A [(ma, .inr (5, [.int (jI mth), .int (jI mn), .ref a0, .int (jI mp), .int (jI mw), .ref a1, .ref a2, .ref a3, .ref a4, .ref a5, .ref a6, .ref a7, .ref a8, .ref a9, .ref a10, .long (jL mu), .long (jL md), .int (jI mo), .ref a11])), (a1, .inl (cZ, 62, .inl (jA w1A))), (a2, .inl (cA, 62, .inl (jA w2A))), (a3, .inl (cZ, 496, .inl (jA w3B))), (a4, .inl (cA, 496, .inl (jA w4B))), (a5, .inl (cA, 496, .inl (jA w5B))), (a6, .inl (cA, 62, .inl (jA w6A))), (a7, .inl (cA, 248, .inl (jA w7C))), (a8, .inl (cZ, 8, .inl (jA (jset w8D kD (w8D (4 + kD)))))), (a9, .inl (cA, 64, .inl (jA y9)))] := hD
                          refine ji_iinc (k := 0) (lv' := [(1, .int (jI (kD + 1))), (0, .ref ma)]) hx hb dXM_copy_172 hl rfl (by decide) rfl (fun ls hl => ?_)
                          refine lv_goto (tgt := 153) hx hb dXM_copy_175 (by decide) ?_
                          exact ih153 (kD + 1) (jset w8D kD (w8D (4 + kD))) (by omega) (by first | assumption | omega | exact jset_b (by assumption) (by omega)) (by rw [e8]; exact kcp_step _ _ _ (by omega)) _ _ hP hD hS ls (lv_sub hl [0, 1] rfl)
                    exact loop153 (Int.toNat (4 - 0) + 1) 0 y8 (by omega) (by first | assumption | omega | exact jset_b (by assumption) (by omega)) ((kcp_zero _ _).symm) _ _ hP hD hS ls (lv_sub hl [0, 1] rfl)
                  · refine lv_aload_n hx hb dXM_copy_130 rfl (lv_at hl 1 rfl) ?_
                    refine va_get (D := (dC, dI)) (ci := 5) (v := .ref a7) (C := RXM) (T := TXM) (N := 19) hx hb hts (fun w h => jmem (inXM w h)) hown hK hP 0 rfl rfl 11 (by decide) (hts _ (jmem tw_639)) (fun _ h9 => h9) rfl dXM_copy_131 ?_
                    refine lv_iload_n hx hb dXM_copy_134 rfl (lv_at hl 0 rfl) ?_
                    refine lv_aload_n hx hb dXM_copy_135 rfl (lv_at hl 1 rfl) ?_
                    refine va_get (D := (dC, dI)) (ci := 5) (v := .ref a7) (C := RXM) (T := TXM) (N := 19) hx hb hts (fun w h => jmem (inXM w h)) hown hK hP 0 rfl rfl 11 (by decide) (hts _ (jmem tw_639)) (fun _ h9 => h9) rfl dXM_copy_136 ?_
                    refine ji_bipush hx hb dXM_copy_139 (by decide) ?_
                    refine lv_iload_n hx hb dXM_copy_141 rfl (lv_at hl 0 rfl) ?_
                    refine ji_iadd hx hb dXM_copy_142 ?_
                    refine ji_iald hx hb hK hP 7 0 rfl rfl ⟨by omega, by omega⟩ (by decide) dXM_copy_143 ?_
                    refine ji_iast hx hb hK hP hD hS 7 0 rfl rfl ⟨by omega, by omega⟩ (by decide) dXM_copy_144 (fun H locs hP hD hS => ?_)
                    have hP : va_P (dC, dI) vwCl [(ma, .inr (5, [.int (jI mth), .int (jI mn), .ref a0, .int (jI mp), .int (jI mw), .ref a1, .ref a2, .ref a3, .ref a4, .ref a5, .ref a6, .ref a7, .ref a8, .ref a9, .ref a10, .long (jL mu), .long (jL md), .int (jI mo), .ref a11])), (a1, .inl (cZ, 62, .inl (jA w1A))), (a2, .inl (cA, 62, .inl (jA w2A))), (a3, .inl (cZ, 496, .inl (jA w3B))), (a4, .inl (cA, 496, .inl (jA w4B))), (a5, .inl (cA, 496, .inl (jA w5B))), (a6, .inl (cA, 62, .inl (jA w6A))), (a7, .inl (cA, 248, .inl (jA (jset w7C kC (w7C (124 + kC)))))), (a8, .inl (cZ, 8, .inl (jA y8))), (a9, .inl (cA, 64, .inl (jA y9)))] H := hP
                    have hD : va_D A [(ma, .inr (5, [.int (jI mth), .int (jI mn), .ref a0, .int (jI mp), .int (jI mw), .ref a1, .ref a2, .ref a3, .ref a4, .ref a5, .ref a6, .ref a7, .ref a8, .ref a9, .ref a10, .long (jL mu), .long (jL md), .int (jI mo), .ref a11])), (a1, .inl (cZ, 62, .inl (jA w1A))), (a2, .inl (cA, 62, .inl (jA w2A))), (a3, .inl (cZ, 496, .inl (jA w3B))), (a4, .inl (cA, 496, .inl (jA w4B))), (a5, .inl (cA, 496, .inl (jA w5B))), (a6, .inl (cA, 62, .inl (jA w6A))), (a7, .inl (cA, 248, .inl (jA (jset w7C kC (w7C (124 + kC)))))), (a8, .inl (cZ, 8, .inl (jA y8))), (a9, .inl (cA, 64, .inl (jA y9)))] := hD
                    refine ji_iinc (k := 0) (lv' := [(1, .int (jI (kC + 1))), (0, .ref ma)]) hx hb dXM_copy_145 hl rfl (by decide) rfl (fun ls hl => ?_)
                    refine lv_goto (tgt := 124) hx hb dXM_copy_148 (by decide) ?_
                    exact ih124 (kC + 1) (jset w7C kC (w7C (124 + kC))) (by omega) (by first | assumption | omega | exact jset_b (by assumption) (by omega)) (by rw [e7]; exact kcp_step _ _ _ (by omega)) _ _ hP hD hS ls (lv_sub hl [0, 1] rfl)
              exact loop124 (Int.toNat (124 - 0) + 1) 0 y7 (by omega) (by first | assumption | omega | exact jset_b (by assumption) (by omega)) ((kcp_zero _ _).symm) _ _ hP hD hS ls (lv_sub hl [0, 1] rfl)
            · refine lv_aload_n hx hb dXM_copy_68 rfl (lv_at hl 1 rfl) ?_
              refine va_get (D := (dC, dI)) (ci := 5) (v := .ref a3) (C := RXM) (T := TXM) (N := 19) hx hb hts (fun w h => jmem (inXM w h)) hown hK hP 0 rfl rfl 7 (by decide) (hts _ (jmem tw_635)) (fun _ h9 => h9) rfl dXM_copy_69 ?_
              refine lv_iload_n hx hb dXM_copy_72 rfl (lv_at hl 0 rfl) ?_
              refine lv_aload_n hx hb dXM_copy_73 rfl (lv_at hl 1 rfl) ?_
              refine va_get (D := (dC, dI)) (ci := 5) (v := .ref a3) (C := RXM) (T := TXM) (N := 19) hx hb hts (fun w h => jmem (inXM w h)) hown hK hP 0 rfl rfl 7 (by decide) (hts _ (jmem tw_635)) (fun _ h9 => h9) rfl dXM_copy_74 ?_
              refine ji_sipush hx hb dXM_copy_77 (by decide) ?_
              refine lv_iload_n hx hb dXM_copy_80 rfl (lv_at hl 0 rfl) ?_
              refine ji_iadd hx hb dXM_copy_81 ?_
              refine ji_zald hx hb hK hP 3 1 rfl rfl ⟨by omega, by omega⟩ (by decide) dXM_copy_82 ?_
              refine ji_zast hx hb hK hP hD hS 3 1 rfl rfl (by rw [e3]; exact kcp_b _ _ _ _ _ hy3 _) ⟨by omega, by omega⟩ (by decide) dXM_copy_83 (fun H locs hP hD hS => ?_)
              have hP : va_P (dC, dI) vwCl [(ma, .inr (5, [.int (jI mth), .int (jI mn), .ref a0, .int (jI mp), .int (jI mw), .ref a1, .ref a2, .ref a3, .ref a4, .ref a5, .ref a6, .ref a7, .ref a8, .ref a9, .ref a10, .long (jL mu), .long (jL md), .int (jI mo), .ref a11])), (a1, .inl (cZ, 62, .inl (jA w1A))), (a2, .inl (cA, 62, .inl (jA w2A))), (a3, .inl (cZ, 496, .inl (jA (jset w3B kB (w3B (248 + kB)))))), (a4, .inl (cA, 496, .inl (jA w4B))), (a5, .inl (cA, 496, .inl (jA w5B))), (a6, .inl (cA, 62, .inl (jA w6A))), (a7, .inl (cA, 248, .inl (jA y7))), (a8, .inl (cZ, 8, .inl (jA y8))), (a9, .inl (cA, 64, .inl (jA y9)))] H := hP
              have hD : va_D A [(ma, .inr (5, [.int (jI mth), .int (jI mn), .ref a0, .int (jI mp), .int (jI mw), .ref a1, .ref a2, .ref a3, .ref a4, .ref a5, .ref a6, .ref a7, .ref a8, .ref a9, .ref a10, .long (jL mu), .long (jL md), .int (jI mo), .ref a11])), (a1, .inl (cZ, 62, .inl (jA w1A))), (a2, .inl (cA, 62, .inl (jA w2A))), (a3, .inl (cZ, 496, .inl (jA (jset w3B kB (w3B (248 + kB)))))), (a4, .inl (cA, 496, .inl (jA w4B))), (a5, .inl (cA, 496, .inl (jA w5B))), (a6, .inl (cA, 62, .inl (jA w6A))), (a7, .inl (cA, 248, .inl (jA y7))), (a8, .inl (cZ, 8, .inl (jA y8))), (a9, .inl (cA, 64, .inl (jA y9)))] := hD
              refine lv_aload_n hx hb dXM_copy_84 rfl (lv_at hl 1 rfl) ?_
              refine va_get (D := (dC, dI)) (ci := 5) (v := .ref a4) (C := RXM) (T := TXM) (N := 19) hx hb hts (fun w h => jmem (inXM w h)) hown hK hP 0 rfl rfl 8 (by decide) (hts _ (jmem tw_636)) (fun _ h9 => h9) rfl dXM_copy_85 ?_
              refine lv_iload_n hx hb dXM_copy_88 rfl (lv_at hl 0 rfl) ?_
              refine lv_aload_n hx hb dXM_copy_89 rfl (lv_at hl 1 rfl) ?_
              refine va_get (D := (dC, dI)) (ci := 5) (v := .ref a4) (C := RXM) (T := TXM) (N := 19) hx hb hts (fun w h => jmem (inXM w h)) hown hK hP 0 rfl rfl 8 (by decide) (hts _ (jmem tw_636)) (fun _ h9 => h9) rfl dXM_copy_90 ?_
              refine ji_sipush hx hb dXM_copy_93 (by decide) ?_
              refine lv_iload_n hx hb dXM_copy_96 rfl (lv_at hl 0 rfl) ?_
              refine ji_iadd hx hb dXM_copy_97 ?_
              refine ji_iald hx hb hK hP 4 0 rfl rfl ⟨by omega, by omega⟩ (by decide) dXM_copy_98 ?_
              refine ji_iast hx hb hK hP hD hS 4 0 rfl rfl ⟨by omega, by omega⟩ (by decide) dXM_copy_99 (fun H locs hP hD hS => ?_)
              have hP : va_P (dC, dI) vwCl [(ma, .inr (5, [.int (jI mth), .int (jI mn), .ref a0, .int (jI mp), .int (jI mw), .ref a1, .ref a2, .ref a3, .ref a4, .ref a5, .ref a6, .ref a7, .ref a8, .ref a9, .ref a10, .long (jL mu), .long (jL md), .int (jI mo), .ref a11])), (a1, .inl (cZ, 62, .inl (jA w1A))), (a2, .inl (cA, 62, .inl (jA w2A))), (a3, .inl (cZ, 496, .inl (jA (jset w3B kB (w3B (248 + kB)))))), (a4, .inl (cA, 496, .inl (jA (jset w4B kB (w4B (248 + kB)))))), (a5, .inl (cA, 496, .inl (jA w5B))), (a6, .inl (cA, 62, .inl (jA w6A))), (a7, .inl (cA, 248, .inl (jA y7))), (a8, .inl (cZ, 8, .inl (jA y8))), (a9, .inl (cA, 64, .inl (jA y9)))] H := hP
              have hD : va_D A [(ma, .inr (5, [.int (jI mth), .int (jI mn), .ref a0, .int (jI mp), .int (jI mw), .ref a1, .ref a2, .ref a3, .ref a4, .ref a5, .ref a6, .ref a7, .ref a8, .ref a9, .ref a10, .long (jL mu), .long (jL md), .int (jI mo), .ref a11])), (a1, .inl (cZ, 62, .inl (jA w1A))), (a2, .inl (cA, 62, .inl (jA w2A))), (a3, .inl (cZ, 496, .inl (jA (jset w3B kB (w3B (248 + kB)))))), (a4, .inl (cA, 496, .inl (jA (jset w4B kB (w4B (248 + kB)))))), (a5, .inl (cA, 496, .inl (jA w5B))), (a6, .inl (cA, 62, .inl (jA w6A))), (a7, .inl (cA, 248, .inl (jA y7))), (a8, .inl (cZ, 8, .inl (jA y8))), (a9, .inl (cA, 64, .inl (jA y9)))] := hD
              refine lv_aload_n hx hb dXM_copy_100 rfl (lv_at hl 1 rfl) ?_
              refine va_get (D := (dC, dI)) (ci := 5) (v := .ref a5) (C := RXM) (T := TXM) (N := 19) hx hb hts (fun w h => jmem (inXM w h)) hown hK hP 0 rfl rfl 9 (by decide) (hts _ (jmem tw_637)) (fun _ h9 => h9) rfl dXM_copy_101 ?_
              refine lv_iload_n hx hb dXM_copy_104 rfl (lv_at hl 0 rfl) ?_
              refine lv_aload_n hx hb dXM_copy_105 rfl (lv_at hl 1 rfl) ?_
              refine va_get (D := (dC, dI)) (ci := 5) (v := .ref a5) (C := RXM) (T := TXM) (N := 19) hx hb hts (fun w h => jmem (inXM w h)) hown hK hP 0 rfl rfl 9 (by decide) (hts _ (jmem tw_637)) (fun _ h9 => h9) rfl dXM_copy_106 ?_
              refine ji_sipush hx hb dXM_copy_109 (by decide) ?_
              refine lv_iload_n hx hb dXM_copy_112 rfl (lv_at hl 0 rfl) ?_
              refine ji_iadd hx hb dXM_copy_113 ?_
              refine ji_iald hx hb hK hP 5 0 rfl rfl ⟨by omega, by omega⟩ (by decide) dXM_copy_114 ?_
              refine ji_iast hx hb hK hP hD hS 5 0 rfl rfl ⟨by omega, by omega⟩ (by decide) dXM_copy_115 (fun H locs hP hD hS => ?_)
              have hP : va_P (dC, dI) vwCl [(ma, .inr (5, [.int (jI mth), .int (jI mn), .ref a0, .int (jI mp), .int (jI mw), .ref a1, .ref a2, .ref a3, .ref a4, .ref a5, .ref a6, .ref a7, .ref a8, .ref a9, .ref a10, .long (jL mu), .long (jL md), .int (jI mo), .ref a11])), (a1, .inl (cZ, 62, .inl (jA w1A))), (a2, .inl (cA, 62, .inl (jA w2A))), (a3, .inl (cZ, 496, .inl (jA (jset w3B kB (w3B (248 + kB)))))), (a4, .inl (cA, 496, .inl (jA (jset w4B kB (w4B (248 + kB)))))), (a5, .inl (cA, 496, .inl (jA (jset w5B kB (w5B (248 + kB)))))), (a6, .inl (cA, 62, .inl (jA w6A))), (a7, .inl (cA, 248, .inl (jA y7))), (a8, .inl (cZ, 8, .inl (jA y8))), (a9, .inl (cA, 64, .inl (jA y9)))] H := hP
              have hD : va_D A [(ma, .inr (5, [.int (jI mth), .int (jI mn), .ref a0, .int (jI mp), .int (jI mw), .ref a1, .ref a2, .ref a3, .ref a4, .ref a5, .ref a6, .ref a7, .ref a8, .ref a9, .ref a10, .long (jL mu), .long (jL md), .int (jI mo), .ref a11])), (a1, .inl (cZ, 62, .inl (jA w1A))), (a2, .inl (cA, 62, .inl (jA w2A))), (a3, .inl (cZ, 496, .inl (jA (jset w3B kB (w3B (248 + kB)))))), (a4, .inl (cA, 496, .inl (jA (jset w4B kB (w4B (248 + kB)))))), (a5, .inl (cA, 496, .inl (jA (jset w5B kB (w5B (248 + kB)))))), (a6, .inl (cA, 62, .inl (jA w6A))), (a7, .inl (cA, 248, .inl (jA y7))), (a8, .inl (cZ, 8, .inl (jA y8))), (a9, .inl (cA, 64, .inl (jA y9)))] := hD
              refine ji_iinc (k := 0) (lv' := [(1, .int (jI (kB + 1))), (0, .ref ma)]) hx hb dXM_copy_116 hl rfl (by decide) rfl (fun ls hl => ?_)
              refine lv_goto (tgt := 61) hx hb dXM_copy_119 (by decide) ?_
              exact ih61 (kB + 1) (jset w3B kB (w3B (248 + kB))) (jset w4B kB (w4B (248 + kB))) (jset w5B kB (w5B (248 + kB))) (by omega) (by first | assumption | omega | exact jset_b (by assumption) (by omega)) (by rw [e3]; exact kcp_step _ _ _ (by omega)) (by rw [e4]; exact kcp_step _ _ _ (by omega)) (by rw [e5]; exact kcp_step _ _ _ (by omega)) _ _ hP hD hS ls (lv_sub hl [0, 1] rfl)
        exact loop61 (Int.toNat (248 - 0) + 1) 0 y3 y4 y5 (by omega) (by first | assumption | omega | exact jset_b (by assumption) (by omega)) ((kcp_zero _ _).symm) ((kcp_zero _ _).symm) ((kcp_zero _ _).symm) _ _ hP hD hS ls (lv_sub hl [0, 1] rfl)
      · refine lv_aload_n hx hb dXM_copy_8 rfl (lv_at hl 1 rfl) ?_
        refine va_get (D := (dC, dI)) (ci := 5) (v := .ref a1) (C := RXM) (T := TXM) (N := 19) hx hb hts (fun w h => jmem (inXM w h)) hown hK hP 0 rfl rfl 5 (by decide) (hts _ (jmem tw_633)) (fun _ h9 => h9) rfl dXM_copy_9 ?_
        refine lv_iload_n hx hb dXM_copy_12 rfl (lv_at hl 0 rfl) ?_
        refine lv_aload_n hx hb dXM_copy_13 rfl (lv_at hl 1 rfl) ?_
        refine va_get (D := (dC, dI)) (ci := 5) (v := .ref a1) (C := RXM) (T := TXM) (N := 19) hx hb hts (fun w h => jmem (inXM w h)) hown hK hP 0 rfl rfl 5 (by decide) (hts _ (jmem tw_633)) (fun _ h9 => h9) rfl dXM_copy_14 ?_
        refine ji_bipush hx hb dXM_copy_17 (by decide) ?_
        refine lv_iload_n hx hb dXM_copy_19 rfl (lv_at hl 0 rfl) ?_
        refine ji_iadd hx hb dXM_copy_20 ?_
        refine ji_zald hx hb hK hP 1 1 rfl rfl ⟨by omega, by omega⟩ (by decide) dXM_copy_21 ?_
        refine ji_zast hx hb hK hP hD hS 1 1 rfl rfl (by rw [e1]; exact kcp_b _ _ _ _ _ hy1 _) ⟨by omega, by omega⟩ (by decide) dXM_copy_22 (fun H locs hP hD hS => ?_)
        have hP : va_P (dC, dI) vwCl [(ma, .inr (5, [.int (jI mth), .int (jI mn), .ref a0, .int (jI mp), .int (jI mw), .ref a1, .ref a2, .ref a3, .ref a4, .ref a5, .ref a6, .ref a7, .ref a8, .ref a9, .ref a10, .long (jL mu), .long (jL md), .int (jI mo), .ref a11])), (a1, .inl (cZ, 62, .inl (jA (jset w1A kA (w1A (31 + kA)))))), (a2, .inl (cA, 62, .inl (jA w2A))), (a3, .inl (cZ, 496, .inl (jA y3))), (a4, .inl (cA, 496, .inl (jA y4))), (a5, .inl (cA, 496, .inl (jA y5))), (a6, .inl (cA, 62, .inl (jA w6A))), (a7, .inl (cA, 248, .inl (jA y7))), (a8, .inl (cZ, 8, .inl (jA y8))), (a9, .inl (cA, 64, .inl (jA y9)))] H := hP
        have hD : va_D A [(ma, .inr (5, [.int (jI mth), .int (jI mn), .ref a0, .int (jI mp), .int (jI mw), .ref a1, .ref a2, .ref a3, .ref a4, .ref a5, .ref a6, .ref a7, .ref a8, .ref a9, .ref a10, .long (jL mu), .long (jL md), .int (jI mo), .ref a11])), (a1, .inl (cZ, 62, .inl (jA (jset w1A kA (w1A (31 + kA)))))), (a2, .inl (cA, 62, .inl (jA w2A))), (a3, .inl (cZ, 496, .inl (jA y3))), (a4, .inl (cA, 496, .inl (jA y4))), (a5, .inl (cA, 496, .inl (jA y5))), (a6, .inl (cA, 62, .inl (jA w6A))), (a7, .inl (cA, 248, .inl (jA y7))), (a8, .inl (cZ, 8, .inl (jA y8))), (a9, .inl (cA, 64, .inl (jA y9)))] := hD
        refine lv_aload_n hx hb dXM_copy_23 rfl (lv_at hl 1 rfl) ?_
        refine va_get (D := (dC, dI)) (ci := 5) (v := .ref a2) (C := RXM) (T := TXM) (N := 19) hx hb hts (fun w h => jmem (inXM w h)) hown hK hP 0 rfl rfl 6 (by decide) (hts _ (jmem tw_634)) (fun _ h9 => h9) rfl dXM_copy_24 ?_
        refine lv_iload_n hx hb dXM_copy_27 rfl (lv_at hl 0 rfl) ?_
        refine lv_aload_n hx hb dXM_copy_28 rfl (lv_at hl 1 rfl) ?_
        refine va_get (D := (dC, dI)) (ci := 5) (v := .ref a2) (C := RXM) (T := TXM) (N := 19) hx hb hts (fun w h => jmem (inXM w h)) hown hK hP 0 rfl rfl 6 (by decide) (hts _ (jmem tw_634)) (fun _ h9 => h9) rfl dXM_copy_29 ?_
        refine ji_bipush hx hb dXM_copy_32 (by decide) ?_
        refine lv_iload_n hx hb dXM_copy_34 rfl (lv_at hl 0 rfl) ?_
        refine ji_iadd hx hb dXM_copy_35 ?_
        refine ji_iald hx hb hK hP 2 0 rfl rfl ⟨by omega, by omega⟩ (by decide) dXM_copy_36 ?_
        refine ji_iast hx hb hK hP hD hS 2 0 rfl rfl ⟨by omega, by omega⟩ (by decide) dXM_copy_37 (fun H locs hP hD hS => ?_)
        have hP : va_P (dC, dI) vwCl [(ma, .inr (5, [.int (jI mth), .int (jI mn), .ref a0, .int (jI mp), .int (jI mw), .ref a1, .ref a2, .ref a3, .ref a4, .ref a5, .ref a6, .ref a7, .ref a8, .ref a9, .ref a10, .long (jL mu), .long (jL md), .int (jI mo), .ref a11])), (a1, .inl (cZ, 62, .inl (jA (jset w1A kA (w1A (31 + kA)))))), (a2, .inl (cA, 62, .inl (jA (jset w2A kA (w2A (31 + kA)))))), (a3, .inl (cZ, 496, .inl (jA y3))), (a4, .inl (cA, 496, .inl (jA y4))), (a5, .inl (cA, 496, .inl (jA y5))), (a6, .inl (cA, 62, .inl (jA w6A))), (a7, .inl (cA, 248, .inl (jA y7))), (a8, .inl (cZ, 8, .inl (jA y8))), (a9, .inl (cA, 64, .inl (jA y9)))] H := hP
        have hD : va_D A [(ma, .inr (5, [.int (jI mth), .int (jI mn), .ref a0, .int (jI mp), .int (jI mw), .ref a1, .ref a2, .ref a3, .ref a4, .ref a5, .ref a6, .ref a7, .ref a8, .ref a9, .ref a10, .long (jL mu), .long (jL md), .int (jI mo), .ref a11])), (a1, .inl (cZ, 62, .inl (jA (jset w1A kA (w1A (31 + kA)))))), (a2, .inl (cA, 62, .inl (jA (jset w2A kA (w2A (31 + kA)))))), (a3, .inl (cZ, 496, .inl (jA y3))), (a4, .inl (cA, 496, .inl (jA y4))), (a5, .inl (cA, 496, .inl (jA y5))), (a6, .inl (cA, 62, .inl (jA w6A))), (a7, .inl (cA, 248, .inl (jA y7))), (a8, .inl (cZ, 8, .inl (jA y8))), (a9, .inl (cA, 64, .inl (jA y9)))] := hD
        refine lv_aload_n hx hb dXM_copy_38 rfl (lv_at hl 1 rfl) ?_
        refine va_get (D := (dC, dI)) (ci := 5) (v := .ref a6) (C := RXM) (T := TXM) (N := 19) hx hb hts (fun w h => jmem (inXM w h)) hown hK hP 0 rfl rfl 10 (by decide) (hts _ (jmem tw_638)) (fun _ h9 => h9) rfl dXM_copy_39 ?_
        refine lv_iload_n hx hb dXM_copy_42 rfl (lv_at hl 0 rfl) ?_
        refine lv_aload_n hx hb dXM_copy_43 rfl (lv_at hl 1 rfl) ?_
        refine va_get (D := (dC, dI)) (ci := 5) (v := .ref a6) (C := RXM) (T := TXM) (N := 19) hx hb hts (fun w h => jmem (inXM w h)) hown hK hP 0 rfl rfl 10 (by decide) (hts _ (jmem tw_638)) (fun _ h9 => h9) rfl dXM_copy_44 ?_
        refine ji_bipush hx hb dXM_copy_47 (by decide) ?_
        refine lv_iload_n hx hb dXM_copy_49 rfl (lv_at hl 0 rfl) ?_
        refine ji_iadd hx hb dXM_copy_50 ?_
        refine ji_iald hx hb hK hP 6 0 rfl rfl ⟨by omega, by omega⟩ (by decide) dXM_copy_51 ?_
        refine ji_iast hx hb hK hP hD hS 6 0 rfl rfl ⟨by omega, by omega⟩ (by decide) dXM_copy_52 (fun H locs hP hD hS => ?_)
        have hP : va_P (dC, dI) vwCl [(ma, .inr (5, [.int (jI mth), .int (jI mn), .ref a0, .int (jI mp), .int (jI mw), .ref a1, .ref a2, .ref a3, .ref a4, .ref a5, .ref a6, .ref a7, .ref a8, .ref a9, .ref a10, .long (jL mu), .long (jL md), .int (jI mo), .ref a11])), (a1, .inl (cZ, 62, .inl (jA (jset w1A kA (w1A (31 + kA)))))), (a2, .inl (cA, 62, .inl (jA (jset w2A kA (w2A (31 + kA)))))), (a3, .inl (cZ, 496, .inl (jA y3))), (a4, .inl (cA, 496, .inl (jA y4))), (a5, .inl (cA, 496, .inl (jA y5))), (a6, .inl (cA, 62, .inl (jA (jset w6A kA (w6A (31 + kA)))))), (a7, .inl (cA, 248, .inl (jA y7))), (a8, .inl (cZ, 8, .inl (jA y8))), (a9, .inl (cA, 64, .inl (jA y9)))] H := hP
        have hD : va_D A [(ma, .inr (5, [.int (jI mth), .int (jI mn), .ref a0, .int (jI mp), .int (jI mw), .ref a1, .ref a2, .ref a3, .ref a4, .ref a5, .ref a6, .ref a7, .ref a8, .ref a9, .ref a10, .long (jL mu), .long (jL md), .int (jI mo), .ref a11])), (a1, .inl (cZ, 62, .inl (jA (jset w1A kA (w1A (31 + kA)))))), (a2, .inl (cA, 62, .inl (jA (jset w2A kA (w2A (31 + kA)))))), (a3, .inl (cZ, 496, .inl (jA y3))), (a4, .inl (cA, 496, .inl (jA y4))), (a5, .inl (cA, 496, .inl (jA y5))), (a6, .inl (cA, 62, .inl (jA (jset w6A kA (w6A (31 + kA)))))), (a7, .inl (cA, 248, .inl (jA y7))), (a8, .inl (cZ, 8, .inl (jA y8))), (a9, .inl (cA, 64, .inl (jA y9)))] := hD
        refine ji_iinc (k := 0) (lv' := [(1, .int (jI (kA + 1))), (0, .ref ma)]) hx hb dXM_copy_53 hl rfl (by decide) rfl (fun ls hl => ?_)
        refine lv_goto (tgt := 2) hx hb dXM_copy_56 (by decide) ?_
        exact ih2 (kA + 1) (jset w1A kA (w1A (31 + kA))) (jset w2A kA (w2A (31 + kA))) (jset w6A kA (w6A (31 + kA))) (by omega) (by first | assumption | omega | exact jset_b (by assumption) (by omega)) (by rw [e1]; exact kcp_step _ _ _ (by omega)) (by rw [e2]; exact kcp_step _ _ _ (by omega)) (by rw [e6]; exact kcp_step _ _ _ (by omega)) _ _ hP hD hS ls (lv_sub hl [0, 1] rfl)
  exact loop2 (Int.toNat (31 - 0) + 1) 0 y1 y2 y6 (by omega) (by first | assumption | omega | exact jset_b (by assumption) (by omega)) ((kcp_zero _ _).symm) ((kcp_zero _ _).symm) ((kcp_zero _ _).symm) _ _ hP hD hS ls (lv_sub hl [0, 1] rfl)

end
section
noncomputable def g_XM_readP_L104 (mth : Int) (mn : Int) (mp : Int) (mw : Int) (mu : Int) (md : Int) (mo : Int) (y0 : Int → Int) (y1 : Int → Int) (y2 : Int → Int) (y3 : Int → Int) (y4 : Int → Int) (y5 : Int → Int) (y6 : Int → Int) (y7 : Int → Int) (y8 : Int → Int) (y9 : Int → Int) (kx : Int) (wx : Int) (x1 : Int → Int) (x2 : Int → Int) (x3 : Int → Int) (x4 : Int → Int) (x5 : Int → Int) (x6 : Int → Int) (x7 : Int → Int) (x8 : Int → Int) (x9 : Int → Int) : Nat → Int → Int → Int × Int × Int × Int × Int × (Int → Int) × (Int → Int) × (Int → Int) × (Int → Int) × (Int → Int) × (Int → Int) × (Int → Int) × (Int → Int) × (Int → Int)
  | 0, _, _ => (0, 0, 0, 0, 0, fun _ => 0, fun _ => 0, fun _ => 0, fun _ => 0, fun _ => 0, fun _ => 0, fun _ => 0, fun _ => 0, fun _ => 0)
  | n9 + 1, n1, k2 =>
    if k2 < 31 then
      if ((kcp x1 31 31) k2) = 0 then
        g_XM_readP_L104 mth mn mp mw mu md mo y0 y1 y2 y3 y4 y5 y6 y7 y8 y9 kx wx x1 x2 x3 x4 x5 x6 x7 x8 x9 n9 n1 (k2 + 1)
      else
        g_XM_readP_L104 mth mn mp mw mu md mo y0 y1 y2 y3 y4 y5 y6 y7 y8 y9 kx wx x1 x2 x3 x4 x5 x6 x7 x8 x9 n9 (n1 + 1) (k2 + 1)
    else
      (n1, 0, 0, kx, wx, kcp x1 31 31, kcp x2 31 31, kcp x3 248 248, kcp x4 248 248, kcp x5 248 248, kcp x6 31 31, kcp x7 124 124, kcp x8 4 4, kcp x9 32 32)
noncomputable def f_XM_readP_L104 : Int → Int → Int → Int → Int → Int → Int → (Int → Int) → (Int → Int) → (Int → Int) → (Int → Int) → (Int → Int) → (Int → Int) → (Int → Int) → (Int → Int) → (Int → Int) → (Int → Int) → Int → Int → (Int → Int) → (Int → Int) → (Int → Int) → (Int → Int) → (Int → Int) → (Int → Int) → (Int → Int) → (Int → Int) → (Int → Int) → Nat → Int → Int → Int × Int × Int × Int × Int × (Int → Int) × (Int → Int) × (Int → Int) × (Int → Int) × (Int → Int) × (Int → Int) × (Int → Int) × (Int → Int) × (Int → Int) := jopq g_XM_readP_L104
theorem f_XM_readP_L104_q : f_XM_readP_L104 = g_XM_readP_L104 := jopq_eq _
theorem f_XM_readP_L104_s (mth : Int) (mn : Int) (mp : Int) (mw : Int) (mu : Int) (md : Int) (mo : Int) (y0 : Int → Int) (y1 : Int → Int) (y2 : Int → Int) (y3 : Int → Int) (y4 : Int → Int) (y5 : Int → Int) (y6 : Int → Int) (y7 : Int → Int) (y8 : Int → Int) (y9 : Int → Int) (kx : Int) (wx : Int) (x1 : Int → Int) (x2 : Int → Int) (x3 : Int → Int) (x4 : Int → Int) (x5 : Int → Int) (x6 : Int → Int) (x7 : Int → Int) (x8 : Int → Int) (x9 : Int → Int) (n9 : Nat) (n1 : Int) (k2 : Int) : f_XM_readP_L104 mth mn mp mw mu md mo y0 y1 y2 y3 y4 y5 y6 y7 y8 y9 kx wx x1 x2 x3 x4 x5 x6 x7 x8 x9 (n9 + 1) n1 k2 = (
    if k2 < 31 then
      if ((kcp x1 31 31) k2) = 0 then
        f_XM_readP_L104 mth mn mp mw mu md mo y0 y1 y2 y3 y4 y5 y6 y7 y8 y9 kx wx x1 x2 x3 x4 x5 x6 x7 x8 x9 n9 n1 (k2 + 1)
      else
        f_XM_readP_L104 mth mn mp mw mu md mo y0 y1 y2 y3 y4 y5 y6 y7 y8 y9 kx wx x1 x2 x3 x4 x5 x6 x7 x8 x9 n9 (n1 + 1) (k2 + 1)
    else
      (n1, 0, 0, kx, wx, kcp x1 31 31, kcp x2 31 31, kcp x3 248 248, kcp x4 248 248, kcp x5 248 248, kcp x6 31 31, kcp x7 124 124, kcp x8 4 4, kcp x9 32 32)
  : Int × Int × Int × Int × Int × (Int → Int) × (Int → Int) × (Int → Int) × (Int → Int) × (Int → Int) × (Int → Int) × (Int → Int) × (Int → Int) × (Int → Int)) := by rw [f_XM_readP_L104_q]; rfl
noncomputable def g_XM_readP_J77 (mth : Int) (mn : Int) (mp : Int) (mw : Int) (mu : Int) (md : Int) (mo : Int) (y0 : Int → Int) (y1 : Int → Int) (y2 : Int → Int) (y3 : Int → Int) (y4 : Int → Int) (y5 : Int → Int) (y6 : Int → Int) (y7 : Int → Int) (y8 : Int → Int) (y9 : Int → Int) (kx : Int) (wx : Int) (x1 : Int → Int) (x2 : Int → Int) (x3 : Int → Int) (x4 : Int → Int) (x5 : Int → Int) (x6 : Int → Int) (x7 : Int → Int) (x8 : Int → Int) (x9 : Int → Int) : Int × Int × Int × Int × Int × (Int → Int) × (Int → Int) × (Int → Int) × (Int → Int) × (Int → Int) × (Int → Int) × (Int → Int) × (Int → Int) × (Int → Int) :=
  if wx < 0 then
    f_XM_readP_L104 mth mn mp mw mu md mo y0 y1 y2 y3 y4 y5 y6 y7 y8 y9 kx wx x1 x2 x3 x4 x5 x6 x7 x8 x9 (Int.toNat (31 - 0) + 1) 0 0
  else
    ((-1) - wx, 0, 0, kx, wx, x1, x2, x3, x4, x5, x6, x7, x8, x9)
noncomputable def f_XM_readP_J77 : Int → Int → Int → Int → Int → Int → Int → (Int → Int) → (Int → Int) → (Int → Int) → (Int → Int) → (Int → Int) → (Int → Int) → (Int → Int) → (Int → Int) → (Int → Int) → (Int → Int) → Int → Int → (Int → Int) → (Int → Int) → (Int → Int) → (Int → Int) → (Int → Int) → (Int → Int) → (Int → Int) → (Int → Int) → (Int → Int) → Int × Int × Int × Int × Int × (Int → Int) × (Int → Int) × (Int → Int) × (Int → Int) × (Int → Int) × (Int → Int) × (Int → Int) × (Int → Int) × (Int → Int) := jopq g_XM_readP_J77
theorem f_XM_readP_J77_q : f_XM_readP_J77 = g_XM_readP_J77 := jopq_eq _
theorem f_XM_readP_J77_s (mth : Int) (mn : Int) (mp : Int) (mw : Int) (mu : Int) (md : Int) (mo : Int) (y0 : Int → Int) (y1 : Int → Int) (y2 : Int → Int) (y3 : Int → Int) (y4 : Int → Int) (y5 : Int → Int) (y6 : Int → Int) (y7 : Int → Int) (y8 : Int → Int) (y9 : Int → Int) (kx : Int) (wx : Int) (x1 : Int → Int) (x2 : Int → Int) (x3 : Int → Int) (x4 : Int → Int) (x5 : Int → Int) (x6 : Int → Int) (x7 : Int → Int) (x8 : Int → Int) (x9 : Int → Int) : f_XM_readP_J77 mth mn mp mw mu md mo y0 y1 y2 y3 y4 y5 y6 y7 y8 y9 kx wx x1 x2 x3 x4 x5 x6 x7 x8 x9 = (
    if wx < 0 then
      f_XM_readP_L104 mth mn mp mw mu md mo y0 y1 y2 y3 y4 y5 y6 y7 y8 y9 kx wx x1 x2 x3 x4 x5 x6 x7 x8 x9 (Int.toNat (31 - 0) + 1) 0 0
    else
      ((-1) - wx, 0, 0, kx, wx, x1, x2, x3, x4, x5, x6, x7, x8, x9)
  : Int × Int × Int × Int × Int × (Int → Int) × (Int → Int) × (Int → Int) × (Int → Int) × (Int → Int) × (Int → Int) × (Int → Int) × (Int → Int) × (Int → Int)) := by rw [f_XM_readP_J77_q]; rfl
noncomputable def g_XM_readP_L20 (mth : Int) (mn : Int) (mp : Int) (mw : Int) (mu : Int) (md : Int) (mo : Int) (y0 : Int → Int) (y1 : Int → Int) (y2 : Int → Int) (y3 : Int → Int) (y4 : Int → Int) (y5 : Int → Int) (y6 : Int → Int) (y7 : Int → Int) (y8 : Int → Int) (y9 : Int → Int) : Nat → Int → Int → (Int → Int) → (Int → Int) → (Int → Int) → (Int → Int) → (Int → Int) → (Int → Int) → (Int → Int) → (Int → Int) → (Int → Int) → Int × Int × Int × Int × Int × (Int → Int) × (Int → Int) × (Int → Int) × (Int → Int) × (Int → Int) × (Int → Int) × (Int → Int) × (Int → Int) × (Int → Int)
  | 0, _, _, _, _, _, _, _, _, _, _, _ => (0, 0, 0, 0, 0, fun _ => 0, fun _ => 0, fun _ => 0, fun _ => 0, fun _ => 0, fun _ => 0, fun _ => 0, fun _ => 0, fun _ => 0)
  | n9 + 1, k, w, w1, w2, w3, w4, w5, w6, w7, w8, w9 =>
    if w < 0 then
      match f_XM_seeP 0 mn k w mu md mo y0 with
      | (r, mp1') =>
        if r < 0 then
          f_XM_readP_J77 mth mn mp mw mu md mo y0 y1 y2 y3 y4 y5 y6 y7 y8 y9 mp1' w w1 w2 w3 w4 w5 w6 w7 w8 w9
        else
          match f_XM_takesP 0 mn mp1' w mu md mo y0 101 with
          | (r30, mp1'31) =>
            if r30 = 0 then
              match f_XM_takesP 0 mn mp1'31 w mu md mo y0 103 with
              | (r36, mp1'37) =>
                if r36 = 0 then
                  g_XM_readP_L20 mth mn mp mw mu md mo y0 y1 y2 y3 y4 y5 y6 y7 y8 y9 n9 mp1'37 (f_XM_failP 0 mn mp1'37 w mu md mo mp1'37) w1 w2 w3 w4 w5 w6 w7 w8 w9
                else
                  match f_XM_gradeP 0 mn mp1'37 w mu md mo y0 w1 w2 w3 w4 w5 w6 w7 with
                  | (mp1'44, mw1', y1n'45, y2n'46, y3n'47, y4n'48, y5n'49, y6n'50, y7n'51) =>
                    g_XM_readP_L20 mth mn mp mw mu md mo y0 y1 y2 y3 y4 y5 y6 y7 y8 y9 n9 mp1'44 mw1' y1n'45 y2n'46 y3n'47 y4n'48 y5n'49 y6n'50 y7n'51 w8 w9
            else
              match f_XM_formulaP 0 mn mp1'31 w mu md mo y0 w8 w9 with
              | (mp1'70, mw1'71, y8n'72, y9n'73) =>
                g_XM_readP_L20 mth mn mp mw mu md mo y0 y1 y2 y3 y4 y5 y6 y7 y8 y9 n9 mp1'70 mw1'71 w1 w2 w3 w4 w5 w6 w7 y8n'72 y9n'73
    else
      f_XM_readP_J77 mth mn mp mw mu md mo y0 y1 y2 y3 y4 y5 y6 y7 y8 y9 k w w1 w2 w3 w4 w5 w6 w7 w8 w9
noncomputable def f_XM_readP_L20 : Int → Int → Int → Int → Int → Int → Int → (Int → Int) → (Int → Int) → (Int → Int) → (Int → Int) → (Int → Int) → (Int → Int) → (Int → Int) → (Int → Int) → (Int → Int) → (Int → Int) → Nat → Int → Int → (Int → Int) → (Int → Int) → (Int → Int) → (Int → Int) → (Int → Int) → (Int → Int) → (Int → Int) → (Int → Int) → (Int → Int) → Int × Int × Int × Int × Int × (Int → Int) × (Int → Int) × (Int → Int) × (Int → Int) × (Int → Int) × (Int → Int) × (Int → Int) × (Int → Int) × (Int → Int) := jopq g_XM_readP_L20
theorem f_XM_readP_L20_q : f_XM_readP_L20 = g_XM_readP_L20 := jopq_eq _
theorem f_XM_readP_L20_s (mth : Int) (mn : Int) (mp : Int) (mw : Int) (mu : Int) (md : Int) (mo : Int) (y0 : Int → Int) (y1 : Int → Int) (y2 : Int → Int) (y3 : Int → Int) (y4 : Int → Int) (y5 : Int → Int) (y6 : Int → Int) (y7 : Int → Int) (y8 : Int → Int) (y9 : Int → Int) (n9 : Nat) (k : Int) (w : Int) (w1 : Int → Int) (w2 : Int → Int) (w3 : Int → Int) (w4 : Int → Int) (w5 : Int → Int) (w6 : Int → Int) (w7 : Int → Int) (w8 : Int → Int) (w9 : Int → Int) : f_XM_readP_L20 mth mn mp mw mu md mo y0 y1 y2 y3 y4 y5 y6 y7 y8 y9 (n9 + 1) k w w1 w2 w3 w4 w5 w6 w7 w8 w9 = (
    if w < 0 then
      match f_XM_seeP 0 mn k w mu md mo y0 with
      | (r, mp1') =>
        if r < 0 then
          f_XM_readP_J77 mth mn mp mw mu md mo y0 y1 y2 y3 y4 y5 y6 y7 y8 y9 mp1' w w1 w2 w3 w4 w5 w6 w7 w8 w9
        else
          match f_XM_takesP 0 mn mp1' w mu md mo y0 101 with
          | (r30, mp1'31) =>
            if r30 = 0 then
              match f_XM_takesP 0 mn mp1'31 w mu md mo y0 103 with
              | (r36, mp1'37) =>
                if r36 = 0 then
                  f_XM_readP_L20 mth mn mp mw mu md mo y0 y1 y2 y3 y4 y5 y6 y7 y8 y9 n9 mp1'37 (f_XM_failP 0 mn mp1'37 w mu md mo mp1'37) w1 w2 w3 w4 w5 w6 w7 w8 w9
                else
                  match f_XM_gradeP 0 mn mp1'37 w mu md mo y0 w1 w2 w3 w4 w5 w6 w7 with
                  | (mp1'44, mw1', y1n'45, y2n'46, y3n'47, y4n'48, y5n'49, y6n'50, y7n'51) =>
                    f_XM_readP_L20 mth mn mp mw mu md mo y0 y1 y2 y3 y4 y5 y6 y7 y8 y9 n9 mp1'44 mw1' y1n'45 y2n'46 y3n'47 y4n'48 y5n'49 y6n'50 y7n'51 w8 w9
            else
              match f_XM_formulaP 0 mn mp1'31 w mu md mo y0 w8 w9 with
              | (mp1'70, mw1'71, y8n'72, y9n'73) =>
                f_XM_readP_L20 mth mn mp mw mu md mo y0 y1 y2 y3 y4 y5 y6 y7 y8 y9 n9 mp1'70 mw1'71 w1 w2 w3 w4 w5 w6 w7 y8n'72 y9n'73
    else
      f_XM_readP_J77 mth mn mp mw mu md mo y0 y1 y2 y3 y4 y5 y6 y7 y8 y9 k w w1 w2 w3 w4 w5 w6 w7 w8 w9
  : Int × Int × Int × Int × Int × (Int → Int) × (Int → Int) × (Int → Int) × (Int → Int) × (Int → Int) × (Int → Int) × (Int → Int) × (Int → Int) × (Int → Int)) := by rw [f_XM_readP_L20_q]; rfl
noncomputable def g_XM_readP (mth : Int) (mn : Int) (mp : Int) (mw : Int) (mu : Int) (md : Int) (mo : Int) (y0 : Int → Int) (y1 : Int → Int) (y2 : Int → Int) (y3 : Int → Int) (y4 : Int → Int) (y5 : Int → Int) (y6 : Int → Int) (y7 : Int → Int) (y8 : Int → Int) (y9 : Int → Int) : Int × Int × Int × Int × Int × (Int → Int) × (Int → Int) × (Int → Int) × (Int → Int) × (Int → Int) × (Int → Int) × (Int → Int) × (Int → Int) × (Int → Int) :=
  f_XM_readP_L20 mth mn mp mw mu md mo y0 y1 y2 y3 y4 y5 y6 y7 y8 y9 (Int.toNat (mn - 0 - (-1) + 400) + 1) 0 (-1) (kfill y1 (31 * 1) (31 * 1 + 31) 0) (kfill y2 (31 * 1) (31 * 1 + 31) 0) (kfill y3 (248 * 1) (248 * 1 + 248) 0) y4 y5 (kfill y6 (31 * 1) (31 * 1 + 31) 0) (kfill y7 (124 * 1) (124 * 1 + 124) (-1)) (kfill y8 (4 * 1) (4 * 1 + 4) 0) (kfill y9 (32 * 1) (32 * 1 + 32) 0)
noncomputable def f_XM_readP : Int → Int → Int → Int → Int → Int → Int → (Int → Int) → (Int → Int) → (Int → Int) → (Int → Int) → (Int → Int) → (Int → Int) → (Int → Int) → (Int → Int) → (Int → Int) → (Int → Int) → Int × Int × Int × Int × Int × (Int → Int) × (Int → Int) × (Int → Int) × (Int → Int) × (Int → Int) × (Int → Int) × (Int → Int) × (Int → Int) × (Int → Int) := jopq g_XM_readP
theorem f_XM_readP_q : f_XM_readP = g_XM_readP := jopq_eq _
theorem f_XM_readP_s (mth : Int) (mn : Int) (mp : Int) (mw : Int) (mu : Int) (md : Int) (mo : Int) (y0 : Int → Int) (y1 : Int → Int) (y2 : Int → Int) (y3 : Int → Int) (y4 : Int → Int) (y5 : Int → Int) (y6 : Int → Int) (y7 : Int → Int) (y8 : Int → Int) (y9 : Int → Int) : f_XM_readP mth mn mp mw mu md mo y0 y1 y2 y3 y4 y5 y6 y7 y8 y9 = (
    f_XM_readP_L20 mth mn mp mw mu md mo y0 y1 y2 y3 y4 y5 y6 y7 y8 y9 (Int.toNat (mn - 0 - (-1) + 400) + 1) 0 (-1) (kfill y1 (31 * 1) (31 * 1 + 31) 0) (kfill y2 (31 * 1) (31 * 1 + 31) 0) (kfill y3 (248 * 1) (248 * 1 + 248) 0) y4 y5 (kfill y6 (31 * 1) (31 * 1 + 31) 0) (kfill y7 (124 * 1) (124 * 1 + 124) (-1)) (kfill y8 (4 * 1) (4 * 1 + 4) 0) (kfill y9 (32 * 1) (32 * 1 + 32) 0)
  : Int × Int × Int × Int × Int × (Int → Int) × (Int → Int) × (Int → Int) × (Int → Int) × (Int → Int) × (Int → Int) × (Int → Int) × (Int → Int) × (Int → Int)) := by rw [f_XM_readP_q]; rfl
set_option maxHeartbeats 4000000 in
set_option maxRecDepth 100000 in
theorem c_XM_readP (l : Launch) (dC : Nat → ClassId) (dI : Nat → Nat → Nat) (cA cZ : ClassId) (sz : Nat) (ma : Nat) (a0 : Nat) (a1 : Nat) (a2 : Nat) (a3 : Nat) (a4 : Nat) (a5 : Nat) (a6 : Nat) (a7 : Nat) (a8 : Nat) (a9 : Nat) (a10 : Nat) (a11 : Nat) (mth : Int) (mn : Int) (mp : Int) (mw : Int) (mu : Int) (md : Int) (mo : Int) (y0 : Int → Int) (y1 : Int → Int) (y2 : Int → Int) (y3 : Int → Int) (y4 : Int → Int) (y5 : Int → Int) (y6 : Int → Int) (y7 : Int → Int) (y8 : Int → Int) (y9 : Int → Int) (hy0 : ∀ i, 0 ≤ y0 i ∧ y0 i ≤ 255) (hy1 : ∀ i, 0 ≤ y1 i ∧ y1 i ≤ 1) (hy2 : ∀ i, 0 ≤ y2 i ∧ y2 i ≤ 30) (hy3 : ∀ i, 0 ≤ y3 i ∧ y3 i ≤ 1) (hy4 : ∀ i, 0 ≤ y4 i ∧ y4 i ≤ 100000) (hy5 : ∀ i, 0 ≤ y5 i ∧ y5 i ≤ 100000) (hy6 : ∀ i, -2147483648 ≤ y6 i ∧ y6 i ≤ 2147483647) (hy7 : ∀ i, -1 ≤ y7 i ∧ y7 i ≤ 999999) (hy8 : ∀ i, 0 ≤ y8 i ∧ y8 i ≤ 1) (hy9 : ∀ i, 0 ≤ y9 i ∧ y9 i ≤ 20) (hmn : 0 ≤ mn ∧ mn ≤ 400) : Met l yXM_read (Cond.code yXM_read cXM_read 3 (some .int) :: TBL) ({ frames := 5, cells := 0, slots := 0, locals := 113 } : Room) (va_Pc [.ref ma] (jBw (dC, dI) [(cA, .int), (cZ, .boolean)] [(ma, .inr (5, [.int (jI mth), .int (jI mn), .ref a0, .int (jI mp), .int (jI mw), .ref a1, .ref a2, .ref a3, .ref a4, .ref a5, .ref a6, .ref a7, .ref a8, .ref a9, .ref a10, .long (jL mu), .long (jL md), .int (jI mo), .ref a11])), (a0, .inl (cA, 400, .inl (jA y0))), (a1, .inl (cZ, 62, .inl (jA y1))), (a2, .inl (cA, 62, .inl (jA y2))), (a3, .inl (cZ, 496, .inl (jA y3))), (a4, .inl (cA, 496, .inl (jA y4))), (a5, .inl (cA, 496, .inl (jA y5))), (a6, .inl (cA, 62, .inl (jA y6))), (a7, .inl (cA, 248, .inl (jA y7))), (a8, .inl (cZ, 8, .inl (jA y8))), (a9, .inl (cA, 64, .inl (jA y9)))] sz)) (va_Qi (fun (r : Int32) (u : Int × Int × Int × Int × Int × (Int → Int) × (Int → Int) × (Int → Int) × (Int → Int) × (Int → Int) × (Int → Int) × (Int → Int) × (Int → Int) × (Int → Int)) => r = jI u.1 ∧ u = f_XM_readP mth mn mp mw mu md mo y0 y1 y2 y3 y4 y5 y6 y7 y8 y9 ∧ (u.2.2.1 = 0) ∧ (u.2.1 = 0) ∧ (∀ i, 0 ≤ u.2.2.2.2.2.1 i ∧ u.2.2.2.2.2.1 i ≤ 1) ∧ (∀ i, 0 ≤ u.2.2.2.2.2.2.1 i ∧ u.2.2.2.2.2.2.1 i ≤ 30) ∧ (∀ i, 0 ≤ u.2.2.2.2.2.2.2.1 i ∧ u.2.2.2.2.2.2.2.1 i ≤ 1) ∧ (∀ i, 0 ≤ u.2.2.2.2.2.2.2.2.1 i ∧ u.2.2.2.2.2.2.2.2.1 i ≤ 100000) ∧ (∀ i, 0 ≤ u.2.2.2.2.2.2.2.2.2.1 i ∧ u.2.2.2.2.2.2.2.2.2.1 i ≤ 100000) ∧ (∀ i, -2147483648 ≤ u.2.2.2.2.2.2.2.2.2.2.1 i ∧ u.2.2.2.2.2.2.2.2.2.2.1 i ≤ 2147483647) ∧ (∀ i, -1 ≤ u.2.2.2.2.2.2.2.2.2.2.2.1 i ∧ u.2.2.2.2.2.2.2.2.2.2.2.1 i ≤ 999999) ∧ (∀ i, 0 ≤ u.2.2.2.2.2.2.2.2.2.2.2.2.1 i ∧ u.2.2.2.2.2.2.2.2.2.2.2.2.1 i ≤ 1) ∧ (∀ i, 0 ≤ u.2.2.2.2.2.2.2.2.2.2.2.2.2 i ∧ u.2.2.2.2.2.2.2.2.2.2.2.2.2 i ≤ 20) ∧ (0 ≤ u.2.2.2.2.1 → ∀ i, i < 31 → u.2.2.2.2.2.1 i = y1 i) ∧ (0 ≤ u.2.2.2.2.1 → ∀ i, i < 31 → u.2.2.2.2.2.2.1 i = y2 i) ∧ (0 ≤ u.2.2.2.2.1 → ∀ i, i < 248 → u.2.2.2.2.2.2.2.1 i = y3 i) ∧ (0 ≤ u.2.2.2.2.1 → ∀ i, i < 248 → u.2.2.2.2.2.2.2.2.1 i = y4 i) ∧ (0 ≤ u.2.2.2.2.1 → ∀ i, i < 248 → u.2.2.2.2.2.2.2.2.2.1 i = y5 i) ∧ (0 ≤ u.2.2.2.2.1 → ∀ i, i < 31 → u.2.2.2.2.2.2.2.2.2.2.1 i = y6 i) ∧ (0 ≤ u.2.2.2.2.1 → ∀ i, i < 124 → u.2.2.2.2.2.2.2.2.2.2.2.1 i = y7 i) ∧ (0 ≤ u.2.2.2.2.1 → ∀ i, i < 4 → u.2.2.2.2.2.2.2.2.2.2.2.2.1 i = y8 i) ∧ (0 ≤ u.2.2.2.2.1 → ∀ i, i < 32 → u.2.2.2.2.2.2.2.2.2.2.2.2.2 i = y9 i)) (fun u t => jE (dC, dI) [(cA, .int), (cZ, .boolean)] [(ma, .inr (5, [.int (jI mth), .int (jI mn), .ref a0, .int (jI mp), .int (jI mw), .ref a1, .ref a2, .ref a3, .ref a4, .ref a5, .ref a6, .ref a7, .ref a8, .ref a9, .ref a10, .long (jL mu), .long (jL md), .int (jI mo), .ref a11])), (a0, .inl (cA, 400, .inl (jA y0))), (a1, .inl (cZ, 62, .inl (jA y1))), (a2, .inl (cA, 62, .inl (jA y2))), (a3, .inl (cZ, 496, .inl (jA y3))), (a4, .inl (cA, 496, .inl (jA y4))), (a5, .inl (cA, 496, .inl (jA y5))), (a6, .inl (cA, 62, .inl (jA y6))), (a7, .inl (cA, 248, .inl (jA y7))), (a8, .inl (cZ, 8, .inl (jA y8))), (a9, .inl (cA, 64, .inl (jA y9)))] sz [(ma, .inr (5, [.int (jI u.2.1), .int (jI u.2.2.1), .ref a0, .int (jI u.2.2.2.1), .int (jI u.2.2.2.2.1), .ref a1, .ref a2, .ref a3, .ref a4, .ref a5, .ref a6, .ref a7, .ref a8, .ref a9, .ref a10, .long (jL mu), .long (jL md), .int (jI mo), .ref a11])), (a0, .inl (cA, 400, .inl (jA y0))), (a1, .inl (cZ, 62, .inl (jA u.2.2.2.2.2.1))), (a2, .inl (cA, 62, .inl (jA u.2.2.2.2.2.2.1))), (a3, .inl (cZ, 496, .inl (jA u.2.2.2.2.2.2.2.1))), (a4, .inl (cA, 496, .inl (jA u.2.2.2.2.2.2.2.2.1))), (a5, .inl (cA, 496, .inl (jA u.2.2.2.2.2.2.2.2.2.1))), (a6, .inl (cA, 62, .inl (jA u.2.2.2.2.2.2.2.2.2.2.1))), (a7, .inl (cA, 248, .inl (jA u.2.2.2.2.2.2.2.2.2.2.2.1))), (a8, .inl (cZ, 8, .inl (jA u.2.2.2.2.2.2.2.2.2.2.2.2.1))), (a9, .inl (cA, 64, .inl (jA u.2.2.2.2.2.2.2.2.2.2.2.2.2)))] t) (va_A [(ma, .inr (5, [.int (jI mth), .int (jI mn), .ref a0, .int (jI mp), .int (jI mw), .ref a1, .ref a2, .ref a3, .ref a4, .ref a5, .ref a6, .ref a7, .ref a8, .ref a9, .ref a10, .long (jL mu), .long (jL md), .int (jI mo), .ref a11])), (a0, .inl (cA, 400, .inl (jA y0))), (a1, .inl (cZ, 62, .inl (jA y1))), (a2, .inl (cA, 62, .inl (jA y2))), (a3, .inl (cZ, 496, .inl (jA y3))), (a4, .inl (cA, 496, .inl (jA y4))), (a5, .inl (cA, 496, .inl (jA y5))), (a6, .inl (cA, 62, .inl (jA y6))), (a7, .inl (cA, 248, .inl (jA y7))), (a8, .inl (cZ, 8, .inl (jA y8))), (a9, .inl (cA, 64, .inl (jA y9)))] sz)) 0 0 (va_A [(ma, .inr (5, [.int (jI mth), .int (jI mn), .ref a0, .int (jI mp), .int (jI mw), .ref a1, .ref a2, .ref a3, .ref a4, .ref a5, .ref a6, .ref a7, .ref a8, .ref a9, .ref a10, .long (jL mu), .long (jL md), .int (jI mo), .ref a11])), (a0, .inl (cA, 400, .inl (jA y0))), (a1, .inl (cZ, 62, .inl (jA y1))), (a2, .inl (cA, 62, .inl (jA y2))), (a3, .inl (cZ, 496, .inl (jA y3))), (a4, .inl (cA, 496, .inl (jA y4))), (a5, .inl (cA, 496, .inl (jA y5))), (a6, .inl (cA, 62, .inl (jA y6))), (a7, .inl (cA, 248, .inl (jA y7))), (a8, .inl (cZ, 8, .inl (jA y8))), (a9, .inl (cA, 64, .inl (jA y9)))] sz) := by
  refine jMet (cc := cXM_read) (maxL := 3) (ret := some .int) (by decide) rfl ?_
  intro p e s m args below meth c s₁ R Q hR hQ B hml hv
  obtain ⟨rfl, hsz, hP, hK, hD0, hN⟩ := hv
  have hx := B.exec
  have hb := B.bytes
  have hr := B.returns
  have hts := atoms_spec (ws := Cond.code yXM_read cXM_read 3 (some .int) :: TBL) B.pre
  have hown : s.vm.findClass RXM = some m.cls := findClass_of_methodNamed B.named
  have hlocks := B.notSynchronized
  subst hsz
  obtain ⟨A, hAe⟩ : ∃ A, A = va_A [(ma, .inr (5, [.int (jI mth), .int (jI mn), .ref a0, .int (jI mp), .int (jI mw), .ref a1, .ref a2, .ref a3, .ref a4, .ref a5, .ref a6, .ref a7, .ref a8, .ref a9, .ref a10, .long (jL mu), .long (jL md), .int (jI mo), .ref a11])), (a0, .inl (cA, 400, .inl (jA y0))), (a1, .inl (cZ, 62, .inl (jA y1))), (a2, .inl (cA, 62, .inl (jA y2))), (a3, .inl (cZ, 496, .inl (jA y3))), (a4, .inl (cA, 496, .inl (jA y4))), (a5, .inl (cA, 496, .inl (jA y5))), (a6, .inl (cA, 62, .inl (jA y6))), (a7, .inl (cA, 248, .inl (jA y7))), (a8, .inl (cZ, 8, .inl (jA y8))), (a9, .inl (cA, 64, .inl (jA y9)))] s.heap.size := ⟨_, rfl⟩
  have hD : va_D A [(ma, .inr (5, [.int (jI mth), .int (jI mn), .ref a0, .int (jI mp), .int (jI mw), .ref a1, .ref a2, .ref a3, .ref a4, .ref a5, .ref a6, .ref a7, .ref a8, .ref a9, .ref a10, .long (jL mu), .long (jL md), .int (jI mo), .ref a11])), (a0, .inl (cA, 400, .inl (jA y0))), (a1, .inl (cZ, 62, .inl (jA y1))), (a2, .inl (cA, 62, .inl (jA y2))), (a3, .inl (cZ, 496, .inl (jA y3))), (a4, .inl (cA, 496, .inl (jA y4))), (a5, .inl (cA, 496, .inl (jA y5))), (a6, .inl (cA, 62, .inl (jA y6))), (a7, .inl (cA, 248, .inl (jA y7))), (a8, .inl (cZ, 8, .inl (jA y8))), (a9, .inl (cA, 64, .inl (jA y9)))] := by rw [hAe]; exact hD0.self
  have hA : ∀ q : Nat, s.heap.size ≤ q → A q := fun q h => by rw [hAe]; exact Or.inr h
  have hS : va_S A s.heap s.heap [] := va_S.rf
  have hP : va_P (dC, dI) vwCl [(ma, .inr (5, [.int (jI mth), .int (jI mn), .ref a0, .int (jI mp), .int (jI mw), .ref a1, .ref a2, .ref a3, .ref a4, .ref a5, .ref a6, .ref a7, .ref a8, .ref a9, .ref a10, .long (jL mu), .long (jL md), .int (jI mo), .ref a11])), (a0, .inl (cA, 400, .inl (jA y0))), (a1, .inl (cZ, 62, .inl (jA y1))), (a2, .inl (cA, 62, .inl (jA y2))), (a3, .inl (cZ, 496, .inl (jA y3))), (a4, .inl (cA, 496, .inl (jA y4))), (a5, .inl (cA, 496, .inl (jA y5))), (a6, .inl (cA, 62, .inl (jA y6))), (a7, .inl (cA, 248, .inl (jA y7))), (a8, .inl (cZ, 8, .inl (jA y8))), (a9, .inl (cA, 64, .inl (jA y9)))] s.heap := hP
  have hl := lv_entry ([.ref ma]) (n := 3) (Nat.le_of_ble_eq_true rfl)
  rw [lg_entry_eq]
  generalize (lg_sl ([.ref ma]) ++ List.replicate (3 - (lg_sl ([.ref ma])).length) Slot.unset).toArray = ls at hl ⊢
  have hl : lv_has ls 3 [(0, .ref ma)] := hl
  refine lv_aload_n hx hb dXM_read_0 rfl (lv_at hl 0 rfl) ?_
  refine ji_iconst hx hb dXM_read_1 ?_
  refine va_put (D := (dC, dI)) (ci := 5) (v := .int (jI 0)) (ty := (.int)) (C := RXM) (T := TXM) (N := 19) hx hb hts (fun w h => jmem (inXM w h)) tyXM tyXM_ok nXM hown hK hP hD hS 0 rfl rfl 0 (by decide) (hts _ (jmem tw_628)) (fun _ h9 => h9) rfl (by decide +kernel) rfl rfl (Nat.le_of_ble_eq_true rfl) dXM_read_2 (fun H locs hP hD hS => ?_)
  have hP : va_P (dC, dI) vwCl [(ma, .inr (5, [.int (jI 0), .int (jI mn), .ref a0, .int (jI mp), .int (jI mw), .ref a1, .ref a2, .ref a3, .ref a4, .ref a5, .ref a6, .ref a7, .ref a8, .ref a9, .ref a10, .long (jL mu), .long (jL md), .int (jI mo), .ref a11])), (a0, .inl (cA, 400, .inl (jA y0))), (a1, .inl (cZ, 62, .inl (jA y1))), (a2, .inl (cA, 62, .inl (jA y2))), (a3, .inl (cZ, 496, .inl (jA y3))), (a4, .inl (cA, 496, .inl (jA y4))), (a5, .inl (cA, 496, .inl (jA y5))), (a6, .inl (cA, 62, .inl (jA y6))), (a7, .inl (cA, 248, .inl (jA y7))), (a8, .inl (cZ, 8, .inl (jA y8))), (a9, .inl (cA, 64, .inl (jA y9)))] H := hP
  have hD : va_D A [(ma, .inr (5, [.int (jI 0), .int (jI mn), .ref a0, .int (jI mp), .int (jI mw), .ref a1, .ref a2, .ref a3, .ref a4, .ref a5, .ref a6, .ref a7, .ref a8, .ref a9, .ref a10, .long (jL mu), .long (jL md), .int (jI mo), .ref a11])), (a0, .inl (cA, 400, .inl (jA y0))), (a1, .inl (cZ, 62, .inl (jA y1))), (a2, .inl (cA, 62, .inl (jA y2))), (a3, .inl (cZ, 496, .inl (jA y3))), (a4, .inl (cA, 496, .inl (jA y4))), (a5, .inl (cA, 496, .inl (jA y5))), (a6, .inl (cA, 62, .inl (jA y6))), (a7, .inl (cA, 248, .inl (jA y7))), (a8, .inl (cZ, 8, .inl (jA y8))), (a9, .inl (cA, 64, .inl (jA y9)))] := hD
  refine lv_aload_n hx hb dXM_read_5 rfl (lv_at hl 0 rfl) ?_
  refine ji_iconst hx hb dXM_read_6 ?_
  refine jwVv (rest := []) (wr := [(a0, .inl (cA, 400, .inl (jA y0))), (a4, .inl (cA, 496, .inl (jA y4))), (a5, .inl (cA, 496, .inl (jA y5)))]) ⟨hx, hb, hml, hown, hts⟩ (c_XM_forgetC l dC dI cA cZ _ ma a0 a1 a2 a3 a4 a5 a6 a7 a8 a9 a10 a11 0 mn mp mw mu md mo y1 y2 y3 y6 y7 y8 y9 1 (by first | assumption | omega | exact jset_b (by assumption) (by omega))) (cwV 1 hts (jG_V tw_706 tw_708 ts_15 tw_6 tw_709) rfl rfl rfl (by decide +kernel) (by rw [hR]; exact ⟨Nat.le_of_ble_eq_true rfl, Nat.le_of_ble_eq_true rfl⟩)) hK hP hD hS hA hN [0, 2, 3, 4, 7, 8, 9, 10] [1, 5, 6] rfl rfl (by decide) (by decide) (by decide) 0 5 rfl rfl rfl rfl hl.1 rfl (Nat.le_of_ble_eq_true rfl) dXM_read_7 (by rw [hR]; exact ⟨Nat.le_of_ble_eq_true rfl, Nat.le_of_ble_eq_true rfl⟩) (fun u H locs hwb hP hD hS => ?_)
  obtain ⟨y1n', y2n', y3n', y6n', y7n', y8n', y9n'⟩ := u
  try dsimp only at hwb
  obtain ⟨f, f1, f2, f3, f4, f5, f6⟩ := hwb
  have f : y1n' = kfill y1 (31 * (1 : Int)) (31 * (1 : Int) + 31) 0 := f
  have f1 : y2n' = kfill y2 (31 * (1 : Int)) (31 * (1 : Int) + 31) 0 := f1
  have f2 : y3n' = kfill y3 (248 * (1 : Int)) (248 * (1 : Int) + 248) 0 := f2
  have f3 : y6n' = kfill y6 (31 * (1 : Int)) (31 * (1 : Int) + 31) 0 := f3
  have f4 : y7n' = kfill y7 (124 * (1 : Int)) (124 * (1 : Int) + 124) (-1) := f4
  have f5 : y8n' = kfill y8 (4 * (1 : Int)) (4 * (1 : Int) + 4) 0 := f5
  have f6 : y9n' = kfill y9 (32 * (1 : Int)) (32 * (1 : Int) + 32) 0 := f6
  have hP : va_P (dC, dI) vwCl [(a0, .inl (cA, 400, .inl (jA y0))), (a4, .inl (cA, 496, .inl (jA y4))), (a5, .inl (cA, 496, .inl (jA y5))), (ma, .inr (5, [.int (jI 0), .int (jI mn), .ref a0, .int (jI mp), .int (jI mw), .ref a1, .ref a2, .ref a3, .ref a4, .ref a5, .ref a6, .ref a7, .ref a8, .ref a9, .ref a10, .long (jL mu), .long (jL md), .int (jI mo), .ref a11])), (a1, .inl (cZ, 62, .inl (jA y1n'))), (a2, .inl (cA, 62, .inl (jA y2n'))), (a3, .inl (cZ, 496, .inl (jA y3n'))), (a6, .inl (cA, 62, .inl (jA y6n'))), (a7, .inl (cA, 248, .inl (jA y7n'))), (a8, .inl (cZ, 8, .inl (jA y8n'))), (a9, .inl (cA, 64, .inl (jA y9n')))] H := hP
  have hD : va_D A [(a0, .inl (cA, 400, .inl (jA y0))), (a4, .inl (cA, 496, .inl (jA y4))), (a5, .inl (cA, 496, .inl (jA y5))), (ma, .inr (5, [.int (jI 0), .int (jI mn), .ref a0, .int (jI mp), .int (jI mw), .ref a1, .ref a2, .ref a3, .ref a4, .ref a5, .ref a6, .ref a7, .ref a8, .ref a9, .ref a10, .long (jL mu), .long (jL md), .int (jI mo), .ref a11])), (a1, .inl (cZ, 62, .inl (jA y1n'))), (a2, .inl (cA, 62, .inl (jA y2n'))), (a3, .inl (cZ, 496, .inl (jA y3n'))), (a6, .inl (cA, 62, .inl (jA y6n'))), (a7, .inl (cA, 248, .inl (jA y7n'))), (a8, .inl (cZ, 8, .inl (jA y8n'))), (a9, .inl (cA, 64, .inl (jA y9n')))] := hD
  have eq_y1n9 : y1n' = kfill y1 (31 * 1) (31 * 1 + 31) 0 := by assumption
  subst eq_y1n9
  have eq_y2n9 : y2n' = kfill y2 (31 * 1) (31 * 1 + 31) 0 := by assumption
  subst eq_y2n9
  have eq_y3n9 : y3n' = kfill y3 (248 * 1) (248 * 1 + 248) 0 := by assumption
  subst eq_y3n9
  have eq_y6n9 : y6n' = kfill y6 (31 * 1) (31 * 1 + 31) 0 := by assumption
  subst eq_y6n9
  have eq_y7n9 : y7n' = kfill y7 (124 * 1) (124 * 1 + 124) (-1) := by assumption
  subst eq_y7n9
  have eq_y8n9 : y8n' = kfill y8 (4 * 1) (4 * 1 + 4) 0 := by assumption
  subst eq_y8n9
  have eq_y9n9 : y9n' = kfill y9 (32 * 1) (32 * 1 + 32) 0 := by assumption
  subst eq_y9n9
  have hP : va_P (dC, dI) vwCl [(a0, .inl (cA, 400, .inl (jA y0))), (a4, .inl (cA, 496, .inl (jA y4))), (a5, .inl (cA, 496, .inl (jA y5))), (ma, .inr (5, [.int (jI 0), .int (jI mn), .ref a0, .int (jI mp), .int (jI mw), .ref a1, .ref a2, .ref a3, .ref a4, .ref a5, .ref a6, .ref a7, .ref a8, .ref a9, .ref a10, .long (jL mu), .long (jL md), .int (jI mo), .ref a11])), (a1, .inl (cZ, 62, .inl (jA (kfill y1 (31 * 1) (31 * 1 + 31) 0)))), (a2, .inl (cA, 62, .inl (jA (kfill y2 (31 * 1) (31 * 1 + 31) 0)))), (a3, .inl (cZ, 496, .inl (jA (kfill y3 (248 * 1) (248 * 1 + 248) 0)))), (a6, .inl (cA, 62, .inl (jA (kfill y6 (31 * 1) (31 * 1 + 31) 0)))), (a7, .inl (cA, 248, .inl (jA (kfill y7 (124 * 1) (124 * 1 + 124) (-1))))), (a8, .inl (cZ, 8, .inl (jA (kfill y8 (4 * 1) (4 * 1 + 4) 0)))), (a9, .inl (cA, 64, .inl (jA (kfill y9 (32 * 1) (32 * 1 + 32) 0))))] H := hP
  have hD : va_D A [(a0, .inl (cA, 400, .inl (jA y0))), (a4, .inl (cA, 496, .inl (jA y4))), (a5, .inl (cA, 496, .inl (jA y5))), (ma, .inr (5, [.int (jI 0), .int (jI mn), .ref a0, .int (jI mp), .int (jI mw), .ref a1, .ref a2, .ref a3, .ref a4, .ref a5, .ref a6, .ref a7, .ref a8, .ref a9, .ref a10, .long (jL mu), .long (jL md), .int (jI mo), .ref a11])), (a1, .inl (cZ, 62, .inl (jA (kfill y1 (31 * 1) (31 * 1 + 31) 0)))), (a2, .inl (cA, 62, .inl (jA (kfill y2 (31 * 1) (31 * 1 + 31) 0)))), (a3, .inl (cZ, 496, .inl (jA (kfill y3 (248 * 1) (248 * 1 + 248) 0)))), (a6, .inl (cA, 62, .inl (jA (kfill y6 (31 * 1) (31 * 1 + 31) 0)))), (a7, .inl (cA, 248, .inl (jA (kfill y7 (124 * 1) (124 * 1 + 124) (-1))))), (a8, .inl (cZ, 8, .inl (jA (kfill y8 (4 * 1) (4 * 1 + 4) 0)))), (a9, .inl (cA, 64, .inl (jA (kfill y9 (32 * 1) (32 * 1 + 32) 0))))] := hD
  refine lv_aload_n hx hb dXM_read_10 rfl (lv_at hl 0 rfl) ?_
  refine ji_iconst hx hb dXM_read_11 ?_
  refine va_put (D := (dC, dI)) (ci := 5) (v := .int (jI 0)) (ty := (.int)) (C := RXM) (T := TXM) (N := 19) hx hb hts (fun w h => jmem (inXM w h)) tyXM tyXM_ok nXM hown hK hP hD hS 3 rfl rfl 3 (by decide) (hts _ (jmem tw_631)) (fun _ h9 => h9) rfl (by decide +kernel) rfl rfl (Nat.le_of_ble_eq_true rfl) dXM_read_12 (fun H locs hP hD hS => ?_)
  have hP : va_P (dC, dI) vwCl [(a0, .inl (cA, 400, .inl (jA y0))), (a4, .inl (cA, 496, .inl (jA y4))), (a5, .inl (cA, 496, .inl (jA y5))), (ma, .inr (5, [.int (jI 0), .int (jI mn), .ref a0, .int (jI 0), .int (jI mw), .ref a1, .ref a2, .ref a3, .ref a4, .ref a5, .ref a6, .ref a7, .ref a8, .ref a9, .ref a10, .long (jL mu), .long (jL md), .int (jI mo), .ref a11])), (a1, .inl (cZ, 62, .inl (jA (kfill y1 (31 * 1) (31 * 1 + 31) 0)))), (a2, .inl (cA, 62, .inl (jA (kfill y2 (31 * 1) (31 * 1 + 31) 0)))), (a3, .inl (cZ, 496, .inl (jA (kfill y3 (248 * 1) (248 * 1 + 248) 0)))), (a6, .inl (cA, 62, .inl (jA (kfill y6 (31 * 1) (31 * 1 + 31) 0)))), (a7, .inl (cA, 248, .inl (jA (kfill y7 (124 * 1) (124 * 1 + 124) (-1))))), (a8, .inl (cZ, 8, .inl (jA (kfill y8 (4 * 1) (4 * 1 + 4) 0)))), (a9, .inl (cA, 64, .inl (jA (kfill y9 (32 * 1) (32 * 1 + 32) 0))))] H := hP
  have hD : va_D A [(a0, .inl (cA, 400, .inl (jA y0))), (a4, .inl (cA, 496, .inl (jA y4))), (a5, .inl (cA, 496, .inl (jA y5))), (ma, .inr (5, [.int (jI 0), .int (jI mn), .ref a0, .int (jI 0), .int (jI mw), .ref a1, .ref a2, .ref a3, .ref a4, .ref a5, .ref a6, .ref a7, .ref a8, .ref a9, .ref a10, .long (jL mu), .long (jL md), .int (jI mo), .ref a11])), (a1, .inl (cZ, 62, .inl (jA (kfill y1 (31 * 1) (31 * 1 + 31) 0)))), (a2, .inl (cA, 62, .inl (jA (kfill y2 (31 * 1) (31 * 1 + 31) 0)))), (a3, .inl (cZ, 496, .inl (jA (kfill y3 (248 * 1) (248 * 1 + 248) 0)))), (a6, .inl (cA, 62, .inl (jA (kfill y6 (31 * 1) (31 * 1 + 31) 0)))), (a7, .inl (cA, 248, .inl (jA (kfill y7 (124 * 1) (124 * 1 + 124) (-1))))), (a8, .inl (cZ, 8, .inl (jA (kfill y8 (4 * 1) (4 * 1 + 4) 0)))), (a9, .inl (cA, 64, .inl (jA (kfill y9 (32 * 1) (32 * 1 + 32) 0))))] := hD
  refine lv_aload_n hx hb dXM_read_15 rfl (lv_at hl 0 rfl) ?_
  refine ji_iconst hx hb dXM_read_16 ?_
  refine va_put (D := (dC, dI)) (ci := 5) (v := .int (jI (-1))) (ty := (.int)) (C := RXM) (T := TXM) (N := 19) hx hb hts (fun w h => jmem (inXM w h)) tyXM tyXM_ok nXM hown hK hP hD hS 3 rfl rfl 4 (by decide) (hts _ (jmem tw_632)) (fun _ h9 => h9) rfl (by decide +kernel) rfl rfl (Nat.le_of_ble_eq_true rfl) dXM_read_17 (fun H locs hP hD hS => ?_)
  have hP : va_P (dC, dI) vwCl [(a0, .inl (cA, 400, .inl (jA y0))), (a4, .inl (cA, 496, .inl (jA y4))), (a5, .inl (cA, 496, .inl (jA y5))), (ma, .inr (5, [.int (jI 0), .int (jI mn), .ref a0, .int (jI 0), .int (jI (-1)), .ref a1, .ref a2, .ref a3, .ref a4, .ref a5, .ref a6, .ref a7, .ref a8, .ref a9, .ref a10, .long (jL mu), .long (jL md), .int (jI mo), .ref a11])), (a1, .inl (cZ, 62, .inl (jA (kfill y1 (31 * 1) (31 * 1 + 31) 0)))), (a2, .inl (cA, 62, .inl (jA (kfill y2 (31 * 1) (31 * 1 + 31) 0)))), (a3, .inl (cZ, 496, .inl (jA (kfill y3 (248 * 1) (248 * 1 + 248) 0)))), (a6, .inl (cA, 62, .inl (jA (kfill y6 (31 * 1) (31 * 1 + 31) 0)))), (a7, .inl (cA, 248, .inl (jA (kfill y7 (124 * 1) (124 * 1 + 124) (-1))))), (a8, .inl (cZ, 8, .inl (jA (kfill y8 (4 * 1) (4 * 1 + 4) 0)))), (a9, .inl (cA, 64, .inl (jA (kfill y9 (32 * 1) (32 * 1 + 32) 0))))] H := hP
  have hD : va_D A [(a0, .inl (cA, 400, .inl (jA y0))), (a4, .inl (cA, 496, .inl (jA y4))), (a5, .inl (cA, 496, .inl (jA y5))), (ma, .inr (5, [.int (jI 0), .int (jI mn), .ref a0, .int (jI 0), .int (jI (-1)), .ref a1, .ref a2, .ref a3, .ref a4, .ref a5, .ref a6, .ref a7, .ref a8, .ref a9, .ref a10, .long (jL mu), .long (jL md), .int (jI mo), .ref a11])), (a1, .inl (cZ, 62, .inl (jA (kfill y1 (31 * 1) (31 * 1 + 31) 0)))), (a2, .inl (cA, 62, .inl (jA (kfill y2 (31 * 1) (31 * 1 + 31) 0)))), (a3, .inl (cZ, 496, .inl (jA (kfill y3 (248 * 1) (248 * 1 + 248) 0)))), (a6, .inl (cA, 62, .inl (jA (kfill y6 (31 * 1) (31 * 1 + 31) 0)))), (a7, .inl (cA, 248, .inl (jA (kfill y7 (124 * 1) (124 * 1 + 124) (-1))))), (a8, .inl (cZ, 8, .inl (jA (kfill y8 (4 * 1) (4 * 1 + 4) 0)))), (a9, .inl (cA, 64, .inl (jA (kfill y9 (32 * 1) (32 * 1 + 32) 0))))] := hD
  have join77 : ∀ (kx : Int) (wx : Int) (x1 : Int → Int) (x2 : Int → Int) (x3 : Int → Int) (x4 : Int → Int) (x5 : Int → Int) (x6 : Int → Int) (x7 : Int → Int) (x8 : Int → Int) (x9 : Int → Int) , f_XM_readP_J77 mth mn mp mw mu md mo y0 y1 y2 y3 y4 y5 y6 y7 y8 y9 kx wx x1 x2 x3 x4 x5 x6 x7 x8 x9 = f_XM_readP mth mn mp mw mu md mo y0 y1 y2 y3 y4 y5 y6 y7 y8 y9 → (-1 ≤ wx ∧ wx ≤ 400) → (∀ i, 0 ≤ x1 i ∧ x1 i ≤ 1) → (∀ i, 0 ≤ x2 i ∧ x2 i ≤ 30) → (∀ i, 0 ≤ x3 i ∧ x3 i ≤ 1) → (∀ i, 0 ≤ x4 i ∧ x4 i ≤ 100000) → (∀ i, 0 ≤ x5 i ∧ x5 i ≤ 100000) → (∀ i, -2147483648 ≤ x6 i ∧ x6 i ≤ 2147483647) → (∀ i, -1 ≤ x7 i ∧ x7 i ≤ 999999) → (∀ i, 0 ≤ x8 i ∧ x8 i ≤ 1) → (∀ i, 0 ≤ x9 i ∧ x9 i ≤ 20) → (∀ i, i < 31 → x1 i = y1 i) → (∀ i, i < 31 → x2 i = y2 i) → (∀ i, i < 248 → x3 i = y3 i) → (∀ i, i < 248 → x4 i = y4 i) → (∀ i, i < 248 → x5 i = y5 i) → (∀ i, i < 31 → x6 i = y6 i) → (∀ i, i < 124 → x7 i = y7 i) → (∀ i, i < 4 → x8 i = y8 i) → (∀ i, i < 32 → x9 i = y9 i) → ∀ (H : Heap) (locs : List Loc), va_P (dC, dI) vwCl [(a0, .inl (cA, 400, .inl (jA y0))), (a4, .inl (cA, 496, .inl (jA x4))), (a5, .inl (cA, 496, .inl (jA x5))), (ma, .inr (5, [.int (jI 0), .int (jI mn), .ref a0, .int (jI kx), .int (jI wx), .ref a1, .ref a2, .ref a3, .ref a4, .ref a5, .ref a6, .ref a7, .ref a8, .ref a9, .ref a10, .long (jL mu), .long (jL md), .int (jI mo), .ref a11])), (a1, .inl (cZ, 62, .inl (jA x1))), (a2, .inl (cA, 62, .inl (jA x2))), (a3, .inl (cZ, 496, .inl (jA x3))), (a6, .inl (cA, 62, .inl (jA x6))), (a7, .inl (cA, 248, .inl (jA x7))), (a8, .inl (cZ, 8, .inl (jA x8))), (a9, .inl (cA, 64, .inl (jA x9)))] H → va_D A [(a0, .inl (cA, 400, .inl (jA y0))), (a4, .inl (cA, 496, .inl (jA x4))), (a5, .inl (cA, 496, .inl (jA x5))), (ma, .inr (5, [.int (jI 0), .int (jI mn), .ref a0, .int (jI kx), .int (jI wx), .ref a1, .ref a2, .ref a3, .ref a4, .ref a5, .ref a6, .ref a7, .ref a8, .ref a9, .ref a10, .long (jL mu), .long (jL md), .int (jI mo), .ref a11])), (a1, .inl (cZ, 62, .inl (jA x1))), (a2, .inl (cA, 62, .inl (jA x2))), (a3, .inl (cZ, 496, .inl (jA x3))), (a6, .inl (cA, 62, .inl (jA x6))), (a7, .inl (cA, 248, .inl (jA x7))), (a8, .inl (cZ, 8, .inl (jA x8))), (a9, .inl (cA, 64, .inl (jA x9)))] → va_S A s.heap H locs → ∀ ls : Array Slot, lv_has ls 3 [(0, .ref ma)] → W p l e R s m ([.ref ma] : List Value).toArray below meth c H locs 0 0 Q (F0 m 77 ls []) := by
    intro kx wx x1 x2 x3 x4 x5 x6 x7 x8 x9 hF hwx hx1 hx2 hx3 hx4 hx5 hx6 hx7 hx8 hx9 lx1 lx2 lx3 lx4 lx5 lx6 lx7 lx8 lx9 H locs hP hD hS ls hl
    refine lv_aload_n hx hb dXM_read_77 rfl (lv_at hl 0 rfl) ?_
    refine ji_iconst hx hb dXM_read_78 ?_
    refine va_put (D := (dC, dI)) (ci := 5) (v := .int (jI 0)) (ty := (.int)) (C := RXM) (T := TXM) (N := 19) hx hb hts (fun w h => jmem (inXM w h)) tyXM tyXM_ok nXM hown hK hP hD hS 3 rfl rfl 1 (by decide) (hts _ (jmem tw_629)) (fun _ h9 => h9) rfl (by decide +kernel) rfl rfl (Nat.le_of_ble_eq_true rfl) dXM_read_79 (fun H locs hP hD hS => ?_)
    have hP : va_P (dC, dI) vwCl [(a0, .inl (cA, 400, .inl (jA y0))), (a4, .inl (cA, 496, .inl (jA x4))), (a5, .inl (cA, 496, .inl (jA x5))), (ma, .inr (5, [.int (jI 0), .int (jI 0), .ref a0, .int (jI kx), .int (jI wx), .ref a1, .ref a2, .ref a3, .ref a4, .ref a5, .ref a6, .ref a7, .ref a8, .ref a9, .ref a10, .long (jL mu), .long (jL md), .int (jI mo), .ref a11])), (a1, .inl (cZ, 62, .inl (jA x1))), (a2, .inl (cA, 62, .inl (jA x2))), (a3, .inl (cZ, 496, .inl (jA x3))), (a6, .inl (cA, 62, .inl (jA x6))), (a7, .inl (cA, 248, .inl (jA x7))), (a8, .inl (cZ, 8, .inl (jA x8))), (a9, .inl (cA, 64, .inl (jA x9)))] H := hP
    have hD : va_D A [(a0, .inl (cA, 400, .inl (jA y0))), (a4, .inl (cA, 496, .inl (jA x4))), (a5, .inl (cA, 496, .inl (jA x5))), (ma, .inr (5, [.int (jI 0), .int (jI 0), .ref a0, .int (jI kx), .int (jI wx), .ref a1, .ref a2, .ref a3, .ref a4, .ref a5, .ref a6, .ref a7, .ref a8, .ref a9, .ref a10, .long (jL mu), .long (jL md), .int (jI mo), .ref a11])), (a1, .inl (cZ, 62, .inl (jA x1))), (a2, .inl (cA, 62, .inl (jA x2))), (a3, .inl (cZ, 496, .inl (jA x3))), (a6, .inl (cA, 62, .inl (jA x6))), (a7, .inl (cA, 248, .inl (jA x7))), (a8, .inl (cZ, 8, .inl (jA x8))), (a9, .inl (cA, 64, .inl (jA x9)))] := hD
    refine lv_aload_n hx hb dXM_read_82 rfl (lv_at hl 0 rfl) ?_
    refine va_get (D := (dC, dI)) (ci := 5) (v := .int (jI wx)) (C := RXM) (T := TXM) (N := 19) hx hb hts (fun w h => jmem (inXM w h)) hown hK hP 3 rfl rfl 4 (by decide) (hts _ (jmem tw_632)) (fun _ h9 => h9) rfl dXM_read_83 ?_
    refine ji_if_lt (tgt := 96) hx hb dXM_read_86 (by decide) (by omega) (fun c86_ => ?_) (fun c86_ => ?_)
    · refine lv_aload_n hx hb dXM_read_96 rfl (lv_at hl 0 rfl) ?_
      refine jwVv (rest := []) (wr := [(a0, .inl (cA, 400, .inl (jA y0)))]) ⟨hx, hb, hml, hown, hts⟩ (c_XM_copyC l dC dI cA cZ _ ma a0 a1 a2 a3 a4 a5 a6 a7 a8 a9 a10 a11 0 0 kx wx mu md mo x1 x2 x3 x4 x5 x6 x7 x8 x9 (by first | assumption | omega | exact jset_b (by assumption) (by omega)) (by first | assumption | omega | exact jset_b (by assumption) (by omega)) (by first | assumption | omega | exact jset_b (by assumption) (by omega))) (cwV 0 hts (jG_V tw_760 tw_762 ts_28 tw_6 tw_763) rfl rfl rfl (by decide +kernel) (by rw [hR]; exact ⟨Nat.le_of_ble_eq_true rfl, Nat.le_of_ble_eq_true rfl⟩)) hK hP hD hS hA hN [3, 4, 5, 6, 1, 2, 7, 8, 9, 10] [0] rfl rfl (by decide) (by decide) (by decide) 3 5 rfl rfl rfl rfl hl.1 rfl (Nat.le_of_ble_eq_true rfl) dXM_read_97 (by rw [hR]; exact ⟨Nat.le_of_ble_eq_true rfl, Nat.le_of_ble_eq_true rfl⟩) (fun u14 H locs hwb15 hP hD hS => ?_)
      obtain ⟨y1n'7, y2n'8, y3n'9, y4n', y5n', y6n'10, y7n'11, y8n'12, y9n'13⟩ := u14
      try dsimp only at hwb15
      obtain ⟨f16, f17, f18, f19, f20, f21, f22, f23, f24⟩ := hwb15
      have f16 : y1n'7 = kcp x1 31 31 := f16
      have f17 : y2n'8 = kcp x2 31 31 := f17
      have f18 : y3n'9 = kcp x3 248 248 := f18
      have f19 : y4n' = kcp x4 248 248 := f19
      have f20 : y5n' = kcp x5 248 248 := f20
      have f21 : y6n'10 = kcp x6 31 31 := f21
      have f22 : y7n'11 = kcp x7 124 124 := f22
      have f23 : y8n'12 = kcp x8 4 4 := f23
      have f24 : y9n'13 = kcp x9 32 32 := f24
      have hP : va_P (dC, dI) vwCl [(a0, .inl (cA, 400, .inl (jA y0))), (ma, .inr (5, [.int (jI 0), .int (jI 0), .ref a0, .int (jI kx), .int (jI wx), .ref a1, .ref a2, .ref a3, .ref a4, .ref a5, .ref a6, .ref a7, .ref a8, .ref a9, .ref a10, .long (jL mu), .long (jL md), .int (jI mo), .ref a11])), (a1, .inl (cZ, 62, .inl (jA y1n'7))), (a2, .inl (cA, 62, .inl (jA y2n'8))), (a3, .inl (cZ, 496, .inl (jA y3n'9))), (a4, .inl (cA, 496, .inl (jA y4n'))), (a5, .inl (cA, 496, .inl (jA y5n'))), (a6, .inl (cA, 62, .inl (jA y6n'10))), (a7, .inl (cA, 248, .inl (jA y7n'11))), (a8, .inl (cZ, 8, .inl (jA y8n'12))), (a9, .inl (cA, 64, .inl (jA y9n'13)))] H := hP
      have hD : va_D A [(a0, .inl (cA, 400, .inl (jA y0))), (ma, .inr (5, [.int (jI 0), .int (jI 0), .ref a0, .int (jI kx), .int (jI wx), .ref a1, .ref a2, .ref a3, .ref a4, .ref a5, .ref a6, .ref a7, .ref a8, .ref a9, .ref a10, .long (jL mu), .long (jL md), .int (jI mo), .ref a11])), (a1, .inl (cZ, 62, .inl (jA y1n'7))), (a2, .inl (cA, 62, .inl (jA y2n'8))), (a3, .inl (cZ, 496, .inl (jA y3n'9))), (a4, .inl (cA, 496, .inl (jA y4n'))), (a5, .inl (cA, 496, .inl (jA y5n'))), (a6, .inl (cA, 62, .inl (jA y6n'10))), (a7, .inl (cA, 248, .inl (jA y7n'11))), (a8, .inl (cZ, 8, .inl (jA y8n'12))), (a9, .inl (cA, 64, .inl (jA y9n'13)))] := hD
      have eq_y1n97 : y1n'7 = kcp x1 31 31 := by assumption
      subst eq_y1n97
      have eq_y2n98 : y2n'8 = kcp x2 31 31 := by assumption
      subst eq_y2n98
      have eq_y3n99 : y3n'9 = kcp x3 248 248 := by assumption
      subst eq_y3n99
      have eq_y4n9 : y4n' = kcp x4 248 248 := by assumption
      subst eq_y4n9
      have eq_y5n9 : y5n' = kcp x5 248 248 := by assumption
      subst eq_y5n9
      have eq_y6n910 : y6n'10 = kcp x6 31 31 := by assumption
      subst eq_y6n910
      have eq_y7n911 : y7n'11 = kcp x7 124 124 := by assumption
      subst eq_y7n911
      have eq_y8n912 : y8n'12 = kcp x8 4 4 := by assumption
      subst eq_y8n912
      have eq_y9n913 : y9n'13 = kcp x9 32 32 := by assumption
      subst eq_y9n913
      have hP : va_P (dC, dI) vwCl [(a0, .inl (cA, 400, .inl (jA y0))), (ma, .inr (5, [.int (jI 0), .int (jI 0), .ref a0, .int (jI kx), .int (jI wx), .ref a1, .ref a2, .ref a3, .ref a4, .ref a5, .ref a6, .ref a7, .ref a8, .ref a9, .ref a10, .long (jL mu), .long (jL md), .int (jI mo), .ref a11])), (a1, .inl (cZ, 62, .inl (jA (kcp x1 31 31)))), (a2, .inl (cA, 62, .inl (jA (kcp x2 31 31)))), (a3, .inl (cZ, 496, .inl (jA (kcp x3 248 248)))), (a4, .inl (cA, 496, .inl (jA (kcp x4 248 248)))), (a5, .inl (cA, 496, .inl (jA (kcp x5 248 248)))), (a6, .inl (cA, 62, .inl (jA (kcp x6 31 31)))), (a7, .inl (cA, 248, .inl (jA (kcp x7 124 124)))), (a8, .inl (cZ, 8, .inl (jA (kcp x8 4 4)))), (a9, .inl (cA, 64, .inl (jA (kcp x9 32 32))))] H := hP
      have hD : va_D A [(a0, .inl (cA, 400, .inl (jA y0))), (ma, .inr (5, [.int (jI 0), .int (jI 0), .ref a0, .int (jI kx), .int (jI wx), .ref a1, .ref a2, .ref a3, .ref a4, .ref a5, .ref a6, .ref a7, .ref a8, .ref a9, .ref a10, .long (jL mu), .long (jL md), .int (jI mo), .ref a11])), (a1, .inl (cZ, 62, .inl (jA (kcp x1 31 31)))), (a2, .inl (cA, 62, .inl (jA (kcp x2 31 31)))), (a3, .inl (cZ, 496, .inl (jA (kcp x3 248 248)))), (a4, .inl (cA, 496, .inl (jA (kcp x4 248 248)))), (a5, .inl (cA, 496, .inl (jA (kcp x5 248 248)))), (a6, .inl (cA, 62, .inl (jA (kcp x6 31 31)))), (a7, .inl (cA, 248, .inl (jA (kcp x7 124 124)))), (a8, .inl (cZ, 8, .inl (jA (kcp x8 4 4)))), (a9, .inl (cA, 64, .inl (jA (kcp x9 32 32))))] := hD
      refine ji_iconst hx hb dXM_read_100 ?_
      refine lv_istore_n (lv' := [(1, .int (jI 0)), (0, .ref ma)]) hx hb dXM_read_101 rfl hl (by decide) rfl (fun ls hl => ?_)
      refine ji_iconst hx hb dXM_read_102 ?_
      refine lv_istore_n (lv' := [(2, .int (jI 0)), (1, .int (jI 0)), (0, .ref ma)]) hx hb dXM_read_103 rfl hl (by decide) rfl (fun ls hl => ?_)
      have loop104 : ∀ (n9 : Nat) (n1 : Int) (k2 : Int) , 31 - k2 < (n9 : Int) → f_XM_readP_L104 mth mn mp mw mu md mo y0 y1 y2 y3 y4 y5 y6 y7 y8 y9 kx wx x1 x2 x3 x4 x5 x6 x7 x8 x9 n9 n1 k2 = f_XM_readP mth mn mp mw mu md mo y0 y1 y2 y3 y4 y5 y6 y7 y8 y9 → (0 ≤ n1 ∧ n1 ≤ k2) → (0 ≤ k2 ∧ k2 ≤ 31) → ∀ (H : Heap) (locs : List Loc), va_P (dC, dI) vwCl [(a0, .inl (cA, 400, .inl (jA y0))), (ma, .inr (5, [.int (jI 0), .int (jI 0), .ref a0, .int (jI kx), .int (jI wx), .ref a1, .ref a2, .ref a3, .ref a4, .ref a5, .ref a6, .ref a7, .ref a8, .ref a9, .ref a10, .long (jL mu), .long (jL md), .int (jI mo), .ref a11])), (a1, .inl (cZ, 62, .inl (jA (kcp x1 31 31)))), (a2, .inl (cA, 62, .inl (jA (kcp x2 31 31)))), (a3, .inl (cZ, 496, .inl (jA (kcp x3 248 248)))), (a4, .inl (cA, 496, .inl (jA (kcp x4 248 248)))), (a5, .inl (cA, 496, .inl (jA (kcp x5 248 248)))), (a6, .inl (cA, 62, .inl (jA (kcp x6 31 31)))), (a7, .inl (cA, 248, .inl (jA (kcp x7 124 124)))), (a8, .inl (cZ, 8, .inl (jA (kcp x8 4 4)))), (a9, .inl (cA, 64, .inl (jA (kcp x9 32 32))))] H → va_D A [(a0, .inl (cA, 400, .inl (jA y0))), (ma, .inr (5, [.int (jI 0), .int (jI 0), .ref a0, .int (jI kx), .int (jI wx), .ref a1, .ref a2, .ref a3, .ref a4, .ref a5, .ref a6, .ref a7, .ref a8, .ref a9, .ref a10, .long (jL mu), .long (jL md), .int (jI mo), .ref a11])), (a1, .inl (cZ, 62, .inl (jA (kcp x1 31 31)))), (a2, .inl (cA, 62, .inl (jA (kcp x2 31 31)))), (a3, .inl (cZ, 496, .inl (jA (kcp x3 248 248)))), (a4, .inl (cA, 496, .inl (jA (kcp x4 248 248)))), (a5, .inl (cA, 496, .inl (jA (kcp x5 248 248)))), (a6, .inl (cA, 62, .inl (jA (kcp x6 31 31)))), (a7, .inl (cA, 248, .inl (jA (kcp x7 124 124)))), (a8, .inl (cZ, 8, .inl (jA (kcp x8 4 4)))), (a9, .inl (cA, 64, .inl (jA (kcp x9 32 32))))] → va_S A s.heap H locs → ∀ ls : Array Slot, lv_has ls 3 [(2, .int (jI k2)), (1, .int (jI n1)), (0, .ref ma)] → W p l e R s m ([.ref ma] : List Value).toArray below meth c H locs 0 0 Q (F0 m 104 ls []) := by
        intro n9
        induction n9 with
        | zero =>
          intro n1 k2 hm hF hn1 hk2
          exact absurd hm (by omega)
        | succ n9 ih104 =>
          intro n1 k2 hm hF hn1 hk2 H locs hP hD hS ls hl
          refine lv_iload_n hx hb dXM_read_104 rfl (lv_at hl 0 rfl) ?_
          refine ji_bipush hx hb dXM_read_105 (by decide) ?_
          refine ji_icmp_ge (tgt := 128) hx hb dXM_read_107 (by decide) (by omega) (by omega) (fun c107_ => ?_) (fun c107_ => ?_)
          · refine lv_iload_n hx hb dXM_read_128 rfl (lv_at hl 1 rfl) ?_
            have hP9 := hP.sub (ws' := [(ma, .inr (5, [.int (jI 0), .int (jI 0), .ref a0, .int (jI kx), .int (jI wx), .ref a1, .ref a2, .ref a3, .ref a4, .ref a5, .ref a6, .ref a7, .ref a8, .ref a9, .ref a10, .long (jL mu), .long (jL md), .int (jI mo), .ref a11])), (a0, .inl (cA, 400, .inl (jA y0))), (a1, .inl (cZ, 62, .inl (jA (kcp x1 31 31)))), (a2, .inl (cA, 62, .inl (jA (kcp x2 31 31)))), (a3, .inl (cZ, 496, .inl (jA (kcp x3 248 248)))), (a4, .inl (cA, 496, .inl (jA (kcp x4 248 248)))), (a5, .inl (cA, 496, .inl (jA (kcp x5 248 248)))), (a6, .inl (cA, 62, .inl (jA (kcp x6 31 31)))), (a7, .inl (cA, 248, .inl (jA (kcp x7 124 124)))), (a8, .inl (cZ, 8, .inl (jA (kcp x8 4 4)))), (a9, .inl (cA, 64, .inl (jA (kcp x9 32 32))))]) [1, 0, 2, 3, 4, 5, 6, 7, 8, 9, 10] rfl
            have hD9 := hD.sub (ws' := [(ma, .inr (5, [.int (jI 0), .int (jI 0), .ref a0, .int (jI kx), .int (jI wx), .ref a1, .ref a2, .ref a3, .ref a4, .ref a5, .ref a6, .ref a7, .ref a8, .ref a9, .ref a10, .long (jL mu), .long (jL md), .int (jI mo), .ref a11])), (a0, .inl (cA, 400, .inl (jA y0))), (a1, .inl (cZ, 62, .inl (jA (kcp x1 31 31)))), (a2, .inl (cA, 62, .inl (jA (kcp x2 31 31)))), (a3, .inl (cZ, 496, .inl (jA (kcp x3 248 248)))), (a4, .inl (cA, 496, .inl (jA (kcp x4 248 248)))), (a5, .inl (cA, 496, .inl (jA (kcp x5 248 248)))), (a6, .inl (cA, 62, .inl (jA (kcp x6 31 31)))), (a7, .inl (cA, 248, .inl (jA (kcp x7 124 124)))), (a8, .inl (cZ, 8, .inl (jA (kcp x8 4 4)))), (a9, .inl (cA, 64, .inl (jA (kcp x9 32 32))))]) [1, 0, 2, 3, 4, 5, 6, 7, 8, 9, 10] (by decide) rfl
            subst hAe
            subst hQ
            exact W.iret (v := jI n1) hx hb hr (fun t ht hW => ⟨⟨_, (n1, 0, 0, kx, wx, kcp x1 31 31, kcp x2 31 31, kcp x3 248 248, kcp x4 248 248, kcp x5 248 248, kcp x6 31 31, kcp x7 124 124, kcp x8 4 4, kcp x9 32 32), rfl, ⟨rfl, Eq.trans (by rw [f_XM_readP_L104_s]; rw [if_neg (Int.not_lt.mpr c107_)]; try rfl) hF, show 0 = 0 from by first | assumption | omega | rfl | exact fun h => absurd h (by omega) | exact kcp_b _ _ _ _ _ (by assumption), show 0 = 0 from by first | assumption | omega | rfl | exact fun h => absurd h (by omega) | exact kcp_b _ _ _ _ _ (by assumption), show ∀ i, 0 ≤ (kcp x1 31 31) i ∧ (kcp x1 31 31) i ≤ 1 from by first | assumption | omega | rfl | exact fun h => absurd h (by omega) | exact kcp_b _ _ _ _ _ (by assumption), show ∀ i, 0 ≤ (kcp x2 31 31) i ∧ (kcp x2 31 31) i ≤ 30 from by first | assumption | omega | rfl | exact fun h => absurd h (by omega) | exact kcp_b _ _ _ _ _ (by assumption), show ∀ i, 0 ≤ (kcp x3 248 248) i ∧ (kcp x3 248 248) i ≤ 1 from by first | assumption | omega | rfl | exact fun h => absurd h (by omega) | exact kcp_b _ _ _ _ _ (by assumption), show ∀ i, 0 ≤ (kcp x4 248 248) i ∧ (kcp x4 248 248) i ≤ 100000 from by first | assumption | omega | rfl | exact fun h => absurd h (by omega) | exact kcp_b _ _ _ _ _ (by assumption), show ∀ i, 0 ≤ (kcp x5 248 248) i ∧ (kcp x5 248 248) i ≤ 100000 from by first | assumption | omega | rfl | exact fun h => absurd h (by omega) | exact kcp_b _ _ _ _ _ (by assumption), show ∀ i, -2147483648 ≤ (kcp x6 31 31) i ∧ (kcp x6 31 31) i ≤ 2147483647 from by first | assumption | omega | rfl | exact fun h => absurd h (by omega) | exact kcp_b _ _ _ _ _ (by assumption), show ∀ i, -1 ≤ (kcp x7 124 124) i ∧ (kcp x7 124 124) i ≤ 999999 from by first | assumption | omega | rfl | exact fun h => absurd h (by omega) | exact kcp_b _ _ _ _ _ (by assumption), show ∀ i, 0 ≤ (kcp x8 4 4) i ∧ (kcp x8 4 4) i ≤ 1 from by first | assumption | omega | rfl | exact fun h => absurd h (by omega) | exact kcp_b _ _ _ _ _ (by assumption), show ∀ i, 0 ≤ (kcp x9 32 32) i ∧ (kcp x9 32 32) i ≤ 20 from by first | assumption | omega | rfl | exact fun h => absurd h (by omega) | exact kcp_b _ _ _ _ _ (by assumption), show 0 ≤ wx → ∀ i, i < 31 → (kcp x1 31 31) i = y1 i from by first | assumption | omega | rfl | exact fun h => absurd h (by omega) | exact kcp_b _ _ _ _ _ (by assumption), show 0 ≤ wx → ∀ i, i < 31 → (kcp x2 31 31) i = y2 i from by first | assumption | omega | rfl | exact fun h => absurd h (by omega) | exact kcp_b _ _ _ _ _ (by assumption), show 0 ≤ wx → ∀ i, i < 248 → (kcp x3 248 248) i = y3 i from by first | assumption | omega | rfl | exact fun h => absurd h (by omega) | exact kcp_b _ _ _ _ _ (by assumption), show 0 ≤ wx → ∀ i, i < 248 → (kcp x4 248 248) i = y4 i from by first | assumption | omega | rfl | exact fun h => absurd h (by omega) | exact kcp_b _ _ _ _ _ (by assumption), show 0 ≤ wx → ∀ i, i < 248 → (kcp x5 248 248) i = y5 i from by first | assumption | omega | rfl | exact fun h => absurd h (by omega) | exact kcp_b _ _ _ _ _ (by assumption), show 0 ≤ wx → ∀ i, i < 31 → (kcp x6 31 31) i = y6 i from by first | assumption | omega | rfl | exact fun h => absurd h (by omega) | exact kcp_b _ _ _ _ _ (by assumption), show 0 ≤ wx → ∀ i, i < 124 → (kcp x7 124 124) i = y7 i from by first | assumption | omega | rfl | exact fun h => absurd h (by omega) | exact kcp_b _ _ _ _ _ (by assumption), show 0 ≤ wx → ∀ i, i < 4 → (kcp x8 4 4) i = y8 i from by first | assumption | omega | rfl | exact fun h => absurd h (by omega) | exact kcp_b _ _ _ _ _ (by assumption), show 0 ≤ wx → ∀ i, i < 32 → (kcp x9 32 32) i = y9 i from by first | assumption | omega | rfl | exact fun h => absurd h (by omega) | exact kcp_b _ _ _ _ _ (by assumption)⟩, ⟨by rw [ht]; exact hP9, va_K.moved hW.alike hK, hD9⟩⟩, hS.F ht⟩) hS.2.2 dXM_read_129
          · refine lv_aload_n hx hb dXM_read_110 rfl (lv_at hl 2 rfl) ?_
            refine va_get (D := (dC, dI)) (ci := 5) (v := .ref a1) (C := RXM) (T := TXM) (N := 19) hx hb hts (fun w h => jmem (inXM w h)) hown hK hP 1 rfl rfl 5 (by decide) (hts _ (jmem tw_633)) (fun _ h9 => h9) rfl dXM_read_111 ?_
            refine lv_iload_n hx hb dXM_read_114 rfl (lv_at hl 0 rfl) ?_
            refine ji_zald hx hb hK hP 2 1 rfl rfl ⟨by omega, by omega⟩ (by decide) dXM_read_115 ?_
            have rb := hy1 k2
            refine ji_if_eq (tgt := 122) hx hb dXM_read_116 (by decide) (by have h9 := kcp_b x1 31 31 0 1 hx1 k2; omega) (fun c116_ => ?_) (fun c116_ => ?_)
            · refine ji_iinc (k := 0) (lv' := [(2, .int (jI (k2 + 1))), (1, .int (jI n1)), (0, .ref ma)]) hx hb dXM_read_122 hl rfl (by decide) rfl (fun ls hl => ?_)
              refine lv_goto (tgt := 104) hx hb dXM_read_125 (by decide) ?_
              exact ih104 n1 (k2 + 1) (by omega) (Eq.trans (by rw [f_XM_readP_L104_s]; rw [if_pos c107_, if_pos c116_]; try rfl) hF) (by first | assumption | omega) (by first | assumption | omega) _ _ hP hD hS ls (lv_sub hl [0, 1, 2] rfl)
            · refine ji_iinc (k := 1) (lv' := [(1, .int (jI (n1 + 1))), (2, .int (jI k2)), (0, .ref ma)]) hx hb dXM_read_119 hl rfl (by decide) rfl (fun ls hl => ?_)
              refine ji_iinc (k := 1) (lv' := [(2, .int (jI (k2 + 1))), (1, .int (jI (n1 + 1))), (0, .ref ma)]) hx hb dXM_read_122 hl rfl (by decide) rfl (fun ls hl => ?_)
              refine lv_goto (tgt := 104) hx hb dXM_read_125 (by decide) ?_
              exact ih104 (n1 + 1) (k2 + 1) (by omega) (Eq.trans (by rw [f_XM_readP_L104_s]; rw [if_pos c107_, if_neg c116_]; try rfl) hF) (by first | assumption | omega) (by first | assumption | omega) _ _ hP hD hS ls (lv_sub hl [0, 1, 2] rfl)
      exact loop104 (Int.toNat (31 - 0) + 1) 0 0 (by omega) (Eq.trans (by rw [f_XM_readP_J77_s]; rw [if_pos c86_]; try rfl) hF) (by first | assumption | omega) (by first | assumption | omega) _ _ hP hD hS ls (lv_sub hl [0, 1, 2] rfl)
    · refine ji_iconst hx hb dXM_read_89 ?_
      refine lv_aload_n hx hb dXM_read_90 rfl (lv_at hl 0 rfl) ?_
      refine va_get (D := (dC, dI)) (ci := 5) (v := .int (jI wx)) (C := RXM) (T := TXM) (N := 19) hx hb hts (fun w h => jmem (inXM w h)) hown hK hP 3 rfl rfl 4 (by decide) (hts _ (jmem tw_632)) (fun _ h9 => h9) rfl dXM_read_91 ?_
      refine ji_isub hx hb dXM_read_94 ?_
      have hP9 := hP.sub (ws' := [(ma, .inr (5, [.int (jI 0), .int (jI 0), .ref a0, .int (jI kx), .int (jI wx), .ref a1, .ref a2, .ref a3, .ref a4, .ref a5, .ref a6, .ref a7, .ref a8, .ref a9, .ref a10, .long (jL mu), .long (jL md), .int (jI mo), .ref a11])), (a0, .inl (cA, 400, .inl (jA y0))), (a1, .inl (cZ, 62, .inl (jA x1))), (a2, .inl (cA, 62, .inl (jA x2))), (a3, .inl (cZ, 496, .inl (jA x3))), (a4, .inl (cA, 496, .inl (jA x4))), (a5, .inl (cA, 496, .inl (jA x5))), (a6, .inl (cA, 62, .inl (jA x6))), (a7, .inl (cA, 248, .inl (jA x7))), (a8, .inl (cZ, 8, .inl (jA x8))), (a9, .inl (cA, 64, .inl (jA x9)))]) [3, 0, 4, 5, 6, 1, 2, 7, 8, 9, 10] rfl
      have hD9 := hD.sub (ws' := [(ma, .inr (5, [.int (jI 0), .int (jI 0), .ref a0, .int (jI kx), .int (jI wx), .ref a1, .ref a2, .ref a3, .ref a4, .ref a5, .ref a6, .ref a7, .ref a8, .ref a9, .ref a10, .long (jL mu), .long (jL md), .int (jI mo), .ref a11])), (a0, .inl (cA, 400, .inl (jA y0))), (a1, .inl (cZ, 62, .inl (jA x1))), (a2, .inl (cA, 62, .inl (jA x2))), (a3, .inl (cZ, 496, .inl (jA x3))), (a4, .inl (cA, 496, .inl (jA x4))), (a5, .inl (cA, 496, .inl (jA x5))), (a6, .inl (cA, 62, .inl (jA x6))), (a7, .inl (cA, 248, .inl (jA x7))), (a8, .inl (cZ, 8, .inl (jA x8))), (a9, .inl (cA, 64, .inl (jA x9)))]) [3, 0, 4, 5, 6, 1, 2, 7, 8, 9, 10] (by decide) rfl
      subst hAe
      subst hQ
      exact W.iret (v := jI ((-1) - wx)) hx hb hr (fun t ht hW => ⟨⟨_, ((-1) - wx, 0, 0, kx, wx, x1, x2, x3, x4, x5, x6, x7, x8, x9), rfl, ⟨rfl, Eq.trans (by rw [f_XM_readP_J77_s]; rw [if_neg (Int.not_lt.mpr c86_)]; try rfl) hF, show 0 = 0 from by first | assumption | omega | rfl | exact fun _ => (by assumption), show 0 = 0 from by first | assumption | omega | rfl | exact fun _ => (by assumption), show ∀ i, 0 ≤ x1 i ∧ x1 i ≤ 1 from by first | assumption | omega | rfl | exact fun _ => (by assumption), show ∀ i, 0 ≤ x2 i ∧ x2 i ≤ 30 from by first | assumption | omega | rfl | exact fun _ => (by assumption), show ∀ i, 0 ≤ x3 i ∧ x3 i ≤ 1 from by first | assumption | omega | rfl | exact fun _ => (by assumption), show ∀ i, 0 ≤ x4 i ∧ x4 i ≤ 100000 from by first | assumption | omega | rfl | exact fun _ => (by assumption), show ∀ i, 0 ≤ x5 i ∧ x5 i ≤ 100000 from by first | assumption | omega | rfl | exact fun _ => (by assumption), show ∀ i, -2147483648 ≤ x6 i ∧ x6 i ≤ 2147483647 from by first | assumption | omega | rfl | exact fun _ => (by assumption), show ∀ i, -1 ≤ x7 i ∧ x7 i ≤ 999999 from by first | assumption | omega | rfl | exact fun _ => (by assumption), show ∀ i, 0 ≤ x8 i ∧ x8 i ≤ 1 from by first | assumption | omega | rfl | exact fun _ => (by assumption), show ∀ i, 0 ≤ x9 i ∧ x9 i ≤ 20 from by first | assumption | omega | rfl | exact fun _ => (by assumption), show 0 ≤ wx → ∀ i, i < 31 → x1 i = y1 i from by first | assumption | omega | rfl | exact fun _ => (by assumption), show 0 ≤ wx → ∀ i, i < 31 → x2 i = y2 i from by first | assumption | omega | rfl | exact fun _ => (by assumption), show 0 ≤ wx → ∀ i, i < 248 → x3 i = y3 i from by first | assumption | omega | rfl | exact fun _ => (by assumption), show 0 ≤ wx → ∀ i, i < 248 → x4 i = y4 i from by first | assumption | omega | rfl | exact fun _ => (by assumption), show 0 ≤ wx → ∀ i, i < 248 → x5 i = y5 i from by first | assumption | omega | rfl | exact fun _ => (by assumption), show 0 ≤ wx → ∀ i, i < 31 → x6 i = y6 i from by first | assumption | omega | rfl | exact fun _ => (by assumption), show 0 ≤ wx → ∀ i, i < 124 → x7 i = y7 i from by first | assumption | omega | rfl | exact fun _ => (by assumption), show 0 ≤ wx → ∀ i, i < 4 → x8 i = y8 i from by first | assumption | omega | rfl | exact fun _ => (by assumption), show 0 ≤ wx → ∀ i, i < 32 → x9 i = y9 i from by first | assumption | omega | rfl | exact fun _ => (by assumption)⟩, ⟨by rw [ht]; exact hP9, va_K.moved hW.alike hK, hD9⟩⟩, hS.F ht⟩) hS.2.2 dXM_read_95
  have loop20 : ∀ (n9 : Nat) (k : Int) (w : Int) (w1 : Int → Int) (w2 : Int → Int) (w3 : Int → Int) (w4 : Int → Int) (w5 : Int → Int) (w6 : Int → Int) (w7 : Int → Int) (w8 : Int → Int) (w9 : Int → Int) , mn - k - w + 400 < (n9 : Int) → f_XM_readP_L20 mth mn mp mw mu md mo y0 y1 y2 y3 y4 y5 y6 y7 y8 y9 n9 k w w1 w2 w3 w4 w5 w6 w7 w8 w9 = f_XM_readP mth mn mp mw mu md mo y0 y1 y2 y3 y4 y5 y6 y7 y8 y9 → (0 ≤ k ∧ k ≤ mn) → (-1 ≤ w ∧ w ≤ 400) → (∀ i, 0 ≤ w1 i ∧ w1 i ≤ 1) → (∀ i, 0 ≤ w2 i ∧ w2 i ≤ 30) → (∀ i, 0 ≤ w3 i ∧ w3 i ≤ 1) → (∀ i, 0 ≤ w4 i ∧ w4 i ≤ 100000) → (∀ i, 0 ≤ w5 i ∧ w5 i ≤ 100000) → (∀ i, -2147483648 ≤ w6 i ∧ w6 i ≤ 2147483647) → (∀ i, -1 ≤ w7 i ∧ w7 i ≤ 999999) → (∀ i, 0 ≤ w8 i ∧ w8 i ≤ 1) → (∀ i, 0 ≤ w9 i ∧ w9 i ≤ 20) → (∀ i, i < 31 → w1 i = y1 i) → (∀ i, i < 31 → w2 i = y2 i) → (∀ i, i < 248 → w3 i = y3 i) → (∀ i, i < 248 → w4 i = y4 i) → (∀ i, i < 248 → w5 i = y5 i) → (∀ i, i < 31 → w6 i = y6 i) → (∀ i, i < 124 → w7 i = y7 i) → (∀ i, i < 4 → w8 i = y8 i) → (∀ i, i < 32 → w9 i = y9 i) → ∀ (H : Heap) (locs : List Loc), va_P (dC, dI) vwCl [(a0, .inl (cA, 400, .inl (jA y0))), (a4, .inl (cA, 496, .inl (jA w4))), (a5, .inl (cA, 496, .inl (jA w5))), (ma, .inr (5, [.int (jI 0), .int (jI mn), .ref a0, .int (jI k), .int (jI w), .ref a1, .ref a2, .ref a3, .ref a4, .ref a5, .ref a6, .ref a7, .ref a8, .ref a9, .ref a10, .long (jL mu), .long (jL md), .int (jI mo), .ref a11])), (a1, .inl (cZ, 62, .inl (jA w1))), (a2, .inl (cA, 62, .inl (jA w2))), (a3, .inl (cZ, 496, .inl (jA w3))), (a6, .inl (cA, 62, .inl (jA w6))), (a7, .inl (cA, 248, .inl (jA w7))), (a8, .inl (cZ, 8, .inl (jA w8))), (a9, .inl (cA, 64, .inl (jA w9)))] H → va_D A [(a0, .inl (cA, 400, .inl (jA y0))), (a4, .inl (cA, 496, .inl (jA w4))), (a5, .inl (cA, 496, .inl (jA w5))), (ma, .inr (5, [.int (jI 0), .int (jI mn), .ref a0, .int (jI k), .int (jI w), .ref a1, .ref a2, .ref a3, .ref a4, .ref a5, .ref a6, .ref a7, .ref a8, .ref a9, .ref a10, .long (jL mu), .long (jL md), .int (jI mo), .ref a11])), (a1, .inl (cZ, 62, .inl (jA w1))), (a2, .inl (cA, 62, .inl (jA w2))), (a3, .inl (cZ, 496, .inl (jA w3))), (a6, .inl (cA, 62, .inl (jA w6))), (a7, .inl (cA, 248, .inl (jA w7))), (a8, .inl (cZ, 8, .inl (jA w8))), (a9, .inl (cA, 64, .inl (jA w9)))] → va_S A s.heap H locs → ∀ ls : Array Slot, lv_has ls 3 [(0, .ref ma)] → W p l e R s m ([.ref ma] : List Value).toArray below meth c H locs 0 0 Q (F0 m 20 ls []) := by
    intro n9
    induction n9 with
    | zero =>
      intro k w w1 w2 w3 w4 w5 w6 w7 w8 w9 hm hF hk hw hw1 hw2 hw3 hw4 hw5 hw6 hw7 hw8 hw9 lw1 lw2 lw3 lw4 lw5 lw6 lw7 lw8 lw9
      exact absurd hm (by omega)
    | succ n9 ih20 =>
      intro k w w1 w2 w3 w4 w5 w6 w7 w8 w9 hm hF hk hw hw1 hw2 hw3 hw4 hw5 hw6 hw7 hw8 hw9 lw1 lw2 lw3 lw4 lw5 lw6 lw7 lw8 lw9 H locs hP hD hS ls hl
      refine lv_aload_n hx hb dXM_read_20 rfl (lv_at hl 0 rfl) ?_
      refine va_get (D := (dC, dI)) (ci := 5) (v := .int (jI w)) (C := RXM) (T := TXM) (N := 19) hx hb hts (fun w h => jmem (inXM w h)) hown hK hP 3 rfl rfl 4 (by decide) (hts _ (jmem tw_632)) (fun _ h9 => h9) rfl dXM_read_21 ?_
      refine ji_if_ge (tgt := 77) hx hb dXM_read_24 (by decide) (by omega) (fun c24_ => ?_) (fun c24_ => ?_)
      · exact join77 k w w1 w2 w3 w4 w5 w6 w7 w8 w9 (Eq.trans (by rw [f_XM_readP_L20_s]; rw [if_neg (Int.not_lt.mpr c24_)]; try rfl) hF) (by first | assumption | omega | exact jset_b (by assumption) (by omega) | exact kfill_b _ _ _ _ _ _ (by assumption) (by decide) | exact kfill_l (by decide) | exact fun _ _ => rfl | exact l_trans (by assumption) (by assumption)) (by first | assumption | omega | exact jset_b (by assumption) (by omega) | exact kfill_b _ _ _ _ _ _ (by assumption) (by decide) | exact kfill_l (by decide) | exact fun _ _ => rfl | exact l_trans (by assumption) (by assumption)) (by first | assumption | omega | exact jset_b (by assumption) (by omega) | exact kfill_b _ _ _ _ _ _ (by assumption) (by decide) | exact kfill_l (by decide) | exact fun _ _ => rfl | exact l_trans (by assumption) (by assumption)) (by first | assumption | omega | exact jset_b (by assumption) (by omega) | exact kfill_b _ _ _ _ _ _ (by assumption) (by decide) | exact kfill_l (by decide) | exact fun _ _ => rfl | exact l_trans (by assumption) (by assumption)) (by first | assumption | omega | exact jset_b (by assumption) (by omega) | exact kfill_b _ _ _ _ _ _ (by assumption) (by decide) | exact kfill_l (by decide) | exact fun _ _ => rfl | exact l_trans (by assumption) (by assumption)) (by first | assumption | omega | exact jset_b (by assumption) (by omega) | exact kfill_b _ _ _ _ _ _ (by assumption) (by decide) | exact kfill_l (by decide) | exact fun _ _ => rfl | exact l_trans (by assumption) (by assumption)) (by first | assumption | omega | exact jset_b (by assumption) (by omega) | exact kfill_b _ _ _ _ _ _ (by assumption) (by decide) | exact kfill_l (by decide) | exact fun _ _ => rfl | exact l_trans (by assumption) (by assumption)) (by first | assumption | omega | exact jset_b (by assumption) (by omega) | exact kfill_b _ _ _ _ _ _ (by assumption) (by decide) | exact kfill_l (by decide) | exact fun _ _ => rfl | exact l_trans (by assumption) (by assumption)) (by first | assumption | omega | exact jset_b (by assumption) (by omega) | exact kfill_b _ _ _ _ _ _ (by assumption) (by decide) | exact kfill_l (by decide) | exact fun _ _ => rfl | exact l_trans (by assumption) (by assumption)) (by first | assumption | omega | exact jset_b (by assumption) (by omega) | exact kfill_b _ _ _ _ _ _ (by assumption) (by decide) | exact kfill_l (by decide) | exact fun _ _ => rfl | exact l_trans (by assumption) (by assumption)) (by first | assumption | omega | exact jset_b (by assumption) (by omega) | exact kfill_b _ _ _ _ _ _ (by assumption) (by decide) | exact kfill_l (by decide) | exact fun _ _ => rfl | exact l_trans (by assumption) (by assumption)) (by first | assumption | omega | exact jset_b (by assumption) (by omega) | exact kfill_b _ _ _ _ _ _ (by assumption) (by decide) | exact kfill_l (by decide) | exact fun _ _ => rfl | exact l_trans (by assumption) (by assumption)) (by first | assumption | omega | exact jset_b (by assumption) (by omega) | exact kfill_b _ _ _ _ _ _ (by assumption) (by decide) | exact kfill_l (by decide) | exact fun _ _ => rfl | exact l_trans (by assumption) (by assumption)) (by first | assumption | omega | exact jset_b (by assumption) (by omega) | exact kfill_b _ _ _ _ _ _ (by assumption) (by decide) | exact kfill_l (by decide) | exact fun _ _ => rfl | exact l_trans (by assumption) (by assumption)) (by first | assumption | omega | exact jset_b (by assumption) (by omega) | exact kfill_b _ _ _ _ _ _ (by assumption) (by decide) | exact kfill_l (by decide) | exact fun _ _ => rfl | exact l_trans (by assumption) (by assumption)) (by first | assumption | omega | exact jset_b (by assumption) (by omega) | exact kfill_b _ _ _ _ _ _ (by assumption) (by decide) | exact kfill_l (by decide) | exact fun _ _ => rfl | exact l_trans (by assumption) (by assumption)) (by first | assumption | omega | exact jset_b (by assumption) (by omega) | exact kfill_b _ _ _ _ _ _ (by assumption) (by decide) | exact kfill_l (by decide) | exact fun _ _ => rfl | exact l_trans (by assumption) (by assumption)) (by first | assumption | omega | exact jset_b (by assumption) (by omega) | exact kfill_b _ _ _ _ _ _ (by assumption) (by decide) | exact kfill_l (by decide) | exact fun _ _ => rfl | exact l_trans (by assumption) (by assumption)) (by first | assumption | omega | exact jset_b (by assumption) (by omega) | exact kfill_b _ _ _ _ _ _ (by assumption) (by decide) | exact kfill_l (by decide) | exact fun _ _ => rfl | exact l_trans (by assumption) (by assumption)) _ _ hP hD hS ls (lv_sub hl [0] rfl)
      · refine lv_aload_n hx hb dXM_read_27 rfl (lv_at hl 0 rfl) ?_
        refine jwVi (rest := []) (wr := [(a4, .inl (cA, 496, .inl (jA w4))), (a5, .inl (cA, 496, .inl (jA w5))), (a1, .inl (cZ, 62, .inl (jA w1))), (a2, .inl (cA, 62, .inl (jA w2))), (a3, .inl (cZ, 496, .inl (jA w3))), (a6, .inl (cA, 62, .inl (jA w6))), (a7, .inl (cA, 248, .inl (jA w7))), (a8, .inl (cZ, 8, .inl (jA w8))), (a9, .inl (cA, 64, .inl (jA w9)))]) ⟨hx, hb, hml, hown, hts⟩ (c_XM_seeP l dC dI cA cZ _ ma a0 a1 a2 a3 a4 a5 a6 a7 a8 a9 a10 a11 0 mn k w mu md mo y0 (by first | assumption | omega) (by first | assumption | omega) (by first | assumption | omega)) (cwV 0 hts (jG_V tw_710 tw_712 ts_16 tw_6 tw_713) rfl rfl rfl (by decide +kernel) (by rw [hR]; exact ⟨Nat.le_of_ble_eq_true rfl, Nat.le_of_ble_eq_true rfl⟩)) hK hP hD hS hA hN [3, 0] [1, 2, 4, 5, 6, 7, 8, 9, 10] rfl rfl (by decide) (by decide) (by decide) 3 5 rfl rfl rfl rfl hl.1 rfl (Nat.le_of_ble_eq_true rfl) dXM_read_28 (by rw [hR]; exact ⟨Nat.le_of_ble_eq_true rfl, Nat.le_of_ble_eq_true rfl⟩) (fun v u25 H locs hwb26 hP hD hS => ?_)
        obtain ⟨r, mp1'⟩ := u25
        try dsimp only at hwb26
        obtain ⟨er, hwb26, f27, f28, f29⟩ := hwb26
        subst er
        have f27 : -1 ≤ r ∧ r ≤ 255 ∧ (0 ≤ r → mp1' < mn) := f27
        have f28 : k ≤ mp1' ∧ mp1' ≤ mn := f28
        have f29 : (mp1' < mn ∧ r = y0 mp1') ∨ (mp1' = mn ∧ r = -1) := f29
        have hP : va_P (dC, dI) vwCl [(a4, .inl (cA, 496, .inl (jA w4))), (a5, .inl (cA, 496, .inl (jA w5))), (a1, .inl (cZ, 62, .inl (jA w1))), (a2, .inl (cA, 62, .inl (jA w2))), (a3, .inl (cZ, 496, .inl (jA w3))), (a6, .inl (cA, 62, .inl (jA w6))), (a7, .inl (cA, 248, .inl (jA w7))), (a8, .inl (cZ, 8, .inl (jA w8))), (a9, .inl (cA, 64, .inl (jA w9))), (ma, .inr (5, [.int (jI 0), .int (jI mn), .ref a0, .int (jI mp1'), .int (jI w), .ref a1, .ref a2, .ref a3, .ref a4, .ref a5, .ref a6, .ref a7, .ref a8, .ref a9, .ref a10, .long (jL mu), .long (jL md), .int (jI mo), .ref a11])), (a0, .inl (cA, 400, .inl (jA y0)))] H := hP
        have hD : va_D A [(a4, .inl (cA, 496, .inl (jA w4))), (a5, .inl (cA, 496, .inl (jA w5))), (a1, .inl (cZ, 62, .inl (jA w1))), (a2, .inl (cA, 62, .inl (jA w2))), (a3, .inl (cZ, 496, .inl (jA w3))), (a6, .inl (cA, 62, .inl (jA w6))), (a7, .inl (cA, 248, .inl (jA w7))), (a8, .inl (cZ, 8, .inl (jA w8))), (a9, .inl (cA, 64, .inl (jA w9))), (ma, .inr (5, [.int (jI 0), .int (jI mn), .ref a0, .int (jI mp1'), .int (jI w), .ref a1, .ref a2, .ref a3, .ref a4, .ref a5, .ref a6, .ref a7, .ref a8, .ref a9, .ref a10, .long (jL mu), .long (jL md), .int (jI mo), .ref a11])), (a0, .inl (cA, 400, .inl (jA y0)))] := hD
        refine ji_if_lt (tgt := 77) hx hb dXM_read_31 (by decide) (by omega) (fun c31_ => ?_) (fun c31_ => ?_)
        · exact join77 mp1' w w1 w2 w3 w4 w5 w6 w7 w8 w9 (Eq.trans (by rw [f_XM_readP_L20_s]; rw [if_pos c24_]; rw [← hwb26]; try dsimp only; rw [if_pos c31_]; try rfl) hF) (by first | assumption | omega | exact jset_b (by assumption) (by omega) | exact kfill_b _ _ _ _ _ _ (by assumption) (by decide) | exact kfill_l (by decide) | exact fun _ _ => rfl | exact l_trans (by assumption) (by assumption)) (by first | assumption | omega | exact jset_b (by assumption) (by omega) | exact kfill_b _ _ _ _ _ _ (by assumption) (by decide) | exact kfill_l (by decide) | exact fun _ _ => rfl | exact l_trans (by assumption) (by assumption)) (by first | assumption | omega | exact jset_b (by assumption) (by omega) | exact kfill_b _ _ _ _ _ _ (by assumption) (by decide) | exact kfill_l (by decide) | exact fun _ _ => rfl | exact l_trans (by assumption) (by assumption)) (by first | assumption | omega | exact jset_b (by assumption) (by omega) | exact kfill_b _ _ _ _ _ _ (by assumption) (by decide) | exact kfill_l (by decide) | exact fun _ _ => rfl | exact l_trans (by assumption) (by assumption)) (by first | assumption | omega | exact jset_b (by assumption) (by omega) | exact kfill_b _ _ _ _ _ _ (by assumption) (by decide) | exact kfill_l (by decide) | exact fun _ _ => rfl | exact l_trans (by assumption) (by assumption)) (by first | assumption | omega | exact jset_b (by assumption) (by omega) | exact kfill_b _ _ _ _ _ _ (by assumption) (by decide) | exact kfill_l (by decide) | exact fun _ _ => rfl | exact l_trans (by assumption) (by assumption)) (by first | assumption | omega | exact jset_b (by assumption) (by omega) | exact kfill_b _ _ _ _ _ _ (by assumption) (by decide) | exact kfill_l (by decide) | exact fun _ _ => rfl | exact l_trans (by assumption) (by assumption)) (by first | assumption | omega | exact jset_b (by assumption) (by omega) | exact kfill_b _ _ _ _ _ _ (by assumption) (by decide) | exact kfill_l (by decide) | exact fun _ _ => rfl | exact l_trans (by assumption) (by assumption)) (by first | assumption | omega | exact jset_b (by assumption) (by omega) | exact kfill_b _ _ _ _ _ _ (by assumption) (by decide) | exact kfill_l (by decide) | exact fun _ _ => rfl | exact l_trans (by assumption) (by assumption)) (by first | assumption | omega | exact jset_b (by assumption) (by omega) | exact kfill_b _ _ _ _ _ _ (by assumption) (by decide) | exact kfill_l (by decide) | exact fun _ _ => rfl | exact l_trans (by assumption) (by assumption)) (by first | assumption | omega | exact jset_b (by assumption) (by omega) | exact kfill_b _ _ _ _ _ _ (by assumption) (by decide) | exact kfill_l (by decide) | exact fun _ _ => rfl | exact l_trans (by assumption) (by assumption)) (by first | assumption | omega | exact jset_b (by assumption) (by omega) | exact kfill_b _ _ _ _ _ _ (by assumption) (by decide) | exact kfill_l (by decide) | exact fun _ _ => rfl | exact l_trans (by assumption) (by assumption)) (by first | assumption | omega | exact jset_b (by assumption) (by omega) | exact kfill_b _ _ _ _ _ _ (by assumption) (by decide) | exact kfill_l (by decide) | exact fun _ _ => rfl | exact l_trans (by assumption) (by assumption)) (by first | assumption | omega | exact jset_b (by assumption) (by omega) | exact kfill_b _ _ _ _ _ _ (by assumption) (by decide) | exact kfill_l (by decide) | exact fun _ _ => rfl | exact l_trans (by assumption) (by assumption)) (by first | assumption | omega | exact jset_b (by assumption) (by omega) | exact kfill_b _ _ _ _ _ _ (by assumption) (by decide) | exact kfill_l (by decide) | exact fun _ _ => rfl | exact l_trans (by assumption) (by assumption)) (by first | assumption | omega | exact jset_b (by assumption) (by omega) | exact kfill_b _ _ _ _ _ _ (by assumption) (by decide) | exact kfill_l (by decide) | exact fun _ _ => rfl | exact l_trans (by assumption) (by assumption)) (by first | assumption | omega | exact jset_b (by assumption) (by omega) | exact kfill_b _ _ _ _ _ _ (by assumption) (by decide) | exact kfill_l (by decide) | exact fun _ _ => rfl | exact l_trans (by assumption) (by assumption)) (by first | assumption | omega | exact jset_b (by assumption) (by omega) | exact kfill_b _ _ _ _ _ _ (by assumption) (by decide) | exact kfill_l (by decide) | exact fun _ _ => rfl | exact l_trans (by assumption) (by assumption)) (by first | assumption | omega | exact jset_b (by assumption) (by omega) | exact kfill_b _ _ _ _ _ _ (by assumption) (by decide) | exact kfill_l (by decide) | exact fun _ _ => rfl | exact l_trans (by assumption) (by assumption)) _ _ (hP.sub [10, 0, 1, 9, 2, 3, 4, 5, 6, 7, 8] rfl) (hD.sub [10, 0, 1, 9, 2, 3, 4, 5, 6, 7, 8] (by decide) rfl) hS ls (lv_sub hl [0] rfl)
        · refine lv_aload_n hx hb dXM_read_34 rfl (lv_at hl 0 rfl) ?_
          refine ji_bipush hx hb dXM_read_35 (by decide) ?_
          refine jwVi (rest := []) (wr := [(a4, .inl (cA, 496, .inl (jA w4))), (a5, .inl (cA, 496, .inl (jA w5))), (a1, .inl (cZ, 62, .inl (jA w1))), (a2, .inl (cA, 62, .inl (jA w2))), (a3, .inl (cZ, 496, .inl (jA w3))), (a6, .inl (cA, 62, .inl (jA w6))), (a7, .inl (cA, 248, .inl (jA w7))), (a8, .inl (cZ, 8, .inl (jA w8))), (a9, .inl (cA, 64, .inl (jA w9)))]) ⟨hx, hb, hml, hown, hts⟩ (c_XM_takesP l dC dI cA cZ _ ma a0 a1 a2 a3 a4 a5 a6 a7 a8 a9 a10 a11 0 mn mp1' w mu md mo y0 101 (by first | assumption | omega) (by first | assumption | omega) (by first | assumption | omega) (by first | assumption | omega) (by first | assumption | omega)) (cwV 1 hts (jG_V tw_718 tw_720 ts_18 tw_6 tw_721) rfl rfl rfl (by decide +kernel) (by rw [hR]; exact ⟨Nat.le_of_ble_eq_true rfl, Nat.le_of_ble_eq_true rfl⟩)) hK hP hD hS hA hN [9, 10] [0, 1, 2, 3, 4, 5, 6, 7, 8] rfl rfl (by decide) (by decide) (by decide) 9 5 rfl rfl rfl rfl hl.1 rfl (Nat.le_of_ble_eq_true rfl) dXM_read_37 (by rw [hR]; exact ⟨Nat.le_of_ble_eq_true rfl, Nat.le_of_ble_eq_true rfl⟩) (fun v33 u32 H locs hwb34 hP hD hS => ?_)
          obtain ⟨r30, mp1'31⟩ := u32
          try dsimp only at hwb34
          obtain ⟨er, hwb34, f35⟩ := hwb34
          subst er
          have f35 : (r30 = 0 ∧ mp1' ≤ mp1'31 ∧ mp1'31 ≤ mn) ∨ (r30 = 1 ∧ mp1' < mp1'31 ∧ mp1'31 ≤ mn ∧ w < 0) := f35
          have hP : va_P (dC, dI) vwCl [(a4, .inl (cA, 496, .inl (jA w4))), (a5, .inl (cA, 496, .inl (jA w5))), (a1, .inl (cZ, 62, .inl (jA w1))), (a2, .inl (cA, 62, .inl (jA w2))), (a3, .inl (cZ, 496, .inl (jA w3))), (a6, .inl (cA, 62, .inl (jA w6))), (a7, .inl (cA, 248, .inl (jA w7))), (a8, .inl (cZ, 8, .inl (jA w8))), (a9, .inl (cA, 64, .inl (jA w9))), (ma, .inr (5, [.int (jI 0), .int (jI mn), .ref a0, .int (jI mp1'31), .int (jI w), .ref a1, .ref a2, .ref a3, .ref a4, .ref a5, .ref a6, .ref a7, .ref a8, .ref a9, .ref a10, .long (jL mu), .long (jL md), .int (jI mo), .ref a11])), (a0, .inl (cA, 400, .inl (jA y0)))] H := hP
          have hD : va_D A [(a4, .inl (cA, 496, .inl (jA w4))), (a5, .inl (cA, 496, .inl (jA w5))), (a1, .inl (cZ, 62, .inl (jA w1))), (a2, .inl (cA, 62, .inl (jA w2))), (a3, .inl (cZ, 496, .inl (jA w3))), (a6, .inl (cA, 62, .inl (jA w6))), (a7, .inl (cA, 248, .inl (jA w7))), (a8, .inl (cZ, 8, .inl (jA w8))), (a9, .inl (cA, 64, .inl (jA w9))), (ma, .inr (5, [.int (jI 0), .int (jI mn), .ref a0, .int (jI mp1'31), .int (jI w), .ref a1, .ref a2, .ref a3, .ref a4, .ref a5, .ref a6, .ref a7, .ref a8, .ref a9, .ref a10, .long (jL mu), .long (jL md), .int (jI mo), .ref a11])), (a0, .inl (cA, 400, .inl (jA y0)))] := hD
          refine ji_if_eq (tgt := 50) hx hb dXM_read_40 (by decide) (by omega) (fun c40_ => ?_) (fun c40_ => ?_)
          · refine lv_aload_n hx hb dXM_read_50 rfl (lv_at hl 0 rfl) ?_
            refine ji_bipush hx hb dXM_read_51 (by decide) ?_
            refine jwVi (rest := []) (wr := [(a4, .inl (cA, 496, .inl (jA w4))), (a5, .inl (cA, 496, .inl (jA w5))), (a1, .inl (cZ, 62, .inl (jA w1))), (a2, .inl (cA, 62, .inl (jA w2))), (a3, .inl (cZ, 496, .inl (jA w3))), (a6, .inl (cA, 62, .inl (jA w6))), (a7, .inl (cA, 248, .inl (jA w7))), (a8, .inl (cZ, 8, .inl (jA w8))), (a9, .inl (cA, 64, .inl (jA w9)))]) ⟨hx, hb, hml, hown, hts⟩ (c_XM_takesP l dC dI cA cZ _ ma a0 a1 a2 a3 a4 a5 a6 a7 a8 a9 a10 a11 0 mn mp1'31 w mu md mo y0 103 (by first | assumption | omega) (by first | assumption | omega) (by first | assumption | omega) (by first | assumption | omega) (by first | assumption | omega)) (cwV 1 hts (jG_V tw_718 tw_720 ts_18 tw_6 tw_721) rfl rfl rfl (by decide +kernel) (by rw [hR]; exact ⟨Nat.le_of_ble_eq_true rfl, Nat.le_of_ble_eq_true rfl⟩)) hK hP hD hS hA hN [9, 10] [0, 1, 2, 3, 4, 5, 6, 7, 8] rfl rfl (by decide) (by decide) (by decide) 9 5 rfl rfl rfl rfl hl.1 rfl (Nat.le_of_ble_eq_true rfl) dXM_read_53 (by rw [hR]; exact ⟨Nat.le_of_ble_eq_true rfl, Nat.le_of_ble_eq_true rfl⟩) (fun v39 u38 H locs hwb40 hP hD hS => ?_)
            obtain ⟨r36, mp1'37⟩ := u38
            try dsimp only at hwb40
            obtain ⟨er, hwb40, f41⟩ := hwb40
            subst er
            have f41 : (r36 = 0 ∧ mp1'31 ≤ mp1'37 ∧ mp1'37 ≤ mn) ∨ (r36 = 1 ∧ mp1'31 < mp1'37 ∧ mp1'37 ≤ mn ∧ w < 0) := f41
            have hP : va_P (dC, dI) vwCl [(a4, .inl (cA, 496, .inl (jA w4))), (a5, .inl (cA, 496, .inl (jA w5))), (a1, .inl (cZ, 62, .inl (jA w1))), (a2, .inl (cA, 62, .inl (jA w2))), (a3, .inl (cZ, 496, .inl (jA w3))), (a6, .inl (cA, 62, .inl (jA w6))), (a7, .inl (cA, 248, .inl (jA w7))), (a8, .inl (cZ, 8, .inl (jA w8))), (a9, .inl (cA, 64, .inl (jA w9))), (ma, .inr (5, [.int (jI 0), .int (jI mn), .ref a0, .int (jI mp1'37), .int (jI w), .ref a1, .ref a2, .ref a3, .ref a4, .ref a5, .ref a6, .ref a7, .ref a8, .ref a9, .ref a10, .long (jL mu), .long (jL md), .int (jI mo), .ref a11])), (a0, .inl (cA, 400, .inl (jA y0)))] H := hP
            have hD : va_D A [(a4, .inl (cA, 496, .inl (jA w4))), (a5, .inl (cA, 496, .inl (jA w5))), (a1, .inl (cZ, 62, .inl (jA w1))), (a2, .inl (cA, 62, .inl (jA w2))), (a3, .inl (cZ, 496, .inl (jA w3))), (a6, .inl (cA, 62, .inl (jA w6))), (a7, .inl (cA, 248, .inl (jA w7))), (a8, .inl (cZ, 8, .inl (jA w8))), (a9, .inl (cA, 64, .inl (jA w9))), (ma, .inr (5, [.int (jI 0), .int (jI mn), .ref a0, .int (jI mp1'37), .int (jI w), .ref a1, .ref a2, .ref a3, .ref a4, .ref a5, .ref a6, .ref a7, .ref a8, .ref a9, .ref a10, .long (jL mu), .long (jL md), .int (jI mo), .ref a11])), (a0, .inl (cA, 400, .inl (jA y0)))] := hD
            refine ji_if_eq (tgt := 66) hx hb dXM_read_56 (by decide) (by omega) (fun c56_ => ?_) (fun c56_ => ?_)
            · refine lv_aload_n hx hb dXM_read_66 rfl (lv_at hl 0 rfl) ?_
              refine lv_aload_n hx hb dXM_read_67 rfl (lv_at hl 0 rfl) ?_
              refine va_get (D := (dC, dI)) (ci := 5) (v := .int (jI mp1'37)) (C := RXM) (T := TXM) (N := 19) hx hb hts (fun w h => jmem (inXM w h)) hown hK hP 9 rfl rfl 3 (by decide) (hts _ (jmem tw_631)) (fun _ h9 => h9) rfl dXM_read_68 ?_
              refine jwVv (rest := []) (wr := [(a4, .inl (cA, 496, .inl (jA w4))), (a5, .inl (cA, 496, .inl (jA w5))), (a1, .inl (cZ, 62, .inl (jA w1))), (a2, .inl (cA, 62, .inl (jA w2))), (a3, .inl (cZ, 496, .inl (jA w3))), (a6, .inl (cA, 62, .inl (jA w6))), (a7, .inl (cA, 248, .inl (jA w7))), (a8, .inl (cZ, 8, .inl (jA w8))), (a9, .inl (cA, 64, .inl (jA w9))), (a0, .inl (cA, 400, .inl (jA y0)))]) ⟨hx, hb, hml, hown, hts⟩ (c_XM_failP l dC dI cA cZ _ ma a0 a1 a2 a3 a4 a5 a6 a7 a8 a9 a10 a11 0 mn mp1'37 w mu md mo mp1'37 (by first | assumption | omega) (by first | assumption | omega)) (cwV 1 hts (jG_V tw_734 tw_736 ts_22 tw_6 tw_737) rfl rfl rfl (by decide +kernel) (by rw [hR]; exact ⟨Nat.le_of_ble_eq_true rfl, Nat.le_of_ble_eq_true rfl⟩)) hK hP hD hS hA hN [9] [0, 1, 2, 3, 4, 5, 6, 7, 8, 10] rfl rfl (by decide) (by decide) (by decide) 9 5 rfl rfl rfl rfl hl.1 rfl (Nat.le_of_ble_eq_true rfl) dXM_read_71 (by rw [hR]; exact ⟨Nat.le_of_ble_eq_true rfl, Nat.le_of_ble_eq_true rfl⟩) (fun u42 H locs hw hP hD hS => ?_)
              obtain ⟨hw, f43⟩ := hw
              subst hw
              have f43 : (0 ≤ w ∧ (f_XM_failP 0 mn mp1'37 w mu md mo mp1'37) = w) ∨ (w < 0 ∧ (f_XM_failP 0 mn mp1'37 w mu md mo mp1'37) = mp1'37) := f43
              have hP : va_P (dC, dI) vwCl [(a4, .inl (cA, 496, .inl (jA w4))), (a5, .inl (cA, 496, .inl (jA w5))), (a1, .inl (cZ, 62, .inl (jA w1))), (a2, .inl (cA, 62, .inl (jA w2))), (a3, .inl (cZ, 496, .inl (jA w3))), (a6, .inl (cA, 62, .inl (jA w6))), (a7, .inl (cA, 248, .inl (jA w7))), (a8, .inl (cZ, 8, .inl (jA w8))), (a9, .inl (cA, 64, .inl (jA w9))), (a0, .inl (cA, 400, .inl (jA y0))), (ma, .inr (5, [.int (jI 0), .int (jI mn), .ref a0, .int (jI mp1'37), .int (jI (f_XM_failP 0 mn mp1'37 w mu md mo mp1'37)), .ref a1, .ref a2, .ref a3, .ref a4, .ref a5, .ref a6, .ref a7, .ref a8, .ref a9, .ref a10, .long (jL mu), .long (jL md), .int (jI mo), .ref a11]))] H := hP
              have hD : va_D A [(a4, .inl (cA, 496, .inl (jA w4))), (a5, .inl (cA, 496, .inl (jA w5))), (a1, .inl (cZ, 62, .inl (jA w1))), (a2, .inl (cA, 62, .inl (jA w2))), (a3, .inl (cZ, 496, .inl (jA w3))), (a6, .inl (cA, 62, .inl (jA w6))), (a7, .inl (cA, 248, .inl (jA w7))), (a8, .inl (cZ, 8, .inl (jA w8))), (a9, .inl (cA, 64, .inl (jA w9))), (a0, .inl (cA, 400, .inl (jA y0))), (ma, .inr (5, [.int (jI 0), .int (jI mn), .ref a0, .int (jI mp1'37), .int (jI (f_XM_failP 0 mn mp1'37 w mu md mo mp1'37)), .ref a1, .ref a2, .ref a3, .ref a4, .ref a5, .ref a6, .ref a7, .ref a8, .ref a9, .ref a10, .long (jL mu), .long (jL md), .int (jI mo), .ref a11]))] := hD
              refine lv_goto (tgt := 20) hx hb dXM_read_74 (by decide) ?_
              exact ih20 mp1'37 (f_XM_failP 0 mn mp1'37 w mu md mo mp1'37) w1 w2 w3 w4 w5 w6 w7 w8 w9 (by omega) (Eq.trans (by rw [f_XM_readP_L20_s]; rw [if_pos c24_]; rw [← hwb26]; try dsimp only; rw [if_neg (Int.not_lt.mpr c31_)]; rw [← hwb34]; try dsimp only; rw [if_pos c40_]; rw [← hwb40]; try dsimp only; rw [if_pos c56_]; try rfl) hF) (by first | assumption | omega | exact jset_b (by assumption) (by omega) | exact kfill_b _ _ _ _ _ _ (by assumption) (by decide) | exact kfill_l (by decide) | exact fun _ _ => rfl | exact l_trans (by assumption) (by assumption)) (by first | assumption | omega | exact jset_b (by assumption) (by omega) | exact kfill_b _ _ _ _ _ _ (by assumption) (by decide) | exact kfill_l (by decide) | exact fun _ _ => rfl | exact l_trans (by assumption) (by assumption)) (by first | assumption | omega | exact jset_b (by assumption) (by omega) | exact kfill_b _ _ _ _ _ _ (by assumption) (by decide) | exact kfill_l (by decide) | exact fun _ _ => rfl | exact l_trans (by assumption) (by assumption)) (by first | assumption | omega | exact jset_b (by assumption) (by omega) | exact kfill_b _ _ _ _ _ _ (by assumption) (by decide) | exact kfill_l (by decide) | exact fun _ _ => rfl | exact l_trans (by assumption) (by assumption)) (by first | assumption | omega | exact jset_b (by assumption) (by omega) | exact kfill_b _ _ _ _ _ _ (by assumption) (by decide) | exact kfill_l (by decide) | exact fun _ _ => rfl | exact l_trans (by assumption) (by assumption)) (by first | assumption | omega | exact jset_b (by assumption) (by omega) | exact kfill_b _ _ _ _ _ _ (by assumption) (by decide) | exact kfill_l (by decide) | exact fun _ _ => rfl | exact l_trans (by assumption) (by assumption)) (by first | assumption | omega | exact jset_b (by assumption) (by omega) | exact kfill_b _ _ _ _ _ _ (by assumption) (by decide) | exact kfill_l (by decide) | exact fun _ _ => rfl | exact l_trans (by assumption) (by assumption)) (by first | assumption | omega | exact jset_b (by assumption) (by omega) | exact kfill_b _ _ _ _ _ _ (by assumption) (by decide) | exact kfill_l (by decide) | exact fun _ _ => rfl | exact l_trans (by assumption) (by assumption)) (by first | assumption | omega | exact jset_b (by assumption) (by omega) | exact kfill_b _ _ _ _ _ _ (by assumption) (by decide) | exact kfill_l (by decide) | exact fun _ _ => rfl | exact l_trans (by assumption) (by assumption)) (by first | assumption | omega | exact jset_b (by assumption) (by omega) | exact kfill_b _ _ _ _ _ _ (by assumption) (by decide) | exact kfill_l (by decide) | exact fun _ _ => rfl | exact l_trans (by assumption) (by assumption)) (by first | assumption | omega | exact jset_b (by assumption) (by omega) | exact kfill_b _ _ _ _ _ _ (by assumption) (by decide) | exact kfill_l (by decide) | exact fun _ _ => rfl | exact l_trans (by assumption) (by assumption)) (by first | assumption | omega | exact jset_b (by assumption) (by omega) | exact kfill_b _ _ _ _ _ _ (by assumption) (by decide) | exact kfill_l (by decide) | exact fun _ _ => rfl | exact l_trans (by assumption) (by assumption)) (by first | assumption | omega | exact jset_b (by assumption) (by omega) | exact kfill_b _ _ _ _ _ _ (by assumption) (by decide) | exact kfill_l (by decide) | exact fun _ _ => rfl | exact l_trans (by assumption) (by assumption)) (by first | assumption | omega | exact jset_b (by assumption) (by omega) | exact kfill_b _ _ _ _ _ _ (by assumption) (by decide) | exact kfill_l (by decide) | exact fun _ _ => rfl | exact l_trans (by assumption) (by assumption)) (by first | assumption | omega | exact jset_b (by assumption) (by omega) | exact kfill_b _ _ _ _ _ _ (by assumption) (by decide) | exact kfill_l (by decide) | exact fun _ _ => rfl | exact l_trans (by assumption) (by assumption)) (by first | assumption | omega | exact jset_b (by assumption) (by omega) | exact kfill_b _ _ _ _ _ _ (by assumption) (by decide) | exact kfill_l (by decide) | exact fun _ _ => rfl | exact l_trans (by assumption) (by assumption)) (by first | assumption | omega | exact jset_b (by assumption) (by omega) | exact kfill_b _ _ _ _ _ _ (by assumption) (by decide) | exact kfill_l (by decide) | exact fun _ _ => rfl | exact l_trans (by assumption) (by assumption)) (by first | assumption | omega | exact jset_b (by assumption) (by omega) | exact kfill_b _ _ _ _ _ _ (by assumption) (by decide) | exact kfill_l (by decide) | exact fun _ _ => rfl | exact l_trans (by assumption) (by assumption)) (by first | assumption | omega | exact jset_b (by assumption) (by omega) | exact kfill_b _ _ _ _ _ _ (by assumption) (by decide) | exact kfill_l (by decide) | exact fun _ _ => rfl | exact l_trans (by assumption) (by assumption)) (by first | assumption | omega | exact jset_b (by assumption) (by omega) | exact kfill_b _ _ _ _ _ _ (by assumption) (by decide) | exact kfill_l (by decide) | exact fun _ _ => rfl | exact l_trans (by assumption) (by assumption)) _ _ (hP.sub [9, 0, 1, 10, 2, 3, 4, 5, 6, 7, 8] rfl) (hD.sub [9, 0, 1, 10, 2, 3, 4, 5, 6, 7, 8] (by decide) rfl) hS ls (lv_sub hl [0] rfl)
            · refine lv_aload_n hx hb dXM_read_59 rfl (lv_at hl 0 rfl) ?_
              refine jwVv (rest := []) (wr := [(a8, .inl (cZ, 8, .inl (jA w8))), (a9, .inl (cA, 64, .inl (jA w9)))]) ⟨hx, hb, hml, hown, hts⟩ (c_XM_gradeP l dC dI cA cZ _ ma a0 a1 a2 a3 a4 a5 a6 a7 a8 a9 a10 a11 0 mn mp1'37 w mu md mo y0 w1 w2 w3 w4 w5 w6 w7 (by first | assumption | omega) (by first | assumption | omega) (by first | assumption | omega) (by first | assumption | omega) (by first | assumption | omega) (by first | assumption | omega) (by first | assumption | omega) (by first | assumption | omega) (by first | assumption | omega) (by first | assumption | omega) (by first | assumption | omega)) (cwV 0 hts (jG_V tw_746 tw_748 ts_25 tw_6 tw_749) rfl rfl rfl (by decide +kernel) (by rw [hR]; exact ⟨Nat.le_of_ble_eq_true rfl, Nat.le_of_ble_eq_true rfl⟩)) hK hP hD hS hA hN [9, 10, 2, 3, 4, 0, 1, 5, 6] [7, 8] rfl rfl (by decide) (by decide) (by decide) 9 5 rfl rfl rfl rfl hl.1 rfl (Nat.le_of_ble_eq_true rfl) dXM_read_60 (by rw [hR]; exact ⟨Nat.le_of_ble_eq_true rfl, Nat.le_of_ble_eq_true rfl⟩) (fun u52 H locs hwb53 hP hD hS => ?_)
              obtain ⟨mp1'44, mw1', y1n'45, y2n'46, y3n'47, y4n'48, y5n'49, y6n'50, y7n'51⟩ := u52
              try dsimp only at hwb53
              obtain ⟨hwb53, f54, f55, f56, f57, f58, f59, f60, f61, f62, f63, f64, f65, f66, f67, f68, f69⟩ := hwb53
              have f54 : mp1'37 ≤ mp1'44 ∧ mp1'44 ≤ mn := f54
              have f55 : -1 ≤ mw1' ∧ mw1' ≤ 400 ∧ w ≤ mw1' := f55
              have f56 : ∀ i, 0 ≤ y1n'45 i ∧ y1n'45 i ≤ 1 := f56
              have f57 : ∀ i, 0 ≤ y2n'46 i ∧ y2n'46 i ≤ 30 := f57
              have f58 : ∀ i, 0 ≤ y3n'47 i ∧ y3n'47 i ≤ 1 := f58
              have f59 : ∀ i, 0 ≤ y4n'48 i ∧ y4n'48 i ≤ 100000 := f59
              have f60 : ∀ i, 0 ≤ y5n'49 i ∧ y5n'49 i ≤ 100000 := f60
              have f61 : ∀ i, -2147483648 ≤ y6n'50 i ∧ y6n'50 i ≤ 2147483647 := f61
              have f62 : ∀ i, -1 ≤ y7n'51 i ∧ y7n'51 i ≤ 999999 := f62
              have f63 : ∀ i, i < 31 → y1n'45 i = w1 i := f63
              have f64 : ∀ i, i < 31 → y2n'46 i = w2 i := f64
              have f65 : ∀ i, i < 248 → y3n'47 i = w3 i := f65
              have f66 : ∀ i, i < 248 → y4n'48 i = w4 i := f66
              have f67 : ∀ i, i < 248 → y5n'49 i = w5 i := f67
              have f68 : ∀ i, i < 31 → y6n'50 i = w6 i := f68
              have f69 : ∀ i, i < 124 → y7n'51 i = w7 i := f69
              have hP : va_P (dC, dI) vwCl [(a8, .inl (cZ, 8, .inl (jA w8))), (a9, .inl (cA, 64, .inl (jA w9))), (ma, .inr (5, [.int (jI 0), .int (jI mn), .ref a0, .int (jI mp1'44), .int (jI mw1'), .ref a1, .ref a2, .ref a3, .ref a4, .ref a5, .ref a6, .ref a7, .ref a8, .ref a9, .ref a10, .long (jL mu), .long (jL md), .int (jI mo), .ref a11])), (a0, .inl (cA, 400, .inl (jA y0))), (a1, .inl (cZ, 62, .inl (jA y1n'45))), (a2, .inl (cA, 62, .inl (jA y2n'46))), (a3, .inl (cZ, 496, .inl (jA y3n'47))), (a4, .inl (cA, 496, .inl (jA y4n'48))), (a5, .inl (cA, 496, .inl (jA y5n'49))), (a6, .inl (cA, 62, .inl (jA y6n'50))), (a7, .inl (cA, 248, .inl (jA y7n'51)))] H := hP
              have hD : va_D A [(a8, .inl (cZ, 8, .inl (jA w8))), (a9, .inl (cA, 64, .inl (jA w9))), (ma, .inr (5, [.int (jI 0), .int (jI mn), .ref a0, .int (jI mp1'44), .int (jI mw1'), .ref a1, .ref a2, .ref a3, .ref a4, .ref a5, .ref a6, .ref a7, .ref a8, .ref a9, .ref a10, .long (jL mu), .long (jL md), .int (jI mo), .ref a11])), (a0, .inl (cA, 400, .inl (jA y0))), (a1, .inl (cZ, 62, .inl (jA y1n'45))), (a2, .inl (cA, 62, .inl (jA y2n'46))), (a3, .inl (cZ, 496, .inl (jA y3n'47))), (a4, .inl (cA, 496, .inl (jA y4n'48))), (a5, .inl (cA, 496, .inl (jA y5n'49))), (a6, .inl (cA, 62, .inl (jA y6n'50))), (a7, .inl (cA, 248, .inl (jA y7n'51)))] := hD
              refine lv_goto (tgt := 20) hx hb dXM_read_63 (by decide) ?_
              exact ih20 mp1'44 mw1' y1n'45 y2n'46 y3n'47 y4n'48 y5n'49 y6n'50 y7n'51 w8 w9 (by omega) (Eq.trans (by rw [f_XM_readP_L20_s]; rw [if_pos c24_]; rw [← hwb26]; try dsimp only; rw [if_neg (Int.not_lt.mpr c31_)]; rw [← hwb34]; try dsimp only; rw [if_pos c40_]; rw [← hwb40]; try dsimp only; rw [if_neg c56_]; rw [← hwb53]; try dsimp only; try rfl) hF) (by first | assumption | omega | exact jset_b (by assumption) (by omega) | exact kfill_b _ _ _ _ _ _ (by assumption) (by decide) | exact kfill_l (by decide) | exact fun _ _ => rfl | exact l_trans (by assumption) (by assumption)) (by first | assumption | omega | exact jset_b (by assumption) (by omega) | exact kfill_b _ _ _ _ _ _ (by assumption) (by decide) | exact kfill_l (by decide) | exact fun _ _ => rfl | exact l_trans (by assumption) (by assumption)) (by first | assumption | omega | exact jset_b (by assumption) (by omega) | exact kfill_b _ _ _ _ _ _ (by assumption) (by decide) | exact kfill_l (by decide) | exact fun _ _ => rfl | exact l_trans (by assumption) (by assumption)) (by first | assumption | omega | exact jset_b (by assumption) (by omega) | exact kfill_b _ _ _ _ _ _ (by assumption) (by decide) | exact kfill_l (by decide) | exact fun _ _ => rfl | exact l_trans (by assumption) (by assumption)) (by first | assumption | omega | exact jset_b (by assumption) (by omega) | exact kfill_b _ _ _ _ _ _ (by assumption) (by decide) | exact kfill_l (by decide) | exact fun _ _ => rfl | exact l_trans (by assumption) (by assumption)) (by first | assumption | omega | exact jset_b (by assumption) (by omega) | exact kfill_b _ _ _ _ _ _ (by assumption) (by decide) | exact kfill_l (by decide) | exact fun _ _ => rfl | exact l_trans (by assumption) (by assumption)) (by first | assumption | omega | exact jset_b (by assumption) (by omega) | exact kfill_b _ _ _ _ _ _ (by assumption) (by decide) | exact kfill_l (by decide) | exact fun _ _ => rfl | exact l_trans (by assumption) (by assumption)) (by first | assumption | omega | exact jset_b (by assumption) (by omega) | exact kfill_b _ _ _ _ _ _ (by assumption) (by decide) | exact kfill_l (by decide) | exact fun _ _ => rfl | exact l_trans (by assumption) (by assumption)) (by first | assumption | omega | exact jset_b (by assumption) (by omega) | exact kfill_b _ _ _ _ _ _ (by assumption) (by decide) | exact kfill_l (by decide) | exact fun _ _ => rfl | exact l_trans (by assumption) (by assumption)) (by first | assumption | omega | exact jset_b (by assumption) (by omega) | exact kfill_b _ _ _ _ _ _ (by assumption) (by decide) | exact kfill_l (by decide) | exact fun _ _ => rfl | exact l_trans (by assumption) (by assumption)) (by first | assumption | omega | exact jset_b (by assumption) (by omega) | exact kfill_b _ _ _ _ _ _ (by assumption) (by decide) | exact kfill_l (by decide) | exact fun _ _ => rfl | exact l_trans (by assumption) (by assumption)) (by first | assumption | omega | exact jset_b (by assumption) (by omega) | exact kfill_b _ _ _ _ _ _ (by assumption) (by decide) | exact kfill_l (by decide) | exact fun _ _ => rfl | exact l_trans (by assumption) (by assumption)) (by first | assumption | omega | exact jset_b (by assumption) (by omega) | exact kfill_b _ _ _ _ _ _ (by assumption) (by decide) | exact kfill_l (by decide) | exact fun _ _ => rfl | exact l_trans (by assumption) (by assumption)) (by first | assumption | omega | exact jset_b (by assumption) (by omega) | exact kfill_b _ _ _ _ _ _ (by assumption) (by decide) | exact kfill_l (by decide) | exact fun _ _ => rfl | exact l_trans (by assumption) (by assumption)) (by first | assumption | omega | exact jset_b (by assumption) (by omega) | exact kfill_b _ _ _ _ _ _ (by assumption) (by decide) | exact kfill_l (by decide) | exact fun _ _ => rfl | exact l_trans (by assumption) (by assumption)) (by first | assumption | omega | exact jset_b (by assumption) (by omega) | exact kfill_b _ _ _ _ _ _ (by assumption) (by decide) | exact kfill_l (by decide) | exact fun _ _ => rfl | exact l_trans (by assumption) (by assumption)) (by first | assumption | omega | exact jset_b (by assumption) (by omega) | exact kfill_b _ _ _ _ _ _ (by assumption) (by decide) | exact kfill_l (by decide) | exact fun _ _ => rfl | exact l_trans (by assumption) (by assumption)) (by first | assumption | omega | exact jset_b (by assumption) (by omega) | exact kfill_b _ _ _ _ _ _ (by assumption) (by decide) | exact kfill_l (by decide) | exact fun _ _ => rfl | exact l_trans (by assumption) (by assumption)) (by first | assumption | omega | exact jset_b (by assumption) (by omega) | exact kfill_b _ _ _ _ _ _ (by assumption) (by decide) | exact kfill_l (by decide) | exact fun _ _ => rfl | exact l_trans (by assumption) (by assumption)) (by first | assumption | omega | exact jset_b (by assumption) (by omega) | exact kfill_b _ _ _ _ _ _ (by assumption) (by decide) | exact kfill_l (by decide) | exact fun _ _ => rfl | exact l_trans (by assumption) (by assumption)) _ _ (hP.sub [3, 7, 8, 2, 4, 5, 6, 9, 10, 0, 1] rfl) (hD.sub [3, 7, 8, 2, 4, 5, 6, 9, 10, 0, 1] (by decide) rfl) hS ls (lv_sub hl [0] rfl)
          · refine lv_aload_n hx hb dXM_read_43 rfl (lv_at hl 0 rfl) ?_
            refine jwVv (rest := []) (wr := [(a4, .inl (cA, 496, .inl (jA w4))), (a5, .inl (cA, 496, .inl (jA w5))), (a1, .inl (cZ, 62, .inl (jA w1))), (a2, .inl (cA, 62, .inl (jA w2))), (a3, .inl (cZ, 496, .inl (jA w3))), (a6, .inl (cA, 62, .inl (jA w6))), (a7, .inl (cA, 248, .inl (jA w7)))]) ⟨hx, hb, hml, hown, hts⟩ (c_XM_formulaP l dC dI cA cZ _ ma a0 a1 a2 a3 a4 a5 a6 a7 a8 a9 a10 a11 0 mn mp1'31 w mu md mo y0 w8 w9 (by first | assumption | omega) (by first | assumption | omega) (by first | assumption | omega) (by first | assumption | omega) (by first | assumption | omega) (by first | assumption | omega)) (cwV 0 hts (jG_V tw_722 tw_724 ts_19 tw_6 tw_725) rfl rfl rfl (by decide +kernel) (by rw [hR]; exact ⟨Nat.le_of_ble_eq_true rfl, Nat.le_of_ble_eq_true rfl⟩)) hK hP hD hS hA hN [9, 10, 7, 8] [0, 1, 2, 3, 4, 5, 6] rfl rfl (by decide) (by decide) (by decide) 9 5 rfl rfl rfl rfl hl.1 rfl (Nat.le_of_ble_eq_true rfl) dXM_read_44 (by rw [hR]; exact ⟨Nat.le_of_ble_eq_true rfl, Nat.le_of_ble_eq_true rfl⟩) (fun u74 H locs hwb75 hP hD hS => ?_)
            obtain ⟨mp1'70, mw1'71, y8n'72, y9n'73⟩ := u74
            try dsimp only at hwb75
            obtain ⟨hwb75, f76, f77, f78, f79, f80, f81⟩ := hwb75
            have f76 : mp1'31 ≤ mp1'70 ∧ mp1'70 ≤ mn := f76
            have f77 : -1 ≤ mw1'71 ∧ mw1'71 ≤ 400 ∧ w ≤ mw1'71 := f77
            have f78 : ∀ i, 0 ≤ y8n'72 i ∧ y8n'72 i ≤ 1 := f78
            have f79 : ∀ i, 0 ≤ y9n'73 i ∧ y9n'73 i ≤ 20 := f79
            have f80 : ∀ i, i < 4 → y8n'72 i = w8 i := f80
            have f81 : ∀ i, i < 32 → y9n'73 i = w9 i := f81
            have hP : va_P (dC, dI) vwCl [(a4, .inl (cA, 496, .inl (jA w4))), (a5, .inl (cA, 496, .inl (jA w5))), (a1, .inl (cZ, 62, .inl (jA w1))), (a2, .inl (cA, 62, .inl (jA w2))), (a3, .inl (cZ, 496, .inl (jA w3))), (a6, .inl (cA, 62, .inl (jA w6))), (a7, .inl (cA, 248, .inl (jA w7))), (ma, .inr (5, [.int (jI 0), .int (jI mn), .ref a0, .int (jI mp1'70), .int (jI mw1'71), .ref a1, .ref a2, .ref a3, .ref a4, .ref a5, .ref a6, .ref a7, .ref a8, .ref a9, .ref a10, .long (jL mu), .long (jL md), .int (jI mo), .ref a11])), (a0, .inl (cA, 400, .inl (jA y0))), (a8, .inl (cZ, 8, .inl (jA y8n'72))), (a9, .inl (cA, 64, .inl (jA y9n'73)))] H := hP
            have hD : va_D A [(a4, .inl (cA, 496, .inl (jA w4))), (a5, .inl (cA, 496, .inl (jA w5))), (a1, .inl (cZ, 62, .inl (jA w1))), (a2, .inl (cA, 62, .inl (jA w2))), (a3, .inl (cZ, 496, .inl (jA w3))), (a6, .inl (cA, 62, .inl (jA w6))), (a7, .inl (cA, 248, .inl (jA w7))), (ma, .inr (5, [.int (jI 0), .int (jI mn), .ref a0, .int (jI mp1'70), .int (jI mw1'71), .ref a1, .ref a2, .ref a3, .ref a4, .ref a5, .ref a6, .ref a7, .ref a8, .ref a9, .ref a10, .long (jL mu), .long (jL md), .int (jI mo), .ref a11])), (a0, .inl (cA, 400, .inl (jA y0))), (a8, .inl (cZ, 8, .inl (jA y8n'72))), (a9, .inl (cA, 64, .inl (jA y9n'73)))] := hD
            refine lv_goto (tgt := 20) hx hb dXM_read_47 (by decide) ?_
            exact ih20 mp1'70 mw1'71 w1 w2 w3 w4 w5 w6 w7 y8n'72 y9n'73 (by omega) (Eq.trans (by rw [f_XM_readP_L20_s]; rw [if_pos c24_]; rw [← hwb26]; try dsimp only; rw [if_neg (Int.not_lt.mpr c31_)]; rw [← hwb34]; try dsimp only; rw [if_neg c40_]; rw [← hwb75]; try dsimp only; try rfl) hF) (by first | assumption | omega | exact jset_b (by assumption) (by omega) | exact kfill_b _ _ _ _ _ _ (by assumption) (by decide) | exact kfill_l (by decide) | exact fun _ _ => rfl | exact l_trans (by assumption) (by assumption)) (by first | assumption | omega | exact jset_b (by assumption) (by omega) | exact kfill_b _ _ _ _ _ _ (by assumption) (by decide) | exact kfill_l (by decide) | exact fun _ _ => rfl | exact l_trans (by assumption) (by assumption)) (by first | assumption | omega | exact jset_b (by assumption) (by omega) | exact kfill_b _ _ _ _ _ _ (by assumption) (by decide) | exact kfill_l (by decide) | exact fun _ _ => rfl | exact l_trans (by assumption) (by assumption)) (by first | assumption | omega | exact jset_b (by assumption) (by omega) | exact kfill_b _ _ _ _ _ _ (by assumption) (by decide) | exact kfill_l (by decide) | exact fun _ _ => rfl | exact l_trans (by assumption) (by assumption)) (by first | assumption | omega | exact jset_b (by assumption) (by omega) | exact kfill_b _ _ _ _ _ _ (by assumption) (by decide) | exact kfill_l (by decide) | exact fun _ _ => rfl | exact l_trans (by assumption) (by assumption)) (by first | assumption | omega | exact jset_b (by assumption) (by omega) | exact kfill_b _ _ _ _ _ _ (by assumption) (by decide) | exact kfill_l (by decide) | exact fun _ _ => rfl | exact l_trans (by assumption) (by assumption)) (by first | assumption | omega | exact jset_b (by assumption) (by omega) | exact kfill_b _ _ _ _ _ _ (by assumption) (by decide) | exact kfill_l (by decide) | exact fun _ _ => rfl | exact l_trans (by assumption) (by assumption)) (by first | assumption | omega | exact jset_b (by assumption) (by omega) | exact kfill_b _ _ _ _ _ _ (by assumption) (by decide) | exact kfill_l (by decide) | exact fun _ _ => rfl | exact l_trans (by assumption) (by assumption)) (by first | assumption | omega | exact jset_b (by assumption) (by omega) | exact kfill_b _ _ _ _ _ _ (by assumption) (by decide) | exact kfill_l (by decide) | exact fun _ _ => rfl | exact l_trans (by assumption) (by assumption)) (by first | assumption | omega | exact jset_b (by assumption) (by omega) | exact kfill_b _ _ _ _ _ _ (by assumption) (by decide) | exact kfill_l (by decide) | exact fun _ _ => rfl | exact l_trans (by assumption) (by assumption)) (by first | assumption | omega | exact jset_b (by assumption) (by omega) | exact kfill_b _ _ _ _ _ _ (by assumption) (by decide) | exact kfill_l (by decide) | exact fun _ _ => rfl | exact l_trans (by assumption) (by assumption)) (by first | assumption | omega | exact jset_b (by assumption) (by omega) | exact kfill_b _ _ _ _ _ _ (by assumption) (by decide) | exact kfill_l (by decide) | exact fun _ _ => rfl | exact l_trans (by assumption) (by assumption)) (by first | assumption | omega | exact jset_b (by assumption) (by omega) | exact kfill_b _ _ _ _ _ _ (by assumption) (by decide) | exact kfill_l (by decide) | exact fun _ _ => rfl | exact l_trans (by assumption) (by assumption)) (by first | assumption | omega | exact jset_b (by assumption) (by omega) | exact kfill_b _ _ _ _ _ _ (by assumption) (by decide) | exact kfill_l (by decide) | exact fun _ _ => rfl | exact l_trans (by assumption) (by assumption)) (by first | assumption | omega | exact jset_b (by assumption) (by omega) | exact kfill_b _ _ _ _ _ _ (by assumption) (by decide) | exact kfill_l (by decide) | exact fun _ _ => rfl | exact l_trans (by assumption) (by assumption)) (by first | assumption | omega | exact jset_b (by assumption) (by omega) | exact kfill_b _ _ _ _ _ _ (by assumption) (by decide) | exact kfill_l (by decide) | exact fun _ _ => rfl | exact l_trans (by assumption) (by assumption)) (by first | assumption | omega | exact jset_b (by assumption) (by omega) | exact kfill_b _ _ _ _ _ _ (by assumption) (by decide) | exact kfill_l (by decide) | exact fun _ _ => rfl | exact l_trans (by assumption) (by assumption)) (by first | assumption | omega | exact jset_b (by assumption) (by omega) | exact kfill_b _ _ _ _ _ _ (by assumption) (by decide) | exact kfill_l (by decide) | exact fun _ _ => rfl | exact l_trans (by assumption) (by assumption)) (by first | assumption | omega | exact jset_b (by assumption) (by omega) | exact kfill_b _ _ _ _ _ _ (by assumption) (by decide) | exact kfill_l (by decide) | exact fun _ _ => rfl | exact l_trans (by assumption) (by assumption)) (by first | assumption | omega | exact jset_b (by assumption) (by omega) | exact kfill_b _ _ _ _ _ _ (by assumption) (by decide) | exact kfill_l (by decide) | exact fun _ _ => rfl | exact l_trans (by assumption) (by assumption)) _ _ (hP.sub [8, 0, 1, 7, 2, 3, 4, 5, 6, 9, 10] rfl) (hD.sub [8, 0, 1, 7, 2, 3, 4, 5, 6, 9, 10] (by decide) rfl) hS ls (lv_sub hl [0] rfl)
  exact loop20 (Int.toNat (mn - 0 - (-1) + 400) + 1) 0 (-1) (kfill y1 (31 * 1) (31 * 1 + 31) 0) (kfill y2 (31 * 1) (31 * 1 + 31) 0) (kfill y3 (248 * 1) (248 * 1 + 248) 0) y4 y5 (kfill y6 (31 * 1) (31 * 1 + 31) 0) (kfill y7 (124 * 1) (124 * 1 + 124) (-1)) (kfill y8 (4 * 1) (4 * 1 + 4) 0) (kfill y9 (32 * 1) (32 * 1 + 32) 0) (by omega) (Eq.trans (by rw [f_XM_readP_s]; try rfl) rfl) (by first | assumption | omega | exact jset_b (by assumption) (by omega) | exact kfill_b _ _ _ _ _ _ (by assumption) (by decide) | exact kfill_l (by decide) | exact fun _ _ => rfl | exact l_trans (by assumption) (by assumption)) (by first | assumption | omega | exact jset_b (by assumption) (by omega) | exact kfill_b _ _ _ _ _ _ (by assumption) (by decide) | exact kfill_l (by decide) | exact fun _ _ => rfl | exact l_trans (by assumption) (by assumption)) (by first | assumption | omega | exact jset_b (by assumption) (by omega) | exact kfill_b _ _ _ _ _ _ (by assumption) (by decide) | exact kfill_l (by decide) | exact fun _ _ => rfl | exact l_trans (by assumption) (by assumption)) (by first | assumption | omega | exact jset_b (by assumption) (by omega) | exact kfill_b _ _ _ _ _ _ (by assumption) (by decide) | exact kfill_l (by decide) | exact fun _ _ => rfl | exact l_trans (by assumption) (by assumption)) (by first | assumption | omega | exact jset_b (by assumption) (by omega) | exact kfill_b _ _ _ _ _ _ (by assumption) (by decide) | exact kfill_l (by decide) | exact fun _ _ => rfl | exact l_trans (by assumption) (by assumption)) (by first | assumption | omega | exact jset_b (by assumption) (by omega) | exact kfill_b _ _ _ _ _ _ (by assumption) (by decide) | exact kfill_l (by decide) | exact fun _ _ => rfl | exact l_trans (by assumption) (by assumption)) (by first | assumption | omega | exact jset_b (by assumption) (by omega) | exact kfill_b _ _ _ _ _ _ (by assumption) (by decide) | exact kfill_l (by decide) | exact fun _ _ => rfl | exact l_trans (by assumption) (by assumption)) (by first | assumption | omega | exact jset_b (by assumption) (by omega) | exact kfill_b _ _ _ _ _ _ (by assumption) (by decide) | exact kfill_l (by decide) | exact fun _ _ => rfl | exact l_trans (by assumption) (by assumption)) (by first | assumption | omega | exact jset_b (by assumption) (by omega) | exact kfill_b _ _ _ _ _ _ (by assumption) (by decide) | exact kfill_l (by decide) | exact fun _ _ => rfl | exact l_trans (by assumption) (by assumption)) (by first | assumption | omega | exact jset_b (by assumption) (by omega) | exact kfill_b _ _ _ _ _ _ (by assumption) (by decide) | exact kfill_l (by decide) | exact fun _ _ => rfl | exact l_trans (by assumption) (by assumption)) (by first | assumption | omega | exact jset_b (by assumption) (by omega) | exact kfill_b _ _ _ _ _ _ (by assumption) (by decide) | exact kfill_l (by decide) | exact fun _ _ => rfl | exact l_trans (by assumption) (by assumption)) (by first | assumption | omega | exact jset_b (by assumption) (by omega) | exact kfill_b _ _ _ _ _ _ (by assumption) (by decide) | exact kfill_l (by decide) | exact fun _ _ => rfl | exact l_trans (by assumption) (by assumption)) (by first | assumption | omega | exact jset_b (by assumption) (by omega) | exact kfill_b _ _ _ _ _ _ (by assumption) (by decide) | exact kfill_l (by decide) | exact fun _ _ => rfl | exact l_trans (by assumption) (by assumption)) (by first | assumption | omega | exact jset_b (by assumption) (by omega) | exact kfill_b _ _ _ _ _ _ (by assumption) (by decide) | exact kfill_l (by decide) | exact fun _ _ => rfl | exact l_trans (by assumption) (by assumption)) (by first | assumption | omega | exact jset_b (by assumption) (by omega) | exact kfill_b _ _ _ _ _ _ (by assumption) (by decide) | exact kfill_l (by decide) | exact fun _ _ => rfl | exact l_trans (by assumption) (by assumption)) (by first | assumption | omega | exact jset_b (by assumption) (by omega) | exact kfill_b _ _ _ _ _ _ (by assumption) (by decide) | exact kfill_l (by decide) | exact fun _ _ => rfl | exact l_trans (by assumption) (by assumption)) (by first | assumption | omega | exact jset_b (by assumption) (by omega) | exact kfill_b _ _ _ _ _ _ (by assumption) (by decide) | exact kfill_l (by decide) | exact fun _ _ => rfl | exact l_trans (by assumption) (by assumption)) (by first | assumption | omega | exact jset_b (by assumption) (by omega) | exact kfill_b _ _ _ _ _ _ (by assumption) (by decide) | exact kfill_l (by decide) | exact fun _ _ => rfl | exact l_trans (by assumption) (by assumption)) (by first | assumption | omega | exact jset_b (by assumption) (by omega) | exact kfill_b _ _ _ _ _ _ (by assumption) (by decide) | exact kfill_l (by decide) | exact fun _ _ => rfl | exact l_trans (by assumption) (by assumption)) (by first | assumption | omega | exact jset_b (by assumption) (by omega) | exact kfill_b _ _ _ _ _ _ (by assumption) (by decide) | exact kfill_l (by decide) | exact fun _ _ => rfl | exact l_trans (by assumption) (by assumption)) _ _ hP hD hS ls (lv_sub hl [0] rfl)

end
section
/-! the reference's reader beside the class's: a text -/
section EQW1
variable (mth mn mp mwi mu md mo : Int) (tf : Int → Int) (y1 y2 y3 y4 y5 y6 y7 y8 y9 : Int → Int)
theorem e_L20W (n : Nat) (k w : Int) (w1 w2 w3 w4 w5 w6 w7 w8 w9 : Int → Int) (hw : 0 ≤ w) : f_XM_readP_L20 mth mn mp mwi mu md mo tf y1 y2 y3 y4 y5 y6 y7 y8 y9 (n + 1) k w w1 w2 w3 w4 w5 w6 w7 w8 w9 = f_XM_readP_J77 mth mn mp mwi mu md mo tf y1 y2 y3 y4 y5 y6 y7 y8 y9 k w w1 w2 w3 w4 w5 w6 w7 w8 w9 := by
  rw [f_XM_readP_L20_s, if_neg (show ¬ w < 0 by omega)]
set_option maxHeartbeats 4000000 in
theorem e_text (hmn : 0 ≤ mn ∧ mn ≤ 400) (hf : ∀ i, 0 ≤ tf i ∧ tf i ≤ 255) (tp tw bg bf : Int) (ft fl fh fq fr fd : Int → Int) : ∀ (n m : Nat) (k q w : Int) (yt yl yh yq yr yd : Int → Int) (yg yf : Int) (w1 w2 w3 w4 w5 w6 w7 w8 w9 : Int → Int), 400 - k < (n : Int) → mn - q + 401 < (m : Int) → 0 ≤ k → k ≤ 400 → k ≤ q → q ≤ mn → eBk yg yt yl yh yq yr w1 w2 w3 w4 w5 w6 w7 → eFm yf yd w8 w9 →
    ∀ C, C = f_XR_text_L9 mn tp tw tf bg bf ft fl fh fq fr fd n k q w yt yl yh yq yr yd yg yf → ∀ M, M = f_XM_readP_L20 mth mn mp mwi mu md mo tf y1 y2 y3 y4 y5 y6 y7 y8 y9 m q (-1) w1 w2 w3 w4 w5 w6 w7 w8 w9 →
    (C.1 = 1 ∧ ∃ p x1 x2 x3 x4 x5 x6 x7 x8 x9, M = f_XM_readP_J77 mth mn mp mwi mu md mo tf y1 y2 y3 y4 y5 y6 y7 y8 y9 p (-1) x1 x2 x3 x4 x5 x6 x7 x8 x9 ∧ eBk C.2.2.2.2.2.2.2.2.2.1 C.2.2.2.1 C.2.2.2.2.1 C.2.2.2.2.2.1 C.2.2.2.2.2.2.1 C.2.2.2.2.2.2.2.1 x1 x2 x3 x4 x5 x6 x7 ∧ eFm C.2.2.2.2.2.2.2.2.2.2 C.2.2.2.2.2.2.2.2.1 x8 x9) ∨ (C.1 = 0 ∧ ∃ p v x1 x2 x3 x4 x5 x6 x7 x8 x9, 0 ≤ v ∧ M = f_XM_readP_J77 mth mn mp mwi mu md mo tf y1 y2 y3 y4 y5 y6 y7 y8 y9 p v x1 x2 x3 x4 x5 x6 x7 x8 x9) := by
  intro n
  induction n with
  | zero => intro m k q w yt yl yh yq yr yd yg yf w1 w2 w3 w4 w5 w6 w7 w8 w9 h1 h2 h3 h4; omega
  | succ n ih =>
    intro m k q w yt yl yh yq yr yd yg yf w1 w2 w3 w4 w5 w6 w7 w8 w9 h1 h2 h3 h4 h5 h6 hB hF C hC M hM
    cases m with
    | zero => omega
    | succ m =>
    cases m with
    | zero => omega
    | succ m =>
    have hw : (-1 : Int) < 0 := by decide
    have hb := f_XT_next_b mn q w tf hmn ⟨by omega, h6⟩ (fun i => ⟨(hf i).1, by have := hf i; omega⟩)
    rw [f_XR_text_L9_s] at hC
    rw [f_XM_readP_L20_s, if_pos hw, e_see 0 mn q (-1) mu md mo w tf h6] at hM
    generalize f_XT_next mn q w tf = c0 at hC hM hb
    obtain ⟨r, p'⟩ := c0
    dsimp only at hC hM hb
    by_cases k4 : k < 400
    · rw [if_pos k4] at hC
      by_cases r0 : r = -1
      · rw [if_pos r0] at hC
        rw [if_pos (show r < 0 by omega)] at hM
        left
        rw [hC]
        exact ⟨rfl, p', w1, w2, w3, w4, w5, w6, w7, w8, w9, hM, hB, hF⟩
      · rw [if_neg r0] at hC
        rw [if_neg (show ¬ r < 0 by omega), e_takes 0 mn p' (-1) mu md mo w tf 101 hw (by omega)] at hM
        generalize hcR : f_XR_row mn p' w tf yg yf yt yl yh yq yr yd = cR at hC
        rw [f_XR_row_s] at hcR
        have sk := e_skipM mn p' w tf hmn ⟨by omega, by omega⟩ hf 101 (by decide)
        generalize f_XT_skipIf mn p' w tf 101 = c2 at hcR hM sk
        obtain ⟨r2, p2⟩ := c2
        dsimp only at hcR hM sk
        -- a row that the class refuses
        have lost : ∀ (p v : Int) (a1 a2 a3 a4 a5 a6 a7 a8 a9 : Int → Int), cR.1 = 0 → 0 ≤ v → M = f_XM_readP_L20 mth mn mp mwi mu md mo tf y1 y2 y3 y4 y5 y6 y7 y8 y9 (m + 1) p v a1 a2 a3 a4 a5 a6 a7 a8 a9 → (C.1 = 0 ∧ ∃ p v x1 x2 x3 x4 x5 x6 x7 x8 x9, 0 ≤ v ∧ M = f_XM_readP_J77 mth mn mp mwi mu md mo tf y1 y2 y3 y4 y5 y6 y7 y8 y9 p v x1 x2 x3 x4 x5 x6 x7 x8 x9) := by
          intro p v a1 a2 a3 a4 a5 a6 a7 a8 a9 e1 e2 e3
          obtain ⟨s1, s2, s3, s4, s5, s6, s7, s8, s9, s10, s11⟩ := cR
          dsimp only at hC e1
          rw [if_pos e1] at hC
          rw [e_L20W _ _ _ _ _ _ _ _ _ _ _ _ _ _ _ _ _ _ _ _ _ _ _ _ _ _ _ _ _ e2] at e3
          exact ⟨by rw [hC], p, v, a1, a2, a3, a4, a5, a6, a7, a8, a9, e2, e3⟩
        rcases sk.1 with s0 | s0
        · rw [if_pos s0] at hcR
          rw [if_pos s0, e_takes 0 mn p2 (-1) mu md mo w tf 103 hw (by omega)] at hM
          have sk3 := e_skipM mn p2 w tf hmn ⟨by omega, by omega⟩ hf 103 (by decide)
          generalize f_XT_skipIf mn p2 w tf 103 = c3 at hcR hM sk3
          obtain ⟨r3, p3⟩ := c3
          dsimp only at hcR hM sk3
          rcases sk3.1 with t0 | t0
          · rw [if_pos t0, f_XT_refuse_s] at hcR
            rw [if_pos t0, e_fail _ _ _ _ _ _ _ _ hw] at hM
            right
            exact lost p3 p3 _ _ _ _ _ _ _ _ _ (by rw [← hcR]) (by omega) hM
          · rw [if_neg (show ¬ r3 = 0 by omega)] at hcR
            rw [if_neg (show ¬ r3 = 0 by omega)] at hM
            have G := e_grade 0 mn p3 (-1) mu md mo tf w1 w2 w3 w4 w5 w6 w7 hw (by decide) hmn ⟨by omega, by omega⟩ hf w yg yf yt yl yh yq yr hB _ rfl _ rfl
            generalize f_XR_grade mn p3 w tf yg yf yt yl yh yq yr = cG at hcR G
            obtain ⟨g0, g1, g2, g3, g4, g5, g6, g7, g8⟩ := cG
            generalize f_XM_gradeP 0 mn p3 (-1) mu md mo tf w1 w2 w3 w4 w5 w6 w7 = mG at hM G
            obtain ⟨n0, n1, n2, n3, n4, n5, n6, n7, n8⟩ := mG
            dsimp only at hcR hM G
            rcases G with ⟨i1, i2, i3, i4, i5, i6, i7⟩ | ⟨i1, i2⟩
            · rw [if_neg (show ¬ g0 = 0 by omega)] at hcR
              have tM := e_takeM mn g1 g2 tf hmn ⟨by omega, i4⟩ hf 59 (by decide)
              generalize f_XT_take mn g1 g2 tf 59 = cT at hcR i2 i5 tM
              obtain ⟨d0, d1, d2⟩ := cT
              dsimp only at hcR i2 i5 tM
              rw [if_neg (show ¬ d0 = 0 by omega)] at hcR
              subst hcR
              dsimp only at hC
              rw [if_neg (show ¬ (1 : Int) = 0 by decide)] at hC
              subst i5
              subst i6
              exact ih (m + 1) (k + 1) n0 d2 g3 g4 g5 g6 g7 yd g8 yf n2 n3 n4 n5 n6 n7 n8 w8 w9 (by omega) (by omega) (by omega) (by omega) (by omega) (by omega) i7 hF C hC M hM
            · right
              refine lost n0 n1 _ _ _ _ _ _ _ _ _ ?_ i2 hM
              rcases i1 with i1 | ⟨i1, i3⟩
              · rw [if_pos i1] at hcR
                rw [← hcR]
              · rw [if_neg (show ¬ g0 = 0 by omega)] at hcR
                generalize f_XT_take mn g1 g2 tf 59 = cT at hcR i3
                obtain ⟨d0, d1, d2⟩ := cT
                dsimp only at hcR i3
                rw [if_pos i3] at hcR
                rw [← hcR]
        · rw [if_neg (show ¬ r2 = 0 by omega)] at hcR
          rw [if_neg (show ¬ r2 = 0 by omega)] at hM
          have G := e_formula 0 mn p2 (-1) mu md mo tf w8 w9 hw hmn ⟨by omega, by omega⟩ hf w yg yf yd hF _ rfl _ rfl
          generalize f_XR_formula mn p2 w tf yg yf yd = cG at hcR G
          obtain ⟨g0, g1, g2, g3, g4⟩ := cG
          generalize f_XM_formulaP 0 mn p2 (-1) mu md mo tf w8 w9 = mG at hM G
          obtain ⟨n0, n1, n2, n3⟩ := mG
          dsimp only at hcR hM G
          rcases G with ⟨i1, i2, i3, i4, i5, i6, i7⟩ | ⟨i1, i2⟩
          · rw [if_neg (show ¬ g0 = 0 by omega)] at hcR
            have tM := e_takeM mn g1 g2 tf hmn ⟨by omega, i4⟩ hf 59 (by decide)
            generalize f_XT_take mn g1 g2 tf 59 = cT at hcR i2 i5 tM
            obtain ⟨d0, d1, d2⟩ := cT
            dsimp only at hcR i2 i5 tM
            rw [if_neg (show ¬ d0 = 0 by omega)] at hcR
            subst hcR
            dsimp only at hC
            rw [if_neg (show ¬ (1 : Int) = 0 by decide)] at hC
            subst i5
            subst i6
            exact ih (m + 1) (k + 1) n0 d2 yt yl yh yq yr g3 yg g4 w1 w2 w3 w4 w5 w6 w7 n2 n3 (by omega) (by omega) (by omega) (by omega) (by omega) (by omega) hB i7 C hC M hM
          · right
            refine lost n0 n1 _ _ _ _ _ _ _ _ _ ?_ i2 hM
            rcases i1 with i1 | ⟨i1, i3⟩
            · rw [if_pos i1] at hcR
              rw [← hcR]
            · rw [if_neg (show ¬ g0 = 0 by omega)] at hcR
              generalize f_XT_take mn g1 g2 tf 59 = cT at hcR i3
              obtain ⟨d0, d1, d2⟩ := cT
              dsimp only at hcR i3
              rw [if_pos i3] at hcR
              rw [← hcR]
    · rw [if_neg k4] at hC
      rw [if_pos (show r < 0 by
        by_cases g : 0 ≤ r
        · have := hb.2.2.2.2 g; omega
        · omega)] at hM
      left
      rw [hC]
      exact ⟨rfl, p', w1, w2, w3, w4, w5, w6, w7, w8, w9, hM, hB, hF⟩
end EQW1
end
section
/-! read: the class beside the reference -/
section EQW2
variable (mth mn mp mw mu md mo : Int) (tf : Int → Int) (y1 y2 y3 y4 y5 y6 y7 y8 y9 : Int → Int)
theorem e_L104 (kx wx : Int) (x1 x2 x3 x4 x5 x6 x7 x8 x9 : Int → Int) : ∀ (n : Nat) (n1 k2 : Int), 31 - k2 < (n : Int) → (f_XM_readP_L104 mth mn mp mw mu md mo tf y1 y2 y3 y4 y5 y6 y7 y8 y9 kx wx x1 x2 x3 x4 x5 x6 x7 x8 x9 n n1 k2).2 = (0, 0, kx, wx, kcp x1 31 31, kcp x2 31 31, kcp x3 248 248, kcp x4 248 248, kcp x5 248 248, kcp x6 31 31, kcp x7 124 124, kcp x8 4 4, kcp x9 32 32) ∨ 31 < k2 := by
  intro n
  induction n with
  | zero => intro n1 k2 h; right; omega
  | succ n ih =>
    intro n1 k2 h
    rw [f_XM_readP_L104_s]
    by_cases a : k2 < 31
    · rw [if_pos a]
      by_cases b : kcp x1 31 31 k2 = 0
      · rw [if_pos b]
        rcases ih n1 (k2 + 1) (by omega) with q | q
        · exact Or.inl q
        · right; omega
      · rw [if_neg b]
        rcases ih (n1 + 1) (k2 + 1) (by omega) with q | q
        · exact Or.inl q
        · right; omega
    · rw [if_neg a]; exact Or.inl rfl
theorem e_start (xt xh xq xr xd xl : Int → Int) : eBk 0 (f_XA_fill31 xt 0) xl (f_XA_fill248 xh (-1)) (f_XA_fill124 xq (-1)) (f_XA_fill31 xr 0) (kfill y1 (31 * 1) (31 * 1 + 31) 0) (kfill y2 (31 * 1) (31 * 1 + 31) 0) (kfill y3 (248 * 1) (248 * 1 + 248) 0) y4 y5 (kfill y6 (31 * 1) (31 * 1 + 31) 0) (kfill y7 (124 * 1) (124 * 1 + 124) (-1)) ∧ eFm 0 (f_XA_fill32 xd 0) (kfill y8 (4 * 1) (4 * 1 + 4) 0) (kfill y9 (32 * 1) (32 * 1 + 32) 0) := by
  rw [f_XA_fill31_eq, f_XA_fill31_eq, f_XA_fill248_eq, f_XA_fill124_eq, f_XA_fill32_eq]
  refine ⟨⟨by decide, fun g g1 g2 => ?_, fun g g1 g2 => ?_, fun g x g1 g2 x1 x2 => ?_, fun g g1 g2 => ?_, fun g x g1 g2 x1 x2 => ?_, fun g g1 g2 _ => ⟨?_, ?_, fun x x1 x2 => ?_, fun x x1 x2 => ?_⟩⟩, by decide, fun k k1 k2 => ?_, fun j x j1 j2 x1 x2 => ?_, fun k x k1 k2 x1 x2 => ?_, fun k x k1 k2 x1 x2 _ => ?_⟩
  · rw [q_hasBit0']; unfold kfill; rw [if_pos (by omega)]
  · unfold kfill; dsimp only; rw [if_pos (by omega), if_pos (by omega)]
  · left; unfold kfill; dsimp only; rw [if_pos (by omega), if_pos (by omega)]; exact ⟨rfl, rfl⟩
  · unfold kfill; dsimp only; rw [if_pos (by omega), if_pos (by omega)]
  · unfold kfill; dsimp only; rw [if_pos (by omega), if_pos (by omega)]
  · dsimp only; rw [if_pos (by omega)]
  · dsimp only; rw [if_pos (by omega)]
  · dsimp only; rw [if_pos (by omega)]
  · dsimp only; rw [if_pos (by omega)]
  · rw [q_hasBit0']; unfold kfill; rw [if_pos (by omega)]
  · unfold kfill; dsimp only; rw [if_pos (by omega), if_pos (by omega)]
  · dsimp only; rw [if_pos (by omega)]; decide
  · dsimp only; rw [if_pos (by omega)]
set_option maxHeartbeats 2000000 in
theorem e_read (hmn : 0 ≤ mn ∧ mn ≤ 400) (hf : ∀ i, 0 ≤ tf i ∧ tf i ≤ 255) (ba da : Nat) (tp tw dg df : Int) (xt xp xl xh xq xr xd : Int → Int) :
    ∀ C, C = f_XG_read ba mn tp tw tf da dg df xt xp xl xh xq xr xd → ∀ M, M = f_XM_readP mth mn mp mw mu md mo tf y1 y2 y3 y4 y5 y6 y7 y8 y9 →
    (C.2.1 = da ∧ C.2.2.1 = ba ∧ M.2.2.2.2.1 = -1 ∧ (∃ x1 x2 x3 x4 x5 x6 x7 x8 x9, M.2.2.2.2.2 = (kcp x1 31 31, kcp x2 31 31, kcp x3 248 248, kcp x4 248 248, kcp x5 248 248, kcp x6 31 31, kcp x7 124 124, kcp x8 4 4, kcp x9 32 32) ∧ eBk C.2.2.2.2.2.2.2.2.2.2.2.2.2.1 C.2.2.2.2.2.2.1 C.2.2.2.2.2.2.2.2.1 C.2.2.2.2.2.2.2.2.2.1 C.2.2.2.2.2.2.2.2.2.2.1 C.2.2.2.2.2.2.2.2.2.2.2.1 x1 x2 x3 x4 x5 x6 x7 ∧ eFm C.2.2.2.2.2.2.2.2.2.2.2.2.2.2 C.2.2.2.2.2.2.2.2.2.2.2.2.1 x8 x9) ∧ C.2.2.2.2.2.2.2.1 = f_XB_settle C.2.2.2.2.2.2.2.2.2.2.2.2.2.1 C.2.2.2.2.2.2.2.2.2.2.2.2.2.2 C.2.2.2.2.2.2.1 xp) ∨ (C.2.1 = ba ∧ C.2.2.1 = da ∧ 0 ≤ M.2.2.2.2.1) := by
  intro C hC M hM
  rw [f_XG_read_s, f_XB_forget_s] at hC
  dsimp only at hC
  rw [f_XR_text_s, f_XT_rewind_s] at hC
  rw [f_XM_readP_s] at hM
  obtain ⟨s1, s2⟩ := e_start y1 y2 y3 y4 y5 y6 y7 y8 y9 xt xh xq xr xd xl
  have T := e_text mth mn mp mw mu md mo tf y1 y2 y3 y4 y5 y6 y7 y8 y9 hmn hf tp tw 0 0 (f_XA_fill31 xt 0) xl (f_XA_fill248 xh (-1)) (f_XA_fill124 xq (-1)) (f_XA_fill31 xr 0) (f_XA_fill32 xd 0) (Int.toNat (400 - 0) + 1) (Int.toNat (mn - 0 - (-1) + 400) + 1) 0 0 tw (f_XA_fill31 xt 0) xl (f_XA_fill248 xh (-1)) (f_XA_fill124 xq (-1)) (f_XA_fill31 xr 0) (f_XA_fill32 xd 0) 0 0 _ _ _ _ _ _ _ _ _ (by decide) (by omega) (by decide) (by decide) (by decide) (by omega) s1 s2 _ rfl M hM
  generalize f_XR_text_L9 mn tp tw tf 0 0 (f_XA_fill31 xt 0) xl (f_XA_fill248 xh (-1)) (f_XA_fill124 xq (-1)) (f_XA_fill31 xr 0) (f_XA_fill32 xd 0) (Int.toNat (400 - 0) + 1) 0 0 tw (f_XA_fill31 xt 0) xl (f_XA_fill248 xh (-1)) (f_XA_fill124 xq (-1)) (f_XA_fill31 xr 0) (f_XA_fill32 xd 0) 0 0 = c1 at hC T
  obtain ⟨r, a1, a2, a3, a4, a5, a6, a7, a8, a9, a10⟩ := c1
  dsimp only at hC T
  rcases T with ⟨t1, p, x1, x2, x3, x4, x5, x6, x7, x8, x9, t2, t3, t4⟩ | ⟨t1, p, v, x1, x2, x3, x4, x5, x6, x7, x8, x9, t2, t3⟩
  · left
    rw [if_neg (show ¬ r = 0 by omega)] at hC
    rw [f_XM_readP_J77_s, if_pos (show (-1 : Int) < 0 by decide)] at t2
    have hL := e_L104 mth mn mp mw mu md mo tf y1 y2 y3 y4 y5 y6 y7 y8 y9 p (-1) x1 x2 x3 x4 x5 x6 x7 x8 x9 (Int.toNat (31 - 0) + 1) 0 0 (by decide)
    rcases hL with hL | hL
    · rw [← t2] at hL
      rw [hC]
      dsimp only
      refine ⟨rfl, rfl, by rw [hL], ⟨x1, x2, x3, x4, x5, x6, x7, x8, x9, by rw [hL], t3, t4⟩, rfl⟩
    · omega
  · right
    rw [if_pos t1] at hC
    rw [f_XM_readP_J77_s, if_neg (show ¬ v < 0 by omega)] at t3
    rw [hC, t3]
    exact ⟨rfl, rfl, t2⟩
end EQW2
end
section
/-! rings: the class beside the reference -/
def eF (ft : Int → Int) (k : Int) : Int := if 0 < k then ft k else 0
theorem eF_b (ft : Int → Int) (hb : ∀ i, 0 ≤ ft i ∧ ft i ≤ 30) (k : Int) : 0 ≤ eF ft k ∧ eF ft k ≤ 30 := by
  unfold eF
  have := hb k
  split <;> omega
theorem jit_b (ft : Int → Int) (hb : ∀ i, 0 ≤ ft i ∧ ft i ≤ 30) : ∀ (n : Nat) (k : Int), 0 ≤ k → k ≤ 30 → 0 ≤ jit (eF ft) n k ∧ jit (eF ft) n k ≤ 30 := by
  intro n
  induction n with
  | zero => intro k h1 h2; exact ⟨h1, h2⟩
  | succ n ih => intro k h1 h2; have := eF_b ft hb k; exact ih (eF ft k) this.1 this.2
theorem jit_add (F : Int → Int) : ∀ (a b : Nat) (k : Int), jit F (a + b) k = jit F a (jit F b k) := by
  intro a b
  induction b with
  | zero => intro k; rfl
  | succ b ih => intro k; exact ih (F k)
theorem jit_zero (ft : Int → Int) : ∀ (n : Nat), jit (eF ft) n 0 = 0 := by
  intro n
  induction n with
  | zero => rfl
  | succ n ih => show jit (eF ft) n (eF ft 0) = 0; unfold eF; rw [if_neg (by decide)]; exact ih
theorem e_onL (bg bf : Int) (ft : Int → Int) (hb : ∀ i, 0 ≤ ft i ∧ ft i ≤ 30) (zg : Int) (hz : 1 ≤ zg ∧ zg ≤ 30) : ∀ (n : Nat) (v k : Int), 30 - k < (n : Int) → 0 ≤ k → k ≤ 30 → 0 ≤ v → v ≤ 30 → (f_XB_onRing_L9 bg bf ft zg n v k = 1 ∧ ∃ j : Nat, (j : Int) < 30 - k ∧ jit (eF ft) j v = zg) ∨ (f_XB_onRing_L9 bg bf ft zg n v k = 0 ∧ ∀ j : Nat, (j : Int) < 30 - k → jit (eF ft) j v ≠ zg) := by
  intro n
  induction n with
  | zero => intro v k h1 h2 h3; omega
  | succ n ih =>
    intro v k h1 h2 h3 h4 h5
    rw [f_XB_onRing_L9_s]
    by_cases a : k < 30
    · rw [if_pos a]
      by_cases b : 0 < v
      · rw [if_pos b]
        by_cases d : v = zg
        · rw [if_pos d]
          exact Or.inl ⟨rfl, 0, by omega, d⟩
        · rw [if_neg d]
          have hv := hb v
          have hE : eF ft v = ft v := by unfold eF; rw [if_pos b]
          rcases ih (ft v) (k + 1) (by omega) (by omega) (by omega) (by omega) (by omega) with ⟨i1, j, i2, i3⟩ | ⟨i1, i2⟩
          · left
            refine ⟨i1, j + 1, by omega, ?_⟩
            show jit (eF ft) j (eF ft v) = zg
            rw [hE]; exact i3
          · right
            refine ⟨i1, fun j hj => ?_⟩
            cases j with
            | zero => exact d
            | succ j =>
              show jit (eF ft) j (eF ft v) ≠ zg
              rw [hE]; exact i2 j (by omega)
      · rw [if_neg b]
        right
        refine ⟨rfl, fun j _ => ?_⟩
        rw [show v = 0 by omega, jit_zero]
        omega
    · rw [if_neg a]
      right
      exact ⟨rfl, fun j hj => by omega⟩
theorem e_on (bg bf : Int) (ft : Int → Int) (hb : ∀ i, 0 ≤ ft i ∧ ft i ≤ 30) (zg : Int) (hz : 1 ≤ zg ∧ zg ≤ 30) : (f_XB_onRing bg bf ft zg = 1 ∧ ∃ d : Nat, 1 ≤ d ∧ d ≤ 30 ∧ jit (eF ft) d zg = zg) ∨ (f_XB_onRing bg bf ft zg = 0 ∧ ∀ d : Nat, 1 ≤ d → d ≤ 30 → jit (eF ft) d zg ≠ zg) := by
  rw [f_XB_onRing_s]
  have hv := hb zg
  have hE : eF ft zg = ft zg := by unfold eF; rw [if_pos (by omega)]
  rcases e_onL bg bf ft hb zg hz (Int.toNat (30 - 0) + 1) (ft zg) 0 (by decide) (by decide) (by decide) hv.1 hv.2 with ⟨i1, j, i2, i3⟩ | ⟨i1, i2⟩
  · left
    refine ⟨i1, j + 1, by omega, by omega, ?_⟩
    show jit (eF ft) j (eF ft zg) = zg
    rw [hE]; exact i3
  · right
    refine ⟨i1, fun d h1 h2 => ?_⟩
    cases d with
    | zero => omega
    | succ d =>
      show jit (eF ft) d (eF ft zg) ≠ zg
      rw [hE]; exact i2 d (by omega)
section EQW3
variable (mth mn mp mw mu md mo : Int) (y1 y2 : Int → Int)
theorem e_isRing0 (z1 : Int) : ∀ (n : Nat) (k i9 : Int), 31 - i9 < (n : Int) → 0 ≤ i9 → i9 ≤ 31 → (∀ d : Nat, 1 ≤ d → i9 + d ≤ 31 → jit (jsg mth mn mp mw mu md mo y1 y2) d k ≠ z1) → f_XM_isRing_L4 mth mn mp mw mu md mo y1 y2 z1 n k i9 = 0 := by
  intro n
  induction n with
  | zero => intro k i9 h1 h2 h3; omega
  | succ n ih =>
    intro k i9 h1 h2 h3 h4
    rw [f_XM_isRing_L4_s]
    by_cases a : i9 < 31
    · rw [if_pos a]
      have go : ∀ v : Int, v = jsg mth mn mp mw mu md mo y1 y2 k → f_XM_isRing_L4 mth mn mp mw mu md mo y1 y2 z1 n v (i9 + 1) = 0 := by
        intro v hv
        refine ih v (i9 + 1) (by omega) (by omega) (by omega) (fun d d1 d2 => ?_)
        have := h4 (d + 1) (by omega) (by omega)
        rw [hv]
        exact this
      have h1' := h4 1 (by omega) (by omega)
      have h1'' : jsg mth mn mp mw mu md mo y1 y2 k ≠ z1 := h1'
      by_cases ht : (f_XM_isTold mth mn mp mw mu md mo y1 k) = 0
      · have e1 : jsg mth mn mp mw mu md mo y1 y2 k = 0 := by unfold jsg; rw [if_pos ht]
        rw [if_pos ht, if_neg (show ¬ (0 : Int) = z1 by rw [← e1]; exact h1'')]
        exact go 0 e1.symm
      · have e1 : jsg mth mn mp mw mu md mo y1 y2 k = y2 k := by unfold jsg; rw [if_neg ht]
        rw [if_neg ht, if_neg (show ¬ y2 k = z1 by rw [← e1]; exact h1'')]
        exact go (y2 k) e1.symm
    · rw [if_neg a]
theorem e_sg (bg : Int) (ft : Int → Int) (hy1 : ∀ i, 0 ≤ y1 i ∧ y1 i ≤ 1) (hG : ∀ g, 1 ≤ g → g ≤ 30 → f_XG_hasBit bg g = y1 g) (hT : ∀ g, 1 ≤ g → g ≤ 30 → ft g = y2 g) (hU : ∀ g, 1 ≤ g → g ≤ 30 → f_XG_hasBit bg g = 0 → ft g = 0) (k : Int) (hk : 0 ≤ k ∧ k ≤ 30) : jsg mth mn mp mw mu md mo y1 y2 k = eF ft k := by
  have hb := f_XM_isTold_b mth mn mp mw mu md mo y1 k hy1 (by omega)
  have h01 := hy1 k
  unfold jsg eF
  by_cases a : 0 < k
  · have g1 := hG k (by omega) hk.2
    have g2 := hT k (by omega) hk.2
    have g3 := hU k (by omega) hk.2
    rw [if_pos a]
    by_cases b : (f_XM_isTold mth mn mp mw mu md mo y1 k) = 0
    · rw [if_pos b]; exact (g3 (by omega)).symm
    · rw [if_neg b, g2]
  · rw [if_neg a, if_pos (by omega)]
/-- what both call a ring -/
theorem e_ringEq (bg bf : Int) (ft : Int → Int) (hft : ∀ i, 0 ≤ ft i ∧ ft i ≤ 30) (hy1 : ∀ i, 0 ≤ y1 i ∧ y1 i ≤ 1) (hG : ∀ g, 1 ≤ g → g ≤ 30 → f_XG_hasBit bg g = y1 g) (hT : ∀ g, 1 ≤ g → g ≤ 30 → ft g = y2 g) (hU : ∀ g, 1 ≤ g → g ≤ 30 → f_XG_hasBit bg g = 0 → ft g = 0) (zg : Int) (hz : 1 ≤ zg ∧ zg ≤ 30) : f_XB_onRing bg bf ft zg = f_XM_isRing mth mn mp mw mu md mo y1 y2 zg := by
  have hit : ∀ d : Nat, jit (jsg mth mn mp mw mu md mo y1 y2) d zg = jit (eF ft) d zg := by
    intro d
    induction d with
    | zero => rfl
    | succ d ih =>
      rw [jit_succ, jit_succ, ih]
      have := jit_b ft hft d zg (by omega) hz.2
      exact e_sg mth mn mp mw mu md mo y1 y2 bg ft hy1 hG hT hU _ this
  rcases e_on bg bf ft hft zg hz with ⟨h1, d, d1, d2, d3⟩ | ⟨h1, h2⟩
  · rw [h1, f_XM_isRing_1 mth mn mp mw mu md mo y1 y2 zg d d1 (by omega) ((hit d).trans d3)]
  · rw [h1, f_XM_isRing_s]
    symm
    refine e_isRing0 mth mn mp mw mu md mo y1 y2 zg _ zg 0 (by decide) (by decide) (by decide) (fun d e1 e2 h => ?_)
    rw [hit d] at h
    by_cases g : d ≤ 30
    · exact h2 d e1 g h
    · have hd : d = 31 := by omega
      subst hd
      have hpos : ∀ n, n ≤ 31 → 1 ≤ jit (eF ft) n zg := by
        intro n hn
        have hb := jit_b ft hft n zg (by omega) hz.2
        by_cases g0 : jit (eF ft) n zg = 0
        · have e9 := jit_add (eF ft) (31 - n) n zg
          rw [show 31 - n + n = 31 by omega, h, g0, jit_zero] at e9
          omega
        · omega
      obtain ⟨i, c, c1, c2, c3, c4⟩ := jback (fun n => jit (eF ft) n zg) (fun n _ hn => ⟨hpos n hn, (jit_b ft hft n zg (by omega) hz.2).2⟩)
      have c4 : jit (eF ft) (i + c) zg = jit (eF ft) i zg := c4
      have e8 : jit (eF ft) (31 - c) zg = zg := by
        have p1 := jit_add (eF ft) (31 - i - c) (i + c) zg
        have p2 := jit_add (eF ft) (31 - i - c) i zg
        rw [show 31 - i - c + (i + c) = 31 by omega, h, c4, ← p2, show 31 - i - c + i = 31 - c by omega] at p1
        exact p1.symm
      exact h2 (31 - c) (by omega) (by omega) e8
end EQW3
end
