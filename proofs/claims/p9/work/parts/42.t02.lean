/-! the reference's reader beside the class's: numbers -/
noncomputable def eCend (mn tw : Int) (tf : Int → Int) (zl zm v q : Int) : Int × Int × Int :=
  if v < zl then (-1, q, q - 1) else if zm < v then (-1, q, q - 1) else if (f_XG_isDigit (f_XT_here mn q tw tf)) = 0 then (v, q, tw) else (-1, q, q)
theorem e_L22 (mn tp tw : Int) (tf : Int → Int) (zl zm : Int) (n : Nat) (v k q : Int) : f_XT_number_L22 mn tp tw tf zl zm (n + 1) v k q =
    (if k < 6 then
      if (f_XG_isDigit (f_XT_here mn q tw tf)) = 0 then eCend mn tw tf zl zm v q
      else if 0 < k then (if v = 0 then eCend mn tw tf zl zm v q else f_XT_number_L22 mn tp tw tf zl zm n (((v * 10) + (f_XT_here mn q tw tf)) - 48) (k + 1) (q + 1))
      else f_XT_number_L22 mn tp tw tf zl zm n (((v * 10) + (f_XT_here mn q tw tf)) - 48) (k + 1) (q + 1)
    else eCend mn tw tf zl zm v q) := by
  rw [f_XT_number_L22_s]
  simp only [f_XT_refuseLast_s, f_XT_refuse_s]
  rfl
/-- how a number of the class and one of the reference stand to each other -/
def eNum (tf : Int → Int) (mn mw : Int) (C M : Int × Int × Int) : Prop := (0 ≤ C.1 ∧ M = (C.1, C.2.1, mw) ∧ ¬ eDig tf mn C.2.1) ∨ (C.1 = -1 ∧ (0 ≤ M.2.2 ∨ (M.2.2 = mw ∧ 0 ≤ M.2.1 ∧ eDig tf mn M.2.1)))
section EQ2
variable (mth mn mp mw mu md mo tw : Int) (tf : Int → Int) (z1 z2 : Int) (wi : Int)
theorem e_J112W (v dj k w2 : Int) (hw : 0 ≤ w2) : (f_XM_numberP_J112 mth mn mp wi mu md mo tf z1 z2 v dj k w2).2.2 = w2 := by
  rw [f_XM_numberP_J112_s]
  (repeat' split) <;> simp only [f_XM_numberP_J134_s, e_failW _ _ _ _ _ _ _ _ hw] <;> split <;> rfl
theorem e_J112A (v dj k w2 : Int) (hw : w2 < 0) (hk : 0 ≤ k) : (f_XM_numberP_J112 mth mn mp wi mu md mo tf z1 z2 v dj k w2 = (v, k, w2) ∧ (dj = 6 → f_XM_isDigit mth mn k w2 mu md mo tf = 0)) ∨ (f_XM_numberP_J112 mth mn mp wi mu md mo tf z1 z2 v dj k w2 = (z1, k, k) ∧ dj = 6 ∧ f_XM_isDigit mth mn k w2 mu md mo tf ≠ 0) := by
  rw [f_XM_numberP_J112_s]
  by_cases a : dj = 6
  · by_cases b : f_XM_isDigit mth mn k w2 mu md mo tf = 0
    · left
      rw [if_pos a, if_pos b, f_XM_numberP_J134_s, if_pos hw]
      exact ⟨rfl, fun _ => b⟩
    · right
      rw [if_pos a, if_neg b, f_XM_numberP_J134_s, e_fail _ _ _ _ _ _ _ _ hw, if_neg (by omega)]
      exact ⟨rfl, a, b⟩
  · left
    rw [if_neg a, f_XM_numberP_J134_s, if_pos hw]
    exact ⟨rfl, fun h => absurd h a⟩
theorem e_numEnd (hw : mw < 0) (hz : 0 ≤ z1 ∧ z1 ≤ z2 ∧ z2 ≤ 999999) (hmn : 0 ≤ mn ∧ mn ≤ 400) (hf : ∀ i, 0 ≤ tf i ∧ tf i ≤ 255) (v dj k : Int) (hv : i32 v) (hk : 1 ≤ k ∧ k ≤ mn) : eNum tf mn mw (eCend mn tw tf z1 z2 v k) (f_XM_numberP_J93 mth mn mp wi mu md mo tf z1 z2 mw v dj k) := by
  have hi := f_XM_in_b v z1 z2 hv (by omega) (by omega)
  have hd := e_isDigit mth mn k mw mu md mo tw tf hmn (by omega) hf
  rw [f_XM_numberP_J93_s]
  unfold eNum eCend
  by_cases a : v < z1
  · rw [if_pos a, if_pos (show f_XM_in v z1 z2 = 0 by omega)]
    right
    refine ⟨rfl, Or.inl ?_⟩
    rw [e_fail _ _ _ _ _ _ _ _ hw, e_J112W _ _ _ _ _ _ _ _ _ _ _ _ _ _ (by omega)]
    omega
  · by_cases b : z2 < v
    · rw [if_neg a, if_pos b, if_pos (show f_XM_in v z1 z2 = 0 by omega)]
      right
      refine ⟨rfl, Or.inl ?_⟩
      rw [e_fail _ _ _ _ _ _ _ _ hw, e_J112W _ _ _ _ _ _ _ _ _ _ _ _ _ _ (by omega)]
      omega
    · rw [if_neg a, if_neg b, if_neg (show ¬ f_XM_in v z1 z2 = 0 by omega)]
      rcases e_J112A mth mn mp mu md mo tf z1 z2 wi v dj k mw hw (by omega) with ⟨h1, h2⟩ | ⟨h1, h2, h3⟩
      · rw [h1]
        rcases hd with ⟨d1, d2, d3⟩ | ⟨d1, d2, d3⟩
        · rw [if_neg (show ¬ f_XG_isDigit (f_XT_here mn k tw tf) = 0 by omega)]
          right
          exact ⟨rfl, Or.inr ⟨rfl, by show 0 ≤ k; omega, d3⟩⟩
        · rw [if_pos d2]
          left
          exact ⟨by show 0 ≤ v; omega, rfl, d3⟩
      · rw [h1]
        rcases hd with ⟨d1, d2, d3⟩ | ⟨d1, d2, d3⟩
        · rw [if_neg (show ¬ f_XG_isDigit (f_XT_here mn k tw tf) = 0 by omega)]
          right
          exact ⟨rfl, Or.inl (by show 0 ≤ k; omega)⟩
        · omega
theorem e_numL (hw : mw < 0) (hz : 0 ≤ z1 ∧ z1 ≤ z2 ∧ z2 ≤ 999999) (hmn : 0 ≤ mn ∧ mn ≤ 400) (hf : ∀ i, 0 ≤ tf i ∧ tf i ≤ 255) (tp : Int) : ∀ (n : Nat) (v k q : Int), 6 - k < (n : Int) → 0 ≤ k → k ≤ 6 → 0 ≤ q → q ≤ mn → (k = 0 → v = 0 ∧ eDig tf mn q) → (0 < k → 1 ≤ q) → 0 ≤ v → (k ≤ 1 → v ≤ 9) → (k ≤ 2 → v ≤ 99) → (k ≤ 3 → v ≤ 999) → (k ≤ 4 → v ≤ 9999) → (k ≤ 5 → v ≤ 99999) → v ≤ 999999 →
    eNum tf mn mw (f_XT_number_L22 mn tp tw tf z1 z2 n v k q) (f_XM_numberP_L34 mth mn mp wi mu md mo tf z1 z2 mw n v k q) := by
  intro n
  induction n with
  | zero => intro v k q h1 h2 h3; omega
  | succ n ih =>
    intro v k q h1 h2 h3 h4 h5 h6 h7 h8 b1 b2 b3 b4 b5 b6
    have hd := e_isDigit mth mn q mw mu md mo tw tf hmn ⟨h4, h5⟩ hf
    have hh := e_here mth mn q mw mu md mo tw tf
    have hq := hf q
    have hi : i32 v := by omega
    rw [e_L22, f_XM_numberP_L34_s, if_pos hw, hh, show 10 * v = v * 10 from Int.mul_comm 10 v]
    have step : eDig tf mn q → k < 6 → eNum tf mn mw (f_XT_number_L22 mn tp tw tf z1 z2 n (v * 10 + f_XT_here mn q tw tf - 48) (k + 1) (q + 1)) (f_XM_numberP_L34 mth mn mp wi mu md mo tf z1 z2 mw n (v * 10 + f_XT_here mn q tw tf - 48) (k + 1) (q + 1)) := by
      intro hg hk
      have hv : f_XT_here mn q tw tf = tf q := by rw [f_XT_here_s, if_pos hg.1]
      rw [hv]
      have g1 := hg.1
      have g2 := hg.2
      exact ih _ _ _ (by omega) (by omega) (by omega) (by omega) (by omega) (fun h => by omega) (fun _ => by omega) (by omega) (fun _ => by omega) (fun _ => by omega) (fun _ => by omega) (fun _ => by omega) (fun _ => by omega) (by omega)
    rcases hd with ⟨d1, d2, d3⟩ | ⟨d1, d2, d3⟩
    · rw [if_neg (show ¬ f_XM_isDigit mth mn q mw mu md mo tf = 0 by omega), if_neg (show ¬ f_XG_isDigit (f_XT_here mn q tw tf) = 0 by omega)]
      by_cases a : k < 6
      · rw [if_pos a, if_pos a]
        by_cases b : k = 0
        · rw [if_neg (by omega), if_pos b]
          exact step d3 a
        · rw [if_pos (by omega), if_neg b]
          by_cases d : v = 0
          · rw [if_pos d, if_neg (by omega)]
            exact e_numEnd mth mn mp mw mu md mo tw tf z1 z2 wi hw hz hmn hf v k q hi ⟨h7 (by omega), h5⟩
          · rw [if_neg d, if_pos (by omega)]
            exact step d3 a
      · rw [if_neg a, if_neg a]
        exact e_numEnd mth mn mp mw mu md mo tw tf z1 z2 wi hw hz hmn hf v k q hi ⟨h7 (by omega), h5⟩
    · rw [if_pos d1, if_pos d2]
      have hk0 : k ≠ 0 := fun h => d3 (h6 h).2
      have e9 := e_numEnd mth mn mp mw mu md mo tw tf z1 z2 wi hw hz hmn hf v k q hi ⟨h7 (by omega), h5⟩
      by_cases a : k < 6
      · rw [if_pos a]; exact e9
      · rw [if_neg a]; exact e9
theorem e_number (hw : mw < 0) (hz : 0 ≤ z1 ∧ z1 ≤ z2 ∧ z2 ≤ 999999) (hmn : 0 ≤ mn ∧ mn ≤ 400) (hmp : 0 ≤ mp ∧ mp ≤ mn) (hf : ∀ i, 0 ≤ tf i ∧ tf i ≤ 255) : eNum tf mn mw (f_XT_number mn mp tw tf z1 z2) (f_XM_numberP mth mn mp mw mu md mo tf z1 z2) := by
  have hb := f_XT_next_b mn mp tw tf hmn hmp (fun i => ⟨(hf i).1, by have := hf i; omega⟩)
  have hv := e_nextv mn mp tw tf hmn hmp
  rw [f_XT_number_s, f_XM_numberP_s, if_pos hw, e_see mth mn mp mw mu md mo tw tf hmp.2]
  generalize f_XT_next mn mp tw tf = q at hb hv
  obtain ⟨r, p⟩ := q
  dsimp only at hb hv ⊢
  have hd := e_isDigit mth mn p mw mu md mo tw tf hmn (by omega) hf
  have hr : f_XT_here mn p tw tf = r := hv
  rw [hr] at hd
  rcases hd with ⟨d1, d2, d3⟩ | ⟨d1, d2, d3⟩
  · rw [if_neg (show ¬ f_XM_isDigit mth mn p mw mu md mo tf = 0 by omega), if_neg (show ¬ f_XG_isDigit r = 0 by omega), f_XM_numberP_J29_s]
    exact e_numL mth mn mp mw mu md mo tw tf z1 z2 mw hw hz hmn hf mp _ 0 0 p (by decide) (by decide) (by decide) (by omega) (by omega) (fun _ => ⟨rfl, d3⟩) (fun h => by omega) (by decide) (fun _ => by decide) (fun _ => by decide) (fun _ => by decide) (fun _ => by decide) (fun _ => by decide) (by decide)
  · rw [if_pos d1, if_pos d2, f_XM_numberP_J29_s, e_fail _ _ _ _ _ _ _ _ hw, f_XT_refuse_s]
    right
    refine ⟨rfl, Or.inl ?_⟩
    rw [show Int.toNat (6 - 0) + 1 = 6 + 1 from rfl, f_XM_numberP_L34_s, if_neg (by omega), f_XM_numberP_J93_s]
    (repeat' split) <;> (try rw [e_failW _ _ _ _ _ _ _ _ (show 0 ≤ p by omega)]) <;> rw [e_J112W _ _ _ _ _ _ _ _ _ _ _ _ _ _ (show 0 ≤ p by omega)] <;> omega
end EQ2
