/-! the reference's reader beside the class's: kinds, elements, lost places -/
def mbit (mk x : Int) : Int := (jI ((jI mk >>> (jI x &&& 31)).toInt) &&& jI 1).toInt
section EQ3
variable (mth mn mp mw mu md mo tw : Int) (tf : Int → Int)
theorem e_numBig (hw : mw < 0) (wi : Int) (hmn : 0 ≤ mn ∧ mn ≤ 400) (hf : ∀ i, 0 ≤ tf i ∧ tf i ≤ 255) : ∀ (n : Nat) (v k q : Int), 6 - k < (n : Int) → 1 ≤ k → k ≤ 6 → 1 ≤ q → q ≤ mn → 4 ≤ v → (k ≤ 1 → v ≤ 9) → (k ≤ 2 → v ≤ 99) → (k ≤ 3 → v ≤ 999) → (k ≤ 4 → v ≤ 9999) → (k ≤ 5 → v ≤ 99999) → v ≤ 999999 → 0 ≤ (f_XM_numberP_L34 mth mn mp wi mu md mo tf 0 3 mw n v k q).2.2 := by
  intro n
  induction n with
  | zero => intro v k q h1 h2 h3; omega
  | succ n ih =>
    intro v k q h1 h2 h3 h4 h5 h6 b1 b2 b3 b4 b5 b6
    have hd := f_XM_isDigit_b mth mn q mw mu md mo tf hf hmn ⟨by omega, h5⟩
    have hh := f_XM_here_v mth mn q mw mu md mo tf hf hmn ⟨by omega, h5⟩
    have hend : 0 ≤ (f_XM_numberP_J93 mth mn mp wi mu md mo tf 0 3 mw v k q).2.2 := by
      have hi := f_XM_in_b v 0 3 (by omega) (by decide) (by decide)
      rw [f_XM_numberP_J93_s, if_pos (by omega), e_fail _ _ _ _ _ _ _ _ hw, e_J112W _ _ _ _ _ _ _ _ _ _ _ _ _ _ (by omega)]
      omega
    rw [f_XM_numberP_L34_s, if_pos hw]
    by_cases a : f_XM_isDigit mth mn q mw mu md mo tf = 0
    · rw [if_pos a]; exact hend
    · rw [if_neg a]
      by_cases b : k < 6
      · rw [if_pos b, if_neg (by omega), if_pos (by omega)]
        exact ih _ _ _ (by omega) (by omega) (by omega) (by omega) (by omega) (by omega) (fun _ => by omega) (fun _ => by omega) (fun _ => by omega) (fun _ => by omega) (fun _ => by omega) (by omega)
      · rw [if_neg b]; exact hend
theorem e_J93W (wi z1 z2 v dj k w1 : Int) (hw : 0 ≤ w1) : 0 ≤ (f_XM_numberP_J93 mth mn mp wi mu md mo tf z1 z2 w1 v dj k).2.2 := by
  rw [f_XM_numberP_J93_s]
  by_cases a : f_XM_in v z1 z2 = 0
  · rw [if_pos a, e_failW _ _ _ _ _ _ _ _ hw, e_J112W _ _ _ _ _ _ _ _ _ _ _ _ _ _ hw]; exact hw
  · rw [if_neg a, e_J112W _ _ _ _ _ _ _ _ _ _ _ _ _ _ hw]; exact hw
theorem e_kind0 (hw : mw < 0) (hmn : 0 ≤ mn ∧ mn ≤ 400) (hmp : 0 ≤ mp ∧ mp ≤ mn) (hf : ∀ i, 0 ≤ tf i ∧ tf i ≤ 255) : ∀ C, C = f_XT_takeOneOf mn mp tw tf 48 4 → ∀ M, M = f_XM_numberP mth mn mp mw mu md mo tf 0 3 →
    (C.1 = -1 ∧ 0 ≤ M.2.2) ∨ (0 ≤ C.1 ∧ C.1 ≤ 3 ∧ M = (C.1, C.2.1, mw)) ∨ (0 ≤ C.1 ∧ C.1 ≤ 3 ∧ 0 ≤ M.2.2 ∧ eDig tf mn C.2.1) := by
  intro C hC M hM
  have hb := f_XT_next_b mn mp tw tf hmn hmp (fun i => ⟨(hf i).1, by have := hf i; omega⟩)
  have hv := e_nextv mn mp tw tf hmn hmp
  rw [f_XT_takeOneOf_s] at hC
  rw [f_XM_numberP_s, if_pos hw, e_see mth mn mp mw mu md mo tw tf hmp.2] at hM
  generalize f_XT_next mn mp tw tf = q at hb hv hC hM
  obtain ⟨r, p⟩ := q
  dsimp only at hb hv hC hM
  have hd := e_isDigit mth mn p mw mu md mo tw tf hmn (by omega) hf
  have hr : f_XT_here mn p tw tf = r := hv
  have hx := e_here mth mn p mw mu md mo tw tf
  rw [hr] at hx
  rw [hr] at hd
  simp only [f_XT_refuse_s] at hC
  rcases hd with ⟨d1, d2, d3⟩ | ⟨d1, d2, d3⟩
  · have hg : r = tf p := by rw [← hr, f_XT_here_s, if_pos d3.1]
    have g1 := d3.1
    have g2 := d3.2
    have hd2 := e_isDigit mth mn (p + 1) mw mu md mo tw tf hmn (by omega) hf
    have hi := f_XM_in_b (r - 48) 0 3 (by omega) (by decide) (by decide)
    rw [if_neg (show ¬ f_XM_isDigit mth mn p mw mu md mo tf = 0 by omega), f_XM_numberP_J29_s, show Int.toNat (6 - 0) + 1 = 5 + 1 + 1 from rfl, f_XM_numberP_L34_s, if_pos hw, if_neg (show ¬ f_XM_isDigit mth mn p mw mu md mo tf = 0 by omega), if_pos (show (0 : Int) < 6 by decide), if_pos rfl, hx, show 10 * 0 + r - 48 = r - 48 by omega] at hM
    rw [if_neg (show ¬ r - 48 < 0 by omega)] at hC
    by_cases a : r - 48 < 4
    · rw [if_pos a] at hC
      rw [f_XM_numberP_L34_s, if_pos hw] at hM
      have hJ : f_XM_numberP_J93 mth mn mp mw mu md mo tf 0 3 mw (r - 48) (0 + 1) (p + 1) = (r - 48, p + 1, mw) := by
        rw [f_XM_numberP_J93_s, if_neg (by omega), f_XM_numberP_J112_s, if_neg (by decide), f_XM_numberP_J134_s, if_pos hw]
      rw [hC]
      dsimp only
      rcases hd2 with ⟨k1, k2, k3⟩ | ⟨k1, k2, k3⟩
      · rw [if_neg (show ¬ f_XM_isDigit mth mn (p + 1) mw mu md mo tf = 0 by omega), if_pos (show (0 : Int) + 1 < 6 by decide), if_neg (show ¬ (0 : Int) + 1 = 0 by decide)] at hM
        by_cases b : 0 < r - 48
        · right; right
          rw [if_pos b] at hM
          refine ⟨by omega, by omega, ?_, k3⟩
          have hx2 := e_here mth mn (p + 1) mw mu md mo tw tf
          have hg2 : f_XT_here mn (p + 1) tw tf = tf (p + 1) := by rw [f_XT_here_s, if_pos k3.1]
          have k4 := k3.1
          have k5 := k3.2
          rw [hx2, hg2] at hM
          rw [hM]
          exact e_numBig mth mn mp mw mu md mo tf hw mw hmn hf 5 _ _ _ (by decide) (by decide) (by decide) (by omega) (by omega) (by omega) (fun h => by omega) (fun _ => by omega) (fun _ => by omega) (fun _ => by omega) (fun _ => by omega) (by omega)
        · right; left
          rw [if_neg b, hJ] at hM
          exact ⟨by omega, by omega, hM⟩
      · right; left
        rw [if_pos k1, hJ] at hM
        exact ⟨by omega, by omega, hM⟩
    · left
      rw [if_neg a] at hC
      rw [hC, hM]
      exact ⟨rfl, e_numBig mth mn mp mw mu md mo tf hw mw hmn hf (5 + 1) _ _ _ (by decide) (by decide) (by decide) (by omega) (by omega) (by omega) (fun h => by omega) (fun _ => by omega) (fun _ => by omega) (fun _ => by omega) (fun _ => by omega) (by omega)⟩
  · left
    have h48 : r < 48 ∨ 57 < r := by
      have := f_XG_isDigit_01 r (by omega)
      omega
    rw [if_pos d1, f_XM_numberP_J29_s, e_fail _ _ _ _ _ _ _ _ hw, show Int.toNat (6 - 0) + 1 = 6 + 1 from rfl, f_XM_numberP_L34_s, if_neg (show ¬ p < 0 by omega)] at hM
    have hCm : C.1 = -1 := by
      by_cases a : r - 48 < 0
      · rw [if_pos a] at hC; rw [hC]
      · rw [if_neg a, if_neg (show ¬ r - 48 < 4 by omega)] at hC; rw [hC]
    exact ⟨hCm, by rw [hM]; exact e_J93W mth mn mp mu md mo tf mw 0 3 0 0 p p (by omega)⟩
theorem e_kind (hw : mw < 0) (hmn : 0 ≤ mn ∧ mn ≤ 400) (hmp : 0 ≤ mp ∧ mp ≤ mn) (hf : ∀ i, 0 ≤ tf i ∧ tf i ≤ 255) :
    ((f_XT_takeOneOf mn mp tw tf 48 4).1 = -1 ∧ 0 ≤ (f_XM_numberP mth mn mp mw mu md mo tf 0 3).2.2) ∨ (0 ≤ (f_XT_takeOneOf mn mp tw tf 48 4).1 ∧ (f_XT_takeOneOf mn mp tw tf 48 4).1 ≤ 3 ∧ f_XM_numberP mth mn mp mw mu md mo tf 0 3 = ((f_XT_takeOneOf mn mp tw tf 48 4).1, (f_XT_takeOneOf mn mp tw tf 48 4).2.1, mw)) ∨ (0 ≤ (f_XT_takeOneOf mn mp tw tf 48 4).1 ∧ (f_XT_takeOneOf mn mp tw tf 48 4).1 ≤ 3 ∧ 0 ≤ (f_XM_numberP mth mn mp mw mu md mo tf 0 3).2.2 ∧ eDig tf mn (f_XT_takeOneOf mn mp tw tf 48 4).2.1) :=
  e_kind0 mth mn mp mw mu md mo tw tf hw hmn hmp hf _ rfl _ rfl
theorem e_elem (hw : mw < 0) (hmn : 0 ≤ mn ∧ mn ≤ 400) (hmp : 0 ≤ mp ∧ mp ≤ mn) (hf : ∀ i, 0 ≤ tf i ∧ tf i ≤ 255) (mk : Int) :
    ((f_XT_takeOneOf mn mp tw tf 65 8).1 = -1 ∧ f_XM_elementP mth mn mp mw mu md mo tf mk = (-1, (f_XT_takeOneOf mn mp tw tf 65 8).2.1, mw)) ∨ (0 ≤ (f_XT_takeOneOf mn mp tw tf 65 8).1 ∧ (f_XT_takeOneOf mn mp tw tf 65 8).1 ≤ 7 ∧ 1 ≤ (f_XT_takeOneOf mn mp tw tf 65 8).2.1 ∧ ((mbit mk (f_XT_takeOneOf mn mp tw tf 65 8).1 ≠ 1 ∧ f_XM_elementP mth mn mp mw mu md mo tf mk = ((f_XT_takeOneOf mn mp tw tf 65 8).1, (f_XT_takeOneOf mn mp tw tf 65 8).2.1, mw)) ∨ (mbit mk (f_XT_takeOneOf mn mp tw tf 65 8).1 = 1 ∧ 0 ≤ (f_XM_elementP mth mn mp mw mu md mo tf mk).2.2))) := by
  have hb := f_XT_next_b mn mp tw tf hmn hmp (fun i => ⟨(hf i).1, by have := hf i; omega⟩)
  have hv := e_nextv mn mp tw tf hmn hmp
  rw [f_XT_takeOneOf_s, f_XM_elementP_s, if_pos hw, e_see mth mn mp mw mu md mo tw tf hmp.2]
  generalize f_XT_next mn mp tw tf = q at hb hv
  obtain ⟨r, p⟩ := q
  dsimp only at hb hv ⊢
  have hx := (e_here mth mn p mw mu md mo tw tf).trans hv
  have hi := f_XM_in_b r 65 72 (by omega) (by decide) (by decide)
  simp only [f_XT_refuse_s, hx]
  by_cases a : f_XM_in r 65 72 = 0
  · left
    rw [if_pos a]
    by_cases b : r - 65 < 0
    · rw [if_pos b]; exact ⟨rfl, rfl⟩
    · rw [if_neg b, if_neg (by omega)]; exact ⟨rfl, rfl⟩
  · right
    rw [if_neg a, if_neg (show ¬ r - 65 < 0 by omega), if_pos (show r - 65 < 8 by omega)]
    refine ⟨by show 0 ≤ r - 65; omega, by show r - 65 ≤ 7; omega, by show 1 ≤ p + 1; omega, ?_⟩
    by_cases b : mbit mk (r - 65) = 1
    · right
      refine ⟨b, ?_⟩
      rw [if_pos (show (jI ((jI mk >>> (jI (r - 65) &&& 31)).toInt) &&& jI 1).toInt = 1 from b), e_fail _ _ _ _ _ _ _ _ hw]
      show 0 ≤ p
      omega
    · left
      refine ⟨b, ?_⟩
      rw [if_neg (show ¬ (jI ((jI mk >>> (jI (r - 65) &&& 31)).toInt) &&& jI 1).toInt = 1 from b)]
/-- before a digit no other sign is taken -/
theorem e_digNext (h : eDig tf mn mp) (hmp : 0 ≤ mp) : f_XT_next mn mp tw tf = (tf mp, mp) := by
  obtain ⟨h1, h2, h3⟩ := h
  rw [f_XT_next_s, f_XT_next_L0_s, if_pos h1, if_neg (by omega), if_pos h1]
theorem e_digTakes (h : eDig tf mn mp) (hmp : 0 ≤ mp) (z1 : Int) (hz : z1 < 48 ∨ 57 < z1) : f_XM_takesP mth mn mp mw mu md mo tf z1 = (0, mp) := by
  by_cases hw : mw < 0
  · have h2 := h.2
    rw [e_takes mth mn mp mw mu md mo 0 tf z1 hw (by have := h.1; omega), f_XT_skipIf_s, e_digNext mn mp 0 tf h hmp]
    dsimp only
    rw [if_neg (by omega)]
  · exact e_takesW mth mn mp mw mu md mo tf z1 (by omega)
theorem e_digTake (h : eDig tf mn mp) (hmp : 0 ≤ mp) (hw : mw < 0) (z1 : Int) (hz : z1 < 48 ∨ 57 < z1) : f_XM_takeP mth mn mp mw mu md mo tf z1 = (mp, mp) := by
  have h2 := h.2
  rw [f_XM_takeP_s, if_pos hw, e_see mth mn mp mw mu md mo 0 tf (by have := h.1; omega), e_digNext mn mp 0 tf h hmp]
  dsimp only
  rw [if_neg (by omega), e_fail _ _ _ _ _ _ _ _ hw]
theorem e_digElem (h : eDig tf mn mp) (hmp : 0 ≤ mp) (mk : Int) : f_XM_elementP mth mn mp mw mu md mo tf mk = (-1, mp, mw) := by
  rw [f_XM_elementP_s]
  by_cases hw : mw < 0
  · have h2 := h.2
    have hi := f_XM_in_b (tf mp) 65 72 (by omega) (by decide) (by decide)
    rw [if_pos hw, e_see mth mn mp mw mu md mo 0 tf (by have := h.1; omega), e_digNext mn mp 0 tf h hmp]
    dsimp only
    rw [if_pos (by omega)]
  · rw [if_neg hw]
end EQ3
