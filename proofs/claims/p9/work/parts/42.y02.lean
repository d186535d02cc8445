/-! sign: what lies on both tapes -/
section EQX2
variable (mth mp mw mu md mo : Int)
theorem e_signL (mn : Int) (y0 : Int → Int) (tn tp tw : Int) (tf : Int → Int) (zy z1 zn m1 : Int) : ∀ (n n' : Nat) (k q : Int) (fa : Int → Int), k + 1 < (n : Int) → k + 1 < (n' : Int) → -1 ≤ k → k ≤ 7 → 0 ≤ q → q + k + 1 ≤ 400 → (f_XT_append_L5 tn tp tw tf zy zn n k q fa).2.2 = (f_XM_signP_L38 mth mn mp mw mu md mo y0 zy z1 m1 n' k q fa).2.2.2 := by
  intro n
  induction n with
  | zero => intro n' k q fa h; omega
  | succ n ih =>
    intro n' k q fa h1 h2 h3 h4 h5 h6
    cases n' with
    | zero => omega
    | succ n' =>
      rw [f_XT_append_L5_s, f_XM_signP_L38_s]
      by_cases a : k < 0
      · rw [if_pos a, if_pos a]
      · rw [if_neg a, if_neg a, if_pos (show q < 400 by omega), e_byte zy k (by omega)]
        exact ih n' (k + (-1)) (q + 1) _ (by omega) (by omega) (by omega) (by omega) (by omega) (by omega)
theorem e_sign (tn tp tw : Int) (tf : Int → Int) (zy z1 : Int) (fo : Int → Int) (hn : 0 ≤ tn ∧ tn ≤ 400) (hz : i32 z1) : (f_XL_sign tn tp tw tf zy z1 fo).2.2.2 = (f_XM_signP mth tn mp mw mu md mo tf zy z1).2.2.2 := by
  have hi := f_XM_in_b z1 1 8 hz (by decide) (by decide)
  have hr := f_XT_hasRoom_b tn tp tw tf z1 hn hz
  have hw := jw_or (tn + z1)
  have hG : f_XG_sign tn tp tw tf zy z1 = f_XG_sign tn tp tw tf zy z1 := rfl
  rw [f_XL_sign_s, f_XM_signP_s]
  conv at hG => rhs; rw [f_XG_sign_s]
  rcases hi with ⟨i1, i2, i3⟩ | ⟨i1, i2⟩
  · rw [if_neg (show ¬ z1 < 1 by omega), if_neg (show ¬ 8 < z1 by omega)] at hG
    rcases hr with ⟨r1, r2⟩ | ⟨r1, r2⟩
    · rw [if_neg (show ¬ f_XT_hasRoom tn tp tw tf z1 = 0 by omega), f_XT_append_s] at hG
      have hL := e_signL mth mp mw mu md mo tn tf tn tp tw tf zy z1 z1 0 (Int.toNat (z1 - 1 + 1) + 1) (Int.toNat (z1 - 1 + 1) + 1) (z1 - 1) tn tf (by omega) (by omega) (by omega) (by omega) (by omega) (by omega)
      generalize f_XT_append_L5 tn tp tw tf zy z1 (Int.toNat (z1 - 1 + 1) + 1) (z1 - 1) tn tf = q at hG hL
      obtain ⟨q1, q2, q3⟩ := q
      dsimp only at hG hL
      rw [hG]
      dsimp only
      rw [if_pos rfl, if_neg (show ¬ 400 < jw (tn + z1) by omega), f_XM_signP_J25_s, f_XM_goesP_s, i1, if_neg (show ¬ (1 : Int) = 0 by decide), if_neg (show ¬ (1 : Int) = 0 by decide)]
      dsimp only
      rw [if_neg (show ¬ (1 : Int) = 0 by decide)]
      exact hL
    · rw [if_pos r1] at hG
      rw [hG]
      dsimp only
      rw [if_neg (show ¬ (4 : Int) = 0 by decide), if_neg (show ¬ (4 : Int) = 3 by decide), if_pos (show 400 < jw (tn + z1) by omega), f_XM_signP_J25_s, f_XM_goesP_s, i1, if_neg (show ¬ (1 : Int) = 0 by decide), if_pos (rfl : (0 : Int) = 0)]
      dsimp only
      rw [if_pos (rfl : (0 : Int) = 0)]
  · have hG2 : f_XG_sign tn tp tw tf zy z1 = (3, 0, 0, fun _ => 0) := by
      rw [hG]
      by_cases a : z1 < 1
      · rw [if_pos a]
      · rw [if_neg a, if_pos (show 8 < z1 by omega)]
    rw [hG2]
    dsimp only
    rw [if_neg (show ¬ (3 : Int) = 0 by decide), if_pos (rfl : (3 : Int) = 3)]
    have hJ : ∀ jz, (f_XM_signP_J25 mth tn mp mw mu md mo tf zy z1 jz).2.2.2 = tf := by
      intro jz
      rw [f_XM_signP_J25_s, f_XM_goesP_s, i1, if_pos (rfl : (0 : Int) = 0)]
      dsimp only
      rw [if_pos (rfl : (0 : Int) = 0)]
    by_cases b : 400 < jw (tn + z1)
    · rw [if_pos b]; exact (hJ 0).symm
    · rw [if_neg b]; exact (hJ 1).symm
end EQX2
theorem e_share (fs y10 : Int → Int) (z1 z2 m1 : Int) (n10 : Int → Int) (h : ∀ i, 0 ≤ i → i ≤ 7 → fs i = y10 i) (hp : (m1 = 1 ∧ (z1 < 0 ∨ 7 < z1) ∧ n10 = y10) ∨ (m1 = 2 ∧ 0 ≤ z1 ∧ z1 ≤ 7 ∧ (z2 < 0 ∨ 100000 < z2) ∧ n10 = y10) ∨ (m1 = 0 ∧ 0 ≤ z1 ∧ z1 ≤ 7 ∧ 0 ≤ z2 ∧ z2 ≤ 100000 ∧ n10 = jset y10 z1 z2)) : ∀ i, 0 ≤ i → i ≤ 7 → (f_XL_share fs z1 z2).2 i = n10 i := by
  intro i i1 i2
  have hG : f_XG_share fs z1 z2 = f_XG_share fs z1 z2 := rfl
  conv at hG => rhs; rw [f_XG_share_s, f_XG_needBelow_s]
  rw [f_XL_share_s]
  rcases hp with ⟨_, h1, rfl⟩ | ⟨_, h1, h2, h3, rfl⟩ | ⟨_, h1, h2, h3, h4, rfl⟩
  · have hG2 : f_XG_share fs z1 z2 = (1, fun _ => 0) := by
      rw [hG]
      by_cases a : z1 < 0
      · rw [if_pos a, if_neg (show ¬ (1 : Int) = 0 by decide)]
      · rw [if_neg a, if_neg (show ¬ z1 < 8 by omega), if_neg (show ¬ (1 : Int) = 0 by decide)]
    rw [hG2]
    dsimp only
    rw [if_neg (show ¬ (1 : Int) = 0 by decide), if_pos (rfl : (1 : Int) = 1)]
    exact h i i1 i2
  · have hG2 : f_XG_share fs z1 z2 = (3, fun _ => 0) := by
      rw [hG, if_neg (show ¬ z1 < 0 by omega), if_pos (show z1 < 8 by omega), if_pos (rfl : (0 : Int) = 0)]
      by_cases a : z2 < 0
      · rw [if_pos a]
      · rw [if_neg a, if_pos (show 100000 < z2 by omega)]
    rw [hG2]
    dsimp only
    rw [if_neg (show ¬ (3 : Int) = 0 by decide), if_neg (show ¬ (3 : Int) = 1 by decide)]
    exact h i i1 i2
  · rw [if_neg (show ¬ z1 < 0 by omega), if_pos (show z1 < 8 by omega), if_pos (rfl : (0 : Int) = 0), if_neg (show ¬ z2 < 0 by omega), if_neg (show ¬ 100000 < z2 by omega)] at hG
    rw [hG]
    dsimp only
    rw [if_pos (rfl : (0 : Int) = 0)]
    show jset fs z1 z2 i = jset y10 z1 z2 i
    unfold jset
    by_cases a : i = z1
    · rw [if_pos a, if_pos a]
    · rw [if_neg a, if_neg a]; exact h i i1 i2
theorem e_clearS (fs y10 n10 : Int → Int) (h : n10 = kfill y10 0 8 0) : ∀ i, 0 ≤ i → i ≤ 7 → f_XA_fill8 fs 0 i = n10 i := by
  intro i i1 i2
  rw [h, f_XA_fill8_eq]
  unfold kfill
  dsimp only
  rw [if_pos (by omega), if_pos (by omega)]
