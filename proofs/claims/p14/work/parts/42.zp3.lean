/-! both print a number alike -/
def kPg (q m : Int) (fa v : Int → Int) : Prop := q = m ∧ 0 ≤ m ∧ ∀ i, 0 ≤ i → i < m → fa i = v i
noncomputable def kD (z : Int) : Int := if z < 10 then 1 else if z < 100 then 2 else if z < 1000 then 3 else if z < 10000 then 4 else if z < 100000 then 5 else 6
theorem kD_b (z : Int) : 1 ≤ kD z ∧ kD z ≤ 6 ∧ (z < 10 → kD z = 1) ∧ (z < 100 → kD z ≤ 2) := by
  unfold kD
  (repeat' split) <;> omega
theorem kPg_put (q m : Int) (fa v : Int → Int) (c : Int) (h : kPg q m fa v) : kPg (q + 1) (m + 1) (jset fa q c) (jset v m c) := by
  obtain ⟨h1, h2, h3⟩ := h
  subst h1
  refine ⟨rfl, by omega, fun i a b => ?_⟩
  unfold jset
  by_cases d : i = q
  · rw [if_pos d, if_pos d]
  · rw [if_neg d, if_neg d]; exact h3 i a (by omega)
section EQP3
variable (mth mn mp mw mu md mo : Int) (y11 : Int → Int) (z1 zi pn : Int) (pf : Int → Int)
/-- from one power of ten on both put the same signs -/
def kNm (u d : Int) : Prop := ∀ (n n' : Nat) (q m : Int) (fa v : Int → Int), u < (n : Int) → u < (n' : Int) → kPg q m fa v → q + d ≤ 160 → ∃ fa' v', f_XP_putNumber_L3 pn pf zi n u q fa = (q + d, fa') ∧ f_XM_tellP_L23 mth mn mp mw mu md mo y11 z1 zi n' u m v = (m + d, v') ∧ kPg (q + d) (m + d) fa' v'
theorem kNm_0 : kNm mth mn mp mw mu md mo y11 z1 zi pn pf 0 0 := by
  intro n n' q m fa v h1 h2 h3 h4
  cases n with
  | zero => exact absurd h1 (by decide)
  | succ n =>
    cases n' with
    | zero => exact absurd h2 (by decide)
    | succ n' =>
      rw [f_XP_putNumber_L3_s, f_XM_tellP_L23_s, if_neg (show ¬ (0 : Int) < 0 by decide), if_neg (show ¬ (0 : Int) < 0 by decide), Int.add_zero, Int.add_zero]
      exact ⟨fa, v, rfl, rfl, h3⟩
theorem kNm_step (u u' d : Int) (hu : Int.tdiv u 10 = u') (hp : u' < u) (hq : 0 < u) (hd : 0 ≤ d) (hz : u ≤ zi ∨ u = 1) (h : kNm mth mn mp mw mu md mo y11 z1 zi pn pf u' d) : kNm mth mn mp mw mu md mo y11 z1 zi pn pf u (1 + d) := by
  intro n n' q m fa v h1 h2 h3 h4
  cases n with
  | zero => exact absurd h1 (by omega)
  | succ n =>
    cases n' with
    | zero => exact absurd h2 (by omega)
    | succ n' =>
      have hput : f_XP_put q fa (48 + Int.tmod (Int.tdiv zi u) 10) = (q + 1, jset fa q (48 + Int.tmod (Int.tdiv zi u) 10)) := by rw [f_XP_put_s, if_pos (by omega)]
      obtain ⟨fa', v', e1, e2, e3⟩ := h n n' (q + 1) (m + 1) _ _ (by omega) (by omega) (kPg_put q m fa v (48 + Int.tmod (Int.tdiv zi u) 10) h3) (by omega)
      have a1 : q + (1 + d) = q + 1 + d := by omega
      have a2 : m + (1 + d) = m + 1 + d := by omega
      rw [a1, a2]
      refine ⟨fa', v', ?_, ?_, e3⟩
      · rw [f_XP_putNumber_L3_s, if_pos hq, hput, hu]
        by_cases c : zi < u
        · rw [if_pos c, if_pos (show u = 1 by omega)]; exact e1
        · rw [if_neg c]; exact e1
      · rw [f_XM_tellP_L23_s, if_pos hq, f_XM_putP_s, hu]; exact e2
theorem skip1 (n : Nat) (u u' q : Int) (fa : Int → Int) (hu : Int.tdiv u 10 = u') (h1 : zi < u) (h2 : 1 < u) : f_XP_putNumber_L3 pn pf zi (n + 1) u q fa = f_XP_putNumber_L3 pn pf zi n u' q fa := by
  rw [f_XP_putNumber_L3_s, if_pos (show 0 < u by omega), if_pos h1, if_neg (show ¬ u = 1 by omega), hu]
theorem tdq (a b : Int) (ha : 0 ≤ a) (hb : 0 < b) : 9 < Int.tdiv a b ↔ 10 * b ≤ a := by
  rw [Int.tdiv_eq_ediv_of_nonneg ha]
  constructor
  · intro h
    have h2 := Int.mul_ediv_self_le (x := a) (k := b) (by omega)
    have h3 := Int.mul_le_mul_of_nonneg_left (show 10 ≤ a / b by omega) (show 0 ≤ b by omega)
    omega
  · intro h
    have h4 : 10 ≤ a / b := (Int.le_ediv_iff_mul_le hb).mpr h
    omega
theorem up1 (m1 : Int) (v1 : Int → Int) (n : Nat) (u : Int) (h0 : 0 ≤ zi) (hu : 0 < u) (h : 10 * u ≤ zi) : f_XM_tellP_L7 mth mn mp mw mu md mo y11 z1 zi m1 v1 (n + 1) u = f_XM_tellP_L7 mth mn mp mw mu md mo y11 z1 zi m1 v1 n (10 * u) := by
  rw [f_XM_tellP_L7_s, if_pos ((tdq zi u h0 hu).mpr h)]
theorem up0 (m1 : Int) (v1 : Int → Int) (n : Nat) (u : Int) (h0 : 0 ≤ zi) (hu : 0 < u) (h : zi < 10 * u) : f_XM_tellP_L7 mth mn mp mw mu md mo y11 z1 zi m1 v1 (n + 1) u = f_XM_tellP_L23 mth mn mp mw mu md mo y11 z1 zi (Int.toNat (u) + 1) u m1 v1 := by
  rw [f_XM_tellP_L7_s, if_neg (fun q => absurd ((tdq zi u h0 hu).mp q) (by omega))]
theorem e_num (h0 : 0 ≤ zi ∧ zi ≤ 999999) (m1 : Int) (v1 : Int → Int) (hk : kPg pn m1 pf v1) (hl : pn + kD zi ≤ 160) : ∃ fa' v', f_XP_putNumber pn pf zi = (pn + kD zi, fa') ∧ f_XM_tellP_L7 mth mn mp mw mu md mo y11 z1 zi m1 v1 (Int.toNat (100001 - 1) + 1) 1 = (m1 + kD zi, v') ∧ kPg (pn + kD zi) (m1 + kD zi) fa' v' := by
  rw [f_XP_putNumber_s]
  have k1 := kNm_step mth mn mp mw mu md mo y11 z1 zi pn pf 1 0 0 (by decide) (by decide) (by decide) (by decide) (Or.inr rfl) (kNm_0 mth mn mp mw mu md mo y11 z1 zi pn pf)
  rw [show Int.toNat (100000) + 1 = 99995 + 1 + 1 + 1 + 1 + 1 + 1 by decide, show Int.toNat (100001 - 1) + 1 = 99995 + 1 + 1 + 1 + 1 + 1 + 1 by decide]
  by_cases c1 : zi < 10
  · have e : kD zi = 1 + 0 := by unfold kD; rw [if_pos c1]; rfl
    rw [e] at hl ⊢
    rw [skip1 zi pn pf _ 100000 10000 pn pf (by decide) (by omega) (by decide), skip1 zi pn pf _ 10000 1000 pn pf (by decide) (by omega) (by decide), skip1 zi pn pf _ 1000 100 pn pf (by decide) (by omega) (by decide), skip1 zi pn pf _ 100 10 pn pf (by decide) (by omega) (by decide), skip1 zi pn pf _ 10 1 pn pf (by decide) (by omega) (by decide)]
    rw [up0 mth mn mp mw mu md mo y11 z1 zi m1 v1 _ 1 h0.1 (by decide) (by omega)]
    exact k1 _ _ pn m1 pf v1 (by decide) (by decide) hk hl
  · have k2 := kNm_step mth mn mp mw mu md mo y11 z1 zi pn pf 10 1 (1 + 0) (by decide) (by decide) (by decide) (by decide) (Or.inl (by omega)) k1
    by_cases c2 : zi < 100
    · have e : kD zi = 1 + (1 + 0) := by unfold kD; rw [if_neg c1, if_pos c2]; rfl
      rw [e] at hl ⊢
      rw [skip1 zi pn pf _ 100000 10000 pn pf (by decide) (by omega) (by decide), skip1 zi pn pf _ 10000 1000 pn pf (by decide) (by omega) (by decide), skip1 zi pn pf _ 1000 100 pn pf (by decide) (by omega) (by decide), skip1 zi pn pf _ 100 10 pn pf (by decide) (by omega) (by decide)]
      rw [up1 mth mn mp mw mu md mo y11 z1 zi m1 v1 _ 1 h0.1 (by decide) (by omega), up0 mth mn mp mw mu md mo y11 z1 zi m1 v1 _ (10 * 1) h0.1 (by decide) (by omega)]
      exact k2 _ _ pn m1 pf v1 (by decide) (by decide) hk hl
    · have k3 := kNm_step mth mn mp mw mu md mo y11 z1 zi pn pf 100 10 (1 + (1 + 0)) (by decide) (by decide) (by decide) (by decide) (Or.inl (by omega)) k2
      by_cases c3 : zi < 1000
      · have e : kD zi = 1 + (1 + (1 + 0)) := by unfold kD; rw [if_neg c1, if_neg c2, if_pos c3]; rfl
        rw [e] at hl ⊢
        rw [skip1 zi pn pf _ 100000 10000 pn pf (by decide) (by omega) (by decide), skip1 zi pn pf _ 10000 1000 pn pf (by decide) (by omega) (by decide), skip1 zi pn pf _ 1000 100 pn pf (by decide) (by omega) (by decide)]
        rw [up1 mth mn mp mw mu md mo y11 z1 zi m1 v1 _ 1 h0.1 (by decide) (by omega), up1 mth mn mp mw mu md mo y11 z1 zi m1 v1 _ (10 * 1) h0.1 (by decide) (by omega), up0 mth mn mp mw mu md mo y11 z1 zi m1 v1 _ (10 * (10 * 1)) h0.1 (by decide) (by omega)]
        exact k3 _ _ pn m1 pf v1 (by decide) (by decide) hk hl
      · have k4 := kNm_step mth mn mp mw mu md mo y11 z1 zi pn pf 1000 100 (1 + (1 + (1 + 0))) (by decide) (by decide) (by decide) (by decide) (Or.inl (by omega)) k3
        by_cases c4 : zi < 10000
        · have e : kD zi = 1 + (1 + (1 + (1 + 0))) := by unfold kD; rw [if_neg c1, if_neg c2, if_neg c3, if_pos c4]; rfl
          rw [e] at hl ⊢
          rw [skip1 zi pn pf _ 100000 10000 pn pf (by decide) (by omega) (by decide), skip1 zi pn pf _ 10000 1000 pn pf (by decide) (by omega) (by decide)]
          rw [up1 mth mn mp mw mu md mo y11 z1 zi m1 v1 _ 1 h0.1 (by decide) (by omega), up1 mth mn mp mw mu md mo y11 z1 zi m1 v1 _ (10 * 1) h0.1 (by decide) (by omega), up1 mth mn mp mw mu md mo y11 z1 zi m1 v1 _ (10 * (10 * 1)) h0.1 (by decide) (by omega), up0 mth mn mp mw mu md mo y11 z1 zi m1 v1 _ (10 * (10 * (10 * 1))) h0.1 (by decide) (by omega)]
          exact k4 _ _ pn m1 pf v1 (by decide) (by decide) hk hl
        · have k5 := kNm_step mth mn mp mw mu md mo y11 z1 zi pn pf 10000 1000 (1 + (1 + (1 + (1 + 0)))) (by decide) (by decide) (by decide) (by decide) (Or.inl (by omega)) k4
          by_cases c5 : zi < 100000
          · have e : kD zi = 1 + (1 + (1 + (1 + (1 + 0)))) := by unfold kD; rw [if_neg c1, if_neg c2, if_neg c3, if_neg c4, if_pos c5]; rfl
            rw [e] at hl ⊢
            rw [skip1 zi pn pf _ 100000 10000 pn pf (by decide) (by omega) (by decide)]
            rw [up1 mth mn mp mw mu md mo y11 z1 zi m1 v1 _ 1 h0.1 (by decide) (by omega), up1 mth mn mp mw mu md mo y11 z1 zi m1 v1 _ (10 * 1) h0.1 (by decide) (by omega), up1 mth mn mp mw mu md mo y11 z1 zi m1 v1 _ (10 * (10 * 1)) h0.1 (by decide) (by omega), up1 mth mn mp mw mu md mo y11 z1 zi m1 v1 _ (10 * (10 * (10 * 1))) h0.1 (by decide) (by omega), up0 mth mn mp mw mu md mo y11 z1 zi m1 v1 _ (10 * (10 * (10 * (10 * 1)))) h0.1 (by decide) (by omega)]
            exact k5 _ _ pn m1 pf v1 (by decide) (by decide) hk hl
          · have k6 := kNm_step mth mn mp mw mu md mo y11 z1 zi pn pf 100000 10000 (1 + (1 + (1 + (1 + (1 + 0))))) (by decide) (by decide) (by decide) (by decide) (Or.inl (by omega)) k5
            have e : kD zi = 1 + (1 + (1 + (1 + (1 + (1 + 0))))) := by unfold kD; rw [if_neg c1, if_neg c2, if_neg c3, if_neg c4, if_neg c5]; rfl
            rw [e] at hl ⊢
            rw [up1 mth mn mp mw mu md mo y11 z1 zi m1 v1 _ 1 h0.1 (by decide) (by omega), up1 mth mn mp mw mu md mo y11 z1 zi m1 v1 _ (10 * 1) h0.1 (by decide) (by omega), up1 mth mn mp mw mu md mo y11 z1 zi m1 v1 _ (10 * (10 * 1)) h0.1 (by decide) (by omega), up1 mth mn mp mw mu md mo y11 z1 zi m1 v1 _ (10 * (10 * (10 * 1))) h0.1 (by decide) (by omega), up1 mth mn mp mw mu md mo y11 z1 zi m1 v1 _ (10 * (10 * (10 * (10 * 1)))) h0.1 (by decide) (by omega), up0 mth mn mp mw mu md mo y11 z1 zi m1 v1 _ (10 * (10 * (10 * (10 * (10 * 1))))) h0.1 (by decide) (by omega)]
            exact k6 _ _ pn m1 pf v1 (by decide) (by decide) hk hl
end EQP3
/-- a sign and a number -/
theorem e_tell (mth mn mp mw mu md q m c zi : Int) (fa v : Int → Int) (h0 : 0 ≤ zi ∧ zi ≤ 999999) (hk : kPg q m fa v) (hl : q + (1 + kD zi) ≤ 160) : ∃ fa1 fa' v', f_XP_put q fa c = (q + 1, fa1) ∧ f_XP_putNumber (q + 1) fa1 zi = (q + (1 + kD zi), fa') ∧ f_XM_tellP mth mn mp mw mu md m v c zi = (m + (1 + kD zi), v') ∧ kPg (q + (1 + kD zi)) (m + (1 + kD zi)) fa' v' := by
  have hb := kD_b zi
  have hput : f_XP_put q fa c = (q + 1, jset fa q c) := by rw [f_XP_put_s, if_pos (by omega)]
  obtain ⟨fa', v', e1, e2, e3⟩ := e_num mth mn mp mw mu md m v c zi (q + 1) (jset fa q c) h0 (m + 1) (jset v m c) (kPg_put q m fa v c hk) (by omega)
  rw [Int.add_assoc, Int.add_comm 1 (kD zi), ← Int.add_assoc] at e1
  have a1 : q + (1 + kD zi) = q + kD zi + 1 := by omega
  have a2 : m + (1 + kD zi) = m + 1 + kD zi := by omega
  have a3 : q + 1 + kD zi = q + kD zi + 1 := by omega
  rw [a3] at e3
  rw [a1, a2]
  exact ⟨jset fa q c, fa', v', hput, e1, by rw [f_XM_tellP_s, f_XM_putP_s]; exact e2, e3⟩
theorem put_digit (q k : Int) (fa : Int → Int) (hk : 0 ≤ k ∧ k ≤ 9) : f_XP_putNumber q fa k = f_XP_put q fa (48 + k) := by
  rw [f_XP_putNumber_s, show Int.toNat (100000) + 1 = 99994 + 1 + 1 + 1 + 1 + 1 + 1 + 1 by decide]
  rw [skip1 k q fa _ 100000 10000 q fa (by decide) (by omega) (by decide), skip1 k q fa _ 10000 1000 q fa (by decide) (by omega) (by decide), skip1 k q fa _ 1000 100 q fa (by decide) (by omega) (by decide), skip1 k q fa _ 100 10 q fa (by decide) (by omega) (by decide), skip1 k q fa _ 10 1 q fa (by decide) (by omega) (by decide)]
  have e1 : Int.tdiv k 1 = k := by rw [Int.tdiv_eq_ediv_of_nonneg hk.1]; omega
  have e2 : Int.tmod k 10 = k := by rw [Int.tmod_eq_emod_of_nonneg hk.1]; omega
  rw [f_XP_putNumber_L3_s, if_pos (show (0 : Int) < 1 by decide), e1, e2]
  have e3 : ∀ p : Int × (Int → Int), (match p with | (a, b) => f_XP_putNumber_L3 q fa k (99994 + 1) (Int.tdiv 1 10) a b) = p := by
    intro p
    obtain ⟨a, b⟩ := p
    dsimp only
    rw [f_XP_putNumber_L3_s, if_neg (show ¬ (0 : Int) < Int.tdiv 1 10 by decide)]
  by_cases c : k < 1
  · rw [if_pos c, if_pos (rfl : (1 : Int) = 1)]; exact e3 _
  · rw [if_neg c]; exact e3 _
