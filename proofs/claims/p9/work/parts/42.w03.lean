/-! rings: the class beside the reference -/
def eF (ft : Int → Int) (k : Int) : Int := if 0 < k then ft k else 0
theorem eF_b (ft : Int → Int) (hb : ∀ i, 0 ≤ ft i ∧ ft i ≤ 30) (k : Int) : 0 ≤ eF ft k ∧ eF ft k ≤ 30 := by
  unfold eF
  have := hb k
  split <;> omega
theorem jit_b (ft : Int → Int) (hb : ∀ i, 0 ≤ ft i ∧ ft i ≤ 30) : ∀ (n : Nat) (k : Int), 0 ≤ k → k ≤ 30 → 0 ≤ jit (eF ft) n k ∧ jit (eF ft) n k ≤ 30 := by
  intro n
  induction n with
  | zero => intro k h1 h2; exact ⟨h1, h2⟩
  | succ n ih => intro k h1 h2; have := eF_b ft hb k; exact ih (eF ft k) this.1 this.2
theorem jit_add (F : Int → Int) : ∀ (a b : Nat) (k : Int), jit F (a + b) k = jit F a (jit F b k) := by
  intro a b
  induction b with
  | zero => intro k; rfl
  | succ b ih => intro k; exact ih (F k)
theorem jit_zero (ft : Int → Int) : ∀ (n : Nat), jit (eF ft) n 0 = 0 := by
  intro n
  induction n with
  | zero => rfl
  | succ n ih => show jit (eF ft) n (eF ft 0) = 0; unfold eF; rw [if_neg (by decide)]; exact ih
theorem e_onL (bg bf : Int) (ft : Int → Int) (hb : ∀ i, 0 ≤ ft i ∧ ft i ≤ 30) (zg : Int) (hz : 1 ≤ zg ∧ zg ≤ 30) : ∀ (n : Nat) (v k : Int), 30 - k < (n : Int) → 0 ≤ k → k ≤ 30 → 0 ≤ v → v ≤ 30 → (f_XB_onRing_L9 bg bf ft zg n v k = 1 ∧ ∃ j : Nat, (j : Int) < 30 - k ∧ jit (eF ft) j v = zg) ∨ (f_XB_onRing_L9 bg bf ft zg n v k = 0 ∧ ∀ j : Nat, (j : Int) < 30 - k → jit (eF ft) j v ≠ zg) := by
  intro n
  induction n with
  | zero => intro v k h1 h2 h3; omega
  | succ n ih =>
    intro v k h1 h2 h3 h4 h5
    rw [f_XB_onRing_L9_s]
    by_cases a : k < 30
    · rw [if_pos a]
      by_cases b : 0 < v
      · rw [if_pos b]
        by_cases d : v = zg
        · rw [if_pos d]
          exact Or.inl ⟨rfl, 0, by omega, d⟩
        · rw [if_neg d]
          have hv := hb v
          have hE : eF ft v = ft v := by unfold eF; rw [if_pos b]
          rcases ih (ft v) (k + 1) (by omega) (by omega) (by omega) (by omega) (by omega) with ⟨i1, j, i2, i3⟩ | ⟨i1, i2⟩
          · left
            refine ⟨i1, j + 1, by omega, ?_⟩
            show jit (eF ft) j (eF ft v) = zg
            rw [hE]; exact i3
          · right
            refine ⟨i1, fun j hj => ?_⟩
            cases j with
            | zero => exact d
            | succ j =>
              show jit (eF ft) j (eF ft v) ≠ zg
              rw [hE]; exact i2 j (by omega)
      · rw [if_neg b]
        right
        refine ⟨rfl, fun j _ => ?_⟩
        rw [show v = 0 by omega, jit_zero]
        omega
    · rw [if_neg a]
      right
      exact ⟨rfl, fun j hj => by omega⟩
theorem e_on (bg bf : Int) (ft : Int → Int) (hb : ∀ i, 0 ≤ ft i ∧ ft i ≤ 30) (zg : Int) (hz : 1 ≤ zg ∧ zg ≤ 30) : (f_XB_onRing bg bf ft zg = 1 ∧ ∃ d : Nat, 1 ≤ d ∧ d ≤ 30 ∧ jit (eF ft) d zg = zg) ∨ (f_XB_onRing bg bf ft zg = 0 ∧ ∀ d : Nat, 1 ≤ d → d ≤ 30 → jit (eF ft) d zg ≠ zg) := by
  rw [f_XB_onRing_s]
  have hv := hb zg
  have hE : eF ft zg = ft zg := by unfold eF; rw [if_pos (by omega)]
  rcases e_onL bg bf ft hb zg hz (Int.toNat (30 - 0) + 1) (ft zg) 0 (by decide) (by decide) (by decide) hv.1 hv.2 with ⟨i1, j, i2, i3⟩ | ⟨i1, i2⟩
  · left
    refine ⟨i1, j + 1, by omega, by omega, ?_⟩
    show jit (eF ft) j (eF ft zg) = zg
    rw [hE]; exact i3
  · right
    refine ⟨i1, fun d h1 h2 => ?_⟩
    cases d with
    | zero => omega
    | succ d =>
      show jit (eF ft) d (eF ft zg) ≠ zg
      rw [hE]; exact i2 d (by omega)
section EQW3
variable (mth mn mp mw mu md mo : Int) (y1 y2 : Int → Int)
theorem e_isRing0 (z1 : Int) : ∀ (n : Nat) (k i9 : Int), 31 - i9 < (n : Int) → 0 ≤ i9 → i9 ≤ 31 → (∀ d : Nat, 1 ≤ d → i9 + d ≤ 31 → jit (jsg mth mn mp mw mu md mo y1 y2) d k ≠ z1) → f_XM_isRing_L4 mth mn mp mw mu md mo y1 y2 z1 n k i9 = 0 := by
  intro n
  induction n with
  | zero => intro k i9 h1 h2 h3; omega
  | succ n ih =>
    intro k i9 h1 h2 h3 h4
    rw [f_XM_isRing_L4_s]
    by_cases a : i9 < 31
    · rw [if_pos a]
      have go : ∀ v : Int, v = jsg mth mn mp mw mu md mo y1 y2 k → f_XM_isRing_L4 mth mn mp mw mu md mo y1 y2 z1 n v (i9 + 1) = 0 := by
        intro v hv
        refine ih v (i9 + 1) (by omega) (by omega) (by omega) (fun d d1 d2 => ?_)
        have := h4 (d + 1) (by omega) (by omega)
        rw [hv]
        exact this
      have h1' := h4 1 (by omega) (by omega)
      have h1'' : jsg mth mn mp mw mu md mo y1 y2 k ≠ z1 := h1'
      by_cases ht : (f_XM_isTold mth mn mp mw mu md mo y1 k) = 0
      · have e1 : jsg mth mn mp mw mu md mo y1 y2 k = 0 := by unfold jsg; rw [if_pos ht]
        rw [if_pos ht, if_neg (show ¬ (0 : Int) = z1 by rw [← e1]; exact h1'')]
        exact go 0 e1.symm
      · have e1 : jsg mth mn mp mw mu md mo y1 y2 k = y2 k := by unfold jsg; rw [if_neg ht]
        rw [if_neg ht, if_neg (show ¬ y2 k = z1 by rw [← e1]; exact h1'')]
        exact go (y2 k) e1.symm
    · rw [if_neg a]
theorem e_sg (bg : Int) (ft : Int → Int) (hy1 : ∀ i, 0 ≤ y1 i ∧ y1 i ≤ 1) (hG : ∀ g, 1 ≤ g → g ≤ 30 → f_XG_hasBit bg g = y1 g) (hT : ∀ g, 1 ≤ g → g ≤ 30 → ft g = y2 g) (hU : ∀ g, 1 ≤ g → g ≤ 30 → f_XG_hasBit bg g = 0 → ft g = 0) (k : Int) (hk : 0 ≤ k ∧ k ≤ 30) : jsg mth mn mp mw mu md mo y1 y2 k = eF ft k := by
  have hb := f_XM_isTold_b mth mn mp mw mu md mo y1 k hy1 (by omega)
  have h01 := hy1 k
  unfold jsg eF
  by_cases a : 0 < k
  · have g1 := hG k (by omega) hk.2
    have g2 := hT k (by omega) hk.2
    have g3 := hU k (by omega) hk.2
    rw [if_pos a]
    by_cases b : (f_XM_isTold mth mn mp mw mu md mo y1 k) = 0
    · rw [if_pos b]; exact (g3 (by omega)).symm
    · rw [if_neg b, g2]
  · rw [if_neg a, if_pos (by omega)]
/-- what both call a ring -/
theorem e_ringEq (bg bf : Int) (ft : Int → Int) (hft : ∀ i, 0 ≤ ft i ∧ ft i ≤ 30) (hy1 : ∀ i, 0 ≤ y1 i ∧ y1 i ≤ 1) (hG : ∀ g, 1 ≤ g → g ≤ 30 → f_XG_hasBit bg g = y1 g) (hT : ∀ g, 1 ≤ g → g ≤ 30 → ft g = y2 g) (hU : ∀ g, 1 ≤ g → g ≤ 30 → f_XG_hasBit bg g = 0 → ft g = 0) (zg : Int) (hz : 1 ≤ zg ∧ zg ≤ 30) : f_XB_onRing bg bf ft zg = f_XM_isRing mth mn mp mw mu md mo y1 y2 zg := by
  have hit : ∀ d : Nat, jit (jsg mth mn mp mw mu md mo y1 y2) d zg = jit (eF ft) d zg := by
    intro d
    induction d with
    | zero => rfl
    | succ d ih =>
      rw [jit_succ, jit_succ, ih]
      have := jit_b ft hft d zg (by omega) hz.2
      exact e_sg mth mn mp mw mu md mo y1 y2 bg ft hy1 hG hT hU _ this
  rcases e_on bg bf ft hft zg hz with ⟨h1, d, d1, d2, d3⟩ | ⟨h1, h2⟩
  · rw [h1, f_XM_isRing_1 mth mn mp mw mu md mo y1 y2 zg d d1 (by omega) ((hit d).trans d3)]
  · rw [h1, f_XM_isRing_s]
    symm
    refine e_isRing0 mth mn mp mw mu md mo y1 y2 zg _ zg 0 (by decide) (by decide) (by decide) (fun d e1 e2 h => ?_)
    rw [hit d] at h
    by_cases g : d ≤ 30
    · exact h2 d e1 g h
    · have hd : d = 31 := by omega
      subst hd
      have hpos : ∀ n, n ≤ 31 → 1 ≤ jit (eF ft) n zg := by
        intro n hn
        have hb := jit_b ft hft n zg (by omega) hz.2
        by_cases g0 : jit (eF ft) n zg = 0
        · have e9 := jit_add (eF ft) (31 - n) n zg
          rw [show 31 - n + n = 31 by omega, h, g0, jit_zero] at e9
          omega
        · omega
      obtain ⟨i, c, c1, c2, c3, c4⟩ := jback (fun n => jit (eF ft) n zg) (fun n _ hn => ⟨hpos n hn, (jit_b ft hft n zg (by omega) hz.2).2⟩)
      have c4 : jit (eF ft) (i + c) zg = jit (eF ft) i zg := c4
      have e8 : jit (eF ft) (31 - c) zg = zg := by
        have p1 := jit_add (eF ft) (31 - i - c) (i + c) zg
        have p2 := jit_add (eF ft) (31 - i - c) i zg
        rw [show 31 - i - c + (i + c) = 31 by omega, h, c4, ← p2, show 31 - i - c + i = 31 - c by omega] at p1
        exact p1.symm
      exact h2 (31 - c) (by omega) (by omega) e8
end EQW3
