/-! bits of the class's sets -/
theorem q_hasBit0' (k : Int) : f_XG_hasBit 0 k = 0 := by
  have h1 := jand_nn 0 (jpow k)
  have h2 := jand_le (Int.le_refl 0) (jpow k)
  rw [f_XG_hasBit_s, if_pos (by omega)]
theorem hb_and (x i : Nat) : (x &&& 2 ^ i = 0) ↔ x.testBit i = false := by
  constructor
  · intro h
    have h2 := congrArg (fun y => y.testBit i) h
    try dsimp only at h2
    rw [Nat.testBit_and, Nat.testBit_two_pow, Nat.zero_testBit] at h2
    simpa using h2
  · intro h
    apply Nat.eq_of_testBit_eq
    intro j
    rw [Nat.testBit_and, Nat.testBit_two_pow, Nat.zero_testBit]
    by_cases g : i = j
    · subst g; simp [h]
    · simp [g]
theorem hb_eq (a k : Int) (hk : 0 ≤ k) : f_XG_hasBit a k = if a.toNat.testBit k.toNat then 1 else 0 := by
  rw [f_XG_hasBit_s]
  have h1 : jand a (jpow k) = ((a.toNat &&& 2 ^ k.toNat : Nat) : Int) := by
    unfold jand jpow
    rw [Int.toNat_natCast]
  have h2 := hb_and a.toNat k.toNat
  rw [h1]
  by_cases g : a.toNat.testBit k.toNat = true
  · rw [if_pos g, if_neg]
    intro h
    have h3 : a.toNat &&& 2 ^ k.toNat = 0 := by omega
    rw [h2.mp h3] at g
    exact absurd g (by decide)
  · rw [if_neg g, if_pos]
    have h3 := h2.mpr (by simpa using g)
    rw [h3]; rfl
theorem hb_or (a k j : Int) (hk : 0 ≤ k) (hj : 0 ≤ j) : f_XG_hasBit (jor a (jpow k)) j = if j = k then 1 else f_XG_hasBit a j := by
  rw [hb_eq _ j hj, hb_eq a j hj]
  have h1 : (jor a (jpow k)).toNat = a.toNat ||| 2 ^ k.toNat := by
    unfold jor jpow
    rw [Int.toNat_natCast, Int.toNat_natCast]
  rw [h1, Nat.testBit_or, Nat.testBit_two_pow]
  by_cases g : j = k
  · subst g; simp
  · have : ¬ k.toNat = j.toNat := by omega
    simp [g, this]
/-! a formula's row -/
def eFm (bf : Int) (fd y8 y9 : Int → Int) : Prop := (0 ≤ bf ∧ bf < 2147483648) ∧ (∀ k, 0 ≤ k → k ≤ 3 → f_XG_hasBit bf k = y8 (4 + k)) ∧ eD fd y9 ∧ (∀ k x, 0 ≤ k → k ≤ 3 → 0 ≤ x → x ≤ 7 → 0 ≤ fd (k * 8 + x)) ∧ (∀ k x, 0 ≤ k → k ≤ 3 → 0 ≤ x → x ≤ 7 → f_XG_hasBit bf k = 0 → fd (k * 8 + x) = 0)
section EQ7
variable (mth mn mp mw mu md mo : Int) (tf : Int → Int) (y8 y9 : Int → Int)
theorem e_J35W (r p1 w1 : Int) (hw : 0 ≤ w1) : 0 ≤ (f_XM_formulaP_J35 mth mn mp mw mu md mo tf y8 y9 r p1 w1).2.1 := by
  rw [f_XM_formulaP_J35_s, e_takeW mth mn p1 w1 mu md mo tf 61 hw]
  dsimp only
  rw [if_neg (by omega), f_XM_formulaP_J55_s, e_L56end]
  exact e_FendW mth mn mu md mo tf y8 r w1 p1 _ hw
set_option maxHeartbeats 1000000 in
theorem e_formula (hw : mw < 0) (hmn : 0 ≤ mn ∧ mn ≤ 400) (hmp : 0 ≤ mp ∧ mp ≤ mn) (hf : ∀ i, 0 ≤ tf i ∧ tf i ≤ 255) (tw bg bf : Int) (fd : Int → Int) (hF : eFm bf fd y8 y9) :
    ∀ C, C = f_XR_formula mn mp tw tf bg bf fd → ∀ M, M = f_XM_formulaP mth mn mp mw mu md mo tf y8 y9 →
    (C.1 = 1 ∧ (f_XT_take mn C.2.1 C.2.2.1 tf 59).1 = 1 ∧ mp ≤ C.2.1 ∧ C.2.1 ≤ mn ∧ M.1 = (f_XT_take mn C.2.1 C.2.2.1 tf 59).2.1 ∧ M.2.1 = mw ∧ eFm C.2.2.2.2 C.2.2.2.1 M.2.2.1 M.2.2.2) ∨ ((C.1 = 0 ∨ (C.1 = 1 ∧ (f_XT_take mn C.2.1 C.2.2.1 tf 59).1 = 0)) ∧ 0 ≤ M.2.1) := by
  intro C hC M hM
  obtain ⟨f1, f2, f3, f4, f5⟩ := hF
  rw [f_XR_formula_s] at hC
  rw [f_XM_formulaP_s] at hM
  have eK := e_kind mth mn mp mw mu md mo tw tf hw hmn hmp hf
  have oM := e_oneM mn mp tw tf hmn hmp hf 48 4 (by decide)
  generalize f_XT_takeOneOf mn mp tw tf 48 4 = c1 at hC eK oM
  obtain ⟨r, p1, t1⟩ := c1
  generalize f_XM_numberP mth mn mp mw mu md mo tf 0 3 = m1 at hM eK
  obtain ⟨s1, q1, v1⟩ := m1
  dsimp only at hC hM eK oM
  have lostM : 0 ≤ v1 → 0 ≤ M.2.1 := by
    intro h
    rw [if_neg (by omega)] at hM
    rw [hM]
    exact e_J35W mth mn mp mw mu md mo tf y8 y9 s1 q1 v1 h
  rcases eK with ⟨a1, a2⟩ | ⟨a1, a2, a3⟩ | ⟨a1, a2, a3, a4⟩
  · right
    rw [if_pos a1] at hC
    exact ⟨Or.inl (by rw [hC]), lostM a2⟩
  · cases a3
    have hne : ¬ r = -1 := by omega
    have o2 := oM.2.2 hne
    have hr := f2 r a1 a2
    rw [if_neg hne, f_XB_hasFormula_s] at hC
    rw [if_pos hw] at hM
    by_cases g : f_XG_hasBit bf r = 0
    · rw [if_pos g] at hC
      rw [if_pos (by omega), f_XM_formulaP_J35_s] at hM
      have eT := e_take mth mn p1 mw mu md mo t1 tf 61 hw (by omega)
      have tM := e_takeM mn p1 t1 tf hmn ⟨by omega, by omega⟩ hf 61 (by decide)
      generalize f_XT_take mn p1 t1 tf 61 = c2 at hC eT tM
      obtain ⟨r4, p2, t2⟩ := c2
      generalize f_XM_takeP mth mn p1 mw mu md mo tf 61 = m2 at hM eT
      obtain ⟨q2, v2⟩ := m2
      dsimp only at hC hM eT tM
      rcases eT with ⟨b1, b2, b3⟩ | ⟨b1, b3⟩
      · cases b3
        rw [if_neg (by omega)] at hC
        rw [if_pos hw, f_XM_formulaP_J55_s] at hM
        rw [f_XR_terms_s] at hC
        have hz : ∀ x, 0 ≤ x → x ≤ 7 → fd (r * 8 + x) = 0 := fun x x1 x2 => f5 r x a1 a2 x1 x2 g
        have hcnt : (0 : Int) = ecnt fd r := by
          unfold ecnt
          rw [hz 0 (by decide) (by decide), hz 1 (by decide) (by decide), hz 2 (by decide) (by decide), hz 3 (by decide) (by decide), hz 4 (by decide) (by decide), hz 5 (by decide) (by decide), hz 6 (by decide) (by decide), hz 7 (by decide) (by decide)]
          rfl
        have T := e_terms mth mn mp mw mu md mo tf mw y8 y9 hw hmn hf p2 t2 bg (f_XB_tellFormula bg bf r) fd r ⟨a1, a2⟩ (Int.toNat (9 - 0) + 1) (Int.toNat (mn - p2) + 1) 0 p2 t2 0 fd y9 (by decide) (by omega) (by omega) (by omega) hcnt (fun x x1 x2 => by rw [mbit_zero x ⟨x1, x2⟩, hz x x1 x2]; constructor <;> intro h <;> omega) (fun x x1 x2 => by rw [hz x x1 x2]; decide) f3 _ rfl M hM
        generalize f_XR_terms_L2 mn p2 t2 tf bg (f_XB_tellFormula bg bf r) fd r (Int.toNat (9 - 0) + 1) 0 p2 t2 fd = c3 at hC T
        obtain ⟨r11, p3, t3, fd1⟩ := c3
        dsimp only at hC T
        rcases T with ⟨d1, d2, d3, d4, d5, d6, w9', d7, d8⟩ | ⟨d1, d2⟩
        · rw [if_neg (by omega)] at hC
          subst hC
          dsimp only
          unfold eFend at d8
          have eT2 := e_take mth mn p3 mw mu md mo t3 tf 59 hw d3
          rcases eT2 with ⟨g1, g2, g3⟩ | ⟨g1, g3⟩
          · rw [g3] at d8
            dsimp only at d8
            rw [if_pos hw] at d8
            subst d8
            left
            refine ⟨rfl, g1, by omega, d3, rfl, rfl, ?_⟩
            rw [f_XB_tellFormula_s]
            have hbit : ∀ k, 0 ≤ k → k ≤ 3 → f_XG_hasBit (jor bf (jpow r)) k = if k = r then 1 else f_XG_hasBit bf k := fun k k1 _ => hb_or bf r k a1 k1
            refine ⟨⟨jor_nn _ _, jor_lt f1.2 (jpow_lt (by omega))⟩, ?_, d7, ?_, ?_⟩
            · intro k k1 k2
              rw [hbit k k1 k2]
              dsimp only
              unfold jset
              by_cases e1 : k = r
              · rw [if_pos e1, if_pos (by omega)]
              · rw [if_neg e1, if_neg (by omega)]; exact f2 k k1 k2
            · intro k x k1 k2 x1 x2
              by_cases e1 : k = r
              · rw [e1]; exact d5 x x1 x2
              · rw [d6 k x k1 k2 e1 x1 x2]; exact f4 k x k1 k2 x1 x2
            · intro k x k1 k2 x1 x2 h
              rw [hbit k k1 k2] at h
              by_cases e1 : k = r
              · rw [if_pos e1] at h; exact absurd h (by decide)
              · rw [if_neg e1] at h
                rw [d6 k x k1 k2 e1 x1 x2]; exact f5 k x k1 k2 x1 x2 h
          · rw [g3] at d8
            dsimp only at d8
            have tM2 := e_takeM mn p3 t3 tf hmn ⟨d2, d3⟩ hf 59 (by decide)
            rw [if_neg (by omega)] at d8
            right
            exact ⟨Or.inr ⟨rfl, g1⟩, by rw [d8]; dsimp only; omega⟩
        · rw [if_pos d1] at hC
          right
          exact ⟨Or.inl (by rw [hC]), d2⟩
      · cases b3
        rw [if_pos b1] at hC
        right
        refine ⟨Or.inl (by rw [hC]), ?_⟩
        rw [if_neg (by omega), f_XM_formulaP_J55_s, e_L56end] at hM
        rw [hM]
        exact e_FendW mth mn mu md mo tf y8 r p2 p2 _ (by omega)
    · rw [if_neg g, f_XT_refuseLast_s] at hC
      right
      refine ⟨Or.inl (by rw [hC]), ?_⟩
      rw [if_neg (by omega), e_fail _ _ _ _ _ _ _ _ hw] at hM
      rw [hM]
      exact e_J35W mth mn mp mw mu md mo tf y8 y9 r p1 (p1 - 1) (by omega)
  · right
    have hne : ¬ r = -1 := by omega
    have o2 := oM.2.2 hne
    refine ⟨Or.inl ?_, lostM a3⟩
    rw [if_neg hne] at hC
    by_cases g : f_XB_hasFormula bg bf r = 0
    · have g2 := a4.2
      have hT : f_XT_take mn p1 t1 tf 61 = (0, p1, p1) := by
        rw [f_XT_take_s, e_digNext mn p1 t1 tf a4 (by omega)]
        dsimp only
        rw [if_neg (show ¬ tf p1 = 61 by omega), f_XT_refuse_s]
      rw [if_pos g, hT] at hC
      dsimp only at hC
      rw [if_pos rfl] at hC
      rw [hC]
    · rw [if_neg g, f_XT_refuseLast_s] at hC
      rw [hC]
end EQ7
