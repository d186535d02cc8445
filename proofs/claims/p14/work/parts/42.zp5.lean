theorem mbit_hb' (a x : Int) (ha : 0 ≤ a ∧ a < 2147483648) (hx : 0 ≤ x ∧ x ≤ 7) : (jI ((jI a >>> (jI x &&& 31)).toInt) &&& jI 1).toInt = f_XG_hasBit a x := mbit_hb a x ha hx
/-! write's and at's answers -/
theorem put_e (mth mn mp mw mu md q m c : Int) (fa v : Int → Int) (hk : kPg q m fa v) (hl : q < 160) : ∃ fa' v', f_XP_put q fa c = (q + 1, fa') ∧ f_XM_putP mth mn mp mw mu md m v c = (m + 1, v') ∧ kPg (q + 1) (m + 1) fa' v' :=
  ⟨jset fa q c, jset v m c, by rw [f_XP_put_s, if_pos hl], by rw [f_XM_putP_s], kPg_put q m fa v c hk⟩
section EQP5
variable (mth mn mp mw mu md mo : Int) (bg bf : Int) (ft fl fh fq fr y1 y2 y3 y4 y5 y6 y7 y11 : Int → Int) (z1 m1 pn : Int) (pf : Int → Int)
/-- what both end with, once both have put their ';' -/
def kEnd (C : Int × (Int → Int)) (M : Int × Int × Int × (Int → Int)) : Prop := ∃ m v, kPg C.1 m C.2 v ∧ C.1 ≤ 160 ∧ M = (m, m1, m, v)
theorem e_wLim (hq : ∀ x, 0 ≤ x → x ≤ 3 → fq (z1 * 4 + x) = y7 (4 * z1 + x)) (hy7 : ∀ i, -1 ≤ y7 i ∧ y7 i ≤ 999999) : ∀ (n n' : Nat) (k q m : Int) (fa v : Int → Int), 4 - k < (n : Int) → 4 - k < (n' : Int) → 0 ≤ k → k ≤ 4 → kPg q m fa v → q ≤ 123 + 9 * k →
    kEnd m1 (match f_XB_printLimits_L2 bg bf fq z1 pn pf n k q fa with | (a, b) => match f_XP_put a b 59 with | (c, d) => (c, d)) (f_XM_writeP_L168 mth mn mp mw mu md mo y1 y2 y3 y4 y5 y6 y7 y11 z1 m1 n' k m v) := by
  intro n
  induction n with
  | zero => intro n' k q m fa v h; omega
  | succ n ih =>
    intro n' k q m fa v h1 h2 h3 h4 h5 h6
    cases n' with
    | zero => omega
    | succ n' =>
      rw [f_XB_printLimits_L2_s, f_XM_writeP_L168_s]
      by_cases a : k < 4
      · rw [if_pos a, if_pos a, f_XB_tellsLimit_s, hq k h3 (by omega)]
        have hb := hy7 (4 * z1 + k)
        by_cases b : y7 (4 * z1 + k) = -1
        · rw [if_pos b, if_pos (rfl : (0 : Int) = 0), if_pos (show y7 (4 * z1 + k) < 0 by omega)]
          exact ih n' (k + 1) q m fa v (by omega) (by omega) (by omega) (by omega) h5 (by omega)
        · have kb := kD_b k
          have kc := kD_b (y7 (4 * z1 + k))
          rw [if_neg b, if_neg (show ¬ (1 : Int) = 0 by decide), if_neg (show ¬ y7 (4 * z1 + k) < 0 by omega)]
          obtain ⟨fa1, fa2, v2, e1, e2, e3, e4⟩ := e_tell m1 mn mp mw mu md q m 113 k fa v ⟨h3, by omega⟩ h5 (by omega)
          obtain ⟨fa3, fa4, v4, g1, g2, g3, g4⟩ := e_tell m1 mn mp mw mu md (q + (1 + kD k)) (m + (1 + kD k)) 60 (y7 (4 * z1 + k)) fa2 v2 ⟨by omega, by omega⟩ e4 (by omega)
          rw [put_digit _ k _ ⟨h3, by omega⟩] at e2
          rw [e1]; dsimp only
          rw [e2]; dsimp only
          rw [g1]; dsimp only
          rw [g2]; dsimp only
          rw [e3]; dsimp only
          rw [g3]; dsimp only
          exact ih n' (k + 1) _ _ fa4 v4 (by omega) (by omega) (by omega) (by omega) g4 (by omega)
      · rw [if_neg a, if_neg a]
        dsimp only
        obtain ⟨fa', v', e1, e2, e3⟩ := put_e m1 mn mp mw mu md q m 59 fa v h5 (by omega)
        rw [e1, e2]
        dsimp only
        exact ⟨m + 1, v', e3, by dsimp only; omega, rfl⟩
theorem e_wRou (hq : ∀ x, 0 ≤ x → x ≤ 3 → fq (z1 * 4 + x) = y7 (4 * z1 + x)) (hy7 : ∀ i, -1 ≤ y7 i ∧ y7 i ≤ 999999) (hr : fr z1 = y6 z1) (hb : 0 ≤ fr z1 ∧ fr z1 < 2147483648) : ∀ (j n n' : Nat) (k q m : Int) (fa v : Int → Int), (j : Int) = 8 - k → (j : Int) < (n : Int) → (j : Int) < (n' : Int) → 0 ≤ k → kPg q m fa v → q + kC (fr z1) j ≤ 123 →
    kEnd m1 (match f_XB_printRoutes_L18 bg bf fr z1 pn pf n k q fa with | (a, b) => match f_XB_printLimits bg bf fq z1 a b with | (a, b) => match f_XP_put a b 59 with | (c, d) => (c, d)) (f_XM_writeP_L132 mth mn mp mw mu md mo y1 y2 y3 y4 y5 y6 y7 y11 z1 m1 n' k m v) := by
  intro j
  induction j with
  | zero =>
    intro n n' k q m fa v hj h1 h2 h3 h5 h6
    cases n with
    | zero => omega
    | succ n =>
      cases n' with
      | zero => omega
      | succ n' =>
        have z : kC (fr z1) 0 = 0 := rfl
        rw [f_XB_printRoutes_L18_s, f_XM_writeP_L132_s, if_neg (show ¬ k < 8 by omega), if_neg (show ¬ k < 8 by omega)]
        dsimp only
        rw [f_XB_printLimits_s]
        exact e_wLim mth mn mp mw mu md mo bg bf fq y1 y2 y3 y4 y5 y6 y7 y11 z1 m1 q fa hq hy7 _ _ 0 q m fa v (by decide) (by decide) (by decide) (by decide) h5 (by omega)
  | succ j ih =>
    intro n n' k q m fa v hj h1 h2 h3 h5 h6
    cases n with
    | zero => omega
    | succ n =>
      cases n' with
      | zero => omega
      | succ n' =>
        have hz : kC (fr z1) (j + 1) = f_XG_hasBit (fr z1) (7 - (j : Int)) + kC (fr z1) j := rfl
        rw [show 7 - (j : Int) = k by omega] at hz
        rw [f_XB_printRoutes_L18_s, f_XM_writeP_L132_s, if_pos (show k < 8 by omega), if_pos (show k < 8 by omega), ← hr, mbit_hb' (fr z1) k hb ⟨h3, by omega⟩]
        rcases hb_01 (fr z1) k with c | c
        · rw [c, if_pos (rfl : (0 : Int) = 0), if_neg (show ¬ (0 : Int) = 1 by decide)]
          exact ih n n' (k + 1) q m fa v (by omega) (by omega) (by omega) (by omega) h5 (by omega)
        · have hC := kC_nn (fr z1) j
          rw [c, if_neg (show ¬ (1 : Int) = 0 by decide), if_pos (rfl : (1 : Int) = 1)]
          obtain ⟨fa', v', e1, e2, e3⟩ := put_e m1 mn mp mw mu md q m (48 + k) fa v h5 (by omega)
          rw [e1, e2]
          dsimp only
          exact ih n n' (k + 1) (q + 1) (m + 1) fa' v' (by omega) (by omega) (by omega) (by omega) e3 (by omega)
theorem e_wSpa (hs : ∀ x, 0 ≤ x → x ≤ 7 → (fh (z1 * 8 + x) = -1 ∧ y3 (8 * z1 + x) = 0) ∨ (0 ≤ fh (z1 * 8 + x) ∧ y3 (8 * z1 + x) = 1 ∧ fl (z1 * 8 + x) = y4 (8 * z1 + x) ∧ fh (z1 * 8 + x) = y5 (8 * z1 + x))) (hy4 : ∀ i, 0 ≤ y4 i ∧ y4 i ≤ 100000) (hy5 : ∀ i, 0 ≤ y5 i ∧ y5 i ≤ 100000) (hq : ∀ x, 0 ≤ x → x ≤ 3 → fq (z1 * 4 + x) = y7 (4 * z1 + x)) (hy7 : ∀ i, -1 ≤ y7 i ∧ y7 i ≤ 999999) (hr : fr z1 = y6 z1) (hb : 0 ≤ fr z1 ∧ fr z1 < 2147483648) (hC : kC (fr z1) 8 ≤ 4) : ∀ (n n' : Nat) (k q m : Int) (fa v : Int → Int), 8 - k < (n : Int) → 8 - k < (n' : Int) → 0 ≤ k → k ≤ 8 → kPg q m fa v → q ≤ 6 + 14 * k →
    kEnd m1 (match f_XB_printSpans_L2 bg bf fl fh z1 pn pf n k q fa with | (a, b) => match f_XB_printRoutes bg bf fr z1 a b with | (a, b) => match f_XB_printLimits bg bf fq z1 a b with | (a, b) => match f_XP_put a b 59 with | (c, d) => (c, d)) (f_XM_writeP_L50 mth mn mp mw mu md mo y1 y2 y3 y4 y5 y6 y7 y11 z1 m1 n' k m v) := by
  intro n
  induction n with
  | zero => intro n' k q m fa v h; omega
  | succ n ih =>
    intro n' k q m fa v h1 h2 h3 h4 h5 h6
    cases n' with
    | zero => omega
    | succ n' =>
      rw [f_XB_printSpans_L2_s, f_XM_writeP_L50_s]
      by_cases a : k < 8
      · rw [if_pos a, if_pos a, f_XB_tellsSpan_s]
        rcases hs k h3 (by omega) with ⟨s1, s2⟩ | ⟨s1, s2, s3, s4⟩
        · rw [if_pos s1, if_pos (rfl : (0 : Int) = 0), if_pos s2]
          exact ih n' (k + 1) q m fa v (by omega) (by omega) (by omega) (by omega) h5 (by omega)
        · have b4 := hy4 (8 * z1 + k)
          have b5 := hy5 (8 * z1 + k)
          have kb := kD_b (y4 (8 * z1 + k))
          have kc := kD_b (y5 (8 * z1 + k))
          rw [if_neg (show ¬ fh (z1 * 8 + k) = -1 by omega), if_neg (show ¬ (1 : Int) = 0 by decide), if_neg (show ¬ y3 (8 * z1 + k) = 0 by omega), s3, s4]
          obtain ⟨fa1, fa2, v2, e1, e2, e3, e4⟩ := e_tell m1 mn mp mw mu md q m (65 + k) (y4 (8 * z1 + k)) fa v ⟨by omega, by omega⟩ h5 (by omega)
          obtain ⟨fa3, fa4, v4, g1, g2, g3, g4⟩ := e_tell m1 mn mp mw mu md (q + (1 + kD (y4 (8 * z1 + k)))) (m + (1 + kD (y4 (8 * z1 + k)))) 45 (y5 (8 * z1 + k)) fa2 v2 ⟨by omega, by omega⟩ e4 (by omega)
          rw [e1]; dsimp only
          rw [e2]; dsimp only
          rw [g1]; dsimp only
          rw [g2]; dsimp only
          rw [e3]; dsimp only
          rw [g3]; dsimp only
          exact ih n' (k + 1) _ _ fa4 v4 (by omega) (by omega) (by omega) (by omega) g4 (by omega)
      · rw [if_neg a, if_neg a]
        dsimp only
        rw [f_XB_printRoutes_s]
        by_cases b : fr z1 = 0
        · rw [if_pos b, if_neg (show ¬ 0 < y6 z1 by omega), f_XM_writeP_J130_s]
          dsimp only
          have hz : ∀ (j n n' : Nat) (k : Int) (fa v : Int → Int), (j : Int) = 8 - k → (j : Int) < (n' : Int) → 0 ≤ k → f_XM_writeP_L132 mth mn mp mw mu md mo y1 y2 y3 y4 y5 y6 y7 y11 z1 m1 n' k m v = f_XM_writeP_L168 mth mn mp mw mu md mo y1 y2 y3 y4 y5 y6 y7 y11 z1 m1 (Int.toNat (4 - 0) + 1) 0 m v := by
            intro j
            induction j with
            | zero =>
              intro n n' k fa v e1 e2 e3
              cases n' with
              | zero => omega
              | succ n' => rw [f_XM_writeP_L132_s, if_neg (show ¬ k < 8 by omega)]
            | succ j ih2 =>
              intro n n' k fa v e1 e2 e3
              cases n' with
              | zero => omega
              | succ n' =>
                rw [f_XM_writeP_L132_s, if_pos (show k < 8 by omega), ← hr, mbit_hb' (fr z1) k hb ⟨e3, by omega⟩, b, q_hasBit0', if_neg (show ¬ (0 : Int) = 1 by decide)]
                exact ih2 n n' (k + 1) fa v (by omega) (by omega) (by omega)
          rw [hz 8 0 _ 0 fa v (by decide) (by decide) (by decide), f_XB_printLimits_s]
          exact e_wLim mth mn mp mw mu md mo bg bf fq y1 y2 y3 y4 y5 y6 y7 y11 z1 m1 q fa hq hy7 _ _ 0 q m fa v (by decide) (by decide) (by decide) (by decide) h5 (by omega)
        · rw [if_neg b, if_pos (show 0 < y6 z1 by omega)]
          obtain ⟨fa', v', e1, e2, e3⟩ := put_e m1 mn mp mw mu md q m 114 fa v h5 (by omega)
          rw [e1, e2]
          dsimp only
          rw [f_XM_writeP_J130_s]
          exact e_wRou mth mn mp mw mu md mo bg bf fq fr y1 y2 y3 y4 y5 y6 y7 y11 z1 m1 q fa hq hy7 hr hb 8 _ _ 0 (q + 1) (m + 1) fa' v' (by decide) (by decide) (by decide) (by decide) e3 (by omega)
end EQP5
section EQP6
variable (mth mn mp mw mu md mo : Int) (bg bf : Int) (ft fp fl fh fq fr fd y1 y2 y3 y4 y5 y6 y7 y8 y9 y11 : Int → Int) (pn : Int) (pf : Int → Int)
theorem e_write (hft : ∀ i, 0 ≤ ft i ∧ ft i ≤ 30) (hfr : ∀ i, 0 ≤ fr i ∧ fr i < 2147483648) (hy1 : ∀ i, 0 ≤ y1 i ∧ y1 i ≤ 1) (hy4 : ∀ i, 0 ≤ y4 i ∧ y4 i ≤ 100000) (hy5 : ∀ i, 0 ≤ y5 i ∧ y5 i ≤ 100000) (hy7 : ∀ i, -1 ≤ y7 i ∧ y7 i ≤ 999999) (hN : ∀ g, 1 ≤ g → g ≤ 30 → kC (fr g) 8 ≤ 4) (hP : kPg pn mo pf y11) (h : jBk bg bf ft fp fl fh fq fr fd y1 y2 y3 y4 y5 y6 y7 y8 y9) (z1 : Int) (i1 : i32 z1) (fo : Int → Int) :
    ∀ C, C = f_XL_write bg bf ft fl fh fq fr pn pf z1 fo → ∀ M, M = f_XM_writeP mth mn mp mw mu md mo y1 y2 y3 y4 y5 y6 y7 y11 z1 → (M.2.1 = C.1 ∧ (C.1 = 0 → C.2.1 0 = jw M.1)) ∧ kPg C.2.2.1 M.2.2.1 C.2.2.2 M.2.2.2 := by
  intro C hC M hM
  rw [f_XM_writeP_s, e_told mth mn mp mw mu md mo bg bf y1 hy1 h.1 z1 i1] at hM
  rw [f_XL_write_s] at hC
  have hG : f_XG_write bg bf ft fl fh fq fr pn pf z1 = f_XG_write bg bf ft fl fh fq fr pn pf z1 := rfl
  conv at hG => rhs; rw [f_XG_write_s]
  obtain ⟨g0, g1⟩ := k_goes mth mn mp mw mu md mo
  rcases k_need bg bf z1 with ⟨n1, n2, n3⟩ | ⟨n1, n2⟩
  · rw [if_pos n1, f_XP_start_s] at hG
    rw [n2, g1] at hM
    dsimp only at hM
    rw [if_neg (show ¬ (1 : Int) = 0 by decide)] at hM
    obtain ⟨b1, b2, b3, b4, _, _⟩ := h
    obtain ⟨c1, c2, c3, c4⟩ := b4 z1 n3.1 n3.2.1 n3.2.2
    have b2 := b2 z1 n3.1 n3.2.1
    have hb := hft z1
    have kb := kD_b z1
    have kc := kD_b (y2 z1)
    have h31 : 1 ≤ z1 ∧ z1 ≤ 30 := ⟨n3.1, n3.2.1⟩
    have hS := fun pn' pf' => e_wSpa mth mn mp mw mu md mo bg bf fl fh fq fr y1 y2 y3 y4 y5 y6 y7 y11 z1 0 pn' pf' c1 hy4 hy5 c3 hy7 c2 (hfr z1) (hN z1 n3.1 n3.2.1)
    have hE : kEnd 0 (f_XB_printRow bg bf ft fl fh fq fr z1 0 pf) M := by
      rw [hM, f_XB_printRow_s]
      obtain ⟨fa1, fa2, v2, e1, e2, e3, e4⟩ := e_tell 0 mn mp mw mu md 0 0 103 z1 pf y11 ⟨by omega, by omega⟩ ⟨rfl, by decide, fun i a b => by omega⟩ (by omega)
      rw [e1]; dsimp only
      rw [e2]; dsimp only
      rw [e3]; dsimp only
      by_cases a : 0 < ft z1
      · obtain ⟨fa3, fa4, v4, q1, q2, q3, q4⟩ := e_tell 0 mn mp mw mu md (0 + (1 + kD z1)) (0 + (1 + kD z1)) 60 (y2 z1) fa2 v2 ⟨by omega, by omega⟩ e4 (by omega)
        rw [if_pos a, if_pos (show 0 < y2 z1 by omega), b2]
        rw [q1]; dsimp only
        rw [q2]; dsimp only
        rw [q3]; dsimp only
        rw [f_XM_writeP_J48_s, f_XB_printSpans_s]
        exact hS _ _ _ _ 0 _ _ fa4 v4 (by decide) (by decide) (by decide) (by decide) q4 (by omega)
      · rw [if_neg a, if_neg (show ¬ 0 < y2 z1 by omega), f_XM_writeP_J48_s, f_XB_printSpans_s]
        exact hS _ _ _ _ 0 _ _ fa2 v2 (by decide) (by decide) (by decide) (by decide) e4 (by omega)
    obtain ⟨m, v, k1, k2, k3⟩ := hE
    generalize f_XB_printRow bg bf ft fl fh fq fr z1 0 pf = X at hG k1 k2
    obtain ⟨x1, x2⟩ := X
    dsimp only at hG k1 k2
    rw [f_XP_length_s] at hG
    rw [hG] at hC
    dsimp only at hC
    rw [if_pos (rfl : (0 : Int) = 0)] at hC
    rw [hC, k3]
    dsimp only
    refine ⟨⟨rfl, fun _ => ?_⟩, k1⟩
    rw [← k1.1]
    exact (if_pos (rfl : (0 : Int) = 0) : jset fo 0 (jw x1) 0 = jw x1)
  · rw [if_neg (show ¬ f_XG_needGrade bg bf z1 = 0 by omega), n1] at hG
    rw [n2, g0] at hM
    dsimp only at hM
    rw [if_pos (rfl : (0 : Int) = 0)] at hM
    rw [hG] at hC
    dsimp only at hC
    rw [if_neg (show ¬ (1 : Int) = 0 by decide)] at hC
    rw [hC, hM]
    exact ⟨⟨rfl, fun h => absurd (show (1 : Int) = 0 from h) (by decide)⟩, hP⟩
theorem e_at (hP : kPg pn mo pf y11) (z1 : Int) (fo : Int → Int) : ∀ C, C = f_XL_at pn pf z1 fo → ∀ M, M = f_XM_atP mth mn mp mw mu md mo y11 z1 → M.2 = C.1 ∧ (C.1 = 0 → C.2 0 = jw M.1) := by
  intro C hC M hM
  rw [f_XL_at_s] at hC
  refine k_ans _ C fo M hC ?_
  rw [f_XM_atP_s] at hM
  rw [f_XG_at_s, f_XG_needPlace_s]
  obtain ⟨g0, g1⟩ := k_goes mth mn mp mw mu md mo
  obtain ⟨p1, p2, p3⟩ := hP
  by_cases c : z1 < 0
  · rw [if_pos c, f_XM_atP_J10_s, g0] at hM
    dsimp only at hM
    rw [if_pos (rfl : (0 : Int) = 0)] at hM
    rw [if_pos c, if_neg (show ¬ (1 : Int) = 0 by decide)]
    exact Or.inr ⟨rfl, by rw [hM]⟩
  · rw [if_neg c, f_XM_atP_J10_s, g1] at hM
    dsimp only at hM
    rw [if_neg (show ¬ (1 : Int) = 0 by decide)] at hM
    rw [if_neg c, if_pos (rfl : (0 : Int) = 0), f_XP_byteAt_s, if_neg c]
    left
    by_cases d : z1 < mo
    · rw [if_pos d] at hM
      rw [if_pos (show z1 < pn by omega), p3 z1 (by omega) d]
      exact ⟨rfl, hM⟩
    · rw [if_neg d] at hM
      rw [if_neg (show ¬ z1 < pn by omega)]
      exact ⟨rfl, hM⟩
end EQP6
