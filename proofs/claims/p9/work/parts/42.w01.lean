/-! the reference's reader beside the class's: a text -/
section EQW1
variable (mth mn mp mwi mu md mo : Int) (tf : Int → Int) (y1 y2 y3 y4 y5 y6 y7 y8 y9 : Int → Int)
theorem e_L20W (n : Nat) (k w : Int) (w1 w2 w3 w4 w5 w6 w7 w8 w9 : Int → Int) (hw : 0 ≤ w) : f_XM_readP_L20 mth mn mp mwi mu md mo tf y1 y2 y3 y4 y5 y6 y7 y8 y9 (n + 1) k w w1 w2 w3 w4 w5 w6 w7 w8 w9 = f_XM_readP_J77 mth mn mp mwi mu md mo tf y1 y2 y3 y4 y5 y6 y7 y8 y9 k w w1 w2 w3 w4 w5 w6 w7 w8 w9 := by
  rw [f_XM_readP_L20_s, if_neg (show ¬ w < 0 by omega)]
set_option maxHeartbeats 4000000 in
theorem e_text (hmn : 0 ≤ mn ∧ mn ≤ 400) (hf : ∀ i, 0 ≤ tf i ∧ tf i ≤ 255) (tp tw bg bf : Int) (ft fl fh fq fr fd : Int → Int) : ∀ (n m : Nat) (k q w : Int) (yt yl yh yq yr yd : Int → Int) (yg yf : Int) (w1 w2 w3 w4 w5 w6 w7 w8 w9 : Int → Int), 400 - k < (n : Int) → mn - q + 401 < (m : Int) → 0 ≤ k → k ≤ 400 → k ≤ q → q ≤ mn → eBk yg yt yl yh yq yr w1 w2 w3 w4 w5 w6 w7 → eFm yf yd w8 w9 →
    ∀ C, C = f_XR_text_L9 mn tp tw tf bg bf ft fl fh fq fr fd n k q w yt yl yh yq yr yd yg yf → ∀ M, M = f_XM_readP_L20 mth mn mp mwi mu md mo tf y1 y2 y3 y4 y5 y6 y7 y8 y9 m q (-1) w1 w2 w3 w4 w5 w6 w7 w8 w9 →
    (C.1 = 1 ∧ ∃ p x1 x2 x3 x4 x5 x6 x7 x8 x9, M = f_XM_readP_J77 mth mn mp mwi mu md mo tf y1 y2 y3 y4 y5 y6 y7 y8 y9 p (-1) x1 x2 x3 x4 x5 x6 x7 x8 x9 ∧ eBk C.2.2.2.2.2.2.2.2.2.1 C.2.2.2.1 C.2.2.2.2.1 C.2.2.2.2.2.1 C.2.2.2.2.2.2.1 C.2.2.2.2.2.2.2.1 x1 x2 x3 x4 x5 x6 x7 ∧ eFm C.2.2.2.2.2.2.2.2.2.2 C.2.2.2.2.2.2.2.2.1 x8 x9) ∨ (C.1 = 0 ∧ ∃ p v x1 x2 x3 x4 x5 x6 x7 x8 x9, 0 ≤ v ∧ M = f_XM_readP_J77 mth mn mp mwi mu md mo tf y1 y2 y3 y4 y5 y6 y7 y8 y9 p v x1 x2 x3 x4 x5 x6 x7 x8 x9) := by
  intro n
  induction n with
  | zero => intro m k q w yt yl yh yq yr yd yg yf w1 w2 w3 w4 w5 w6 w7 w8 w9 h1 h2 h3 h4; omega
  | succ n ih =>
    intro m k q w yt yl yh yq yr yd yg yf w1 w2 w3 w4 w5 w6 w7 w8 w9 h1 h2 h3 h4 h5 h6 hB hF C hC M hM
    cases m with
    | zero => omega
    | succ m =>
    cases m with
    | zero => omega
    | succ m =>
    have hw : (-1 : Int) < 0 := by decide
    have hb := f_XT_next_b mn q w tf hmn ⟨by omega, h6⟩ (fun i => ⟨(hf i).1, by have := hf i; omega⟩)
    rw [f_XR_text_L9_s] at hC
    rw [f_XM_readP_L20_s, if_pos hw, e_see 0 mn q (-1) mu md mo w tf h6] at hM
    generalize f_XT_next mn q w tf = c0 at hC hM hb
    obtain ⟨r, p'⟩ := c0
    dsimp only at hC hM hb
    by_cases k4 : k < 400
    · rw [if_pos k4] at hC
      by_cases r0 : r = -1
      · rw [if_pos r0] at hC
        rw [if_pos (show r < 0 by omega)] at hM
        left
        rw [hC]
        exact ⟨rfl, p', w1, w2, w3, w4, w5, w6, w7, w8, w9, hM, hB, hF⟩
      · rw [if_neg r0] at hC
        rw [if_neg (show ¬ r < 0 by omega), e_takes 0 mn p' (-1) mu md mo w tf 101 hw (by omega)] at hM
        generalize hcR : f_XR_row mn p' w tf yg yf yt yl yh yq yr yd = cR at hC
        rw [f_XR_row_s] at hcR
        have sk := e_skipM mn p' w tf hmn ⟨by omega, by omega⟩ hf 101 (by decide)
        generalize f_XT_skipIf mn p' w tf 101 = c2 at hcR hM sk
        obtain ⟨r2, p2⟩ := c2
        dsimp only at hcR hM sk
        -- a row that the class refuses
        have lost : ∀ (p v : Int) (a1 a2 a3 a4 a5 a6 a7 a8 a9 : Int → Int), cR.1 = 0 → 0 ≤ v → M = f_XM_readP_L20 mth mn mp mwi mu md mo tf y1 y2 y3 y4 y5 y6 y7 y8 y9 (m + 1) p v a1 a2 a3 a4 a5 a6 a7 a8 a9 → (C.1 = 0 ∧ ∃ p v x1 x2 x3 x4 x5 x6 x7 x8 x9, 0 ≤ v ∧ M = f_XM_readP_J77 mth mn mp mwi mu md mo tf y1 y2 y3 y4 y5 y6 y7 y8 y9 p v x1 x2 x3 x4 x5 x6 x7 x8 x9) := by
          intro p v a1 a2 a3 a4 a5 a6 a7 a8 a9 e1 e2 e3
          obtain ⟨s1, s2, s3, s4, s5, s6, s7, s8, s9, s10, s11⟩ := cR
          dsimp only at hC e1
          rw [if_pos e1] at hC
          rw [e_L20W _ _ _ _ _ _ _ _ _ _ _ _ _ _ _ _ _ _ _ _ _ _ _ _ _ _ _ _ _ e2] at e3
          exact ⟨by rw [hC], p, v, a1, a2, a3, a4, a5, a6, a7, a8, a9, e2, e3⟩
        rcases sk.1 with s0 | s0
        · rw [if_pos s0] at hcR
          rw [if_pos s0, e_takes 0 mn p2 (-1) mu md mo w tf 103 hw (by omega)] at hM
          have sk3 := e_skipM mn p2 w tf hmn ⟨by omega, by omega⟩ hf 103 (by decide)
          generalize f_XT_skipIf mn p2 w tf 103 = c3 at hcR hM sk3
          obtain ⟨r3, p3⟩ := c3
          dsimp only at hcR hM sk3
          rcases sk3.1 with t0 | t0
          · rw [if_pos t0, f_XT_refuse_s] at hcR
            rw [if_pos t0, e_fail _ _ _ _ _ _ _ _ hw] at hM
            right
            exact lost p3 p3 _ _ _ _ _ _ _ _ _ (by rw [← hcR]) (by omega) hM
          · rw [if_neg (show ¬ r3 = 0 by omega)] at hcR
            rw [if_neg (show ¬ r3 = 0 by omega)] at hM
            have G := e_grade 0 mn p3 (-1) mu md mo tf w1 w2 w3 w4 w5 w6 w7 hw (by decide) hmn ⟨by omega, by omega⟩ hf w yg yf yt yl yh yq yr hB _ rfl _ rfl
            generalize f_XR_grade mn p3 w tf yg yf yt yl yh yq yr = cG at hcR G
            obtain ⟨g0, g1, g2, g3, g4, g5, g6, g7, g8⟩ := cG
            generalize f_XM_gradeP 0 mn p3 (-1) mu md mo tf w1 w2 w3 w4 w5 w6 w7 = mG at hM G
            obtain ⟨n0, n1, n2, n3, n4, n5, n6, n7, n8⟩ := mG
            dsimp only at hcR hM G
            rcases G with ⟨i1, i2, i3, i4, i5, i6, i7⟩ | ⟨i1, i2⟩
            · rw [if_neg (show ¬ g0 = 0 by omega)] at hcR
              have tM := e_takeM mn g1 g2 tf hmn ⟨by omega, i4⟩ hf 59 (by decide)
              generalize f_XT_take mn g1 g2 tf 59 = cT at hcR i2 i5 tM
              obtain ⟨d0, d1, d2⟩ := cT
              dsimp only at hcR i2 i5 tM
              rw [if_neg (show ¬ d0 = 0 by omega)] at hcR
              subst hcR
              dsimp only at hC
              rw [if_neg (show ¬ (1 : Int) = 0 by decide)] at hC
              subst i5
              subst i6
              exact ih (m + 1) (k + 1) n0 d2 g3 g4 g5 g6 g7 yd g8 yf n2 n3 n4 n5 n6 n7 n8 w8 w9 (by omega) (by omega) (by omega) (by omega) (by omega) (by omega) i7 hF C hC M hM
            · right
              refine lost n0 n1 _ _ _ _ _ _ _ _ _ ?_ i2 hM
              rcases i1 with i1 | ⟨i1, i3⟩
              · rw [if_pos i1] at hcR
                rw [← hcR]
              · rw [if_neg (show ¬ g0 = 0 by omega)] at hcR
                generalize f_XT_take mn g1 g2 tf 59 = cT at hcR i3
                obtain ⟨d0, d1, d2⟩ := cT
                dsimp only at hcR i3
                rw [if_pos i3] at hcR
                rw [← hcR]
        · rw [if_neg (show ¬ r2 = 0 by omega)] at hcR
          rw [if_neg (show ¬ r2 = 0 by omega)] at hM
          have G := e_formula 0 mn p2 (-1) mu md mo tf w8 w9 hw hmn ⟨by omega, by omega⟩ hf w yg yf yd hF _ rfl _ rfl
          generalize f_XR_formula mn p2 w tf yg yf yd = cG at hcR G
          obtain ⟨g0, g1, g2, g3, g4⟩ := cG
          generalize f_XM_formulaP 0 mn p2 (-1) mu md mo tf w8 w9 = mG at hM G
          obtain ⟨n0, n1, n2, n3⟩ := mG
          dsimp only at hcR hM G
          rcases G with ⟨i1, i2, i3, i4, i5, i6, i7⟩ | ⟨i1, i2⟩
          · rw [if_neg (show ¬ g0 = 0 by omega)] at hcR
            have tM := e_takeM mn g1 g2 tf hmn ⟨by omega, i4⟩ hf 59 (by decide)
            generalize f_XT_take mn g1 g2 tf 59 = cT at hcR i2 i5 tM
            obtain ⟨d0, d1, d2⟩ := cT
            dsimp only at hcR i2 i5 tM
            rw [if_neg (show ¬ d0 = 0 by omega)] at hcR
            subst hcR
            dsimp only at hC
            rw [if_neg (show ¬ (1 : Int) = 0 by decide)] at hC
            subst i5
            subst i6
            exact ih (m + 1) (k + 1) n0 d2 yt yl yh yq yr g3 yg g4 w1 w2 w3 w4 w5 w6 w7 n2 n3 (by omega) (by omega) (by omega) (by omega) (by omega) (by omega) hB i7 C hC M hM
          · right
            refine lost n0 n1 _ _ _ _ _ _ _ _ _ ?_ i2 hM
            rcases i1 with i1 | ⟨i1, i3⟩
            · rw [if_pos i1] at hcR
              rw [← hcR]
            · rw [if_neg (show ¬ g0 = 0 by omega)] at hcR
              generalize f_XT_take mn g1 g2 tf 59 = cT at hcR i3
              obtain ⟨d0, d1, d2⟩ := cT
              dsimp only at hcR i3
              rw [if_pos i3] at hcR
              rw [← hcR]
    · rw [if_neg k4] at hC
      rw [if_pos (show r < 0 by
        by_cases g : 0 ≤ r
        · have := hb.2.2.2.2 g; omega
        · omega)] at hM
      left
      rw [hC]
      exact ⟨rfl, p', w1, w2, w3, w4, w5, w6, w7, w8, w9, hM, hB, hF⟩
end EQW1
