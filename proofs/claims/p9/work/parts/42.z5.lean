/-! value's and equivalent's answers -/
theorem k_ansV (G : Int × Int) (C : Int × (Int → Int)) (fo : Int → Int) (M : Int × Int × Int × Int) (h : C = if G.1 = 0 then (0, jset fo 0 G.2) else if G.1 = 1 then (1, fo) else (2, fo)) (hG : (G.1 = 0 ∧ M.1 = G.2 ∧ M.2.1 = 0) ∨ (G.1 = 1 ∧ M.2.1 = 1) ∨ (G.1 = 2 ∧ M.2.1 = 2)) : M.2.1 = C.1 ∧ (C.1 = 0 → C.2 0 = M.1) := by
  rcases hG with ⟨g1, g2, g3⟩ | ⟨g1, g2⟩ | ⟨g1, g2⟩
  · rw [if_pos g1] at h
    rw [h, g2, g3]
    exact ⟨rfl, fun _ => (if_pos (rfl : (0 : Int) = 0) : jset fo 0 G.2 0 = G.2)⟩
  · rw [if_neg (show ¬ G.1 = 0 by omega), if_pos g1] at h
    rw [h, g2]
    exact ⟨rfl, fun h => absurd (show (1 : Int) = 0 from h) (by decide)⟩
  · rw [if_neg (show ¬ G.1 = 0 by omega), if_neg (show ¬ G.1 = 1 by omega)] at h
    rw [h, g2]
    exact ⟨rfl, fun h => absurd (show (2 : Int) = 0 from h) (by decide)⟩
theorem k_ansE (G : Int × Int × (Int → Int)) (C : Int × (Int → Int) × (Int → Int)) (fo fe : Int → Int) (M : Int × Int × Int × Int) (h : C = if G.1 = 0 then (0, jset fo 0 G.2.1, G.2.2) else if G.1 = 1 then (1, fo, fe) else (2, fo, fe)) (hG : (G.1 = 0 ∧ M.1 = G.2.1 ∧ M.2.1 = 0) ∨ (G.1 = 1 ∧ M.2.1 = 1) ∨ (G.1 = 2 ∧ M.2.1 = 2)) : M.2.1 = C.1 ∧ (C.1 = 0 → C.2.1 0 = M.1) := by
  rcases hG with ⟨g1, g2, g3⟩ | ⟨g1, g2⟩ | ⟨g1, g2⟩
  · rw [if_pos g1] at h
    rw [h, g2, g3]
    exact ⟨rfl, fun _ => (if_pos (rfl : (0 : Int) = 0) : jset fo 0 G.2.1 0 = G.2.1)⟩
  · rw [if_neg (show ¬ G.1 = 0 by omega), if_pos g1] at h
    rw [h, g2]
    exact ⟨rfl, fun h => absurd (show (1 : Int) = 0 from h) (by decide)⟩
  · rw [if_neg (show ¬ G.1 = 0 by omega), if_neg (show ¬ G.1 = 1 by omega)] at h
    rw [h, g2]
    exact ⟨rfl, fun h => absurd (show (2 : Int) = 0 from h) (by decide)⟩
theorem k_goes2 (mth mn mp mw mu md mo : Int) : f_XM_goesP mth mn mp mw mu md mo 0 0 = (0, 1) ∧ f_XM_goesP mth mn mp mw mu md mo 1 0 = (0, 2) := by
  constructor
  · rw [f_XM_goesP_s, if_pos (rfl : (0 : Int) = 0)]
  · rw [f_XM_goesP_s, if_neg (show ¬ (1 : Int) = 0 by decide), if_pos (rfl : (0 : Int) = 0)]
section EQZ5
variable (mth mn mp mw mu md mo : Int) (bg bf : Int) (ft fp fl fh fq fr fd y1 y2 y3 y4 y5 y6 y7 y8 y9 y10 fs : Int → Int)
theorem kRow_s (hy10 : ∀ i, 0 ≤ y10 i ∧ y10 i ≤ 100000) (hS : ∀ i, 0 ≤ i → i ≤ 7 → fs i = y10 i) (z1 : Int) : kRow mth mn mp mw mo y1 y2 y3 y4 y5 y10 fs z1 2 := by
  intro e e1 e2
  have h := hS e e1 e2
  have h2 := hy10 e
  exact ⟨by omega, fun _ => h.symm, fun q => absurd q (by decide), fun q => absurd q (by decide)⟩
theorem kRow_e (hft : ∀ i, 0 ≤ ft i ∧ ft i ≤ 30) (hy1 : ∀ i, 0 ≤ y1 i ∧ y1 i ≤ 1) (hy2 : ∀ i, 0 ≤ y2 i ∧ y2 i ≤ 30) (hy3 : ∀ i, 0 ≤ y3 i ∧ y3 i ≤ 1) (hy4 : ∀ i, 0 ≤ y4 i ∧ y4 i ≤ 100000) (hy5 : ∀ i, 0 ≤ y5 i ∧ y5 i ≤ 100000) (h : jBk bg bf ft fp fl fh fq fr fd y1 y2 y3 y4 y5 y6 y7 y8 y9) (z1 z3 : Int) (t1 : kT bg z1) (hz : z3 = 0 ∨ z3 = 1) (fe : Int → Int) : kRow mth mn mp mw mo y1 y2 y3 y4 y5 y10 (f_XB_copyEnds bg bf fp fl fh z1 z3 fe) z1 z3 := by
  intro e e1 e2
  rw [copyEnds_e bg bf fe fp fl fh z1 z3 e e1 e2]
  have hl := fun u d => e_low mth mn mp mw u d mo bg bf ft fp fl fh fq fr fd y1 y2 y3 y4 y5 y6 y7 y8 y9 hft hy1 hy2 h z1 e t1 ⟨e1, e2⟩
  have b1 := f_XM_lowOfP_b mth mn mp mw 0 0 mo y1 y2 y3 y4 z1 e hy1 hy2 hy3 hy4 ⟨t1.1, t1.2.1⟩ ⟨e1, e2⟩
  have b2 := f_XM_highOfP_b mth mn mp mw 0 0 mo y1 y2 y3 y5 z1 e hy1 hy2 hy3 hy5 ⟨t1.1, t1.2.1⟩ ⟨e1, e2⟩
  rw [(hl 0 0).1] at b1
  rw [(hl 0 0).2] at b2
  rcases hz with rfl | rfl
  · exact ⟨b1.1, fun q => absurd q (by decide), fun _ u d => (hl u d).1, fun q => absurd q (by decide)⟩
  · exact ⟨b2.1, fun q => absurd q (by decide), fun q => absurd q (by decide), fun _ u d => (hl u d).2⟩
theorem e_value (hy9 : ∀ i, 0 ≤ y9 i ∧ y9 i ≤ 20) (hy10 : ∀ i, 0 ≤ y10 i ∧ y10 i ≤ 100000) (hS : ∀ i, 0 ≤ i → i ≤ 7 → fs i = y10 i) (h : jBk bg bf ft fp fl fh fq fr fd y1 y2 y3 y4 y5 y6 y7 y8 y9) (z1 z2 : Int) (i1 : i32 z1) (i2 : i32 z2) (fo : Int → Int) :
    ∀ C, C = f_XL_value bg bf fd fs z1 z2 fo → ∀ M, M = f_XM_valueP mth mn mp mw mu md mo y1 y2 y3 y4 y5 y8 y9 y10 z1 z2 → M.2.1 = C.1 ∧ (C.1 = 0 → C.2 0 = M.1) := by
  intro C hC M hM
  rw [f_XL_value_s] at hC
  refine k_ansV _ C fo M hC ?_
  rw [f_XM_valueP_s] at hM
  rw [f_XG_value_s]
  obtain ⟨g0, g1⟩ := k_goes2 mth mn mp mw mu md mo
  have no : f_XM_valueP_J21 mth mn mp mw mu md mo y1 y2 y3 y4 y5 y8 y9 y10 z1 z2 0 = (0, 1, mu, md) := by
    rw [f_XM_valueP_J21_s, if_pos (rfl : (0 : Int) = 0), f_XM_valueP_J42_s, g0]; dsimp only; rw [if_pos (rfl : (0 : Int) = 0)]
  have ki := f_XM_isKind_b z1 i1
  have kj := f_XM_in_b z2 0 1 i2 (by decide) (by decide)
  rcases k_below z1 4 with ⟨b1, b2, b3⟩ | ⟨b1, b2⟩
  · rw [if_pos b1]
    rw [if_neg (show ¬ f_XM_isKind z1 = 0 by omega)] at hM
    rcases k_below z2 2 with ⟨c1, c2, c3⟩ | ⟨c1, c2⟩
    · rw [if_pos c1, f_XG_needFormula_s, f_XB_hasFormula_s, h.2.2.2.2.1 z1 b2 (by omega)]
      rw [if_neg (show ¬ f_XM_in z2 0 1 = 0 by omega), f_XM_valueP_J21_s, if_neg (show ¬ (1 : Int) = 0 by decide)] at hM
      by_cases d : y8 z1 = 0
      · rw [if_pos d, f_XM_valueP_J42_s, g1] at hM
        dsimp only at hM
        rw [if_pos (rfl : (0 : Int) = 0)] at hM
        rw [if_pos d, if_neg (show ¬ (2 : Int) = 0 by decide)]
        exact Or.inr (Or.inr ⟨rfl, by rw [hM]⟩)
      · have d2 : f_XG_hasBit bf z1 ≠ 0 := by rw [h.2.2.2.2.1 z1 b2 (by omega)]; exact d
        obtain ⟨U, D, q1, q2⟩ := e_reckon 0 mn mp mw mu md mo bg bf fd y1 y2 y3 y4 y5 y9 y10 fs 0 z1 2 (Or.inr (Or.inr rfl)) hy9 (fun x x1 x2 => h.2.2.2.2.2 z1 x b2 (by omega) x1 x2 d2) (kRow_s 0 mn mp mw mo y1 y2 y3 y4 y5 y10 fs hy10 hS 0)
        rw [if_neg d, f_XM_valueP_J42_s, (k_goes mth mn mp mw mu md mo).2] at hM
        dsimp only at hM
        rw [if_neg (show ¬ (1 : Int) = 0 by decide), q1] at hM
        dsimp only at hM
        rw [if_neg d, if_pos (rfl : (0 : Int) = 0), e_lowest U D _ z2 q2]
        left
        by_cases a : z2 = 0
        · rw [if_pos a] at hM ⊢; rw [hM]; exact ⟨rfl, rfl, rfl⟩
        · rw [if_neg a] at hM ⊢; rw [hM]; exact ⟨rfl, rfl, rfl⟩
    · rw [if_neg (show ¬ f_XG_needBelow z2 2 = 0 by omega), c1]
      rw [if_pos (show f_XM_in z2 0 1 = 0 by omega), no] at hM
      exact Or.inr (Or.inl ⟨rfl, by rw [hM]⟩)
  · rw [if_neg (show ¬ f_XG_needBelow z1 4 = 0 by omega), b1]
    rw [if_pos (show f_XM_isKind z1 = 0 by omega), no] at hM
    exact Or.inr (Or.inl ⟨rfl, by rw [hM]⟩)
theorem e_equivalent (hft : ∀ i, 0 ≤ ft i ∧ ft i ≤ 30) (hy1 : ∀ i, 0 ≤ y1 i ∧ y1 i ≤ 1) (hy2 : ∀ i, 0 ≤ y2 i ∧ y2 i ≤ 30) (hy3 : ∀ i, 0 ≤ y3 i ∧ y3 i ≤ 1) (hy4 : ∀ i, 0 ≤ y4 i ∧ y4 i ≤ 100000) (hy5 : ∀ i, 0 ≤ y5 i ∧ y5 i ≤ 100000) (hy9 : ∀ i, 0 ≤ y9 i ∧ y9 i ≤ 20) (h : jBk bg bf ft fp fl fh fq fr fd y1 y2 y3 y4 y5 y6 y7 y8 y9) (z1 z2 z3 z4 : Int) (i1 : i32 z1) (i2 : i32 z2) (i3 : i32 z3) (i4 : i32 z4) (fo fe : Int → Int) :
    ∀ C, C = f_XL_equivalent bg bf fp fl fh fd fe z1 z2 z3 z4 fo → ∀ M, M = f_XM_equivalentP mth mn mp mw mu md mo y1 y2 y3 y4 y5 y8 y9 y10 z1 z2 z3 z4 → M.2.1 = C.1 ∧ (C.1 = 0 → C.2.1 0 = M.1) := by
  intro C hC M hM
  rw [f_XL_equivalent_s] at hC
  refine k_ansE _ C fo fe M hC ?_
  rw [f_XM_equivalentP_s, e_told mth mn mp mw mu md mo bg bf y1 hy1 h.1 z1 i1] at hM
  rw [f_XG_equivalent_s]
  obtain ⟨g0, g1⟩ := k_goes2 mth mn mp mw mu md mo
  have no : f_XM_equivalentP_J39 mth mn mp mw mu md mo y1 y2 y3 y4 y5 y8 y9 y10 z1 z2 z3 z4 0 = (0, 1, mu, md) := by
    rw [f_XM_equivalentP_J39_s, if_pos (rfl : (0 : Int) = 0), f_XM_equivalentP_J63_s, g0]; dsimp only; rw [if_pos (rfl : (0 : Int) = 0)]
  have ki := f_XM_isKind_b z2 i2
  have kj := f_XM_in_b z3 0 1 i3 (by decide) (by decide)
  have kl := f_XM_in_b z4 0 1 i4 (by decide) (by decide)
  rcases k_need bg bf z1 with ⟨n1, n2, n3⟩ | ⟨n1, n2⟩
  · rw [n2, if_neg (show ¬ (1 : Int) = 0 by decide)] at hM
    rw [if_pos n1]
    rcases k_below z2 4 with ⟨b1, b2, b3⟩ | ⟨b1, b2⟩
    · rw [if_pos b1]
      rw [if_neg (show ¬ f_XM_isKind z2 = 0 by omega)] at hM
      rcases k_below z3 2 with ⟨c1, c2, c3⟩ | ⟨c1, c2⟩
      · rw [if_pos c1]
        rw [if_neg (show ¬ f_XM_in z3 0 1 = 0 by omega)] at hM
        rcases k_below z4 2 with ⟨e1, e2, e3⟩ | ⟨e1, e2⟩
        · rw [if_pos e1, f_XG_needFormula_s, f_XB_hasFormula_s, h.2.2.2.2.1 z2 b2 (by omega)]
          rw [if_neg (show ¬ f_XM_in z4 0 1 = 0 by omega), f_XM_equivalentP_J39_s, if_neg (show ¬ (1 : Int) = 0 by decide)] at hM
          by_cases d : y8 z2 = 0
          · rw [if_pos d, f_XM_equivalentP_J63_s, g1] at hM
            dsimp only at hM
            rw [if_pos (rfl : (0 : Int) = 0)] at hM
            rw [if_pos d, if_neg (show ¬ (2 : Int) = 0 by decide)]
            exact Or.inr (Or.inr ⟨rfl, by rw [hM]⟩)
          · have d2 : f_XG_hasBit bf z2 ≠ 0 := by rw [h.2.2.2.2.1 z2 b2 (by omega)]; exact d
            obtain ⟨U, D, q1, q2⟩ := e_reckon 0 mn mp mw mu md mo bg bf fd y1 y2 y3 y4 y5 y9 y10 (f_XB_copyEnds bg bf fp fl fh z1 z3 fe) z1 z2 z3 (by omega) hy9 (fun x x1 x2 => h.2.2.2.2.2 z2 x b2 (by omega) x1 x2 d2) (kRow_e 0 mn mp mw mo bg bf ft fp fl fh fq fr fd y1 y2 y3 y4 y5 y6 y7 y8 y9 y10 hft hy1 hy2 hy3 hy4 hy5 h z1 z3 n3 (by omega) fe)
            rw [if_neg d, f_XM_equivalentP_J63_s, (k_goes mth mn mp mw mu md mo).2] at hM
            dsimp only at hM
            rw [if_neg (show ¬ (1 : Int) = 0 by decide), q1] at hM
            dsimp only at hM
            rw [if_neg d, if_pos (rfl : (0 : Int) = 0), e_lowest U D _ z4 q2]
            left
            by_cases a : z4 = 0
            · rw [if_pos a] at hM ⊢; rw [hM]; exact ⟨rfl, rfl, rfl⟩
            · rw [if_neg a] at hM ⊢; rw [hM]; exact ⟨rfl, rfl, rfl⟩
        · rw [if_neg (show ¬ f_XG_needBelow z4 2 = 0 by omega), e1]
          rw [if_pos (show f_XM_in z4 0 1 = 0 by omega), no] at hM
          exact Or.inr (Or.inl ⟨rfl, by rw [hM]⟩)
      · rw [if_neg (show ¬ f_XG_needBelow z3 2 = 0 by omega), c1]
        rw [if_pos (show f_XM_in z3 0 1 = 0 by omega), no] at hM
        exact Or.inr (Or.inl ⟨rfl, by rw [hM]⟩)
    · rw [if_neg (show ¬ f_XG_needBelow z2 4 = 0 by omega), b1]
      rw [if_pos (show f_XM_isKind z2 = 0 by omega), no] at hM
      exact Or.inr (Or.inl ⟨rfl, by rw [hM]⟩)
  · rw [if_neg (show ¬ f_XG_needGrade bg bf z1 = 0 by omega), n1]
    rw [n2, if_pos (rfl : (0 : Int) = 0), no] at hM
    exact Or.inr (Or.inl ⟨rfl, by rw [hM]⟩)
end EQZ5
