/-! the reference's reader beside the class's: a grade's row behind its parent -/
noncomputable def eCrest (mn : Int) (tf : Int → Int) (bg bf zg q t : Int) (ft fl fh fq fr : Int → Int) : Int × Int × Int × (Int → Int) × (Int → Int) × (Int → Int) × (Int → Int) × (Int → Int) × Int :=
  match f_XR_spans mn q t tf bg bf fl fh zg with
  | (r14, p15, t16, fl1, fh1) => if r14 = 0 then (0, p15, t16, ft, fl1, fh1, fq, fr, bg) else
    match f_XR_routes mn p15 t16 tf bg bf fr zg with
    | (r24, p25, t26, fr1) => if r24 = 0 then (0, p25, t26, ft, fl1, fh1, fq, fr1, bg) else
      match f_XR_limits mn p25 t26 tf bg bf fq zg with
      | (r33, p34, t35, fq1) => if r33 = 0 then (0, p34, t35, ft, fl1, fh1, fq1, fr1, bg) else (1, p34, t35, ft, fl1, fh1, fq1, fr1, bg)
noncomputable def eClim (mn : Int) (tf : Int → Int) (bg bf zg p25 t26 : Int) (ft fl1 fh1 fq fr1 : Int → Int) : Int × Int × Int × (Int → Int) × (Int → Int) × (Int → Int) × (Int → Int) × (Int → Int) × Int :=
  match f_XR_limits mn p25 t26 tf bg bf fq zg with
  | (r33, p34, t35, fq1) => if r33 = 0 then (0, p34, t35, ft, fl1, fh1, fq1, fr1, bg) else (1, p34, t35, ft, fl1, fh1, fq1, fr1, bg)
section EQ11
variable (mth mn mp mw mu md mo : Int) (tf : Int → Int) (mwi : Int) (y1 y2 y3 y4 y5 y6 y7 : Int → Int) (zg jd : Int)
theorem e_lim (hw : mw < 0) (hmn : 0 ≤ mn ∧ mn ≤ 400) (hf : ∀ i, 0 ≤ tf i ∧ tf i ≤ 255) (hg : 1 ≤ zg ∧ zg ≤ 30) (bg bf : Int) (ft fl1 fh1 fq fr1 u3 u4 u5 w6 : Int → Int) (p t pm : Int) (hp : 0 ≤ p ∧ p ≤ mn) (hpm : 0 ≤ pm ∧ pm ≤ mn) (hnx : f_XT_next mn pm t tf = f_XT_next mn p t tf) (hQ : eQl fq y7) (hz : ∀ x, 0 ≤ x → x ≤ 3 → fq (zg * 4 + x) = -1) :
    ∀ C, C = eClim mn tf bg bf zg p t ft fl1 fh1 fq fr1 → ∀ M, M = f_XM_gradeP_J95 mth mn mp mwi mu md mo tf y1 y2 y3 y4 y5 y6 y7 zg jd u3 u4 u5 pm mw w6 →
    (C.1 = 1 ∧ (f_XT_take mn C.2.1 C.2.2.1 tf 59).1 = 1 ∧ p ≤ C.2.1 ∧ C.2.1 ≤ mn ∧ C.2.2.2.1 = ft ∧ C.2.2.2.2.1 = fl1 ∧ C.2.2.2.2.2.1 = fh1 ∧ C.2.2.2.2.2.2.2.1 = fr1 ∧ C.2.2.2.2.2.2.2.2 = bg ∧ (∀ g x, 1 ≤ g → g ≤ 30 → g ≠ zg → 0 ≤ x → x ≤ 3 → C.2.2.2.2.2.2.1 (g * 4 + x) = fq (g * 4 + x)) ∧ ∃ w7', eQl C.2.2.2.2.2.2.1 w7' ∧ M = ((f_XT_take mn C.2.1 C.2.2.1 tf 59).2.1, mw, jset y1 (31 + zg) 1, jset y2 (31 + zg) jd, u3, u4, u5, w6, w7')) ∨ ((C.1 = 0 ∨ (C.1 = 1 ∧ (f_XT_take mn C.2.1 C.2.2.1 tf 59).1 = 0)) ∧ 0 ≤ M.2.1) := by
  intro C hC M hM
  unfold eClim at hC
  rw [f_XR_limits_s] at hC
  rw [f_XM_gradeP_J95_s] at hM
  have hcnt : (0 : Int) = eqcnt fq zg := by
    unfold eqcnt
    rw [hz 0 (by decide) (by decide), hz 1 (by decide) (by decide), hz 2 (by decide) (by decide), hz 3 (by decide) (by decide)]
    rfl
  have Lm := e_limits mth mn mp mw mu md mo tf mwi y1 y2 y3 y4 y5 y6 y7 zg jd u3 u4 u5 w6 hw hmn hf p t bg bf fq hg (Int.toNat (5 - 0) + 1) (Int.toNat (mn - pm) + 1) 0 p t pm 0 fq y7 (by decide) (by omega) hp.1 hp.2 hpm.1 hpm.2 hcnt (fun x x1 x2 => by rw [mbit_zero x ⟨x1, by omega⟩, hz x x1 x2]; constructor <;> intro h <;> first | omega | exact absurd rfl h) hQ hnx _ rfl M hM
  generalize f_XR_limits_L2 mn p t tf bg bf fq zg (Int.toNat (5 - 0) + 1) 0 p t fq = c1 at hC Lm
  obtain ⟨r33, p34, t35, fq1⟩ := c1
  dsimp only at hC Lm
  rcases Lm with ⟨a1, a2, a3, a4, w7', a5, a6⟩ | ⟨a1, a2⟩
  · rw [if_neg (show ¬ r33 = 0 by omega)] at hC
    subst hC
    dsimp only
    unfold eGend at a6
    rcases e_take mth mn p34 mw mu md mo t35 tf 59 hw a3 with ⟨g1, g2, g3⟩ | ⟨g1, g3⟩
    · rw [g3] at a6
      dsimp only at a6
      rw [if_pos hw] at a6
      left
      exact ⟨rfl, g1, a2, a3, rfl, rfl, rfl, rfl, rfl, a4, w7', a5, a6⟩
    · rw [g3] at a6
      dsimp only at a6
      have tM2 := e_takeM mn p34 t35 tf hmn ⟨by omega, a3⟩ hf 59 (by decide)
      rw [if_neg (show ¬ (f_XT_take mn p34 t35 tf 59).2.1 < 0 by omega)] at a6
      right
      exact ⟨Or.inr ⟨rfl, g1⟩, by rw [a6]; dsimp only; omega⟩
  · rw [if_pos a1] at hC
    right
    exact ⟨Or.inl (by rw [hC]), a2⟩
theorem e_J95W (u3 u4 u5 w6 : Int → Int) (p w : Int) (hw : 0 ≤ w) : 0 ≤ (f_XM_gradeP_J95 mth mn mp mwi mu md mo tf y1 y2 y3 y4 y5 y6 y7 zg jd u3 u4 u5 p w w6).2.1 := by
  rw [f_XM_gradeP_J95_s]
  exact e_L97W mth mn mp mu md mo tf mwi y1 y2 y3 y4 y5 y6 y7 zg jd u3 u4 u5 w6 _ _ p w _ hw
theorem e_J95D (u3 u4 u5 w6 : Int → Int) (p : Int) (hw : mw < 0) (hp : 0 ≤ p) (h : eDig tf mn p) : 0 ≤ (f_XM_gradeP_J95 mth mn mp mwi mu md mo tf y1 y2 y3 y4 y5 y6 y7 zg jd u3 u4 u5 p mw w6).2.1 := by
  rw [f_XM_gradeP_J95_s]
  exact e_L97D mth mn mp mw mu md mo tf mwi y1 y2 y3 y4 y5 y6 y7 zg jd u3 u4 u5 w6 _ _ p _ hw hp h
/-- behind the spans, lost -/
theorem e_lostS (hw : mw < 0) (p w : Int) (a3 a4 a5 : Int → Int) (h : eLost tf mn mw p w) : 0 ≤ (match f_XM_takesP mth mn p w mu md mo tf 114 with
    | (r96, p97) => if r96 = 0 then f_XM_gradeP_J95 mth mn mp mwi mu md mo tf y1 y2 y3 y4 y5 y6 y7 zg jd a3 a4 a5 p97 w y6 else match f_XM_routeRowP mth mn p97 w mu md mo tf with | (r102, p103, w104) => f_XM_gradeP_J95 mth mn mp mwi mu md mo tf y1 y2 y3 y4 y5 y6 y7 zg jd a3 a4 a5 p103 w104 (jset y6 (31 + zg) r102)).2.1 := by
  rcases h with h | ⟨h1, h2, h3⟩
  · rw [e_takesW mth mn p w mu md mo tf 114 h]
    dsimp only
    rw [if_pos rfl]
    exact e_J95W mth mn mp mu md mo tf mwi y1 y2 y3 y4 y5 y6 y7 zg jd a3 a4 a5 y6 p w h
  · rw [e_digTakes mth mn p w mu md mo tf h3 h2 114 (by omega)]
    dsimp only
    rw [if_pos rfl, h1]
    exact e_J95D mth mn mp mw mu md mo tf mwi y1 y2 y3 y4 y5 y6 y7 zg jd a3 a4 a5 y6 p hw h2 h3
theorem e_J70L (hw : mw < 0) (hmn : 0 ≤ mn ∧ mn ≤ 400) (p w : Int) (h : eLost tf mn mw p w) : 0 ≤ (f_XM_gradeP_J70 mth mn mp mwi mu md mo tf y1 y2 y3 y4 y5 y6 y7 zg p w jd).2.1 := by
  rw [f_XM_gradeP_J70_s, f_XM_spansP_s]
  have hE : f_XM_elementP mth mn p w mu md mo tf 0 = (-1, p, w) := by
    rcases h with h | ⟨h1, h2, h3⟩
    · exact e_elemW mth mn mu md mo tf 0 p w h
    · exact e_digElem mth mn p w mu md mo tf h3 h2 0
  rw [hE]
  dsimp only
  rw [e_L8neg]
  exact e_lostS mth mn mp mw mu md mo tf mwi y1 y2 y3 y4 y5 y6 y7 zg jd hw p w y3 y4 y5 h
set_option maxHeartbeats 2000000 in
theorem e_rest (hw : mw < 0) (hmw : -1 ≤ mw) (hmn : 0 ≤ mn ∧ mn ≤ 400) (hf : ∀ i, 0 ≤ tf i ∧ tf i ≤ 255) (hg : 1 ≤ zg ∧ zg ≤ 30) (bg bf : Int) (ft fl fh fq fr : Int → Int) (q t : Int) (hq : 0 ≤ q ∧ q ≤ mn) (hSp : eSp fl fh y3 y4 y5) (hh : ∀ x, 0 ≤ x → x ≤ 7 → fh (zg * 8 + x) = -1) (hfr : fr zg = 0) (hR : ∀ g, 1 ≤ g → g ≤ 30 → fr g = y6 (31 + g)) (hQ : eQl fq y7) (hz : ∀ x, 0 ≤ x → x ≤ 3 → fq (zg * 4 + x) = -1) :
    ∀ C, C = eCrest mn tf bg bf zg q t ft fl fh fq fr → ∀ M, M = f_XM_gradeP_J70 mth mn mp mwi mu md mo tf y1 y2 y3 y4 y5 y6 y7 zg q mw jd →
    (C.1 = 1 ∧ (f_XT_take mn C.2.1 C.2.2.1 tf 59).1 = 1 ∧ q ≤ C.2.1 ∧ C.2.1 ≤ mn ∧ C.2.2.2.1 = ft ∧ C.2.2.2.2.2.2.2.2 = bg ∧
      (∀ g x, 1 ≤ g → g ≤ 30 → g ≠ zg → 0 ≤ x → x ≤ 7 → C.2.2.2.2.2.1 (g * 8 + x) = fh (g * 8 + x)) ∧ (∀ g, g ≠ zg → C.2.2.2.2.2.2.2.1 g = fr g) ∧ (0 ≤ C.2.2.2.2.2.2.2.1 zg ∧ C.2.2.2.2.2.2.2.1 zg < 2147483648) ∧ (∀ g x, 1 ≤ g → g ≤ 30 → g ≠ zg → 0 ≤ x → x ≤ 3 → C.2.2.2.2.2.2.1 (g * 4 + x) = fq (g * 4 + x)) ∧
      M.1 = (f_XT_take mn C.2.1 C.2.2.1 tf 59).2.1 ∧ M.2.1 = mw ∧ M.2.2.1 = jset y1 (31 + zg) 1 ∧ M.2.2.2.1 = jset y2 (31 + zg) jd ∧ eSp C.2.2.2.2.1 C.2.2.2.2.2.1 M.2.2.2.2.1 M.2.2.2.2.2.1 M.2.2.2.2.2.2.1 ∧ (∀ g, 1 ≤ g → g ≤ 30 → C.2.2.2.2.2.2.2.1 g = M.2.2.2.2.2.2.2.1 (31 + g)) ∧ eQl C.2.2.2.2.2.2.1 M.2.2.2.2.2.2.2.2) ∨ ((C.1 = 0 ∨ (C.1 = 1 ∧ (f_XT_take mn C.2.1 C.2.2.1 tf 59).1 = 0)) ∧ 0 ≤ M.2.1) := by
  intro C hC M hM
  unfold eCrest at hC
  rw [f_XM_gradeP_J70_s, f_XM_spansP_s] at hM
  rw [f_XR_spans_s] at hC
  have eE := e_elem mth mn q mw mu md mo t tf hw hmn hq hf 0
  have oM := e_oneM mn q t tf hmn hq hf 65 8 (by decide)
  obtain ⟨x1, hE⟩ : ∃ x1, x1 = f_XM_elementP mth mn q mw mu md mo tf 0 := ⟨_, rfl⟩
  obtain ⟨s, q1, v1⟩ := x1
  rw [← hE] at hM eE
  dsimp only at hM eE
  have hv1 : v1 = mw ∧ q1 ≤ mn := by
    rcases eE with ⟨a1, a2⟩ | ⟨a1, a2, a3, ⟨a4, a5⟩ | ⟨a4, a5⟩⟩
    · injection a2 with b1 b2
      injection b2 with b2 b3
      exact ⟨b3, by omega⟩
    · injection a5 with b1 b2
      injection b2 with b2 b3
      exact ⟨b3, by omega⟩
    · rw [mbit_zero _ ⟨a1, a2⟩] at a4
      exact absurd a4 (by decide)
  obtain ⟨hv1, hq1⟩ := hv1
  have hcnt : (0 : Int) = escnt fh zg := by
    unfold escnt
    rw [hh 0 (by decide) (by decide), hh 1 (by decide) (by decide), hh 2 (by decide) (by decide), hh 3 (by decide) (by decide), hh 4 (by decide) (by decide), hh 5 (by decide) (by decide), hh 6 (by decide) (by decide), hh 7 (by decide) (by decide)]
    rfl
  have S := e_spans mth mn q mw mu md mo tf mw y3 y4 y5 hw hmn hf q t bg bf fl fh zg hg (Int.toNat (9 - 0) + 1) (Int.toNat (mn - q1 - v1 + 400) + 1) 0 q t 0 fl fh y3 y4 y5 (by decide) (by omega) hq.1 hq.2 hcnt (fun x x1 x2 => by rw [mbit_zero x ⟨x1, x2⟩, hh x x1 x2]; constructor <;> intro h <;> first | omega | exact absurd rfl h) hSp _ rfl (f_XM_spansP_L8 mth mn q mw mu md mo tf y3 y4 y5 (31 + zg) (Int.toNat (mn - q1 - v1 + 400) + 1) 0 s q1 v1 y3 y4 y5) (by rw [← hE])
  generalize f_XR_spans_L2 mn q t tf bg bf fl fh zg (Int.toNat (9 - 0) + 1) 0 q t fl fh = c1 at hC S
  obtain ⟨r14, p15, t16, fl1, fh1⟩ := c1
  generalize f_XM_spansP_L8 mth mn q mw mu md mo tf y3 y4 y5 (31 + zg) (Int.toNat (mn - q1 - v1 + 400) + 1) 0 s q1 v1 y3 y4 y5 = m1 at hM S
  obtain ⟨pS, wS, a3, a4, a5⟩ := m1
  dsimp only at hC hM S
  rcases S with ⟨i1, i2, i3, i4, i5, i6, i7⟩ | ⟨i1, i2⟩
  · subst i4
    subst i5
    rw [if_neg (show ¬ r14 = 0 by omega)] at hC
    generalize hcR : f_XR_routes mn pS t16 tf bg bf fr zg = cR at hC
    rw [f_XR_routes_s] at hcR
    rw [e_takes mth mn pS wS mu md mo t16 tf 114 hw (by omega)] at hM
    have sk := e_skipM mn pS t16 tf hmn ⟨by omega, by omega⟩ hf 114 (by decide)
    generalize f_XT_skipIf mn pS t16 tf 114 = c2 at hcR hM sk
    obtain ⟨r2, p2⟩ := c2
    dsimp only at hcR hM sk
    -- the limits behind the routes
    have fin : ∀ (p25 t26 pm : Int) (fr1 w6 : Int → Int), q ≤ p25 → p25 ≤ mn → 0 ≤ pm → pm ≤ mn → f_XT_next mn pm t26 tf = f_XT_next mn p25 t26 tf → (∀ g, g ≠ zg → fr1 g = fr g) → (0 ≤ fr1 zg ∧ fr1 zg < 2147483648) → (∀ g, 1 ≤ g → g ≤ 30 → fr1 g = w6 (31 + g)) → ∀ C, C = eClim mn tf bg bf zg p25 t26 ft fl1 fh1 fq fr1 → ∀ M, M = f_XM_gradeP_J95 mth mn mp mwi mu md mo tf y1 y2 y3 y4 y5 y6 y7 zg jd a3 a4 a5 pm wS w6 →
        (C.1 = 1 ∧ (f_XT_take mn C.2.1 C.2.2.1 tf 59).1 = 1 ∧ q ≤ C.2.1 ∧ C.2.1 ≤ mn ∧ C.2.2.2.1 = ft ∧ C.2.2.2.2.2.2.2.2 = bg ∧
      (∀ g x, 1 ≤ g → g ≤ 30 → g ≠ zg → 0 ≤ x → x ≤ 7 → C.2.2.2.2.2.1 (g * 8 + x) = fh (g * 8 + x)) ∧ (∀ g, g ≠ zg → C.2.2.2.2.2.2.2.1 g = fr g) ∧ (0 ≤ C.2.2.2.2.2.2.2.1 zg ∧ C.2.2.2.2.2.2.2.1 zg < 2147483648) ∧ (∀ g x, 1 ≤ g → g ≤ 30 → g ≠ zg → 0 ≤ x → x ≤ 3 → C.2.2.2.2.2.2.1 (g * 4 + x) = fq (g * 4 + x)) ∧
      M.1 = (f_XT_take mn C.2.1 C.2.2.1 tf 59).2.1 ∧ M.2.1 = wS ∧ M.2.2.1 = jset y1 (31 + zg) 1 ∧ M.2.2.2.1 = jset y2 (31 + zg) jd ∧ eSp C.2.2.2.2.1 C.2.2.2.2.2.1 M.2.2.2.2.1 M.2.2.2.2.2.1 M.2.2.2.2.2.2.1 ∧ (∀ g, 1 ≤ g → g ≤ 30 → C.2.2.2.2.2.2.2.1 g = M.2.2.2.2.2.2.2.1 (31 + g)) ∧ eQl C.2.2.2.2.2.2.1 M.2.2.2.2.2.2.2.2) ∨ ((C.1 = 0 ∨ (C.1 = 1 ∧ (f_XT_take mn C.2.1 C.2.2.1 tf 59).1 = 0)) ∧ 0 ≤ M.2.1) := by
      intro p25 t26 pm fr1 w6 j1 j2 j3 j4 j5 j6 j7 j8 C hC M hM
      rcases e_lim mth mn mp wS mu md mo tf mwi y1 y2 y3 y4 y5 y6 y7 zg jd hw hmn hf hg bg bf ft fl1 fh1 fq fr1 a3 a4 a5 w6 p25 t26 pm ⟨by omega, j2⟩ ⟨j3, j4⟩ j5 hQ hz C hC M hM with ⟨k1, k2, k3, k4, k5, k6, k7, k8, k9, k10, w7', k11, k12⟩ | h
      · left
        rw [k12, k6, k7, k8]
        exact ⟨k1, k2, by omega, k4, k5, k9, i7, j6, j7, k10, rfl, rfl, rfl, rfl, i6, j8, k11⟩
      · right; exact h
    rcases sk.1 with s0 | s0
    · rw [if_pos s0] at hcR
      rw [if_pos s0] at hM
      subst hcR
      dsimp only at hC
      rw [if_neg (show ¬ (1 : Int) = 0 by decide)] at hC
      exact fin p2 t16 p2 fr y6 (by omega) (by omega) (by omega) (by omega) rfl (fun _ _ => rfl) (by rw [hfr]; decide) hR C hC M hM
    · rw [if_neg (show ¬ r2 = 0 by omega)] at hcR
      rw [if_neg (show ¬ r2 = 0 by omega), f_XM_routeRowP_s] at hM
      have Rt := e_routesL mth mn p2 wS mu md mo tf wS hw hmn hf pS t16 bg bf fr zg (Int.toNat (4 - 0) + 1) (Int.toNat (mn - p2) + 1) 0 (-1) p2 t16 p2 1 fr (by decide) (by omega) (by decide) (by decide) (by omega) (by omega) (by omega) (by omega) (by decide) (by decide) (fun _ => rfl) (by rw [hfr]; decide) rfl (Or.inl ⟨rfl, rfl⟩) _ rfl _ rfl
      rw [hfr] at Rt
      generalize f_XR_routes_L19 mn pS t16 tf bg bf fr zg (Int.toNat (4 - 0) + 1) 0 (-1) p2 t16 fr = c3 at hcR Rt
      subst hcR
      obtain ⟨r24, p25, t26, fr1⟩ := c3
      generalize f_XM_routeRowP_L9 mth mn p2 wS mu md mo tf (Int.toNat (mn - p2) + 1) 0 (-1) 0 1 p2 wS = m3 at hM Rt
      obtain ⟨bt, pR, wR⟩ := m3
      dsimp only at hC hM Rt
      rcases Rt with ⟨l1, l2, l3, l4, l5, l6, l7, l8⟩ | ⟨l1, l2⟩
      · rw [if_neg (show ¬ r24 = 0 by omega)] at hC
        rcases l8 with ⟨n1, n2, n3⟩ | ⟨n1, n2⟩
        · subst n1
          subst n3
          have hnx : f_XT_next mn pR t26 tf = f_XT_next mn p25 t26 tf := (e_nextTw mn tf pR t26 0 l5).trans (n2.trans (e_nextTw mn tf p25 0 t26 l3))
          exact fin p25 t26 pR fr1 (jset y6 (31 + zg) (fr1 zg)) (by omega) l3 l4 l5 hnx l6 l7 (fun g g1 g2 => by
            unfold jset
            by_cases e1 : g = zg
            · rw [if_pos (show 31 + g = 31 + zg by omega), e1]
            · rw [if_neg (show ¬ 31 + g = 31 + zg by omega), l6 g e1]; exact hR g g1 g2) C hC M hM
        · right
          have hMW : 0 ≤ M.2.1 := by
            rw [hM]
            exact e_J95W mth mn mp mu md mo tf mwi y1 y2 y3 y4 y5 y6 y7 zg jd a3 a4 a5 _ pR wR n1
          refine ⟨?_, hMW⟩
          -- the class stands before a digit: no limit, no ';'
          have hb2 := f_XT_next_b mn p25 t26 tf hmn ⟨by omega, l3⟩ (fun i => ⟨(hf i).1, by have := hf i; omega⟩)
          have hv2 := e_nextv mn p25 t26 tf hmn ⟨by omega, l3⟩
          have hI2 := e_nextI mn p25 t26 tf hmn ⟨by omega, l3⟩
          rw [e_nextTw mn tf p25 0 t26 l3] at n2
          generalize hn4 : f_XT_next mn p25 t26 tf = c4 at n2 hb2 hv2 hI2
          obtain ⟨r4, p4⟩ := c4
          dsimp only at n2 hb2 hv2 hI2
          have hr4 : r4 = tf p4 := by rw [← hv2, f_XT_here_s, if_pos n2.1]
          have n22 := n2.2
          have hL : f_XR_limits mn p25 t26 tf bg bf fq zg = (1, p4, t26, fq) := by
            rw [f_XR_limits_s, show Int.toNat (5 - 0) + 1 = 5 + 1 from rfl, f_XR_limits_L2_s, if_neg (show ¬ (4 : Int) < 0 by decide), f_XT_skipIf_s, hn4]
            dsimp only
            rw [if_neg (show ¬ r4 = 113 by omega)]
            dsimp only
            rw [if_pos rfl]
          rw [hL] at hC
          dsimp only at hC
          rw [if_neg (show ¬ (1 : Int) = 0 by decide)] at hC
          right
          rw [hC]
          dsimp only
          refine ⟨rfl, ?_⟩
          rw [f_XT_take_s, hI2]
          dsimp only
          rw [if_neg (show ¬ r4 = 59 by omega), f_XT_refuse_s]
      · rw [if_pos l1] at hC
        right
        refine ⟨Or.inl (by rw [hC]), ?_⟩
        rw [hM]
        exact e_J95W mth mn mp mu md mo tf mwi y1 y2 y3 y4 y5 y6 y7 zg jd a3 a4 a5 _ pR wR l2
  · rw [if_pos i1] at hC
    right
    refine ⟨Or.inl (by rw [hC]), ?_⟩
    rw [hM]
    exact e_lostS mth mn mp mw mu md mo tf mwi y1 y2 y3 y4 y5 y6 y7 zg jd hw pS wS a3 a4 a5 i2
end EQ11
