/-! the reference's reader beside the class's: a grade's row -/
def eBk (bg : Int) (ft fl fh fq fr y1 y2 y3 y4 y5 y6 y7 : Int → Int) : Prop := (0 ≤ bg ∧ bg < 2147483648) ∧ (∀ g, 1 ≤ g → g ≤ 30 → f_XG_hasBit bg g = y1 (31 + g)) ∧ (∀ g, 1 ≤ g → g ≤ 30 → ft g = y2 (31 + g)) ∧ eSp fl fh y3 y4 y5 ∧ (∀ g, 1 ≤ g → g ≤ 30 → fr g = y6 (31 + g)) ∧ eQl fq y7 ∧ (∀ g, 1 ≤ g → g ≤ 30 → f_XG_hasBit bg g = 0 → ft g = 0 ∧ fr g = 0 ∧ (∀ x, 0 ≤ x → x ≤ 7 → fh (g * 8 + x) = -1) ∧ (∀ x, 0 ≤ x → x ≤ 3 → fq (g * 4 + x) = -1))
section EQ12
variable (mth mn mp mw mu md mo : Int) (tf : Int → Int) (y1 y2 y3 y4 y5 y6 y7 : Int → Int)
theorem e_numP (tw : Int) (hmn : 0 ≤ mn ∧ mn ≤ 400) (hmp : 0 ≤ mp ∧ mp ≤ mn) (hf : ∀ i, 0 ≤ tf i ∧ tf i ≤ 255) (zl zm : Int) : (f_XT_number mn mp tw tf zl zm).1 ≠ -1 → mp < (f_XT_number mn mp tw tf zl zm).2.1 := by
  have hb := f_XT_next_b mn mp tw tf hmn hmp (fun i => ⟨(hf i).1, by have := hf i; omega⟩)
  have hv := e_nextv mn mp tw tf hmn hmp
  rw [f_XT_number_s]
  generalize f_XT_next mn mp tw tf = q at hb hv
  obtain ⟨r, p⟩ := q
  dsimp only at hb hv ⊢
  by_cases a : f_XG_isDigit r = 0
  · rw [if_pos a, f_XT_refuse_s]
    intro h
    exact absurd rfl h
  · have hr := f_XG_isDigit_01 r (by omega)
    rw [if_neg a, show Int.toNat (6 - 0) + 1 = 6 + 1 from rfl, e_L22, if_pos (show (0 : Int) < 6 by decide), if_neg (show ¬ f_XG_isDigit (f_XT_here mn p tw tf) = 0 by rw [hv]; exact a), if_neg (show ¬ (0 : Int) < 0 by decide)]
    intro _
    have := e_numML mn tw tf hmn mp zl zm 6 (0 * 10 + f_XT_here mn p tw tf - 48) (0 + 1) (p + 1) (by decide) (by decide) (by omega) (by omega)
    omega
theorem e_J37L (hw : mw < 0) (hmn : 0 ≤ mn ∧ mn ≤ 400) (r p w : Int) (h : eLost tf mn mw p w) : 0 ≤ (f_XM_gradeP_J37 mth mn mp mw mu md mo tf y1 y2 y3 y4 y5 y6 y7 r p w).2.1 := by
  rw [f_XM_gradeP_J37_s]
  rcases h with h | ⟨h1, h2, h3⟩
  · rw [if_neg (show ¬ w < 0 by omega)]
    exact h
  · rw [if_pos (show w < 0 by omega), e_digTakes mth mn p w mu md mo tf h3 h2 60 (by omega)]
    dsimp only
    rw [if_pos rfl]
    exact e_J70L mth mn mp mw mu md mo tf mw y1 y2 y3 y4 y5 y6 y7 r 0 hw hmn p w (Or.inr ⟨h1, h2, h3⟩)
set_option maxHeartbeats 2000000 in
theorem e_grade (hw : mw < 0) (hmw : -1 ≤ mw) (hmn : 0 ≤ mn ∧ mn ≤ 400) (hmp : 0 ≤ mp ∧ mp ≤ mn) (hf : ∀ i, 0 ≤ tf i ∧ tf i ≤ 255) (tw bg bf : Int) (ft fl fh fq fr : Int → Int) (hB : eBk bg ft fl fh fq fr y1 y2 y3 y4 y5 y6 y7) :
    ∀ C, C = f_XR_grade mn mp tw tf bg bf ft fl fh fq fr → ∀ M, M = f_XM_gradeP mth mn mp mw mu md mo tf y1 y2 y3 y4 y5 y6 y7 →
    (C.1 = 1 ∧ (f_XT_take mn C.2.1 C.2.2.1 tf 59).1 = 1 ∧ mp ≤ C.2.1 ∧ C.2.1 ≤ mn ∧ M.1 = (f_XT_take mn C.2.1 C.2.2.1 tf 59).2.1 ∧ M.2.1 = mw ∧ eBk C.2.2.2.2.2.2.2.2 C.2.2.2.1 C.2.2.2.2.1 C.2.2.2.2.2.1 C.2.2.2.2.2.2.1 C.2.2.2.2.2.2.2.1 M.2.2.1 M.2.2.2.1 M.2.2.2.2.1 M.2.2.2.2.2.1 M.2.2.2.2.2.2.1 M.2.2.2.2.2.2.2.1 M.2.2.2.2.2.2.2.2) ∨ ((C.1 = 0 ∨ (C.1 = 1 ∧ (f_XT_take mn C.2.1 C.2.2.1 tf 59).1 = 0)) ∧ 0 ≤ M.2.1) := by
  intro C hC M hM
  obtain ⟨f1, f2, f3, f4, f5, f6, f7⟩ := hB
  rw [f_XR_grade_s] at hC
  rw [f_XM_gradeP_s] at hM
  have eN := e_number mth mn mp mw mu md mo tw tf 1 30 hw (by omega) hmn hmp hf
  have nb := f_XT_number_b mn mp tw tf 1 30 hmn hmp (fun i => ⟨(hf i).1, by have := hf i; omega⟩) (by omega) (by omega)
  have nM := e_numM mn mp tw tf hmn hmp hf 1 30
  have nP := e_numP mn mp tf tw hmn hmp hf 1 30
  generalize f_XT_number mn mp tw tf 1 30 = c1 at hC eN nb nM nP
  obtain ⟨r, p1, t1⟩ := c1
  generalize f_XM_numberP mth mn mp mw mu md mo tf 1 30 = m1 at hM eN
  obtain ⟨s1, q1, v1⟩ := m1
  unfold eNum at eN
  dsimp only at hC hM eN nb nM nP
  rcases eN with ⟨a1, a2, a3⟩ | ⟨a1, a2⟩
  · cases a2
    have hne : ¬ r = -1 := by omega
    have hr : 1 ≤ r ∧ r ≤ 30 := by omega
    have hp1 := nP hne
    have hy := f2 r hr.1 hr.2
    rw [if_neg hne] at hC
    rw [if_pos hw] at hM
    have hkn : f_XB_knows bg bf r = 0 ↔ f_XG_hasBit bg r = 0 := by
      rw [f_XB_knows_s, if_neg (show ¬ r < 1 by omega), if_neg (show ¬ 30 < r by omega)]
      by_cases g : f_XG_hasBit bg r = 0
      · rw [if_pos g]; exact ⟨fun _ => g, fun _ => rfl⟩
      · rw [if_neg g]; exact ⟨fun h => absurd h (by decide), fun h => absurd h g⟩
    by_cases g : f_XG_hasBit bg r = 0
    · rw [if_pos (hkn.mpr g)] at hC
      rw [if_pos (show y1 (31 + r) = 0 by omega), f_XM_gradeP_J37_s, if_pos hw, e_takes mth mn p1 mw mu md mo t1 tf 60 hw (by omega)] at hM
      obtain ⟨u1, u2, u3, u4⟩ := f7 r hr.1 hr.2 g
      generalize hcP : f_XR_parent mn p1 t1 tf (f_XB_tellGrade bg bf r) bf ft r = cP at hC
      rw [f_XR_parent_s] at hcP
      have sk := e_skipM mn p1 t1 tf hmn ⟨by omega, by omega⟩ hf 60 (by decide)
      generalize f_XT_skipIf mn p1 t1 tf 60 = c2 at hcP hM sk
      obtain ⟨r2, p2⟩ := c2
      dsimp only at hcP hM sk
      have hbit : ∀ k, 1 ≤ k → k ≤ 30 → f_XG_hasBit (jor bg (jpow r)) k = if k = r then 1 else f_XG_hasBit bg k := fun k k1 _ => hb_or bg r k (by omega) (by omega)
      -- behind the parent
      have fin : ∀ (p t jd : Int) (ft1 : Int → Int), mp ≤ p → p ≤ mn → ft1 r = jd → (∀ k, k ≠ r → ft1 k = ft k) → ∀ C, C = eCrest mn tf (f_XB_tellGrade bg bf r) bf r p t ft1 fl fh fq fr → ∀ M, M = f_XM_gradeP_J70 mth mn mp mw mu md mo tf y1 y2 y3 y4 y5 y6 y7 r p mw jd →
          (C.1 = 1 ∧ (f_XT_take mn C.2.1 C.2.2.1 tf 59).1 = 1 ∧ mp ≤ C.2.1 ∧ C.2.1 ≤ mn ∧ M.1 = (f_XT_take mn C.2.1 C.2.2.1 tf 59).2.1 ∧ M.2.1 = mw ∧ eBk C.2.2.2.2.2.2.2.2 C.2.2.2.1 C.2.2.2.2.1 C.2.2.2.2.2.1 C.2.2.2.2.2.2.1 C.2.2.2.2.2.2.2.1 M.2.2.1 M.2.2.2.1 M.2.2.2.2.1 M.2.2.2.2.2.1 M.2.2.2.2.2.2.1 M.2.2.2.2.2.2.2.1 M.2.2.2.2.2.2.2.2) ∨ ((C.1 = 0 ∨ (C.1 = 1 ∧ (f_XT_take mn C.2.1 C.2.2.1 tf 59).1 = 0)) ∧ 0 ≤ M.2.1) := by
        intro p t jd ft1 j1 j2 j3 j4 C hC M hM
        rcases e_rest mth mn mp mw mu md mo tf mw y1 y2 y3 y4 y5 y6 y7 r jd hw hmw hmn hf hr (f_XB_tellGrade bg bf r) bf ft1 fl fh fq fr p t ⟨by omega, j2⟩ f4 u3 u2 f5 f6 u4 C hC M hM with ⟨k1, k2, k3, k4, k5, k6, k7, k8, k9, k10, k11, k12, k13, k14, k15, k16, k17⟩ | h
        · left
          refine ⟨k1, k2, by omega, k4, k11, k12, ?_⟩
          rw [k5, k6, k13, k14, f_XB_tellGrade_s]
          refine ⟨⟨jor_nn _ _, jor_lt f1.2 (jpow_lt (by omega))⟩, ?_, ?_, k15, k16, k17, ?_⟩
          · intro k l1 l2
            rw [hbit k l1 l2]
            unfold jset
            by_cases e1 : k = r
            · rw [if_pos e1, if_pos (show 31 + k = 31 + r by omega)]
            · rw [if_neg e1, if_neg (show ¬ 31 + k = 31 + r by omega)]; exact f2 k l1 l2
          · intro k l1 l2
            unfold jset
            by_cases e1 : k = r
            · rw [if_pos (show 31 + k = 31 + r by omega), e1]; exact j3
            · rw [if_neg (show ¬ 31 + k = 31 + r by omega), j4 k e1]; exact f3 k l1 l2
          · intro k l1 l2 h
            rw [hbit k l1 l2] at h
            by_cases e1 : k = r
            · rw [if_pos e1] at h; exact absurd h (by decide)
            · rw [if_neg e1] at h
              obtain ⟨o1, o2, o3, o4⟩ := f7 k l1 l2 h
              exact ⟨by rw [j4 k e1]; exact o1, by rw [k8 k e1]; exact o2, fun x x1 x2 => by rw [k7 k x l1 l2 e1 x1 x2]; exact o3 x x1 x2, fun x x1 x2 => by rw [k10 k x l1 l2 e1 x1 x2]; exact o4 x x1 x2⟩
        · right; exact h
      rcases sk.1 with s0 | s0
      · rw [if_pos s0] at hcP
        rw [if_pos s0] at hM
        subst hcP
        dsimp only at hC
        rw [if_neg (show ¬ (1 : Int) = 0 by decide)] at hC
        exact fin p2 t1 0 ft (by omega) (by omega) u1 (fun _ _ => rfl) C hC M hM
      · rw [if_neg (show ¬ r2 = 0 by omega)] at hcP
        rw [if_neg (show ¬ r2 = 0 by omega)] at hM
        have eN2 := e_number mth mn p2 mw mu md mo t1 tf 1 30 hw (by omega) hmn ⟨by omega, by omega⟩ hf
        have nM2 := e_numM mn p2 t1 tf hmn ⟨by omega, by omega⟩ hf 1 30
        generalize f_XT_number mn p2 t1 tf 1 30 = c3 at hcP eN2 nM2
        obtain ⟨r3, p3, t3⟩ := c3
        generalize f_XM_numberP mth mn p2 mw mu md mo tf 1 30 = m3 at hM eN2
        obtain ⟨s3, q3, v3⟩ := m3
        unfold eNum at eN2
        dsimp only at hcP hM eN2 nM2
        rcases eN2 with ⟨b1, b2, b3⟩ | ⟨b1, b2⟩
        · cases b2
          rw [if_neg (show ¬ r3 = -1 by omega), f_XB_tellParent_s] at hcP
          subst hcP
          dsimp only at hC
          rw [if_neg (show ¬ (1 : Int) = 0 by decide)] at hC
          exact fin p3 t3 r3 (jset ft r r3) (by omega) (by omega) (by unfold jset; rw [if_pos rfl]) (fun k hk => by unfold jset; rw [if_neg hk]) C hC M hM
        · rw [if_pos b1] at hcP
          subst hcP
          dsimp only at hC
          rw [if_pos rfl] at hC
          right
          refine ⟨Or.inl (by rw [hC]), ?_⟩
          rw [hM]
          exact e_J70L mth mn mp mw mu md mo tf mw y1 y2 y3 y4 y5 y6 y7 r s3 hw hmn q3 v3 b2
    · rw [if_neg (fun h => g (hkn.mp h)), f_XT_refuseLast_s] at hC
      right
      refine ⟨Or.inl (by rw [hC]), ?_⟩
      rw [if_neg (show ¬ y1 (31 + r) = 0 by omega), e_fail _ _ _ _ _ _ _ _ hw] at hM
      rw [hM]
      exact e_J37L mth mn mp mw mu md mo tf y1 y2 y3 y4 y5 y6 y7 hw hmn r p1 (p1 - 1) (Or.inl (by omega))
  · rw [if_pos a1] at hC
    right
    refine ⟨Or.inl (by rw [hC]), ?_⟩
    rcases a2 with a2 | ⟨a2, a3, a4⟩
    · rw [if_neg (show ¬ v1 < 0 by omega)] at hM
      rw [hM]
      exact e_J37L mth mn mp mw mu md mo tf y1 y2 y3 y4 y5 y6 y7 hw hmn s1 q1 v1 (Or.inl a2)
    · rw [if_pos (show v1 < 0 by omega)] at hM
      by_cases g : y1 (31 + s1) = 0
      · rw [if_pos g] at hM
        rw [hM]
        exact e_J37L mth mn mp mw mu md mo tf y1 y2 y3 y4 y5 y6 y7 hw hmn s1 q1 v1 (Or.inr ⟨a2, a3, a4⟩)
      · rw [if_neg g, e_fail _ _ _ _ _ _ _ _ (show v1 < 0 by omega)] at hM
        rw [hM]
        by_cases g2 : 0 ≤ q1 - 1
        · exact e_J37L mth mn mp mw mu md mo tf y1 y2 y3 y4 y5 y6 y7 hw hmn s1 q1 (q1 - 1) (Or.inl g2)
        · exact e_J37L mth mn mp mw mu md mo tf y1 y2 y3 y4 y5 y6 y7 hw hmn s1 q1 (q1 - 1) (Or.inr ⟨by omega, a3, a4⟩)
end EQ12
