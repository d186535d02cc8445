/-! the reference's reader beside the class's: limits -/
def eQl (yq w7 : Int → Int) : Prop := ∀ g k, 1 ≤ g → g ≤ 30 → 0 ≤ k → k ≤ 3 → yq (g * 4 + k) = w7 (4 * (31 + g) + k)
theorem eQl_set {yq w7 : Int → Int} (h : eQl yq w7) (zg x d : Int) (hg : 1 ≤ zg ∧ zg ≤ 30) (hx : 0 ≤ x ∧ x ≤ 3) : eQl (jset yq (zg * 4 + x) d) (jset w7 (4 * (31 + zg) + x) d) := by
  intro j y a b c f
  unfold jset
  by_cases q : j = zg ∧ y = x
  · obtain ⟨rfl, rfl⟩ := q
    rw [if_pos rfl, if_pos rfl]
  · rw [if_neg (show ¬ j * 4 + y = zg * 4 + x by omega), if_neg (show ¬ 4 * (31 + j) + y = 4 * (31 + zg) + x by omega)]
    exact h j y a b c f
def eqcnt (yq : Int → Int) (zg : Int) : Int := es (yq (zg * 4 + 0)) + es (yq (zg * 4 + 1)) + es (yq (zg * 4 + 2)) + es (yq (zg * 4 + 3))
theorem eqcnt_le (yq : Int → Int) (zg : Int) : 0 ≤ eqcnt yq zg ∧ eqcnt yq zg ≤ 4 := by
  unfold eqcnt
  have h0 := es_01 (yq (zg * 4 + 0)); have h1 := es_01 (yq (zg * 4 + 1)); have h2 := es_01 (yq (zg * 4 + 2)); have h3 := es_01 (yq (zg * 4 + 3))
  omega
theorem esq_set (yq : Int → Int) (zg x d y : Int) (hd : 0 ≤ d) (h : yq (zg * 4 + x) = -1) : es (jset yq (zg * 4 + x) d (zg * 4 + y)) = es (yq (zg * 4 + y)) + (if y = x then 1 else 0) := by
  unfold jset es
  by_cases a : y = x
  · subst a
    rw [if_pos rfl, if_neg (show ¬ d = -1 by omega), if_pos h, if_pos rfl]; rfl
  · rw [if_neg (show ¬ zg * 4 + y = zg * 4 + x by omega), if_neg a, Int.add_zero]
theorem eqcnt_set (yq : Int → Int) (zg x d : Int) (hx : 0 ≤ x ∧ x ≤ 3) (hd : 0 ≤ d) (h : yq (zg * 4 + x) = -1) : eqcnt (jset yq (zg * 4 + x) d) zg = eqcnt yq zg + 1 := by
  unfold eqcnt
  rw [esq_set yq zg x d 0 hd h, esq_set yq zg x d 1 hd h, esq_set yq zg x d 2 hd h, esq_set yq zg x d 3 hd h]
  rcases (show x = 0 ∨ x = 1 ∨ x = 2 ∨ x = 3 by omega) with rfl | rfl | rfl | rfl <;> simp <;> omega
noncomputable def eGend (mth mn mu md mo : Int) (tf y1 y2 : Int → Int) (r jd : Int) (u3 u4 u5 w6 : Int → Int) (w p : Int) (w7 : Int → Int) : Int × Int × (Int → Int) × (Int → Int) × (Int → Int) × (Int → Int) × (Int → Int) × (Int → Int) × (Int → Int) :=
  match f_XM_takeP mth mn p w mu md mo tf 59 with
  | (p1, w1) => if w1 < 0 then (p1, w1, jset y1 (31 + r) 1, jset y2 (31 + r) jd, u3, u4, u5, w6, w7) else (p1, w1, y1, jset y2 (31 + r) jd, u3, u4, u5, w6, w7)
section EQ10
variable (mth mn mp mw mu md mo : Int) (tf : Int → Int) (mwi : Int) (y1 y2 y3 y4 y5 y6 y7 : Int → Int) (zg jd : Int) (u3 u4 u5 w6 : Int → Int)
theorem e_skipN (p q w z1 : Int) (h : f_XT_next mn p w tf = f_XT_next mn q w tf) : f_XT_skipIf mn p w tf z1 = f_XT_skipIf mn q w tf z1 := by
  rw [f_XT_skipIf_s, h, f_XT_skipIf_s]
theorem e_GendW (w p : Int) (w7 : Int → Int) (hw : 0 ≤ w) : 0 ≤ (eGend mth mn mu md mo tf y1 y2 zg jd u3 u4 u5 w6 w p w7).2.1 := by
  unfold eGend
  rw [e_takeW mth mn p w mu md mo tf 59 hw]
  dsimp only
  rw [if_neg (show ¬ w < 0 by omega)]
  exact hw
theorem e_GendD (p : Int) (w7 : Int → Int) (hw : mw < 0) (hp : 0 ≤ p) (h : eDig tf mn p) : 0 ≤ (eGend mth mn mu md mo tf y1 y2 zg jd u3 u4 u5 w6 mw p w7).2.1 := by
  unfold eGend
  rw [e_digTake mth mn p mw mu md mo tf h hp hw 59 (by omega)]
  dsimp only
  rw [if_neg (show ¬ p < 0 by omega)]
  exact hp
theorem e_L97W (n : Nat) (mks p w : Int) (w7 : Int → Int) (hw : 0 ≤ w) : 0 ≤ (f_XM_gradeP_L97 mth mn mp mwi mu md mo tf y1 y2 y3 y4 y5 y6 y7 zg jd u3 u4 u5 w6 (n + 1) mks p w w7).2.1 := by
  rw [f_XM_gradeP_L97_s, e_takesW mth mn p w mu md mo tf 113 hw]
  dsimp only
  rw [if_pos rfl]
  exact e_GendW mth mn mu md mo tf y1 y2 zg jd u3 u4 u5 w6 w p w7 hw
theorem e_L97D (n : Nat) (mks p : Int) (w7 : Int → Int) (hw : mw < 0) (hp : 0 ≤ p) (h : eDig tf mn p) : 0 ≤ (f_XM_gradeP_L97 mth mn mp mwi mu md mo tf y1 y2 y3 y4 y5 y6 y7 zg jd u3 u4 u5 w6 (n + 1) mks p mw w7).2.1 := by
  rw [f_XM_gradeP_L97_s, e_digTakes mth mn p mw mu md mo tf h hp 113 (by omega)]
  dsimp only
  rw [if_pos rfl]
  exact e_GendD mth mn mw mu md mo tf y1 y2 zg jd u3 u4 u5 w6 p w7 hw hp h
set_option maxHeartbeats 1000000 in
theorem e_limits (hw : mw < 0) (hmn : 0 ≤ mn ∧ mn ≤ 400) (hf : ∀ i, 0 ≤ tf i ∧ tf i ≤ 255) (tp tw bg bf : Int) (fq : Int → Int) (hg : 1 ≤ zg ∧ zg ≤ 30) : ∀ (n m : Nat) (k q w p mks : Int) (yq w7 : Int → Int), 5 - k < (n : Int) → mn - p < (m : Int) → 0 ≤ q → q ≤ mn → 0 ≤ p → p ≤ mn → k = eqcnt yq zg → (∀ x, 0 ≤ x → x ≤ 3 → (mbit mks x = 1 ↔ yq (zg * 4 + x) ≠ -1)) → eQl yq w7 → f_XT_next mn p w tf = f_XT_next mn q w tf →
    ∀ C, C = f_XR_limits_L2 mn tp tw tf bg bf fq zg n k q w yq → ∀ M, M = f_XM_gradeP_L97 mth mn mp mwi mu md mo tf y1 y2 y3 y4 y5 y6 y7 zg jd u3 u4 u5 w6 m mks p mw w7 →
    (C.1 = 1 ∧ q ≤ C.2.1 ∧ C.2.1 ≤ mn ∧ (∀ g x, 1 ≤ g → g ≤ 30 → g ≠ zg → 0 ≤ x → x ≤ 3 → C.2.2.2 (g * 4 + x) = yq (g * 4 + x)) ∧ ∃ w7', eQl C.2.2.2 w7' ∧ M = eGend mth mn mu md mo tf y1 y2 zg jd u3 u4 u5 w6 mw C.2.1 w7') ∨ (C.1 = 0 ∧ 0 ≤ M.2.1) := by
  intro n
  induction n with
  | zero => intro m k q w p mks yq w7 h1 h2 h3 h4 h5 h6 h7; have := eqcnt_le yq zg; omega
  | succ n ih =>
    intro m k q w p mks yq w7 h1 h2 h3 h4 h5 h6 h7 h8 h9 h10 C hC M hM
    have hc := eqcnt_le yq zg
    cases m with
    | zero => omega
    | succ m =>
    rw [f_XR_limits_L2_s, if_neg (show ¬ 4 < k by omega)] at hC
    rw [f_XM_gradeP_L97_s, e_takes mth mn p mw mu md mo w tf 113 hw h6, e_skipN mn tf p q w 113 h10] at hM
    have sk := e_skipM mn q w tf hmn ⟨h3, h4⟩ hf 113 (by decide)
    have skp := e_skipM mn p w tf hmn ⟨h5, h6⟩ hf 113 (by decide)
    rw [e_skipN mn tf p q w 113 h10] at skp
    generalize f_XT_skipIf mn q w tf 113 = c0 at hC hM sk skp
    obtain ⟨r0, p0⟩ := c0
    dsimp only at hC hM sk skp
    rcases sk.1 with s0 | s0
    · rw [if_pos s0] at hC
      rw [if_pos s0] at hM
      left
      rw [hC]
      exact ⟨rfl, by dsimp only; omega, by dsimp only; omega, fun _ _ _ _ _ _ _ => rfl, w7, h9, hM⟩
    · rw [if_neg (show ¬ r0 = 0 by omega)] at hC
      rw [if_neg (show ¬ r0 = 0 by omega)] at hM
      have hm1 : ∃ m', m = m' + 1 := by
        cases m with
        | zero => omega
        | succ m => exact ⟨m, rfl⟩
      obtain ⟨m', rfl⟩ := hm1
      have eK := e_kind mth mn p0 mw mu md mo w tf hw hmn ⟨by omega, by omega⟩ hf
      have oM := e_oneM mn p0 w tf hmn ⟨by omega, by omega⟩ hf 48 4 (by decide)
      generalize f_XT_takeOneOf mn p0 w tf 48 4 = c1 at hC eK oM
      obtain ⟨r1, p1, t1⟩ := c1
      generalize f_XM_numberP mth mn p0 mw mu md mo tf 0 3 = m1 at hM eK
      obtain ⟨s1, q1, v1⟩ := m1
      dsimp only at hC hM eK oM
      have lostM : 0 ≤ v1 → 0 ≤ M.2.1 := by
        intro h
        rw [if_neg (show ¬ v1 < 0 by omega), e_takeW mth mn q1 v1 mu md mo tf 60 h] at hM
        dsimp only at hM
        rw [e_numW mth mn mu md mo tf 0 999999 q1 v1 h] at hM
        dsimp only at hM
        rw [hM]
        exact e_L97W mth mn mp mu md mo tf mwi y1 y2 y3 y4 y5 y6 y7 zg jd u3 u4 u5 w6 m' _ q1 v1 _ h
      rcases eK with ⟨a1, a2⟩ | ⟨a1, a2, a3⟩ | ⟨a1, a2, a3, a4⟩
      · right
        rw [if_pos a1] at hC
        exact ⟨by rw [hC], lostM a2⟩
      · cases a3
        have hne : ¬ r1 = -1 := by omega
        have o2 := oM.2.2 hne
        have hb2 := h8 r1 a1 a2
        rw [if_neg hne, f_XB_tellsLimit_s] at hC
        rw [if_pos hw] at hM
        by_cases g : yq (zg * 4 + r1) = -1
        · have hmb : ¬ mbit mks r1 = 1 := fun h => (hb2.mp h) g
          rw [if_pos g, if_pos rfl] at hC
          rw [if_neg (show ¬ (jI ((jI mks >>> (jI r1 &&& 31)).toInt) &&& jI 1).toInt = 1 from hmb)] at hM
          have eT := e_take mth mn p1 mw mu md mo t1 tf 60 hw (by omega)
          have tM := e_takeM mn p1 t1 tf hmn ⟨by omega, by omega⟩ hf 60 (by decide)
          generalize f_XT_take mn p1 t1 tf 60 = c2 at hC eT tM
          obtain ⟨r4, p2, t2⟩ := c2
          generalize f_XM_takeP mth mn p1 mw mu md mo tf 60 = m2 at hM eT
          obtain ⟨q2, v2⟩ := m2
          dsimp only at hC hM eT tM
          rcases eT with ⟨b1, b2, b3⟩ | ⟨b1, b3⟩
          · cases b3
            rw [if_neg (show ¬ r4 = 0 by omega)] at hC
            have eN := e_number mth mn p2 mw mu md mo t2 tf 0 999999 hw (by omega) hmn ⟨by omega, by omega⟩ hf
            have nb := f_XT_number_b mn p2 t2 tf 0 999999 hmn ⟨by omega, by omega⟩ (fun i => ⟨(hf i).1, by have := hf i; omega⟩) (by omega) (by omega)
            have nM := e_numM mn p2 t2 tf hmn ⟨by omega, by omega⟩ hf 0 999999
            generalize f_XT_number mn p2 t2 tf 0 999999 = c3 at hC eN nb nM
            obtain ⟨d, p3, t3⟩ := c3
            generalize f_XM_numberP mth mn p2 mw mu md mo tf 0 999999 = m3 at hM eN
            obtain ⟨s3, q3, v3⟩ := m3
            unfold eNum at eN
            dsimp only at hC hM eN nb nM
            rcases eN with ⟨f1, f2, f3⟩ | ⟨f1, f2⟩
            · cases f2
              rw [if_neg (show ¬ d = -1 by omega), f_XB_tellLimit_s] at hC
              have hn := ih (m' + 1) (k + 1) p3 t3 p3 (mput mks r1) (jset yq (zg * 4 + r1) d) (jset w7 (4 * (31 + zg) + r1) d) (by omega) (by omega) (by omega) (by omega) (by omega) (by omega) (by rw [eqcnt_set yq zg r1 d ⟨a1, a2⟩ (by omega) g]; omega) (fun x x1 x2 => by
                rw [mbit_put mks r1 x ⟨a1, by omega⟩ ⟨x1, by omega⟩]
                unfold jset
                by_cases g9 : x = r1
                · rw [if_pos g9, if_pos (show zg * 4 + x = zg * 4 + r1 by omega)]; constructor <;> intro <;> first | omega | rfl
                · rw [if_neg g9, if_neg (show ¬ zg * 4 + x = zg * 4 + r1 by omega)]; exact h8 x x1 x2) (eQl_set h9 zg r1 d hg ⟨a1, a2⟩) rfl C hC M hM
              rcases hn with ⟨i1, i2, i3, i4, i5⟩ | hn
              · left
                refine ⟨i1, by omega, i3, fun g x g1 g2 g3 x1 x2 => ?_, i5⟩
                rw [i4 g x g1 g2 g3 x1 x2]
                unfold jset
                rw [if_neg (show ¬ g * 4 + x = zg * 4 + r1 by omega)]
              · right; exact hn
            · rw [if_pos f1] at hC
              right
              refine ⟨by rw [hC], ?_⟩
              rw [hM]
              rcases f2 with f2 | ⟨f2, f3, f4⟩
              · exact e_L97W mth mn mp mu md mo tf mwi y1 y2 y3 y4 y5 y6 y7 zg jd u3 u4 u5 w6 m' _ q3 v3 _ f2
              · rw [f2]
                exact e_L97D mth mn mp mw mu md mo tf mwi y1 y2 y3 y4 y5 y6 y7 zg jd u3 u4 u5 w6 m' _ q3 _ hw f3 f4
          · cases b3
            rw [if_pos b1] at hC
            right
            refine ⟨by rw [hC], ?_⟩
            rw [e_numW mth mn mu md mo tf 0 999999 p2 p2 (by omega)] at hM
            dsimp only at hM
            rw [hM]
            exact e_L97W mth mn mp mu md mo tf mwi y1 y2 y3 y4 y5 y6 y7 zg jd u3 u4 u5 w6 m' _ p2 p2 _ (by omega)
        · rw [if_neg g, if_neg (show ¬ (1 : Int) = 0 by decide), f_XT_refuseLast_s] at hC
          right
          refine ⟨by rw [hC], ?_⟩
          rw [if_pos (show (jI ((jI mks >>> (jI r1 &&& 31)).toInt) &&& jI 1).toInt = 1 from hb2.mpr g), e_fail _ _ _ _ _ _ _ _ hw, e_takeW mth mn p1 (p1 - 1) mu md mo tf 60 (by omega)] at hM
          dsimp only at hM
          rw [e_numW mth mn mu md mo tf 0 999999 p1 (p1 - 1) (by omega)] at hM
          dsimp only at hM
          rw [hM]
          exact e_L97W mth mn mp mu md mo tf mwi y1 y2 y3 y4 y5 y6 y7 zg jd u3 u4 u5 w6 m' _ p1 (p1 - 1) _ (by omega)
      · right
        have hne : ¬ r1 = -1 := by omega
        have o2 := oM.2.2 hne
        refine ⟨?_, lostM a3⟩
        rw [if_neg hne] at hC
        by_cases g : f_XB_tellsLimit bg bf yq zg r1 = 0
        · have g2 := a4.2
          have hT : f_XT_take mn p1 t1 tf 60 = (0, p1, p1) := by
            rw [f_XT_take_s, e_digNext mn p1 t1 tf a4 (by omega)]
            dsimp only
            rw [if_neg (show ¬ tf p1 = 60 by omega), f_XT_refuse_s]
          rw [if_pos g, hT] at hC
          dsimp only at hC
          rw [if_pos rfl] at hC
          rw [hC]
        · rw [if_neg g, f_XT_refuseLast_s] at hC
          rw [hC]
end EQ10
