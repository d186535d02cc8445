/-! the reference's reader beside the class's: spans -/
def eSp (yl yh w3 w4 w5 : Int → Int) : Prop := ∀ g x, 1 ≤ g → g ≤ 30 → 0 ≤ x → x ≤ 7 → (yh (g * 8 + x) = -1 ∧ w3 (8 * (31 + g) + x) = 0) ∨ (0 ≤ yh (g * 8 + x) ∧ w3 (8 * (31 + g) + x) = 1 ∧ yl (g * 8 + x) = w4 (8 * (31 + g) + x) ∧ yh (g * 8 + x) = w5 (8 * (31 + g) + x))
theorem eSp_set {yl yh w3 w4 w5 : Int → Int} (h : eSp yl yh w3 w4 w5) (zg x lo hi : Int) (hg : 1 ≤ zg ∧ zg ≤ 30) (hx : 0 ≤ x ∧ x ≤ 7) (hh : 0 ≤ hi) : eSp (jset yl (zg * 8 + x) lo) (jset yh (zg * 8 + x) hi) (jset w3 (8 * (31 + zg) + x) 1) (jset w4 (8 * (31 + zg) + x) lo) (jset w5 (8 * (31 + zg) + x) hi) := by
  intro j y a b c f
  unfold jset
  by_cases q : j = zg ∧ y = x
  · obtain ⟨rfl, rfl⟩ := q
    right
    simp only [↓reduceIte]
    refine ⟨hh, ?_, ?_, ?_⟩ <;> first | rfl | trivial
  · rw [if_neg (show ¬ j * 8 + y = zg * 8 + x by omega), if_neg (show ¬ j * 8 + y = zg * 8 + x by omega), if_neg (show ¬ 8 * (31 + j) + y = 8 * (31 + zg) + x by omega), if_neg (show ¬ 8 * (31 + j) + y = 8 * (31 + zg) + x by omega), if_neg (show ¬ 8 * (31 + j) + y = 8 * (31 + zg) + x by omega)]
    exact h j y a b c f
def es (b : Int) : Int := if b = -1 then 0 else 1
theorem es_01 (b : Int) : es b = 0 ∨ es b = 1 := by unfold es; split <;> simp
def escnt (yh : Int → Int) (zg : Int) : Int := es (yh (zg * 8 + 0)) + es (yh (zg * 8 + 1)) + es (yh (zg * 8 + 2)) + es (yh (zg * 8 + 3)) + es (yh (zg * 8 + 4)) + es (yh (zg * 8 + 5)) + es (yh (zg * 8 + 6)) + es (yh (zg * 8 + 7))
theorem escnt_le (yh : Int → Int) (zg : Int) : 0 ≤ escnt yh zg ∧ escnt yh zg ≤ 8 := by
  unfold escnt
  have h0 := es_01 (yh (zg * 8 + 0)); have h1 := es_01 (yh (zg * 8 + 1)); have h2 := es_01 (yh (zg * 8 + 2)); have h3 := es_01 (yh (zg * 8 + 3))
  have h4 := es_01 (yh (zg * 8 + 4)); have h5 := es_01 (yh (zg * 8 + 5)); have h6 := es_01 (yh (zg * 8 + 6)); have h7 := es_01 (yh (zg * 8 + 7))
  omega
theorem es_set (yh : Int → Int) (zg x d y : Int) (hd : 0 ≤ d) (h : yh (zg * 8 + x) = -1) : es (jset yh (zg * 8 + x) d (zg * 8 + y)) = es (yh (zg * 8 + y)) + (if y = x then 1 else 0) := by
  unfold jset es
  by_cases a : y = x
  · subst a
    rw [if_pos rfl, if_neg (show ¬ d = -1 by omega), if_pos h, if_pos rfl]; rfl
  · rw [if_neg (show ¬ zg * 8 + y = zg * 8 + x by omega), if_neg a, Int.add_zero]
theorem escnt_set (yh : Int → Int) (zg x d : Int) (hx : 0 ≤ x ∧ x ≤ 7) (hd : 0 ≤ d) (h : yh (zg * 8 + x) = -1) : escnt (jset yh (zg * 8 + x) d) zg = escnt yh zg + 1 := by
  unfold escnt
  rw [es_set yh zg x d 0 hd h, es_set yh zg x d 1 hd h, es_set yh zg x d 2 hd h, es_set yh zg x d 3 hd h, es_set yh zg x d 4 hd h, es_set yh zg x d 5 hd h, es_set yh zg x d 6 hd h, es_set yh zg x d 7 hd h]
  rcases (show x = 0 ∨ x = 1 ∨ x = 2 ∨ x = 3 ∨ x = 4 ∨ x = 5 ∨ x = 6 ∨ x = 7 by omega) with rfl | rfl | rfl | rfl | rfl | rfl | rfl | rfl <;> simp <;> omega
/-- the reference is lost: it has gone wrong, or stands before a digit that nothing takes -/
def eLost (tf : Int → Int) (mn mw p v : Int) : Prop := 0 ≤ v ∨ (v = mw ∧ 0 ≤ p ∧ eDig tf mn p)
section EQ8
variable (mth mn mp mw mu md mo : Int) (tf : Int → Int) (mwi : Int) (y3 y4 y5 : Int → Int)
theorem e_numW (z1 z2 : Int) (p w : Int) (hw : 0 ≤ w) : f_XM_numberP mth mn p w mu md mo tf z1 z2 = (z1, p, w) := by rw [f_XM_numberP_s, if_neg (by omega)]
theorem e_elemW (mks p w : Int) (hw : 0 ≤ w) : f_XM_elementP mth mn p w mu md mo tf mks = (-1, p, w) := by rw [f_XM_elementP_s, if_neg (by omega)]
theorem e_L8end (z1 : Int) (n : Nat) (mks e9 k w : Int) (w3 w4 w5 : Int → Int) (h : e9 < 0 ∨ 0 ≤ w) : f_XM_spansP_L8 mth mn mp mwi mu md mo tf y3 y4 y5 z1 (n + 1) mks e9 k w w3 w4 w5 = (k, w, w3, w4, w5) := by
  rw [f_XM_spansP_L8_s]
  by_cases a : e9 < 0
  · rw [if_pos a]
  · rw [if_neg a, if_neg (by omega)]
theorem e_L8neg (z1 : Int) (n : Nat) (mks k w : Int) (w3 w4 w5 : Int → Int) : f_XM_spansP_L8 mth mn mp mwi mu md mo tf y3 y4 y5 z1 (n + 1) mks (-1) k w w3 w4 w5 = (k, w, w3, w4, w5) := e_L8end _ _ _ _ _ _ _ _ _ _ _ _ _ _ _ _ _ _ _ _ (Or.inl (by decide))
set_option maxHeartbeats 1000000 in
theorem e_spans (hw : mw < 0) (hmn : 0 ≤ mn ∧ mn ≤ 400) (hf : ∀ i, 0 ≤ tf i ∧ tf i ≤ 255) (tp tw bg bf : Int) (fl fh : Int → Int) (zg : Int) (hg : 1 ≤ zg ∧ zg ≤ 30) : ∀ (n m : Nat) (k q w mks : Int) (yl yh w3 w4 w5 : Int → Int), 9 - k < (n : Int) → mn - q + 1 < (m : Int) → 0 ≤ q → q ≤ mn → k = escnt yh zg → (∀ x, 0 ≤ x → x ≤ 7 → (mbit mks x = 1 ↔ yh (zg * 8 + x) ≠ -1)) → eSp yl yh w3 w4 w5 →
    ∀ C, C = f_XR_spans_L2 mn tp tw tf bg bf fl fh zg n k q w yl yh → ∀ M, M = (match f_XM_elementP mth mn q mw mu md mo tf mks with | (s, q1, v1) => f_XM_spansP_L8 mth mn mp mwi mu md mo tf y3 y4 y5 (31 + zg) m mks s q1 v1 w3 w4 w5) →
    (C.1 = 1 ∧ q ≤ C.2.1 ∧ C.2.1 ≤ mn ∧ M.1 = C.2.1 ∧ M.2.1 = mw ∧ eSp C.2.2.2.1 C.2.2.2.2 M.2.2.1 M.2.2.2.1 M.2.2.2.2 ∧ (∀ g x, 1 ≤ g → g ≤ 30 → g ≠ zg → 0 ≤ x → x ≤ 7 → C.2.2.2.2 (g * 8 + x) = yh (g * 8 + x))) ∨ (C.1 = 0 ∧ eLost tf mn mw M.1 M.2.1) := by
  intro n
  induction n with
  | zero => intro m k q w mks yl yh w3 w4 w5 h1 h2 h3 h4 h5; have := escnt_le yh zg; omega
  | succ n ih =>
    intro m k q w mks yl yh w3 w4 w5 h1 h2 h3 h4 h5 h6 h7 C hC M hM
    have hc := escnt_le yh zg
    cases m with
    | zero => omega
    | succ m =>
    cases m with
    | zero => omega
    | succ m =>
    rw [f_XR_spans_L2_s, if_neg (show ¬ 8 < k by omega)] at hC
    have hb := f_XT_next_b mn q w tf hmn ⟨h3, h4⟩ (fun i => ⟨(hf i).1, by have := hf i; omega⟩)
    have hv := e_nextv mn q w tf hmn ⟨h3, h4⟩
    have eE := e_elem mth mn q mw mu md mo w tf hw hmn ⟨h3, h4⟩ hf mks
    have hO := f_XT_takeOneOf_s mn q w tf 65 8
    have hI := e_nextI mn q w tf hmn ⟨h3, h4⟩
    generalize f_XT_next mn q w tf = c0 at hC hb hv hO hI
    obtain ⟨r, p0⟩ := c0
    dsimp only at hC hb hv hO hI
    have hEl := f_XG_isElement_01 r (by omega)
    by_cases g0 : f_XG_isElement r = 0
    · rw [if_pos g0] at hC
      have hO1 : f_XT_takeOneOf mn q w tf 65 8 = (-1, p0, p0) := by
        rw [hO]
        simp only [f_XT_refuse_s]
        by_cases a : r - 65 < 0
        · rw [if_pos a]
        · rw [if_neg a, if_neg (show ¬ r - 65 < 8 by omega)]
      rw [hO1] at eE
      dsimp only at eE
      rcases eE with ⟨a1, a2⟩ | ⟨a1, a2, a3, a4⟩
      · rw [a2] at hM
        dsimp only at hM
        rw [e_L8neg] at hM
        left
        rw [hC, hM]
        exact ⟨rfl, by dsimp only; omega, by dsimp only; omega, rfl, rfl, h7, fun _ _ _ _ _ _ _ => rfl⟩
      · omega
    · rw [if_neg g0] at hC
      have hO1 : f_XT_takeOneOf mn q w tf 65 8 = (r - 65, p0 + 1, w) := by
        rw [hO, if_neg (show ¬ r - 65 < 0 by omega), if_pos (show r - 65 < 8 by omega)]
      have hO2 : f_XT_takeOneOf mn p0 w tf 65 8 = (r - 65, p0 + 1, w) := by
        rw [f_XT_takeOneOf_s, hI]
        dsimp only
        rw [if_neg (show ¬ r - 65 < 0 by omega), if_pos (show r - 65 < 8 by omega)]
      rw [hO2] at hC
      rw [hO1] at eE
      dsimp only at hC eE
      rw [if_neg (show ¬ r - 65 = -1 by omega), f_XB_tellsSpan_s] at hC
      have hb2 := h6 (r - 65) (by omega) (by omega)
      have hp0 : p0 < mn := hb.2.2.2.2 (by omega)
      rcases eE with ⟨a1, a2⟩ | ⟨a1, a2, a3, ⟨a4, a5⟩ | ⟨a4, a5⟩⟩
      · omega
      · have hz : yh (zg * 8 + (r - 65)) = -1 := by
          by_cases i1 : yh (zg * 8 + (r - 65)) = -1
          · exact i1
          · exact absurd (hb2.mpr i1) a4
        rw [if_pos hz, if_pos rfl] at hC
        rw [a5] at hM
        dsimp only at hM
        rw [f_XM_spansP_L8_s, if_neg (show ¬ r - 65 < 0 by omega), if_pos hw] at hM
        -- the first number
        have eN := e_number mth mn (p0 + 1) mw mu md mo w tf 0 100000 hw (by omega) hmn ⟨by omega, by omega⟩ hf
        have nb := f_XT_number_b mn (p0 + 1) w tf 0 100000 hmn ⟨by omega, by omega⟩ (fun i => ⟨(hf i).1, by have := hf i; omega⟩) (by omega) (by omega)
        have nM := e_numM mn (p0 + 1) w tf hmn ⟨by omega, by omega⟩ hf 0 100000
        generalize f_XT_number mn (p0 + 1) w tf 0 100000 = c4 at hC eN nb nM
        obtain ⟨lo, p1, t1⟩ := c4
        generalize f_XM_numberP mth mn (p0 + 1) mw mu md mo tf 0 100000 = m4 at hM eN
        obtain ⟨s4, q4, v4⟩ := m4
        unfold eNum at eN
        dsimp only at hC hM eN nb nM
        have jat : jset w4 (8 * (31 + zg) + (r - 65)) s4 (8 * (31 + zg) + (r - 65)) = s4 := by unfold jset; rw [if_pos rfl]
        rw [jat] at hM
        have lostW : ∀ (p v : Int) (s5 : Int), 0 ≤ v → M = (match f_XM_numberP mth mn p v mu md mo tf s5 100000 with | (r24, p24, w24) => match f_XM_elementP mth mn p24 w24 mu md mo tf (mput mks (r - 65)) with | (r34, p34, w34) => f_XM_spansP_L8 mth mn mp mwi mu md mo tf y3 y4 y5 (31 + zg) (m + 1) (mput mks (r - 65)) r34 p34 w34 (jset w3 (8 * (31 + zg) + (r - 65)) 1) (jset w4 (8 * (31 + zg) + (r - 65)) s4) (jset w5 (8 * (31 + zg) + (r - 65)) r24)) → eLost tf mn mw M.1 M.2.1 := by
          intro p v s5 hv9 h9
          rw [e_numW mth mn mu md mo tf s5 100000 p v hv9] at h9
          dsimp only at h9
          rw [e_elemW mth mn mu md mo tf _ p v hv9] at h9
          dsimp only at h9
          rw [e_L8neg] at h9
          rw [h9]
          exact Or.inl hv9
        rcases eN with ⟨b1, b2, b3⟩ | ⟨b1, b2⟩
        · cases b2
          rw [if_neg (show ¬ lo = -1 by omega)] at hC
          have eT := e_take mth mn p1 mw mu md mo t1 tf 45 hw (by omega)
          have tM := e_takeM mn p1 t1 tf hmn ⟨by omega, by omega⟩ hf 45 (by decide)
          generalize f_XT_take mn p1 t1 tf 45 = c5 at hC eT tM
          obtain ⟨r5, p2, t2⟩ := c5
          generalize f_XM_takeP mth mn p1 mw mu md mo tf 45 = m5 at hM eT
          obtain ⟨q5, v5⟩ := m5
          dsimp only at hC hM eT tM
          rcases eT with ⟨d1, d2, d3⟩ | ⟨d1, d3⟩
          · cases d3
            rw [if_neg (show ¬ r5 = 0 by omega)] at hC
            have eN2 := e_number mth mn p2 mw mu md mo t2 tf lo 100000 hw (by omega) hmn ⟨by omega, by omega⟩ hf
            have nb2 := f_XT_number_b mn p2 t2 tf lo 100000 hmn ⟨by omega, by omega⟩ (fun i => ⟨(hf i).1, by have := hf i; omega⟩) (by omega) (by omega)
            have nM2 := e_numM mn p2 t2 tf hmn ⟨by omega, by omega⟩ hf lo 100000
            generalize f_XT_number mn p2 t2 tf lo 100000 = c6 at hC eN2 nb2 nM2
            obtain ⟨hi, p3, t3⟩ := c6
            generalize f_XM_numberP mth mn p2 mw mu md mo tf lo 100000 = m6 at hM eN2
            obtain ⟨s6, q6, v6⟩ := m6
            unfold eNum at eN2
            dsimp only at hC hM eN2 nb2 nM2
            rcases eN2 with ⟨f1, f2, f3⟩ | ⟨f1, f2⟩
            · cases f2
              rw [if_neg (show ¬ hi = -1 by omega), f_XB_tellSpan_s] at hC
              dsimp only at hC
              have hn := ih (m + 1) (k + 1) p3 t3 (mput mks (r - 65)) (jset yl (zg * 8 + (r - 65)) lo) (jset yh (zg * 8 + (r - 65)) hi) (jset w3 (8 * (31 + zg) + (r - 65)) 1) (jset w4 (8 * (31 + zg) + (r - 65)) lo) (jset w5 (8 * (31 + zg) + (r - 65)) hi) (by omega) (by omega) (by omega) (by omega) (by rw [escnt_set yh zg (r - 65) hi ⟨by omega, by omega⟩ (by omega) hz]; omega) (fun x x1 x2 => by
                rw [mbit_put mks (r - 65) x ⟨by omega, by omega⟩ ⟨x1, x2⟩]
                unfold jset
                by_cases g : x = r - 65
                · rw [if_pos g, if_pos (show zg * 8 + x = zg * 8 + (r - 65) by omega)]; constructor <;> intro <;> first | omega | rfl
                · rw [if_neg g, if_neg (show ¬ zg * 8 + x = zg * 8 + (r - 65) by omega)]; exact h6 x x1 x2) (eSp_set h7 zg (r - 65) lo hi hg ⟨by omega, by omega⟩ (by omega)) C hC M hM
              rcases hn with ⟨i1, i2, i3, i4, i5, i6, i7⟩ | hn
              · left
                refine ⟨i1, by omega, i3, i4, i5, i6, fun g x g1 g2 g3 x1 x2 => ?_⟩
                rw [i7 g x g1 g2 g3 x1 x2]
                unfold jset
                rw [if_neg (show ¬ g * 8 + x = zg * 8 + (r - 65) by omega)]
              · right; exact hn
            · rw [if_pos f1] at hC
              right
              refine ⟨by rw [hC], ?_⟩
              rcases f2 with f2 | ⟨f2, f3, f4⟩
              · rw [e_elemW mth mn mu md mo tf _ q6 v6 f2] at hM
                dsimp only at hM
                rw [e_L8neg] at hM
                rw [hM]
                exact Or.inl f2
              · rw [e_digElem mth mn q6 v6 mu md mo tf f4 f3] at hM
                dsimp only at hM
                rw [e_L8neg] at hM
                rw [hM]
                exact Or.inr ⟨f2, f3, f4⟩
          · cases d3
            rw [if_pos d1] at hC
            right
            exact ⟨by rw [hC], lostW p2 p2 lo (by omega) hM⟩
        · rw [if_pos b1] at hC
          right
          refine ⟨by rw [hC], ?_⟩
          rcases b2 with b2 | ⟨b2, b3, b4⟩
          · rw [e_takeW mth mn q4 v4 mu md mo tf 45 b2] at hM
            dsimp only at hM
            exact lostW q4 v4 s4 b2 hM
          · rw [e_digTake mth mn q4 v4 mu md mo tf b4 b3 (by omega) 45 (by omega)] at hM
            dsimp only at hM
            exact lostW q4 q4 s4 b3 hM
      · rw [if_neg (hb2.mp a4), if_neg (show ¬ (1 : Int) = 0 by decide), f_XT_refuseLast_s] at hC
        right
        refine ⟨by rw [hC], ?_⟩
        generalize f_XM_elementP mth mn q mw mu md mo tf mks = m1 at hM a5
        obtain ⟨s1, q1, v1⟩ := m1
        dsimp only at hM a5
        rw [e_L8end (h := Or.inr a5)] at hM
        rw [hM]
        exact Or.inl a5
end EQ8
