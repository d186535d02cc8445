/-! the reference's reader beside the class's: formulas -/
def eD (yd w9 : Int → Int) : Prop := ∀ j x, 0 ≤ j → j ≤ 3 → 0 ≤ x → x ≤ 7 → yd (j * 8 + x) = w9 (8 * (4 + j) + x)
theorem eD_set {yd w9 : Int → Int} (h : eD yd w9) (zk x d : Int) (hk : 0 ≤ zk ∧ zk ≤ 3) (hx : 0 ≤ x ∧ x ≤ 7) : eD (jset yd (zk * 8 + x) d) (jset w9 (8 * (4 + zk) + x) d) := by
  intro j y a b c f
  unfold jset
  by_cases q : j = zk ∧ y = x
  · obtain ⟨rfl, rfl⟩ := q
    rw [if_pos rfl, if_pos rfl]
  · rw [if_neg (by omega), if_neg (by omega)]
    exact h j y a b c f
noncomputable def eFend (mth mn mu md mo : Int) (tf y8 : Int → Int) (zk w q : Int) (w9 : Int → Int) : Int × Int × (Int → Int) × (Int → Int) :=
  match f_XM_takeP mth mn q w mu md mo tf 59 with
  | (p, v) => if v < 0 then (p, v, jset y8 (4 + zk) 1, w9) else (p, v, y8, w9)
section EQ6
variable (mth mn mp mw mu md mo : Int) (tf : Int → Int) (mwi : Int) (y8 y9 : Int → Int)
theorem e_L56end (zk : Int) (n : Nat) (mk q w : Int) (w9 : Int → Int) : f_XM_formulaP_L56 mth mn mp mwi mu md mo tf y8 y9 zk (n + 1) mk 0 q w w9 = eFend mth mn mu md mo tf y8 zk w q w9 := by
  rw [f_XM_formulaP_L56_s, if_pos rfl]; rfl
theorem e_FendW (zk w q : Int) (w9 : Int → Int) (hw : 0 ≤ w) : 0 ≤ (eFend mth mn mu md mo tf y8 zk w q w9).2.1 := by
  unfold eFend
  rw [e_takeW mth mn q w mu md mo tf 59 hw]
  dsimp only
  rw [if_neg (by omega)]
  exact hw
theorem e_FendD (zk q : Int) (w9 : Int → Int) (hw : mw < 0) (hq : 0 ≤ q) (h : eDig tf mn q) : 0 ≤ (eFend mth mn mu md mo tf y8 zk mw q w9).2.1 := by
  unfold eFend
  rw [e_digTake mth mn q mw mu md mo tf h hq hw 59 (by omega)]
  dsimp only
  rw [if_neg (by omega)]
  exact hq
set_option maxHeartbeats 1000000 in
theorem e_terms (hw : mw < 0) (hmn : 0 ≤ mn ∧ mn ≤ 400) (hf : ∀ i, 0 ≤ tf i ∧ tf i ≤ 255) (tp tw bg bf : Int) (fd : Int → Int) (zk : Int) (hk : 0 ≤ zk ∧ zk ≤ 3) : ∀ (n m : Nat) (k q w mk : Int) (yd w9 : Int → Int), 9 - k < (n : Int) → mn - q < (m : Int) → 0 ≤ q → q ≤ mn → k = ecnt yd zk → (∀ x, 0 ≤ x → x ≤ 7 → (mbit mk x = 1 ↔ 0 < yd (zk * 8 + x))) → (∀ x, 0 ≤ x → x ≤ 7 → 0 ≤ yd (zk * 8 + x)) → eD yd w9 →
    ∀ C, C = f_XR_terms_L2 mn tp tw tf bg bf fd zk n k q w yd → ∀ M, M = f_XM_formulaP_L56 mth mn mp mwi mu md mo tf y8 y9 zk m mk 1 q mw w9 →
    (C.1 = 1 ∧ 0 ≤ C.2.1 ∧ C.2.1 ≤ mn ∧ q ≤ C.2.1 ∧ (∀ x, 0 ≤ x → x ≤ 7 → 0 ≤ C.2.2.2 (zk * 8 + x)) ∧ (∀ j x, 0 ≤ j → j ≤ 3 → j ≠ zk → 0 ≤ x → x ≤ 7 → C.2.2.2 (j * 8 + x) = yd (j * 8 + x)) ∧ ∃ w9', eD C.2.2.2 w9' ∧ M = eFend mth mn mu md mo tf y8 zk mw C.2.1 w9') ∨ (C.1 = 0 ∧ 0 ≤ M.2.1) := by
  intro n
  induction n with
  | zero => intro m k q w mk yd w9 h1 h2 h3 h4 h5; have := ecnt_le yd zk; omega
  | succ n ih =>
    intro m k q w mk yd w9 h1 h2 h3 h4 h5 h6 h6b h7 C hC M hM
    have hc := ecnt_le yd zk
    cases m with
    | zero => omega
    | succ m =>
    rw [f_XR_terms_L2_s, if_neg (by omega)] at hC
    rw [f_XM_formulaP_L56_s, if_neg (by decide)] at hM
    have eE := e_elem mth mn q mw mu md mo w tf hw hmn ⟨h3, h4⟩ hf mk
    have oM := e_oneM mn q w tf hmn ⟨h3, h4⟩ hf 65 8 (by decide)
    generalize f_XT_takeOneOf mn q w tf 65 8 = c1 at hC eE oM
    obtain ⟨r1, p1, t1⟩ := c1
    generalize f_XM_elementP mth mn q mw mu md mo tf mk = m1 at hM eE
    obtain ⟨s1, q1, v1⟩ := m1
    dsimp only at hC hM eE oM
    rcases eE with ⟨a1, a2⟩ | ⟨a1, a2, a3, ⟨a4, a5⟩ | ⟨a4, a5⟩⟩
    · cases a2
      rw [if_pos a1] at hC
      rw [if_pos (by decide), e_fail _ _ _ _ _ _ _ _ hw, if_neg (by omega)] at hM
      right
      rw [hC, hM]
      exact ⟨rfl, by show 0 ≤ p1; omega⟩
    · cases a5
      have hne : ¬ r1 = -1 := by omega
      have o2 := oM.2.2 hne
      have hz : yd (zk * 8 + r1) = 0 := by
        have i1 := h6b r1 a1 a2
        have i2 : ¬ 0 < yd (zk * 8 + r1) := fun h => a4 ((h6 r1 a1 a2).mpr h)
        omega
      rw [if_neg hne, f_XB_divisorOf_s, if_neg (by omega)] at hC
      rw [if_neg (show ¬ r1 < 0 by omega), if_pos hw, e_takes mth mn p1 mw mu md mo t1 tf 47 hw (by omega)] at hM
      have sk := e_skipM mn p1 t1 tf hmn ⟨by omega, by omega⟩ hf 47 (by decide)
      generalize f_XT_skipIf mn p1 t1 tf 47 = c2 at hC hM sk
      obtain ⟨r8, p2⟩ := c2
      dsimp only at hC hM sk
      have cont : ∀ (d p3 t3 : Int), 1 ≤ d → p1 ≤ p3 → p3 ≤ mn → ∀ C, C = (match f_XT_skipIf mn p3 t3 tf 43 with | (r16, p4) => if r16 = 0 then (1, p4, t3, f_XB_tellTerm bg bf yd zk r1 d) else f_XR_terms_L2 mn tp tw tf bg bf fd zk n (k + 1) p4 t3 (f_XB_tellTerm bg bf yd zk r1 d)) → ∀ M, M = (match f_XM_takesP mth mn p3 mw mu md mo tf 43 with | (r35, p5) => f_XM_formulaP_L56 mth mn mp mwi mu md mo tf y8 y9 zk m (mput mk r1) r35 p5 mw (jset w9 (8 * (4 + zk) + r1) d)) →
          (C.1 = 1 ∧ 0 ≤ C.2.1 ∧ C.2.1 ≤ mn ∧ q ≤ C.2.1 ∧ (∀ x, 0 ≤ x → x ≤ 7 → 0 ≤ C.2.2.2 (zk * 8 + x)) ∧ (∀ j x, 0 ≤ j → j ≤ 3 → j ≠ zk → 0 ≤ x → x ≤ 7 → C.2.2.2 (j * 8 + x) = yd (j * 8 + x)) ∧ ∃ w9', eD C.2.2.2 w9' ∧ M = eFend mth mn mu md mo tf y8 zk mw C.2.1 w9') ∨ (C.1 = 0 ∧ 0 ≤ M.2.1) := by
        intro d p3 t3 hd hp hp2 C hC M hM
        rw [e_takes mth mn p3 mw mu md mo t3 tf 43 hw hp2] at hM
        have sk3 := e_skipM mn p3 t3 tf hmn ⟨by omega, hp2⟩ hf 43 (by decide)
        generalize f_XT_skipIf mn p3 t3 tf 43 = c3 at hC hM sk3
        obtain ⟨r16, p4⟩ := c3
        dsimp only at hC hM sk3
        rw [f_XB_tellTerm_s] at hC
        have hD' := eD_set h7 zk r1 d hk ⟨a1, a2⟩
        have hfar : ∀ j x, 0 ≤ j → j ≤ 3 → j ≠ zk → 0 ≤ x → x ≤ 7 → jset yd (zk * 8 + r1) d (j * 8 + x) = yd (j * 8 + x) := fun j x _ _ hj _ _ => by
          unfold jset; rw [if_neg (by omega)]
        have hnn : ∀ x, 0 ≤ x → x ≤ 7 → 0 ≤ jset yd (zk * 8 + r1) d (zk * 8 + x) := fun x x1 x2 => by
          unfold jset
          have := h6b x x1 x2
          split <;> omega
        rcases sk3.1 with s0 | s0
        · rw [if_pos s0] at hC
          rw [s0] at hM
          cases m with
          | zero => omega
          | succ m =>
            rw [e_L56end] at hM
            left
            rw [hC, hM]
            exact ⟨rfl, by show 0 ≤ p4; omega, by show p4 ≤ mn; omega, by show q ≤ p4; omega, hnn, hfar, _, hD', rfl⟩
        · rw [if_neg (by omega)] at hC
          rw [s0] at hM
          have hn := ih m (k + 1) p4 t3 (mput mk r1) (jset yd (zk * 8 + r1) d) (jset w9 (8 * (4 + zk) + r1) d) (by omega) (by omega) (by omega) (by omega) (by rw [ecnt_set yd zk r1 d ⟨a1, a2⟩ hd hz]; omega) (fun x x1 x2 => by
            rw [mbit_put mk r1 x ⟨a1, a2⟩ ⟨x1, x2⟩]
            unfold jset
            by_cases g : x = r1
            · rw [if_pos g, if_pos (by omega)]; constructor <;> intro <;> first | omega | rfl
            · rw [if_neg g, if_neg (by omega)]; exact h6 x x1 x2) hnn hD' C hC M hM
          rcases hn with ⟨b1, b2, b3, b4, b0, b5, b6⟩ | hn
          · left
            exact ⟨b1, b2, b3, by omega, b0, fun j x j1 j2 j3 x1 x2 => (b5 j x j1 j2 j3 x1 x2).trans (hfar j x j1 j2 j3 x1 x2), b6⟩
          · right; exact hn
      rcases sk.1 with s0 | s0
      · rw [if_pos s0, if_neg (by decide)] at hC
        rw [if_pos s0] at hM
        exact cont 1 p2 t1 (by decide) (by omega) (by omega) C hC M hM
      · rw [if_neg (by omega)] at hC
        rw [if_neg (by omega)] at hM
        have eN := e_number mth mn p2 mw mu md mo t1 tf 1 20 hw (by omega) hmn ⟨by omega, by omega⟩ hf
        have nb := f_XT_number_b mn p2 t1 tf 1 20 hmn ⟨by omega, by omega⟩ (fun i => ⟨(hf i).1, by have := hf i; omega⟩) (by omega) (by omega)
        have nM := e_numM mn p2 t1 tf hmn ⟨by omega, by omega⟩ hf 1 20
        generalize f_XT_number mn p2 t1 tf 1 20 = c4 at hC eN nb nM
        obtain ⟨r22, p3, t3⟩ := c4
        generalize f_XM_numberP mth mn p2 mw mu md mo tf 1 20 = m4 at hM eN
        obtain ⟨s4, q4, v4⟩ := m4
        unfold eNum at eN
        dsimp only at hC hM eN nb nM
        rcases eN with ⟨b1, b2, b3⟩ | ⟨b1, b2⟩
        · cases b2
          rw [if_neg (by omega)] at hC
          exact cont r22 p3 t3 (by omega) (by omega) (by omega) C hC M hM
        · rw [if_pos b1] at hC
          right
          rw [hC]
          refine ⟨rfl, ?_⟩
          cases m with
          | zero => omega
          | succ m =>
          rcases b2 with b2 | ⟨b2, b3, b4⟩
          · rw [e_takesW mth mn q4 v4 mu md mo tf 43 b2] at hM
            dsimp only at hM
            rw [e_L56end] at hM
            rw [hM]
            exact e_FendW mth mn mu md mo tf y8 zk v4 q4 _ b2
          · rw [e_digTakes mth mn q4 v4 mu md mo tf b4 b3 43 (by omega)] at hM
            dsimp only at hM
            rw [e_L56end, b2] at hM
            rw [hM]
            exact e_FendD mth mn mw mu md mo tf y8 zk q4 _ hw b3 b4
    · have hne : ¬ r1 = -1 := by omega
      rw [if_neg hne, f_XB_divisorOf_s, if_pos ((h6 r1 a1 a2).mp a4), f_XT_refuseLast_s] at hC
      right
      rw [hC]
      refine ⟨rfl, ?_⟩
      by_cases g : s1 < 0
      · rw [if_pos g, e_failW _ _ _ _ _ _ _ _ a5, if_neg (by omega)] at hM
        rw [hM]; exact a5
      · rw [if_neg g, if_neg (by omega)] at hM
        rw [hM]; exact a5
end EQ6
