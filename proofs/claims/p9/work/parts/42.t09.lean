/-! the reference's reader beside the class's: routes -/
theorem mput_or (a d : Int) (ha : 0 ≤ a ∧ a < 2147483648) (hd : 0 ≤ d ∧ d ≤ 7) : mput a d = jor a (jpow d) := by
  unfold mput
  have h1 := jor_nn a (jpow d)
  have h2 := jor_lt ha.2 (jpow_lt (show d < 31 by omega))
  have h3 := jpow_pos d
  rw [jI_shl1 hd.1 (by omega), jI_ti, jI_or ha.1 (by omega)]
  exact jI_toInt (by omega)
section EQ9
variable (mth mn mp mw mu md mo : Int) (tf : Int → Int) (mwi : Int)
theorem e_nextTw (q t1 t2 : Int) (h : q ≤ mn) : f_XT_next mn q t1 tf = f_XT_next mn q t2 tf := (e_see 0 mn q 0 0 0 0 t1 tf h).symm.trans (e_see 0 mn q 0 0 0 0 t2 tf h)
theorem e_L9zero (n : Nat) (bt la k9 p w : Int) : f_XM_routeRowP_L9 mth mn mp mwi mu md mo tf (n + 1) bt la k9 0 p w = (bt, p, w) := by rw [f_XM_routeRowP_L9_s, if_pos rfl]
set_option maxHeartbeats 1000000 in
theorem e_routesL (hw : mw < 0) (hmn : 0 ≤ mn ∧ mn ≤ 400) (hf : ∀ i, 0 ≤ tf i ∧ tf i ≤ 255) (tp tw bg bf : Int) (fr : Int → Int) (zg : Int) : ∀ (n m : Nat) (k v q w p mo9 : Int) (yr : Int → Int), 4 - k < (n : Int) → mn - p < (m : Int) → 0 ≤ k → k ≤ 4 → 0 ≤ q → q ≤ mn → 0 ≤ p → p ≤ mn → -1 ≤ v → v ≤ 7 → (k = 0 → v = -1) → (0 ≤ yr zg ∧ yr zg < 2147483648) → f_XT_next mn p w tf = f_XT_next mn q w tf → ((k = 0 ∧ mo9 = 1) ∨ (0 < k ∧ p = (f_XT_next mn q w tf).2 ∧ mo9 = f_XM_isDigit mth mn p mw mu md mo tf)) →
    ∀ C, C = f_XR_routes_L19 mn tp tw tf bg bf fr zg n k v q w yr → ∀ M, M = f_XM_routeRowP_L9 mth mn mp mwi mu md mo tf m (yr zg) v k mo9 p mw →
    (C.1 = 1 ∧ q ≤ C.2.1 ∧ C.2.1 ≤ mn ∧ 0 ≤ M.2.1 ∧ M.2.1 ≤ mn ∧ (∀ g, g ≠ zg → C.2.2.2 g = yr g) ∧ (0 ≤ C.2.2.2 zg ∧ C.2.2.2 zg < 2147483648) ∧ ((M.2.2 = mw ∧ f_XT_next mn M.2.1 0 tf = f_XT_next mn C.2.1 0 tf ∧ M.1 = C.2.2.2 zg) ∨ (0 ≤ M.2.2 ∧ eDig tf mn (f_XT_next mn C.2.1 0 tf).2))) ∨ (C.1 = 0 ∧ 0 ≤ M.2.2) := by
  intro n
  induction n with
  | zero => intro m k v q w p mo9 yr h1 h2 h3 h4; omega
  | succ n ih =>
    intro m k v q w p mo9 yr h1 h2 h3 h4 h5 h6 h7 h8 h9 h10 h11 h12 h13 h14 C hC M hM
    cases m with
    | zero => omega
    | succ m =>
    have hb := f_XT_next_b mn q w tf hmn ⟨h5, h6⟩ (fun i => ⟨(hf i).1, by have := hf i; omega⟩)
    have hbp := f_XT_next_b mn p w tf hmn ⟨h7, h8⟩ (fun i => ⟨(hf i).1, by have := hf i; omega⟩)
    have hv := e_nextv mn q w tf hmn ⟨h5, h6⟩
    have hI := e_nextI mn q w tf hmn ⟨h5, h6⟩
    have hTw := e_nextTw mn tf q w 0 h6
    have hTp := e_nextTw mn tf p w 0 h8
    have hO := f_XT_takeOneOf_s mn q w tf 48 8
    have hsee := e_see mth mn p mw mu md mo w tf h8
    rw [h13] at hsee hbp hTp
    rw [f_XR_routes_L19_s] at hC
    generalize hnx : f_XT_next mn q w tf = c0 at hC hb hbp hv hI hO hsee h14 hTw hTp h13
    obtain ⟨r, p0⟩ := c0
    dsimp only at hC hb hbp hv hI hO hsee h14 hTw hTp
    have hd := e_isDigit mth mn p0 mw mu md mo w tf hmn (by omega) hf
    rw [hv] at hd
    have hx := (e_here mth mn p0 mw mu md mo w tf).trans hv
    have hdr := f_XG_isDigit_01 r (by omega)
    have hi := f_XM_in_b (r - 48) 0 7 (by omega) (by decide) (by decide)
    -- what the reference does with a sign that it looks at
    have mgo : mo9 ≠ 0 → M = (if f_XM_in (r - 48) 0 7 = 0 then (yr zg, p0, p0) else if v < r - 48 then (if k = 4 then (yr zg, p0, p0) else (match f_XM_seeP mth mn (p0 + 1) mw mu md mo tf with | (r35, p36) => f_XM_routeRowP_L9 mth mn mp mwi mu md mo tf m (mput (yr zg) (r - 48)) (r - 48) (k + 1) (f_XM_isDigit mth mn p36 mw mu md mo tf) p36 mw)) else (yr zg, p0, p0)) := by
      intro h0
      rw [f_XM_routeRowP_L9_s, if_neg h0, if_pos hw, hsee] at hM
      dsimp only at hM
      rw [hx, e_fail _ _ _ _ _ _ _ _ hw, if_neg (show ¬ p0 < 0 by omega), if_pos hw] at hM
      exact hM
    -- one more route, taken by both
    have more : mo9 ≠ 0 → 0 ≤ r - 48 → r - 48 < 8 → v < r - 48 → k < 4 → ∀ C, C = f_XR_routes_L19 mn tp tw tf bg bf fr zg n (k + 1) (r - 48) (p0 + 1) w (f_XB_tellRoute bg bf yr zg (r - 48)) →
        (C.1 = 1 ∧ q ≤ C.2.1 ∧ C.2.1 ≤ mn ∧ 0 ≤ M.2.1 ∧ M.2.1 ≤ mn ∧ (∀ g, g ≠ zg → C.2.2.2 g = yr g) ∧ (0 ≤ C.2.2.2 zg ∧ C.2.2.2 zg < 2147483648) ∧ ((M.2.2 = mw ∧ f_XT_next mn M.2.1 0 tf = f_XT_next mn C.2.1 0 tf ∧ M.1 = C.2.2.2 zg) ∨ (0 ≤ M.2.2 ∧ eDig tf mn (f_XT_next mn C.2.1 0 tf).2))) ∨ (C.1 = 0 ∧ 0 ≤ M.2.2) := by
      intro h0 i1 i2 i3 i4 C hC
      have hM2 := mgo h0
      have hp1 : p0 + 1 ≤ mn := by omega
      rw [if_neg (show ¬ f_XM_in (r - 48) 0 7 = 0 by omega), if_pos i3, if_neg (show ¬ k = 4 by omega), e_see mth mn (p0 + 1) mw mu md mo w tf hp1] at hM2
      have hb2 := f_XT_next_b mn (p0 + 1) w tf hmn ⟨by omega, hp1⟩ (fun i => ⟨(hf i).1, by have := hf i; omega⟩)
      have hI2 := e_nextI mn (p0 + 1) w tf hmn ⟨by omega, hp1⟩
      generalize hn2 : f_XT_next mn (p0 + 1) w tf = c1 at hM2 hb2 hI2
      obtain ⟨r1, p1⟩ := c1
      dsimp only at hM2 hb2 hI2
      rw [f_XB_tellRoute_s] at hC
      have hat : jset yr zg (jor (yr zg) (jpow (r - 48))) zg = jor (yr zg) (jpow (r - 48)) := by unfold jset; rw [if_pos rfl]
      rw [mput_or (yr zg) (r - 48) h12 ⟨i1, by omega⟩, ← hat] at hM2
      have hn := ih m (k + 1) (r - 48) (p0 + 1) w p1 (f_XM_isDigit mth mn p1 mw mu md mo tf) (jset yr zg (jor (yr zg) (jpow (r - 48)))) (by omega) (by omega) (by omega) (by omega) (by omega) hp1 (by omega) (by omega) (by omega) (by omega) (fun h => by omega) (by rw [hat]; exact ⟨jor_nn _ _, jor_lt h12.2 (jpow_lt (by omega))⟩) (by rw [hn2]; exact hI2) (Or.inr ⟨by omega, by rw [hn2], rfl⟩) C hC M hM2
      rcases hn with ⟨j1, j2, j3, j4, j5, j6, j7, j8⟩ | hn
      · left
        refine ⟨j1, by omega, j3, j4, j5, fun g hg => ?_, j7, j8⟩
        rw [j6 g hg]
        unfold jset
        rw [if_neg hg]
      · right; exact hn
    by_cases k4 : k < 4
    · rw [if_pos k4] at hC
      by_cases k0 : 0 < k
      · rw [if_pos k0] at hC
        rcases h14 with h14 | ⟨g1, g2, g3⟩
        · omega
        · subst g2
          by_cases dg : f_XG_isDigit r = 0
          · rw [if_pos dg] at hC
            have m0 : mo9 = 0 := by omega
            rw [m0, e_L9zero] at hM
            left
            rw [hC, hM]
            refine ⟨rfl, by dsimp only; omega, by dsimp only; omega, by dsimp only; omega, by dsimp only; omega, fun _ _ => rfl, h12, Or.inl ⟨rfl, rfl, rfl⟩⟩
          · rw [if_neg dg, f_XT_takeOneOf_s, hI] at hC
            simp only [f_XT_refuse_s] at hC
            have m0 : mo9 ≠ 0 := by omega
            rw [if_neg (show ¬ r - 48 < 0 by omega)] at hC
            by_cases d8 : r - 48 < 8
            · rw [if_pos d8] at hC
              dsimp only at hC
              rw [if_neg (show ¬ r - 48 = -1 by omega)] at hC
              by_cases dv : v < r - 48
              · rw [if_pos dv] at hC
                exact more m0 (by omega) d8 dv k4 C hC
              · rw [if_neg dv, f_XT_refuseLast_s] at hC
                have hM2 := mgo m0
                rw [if_neg (show ¬ f_XM_in (r - 48) 0 7 = 0 by omega), if_neg dv] at hM2
                right
                rw [hC, hM2]
                exact ⟨rfl, by dsimp only; omega⟩
            · rw [if_neg d8] at hC
              dsimp only at hC
              rw [if_pos rfl] at hC
              have hM2 := mgo m0
              rw [if_pos (show f_XM_in (r - 48) 0 7 = 0 by omega)] at hM2
              right
              rw [hC, hM2]
              exact ⟨rfl, by dsimp only; omega⟩
      · rw [if_neg k0, hO] at hC
        simp only [f_XT_refuse_s] at hC
        have m0 : mo9 ≠ 0 := by rcases h14 with ⟨g1, g2⟩ | ⟨g1, g2⟩ <;> omega
        by_cases d0 : r - 48 < 0
        · rw [if_pos d0] at hC
          dsimp only at hC
          rw [if_pos rfl] at hC
          have hM2 := mgo m0
          rw [if_pos (show f_XM_in (r - 48) 0 7 = 0 by omega)] at hM2
          right
          rw [hC, hM2]
          exact ⟨rfl, by dsimp only; omega⟩
        · rw [if_neg d0] at hC
          by_cases d8 : r - 48 < 8
          · rw [if_pos d8] at hC
            dsimp only at hC
            rw [if_neg (show ¬ r - 48 = -1 by omega), if_pos (show v < r - 48 by omega)] at hC
            exact more m0 (by omega) d8 (by omega) k4 C hC
          · rw [if_neg d8] at hC
            dsimp only at hC
            rw [if_pos rfl] at hC
            have hM2 := mgo m0
            rw [if_pos (show f_XM_in (r - 48) 0 7 = 0 by omega)] at hM2
            right
            rw [hC, hM2]
            exact ⟨rfl, by dsimp only; omega⟩
    · rw [if_neg k4] at hC
      left
      rcases h14 with h14 | ⟨g1, g2, g3⟩
      · omega
      · by_cases m0 : mo9 = 0
        · rw [m0, e_L9zero] at hM
          rw [hC, hM]
          refine ⟨rfl, by dsimp only; omega, by dsimp only; omega, by dsimp only; omega, by dsimp only; omega, fun _ _ => rfl, h12, Or.inl ⟨rfl, ?_, rfl⟩⟩
          dsimp only
          rw [← hTp, ← hTw]
        · have hM2 := mgo m0
          have hM3 : M = (yr zg, p0, p0) := by
            rw [hM2]
            by_cases a : f_XM_in (r - 48) 0 7 = 0
            · rw [if_pos a]
            · rw [if_neg a]
              by_cases a2 : v < r - 48
              · rw [if_pos a2, if_pos (show k = 4 by omega)]
              · rw [if_neg a2]
          rw [hC, hM3]
          refine ⟨rfl, by dsimp only; omega, by dsimp only; omega, by dsimp only; omega, by dsimp only; omega, fun _ _ => rfl, h12, Or.inr ⟨by dsimp only; omega, ?_⟩⟩
          dsimp only
          rw [← hTw]
          dsimp only
          rcases hd with ⟨d1, d2, d3⟩ | ⟨d1, d2, d3⟩
          · exact d3
          · exact absurd (g3.trans (by rw [g2]; exact d1)) m0
end EQ9
