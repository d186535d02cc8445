/-! what both answer: limit, span, difference, route -/
theorem k_goes (mth mn mp mw mu md mo : Int) : f_XM_goesP mth mn mp mw mu md mo 0 1 = (0, 1) ∧ f_XM_goesP mth mn mp mw mu md mo 1 1 = (1, 0) := by
  constructor
  · rw [f_XM_goesP_s, if_pos (rfl : (0 : Int) = 0)]
  · rw [f_XM_goesP_s, if_neg (show ¬ (1 : Int) = 0 by decide), if_neg (show ¬ (1 : Int) = 0 by decide)]
theorem k_need (bg bf v : Int) : (f_XG_needGrade bg bf v = 0 ∧ f_XB_knows bg bf v = 1 ∧ kT bg v) ∨ (f_XG_needGrade bg bf v = 1 ∧ f_XB_knows bg bf v = 0) := by
  rw [f_XG_needGrade_s]
  rcases kT_knows bg bf v with ⟨k1, k2⟩ | ⟨k1, k2⟩
  · rw [if_neg (show ¬ f_XB_knows bg bf v = 0 by omega)]; exact Or.inl ⟨rfl, k1, k2⟩
  · rw [if_pos k1]; exact Or.inr ⟨rfl, k1⟩
theorem k_below (v b : Int) : (f_XG_needBelow v b = 0 ∧ 0 ≤ v ∧ v < b) ∨ (f_XG_needBelow v b = 1 ∧ (v < 0 ∨ b ≤ v)) := by
  rw [f_XG_needBelow_s]
  (repeat' split) <;> omega
/-- what is compared, of a call that gives an int -/
def kAns (G : Int × Int) (C : Int × (Int → Int)) (fo : Int → Int) : Prop := C = if G.1 = 0 then (0, jset fo 0 (jw G.2)) else (1, fo)
theorem k_ans (G : Int × Int) (C : Int × (Int → Int)) (fo : Int → Int) (M : Int × Int) (h : kAns G C fo) (hG : (G.1 = 0 ∧ M = (G.2, 0)) ∨ (G.1 = 1 ∧ M.2 = 1)) : M.2 = C.1 ∧ (C.1 = 0 → C.2 0 = jw M.1) := by
  unfold kAns at h
  rcases hG with ⟨g1, g2⟩ | ⟨g1, g2⟩
  · rw [if_pos g1] at h
    rw [h, g2]
    exact ⟨rfl, fun _ => (if_pos (rfl : (0 : Int) = 0) : jset fo 0 (jw G.2) 0 = jw G.2)⟩
  · rw [if_neg (show ¬ G.1 = 0 by omega)] at h
    rw [h, g2]
    exact ⟨rfl, fun h => absurd (show (1 : Int) = 0 from h) (by decide)⟩
section EQX5
variable (mth mn mp mw mu md mo : Int) (bg bf : Int) (ft fp fl fh fq fr fd y1 y2 y3 y4 y5 y6 y7 y8 y9 : Int → Int)
theorem e_limit (hft : ∀ i, 0 ≤ ft i ∧ ft i ≤ 30) (hfq : ∀ i, -1 ≤ fq i ∧ fq i ≤ 999999) (hy1 : ∀ i, 0 ≤ y1 i ∧ y1 i ≤ 1) (hy2 : ∀ i, 0 ≤ y2 i ∧ y2 i ≤ 30) (h : jBk bg bf ft fp fl fh fq fr fd y1 y2 y3 y4 y5 y6 y7 y8 y9) (z1 z2 : Int) (i1 : i32 z1) (i2 : i32 z2) (fo : Int → Int) :
    ∀ C, C = f_XL_limit bg bf fp fq z1 z2 fo → ∀ M, M = f_XM_limitP mth mn mp mw mu md mo y1 y2 y7 z1 z2 → M.2 = C.1 ∧ (C.1 = 0 → C.2 0 = jw M.1) := by
  intro C hC M hM
  rw [f_XL_limit_s] at hC
  refine k_ans _ C fo M hC ?_
  rw [f_XM_limitP_s, e_told mth mn mp mw mu md mo bg bf y1 hy1 h.1 z1 i1] at hM
  rw [f_XG_limit_s]
  obtain ⟨g0, g1⟩ := k_goes mth mn mp mw mu md mo
  have no : f_XM_limitP_J21 mth mn mp mw mu md mo y1 y2 y7 z1 z2 0 = (0, 1) := by
    rw [f_XM_limitP_J21_s, g0]; dsimp only; rw [if_pos (rfl : (0 : Int) = 0)]
  have ki := f_XM_isKind_b z2 i2
  rcases k_need bg bf z1 with ⟨n1, n2, n3⟩ | ⟨n1, n2⟩
  · rw [n2, if_neg (show ¬ (1 : Int) = 0 by decide)] at hM
    rw [if_pos n1]
    rcases k_below z2 4 with ⟨b1, b2, b3⟩ | ⟨b1, b2⟩
    · rw [if_pos b1]
      rw [if_neg (show ¬ f_XM_isKind z2 = 0 by omega), f_XM_limitP_J21_s, g1] at hM
      dsimp only at hM
      rw [if_neg (show ¬ (1 : Int) = 0 by decide), e_limitOf 0 mn mp mw mu md mo bg bf ft fp fl fh fq fr fd y1 y2 y3 y4 y5 y6 y7 y8 y9 hft hfq hy1 hy2 h z1 z2 n3 ⟨b2, by omega⟩] at hM
      exact Or.inl ⟨rfl, hM⟩
    · rw [if_neg (show ¬ f_XG_needBelow z2 4 = 0 by omega), b1]
      rw [if_pos (show f_XM_isKind z2 = 0 by omega), no] at hM
      exact Or.inr ⟨rfl, by rw [hM]⟩
  · rw [n2, if_pos (rfl : (0 : Int) = 0), no] at hM
    rw [if_neg (show ¬ f_XG_needGrade bg bf z1 = 0 by omega), n1]
    exact Or.inr ⟨rfl, by rw [hM]⟩
theorem e_span (hft : ∀ i, 0 ≤ ft i ∧ ft i ≤ 30) (hy1 : ∀ i, 0 ≤ y1 i ∧ y1 i ≤ 1) (hy2 : ∀ i, 0 ≤ y2 i ∧ y2 i ≤ 30) (h : jBk bg bf ft fp fl fh fq fr fd y1 y2 y3 y4 y5 y6 y7 y8 y9) (z1 z2 z3 : Int) (i1 : i32 z1) (i2 : i32 z2) (i3 : i32 z3) (fo : Int → Int) :
    ∀ C, C = f_XL_span bg bf fp fl fh z1 z2 z3 fo → ∀ M, M = f_XM_spanP mth mn mp mw mu md mo y1 y2 y3 y4 y5 z1 z2 z3 → M.2 = C.1 ∧ (C.1 = 0 → C.2 0 = jw M.1) := by
  intro C hC M hM
  rw [f_XL_span_s] at hC
  refine k_ans _ C fo M hC ?_
  rw [f_XM_spanP_s, e_told mth mn mp mw mu md mo bg bf y1 hy1 h.1 z1 i1] at hM
  rw [f_XG_span_s]
  obtain ⟨g0, g1⟩ := k_goes mth mn mp mw mu md mo
  have no : f_XM_spanP_J30 mth mn mp mw mu md mo y1 y2 y3 y4 y5 z1 z2 z3 0 = (0, 1) := by
    rw [f_XM_spanP_J30_s, g0]; dsimp only; rw [if_pos (rfl : (0 : Int) = 0)]
  have ki := f_XM_isElement_b z2 i2
  have kj := f_XM_in_b z3 0 1 i3 (by decide) (by decide)
  rcases k_need bg bf z1 with ⟨n1, n2, n3⟩ | ⟨n1, n2⟩
  · rw [n2, if_neg (show ¬ (1 : Int) = 0 by decide)] at hM
    rw [if_pos n1]
    rcases k_below z2 8 with ⟨b1, b2, b3⟩ | ⟨b1, b2⟩
    · rw [if_pos b1]
      rw [if_neg (show ¬ f_XM_isElement z2 = 0 by omega)] at hM
      rcases k_below z3 2 with ⟨c1, c2, c3⟩ | ⟨c1, c2⟩
      · rw [if_pos c1]
        obtain ⟨l1, l2⟩ := e_low 0 mn mp mw mu md mo bg bf ft fp fl fh fq fr fd y1 y2 y3 y4 y5 y6 y7 y8 y9 hft hy1 hy2 h z1 z2 n3 ⟨b2, by omega⟩
        rw [if_neg (show ¬ f_XM_in z3 0 1 = 0 by omega), f_XM_spanP_J30_s, g1] at hM
        dsimp only at hM
        rw [if_neg (show ¬ (1 : Int) = 0 by decide), l1, l2] at hM
        left
        refine ⟨rfl, ?_⟩
        rw [hM]
        rcases (show z3 = 0 ∨ z3 = 1 by omega) with rfl | rfl
        · rw [if_pos (rfl : (0 : Int) = 0)]
        · rw [if_neg (show ¬ (1 : Int) = 0 by decide)]
      · rw [if_neg (show ¬ f_XG_needBelow z3 2 = 0 by omega), c1]
        rw [if_pos (show f_XM_in z3 0 1 = 0 by omega), no] at hM
        exact Or.inr ⟨rfl, by rw [hM]⟩
    · rw [if_neg (show ¬ f_XG_needBelow z2 8 = 0 by omega), b1]
      rw [if_pos (show f_XM_isElement z2 = 0 by omega), no] at hM
      exact Or.inr ⟨rfl, by rw [hM]⟩
  · rw [n2, if_pos (rfl : (0 : Int) = 0), no] at hM
    rw [if_neg (show ¬ f_XG_needGrade bg bf z1 = 0 by omega), n1]
    exact Or.inr ⟨rfl, by rw [hM]⟩
theorem e_diffL (m1 : Int) (hft : ∀ i, 0 ≤ ft i ∧ ft i ≤ 30) (hy1 : ∀ i, 0 ≤ y1 i ∧ y1 i ≤ 1) (hy2 : ∀ i, 0 ≤ y2 i ∧ y2 i ≤ 30) (h : jBk bg bf ft fp fl fh fq fr fd y1 y2 y3 y4 y5 y6 y7 y8 y9) (z1 z2 z3 : Int) (t1 : kT bg z1) (t2 : kT bg z2) : ∀ (n n' : Nat) (v k : Int), 8 - k < (n : Int) → 8 - k < (n' : Int) → 0 ≤ k → k ≤ 8 → (f_XG_difference_L20 bg bf fp fl fh z1 z2 z3 n v k).1 = 0 ∧ f_XM_differenceP_L41 mth mn mp mw mu md mo y1 y2 y3 y4 y5 z1 z2 z3 m1 n' v k = ((f_XG_difference_L20 bg bf fp fl fh z1 z2 z3 n v k).2, m1) := by
  intro n
  induction n with
  | zero => intro n' v k h1; omega
  | succ n ih =>
    intro n' v k h1 h2 h3 h4
    cases n' with
    | zero => omega
    | succ n' =>
      rw [f_XG_difference_L20_s, f_XM_differenceP_L41_s]
      by_cases a : k < 8
      · obtain ⟨l1, l2⟩ := e_low m1 mn mp mw mu md mo bg bf ft fp fl fh fq fr fd y1 y2 y3 y4 y5 y6 y7 y8 y9 hft hy1 hy2 h z1 k t1 ⟨h3, by omega⟩
        obtain ⟨l3, l4⟩ := e_low m1 mn mp mw mu md mo bg bf ft fp fl fh fq fr fd y1 y2 y3 y4 y5 y6 y7 y8 y9 hft hy1 hy2 h z2 k t2 ⟨h3, by omega⟩
        have next := fun v => ih n' v (k + 1) (by omega) (by omega) (by omega) (by omega)
        rw [if_pos a, if_pos a, l1, l2, l3, l4]
        by_cases b : f_XB_endOf bg bf fp fl fh z1 k 0 = f_XB_endOf bg bf fp fl fh z2 k 0
        · rw [if_pos b, if_pos b]
          by_cases c : f_XB_endOf bg bf fp fl fh z1 k 1 = f_XB_endOf bg bf fp fl fh z2 k 1
          · rw [if_pos c, if_pos c]; exact next v
          · rw [if_neg c, if_neg c]
            by_cases d : v = 0
            · rw [if_pos d, if_pos d]; exact ⟨rfl, rfl⟩
            · rw [if_neg d, if_neg d]; exact next (v + (-1))
        · rw [if_neg b, if_neg b]
          by_cases d : v = 0
          · rw [if_pos d, if_pos d]; exact ⟨rfl, rfl⟩
          · rw [if_neg d, if_neg d]; exact next (v + (-1))
      · rw [if_neg a, if_neg a]; exact ⟨rfl, rfl⟩
theorem e_difference (hft : ∀ i, 0 ≤ ft i ∧ ft i ≤ 30) (hy1 : ∀ i, 0 ≤ y1 i ∧ y1 i ≤ 1) (hy2 : ∀ i, 0 ≤ y2 i ∧ y2 i ≤ 30) (h : jBk bg bf ft fp fl fh fq fr fd y1 y2 y3 y4 y5 y6 y7 y8 y9) (z1 z2 z3 : Int) (i1 : i32 z1) (i2 : i32 z2) (fo : Int → Int) :
    ∀ C, C = f_XL_difference bg bf fp fl fh z1 z2 z3 fo → ∀ M, M = f_XM_differenceP mth mn mp mw mu md mo y1 y2 y3 y4 y5 z1 z2 z3 → M.2 = C.1 ∧ (C.1 = 0 → C.2 0 = jw M.1) := by
  intro C hC M hM
  rw [f_XL_difference_s] at hC
  refine k_ans _ C fo M hC ?_
  rw [f_XM_differenceP_s, e_told mth mn mp mw mu md mo bg bf y1 hy1 h.1 z1 i1, e_told mth mn mp mw mu md mo bg bf y1 hy1 h.1 z2 i2] at hM
  rw [f_XG_difference_s, f_XG_needPlace_s]
  obtain ⟨g0, g1⟩ := k_goes mth mn mp mw mu md mo
  have no : f_XM_differenceP_J26 mth mn mp mw mu md mo y1 y2 y3 y4 y5 z1 z2 z3 0 = (0, 1) := by
    rw [f_XM_differenceP_J26_s, g0]; dsimp only; rw [if_pos (rfl : (0 : Int) = 0)]
  rcases k_need bg bf z1 with ⟨n1, n2, n3⟩ | ⟨n1, n2⟩
  · rw [n2, if_neg (show ¬ (1 : Int) = 0 by decide)] at hM
    rw [if_pos n1]
    rcases k_need bg bf z2 with ⟨b1, b2, b3⟩ | ⟨b1, b2⟩
    · rw [if_pos b1]
      rw [b2, if_neg (show ¬ (1 : Int) = 0 by decide)] at hM
      by_cases c : z3 < 0
      · rw [if_pos c, no] at hM
        rw [if_pos c, if_neg (show ¬ (1 : Int) = 0 by decide)]
        exact Or.inr ⟨rfl, by rw [hM]⟩
      · rw [if_neg c, f_XM_differenceP_J26_s, g1] at hM
        dsimp only at hM
        obtain ⟨l1, l2⟩ := e_diffL mth mn mp mw mu md mo bg bf ft fp fl fh fq fr fd y1 y2 y3 y4 y5 y6 y7 y8 y9 0 hft hy1 hy2 h z1 z2 z3 n3 b3 (Int.toNat (8 - 0) + 1) (Int.toNat (8 - 0) + 1) z3 0 (by decide) (by decide) (by decide) (by decide)
        rw [if_neg (show ¬ (1 : Int) = 0 by decide), l2] at hM
        rw [if_neg c, if_pos (rfl : (0 : Int) = 0)]
        exact Or.inl ⟨l1, hM⟩
    · rw [if_neg (show ¬ f_XG_needGrade bg bf z2 = 0 by omega), b1]
      rw [b2, if_pos (rfl : (0 : Int) = 0), no] at hM
      exact Or.inr ⟨rfl, by rw [hM]⟩
  · rw [n2, if_pos (rfl : (0 : Int) = 0), no] at hM
    rw [if_neg (show ¬ f_XG_needGrade bg bf z1 = 0 by omega), n1]
    exact Or.inr ⟨rfl, by rw [hM]⟩
theorem e_routeL (m1 z1 z2 : Int) (hfr : ∀ i, 0 ≤ fr i ∧ fr i < 2147483648) (hft : ∀ i, 0 ≤ ft i ∧ ft i ≤ 30) (hy1 : ∀ i, 0 ≤ y1 i ∧ y1 i ≤ 1) (hy2 : ∀ i, 0 ≤ y2 i ∧ y2 i ≤ 30) (h : jBk bg bf ft fp fl fh fq fr fd y1 y2 y3 y4 y5 y6 y7 y8 y9) (zg : Int) : ∀ (n n' : Nat) (v k : Int), (v = 0 ∨ kT bg v) → 0 ≤ k → jdp fp 41 v + k ≤ 30 → 30 - k < (n : Int) → jdp (fun x => f_XM_from m1 mn mp mw mu md mo y1 y2 x) 41 v < (n' : Int) → f_XM_routeP_L32 mth mn mp mw mu md mo y1 y2 y6 z1 z2 m1 n' 0 v = f_XM_routeP_J60 mth mn mp mw mu md mo y1 y2 y6 z1 z2 m1 (f_XB_routesOf_L4 bg bf fp fr zg n v k) 0 := by
  intro n
  induction n with
  | zero => intro n' v k h1 h2 h3 h4; have := jdp_nn fp 41 v; omega
  | succ n ih =>
    intro n' v k h1 h2 h3 h4 h5
    cases n' with
    | zero => have := jdp_nn (fun x => f_XM_from m1 mn mp mw mu md mo y1 y2 x) 41 v; omega
    | succ n' =>
      rw [f_XM_routeP_L32_s, f_XB_routesOf_L4_s]
      rcases h1 with rfl | hT
      · rw [if_neg (show ¬ (0 : Int) < 0 by decide), f_XM_routeP_J60_s]
        have e : (if k < 30 then if (0 : Int) < 0 then if fr 0 = 0 then f_XB_routesOf_L4 bg bf fp fr zg n (fp 0) (k + 1) else if (0 : Int) = 0 then 0 else fr 0 else if (0 : Int) = 0 then 0 else fr 0 else if (0 : Int) = 0 then 0 else fr 0) = 0 := by
          rw [if_neg (show ¬ (0 : Int) < 0 by decide), if_pos (rfl : (0 : Int) = 0)]
          split <;> rfl
        rw [e, f_XM_routeP_J60_s]
      · obtain ⟨d1, d2, d3, d4⟩ := dp_fp bg bf ft fp hft (jBk_p bg bf ft fp fl fh fq fr fd y1 y2 y3 y4 y5 y6 y7 y8 y9 h) v hT
        have hv := hT.1
        have hv2 := hT.2.1
        have hd := from_dec m1 mn mp mw mu md mo y1 y2 hy1 hy2 v ⟨hv, hv2⟩
        have hq := (h.2.2.2.1 v hT.1 hT.2.1 hT.2.2).2.1
        rw [if_pos (show 0 < v by omega), if_pos (rfl : (0 : Int) = 0), if_pos (show k < 30 by omega), if_pos (show 0 < v by omega), ← hq]
        rw [e_from m1 mn mp mw mu md mo bg bf ft fp fl fh fq fr fd y1 y2 y3 y4 y5 y6 y7 y8 y9 hft hy1 h v hT] at hd ⊢
        by_cases a : fr v = 0
        · rw [if_pos a, a]
          exact ih n' (fp v) (k + 1) d4 (by omega) (by omega) (by omega) (by omega)
        · rw [if_neg a, if_neg (show ¬ v = 0 by omega)]
          cases n' with
          | zero => have := jdp_nn (fun x => f_XM_from m1 mn mp mw mu md mo y1 y2 x) 41 (fp v); omega
          | succ n' =>
            rw [f_XM_routeP_L32_s, f_XM_routeP_J60_s]
            by_cases c : 0 < fp v
            · rw [if_pos c, if_neg a, f_XM_routeP_J60_s]
            · rw [if_neg c, f_XM_routeP_J60_s]
theorem e_route66 (m1 z1 z2 bx : Int) (hb : 0 ≤ bx ∧ bx < 2147483648) (hR : f_XB_routesOf bg bf fp fr z1 = bx) : ∀ (n n' : Nat) (v k : Int), 8 - k < (n : Int) → 8 - k < (n' : Int) → 0 ≤ k → k ≤ 8 → (f_XG_route_L24 bg bf fp fr z1 z2 n v k).1 = 0 ∧ f_XM_routeP_L66 mth mn mp mw mu md mo y1 y2 y6 z1 z2 m1 bx n' v k = ((f_XG_route_L24 bg bf fp fr z1 z2 n v k).2, m1) := by
  intro n
  induction n with
  | zero => intro n' v k h1; omega
  | succ n ih =>
    intro n' v k h1 h2 h3 h4
    cases n' with
    | zero => omega
    | succ n' =>
      rw [f_XG_route_L24_s, f_XM_routeP_L66_s, hR]
      by_cases a : k < 8
      · have hm : (jI ((jI bx >>> (jI k &&& 31)).toInt) &&& jI 1).toInt = f_XG_hasBit bx k := mbit_hb bx k ⟨hb.1, by omega⟩ ⟨h3, by omega⟩
        have next := fun v => ih n' v (k + 1) (by omega) (by omega) (by omega) (by omega)
        rw [if_pos a, if_pos a, hm]
        by_cases c : f_XG_hasBit bx k = 0
        · rw [if_pos c, if_pos c]; exact next v
        · rw [if_neg c, if_neg c]
          by_cases d : v = 0
          · rw [if_pos d, if_pos d]; exact ⟨rfl, rfl⟩
          · rw [if_neg d, if_neg d]; exact next (v + (-1))
      · rw [if_neg a, if_neg a]; exact ⟨rfl, rfl⟩
theorem routesOf_b (hfr : ∀ i, 0 ≤ fr i ∧ fr i < 2147483648) (zg : Int) : ∀ (n : Nat) (v k : Int), 0 ≤ f_XB_routesOf_L4 bg bf fp fr zg n v k ∧ f_XB_routesOf_L4 bg bf fp fr zg n v k < 2147483648 := by
  intro n
  induction n with
  | zero => intro v k; rw [f_XB_routesOf_L4_z]; decide
  | succ n ih =>
    intro v k
    rw [f_XB_routesOf_L4_s]
    (repeat' split) <;> first | decide | exact hfr _ | exact ih _ _
theorem e_route (hfr : ∀ i, 0 ≤ fr i ∧ fr i < 2147483648) (hft : ∀ i, 0 ≤ ft i ∧ ft i ≤ 30) (hy1 : ∀ i, 0 ≤ y1 i ∧ y1 i ≤ 1) (hy2 : ∀ i, 0 ≤ y2 i ∧ y2 i ≤ 30) (h : jBk bg bf ft fp fl fh fq fr fd y1 y2 y3 y4 y5 y6 y7 y8 y9) (z1 z2 : Int) (i1 : i32 z1) (fo : Int → Int) :
    ∀ C, C = f_XL_route bg bf fp fr z1 z2 fo → ∀ M, M = f_XM_routeP mth mn mp mw mu md mo y1 y2 y6 z1 z2 → M.2 = C.1 ∧ (C.1 = 0 → C.2 0 = jw M.1) := by
  intro C hC M hM
  rw [f_XL_route_s] at hC
  refine k_ans _ C fo M hC ?_
  rw [f_XM_routeP_s, e_told mth mn mp mw mu md mo bg bf y1 hy1 h.1 z1 i1] at hM
  rw [f_XG_route_s, f_XG_needPlace_s]
  obtain ⟨g0, g1⟩ := k_goes mth mn mp mw mu md mo
  have no : f_XM_routeP_J18 mth mn mp mw mu md mo y1 y2 y6 z1 z2 0 = (0, 1) := by
    rw [f_XM_routeP_J18_s, g0]; dsimp only; rw [if_pos (rfl : (0 : Int) = 0)]
  rcases k_need bg bf z1 with ⟨n1, n2, n3⟩ | ⟨n1, n2⟩
  · rw [n2, if_neg (show ¬ (1 : Int) = 0 by decide)] at hM
    rw [if_pos n1]
    by_cases c : z2 < 0
    · rw [if_pos c, no] at hM
      rw [if_pos c, if_neg (show ¬ (1 : Int) = 0 by decide)]
      exact Or.inr ⟨rfl, by rw [hM]⟩
    · rw [if_neg c, f_XM_routeP_J18_s, g1] at hM
      dsimp only at hM
      have d := dp_fp bg bf ft fp hft (jBk_p bg bf ft fp fl fh fq fr fd y1 y2 y3 y4 y5 y6 y7 y8 y9 h) z1 n3
      have dn := jdp_nn (fun x => f_XM_from 0 mn mp mw mu md mo y1 y2 x) 41 z1
      have hR := e_routeL mth mn mp mw mu md mo bg bf ft fp fl fh fq fr fd y1 y2 y3 y4 y5 y6 y7 y8 y9 0 z1 z2 hfr hft hy1 hy2 h z1 (Int.toNat (30 - 0) + 1) (Int.toNat (jdp (fun x => f_XM_from 0 mn mp mw mu md mo y1 y2 x) 41 z1) + 1) z1 0 (Or.inr n3) (by decide) (by omega) (by decide) (by omega)
      obtain ⟨l1, l2⟩ := e_route66 mth mn mp mw mu md mo bg bf fp fr y1 y2 y6 0 z1 z2 _ (routesOf_b bg bf fp fr hfr z1 (Int.toNat (30 - 0) + 1) z1 0) (f_XB_routesOf_s bg bf fp fr z1) (Int.toNat (8 - 0) + 1) (Int.toNat (8 - 0) + 1) z2 0 (by decide) (by decide) (by decide) (by decide)
      rw [if_neg (show ¬ (1 : Int) = 0 by decide), hR, f_XM_routeP_J60_s, l2] at hM
      rw [if_neg c, if_pos (rfl : (0 : Int) = 0)]
      exact Or.inl ⟨l1, hM⟩
  · rw [n2, if_pos (rfl : (0 : Int) = 0), no] at hM
    rw [if_neg (show ¬ f_XG_needGrade bg bf z1 = 0 by omega), n1]
    exact Or.inr ⟨rfl, by rw [hM]⟩
end EQX5
