section
/-! both reckon the same fraction -/
theorem e_gdL (za zb : Int) : ∀ (j n : Nat) (u v : Nat) (k : Int), v < 2 ^ j → 0 ≤ k → k + 2 * (j : Int) ≤ 100 → 100 - k < (n : Int) → f_XG_greatestDivisor_L9 za zb n u v k = (Nat.gcd u v : Int) := by
  intro j
  induction j with
  | zero =>
    intro n u v k hv h0 h1 h2
    have hv0 : v = 0 := by simpa using hv
    subst hv0
    cases n with
    | zero => omega
    | succ n =>
      rw [f_XG_greatestDivisor_L9_s, Nat.gcd_zero_right]
      by_cases a : k < 100
      · rw [if_pos a, if_pos (show ((0 : Nat) : Int) = 0 from rfl)]
      · rw [if_neg a]
  | succ j ih =>
    intro n u v k hv h0 h1 h2
    cases n with
    | zero => omega
    | succ n =>
      rw [f_XG_greatestDivisor_L9_s, if_pos (show k < 100 by omega)]
      by_cases a : v = 0
      · subst a
        rw [if_pos (show ((0 : Nat) : Int) = 0 from rfl), Nat.gcd_zero_right]
      · rw [if_neg (show ¬ (v : Int) = 0 by omega), ← Int.ofNat_tmod]
        cases n with
        | zero => omega
        | succ n =>
          rw [f_XG_greatestDivisor_L9_s, if_pos (show k + 1 < 100 by omega), fz_gcd u v]
          have hm := Nat.mod_lt u (show 0 < v by omega)
          by_cases b : u % v = 0
          · rw [b, if_pos (show ((0 : Nat) : Int) = 0 from rfl), Nat.gcd_zero_right]
          · rw [if_neg (show ¬ ((u % v : Nat) : Int) = 0 by omega), ← Int.ofNat_tmod, fz_gcd v (u % v)]
            exact ih n (u % v) (v % (u % v)) (k + 1 + 1) (fz_half v (u % v) (by omega) hm j hv) (by omega) (by omega) (by omega)
theorem e_gd (a : Nat) : f_XG_greatestDivisor (a : Int) 232792560 = (Nat.gcd a 232792560 : Int) := by
  rw [f_XG_greatestDivisor_s]
  exact e_gdL (a : Int) 232792560 28 (Int.toNat (100 - 0) + 1) a 232792560 0 (by decide) (by decide) (by decide) (by decide)
theorem e_lowest (U D S z : Int) (h : kFr U D S) : f_XG_inLowestTerms S z = if z = 0 then U else D := by
  obtain ⟨a, g, rfl, hg, h1, h2, h3⟩ := kFr_gcd U D S h
  rw [f_XG_inLowestTerms_s, e_gd, ← hg, if_neg (show ¬ (g : Int) < 1 by omega), h2, h3]
theorem e_addsL (mth mn mp mw mu md mo zs z2 : Int) : ∀ (n : Nat) (a b : Nat), b < n → f_XM_addsP_L46 mth mn mp mw mu md mo zs z2 n a b = (Int.tdiv (mu * z2 + zs * md) (Nat.gcd a b), Int.tdiv (md * z2) (Nat.gcd a b)) := by
  intro n
  induction n with
  | zero => intro a b h; omega
  | succ n ih =>
    intro a b h
    rw [f_XM_addsP_L46_s]
    by_cases c : b = 0
    · subst c
      rw [if_neg (show ¬ (0 : Int) < ((0 : Nat) : Int) by decide), Nat.gcd_zero_right]
    · have hm := Nat.mod_lt a (show 0 < b by omega)
      rw [if_pos (show (0 : Int) < (b : Int) by omega), ← Int.ofNat_tmod, ih b (a % b) (by omega), ← fz_gcd a b]
theorem e_adds (mth mn mp mw mu md mo zs z2 S : Int) (h : kFr mu md S) (hs : 0 ≤ zs) (ho : 0 ≤ z2 ∧ z2 ≤ 20) : ∃ U D, f_XM_addsP mth mn mp mw mu md mo zs z2 = (U, D) ∧ kFr U D (if 0 < z2 then S + zs * Int.tdiv 232792560 z2 else S) := by
  rw [f_XM_addsP_s]
  by_cases c : z2 = 0
  · subst c
    rw [if_pos rfl, if_neg (show ¬ (0 : Int) < 0 by decide)]
    exact ⟨mu, md, rfl, h⟩
  · rw [if_neg c, if_pos (show 0 < z2 by omega)]
    have hk := kFr_step mu md S zs z2 h hs (by omega)
    have hp : 0 ≤ mu ∧ 0 ≤ md := by
      obtain ⟨u, d, _, rfl, rfl, _⟩ := h
      omega
    have h1 : 0 ≤ md * z2 := Int.mul_nonneg hp.2 ho.1
    have h2 : 0 ≤ mu * z2 + zs * md := Int.add_nonneg (Int.mul_nonneg hp.1 ho.1) (Int.mul_nonneg hs hp.2)
    have e1 : ((md * z2).toNat : Int) = md * z2 := Int.toNat_of_nonneg h1
    have e2 : ((mu * z2 + zs * md).toNat : Int) = mu * z2 + zs * md := Int.toNat_of_nonneg h2
    have hL := e_addsL mth mn mp mw mu md mo zs z2 (Int.toNat (mu * z2 + zs * md) + 1) (md * z2).toNat (mu * z2 + zs * md).toNat (by omega)
    rw [e1, e2] at hL
    exact ⟨_, _, hL, hk⟩
section EQZ4
variable (mth mn mp mw mu md mo : Int) (bg bf : Int) (fd y1 y2 y3 y4 y5 y9 y10 fw : Int → Int) (z1 z2 z3 : Int)
/-- the row that the reference adds up, as the class has it -/
def kRow : Prop := ∀ e, 0 ≤ e → e ≤ 7 → 0 ≤ fw e ∧ (z3 = 2 → y10 e = fw e) ∧ (z3 = 0 → ∀ u d, f_XM_lowOfP mth mn mp mw u d mo y1 y2 y3 y4 z1 e = fw e) ∧ (z3 = 1 → ∀ u d, f_XM_highOfP mth mn mp mw u d mo y1 y2 y3 y5 z1 e = fw e)
theorem e_reckonL (hz : z3 = 0 ∨ z3 = 1 ∨ z3 = 2) (hy9 : ∀ i, 0 ≤ y9 i ∧ y9 i ≤ 20) (hd : ∀ x, 0 ≤ x → x ≤ 7 → fd (z2 * 8 + x) = y9 (8 * z2 + x)) (hr : kRow mth mn mp mw mo y1 y2 y3 y4 y5 y10 fw z1 z3) : ∀ (n n' : Nat) (k u d S : Int), 8 - k < (n : Int) → 8 - k < (n' : Int) → 0 ≤ k → k ≤ 8 → kFr u d S → ∃ U D, f_XM_reckonP_L13 mth mn mp mw mu md mo y1 y2 y3 y4 y5 y9 y10 z1 z2 z3 n' k u d = (U, D) ∧ kFr U D (f_XB_scaledSum_L5 bg bf fd z2 fw n S k) := by
  intro n
  induction n with
  | zero => intro n' k u d S h; omega
  | succ n ih =>
    intro n' k u d S h1 h2 h3 h4 h5
    cases n' with
    | zero => omega
    | succ n' =>
      rw [f_XM_reckonP_L13_s, f_XB_scaledSum_L5_s, f_XB_divisorOf_s]
      by_cases a : k < 8
      · rw [if_pos a, if_pos a, if_pos a, hd k h3 (by omega)]
        obtain ⟨r1, r2, r3, r4⟩ := hr k h3 (by omega)
        obtain ⟨U, D, q1, q2⟩ := e_adds mth mn mp mw u d mo (fw k) (y9 (8 * z2 + k)) S h5 r1 (hy9 _)
        have go : ∃ U' D', f_XM_reckonP_L13 mth mn mp mw mu md mo y1 y2 y3 y4 y5 y9 y10 z1 z2 z3 n' (k + 1) U D = (U', D') ∧ kFr U' D' (if 0 < y9 (8 * z2 + k) then f_XB_scaledSum_L5 bg bf fd z2 fw n (S + fw k * Int.tdiv 232792560 (y9 (8 * z2 + k))) (k + 1) else f_XB_scaledSum_L5 bg bf fd z2 fw n S (k + 1)) := by
          have g := ih n' (k + 1) U D _ (by omega) (by omega) (by omega) (by omega) q2
          by_cases c : 0 < y9 (8 * z2 + k)
          · rw [if_pos c] at g ⊢; exact g
          · rw [if_neg c] at g ⊢; exact g
        rcases hz with hz | hz | hz
        · rw [if_neg (show ¬ z3 = 2 by omega), if_pos hz, r3 hz, q1]
          exact go
        · rw [if_neg (show ¬ z3 = 2 by omega), if_neg (show ¬ z3 = 0 by omega), r4 hz, q1]
          exact go
        · rw [if_pos hz, r2 hz, q1]
          exact go
      · rw [if_neg a, if_neg a]
        exact ⟨u, d, rfl, h5⟩
theorem e_reckon (hz : z3 = 0 ∨ z3 = 1 ∨ z3 = 2) (hy9 : ∀ i, 0 ≤ y9 i ∧ y9 i ≤ 20) (hd : ∀ x, 0 ≤ x → x ≤ 7 → fd (z2 * 8 + x) = y9 (8 * z2 + x)) (hr : kRow mth mn mp mw mo y1 y2 y3 y4 y5 y10 fw z1 z3) : ∃ U D, f_XM_reckonP mth mn mp mw mu md mo y1 y2 y3 y4 y5 y9 y10 z1 z2 z3 = (U, D) ∧ kFr U D (f_XB_scaledSum bg bf fd z2 fw) := by
  rw [f_XM_reckonP_s, f_XB_scaledSum_s]
  exact e_reckonL mth mn mp mw mu md mo bg bf fd y1 y2 y3 y4 y5 y9 y10 fw z1 z2 z3 hz hy9 hd hr (Int.toNat (8 - 0) + 1) (Int.toNat (8 - 0) + 1) 0 0 1 0 (by decide) (by decide) (by decide) (by decide) kFr_0
theorem copyEnds_v (fp fl fh : Int → Int) (zg zn : Int) : ∀ (n : Nat) (k : Int) (fa : Int → Int), 8 - k < (n : Int) → 0 ≤ k → k ≤ 8 → ∀ x, (k ≤ x → x ≤ 7 → f_XB_copyEnds_L3 bg bf fp fl fh zg zn fw n k fa x = f_XB_endOf bg bf fp fl fh zg x zn) ∧ (x < k → f_XB_copyEnds_L3 bg bf fp fl fh zg zn fw n k fa x = fa x) := by
  intro n
  induction n with
  | zero => intro k fa h; omega
  | succ n ih =>
    intro k fa h1 h2 h3 x
    rw [f_XB_copyEnds_L3_s]
    by_cases a : k < 8
    · rw [if_pos a, if_pos a]
      obtain ⟨i1, i2⟩ := ih (k + 1) (jset fa k (f_XB_endOf bg bf fp fl fh zg k zn)) (by omega) (by omega) (by omega) x
      refine ⟨fun b c => ?_, fun b => ?_⟩
      · by_cases d : x = k
        · rw [i2 (by omega)]; unfold jset; rw [if_pos d, d]
        · exact i1 (by omega) c
      · rw [i2 (by omega)]; unfold jset; rw [if_neg (by omega)]
    · rw [if_neg a]
      exact ⟨fun b c => by omega, fun _ => rfl⟩
theorem copyEnds_e (fp fl fh : Int → Int) (zg zn : Int) (x : Int) (h1 : 0 ≤ x) (h2 : x ≤ 7) : f_XB_copyEnds bg bf fp fl fh zg zn fw x = f_XB_endOf bg bf fp fl fh zg x zn := by
  rw [f_XB_copyEnds_s]
  exact (copyEnds_v bg bf fw fp fl fh zg zn _ 0 fw (by decide) (by decide) (by decide) x).1 h1 h2
end EQZ4
end
section
theorem k_ansE (G : Int × Int × (Int → Int)) (C : Int × (Int → Int) × (Int → Int)) (fo fe : Int → Int) (M : Int × Int × Int × Int) (h : C = if G.1 = 0 then (0, jset fo 0 G.2.1, G.2.2) else if G.1 = 1 then (1, fo, fe) else (2, fo, fe)) (hG : (G.1 = 0 ∧ M.1 = G.2.1 ∧ M.2.1 = 0) ∨ (G.1 = 1 ∧ M.2.1 = 1) ∨ (G.1 = 2 ∧ M.2.1 = 2)) : M.2.1 = C.1 ∧ (C.1 = 0 → C.2.1 0 = M.1) := by
  rcases hG with ⟨g1, g2, g3⟩ | ⟨g1, g2⟩ | ⟨g1, g2⟩
  · rw [if_pos g1] at h
    rw [h, g2, g3]
    exact ⟨rfl, fun _ => (if_pos (rfl : (0 : Int) = 0) : jset fo 0 G.2.1 0 = G.2.1)⟩
  · rw [if_neg (show ¬ G.1 = 0 by omega), if_pos g1] at h
    rw [h, g2]
    exact ⟨rfl, fun h => absurd (show (1 : Int) = 0 from h) (by decide)⟩
  · rw [if_neg (show ¬ G.1 = 0 by omega), if_neg (show ¬ G.1 = 1 by omega)] at h
    rw [h, g2]
    exact ⟨rfl, fun h => absurd (show (2 : Int) = 0 from h) (by decide)⟩
theorem k_goes2 (mth mn mp mw mu md mo : Int) : f_XM_goesP mth mn mp mw mu md mo 0 0 = (0, 1) ∧ f_XM_goesP mth mn mp mw mu md mo 1 0 = (0, 2) := by
  constructor
  · rw [f_XM_goesP_s, if_pos (rfl : (0 : Int) = 0)]
  · rw [f_XM_goesP_s, if_neg (show ¬ (1 : Int) = 0 by decide), if_pos (rfl : (0 : Int) = 0)]
section EQZ5
variable (mth mn mp mw mu md mo : Int) (bg bf : Int) (ft fp fl fh fq fr fd y1 y2 y3 y4 y5 y6 y7 y8 y9 y10 fs : Int → Int)
theorem kRow_e (hft : ∀ i, 0 ≤ ft i ∧ ft i ≤ 30) (hy1 : ∀ i, 0 ≤ y1 i ∧ y1 i ≤ 1) (hy2 : ∀ i, 0 ≤ y2 i ∧ y2 i ≤ 30) (hy3 : ∀ i, 0 ≤ y3 i ∧ y3 i ≤ 1) (hy4 : ∀ i, 0 ≤ y4 i ∧ y4 i ≤ 100000) (hy5 : ∀ i, 0 ≤ y5 i ∧ y5 i ≤ 100000) (h : jBk bg bf ft fp fl fh fq fr fd y1 y2 y3 y4 y5 y6 y7 y8 y9) (z1 z3 : Int) (t1 : kT bg z1) (hz : z3 = 0 ∨ z3 = 1) (fe : Int → Int) : kRow mth mn mp mw mo y1 y2 y3 y4 y5 y10 (f_XB_copyEnds bg bf fp fl fh z1 z3 fe) z1 z3 := by
  intro e e1 e2
  rw [copyEnds_e bg bf fe fp fl fh z1 z3 e e1 e2]
  have hl := fun u d => e_low mth mn mp mw u d mo bg bf ft fp fl fh fq fr fd y1 y2 y3 y4 y5 y6 y7 y8 y9 hft hy1 hy2 h z1 e t1 ⟨e1, e2⟩
  have b1 := f_XM_lowOfP_b mth mn mp mw 0 0 mo y1 y2 y3 y4 z1 e hy1 hy2 hy3 hy4 ⟨t1.1, t1.2.1⟩ ⟨e1, e2⟩
  have b2 := f_XM_highOfP_b mth mn mp mw 0 0 mo y1 y2 y3 y5 z1 e hy1 hy2 hy3 hy5 ⟨t1.1, t1.2.1⟩ ⟨e1, e2⟩
  rw [(hl 0 0).1] at b1
  rw [(hl 0 0).2] at b2
  rcases hz with rfl | rfl
  · exact ⟨b1.1, fun q => absurd q (by decide), fun _ u d => (hl u d).1, fun q => absurd q (by decide)⟩
  · exact ⟨b2.1, fun q => absurd q (by decide), fun q => absurd q (by decide), fun _ u d => (hl u d).2⟩
theorem e_equivalent (hft : ∀ i, 0 ≤ ft i ∧ ft i ≤ 30) (hy1 : ∀ i, 0 ≤ y1 i ∧ y1 i ≤ 1) (hy2 : ∀ i, 0 ≤ y2 i ∧ y2 i ≤ 30) (hy3 : ∀ i, 0 ≤ y3 i ∧ y3 i ≤ 1) (hy4 : ∀ i, 0 ≤ y4 i ∧ y4 i ≤ 100000) (hy5 : ∀ i, 0 ≤ y5 i ∧ y5 i ≤ 100000) (hy9 : ∀ i, 0 ≤ y9 i ∧ y9 i ≤ 20) (h : jBk bg bf ft fp fl fh fq fr fd y1 y2 y3 y4 y5 y6 y7 y8 y9) (z1 z2 z3 z4 : Int) (i1 : i32 z1) (i2 : i32 z2) (i3 : i32 z3) (i4 : i32 z4) (fo fe : Int → Int) :
    ∀ C, C = f_XL_equivalent bg bf fp fl fh fd fe z1 z2 z3 z4 fo → ∀ M, M = f_XM_equivalentP mth mn mp mw mu md mo y1 y2 y3 y4 y5 y8 y9 y10 z1 z2 z3 z4 → M.2.1 = C.1 ∧ (C.1 = 0 → C.2.1 0 = M.1) := by
  intro C hC M hM
  rw [f_XL_equivalent_s] at hC
  refine k_ansE _ C fo fe M hC ?_
  rw [f_XM_equivalentP_s, e_told mth mn mp mw mu md mo bg bf y1 hy1 h.1 z1 i1] at hM
  rw [f_XG_equivalent_s]
  obtain ⟨g0, g1⟩ := k_goes2 mth mn mp mw mu md mo
  have no : f_XM_equivalentP_J39 mth mn mp mw mu md mo y1 y2 y3 y4 y5 y8 y9 y10 z1 z2 z3 z4 0 = (0, 1, mu, md) := by
    rw [f_XM_equivalentP_J39_s, if_pos (rfl : (0 : Int) = 0), f_XM_equivalentP_J63_s, g0]; dsimp only; rw [if_pos (rfl : (0 : Int) = 0)]
  have ki := f_XM_isKind_b z2 i2
  have kj := f_XM_in_b z3 0 1 i3 (by decide) (by decide)
  have kl := f_XM_in_b z4 0 1 i4 (by decide) (by decide)
  rcases k_need bg bf z1 with ⟨n1, n2, n3⟩ | ⟨n1, n2⟩
  · rw [n2, if_neg (show ¬ (1 : Int) = 0 by decide)] at hM
    rw [if_pos n1]
    rcases k_below z2 4 with ⟨b1, b2, b3⟩ | ⟨b1, b2⟩
    · rw [if_pos b1]
      rw [if_neg (show ¬ f_XM_isKind z2 = 0 by omega)] at hM
      rcases k_below z3 2 with ⟨c1, c2, c3⟩ | ⟨c1, c2⟩
      · rw [if_pos c1]
        rw [if_neg (show ¬ f_XM_in z3 0 1 = 0 by omega)] at hM
        rcases k_below z4 2 with ⟨e1, e2, e3⟩ | ⟨e1, e2⟩
        · rw [if_pos e1, f_XG_needFormula_s, f_XB_hasFormula_s, h.2.2.2.2.1 z2 b2 (by omega)]
          rw [if_neg (show ¬ f_XM_in z4 0 1 = 0 by omega), f_XM_equivalentP_J39_s, if_neg (show ¬ (1 : Int) = 0 by decide)] at hM
          by_cases d : y8 z2 = 0
          · rw [if_pos d, f_XM_equivalentP_J63_s, g1] at hM
            dsimp only at hM
            rw [if_pos (rfl : (0 : Int) = 0)] at hM
            rw [if_pos d, if_neg (show ¬ (2 : Int) = 0 by decide)]
            exact Or.inr (Or.inr ⟨rfl, by rw [hM]⟩)
          · have d2 : f_XG_hasBit bf z2 ≠ 0 := by rw [h.2.2.2.2.1 z2 b2 (by omega)]; exact d
            obtain ⟨U, D, q1, q2⟩ := e_reckon 0 mn mp mw mu md mo bg bf fd y1 y2 y3 y4 y5 y9 y10 (f_XB_copyEnds bg bf fp fl fh z1 z3 fe) z1 z2 z3 (by omega) hy9 (fun x x1 x2 => h.2.2.2.2.2 z2 x b2 (by omega) x1 x2 d2) (kRow_e 0 mn mp mw mo bg bf ft fp fl fh fq fr fd y1 y2 y3 y4 y5 y6 y7 y8 y9 y10 hft hy1 hy2 hy3 hy4 hy5 h z1 z3 n3 (by omega) fe)
            rw [if_neg d, f_XM_equivalentP_J63_s, (k_goes mth mn mp mw mu md mo).2] at hM
            dsimp only at hM
            rw [if_neg (show ¬ (1 : Int) = 0 by decide), q1] at hM
            dsimp only at hM
            rw [if_neg d, if_pos (rfl : (0 : Int) = 0), e_lowest U D _ z4 q2]
            left
            by_cases a : z4 = 0
            · rw [if_pos a] at hM ⊢; rw [hM]; exact ⟨rfl, rfl, rfl⟩
            · rw [if_neg a] at hM ⊢; rw [hM]; exact ⟨rfl, rfl, rfl⟩
        · rw [if_neg (show ¬ f_XG_needBelow z4 2 = 0 by omega), e1]
          rw [if_pos (show f_XM_in z4 0 1 = 0 by omega), no] at hM
          exact Or.inr (Or.inl ⟨rfl, by rw [hM]⟩)
      · rw [if_neg (show ¬ f_XG_needBelow z3 2 = 0 by omega), c1]
        rw [if_pos (show f_XM_in z3 0 1 = 0 by omega), no] at hM
        exact Or.inr (Or.inl ⟨rfl, by rw [hM]⟩)
    · rw [if_neg (show ¬ f_XG_needBelow z2 4 = 0 by omega), b1]
      rw [if_pos (show f_XM_isKind z2 = 0 by omega), no] at hM
      exact Or.inr (Or.inl ⟨rfl, by rw [hM]⟩)
  · rw [if_neg (show ¬ f_XG_needGrade bg bf z1 = 0 by omega), n1]
    rw [n2, if_pos (rfl : (0 : Int) = 0), no] at hM
    exact Or.inr (Or.inl ⟨rfl, by rw [hM]⟩)
end EQZ5
end
