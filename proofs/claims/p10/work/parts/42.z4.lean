section
theorem e_addsL (mth mn mp mw mu md mo zs z2 : Int) : ∀ (n : Nat) (a b : Nat), b < n → f_XM_addsP_L46 mth mn mp mw mu md mo zs z2 n a b = (Int.tdiv (mu * z2 + zs * md) (Nat.gcd a b), Int.tdiv (md * z2) (Nat.gcd a b)) := by
  intro n
  induction n with
  | zero => intro a b h; omega
  | succ n ih =>
    intro a b h
    rw [f_XM_addsP_L46_s]
    by_cases c : b = 0
    · subst c
      rw [if_neg (show ¬ (0 : Int) < ((0 : Nat) : Int) by decide), Nat.gcd_zero_right]
    · have hm := Nat.mod_lt a (show 0 < b by omega)
      rw [if_pos (show (0 : Int) < (b : Int) by omega), ← Int.ofNat_tmod, ih b (a % b) (by omega), ← fz_gcd a b]
theorem e_adds (mth mn mp mw mu md mo zs z2 S : Int) (h : kFr mu md S) (hs : 0 ≤ zs) (ho : 0 ≤ z2 ∧ z2 ≤ 20) : ∃ U D, f_XM_addsP mth mn mp mw mu md mo zs z2 = (U, D) ∧ kFr U D (if 0 < z2 then S + zs * Int.tdiv 232792560 z2 else S) := by
  rw [f_XM_addsP_s]
  by_cases c : z2 = 0
  · subst c
    rw [if_pos rfl, if_neg (show ¬ (0 : Int) < 0 by decide)]
    exact ⟨mu, md, rfl, h⟩
  · rw [if_neg c, if_pos (show 0 < z2 by omega)]
    have hk := kFr_step mu md S zs z2 h hs (by omega)
    have hp : 0 ≤ mu ∧ 0 ≤ md := by
      obtain ⟨u, d, _, rfl, rfl, _⟩ := h
      omega
    have h1 : 0 ≤ md * z2 := Int.mul_nonneg hp.2 ho.1
    have h2 : 0 ≤ mu * z2 + zs * md := Int.add_nonneg (Int.mul_nonneg hp.1 ho.1) (Int.mul_nonneg hs hp.2)
    have e1 : ((md * z2).toNat : Int) = md * z2 := Int.toNat_of_nonneg h1
    have e2 : ((mu * z2 + zs * md).toNat : Int) = mu * z2 + zs * md := Int.toNat_of_nonneg h2
    have hL := e_addsL mth mn mp mw mu md mo zs z2 (Int.toNat (mu * z2 + zs * md) + 1) (md * z2).toNat (mu * z2 + zs * md).toNat (by omega)
    rw [e1, e2] at hL
    exact ⟨_, _, hL, hk⟩
section EQZ4
variable (mth mn mp mw mu md mo : Int) (bg bf : Int) (fd y1 y2 y3 y4 y5 y9 y10 fw : Int → Int) (z1 z2 z3 : Int)
/-- the row that the reference adds up, as the class has it -/
def kRow : Prop := ∀ e, 0 ≤ e → e ≤ 7 → 0 ≤ fw e ∧ (z3 = 2 → y10 e = fw e) ∧ (z3 = 0 → ∀ u d, f_XM_lowOfP mth mn mp mw u d mo y1 y2 y3 y4 z1 e = fw e) ∧ (z3 = 1 → ∀ u d, f_XM_highOfP mth mn mp mw u d mo y1 y2 y3 y5 z1 e = fw e)
theorem e_reckonL (hz : z3 = 0 ∨ z3 = 1 ∨ z3 = 2) (hy9 : ∀ i, 0 ≤ y9 i ∧ y9 i ≤ 20) (hd : ∀ x, 0 ≤ x → x ≤ 7 → fd (z2 * 8 + x) = y9 (8 * z2 + x)) (hr : kRow mth mn mp mw mo y1 y2 y3 y4 y5 y10 fw z1 z3) : ∀ (n n' : Nat) (k u d S : Int), 8 - k < (n : Int) → 8 - k < (n' : Int) → 0 ≤ k → k ≤ 8 → kFr u d S → ∃ U D, f_XM_reckonP_L13 mth mn mp mw mu md mo y1 y2 y3 y4 y5 y9 y10 z1 z2 z3 n' k u d = (U, D) ∧ kFr U D (f_XB_scaledSum_L5 bg bf fd z2 fw n S k) := by
  intro n
  induction n with
  | zero => intro n' k u d S h; omega
  | succ n ih =>
    intro n' k u d S h1 h2 h3 h4 h5
    cases n' with
    | zero => omega
    | succ n' =>
      rw [f_XM_reckonP_L13_s, f_XB_scaledSum_L5_s, f_XB_divisorOf_s]
      by_cases a : k < 8
      · rw [if_pos a, if_pos a, if_pos a, hd k h3 (by omega)]
        obtain ⟨r1, r2, r3, r4⟩ := hr k h3 (by omega)
        obtain ⟨U, D, q1, q2⟩ := e_adds mth mn mp mw u d mo (fw k) (y9 (8 * z2 + k)) S h5 r1 (hy9 _)
        have go : ∃ U' D', f_XM_reckonP_L13 mth mn mp mw mu md mo y1 y2 y3 y4 y5 y9 y10 z1 z2 z3 n' (k + 1) U D = (U', D') ∧ kFr U' D' (if 0 < y9 (8 * z2 + k) then f_XB_scaledSum_L5 bg bf fd z2 fw n (S + fw k * Int.tdiv 232792560 (y9 (8 * z2 + k))) (k + 1) else f_XB_scaledSum_L5 bg bf fd z2 fw n S (k + 1)) := by
          have g := ih n' (k + 1) U D _ (by omega) (by omega) (by omega) (by omega) q2
          by_cases c : 0 < y9 (8 * z2 + k)
          · rw [if_pos c] at g ⊢; exact g
          · rw [if_neg c] at g ⊢; exact g
        rcases hz with hz | hz | hz
        · rw [if_neg (show ¬ z3 = 2 by omega), if_pos hz, r3 hz, q1]
          exact go
        · rw [if_neg (show ¬ z3 = 2 by omega), if_neg (show ¬ z3 = 0 by omega), r4 hz, q1]
          exact go
        · rw [if_pos hz, r2 hz, q1]
          exact go
      · rw [if_neg a, if_neg a]
        exact ⟨u, d, rfl, h5⟩
theorem e_reckon (hz : z3 = 0 ∨ z3 = 1 ∨ z3 = 2) (hy9 : ∀ i, 0 ≤ y9 i ∧ y9 i ≤ 20) (hd : ∀ x, 0 ≤ x → x ≤ 7 → fd (z2 * 8 + x) = y9 (8 * z2 + x)) (hr : kRow mth mn mp mw mo y1 y2 y3 y4 y5 y10 fw z1 z3) : ∃ U D, f_XM_reckonP mth mn mp mw mu md mo y1 y2 y3 y4 y5 y9 y10 z1 z2 z3 = (U, D) ∧ kFr U D (f_XB_scaledSum bg bf fd z2 fw) := by
  rw [f_XM_reckonP_s, f_XB_scaledSum_s]
  exact e_reckonL mth mn mp mw mu md mo bg bf fd y1 y2 y3 y4 y5 y9 y10 fw z1 z2 z3 hz hy9 hd hr (Int.toNat (8 - 0) + 1) (Int.toNat (8 - 0) + 1) 0 0 1 0 (by decide) (by decide) (by decide) (by decide) kFr_0
theorem copyEnds_v (fp fl fh : Int → Int) (zg zn : Int) : ∀ (n : Nat) (k : Int) (fa : Int → Int), 8 - k < (n : Int) → 0 ≤ k → k ≤ 8 → ∀ x, (k ≤ x → x ≤ 7 → f_XB_copyEnds_L3 bg bf fp fl fh zg zn fw n k fa x = f_XB_endOf bg bf fp fl fh zg x zn) ∧ (x < k → f_XB_copyEnds_L3 bg bf fp fl fh zg zn fw n k fa x = fa x) := by
  intro n
  induction n with
  | zero => intro k fa h; omega
  | succ n ih =>
    intro k fa h1 h2 h3 x
    rw [f_XB_copyEnds_L3_s]
    by_cases a : k < 8
    · rw [if_pos a, if_pos a]
      obtain ⟨i1, i2⟩ := ih (k + 1) (jset fa k (f_XB_endOf bg bf fp fl fh zg k zn)) (by omega) (by omega) (by omega) x
      refine ⟨fun b c => ?_, fun b => ?_⟩
      · by_cases d : x = k
        · rw [i2 (by omega)]; unfold jset; rw [if_pos d, d]
        · exact i1 (by omega) c
      · rw [i2 (by omega)]; unfold jset; rw [if_neg (by omega)]
    · rw [if_neg a]
      exact ⟨fun b c => by omega, fun _ => rfl⟩
theorem copyEnds_e (fp fl fh : Int → Int) (zg zn : Int) (x : Int) (h1 : 0 ≤ x) (h2 : x ≤ 7) : f_XB_copyEnds bg bf fp fl fh zg zn fw x = f_XB_endOf bg bf fp fl fh zg x zn := by
  rw [f_XB_copyEnds_s]
  exact (copyEnds_v bg bf fw fp fl fh zg zn _ 0 fw (by decide) (by decide) (by decide) x).1 h1 h2
end EQZ4
end
section
section EQZ5
variable (mth mn mp mw mu md mo : Int) (bg bf : Int) (ft fp fl fh fq fr fd y1 y2 y3 y4 y5 y6 y7 y8 y9 y10 fs : Int → Int)
theorem kRow_e (hft : ∀ i, 0 ≤ ft i ∧ ft i ≤ 30) (hy1 : ∀ i, 0 ≤ y1 i ∧ y1 i ≤ 1) (hy2 : ∀ i, 0 ≤ y2 i ∧ y2 i ≤ 30) (hy3 : ∀ i, 0 ≤ y3 i ∧ y3 i ≤ 1) (hy4 : ∀ i, 0 ≤ y4 i ∧ y4 i ≤ 100000) (hy5 : ∀ i, 0 ≤ y5 i ∧ y5 i ≤ 100000) (h : jBk bg bf ft fp fl fh fq fr fd y1 y2 y3 y4 y5 y6 y7 y8 y9) (z1 z3 : Int) (t1 : kT bg z1) (hz : z3 = 0 ∨ z3 = 1) (fe : Int → Int) : kRow mth mn mp mw mo y1 y2 y3 y4 y5 y10 (f_XB_copyEnds bg bf fp fl fh z1 z3 fe) z1 z3 := by
  intro e e1 e2
  rw [copyEnds_e bg bf fe fp fl fh z1 z3 e e1 e2]
  have hl := fun u d => e_low mth mn mp mw u d mo bg bf ft fp fl fh fq fr fd y1 y2 y3 y4 y5 y6 y7 y8 y9 hft hy1 hy2 h z1 e t1 ⟨e1, e2⟩
  have b1 := f_XM_lowOfP_b mth mn mp mw 0 0 mo y1 y2 y3 y4 z1 e hy1 hy2 hy3 hy4 ⟨t1.1, t1.2.1⟩ ⟨e1, e2⟩
  have b2 := f_XM_highOfP_b mth mn mp mw 0 0 mo y1 y2 y3 y5 z1 e hy1 hy2 hy3 hy5 ⟨t1.1, t1.2.1⟩ ⟨e1, e2⟩
  rw [(hl 0 0).1] at b1
  rw [(hl 0 0).2] at b2
  rcases hz with rfl | rfl
  · exact ⟨b1.1, fun q => absurd q (by decide), fun _ u d => (hl u d).1, fun q => absurd q (by decide)⟩
  · exact ⟨b2.1, fun q => absurd q (by decide), fun q => absurd q (by decide), fun _ u d => (hl u d).2⟩
end EQZ5
end
section
theorem k_ansH (G : Int × Int × (Int → Int)) (C : Int × (Int → Int) × (Int → Int)) (fo fe : Int → Int) (M : Int × Int × Int × Int) (h : C = if G.1 = 0 then (if jw G.2.1 = 0 then (0, jset fo 0 0, G.2.2) else (0, jset fo 0 1, G.2.2)) else (1, fo, fe)) (hG : (G.1 = 0 ∧ M.1 = G.2.1 ∧ M.2.1 = 0 ∧ (G.2.1 = 0 ∨ G.2.1 = 1)) ∨ (G.1 = 1 ∧ M.2.1 = 1)) : M.2.1 = C.1 ∧ (C.1 = 0 → C.2.1 0 = M.1) := by
  rcases hG with ⟨g1, g2, g3, g4⟩ | ⟨g1, g2⟩
  · have hj := jw_or G.2.1
    rw [if_pos g1] at h
    rcases g4 with g4 | g4
    · rw [if_pos (show jw G.2.1 = 0 by omega)] at h
      rw [h, g2, g3, g4]
      exact ⟨rfl, fun _ => (if_pos (rfl : (0 : Int) = 0) : jset fo 0 0 0 = 0)⟩
    · rw [if_neg (show ¬ jw G.2.1 = 0 by omega)] at h
      rw [h, g2, g3, g4]
      exact ⟨rfl, fun _ => (if_pos (rfl : (0 : Int) = 0) : jset fo 0 1 0 = 1)⟩
  · rw [if_neg (show ¬ G.1 = 0 by omega)] at h
    rw [h, g2]
    exact ⟨rfl, fun h => absurd (show (1 : Int) = 0 from h) (by decide)⟩
section EQZ6
variable (mth mn mp mw mu md mo : Int) (bg bf : Int) (ft fp fl fh fq fr fd y1 y2 y3 y4 y5 y6 y7 y8 y9 y10 fs fw : Int → Int)
theorem e_isAbove (hft : ∀ i, 0 ≤ ft i ∧ ft i ≤ 30) (hfq : ∀ i, -1 ≤ fq i ∧ fq i ≤ 999999) (hy1 : ∀ i, 0 ≤ y1 i ∧ y1 i ≤ 1) (hy2 : ∀ i, 0 ≤ y2 i ∧ y2 i ≤ 30) (hy7 : ∀ i, -1 ≤ y7 i ∧ y7 i ≤ 999999) (hy9 : ∀ i, 0 ≤ y9 i ∧ y9 i ≤ 20) (h : jBk bg bf ft fp fl fh fq fr fd y1 y2 y3 y4 y5 y6 y7 y8 y9) (z1 z2 z3 z4 : Int) (t1 : kT bg z1) (h3 : 0 ≤ z3 ∧ z3 ≤ 3) (hz : z4 = 0 ∨ z4 = 1 ∨ z4 = 2) (hr : kRow mth mn mp mw mo y1 y2 y3 y4 y5 y10 fw z2 z4) :
    ∃ U D, f_XM_isAboveP mth mn mp mw mu md mo y1 y2 y3 y4 y5 y7 y8 y9 y10 z1 z2 z3 z4 = (if f_XB_hasFormula bg bf z3 = 0 then 0 else if f_XB_limitOf bg bf fp fq z1 z3 = (-1) then 0 else if f_XB_limitOf bg bf fp fq z1 z3 * 232792560 < f_XB_scaledSum bg bf fd z3 fw then 1 else 0, U, D) := by
  have hl := fun u d => e_limitOf mth mn mp mw u d mo bg bf ft fp fl fh fq fr fd y1 y2 y3 y4 y5 y6 y7 y8 y9 hft hfq hy1 hy2 h z1 z3 t1 h3
  have hb := f_XM_limitOfP_b mth mn mp mw mu md mo y1 y2 y7 z1 z3 hy1 hy2 hy7 ⟨t1.1, t1.2.1⟩ h3
  rw [hl mu md] at hb
  rw [f_XM_isAboveP_s, f_XB_hasFormula_s, h.2.2.2.2.1 z3 h3.1 h3.2, hl mu md]
  by_cases a : y8 z3 = 0
  · rw [if_pos a, if_pos a]; exact ⟨mu, md, rfl⟩
  · rw [if_neg a, if_neg a]
    by_cases b : f_XB_limitOf bg bf fp fq z1 z3 = -1
    · rw [if_pos (show f_XB_limitOf bg bf fp fq z1 z3 < 0 by omega), if_pos b]; exact ⟨mu, md, rfl⟩
    · rw [if_neg (show ¬ f_XB_limitOf bg bf fp fq z1 z3 < 0 by omega), if_neg b]
      have d2 : f_XG_hasBit bf z3 ≠ 0 := by rw [h.2.2.2.2.1 z3 h3.1 h3.2]; exact a
      obtain ⟨U, D, q1, q2⟩ := e_reckon mth mn mp mw mu md mo bg bf fd y1 y2 y3 y4 y5 y9 y10 fw z2 z3 z4 hz hy9 (fun x x1 x2 => h.2.2.2.2.2 z3 x h3.1 h3.2 x1 x2 d2) hr
      have hk := kFr_above U D _ (f_XB_limitOf bg bf fp fq z1 z3) q2
      rw [q1]
      dsimp only
      rw [hl U D]
      by_cases c : f_XB_limitOf bg bf fp fq z1 z3 * D < U
      · rw [if_pos c, if_pos (hk.mp c)]; exact ⟨U, D, rfl⟩
      · rw [if_neg c, if_neg (fun q => c (hk.mpr q))]; exact ⟨U, D, rfl⟩
theorem e_holdsK (m1 z1 z2 : Int) (hft : ∀ i, 0 ≤ ft i ∧ ft i ≤ 30) (hfq : ∀ i, -1 ≤ fq i ∧ fq i ≤ 999999) (hy1 : ∀ i, 0 ≤ y1 i ∧ y1 i ≤ 1) (hy2 : ∀ i, 0 ≤ y2 i ∧ y2 i ≤ 30) (hy7 : ∀ i, -1 ≤ y7 i ∧ y7 i ≤ 999999) (hy9 : ∀ i, 0 ≤ y9 i ∧ y9 i ≤ 20) (h : jBk bg bf ft fp fl fh fq fr fd y1 y2 y3 y4 y5 y6 y7 y8 y9) (t1 : kT bg z1) (hr : kRow m1 mn mp mw mo y1 y2 y3 y4 y5 y10 fw z2 1) : ∀ (n n' : Nat) (k u d : Int), 4 - k < (n : Int) → 4 - k < (n' : Int) → 0 ≤ k → k ≤ 4 →
    ∃ U D, f_XM_holdsP_L79 mth mn mp mw mu md mo y1 y2 y3 y4 y5 y7 y8 y9 y10 z1 z2 m1 n' k u d = (if f_XB_firstKindAbove_L2 bg bf fp fq fd z1 fw n k = (-1) then 1 else 0, m1, U, D) := by
  intro n
  induction n with
  | zero => intro n' k u d h1; omega
  | succ n ih =>
    intro n' k u d h1 h2 h3 h4
    cases n' with
    | zero => omega
    | succ n' =>
      rw [f_XM_holdsP_L79_s, f_XB_firstKindAbove_L2_s]
      by_cases a : k < 4
      · rw [if_pos a, if_pos a]
        obtain ⟨U, D, q1⟩ := e_isAbove m1 mn mp mw u d mo bg bf ft fp fl fh fq fr fd y1 y2 y3 y4 y5 y6 y7 y8 y9 y10 fw hft hfq hy1 hy2 hy7 hy9 h z1 z2 k 1 t1 ⟨h3, by omega⟩ (Or.inr (Or.inl rfl)) hr
        have next := ih n' (k + 1) U D (by omega) (by omega) (by omega) (by omega)
        rw [q1]
        dsimp only
        by_cases b : f_XB_hasFormula bg bf k = 0
        · rw [if_pos b, if_pos b, if_pos (rfl : (0 : Int) = 0)]; exact next
        · rw [if_neg b, if_neg b]
          by_cases c : f_XB_limitOf bg bf fp fq z1 k = -1
          · rw [if_pos c, if_pos c, if_pos (rfl : (0 : Int) = 0)]; exact next
          · rw [if_neg c, if_neg c]
            by_cases e : f_XB_limitOf bg bf fp fq z1 k * 232792560 < f_XB_scaledSum bg bf fd k fw
            · rw [if_pos e, if_pos e, if_neg (show ¬ (1 : Int) = 0 by decide), if_neg (show ¬ k = -1 by omega)]; exact ⟨U, D, rfl⟩
            · rw [if_neg e, if_neg e, if_pos (rfl : (0 : Int) = 0)]; exact next
      · rw [if_neg a, if_neg a, if_pos (rfl : (-1 : Int) = -1)]; exact ⟨u, d, rfl⟩
theorem e_holdsL (m1 z1 z2 : Int) (fe : Int → Int) (hft : ∀ i, 0 ≤ ft i ∧ ft i ≤ 30) (hfq : ∀ i, -1 ≤ fq i ∧ fq i ≤ 999999) (hy1 : ∀ i, 0 ≤ y1 i ∧ y1 i ≤ 1) (hy2 : ∀ i, 0 ≤ y2 i ∧ y2 i ≤ 30) (hy3 : ∀ i, 0 ≤ y3 i ∧ y3 i ≤ 1) (hy4 : ∀ i, 0 ≤ y4 i ∧ y4 i ≤ 100000) (hy5 : ∀ i, 0 ≤ y5 i ∧ y5 i ≤ 100000) (hy7 : ∀ i, -1 ≤ y7 i ∧ y7 i ≤ 999999) (hy9 : ∀ i, 0 ≤ y9 i ∧ y9 i ≤ 20) (h : jBk bg bf ft fp fl fh fq fr fd y1 y2 y3 y4 y5 y6 y7 y8 y9) (t1 : kT bg z1) (t2 : kT bg z2) : ∀ (n n' : Nat) (k : Int), 8 - k < (n : Int) → 8 - k < (n' : Int) → 0 ≤ k → k ≤ 8 →
    (f_XG_holds_L12 bg bf fp fl fh fq fd fe z1 z2 n k).1 = 0 ∧ ((f_XG_holds_L12 bg bf fp fl fh fq fd fe z1 z2 n k).2.1 = 0 ∨ (f_XG_holds_L12 bg bf fp fl fh fq fd fe z1 z2 n k).2.1 = 1) ∧ ∃ U D, f_XM_holdsP_L33 mth mn mp mw mu md mo y1 y2 y3 y4 y5 y7 y8 y9 y10 z1 z2 m1 n' k = ((f_XG_holds_L12 bg bf fp fl fh fq fd fe z1 z2 n k).2.1, m1, U, D) := by
  intro n
  induction n with
  | zero => intro n' k h1; omega
  | succ n ih =>
    intro n' k h1 h2 h3 h4
    cases n' with
    | zero => omega
    | succ n' =>
      rw [f_XM_holdsP_L33_s, f_XG_holds_L12_s]
      by_cases a : k < 8
      · rw [if_pos a, if_pos a]
        obtain ⟨l1, l2⟩ := e_low m1 mn mp mw mu md mo bg bf ft fp fl fh fq fr fd y1 y2 y3 y4 y5 y6 y7 y8 y9 hft hy1 hy2 h z1 k t1 ⟨h3, by omega⟩
        obtain ⟨l3, l4⟩ := e_low m1 mn mp mw mu md mo bg bf ft fp fl fh fq fr fd y1 y2 y3 y4 y5 y6 y7 y8 y9 hft hy1 hy2 h z2 k t2 ⟨h3, by omega⟩
        rw [l1, l2, l3, l4]
        by_cases b : f_XB_endOf bg bf fp fl fh z2 k 0 < f_XB_endOf bg bf fp fl fh z1 k 0
        · rw [if_pos b, if_pos b]; exact ⟨rfl, Or.inl rfl, mu, md, rfl⟩
        · rw [if_neg b, if_neg b]
          by_cases c : f_XB_endOf bg bf fp fl fh z1 k 1 < f_XB_endOf bg bf fp fl fh z2 k 1
          · rw [if_pos c, if_pos c]; exact ⟨rfl, Or.inl rfl, mu, md, rfl⟩
          · rw [if_neg c, if_neg c]
            exact ih n' (k + 1) (by omega) (by omega) (by omega) (by omega)
      · rw [if_neg a, if_neg a, f_XB_firstKindAbove_s]
        obtain ⟨U, D, q⟩ := e_holdsK mth mn mp mw mu md mo bg bf ft fp fl fh fq fr fd y1 y2 y3 y4 y5 y6 y7 y8 y9 y10 (f_XB_copyEnds bg bf fp fl fh z2 1 fe) m1 z1 z2 hft hfq hy1 hy2 hy7 hy9 h t1 (kRow_e m1 mn mp mw mo bg bf ft fp fl fh fq fr fd y1 y2 y3 y4 y5 y6 y7 y8 y9 y10 hft hy1 hy2 hy3 hy4 hy5 h z2 1 t2 (Or.inr rfl) fe) (Int.toNat (4 - 0) + 1) (Int.toNat (4 - 0) + 1) 0 mu md (by decide) (by decide) (by decide) (by decide)
        rw [q]
        by_cases b : f_XB_firstKindAbove_L2 bg bf fp fq fd z1 (f_XB_copyEnds bg bf fp fl fh z2 1 fe) (Int.toNat (4 - 0) + 1) 0 = -1
        · rw [if_pos b, if_pos b]; exact ⟨rfl, Or.inr rfl, U, D, rfl⟩
        · rw [if_neg b, if_neg b]; exact ⟨rfl, Or.inl rfl, U, D, rfl⟩
theorem e_holds (hft : ∀ i, 0 ≤ ft i ∧ ft i ≤ 30) (hfq : ∀ i, -1 ≤ fq i ∧ fq i ≤ 999999) (hy1 : ∀ i, 0 ≤ y1 i ∧ y1 i ≤ 1) (hy2 : ∀ i, 0 ≤ y2 i ∧ y2 i ≤ 30) (hy3 : ∀ i, 0 ≤ y3 i ∧ y3 i ≤ 1) (hy4 : ∀ i, 0 ≤ y4 i ∧ y4 i ≤ 100000) (hy5 : ∀ i, 0 ≤ y5 i ∧ y5 i ≤ 100000) (hy7 : ∀ i, -1 ≤ y7 i ∧ y7 i ≤ 999999) (hy9 : ∀ i, 0 ≤ y9 i ∧ y9 i ≤ 20) (h : jBk bg bf ft fp fl fh fq fr fd y1 y2 y3 y4 y5 y6 y7 y8 y9) (z1 z2 : Int) (i1 : i32 z1) (i2 : i32 z2) (fo fe : Int → Int) :
    ∀ C, C = f_XL_holds bg bf fp fl fh fq fd fe z1 z2 fo → ∀ M, M = f_XM_holdsP mth mn mp mw mu md mo y1 y2 y3 y4 y5 y7 y8 y9 y10 z1 z2 → M.2.1 = C.1 ∧ (C.1 = 0 → C.2.1 0 = M.1) := by
  intro C hC M hM
  rw [f_XL_holds_s] at hC
  refine k_ansH _ C fo fe M hC ?_
  rw [f_XM_holdsP_s, e_told mth mn mp mw mu md mo bg bf y1 hy1 h.1 z1 i1, e_told mth mn mp mw mu md mo bg bf y1 hy1 h.1 z2 i2] at hM
  rw [f_XG_holds_s]
  obtain ⟨g0, g1⟩ := k_goes mth mn mp mw mu md mo
  have no : f_XM_holdsP_J22 mth mn mp mw mu md mo y1 y2 y3 y4 y5 y7 y8 y9 y10 z1 z2 0 = (0, 1, mu, md) := by
    rw [f_XM_holdsP_J22_s, g0]; dsimp only; rw [if_pos (rfl : (0 : Int) = 0)]
  rcases k_need bg bf z1 with ⟨n1, n2, n3⟩ | ⟨n1, n2⟩
  · rw [n2, if_neg (show ¬ (1 : Int) = 0 by decide)] at hM
    rw [if_pos n1]
    rcases k_need bg bf z2 with ⟨b1, b2, b3⟩ | ⟨b1, b2⟩
    · rw [b2, if_neg (show ¬ (1 : Int) = 0 by decide), f_XM_holdsP_J22_s, g1] at hM
      dsimp only at hM
      obtain ⟨q1, q3, U, D, q2⟩ := e_holdsL mth mn mp mw mu md mo bg bf ft fp fl fh fq fr fd y1 y2 y3 y4 y5 y6 y7 y8 y9 y10 0 z1 z2 fe hft hfq hy1 hy2 hy3 hy4 hy5 hy7 hy9 h n3 b3 (Int.toNat (8 - 0) + 1) (Int.toNat (8 - 0) + 1) 0 (by decide) (by decide) (by decide) (by decide)
      rw [if_neg (show ¬ (1 : Int) = 0 by decide), q2] at hM
      rw [if_pos b1]
      exact Or.inl ⟨q1, by rw [hM], by rw [hM], q3⟩
    · rw [b2, if_pos (rfl : (0 : Int) = 0), no] at hM
      rw [if_neg (show ¬ f_XG_needGrade bg bf z2 = 0 by omega), b1]
      exact Or.inr ⟨rfl, by rw [hM]⟩
  · rw [n2, if_pos (rfl : (0 : Int) = 0), no] at hM
    rw [if_neg (show ¬ f_XG_needGrade bg bf z1 = 0 by omega), n1]
    exact Or.inr ⟨rfl, by rw [hM]⟩
end EQZ6
end
