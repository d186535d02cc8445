/-! chains of parents: the class beside the reference -/
theorem mbit_hb (a x : Int) (ha : 0 ≤ a ∧ a < 2147483648) (hx : 0 ≤ x ∧ x ≤ 7) : mbit a x = f_XG_hasBit a x := by
  rw [mbit_eq a x hx, hb_eq a x hx.1]
  have h : (jI a).toBitVec.toNat = a.toNat := by
    show (BitVec.ofInt 32 a).toNat = a.toNat
    rw [BitVec.toNat_ofInt]
    omega
  have h2 : (jI a).toBitVec.getLsbD x.toNat = a.toNat.testBit x.toNat := by
    show (jI a).toBitVec.toNat.testBit x.toNat = _
    rw [h]
  rw [h2]
def kT (bg v : Int) : Prop := 1 ≤ v ∧ v ≤ 30 ∧ f_XG_hasBit bg v ≠ 0
theorem kT_knows (bg bf v : Int) : (f_XB_knows bg bf v = 1 ∧ kT bg v) ∨ (f_XB_knows bg bf v = 0 ∧ ¬ kT bg v) := by
  rw [f_XB_knows_s]
  unfold kT
  by_cases a : v < 1
  · rw [if_pos a]; exact Or.inr ⟨rfl, fun h => by omega⟩
  · rw [if_neg a]
    by_cases b : 30 < v
    · rw [if_pos b]; exact Or.inr ⟨rfl, fun h => by omega⟩
    · rw [if_neg b]
      by_cases c : f_XG_hasBit bg v = 0
      · rw [if_pos c]; exact Or.inr ⟨rfl, fun h => h.2.2 c⟩
      · rw [if_neg c]; exact Or.inl ⟨rfl, by omega, by omega, c⟩
theorem e_told (mth mn mp mw mu md mo : Int) (bg bf : Int) (y1 : Int → Int) (hy1 : ∀ i, 0 ≤ y1 i ∧ y1 i ≤ 1) (hG : ∀ g, 1 ≤ g → g ≤ 30 → f_XG_hasBit bg g = y1 g) (z : Int) (hz : i32 z) : f_XM_isTold mth mn mp mw mu md mo y1 z = f_XB_knows bg bf z := by
  have h := f_XM_isTold_b mth mn mp mw mu md mo y1 z hy1 hz
  rcases kT_knows bg bf z with ⟨k1, k2, k3, k4⟩ | ⟨k1, k2⟩
  · have := hG z k2 k3
    rw [k1]; omega
  · rw [k1]
    rcases h with ⟨h1, h2, h3, h4⟩ | ⟨h1, _⟩
    · exact absurd ⟨h2, h3, by rw [hG z h2 h3]; omega⟩ k2
    · exact h1
theorem kfp_t (bg bf : Int) (ft : Int → Int) (g : Int) : kfp bg bf ft g = 0 ∨ (kT bg (kfp bg bf ft g) ∧ kfp bg bf ft g = ft g ∧ f_XB_onRing bg bf ft g = 0) := by
  unfold kfp
  rcases kT_knows bg bf (ft g) with ⟨k1, k2⟩ | ⟨k1, k2⟩
  · rw [if_neg (show ¬ f_XB_knows bg bf (ft g) = 0 by omega)]
    by_cases c : f_XB_onRing bg bf ft g = 0
    · rw [if_pos c]; exact Or.inr ⟨k2, rfl, c⟩
    · rw [if_neg c]; exact Or.inl rfl
  · rw [if_pos k1]; exact Or.inl rfl
theorem jdp_le (F : Int → Int) : ∀ (n m : Nat) (k : Int), jit F n k ≤ 0 → jdp F m k ≤ n := by
  intro n
  induction n with
  | zero => intro m k h; rw [jdp_end F m k h]; omega
  | succ n ih =>
    intro m k h
    cases m with
    | zero => show (0 : Int) ≤ _; omega
    | succ m =>
      show (if k ≤ 0 then 0 else 1 + jdp F m (F k)) ≤ _
      have := ih m (F k) h
      split <;> omega
theorem reach30 (bg bf : Int) (ft fp : Int → Int) (hft : ∀ i, 0 ≤ ft i ∧ ft i ≤ 30) (hp : ∀ g, kT bg g → fp g = kfp bg bf ft g) (g : Int) (hg : kT bg g) : ∃ n, n ≤ 30 ∧ jit fp n g ≤ 0 := by
  by_cases hx : ∃ n, n ≤ 30 ∧ jit fp n g ≤ 0
  · exact hx
  · have hpos : ∀ n, n ≤ 30 → 0 < jit fp n g := fun n hn => by
      by_cases h : 0 < jit fp n g
      · exact h
      · exact absurd ⟨n, hn, by omega⟩ hx
    have hT : ∀ n, n ≤ 30 → kT bg (jit fp n g) := by
      intro n
      induction n with
      | zero => intro _; exact hg
      | succ n ih =>
        intro hn
        have h1 := ih (by omega)
        have h2 := hpos (n + 1) hn
        rw [jit_succ] at h2 ⊢
        rw [hp _ h1] at h2 ⊢
        rcases kfp_t bg bf ft (jit fp n g) with h3 | ⟨h3, _⟩
        · omega
        · exact h3
    have hS : ∀ n, n + 1 ≤ 30 → jit fp (n + 1) g = ft (jit fp n g) ∧ f_XB_onRing bg bf ft (jit fp n g) = 0 := by
      intro n hn
      have h1 := hT n (by omega)
      have h2 := hpos (n + 1) hn
      rw [jit_succ] at h2 ⊢
      rw [hp _ h1] at h2 ⊢
      rcases kfp_t bg bf ft (jit fp n g) with h3 | ⟨_, h3, h4⟩
      · omega
      · exact ⟨h3, h4⟩
    obtain ⟨i, j, i1, i2, i3⟩ := jpig 30 (fun n => (jit fp n g - 1).toNat) (fun i hi => by
      have := hT i (by omega)
      show (jit fp i g - 1).toNat < 30
      have := this.1; have := (hT i (by omega)).2.1
      omega)
    have a1 := (hT i (by omega)).1
    have a2 := (hT j (by omega)).1
    have i3 : (jit fp i g - 1).toNat = (jit fp j g - 1).toNat := i3
    have hE : ∀ d, i + d ≤ 30 → jit (eF ft) d (jit fp i g) = jit fp (i + d) g := by
      intro d
      induction d with
      | zero => intro _; rfl
      | succ d ih =>
        intro hd
        have h1 := (hT (i + d) (by omega)).1
        rw [jit_succ, ih (by omega), ← Nat.add_assoc, (hS (i + d) (by omega)).1]
        unfold eF
        rw [if_pos (by omega)]
    have hj := hE (j - i) (by omega)
    rw [show i + (j - i) = j by omega, show jit fp j g = jit fp i g by omega] at hj
    rcases e_on bg bf ft hft (jit fp i g) ⟨a1, (hT i (by omega)).2.1⟩ with ⟨o1, _⟩ | ⟨_, o2⟩
    · have := (hS i (by omega)).2
      omega
    · exact absurd hj (o2 (j - i) (by omega) (by omega))
theorem dp_fp (bg bf : Int) (ft fp : Int → Int) (hft : ∀ i, 0 ≤ ft i ∧ ft i ≤ 30) (hp : ∀ g, kT bg g → fp g = kfp bg bf ft g) (g : Int) (hg : kT bg g) : jdp fp 41 g ≤ 30 ∧ jdp fp 41 (fp g) < jdp fp 41 g ∧ 0 ≤ jdp fp 41 (fp g) ∧ (fp g = 0 ∨ kT bg (fp g)) := by
  obtain ⟨n, h1, h2⟩ := reach30 bg bf ft fp hft hp g hg
  have h3 := jdp_le fp n 41 g h2
  refine ⟨by omega, jdp_step fp n g h2 (by omega) (by have := hg.1; omega), jdp_nn fp 41 _, ?_⟩
  rw [hp g hg]
  rcases kfp_t bg bf ft g with h4 | ⟨h4, _⟩
  · exact Or.inl h4
  · exact Or.inr h4
section EQX4
variable (mth mn mp mw mu md mo : Int) (bg bf : Int) (ft fp fl fh fq fr fd y1 y2 y3 y4 y5 y6 y7 y8 y9 : Int → Int)
theorem jBk_p (h : jBk bg bf ft fp fl fh fq fr fd y1 y2 y3 y4 y5 y6 y7 y8 y9) : ∀ g, kT bg g → fp g = kfp bg bf ft g := fun g hg => (h.2.2.2.1 g hg.1 hg.2.1 hg.2.2).2.2.2
theorem e_from (hft : ∀ i, 0 ≤ ft i ∧ ft i ≤ 30) (hy1 : ∀ i, 0 ≤ y1 i ∧ y1 i ≤ 1) (h : jBk bg bf ft fp fl fh fq fr fd y1 y2 y3 y4 y5 y6 y7 y8 y9) (g : Int) (hg : kT bg g) : f_XM_from mth mn mp mw mu md mo y1 y2 g = fp g := by
  rw [jBk_p bg bf ft fp fl fh fq fr fd y1 y2 y3 y4 y5 y6 y7 y8 y9 h g hg, f_XM_from_s]
  have hE := e_ringEq mth mn mp mw mu md mo y1 y2 bg bf ft hft hy1 h.1 h.2.1 h.2.2.1 g ⟨hg.1, hg.2.1⟩
  have hy := h.2.1 g hg.1 hg.2.1
  have hb := hft g
  have hk := e_told mth mn mp mw mu md mo bg bf y1 hy1 h.1 (ft g) (by omega)
  rw [← hE, ← hy, hk]
  unfold kfp
  by_cases a : f_XB_onRing bg bf ft g = 0
  · rw [if_pos a, if_pos a]
  · rw [if_neg a, if_neg a]
    split <;> rfl
theorem e_limL (hft : ∀ i, 0 ≤ ft i ∧ ft i ≤ 30) (hfq : ∀ i, -1 ≤ fq i ∧ fq i ≤ 999999) (hy1 : ∀ i, 0 ≤ y1 i ∧ y1 i ≤ 1) (hy2 : ∀ i, 0 ≤ y2 i ∧ y2 i ≤ 30) (h : jBk bg bf ft fp fl fh fq fr fd y1 y2 y3 y4 y5 y6 y7 y8 y9) (zg z1 zk : Int) (hk : 0 ≤ zk ∧ zk ≤ 3) : ∀ (n n' : Nat) (v k : Int), (v = 0 ∨ kT bg v) → 0 ≤ k → jdp fp 41 v + k ≤ 30 → 30 - k < (n : Int) → jdp (fun x => f_XM_from mth mn mp mw mu md mo y1 y2 x) 41 v < (n' : Int) → f_XM_limitOfP_L2 mth mn mp mw mu md mo y1 y2 y7 z1 zk n' v = f_XB_limitOf_L5 bg bf fp fq zg zk n v k := by
  intro n
  induction n with
  | zero => intro n' v k h1 h2 h3 h4; have := jdp_nn fp 41 v; omega
  | succ n ih =>
    intro n' v k h1 h2 h3 h4 h5
    cases n' with
    | zero => have := jdp_nn (fun x => f_XM_from mth mn mp mw mu md mo y1 y2 x) 41 v; omega
    | succ n' =>
      rw [f_XM_limitOfP_L2_s, f_XB_limitOf_L5_s]
      rcases h1 with rfl | hT
      · rw [if_neg (show ¬ (0 : Int) < 0 by decide), if_pos (rfl : (0 : Int) = 0)]
        split <;> rfl
      · obtain ⟨d1, d2, d3, d4⟩ := dp_fp bg bf ft fp hft (jBk_p bg bf ft fp fl fh fq fr fd y1 y2 y3 y4 y5 y6 y7 y8 y9 h) v hT
        have hv := hT.1
        have hv2 := hT.2.1
        have hd := from_dec mth mn mp mw mu md mo y1 y2 hy1 hy2 v ⟨hv, hv2⟩
        have hq := (h.2.2.2.1 v hT.1 hT.2.1 hT.2.2).2.2.1 zk hk.1 hk.2
        have hb := hfq (v * 4 + zk)
        rw [if_pos (show 0 < v by omega), if_pos (show k < 30 by omega), if_pos (show 0 < v by omega), f_XB_tellsLimit_s]
        rw [e_from mth mn mp mw mu md mo bg bf ft fp fl fh fq fr fd y1 y2 y3 y4 y5 y6 y7 y8 y9 hft hy1 h v hT] at hd ⊢
        by_cases a : fq (v * 4 + zk) = -1
        · rw [if_pos a, if_pos (rfl : (0 : Int) = 0), if_pos (show y7 (4 * v + zk) < 0 by omega)]
          exact ih n' (fp v) (k + 1) d4 (by omega) (by omega) (by omega) (by omega)
        · rw [if_neg a, if_neg (show ¬ (1 : Int) = 0 by decide), if_neg (show ¬ v = 0 by omega), if_neg (show ¬ y7 (4 * v + zk) < 0 by omega), hq]
theorem e_limitOf (hft : ∀ i, 0 ≤ ft i ∧ ft i ≤ 30) (hfq : ∀ i, -1 ≤ fq i ∧ fq i ≤ 999999) (hy1 : ∀ i, 0 ≤ y1 i ∧ y1 i ≤ 1) (hy2 : ∀ i, 0 ≤ y2 i ∧ y2 i ≤ 30) (h : jBk bg bf ft fp fl fh fq fr fd y1 y2 y3 y4 y5 y6 y7 y8 y9) (g zk : Int) (hg : kT bg g) (hk : 0 ≤ zk ∧ zk ≤ 3) : f_XM_limitOfP mth mn mp mw mu md mo y1 y2 y7 g zk = f_XB_limitOf bg bf fp fq g zk := by
  rw [f_XM_limitOfP_s, f_XB_limitOf_s]
  have d := dp_fp bg bf ft fp hft (jBk_p bg bf ft fp fl fh fq fr fd y1 y2 y3 y4 y5 y6 y7 y8 y9 h) g hg
  have := jdp_nn (fun x => f_XM_from mth mn mp mw mu md mo y1 y2 x) 41 g
  exact e_limL mth mn mp mw mu md mo bg bf ft fp fl fh fq fr fd y1 y2 y3 y4 y5 y6 y7 y8 y9 hft hfq hy1 hy2 h g g zk hk _ _ g 0 (Or.inr hg) (by decide) (by omega) (by decide) (by omega)
theorem e_lowL (hft : ∀ i, 0 ≤ ft i ∧ ft i ≤ 30) (hy1 : ∀ i, 0 ≤ y1 i ∧ y1 i ≤ 1) (hy2 : ∀ i, 0 ≤ y2 i ∧ y2 i ≤ 30) (h : jBk bg bf ft fp fl fh fq fr fd y1 y2 y3 y4 y5 y6 y7 y8 y9) (zg z1 ze : Int) (he : 0 ≤ ze ∧ ze ≤ 7) : ∀ (n n' : Nat) (v k : Int), (v = 0 ∨ kT bg v) → 0 ≤ k → jdp fp 41 v + k ≤ 30 → 30 - k < (n : Int) → jdp (fun x => f_XM_from mth mn mp mw mu md mo y1 y2 x) 41 v < (n' : Int) → f_XM_lowOfP_L2 mth mn mp mw mu md mo y1 y2 y3 y4 z1 ze n' v = f_XB_endOf_L6 bg bf fp fl fh zg ze 0 n v k ∧ f_XM_highOfP_L2 mth mn mp mw mu md mo y1 y2 y3 y5 z1 ze n' v = f_XB_endOf_L6 bg bf fp fl fh zg ze 1 n v k := by
  intro n
  induction n with
  | zero => intro n' v k h1 h2 h3 h4; have := jdp_nn fp 41 v; omega
  | succ n ih =>
    intro n' v k h1 h2 h3 h4 h5
    cases n' with
    | zero => have := jdp_nn (fun x => f_XM_from mth mn mp mw mu md mo y1 y2 x) 41 v; omega
    | succ n' =>
      rw [f_XM_lowOfP_L2_s, f_XM_highOfP_L2_s, f_XB_endOf_L6_s, f_XB_endOf_L6_s]
      rcases h1 with rfl | hT
      · simp only [if_neg (show ¬ (0 : Int) < 0 by decide), if_pos (rfl : (0 : Int) = 0), if_neg (show ¬ (1 : Int) = 0 by decide)]
        constructor <;> split <;> rfl
      · obtain ⟨d1, d2, d3, d4⟩ := dp_fp bg bf ft fp hft (jBk_p bg bf ft fp fl fh fq fr fd y1 y2 y3 y4 y5 y6 y7 y8 y9 h) v hT
        have hv := hT.1
        have hv2 := hT.2.1
        have hd := from_dec mth mn mp mw mu md mo y1 y2 hy1 hy2 v ⟨hv, hv2⟩
        have hq := (h.2.2.2.1 v hT.1 hT.2.1 hT.2.2).1 ze he.1 he.2
        simp only [if_pos (show 0 < v by omega), if_pos (show k < 30 by omega), f_XB_tellsSpan_s]
        rw [e_from mth mn mp mw mu md mo bg bf ft fp fl fh fq fr fd y1 y2 y3 y4 y5 y6 y7 y8 y9 hft hy1 h v hT] at hd ⊢
        rcases hq with ⟨q1, q2⟩ | ⟨q1, q2, q3, q4⟩
        · simp only [if_pos q1, if_pos q2, if_true]
          exact ih n' (fp v) (k + 1) d4 (by omega) (by omega) (by omega) (by omega)
        · simp only [if_neg (show ¬ fh (v * 8 + ze) = -1 by omega), if_neg (show ¬ y3 (8 * v + ze) = 0 by omega), if_neg (show ¬ v = 0 by omega), if_neg (show ¬ (1 : Int) = 0 by decide), if_true]
          exact ⟨q3.symm, q4.symm⟩
theorem e_low (hft : ∀ i, 0 ≤ ft i ∧ ft i ≤ 30) (hy1 : ∀ i, 0 ≤ y1 i ∧ y1 i ≤ 1) (hy2 : ∀ i, 0 ≤ y2 i ∧ y2 i ≤ 30) (h : jBk bg bf ft fp fl fh fq fr fd y1 y2 y3 y4 y5 y6 y7 y8 y9) (g ze : Int) (hg : kT bg g) (he : 0 ≤ ze ∧ ze ≤ 7) : f_XM_lowOfP mth mn mp mw mu md mo y1 y2 y3 y4 g ze = f_XB_endOf bg bf fp fl fh g ze 0 ∧ f_XM_highOfP mth mn mp mw mu md mo y1 y2 y3 y5 g ze = f_XB_endOf bg bf fp fl fh g ze 1 := by
  rw [f_XM_lowOfP_s, f_XM_highOfP_s, f_XB_endOf_s, f_XB_endOf_s]
  have d := dp_fp bg bf ft fp hft (jBk_p bg bf ft fp fl fh fq fr fd y1 y2 y3 y4 y5 y6 y7 y8 y9 h) g hg
  have := jdp_nn (fun x => f_XM_from mth mn mp mw mu md mo y1 y2 x) 41 g
  exact e_lowL mth mn mp mw mu md mo bg bf ft fp fl fh fq fr fd y1 y2 y3 y4 y5 y6 y7 y8 y9 hft hy1 hy2 h g g ze he _ _ g 0 (Or.inr hg) (by decide) (by omega) (by decide) (by omega)
end EQX4
