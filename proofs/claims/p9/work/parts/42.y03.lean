/-! the books of both, as they stand between two calls -/
noncomputable def kfp (bg bf : Int) (ft : Int → Int) (g : Int) : Int := if f_XB_knows bg bf (ft g) = 0 then 0 else if f_XB_onRing bg bf ft g = 0 then ft g else 0
def jBk (bg bf : Int) (ft fp fl fh fq fr fd y1 y2 y3 y4 y5 y6 y7 y8 y9 : Int → Int) : Prop :=
  (∀ g, 1 ≤ g → g ≤ 30 → f_XG_hasBit bg g = y1 g) ∧ (∀ g, 1 ≤ g → g ≤ 30 → ft g = y2 g) ∧ (∀ g, 1 ≤ g → g ≤ 30 → f_XG_hasBit bg g = 0 → ft g = 0) ∧
  (∀ g, 1 ≤ g → g ≤ 30 → f_XG_hasBit bg g ≠ 0 → (∀ x, 0 ≤ x → x ≤ 7 → (fh (g * 8 + x) = -1 ∧ y3 (8 * g + x) = 0) ∨ (0 ≤ fh (g * 8 + x) ∧ y3 (8 * g + x) = 1 ∧ fl (g * 8 + x) = y4 (8 * g + x) ∧ fh (g * 8 + x) = y5 (8 * g + x))) ∧ fr g = y6 g ∧ (∀ x, 0 ≤ x → x ≤ 3 → fq (g * 4 + x) = y7 (4 * g + x)) ∧ fp g = kfp bg bf ft g) ∧
  (∀ k, 0 ≤ k → k ≤ 3 → f_XG_hasBit bf k = y8 k) ∧ (∀ k x, 0 ≤ k → k ≤ 3 → 0 ≤ x → x ≤ 7 → f_XG_hasBit bf k ≠ 0 → fd (k * 8 + x) = y9 (8 * k + x))
theorem jBk_0 (ft fp fl fh fq fr fd y1 y2 y3 y4 y5 y6 y7 y8 y9 : Int → Int) (h1 : ∀ g, 1 ≤ g → g ≤ 30 → y1 g = 0) (h2 : ∀ g, 1 ≤ g → g ≤ 30 → y2 g = 0) (h8 : ∀ k, 0 ≤ k → k ≤ 3 → y8 k = 0) (ht : ∀ g, 1 ≤ g → g ≤ 30 → ft g = 0) : jBk 0 0 ft fp fl fh fq fr fd y1 y2 y3 y4 y5 y6 y7 y8 y9 := by
  refine ⟨fun g a b => ?_, fun g a b => ?_, fun g a b _ => ht g a b, fun g a b c => ?_, fun k a b => ?_, fun k x a b _ _ c => ?_⟩
  · rw [q_hasBit0', h1 g a b]
  · rw [ht g a b, h2 g a b]
  · exact absurd (q_hasBit0' g) c
  · rw [q_hasBit0', h8 k a b]
  · exact absurd (q_hasBit0' k) c
theorem jBk_clear (ft fp fl fh fq fr fd y1 y2 y3 y4 y5 y6 y7 y8 y9 n1 n2 n3 n6 n7 n8 n9 : Int → Int) (e1 : n1 = kfill y1 (31 * (0 : Int)) (31 * (0 : Int) + 31) 0) (e2 : n2 = kfill y2 (31 * (0 : Int)) (31 * (0 : Int) + 31) 0) (e8 : n8 = kfill y8 (4 * (0 : Int)) (4 * (0 : Int) + 4) 0) : jBk 0 0 (f_XA_fill31 ft 0) fp fl fh fq fr fd n1 n2 n3 y4 y5 n6 n7 n8 n9 := by
  refine jBk_0 _ _ _ _ _ _ _ _ _ _ _ _ _ _ _ _ (fun g a b => ?_) (fun g a b => ?_) (fun g a b => ?_) (fun g a b => ?_)
  · rw [e1]; unfold kfill; rw [if_pos (by omega)]
  · rw [e2]; unfold kfill; rw [if_pos (by omega)]
  · rw [e8]; unfold kfill; rw [if_pos (by omega)]
  · rw [f_XA_fill31_eq]; dsimp only; rw [if_pos (by omega)]
theorem q_settleL (bg bf : Int) (ft fp : Int → Int) : ∀ (n : Nat) (k : Int) (fa : Int → Int), 31 - k < (n : Int) → 1 ≤ k → k ≤ 31 → ∀ g, (k ≤ g → g ≤ 30 → f_XB_settle_L2 bg bf ft fp n k fa g = kfp bg bf ft g) ∧ (g < k → f_XB_settle_L2 bg bf ft fp n k fa g = fa g) := by
  intro n
  induction n with
  | zero => intro k fa h; omega
  | succ n ih =>
    intro k fa h1 h2 h3 g
    rw [f_XB_settle_L2_s]
    by_cases a : 30 < k
    · rw [if_pos a]
      exact ⟨fun b c => by omega, fun _ => rfl⟩
    · rw [if_neg a]
      have go : ∀ v, v = kfp bg bf ft k → (k ≤ g → g ≤ 30 → f_XB_settle_L2 bg bf ft fp n (k + 1) (jset fa k v) g = kfp bg bf ft g) ∧ (g < k → f_XB_settle_L2 bg bf ft fp n (k + 1) (jset fa k v) g = fa g) := by
        intro v hv
        obtain ⟨i1, i2⟩ := ih (k + 1) (jset fa k v) (by omega) (by omega) (by omega) g
        refine ⟨fun b c => ?_, fun b => ?_⟩
        · by_cases d : g = k
          · rw [i2 (by omega)]; unfold jset; rw [if_pos d, hv, d]
          · exact i1 (by omega) c
        · rw [i2 (by omega)]; unfold jset; rw [if_neg (by omega)]
      by_cases b : f_XB_knows bg bf (ft k) = 0
      · rw [if_pos b]
        exact go 0 (by unfold kfp; rw [if_pos b])
      · rw [if_neg b]
        by_cases c : f_XB_onRing bg bf ft k = 0
        · rw [if_pos c]
          exact go (ft k) (by unfold kfp; rw [if_neg b, if_pos c])
        · rw [if_neg c]
          exact go 0 (by unfold kfp; rw [if_neg b, if_neg c])
theorem q_settle (bg bf : Int) (ft fp : Int → Int) (g : Int) (h1 : 1 ≤ g) (h2 : g ≤ 30) : f_XB_settle bg bf ft fp g = kfp bg bf ft g := by
  rw [f_XB_settle_s]
  exact (q_settleL bg bf ft fp _ 1 fp (by decide) (by decide) (by decide) g).1 h1 h2
theorem kcp_v (f : Int → Int) (n i : Int) (h : 0 ≤ i ∧ i < n) : kcp f n n i = f (n + i) := by unfold kcp; rw [if_pos h]
theorem jBk_read (bg bf : Int) (ft fp xp fl fh fq fr fd x1 x2 x3 x4 x5 x6 x7 x8 x9 n1 n2 n3 n4 n5 n6 n7 n8 n9 : Int → Int) (hB : eBk bg ft fl fh fq fr x1 x2 x3 x4 x5 x6 x7) (hF : eFm bf fd x8 x9) (hp : fp = f_XB_settle bg bf ft xp)
    (e : (n1, n2, n3, n4, n5, n6, n7, n8, n9) = (kcp x1 31 31, kcp x2 31 31, kcp x3 248 248, kcp x4 248 248, kcp x5 248 248, kcp x6 31 31, kcp x7 124 124, kcp x8 4 4, kcp x9 32 32)) : jBk bg bf ft fp fl fh fq fr fd n1 n2 n3 n4 n5 n6 n7 n8 n9 := by
  simp only [Prod.mk.injEq] at e
  obtain ⟨e1, e2, e3, e4, e5, e6, e7, e8, e9⟩ := e
  obtain ⟨_, b1, b2, b3, b4, b5, b6⟩ := hB
  obtain ⟨_, f1, f2, _, _⟩ := hF
  refine ⟨fun g a b => ?_, fun g a b => ?_, fun g a b c => (b6 g a b c).1, fun g a b c => ⟨fun x x1 x2 => ?_, ?_, fun x x1 x2 => ?_, ?_⟩, fun k a b => ?_, fun k x a b x1 x2 c => ?_⟩
  · rw [e1, kcp_v _ _ _ (by omega)]; exact b1 g a b
  · rw [e2, kcp_v _ _ _ (by omega)]; exact b2 g a b
  · have h := b3 g x a b x1 x2
    rw [show 8 * (31 + g) + x = 248 + (8 * g + x) by omega] at h
    rw [e3, e4, e5, kcp_v _ _ _ (by omega), kcp_v _ _ _ (by omega), kcp_v _ _ _ (by omega)]
    exact h
  · rw [e6, kcp_v _ _ _ (by omega)]; exact b4 g a b
  · have h := b5 g x a b x1 x2
    rw [show 4 * (31 + g) + x = 124 + (4 * g + x) by omega] at h
    rw [e7, kcp_v _ _ _ (by omega)]
    exact h
  · rw [hp]; exact q_settle bg bf ft xp g a b
  · rw [e8, kcp_v _ _ _ (by omega)]; exact f1 k a b
  · have h := f2 k x a b x1 x2
    rw [show 8 * (4 + k) + x = 32 + (8 * k + x) by omega] at h
    rw [e9, kcp_v _ _ _ (by omega)]
    exact h
theorem jBk_keep (bg bf : Int) (ft fp fl fh fq fr fd y1 y2 y3 y4 y5 y6 y7 y8 y9 n1 n2 n3 n4 n5 n6 n7 n8 n9 : Int → Int) (h : jBk bg bf ft fp fl fh fq fr fd y1 y2 y3 y4 y5 y6 y7 y8 y9)
    (e1 : ∀ i, i < 31 → n1 i = y1 i) (e2 : ∀ i, i < 31 → n2 i = y2 i) (e3 : ∀ i, i < 248 → n3 i = y3 i) (e4 : ∀ i, i < 248 → n4 i = y4 i) (e5 : ∀ i, i < 248 → n5 i = y5 i) (e6 : ∀ i, i < 31 → n6 i = y6 i) (e7 : ∀ i, i < 124 → n7 i = y7 i) (e8 : ∀ i, i < 4 → n8 i = y8 i) (e9 : ∀ i, i < 32 → n9 i = y9 i) : jBk bg bf ft fp fl fh fq fr fd n1 n2 n3 n4 n5 n6 n7 n8 n9 := by
  obtain ⟨b1, b2, b3, b4, b5, b6⟩ := h
  refine ⟨fun g a b => ?_, fun g a b => ?_, b3, fun g a b c => ⟨fun x x1 x2 => ?_, ?_, fun x x1 x2 => ?_, (b4 g a b c).2.2.2⟩, fun k a b => ?_, fun k x a b x1 x2 c => ?_⟩
  · rw [e1 g (by omega)]; exact b1 g a b
  · rw [e2 g (by omega)]; exact b2 g a b
  · rw [e3 _ (by omega), e4 _ (by omega), e5 _ (by omega)]; exact (b4 g a b c).1 x x1 x2
  · rw [e6 g (by omega)]; exact (b4 g a b c).2.1
  · rw [e7 _ (by omega)]; exact (b4 g a b c).2.2.1 x x1 x2
  · rw [e8 k (by omega)]; exact b5 k a b
  · rw [e9 _ (by omega)]; exact b6 k x a b x1 x2 c
/-! ring's answers -/
section EQX3
variable (mth mn mp mw mu md mo : Int)
theorem e_ringL (m1 : Int) (bg bf : Int) (ft y1 y2 : Int → Int) (hft : ∀ i, 0 ≤ ft i ∧ ft i ≤ 30) (hy1 : ∀ i, 0 ≤ y1 i ∧ y1 i ≤ 1) (hG : ∀ g, 1 ≤ g → g ≤ 30 → f_XG_hasBit bg g = y1 g) (hT : ∀ g, 1 ≤ g → g ≤ 30 → ft g = y2 g) (hU : ∀ g, 1 ≤ g → g ≤ 30 → f_XG_hasBit bg g = 0 → ft g = 0) (z1 : Int) : ∀ (n n' : Nat) (v k : Int), 31 - k < (n : Int) → 31 - k < (n' : Int) → 1 ≤ k → k ≤ 31 → (f_XG_ring_L8 bg bf ft z1 n v k).1 = 0 ∧ f_XM_ringP_L23 mth mn mp mw mu md mo y1 y2 z1 m1 n' v k = ((f_XG_ring_L8 bg bf ft z1 n v k).2, m1) := by
  intro n
  induction n with
  | zero => intro n' v k h; omega
  | succ n ih =>
    intro n' v k h1 h2 h3 h4
    cases n' with
    | zero => omega
    | succ n' =>
      rw [f_XG_ring_L8_s, f_XM_ringP_L23_s]
      by_cases a : 30 < k
      · rw [if_pos a, if_neg (show ¬ k < 31 by omega)]
        exact ⟨rfl, rfl⟩
      · rw [if_neg a, if_pos (show k < 31 by omega)]
        have hE := e_ringEq m1 mn mp mw mu md mo y1 y2 bg bf ft hft hy1 hG hT hU k (by omega)
        have next := fun v => ih n' v (k + 1) (by omega) (by omega) (by omega) (by omega)
        by_cases b : y1 k = 0
        · have h0 : f_XB_onRing bg bf ft k = 0 := by
            rcases e_on bg bf ft hft k (by omega) with ⟨_, d, d1, d2, d3⟩ | ⟨o1, _⟩
            · have u0 := hU k (by omega) (by omega) (by rw [hG k (by omega) (by omega)]; exact b)
              exfalso
              cases d with
              | zero => omega
              | succ d =>
                have : jit (eF ft) d (eF ft k) = k := d3
                unfold eF at this
                rw [if_pos (by omega), u0] at this
                have z := jit_zero ft d
                unfold eF at z
                rw [z] at this
                omega
            · exact o1
          rw [if_pos h0, if_pos b]
          exact next v
        · rw [if_neg b, ← hE]
          by_cases c : f_XB_onRing bg bf ft k = 0
          · rw [if_pos c, if_pos c]; exact next v
          · rw [if_neg c, if_neg c]
            by_cases d : v = 0
            · rw [if_pos d, if_pos d]; exact ⟨rfl, rfl⟩
            · rw [if_neg d, if_neg d]; exact next (v + (-1))
theorem e_ring (bg bf : Int) (ft fp fl fh fq fr fd y1 y2 y3 y4 y5 y6 y7 y8 y9 : Int → Int) (hft : ∀ i, 0 ≤ ft i ∧ ft i ≤ 30) (hy1 : ∀ i, 0 ≤ y1 i ∧ y1 i ≤ 1) (h : jBk bg bf ft fp fl fh fq fr fd y1 y2 y3 y4 y5 y6 y7 y8 y9) (z1 : Int) (fo : Int → Int) :
    ∀ C, C = f_XL_ring bg bf ft z1 fo → ∀ M, M = f_XM_ringP mth mn mp mw mu md mo y1 y2 z1 → M.2 = C.1 ∧ (C.1 = 0 → C.2 0 = jw M.1) := by
  intro C hC M hM
  obtain ⟨hG, hT, hU, _⟩ := h
  rw [f_XM_ringP_s] at hM
  rw [f_XL_ring_s] at hC
  have hL := e_ringL mth mn mp mw mu md mo 0 bg bf ft y1 y2 hft hy1 hG hT hU z1 (Int.toNat (31 - 1) + 1) (Int.toNat (31 - 1) + 1) z1 1 (by decide) (by decide) (by decide) (by decide)
  have hG9 : f_XG_ring bg bf ft z1 = f_XG_ring bg bf ft z1 := rfl
  conv at hG9 => rhs; rw [f_XG_ring_s, f_XG_needPlace_s]
  by_cases a : z1 < 0
  · rw [if_pos a, if_neg (show ¬ (1 : Int) = 0 by decide)] at hG9
    rw [if_pos a, f_XM_ringP_J10_s, f_XM_goesP_s, if_pos (rfl : (0 : Int) = 0)] at hM
    dsimp only at hM
    rw [if_pos (rfl : (0 : Int) = 0)] at hM
    rw [hG9] at hC
    dsimp only at hC
    rw [if_neg (show ¬ (1 : Int) = 0 by decide)] at hC
    rw [hC, hM]
    exact ⟨rfl, fun h => absurd (show (1 : Int) = 0 from h) (by decide)⟩
  · rw [if_neg a, if_pos (rfl : (0 : Int) = 0)] at hG9
    rw [if_neg a, f_XM_ringP_J10_s, f_XM_goesP_s, if_neg (show ¬ (1 : Int) = 0 by decide), if_neg (show ¬ (1 : Int) = 0 by decide)] at hM
    dsimp only at hM
    rw [if_neg (show ¬ (1 : Int) = 0 by decide), hL.2] at hM
    rw [hG9, if_pos hL.1] at hC
    rw [hC, hM]
    exact ⟨rfl, fun _ => (if_pos (rfl : (0 : Int) = 0) : jset fo 0 _ 0 = _)⟩
end EQX3
