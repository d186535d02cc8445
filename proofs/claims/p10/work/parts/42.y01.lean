section
/-! the byte that both put on the tape -/
theorem e_byte1 (B : BitVec 64) : (jI B.toInt &&& jI 255).toInt = ((B.toNat % 256 : Nat) : Int) := by
  have h1 : (jI B.toInt).toBitVec = B.setWidth 32 := by
    show BitVec.ofInt 32 B.toInt = _
    apply BitVec.eq_of_toInt_eq
    rw [BitVec.toInt_ofInt, BitVec.toInt_setWidth, BitVec.toInt_eq_toNat_bmod, Int.bmod_bmod_of_dvd (by decide)]
  have h2 : (jI B.toInt &&& jI 255).toBitVec = B.setWidth 32 &&& 255#32 := by
    rw [Int32.toBitVec_and, h1]; rfl
  have h3 : (B.setWidth 32 &&& 255#32).toNat = B.toNat % 256 := by
    rw [BitVec.toNat_and, BitVec.toNat_setWidth]
    show B.toNat % 2 ^ 32 &&& 2 ^ 8 - 1 = _
    rw [Nat.and_two_pow_sub_one_eq_mod]
    omega
  show (jI B.toInt &&& jI 255).toBitVec.toInt = _
  rw [h2, BitVec.toInt_eq_toNat_of_lt (by rw [h3]; omega), h3]
theorem e_byte2 (A : BitVec 64) (j : Nat) (hj : j ≤ 56) : (A.sshiftRight j).toNat % 256 = (A.toNat / 2 ^ j) % 256 := by
  apply Nat.eq_of_testBit_eq
  intro i
  rw [show 256 = 2 ^ 8 from rfl, Nat.testBit_mod_two_pow, Nat.testBit_mod_two_pow, Nat.testBit_div_two_pow]
  by_cases h : i < 8
  · have h1 : (A.sshiftRight j).toNat.testBit i = A.toNat.testBit (j + i) := by
      show (A.sshiftRight j).getLsbD i = A.getLsbD (j + i)
      rw [BitVec.getLsbD_sshiftRight]
      have g1 : j + i < 64 := by omega
      have g2 : i < 64 := by omega
      simp [g1, g2]
    rw [h1, Nat.add_comm]
  · simp [h]
theorem e_byte3 : ∀ n, n < 8 → ∀ A : Int64, (A >>> ((jI (8 * (n : Nat))).toInt64 &&& 63)).toBitVec = A.toBitVec.sshiftRight (8 * n) := by
  intro n hn A
  rcases (show n = 0 ∨ n = 1 ∨ n = 2 ∨ n = 3 ∨ n = 4 ∨ n = 5 ∨ n = 6 ∨ n = 7 by omega) with rfl | rfl | rfl | rfl | rfl | rfl | rfl | rfl <;> rfl
theorem e_byte (zy k : Int) (hk : 0 ≤ k ∧ k ≤ 7) : (jI ((jL zy >>> ((jI (8 * k)).toInt64 &&& 63)).toInt) &&& jI 255).toInt = (jushr zy (8 * k)) % 256 := by
  obtain ⟨n, rfl⟩ := Int.eq_ofNat_of_zero_le hk.1
  have h := e_byte3 n (by omega) (jL zy)
  have h1 : (jL zy >>> ((jI (8 * (n : Int))).toInt64 &&& 63)).toInt = ((jL zy).toBitVec.sshiftRight (8 * n)).toInt := by
    show (jL zy >>> ((jI (8 * (n : Int))).toInt64 &&& 63)).toBitVec.toInt = _
    rw [h]
  rw [h1, e_byte1, e_byte2 _ _ (by omega)]
  have h2 : (jL zy).toBitVec.toNat = (zy % 18446744073709551616).toNat := jL_nat zy
  rw [h2]
  have hx := Int.emod_nonneg zy (show (18446744073709551616 : Int) ≠ 0 by decide)
  obtain ⟨y, hy⟩ := Int.eq_ofNat_of_zero_le hx
  unfold jushr
  rw [hy, show (8 * (n : Int)).toNat = 8 * n by omega, Int.toNat_natCast, ← Int.natCast_ediv]
  rfl

end
section
/-! sign: what lies on both tapes -/
section EQX2
variable (mth mp mw mu md mo : Int)
theorem e_signL (mn : Int) (y0 : Int → Int) (tn tp tw : Int) (tf : Int → Int) (zy z1 zn m1 : Int) : ∀ (n n' : Nat) (k q : Int) (fa : Int → Int), k + 1 < (n : Int) → k + 1 < (n' : Int) → -1 ≤ k → k ≤ 7 → 0 ≤ q → q + k + 1 ≤ 400 → (f_XT_append_L5 tn tp tw tf zy zn n k q fa).2.2 = (f_XM_signP_L38 mth mn mp mw mu md mo y0 zy z1 m1 n' k q fa).2.2.2 := by
  intro n
  induction n with
  | zero => intro n' k q fa h; omega
  | succ n ih =>
    intro n' k q fa h1 h2 h3 h4 h5 h6
    cases n' with
    | zero => omega
    | succ n' =>
      rw [f_XT_append_L5_s, f_XM_signP_L38_s]
      by_cases a : k < 0
      · rw [if_pos a, if_pos a]
      · rw [if_neg a, if_neg a, if_pos (show q < 400 by omega), e_byte zy k (by omega)]
        exact ih n' (k + (-1)) (q + 1) _ (by omega) (by omega) (by omega) (by omega) (by omega) (by omega)
theorem e_sign (tn tp tw : Int) (tf : Int → Int) (zy z1 : Int) (fo : Int → Int) (hn : 0 ≤ tn ∧ tn ≤ 400) (hz : i32 z1) : (f_XL_sign tn tp tw tf zy z1 fo).2.2.2 = (f_XM_signP mth tn mp mw mu md mo tf zy z1).2.2.2 := by
  have hi := f_XM_in_b z1 1 8 hz (by decide) (by decide)
  have hr := f_XT_hasRoom_b tn tp tw tf z1 hn hz
  have hw := jw_or (tn + z1)
  have hG : f_XG_sign tn tp tw tf zy z1 = f_XG_sign tn tp tw tf zy z1 := rfl
  rw [f_XL_sign_s, f_XM_signP_s]
  conv at hG => rhs; rw [f_XG_sign_s]
  rcases hi with ⟨i1, i2, i3⟩ | ⟨i1, i2⟩
  · rw [if_neg (show ¬ z1 < 1 by omega), if_neg (show ¬ 8 < z1 by omega)] at hG
    rcases hr with ⟨r1, r2⟩ | ⟨r1, r2⟩
    · rw [if_neg (show ¬ f_XT_hasRoom tn tp tw tf z1 = 0 by omega), f_XT_append_s] at hG
      have hL := e_signL mth mp mw mu md mo tn tf tn tp tw tf zy z1 z1 0 (Int.toNat (z1 - 1 + 1) + 1) (Int.toNat (z1 - 1 + 1) + 1) (z1 - 1) tn tf (by omega) (by omega) (by omega) (by omega) (by omega) (by omega)
      generalize f_XT_append_L5 tn tp tw tf zy z1 (Int.toNat (z1 - 1 + 1) + 1) (z1 - 1) tn tf = q at hG hL
      obtain ⟨q1, q2, q3⟩ := q
      dsimp only at hG hL
      rw [hG]
      dsimp only
      rw [if_pos rfl, if_neg (show ¬ 400 < jw (tn + z1) by omega), f_XM_signP_J25_s, f_XM_goesP_s, i1, if_neg (show ¬ (1 : Int) = 0 by decide), if_neg (show ¬ (1 : Int) = 0 by decide)]
      dsimp only
      rw [if_neg (show ¬ (1 : Int) = 0 by decide)]
      exact hL
    · rw [if_pos r1] at hG
      rw [hG]
      dsimp only
      rw [if_neg (show ¬ (4 : Int) = 0 by decide), if_neg (show ¬ (4 : Int) = 3 by decide), if_pos (show 400 < jw (tn + z1) by omega), f_XM_signP_J25_s, f_XM_goesP_s, i1, if_neg (show ¬ (1 : Int) = 0 by decide), if_pos (rfl : (0 : Int) = 0)]
      dsimp only
      rw [if_pos (rfl : (0 : Int) = 0)]
  · have hG2 : f_XG_sign tn tp tw tf zy z1 = (3, 0, 0, fun _ => 0) := by
      rw [hG]
      by_cases a : z1 < 1
      · rw [if_pos a]
      · rw [if_neg a, if_pos (show 8 < z1 by omega)]
    rw [hG2]
    dsimp only
    rw [if_neg (show ¬ (3 : Int) = 0 by decide), if_pos (rfl : (3 : Int) = 3)]
    have hJ : ∀ jz, (f_XM_signP_J25 mth tn mp mw mu md mo tf zy z1 jz).2.2.2 = tf := by
      intro jz
      rw [f_XM_signP_J25_s, f_XM_goesP_s, i1, if_pos (rfl : (0 : Int) = 0)]
      dsimp only
      rw [if_pos (rfl : (0 : Int) = 0)]
    by_cases b : 400 < jw (tn + z1)
    · rw [if_pos b]; exact (hJ 0).symm
    · rw [if_neg b]; exact (hJ 1).symm
end EQX2
theorem e_share (fs y10 : Int → Int) (z1 z2 m1 : Int) (n10 : Int → Int) (h : ∀ i, 0 ≤ i → i ≤ 7 → fs i = y10 i) (hp : (m1 = 1 ∧ (z1 < 0 ∨ 7 < z1) ∧ n10 = y10) ∨ (m1 = 2 ∧ 0 ≤ z1 ∧ z1 ≤ 7 ∧ (z2 < 0 ∨ 100000 < z2) ∧ n10 = y10) ∨ (m1 = 0 ∧ 0 ≤ z1 ∧ z1 ≤ 7 ∧ 0 ≤ z2 ∧ z2 ≤ 100000 ∧ n10 = jset y10 z1 z2)) : ∀ i, 0 ≤ i → i ≤ 7 → (f_XL_share fs z1 z2).2 i = n10 i := by
  intro i i1 i2
  have hG : f_XG_share fs z1 z2 = f_XG_share fs z1 z2 := rfl
  conv at hG => rhs; rw [f_XG_share_s, f_XG_needBelow_s]
  rw [f_XL_share_s]
  rcases hp with ⟨_, h1, rfl⟩ | ⟨_, h1, h2, h3, rfl⟩ | ⟨_, h1, h2, h3, h4, rfl⟩
  · have hG2 : f_XG_share fs z1 z2 = (1, fun _ => 0) := by
      rw [hG]
      by_cases a : z1 < 0
      · rw [if_pos a, if_neg (show ¬ (1 : Int) = 0 by decide)]
      · rw [if_neg a, if_neg (show ¬ z1 < 8 by omega), if_neg (show ¬ (1 : Int) = 0 by decide)]
    rw [hG2]
    dsimp only
    rw [if_neg (show ¬ (1 : Int) = 0 by decide), if_pos (rfl : (1 : Int) = 1)]
    exact h i i1 i2
  · have hG2 : f_XG_share fs z1 z2 = (3, fun _ => 0) := by
      rw [hG, if_neg (show ¬ z1 < 0 by omega), if_pos (show z1 < 8 by omega), if_pos (rfl : (0 : Int) = 0)]
      by_cases a : z2 < 0
      · rw [if_pos a]
      · rw [if_neg a, if_pos (show 100000 < z2 by omega)]
    rw [hG2]
    dsimp only
    rw [if_neg (show ¬ (3 : Int) = 0 by decide), if_neg (show ¬ (3 : Int) = 1 by decide)]
    exact h i i1 i2
  · rw [if_neg (show ¬ z1 < 0 by omega), if_pos (show z1 < 8 by omega), if_pos (rfl : (0 : Int) = 0), if_neg (show ¬ z2 < 0 by omega), if_neg (show ¬ 100000 < z2 by omega)] at hG
    rw [hG]
    dsimp only
    rw [if_pos (rfl : (0 : Int) = 0)]
    show jset fs z1 z2 i = jset y10 z1 z2 i
    unfold jset
    by_cases a : i = z1
    · rw [if_pos a, if_pos a]
    · rw [if_neg a, if_neg a]; exact h i i1 i2
theorem e_clearS (fs y10 n10 : Int → Int) (h : n10 = kfill y10 0 8 0) : ∀ i, 0 ≤ i → i ≤ 7 → f_XA_fill8 fs 0 i = n10 i := by
  intro i i1 i2
  rw [h, f_XA_fill8_eq]
  unfold kfill
  dsimp only
  rw [if_pos (by omega), if_pos (by omega)]

end
section
/-! the books of both, as they stand between two calls -/
noncomputable def kfp (bg bf : Int) (ft : Int → Int) (g : Int) : Int := if f_XB_knows bg bf (ft g) = 0 then 0 else if f_XB_onRing bg bf ft g = 0 then ft g else 0
def jBk (bg bf : Int) (ft fp fl fh fq fr fd y1 y2 y3 y4 y5 y6 y7 y8 y9 : Int → Int) : Prop :=
  (∀ g, 1 ≤ g → g ≤ 30 → f_XG_hasBit bg g = y1 g) ∧ (∀ g, 1 ≤ g → g ≤ 30 → ft g = y2 g) ∧ (∀ g, 1 ≤ g → g ≤ 30 → f_XG_hasBit bg g = 0 → ft g = 0) ∧
  (∀ g, 1 ≤ g → g ≤ 30 → f_XG_hasBit bg g ≠ 0 → (∀ x, 0 ≤ x → x ≤ 7 → (fh (g * 8 + x) = -1 ∧ y3 (8 * g + x) = 0) ∨ (0 ≤ fh (g * 8 + x) ∧ y3 (8 * g + x) = 1 ∧ fl (g * 8 + x) = y4 (8 * g + x) ∧ fh (g * 8 + x) = y5 (8 * g + x))) ∧ fr g = y6 g ∧ (∀ x, 0 ≤ x → x ≤ 3 → fq (g * 4 + x) = y7 (4 * g + x)) ∧ fp g = kfp bg bf ft g) ∧
  (∀ k, 0 ≤ k → k ≤ 3 → f_XG_hasBit bf k = y8 k) ∧ (∀ k x, 0 ≤ k → k ≤ 3 → 0 ≤ x → x ≤ 7 → f_XG_hasBit bf k ≠ 0 → fd (k * 8 + x) = y9 (8 * k + x))
theorem jBk_0 (ft fp fl fh fq fr fd y1 y2 y3 y4 y5 y6 y7 y8 y9 : Int → Int) (h1 : ∀ g, 1 ≤ g → g ≤ 30 → y1 g = 0) (h2 : ∀ g, 1 ≤ g → g ≤ 30 → y2 g = 0) (h8 : ∀ k, 0 ≤ k → k ≤ 3 → y8 k = 0) (ht : ∀ g, 1 ≤ g → g ≤ 30 → ft g = 0) : jBk 0 0 ft fp fl fh fq fr fd y1 y2 y3 y4 y5 y6 y7 y8 y9 := by
  refine ⟨fun g a b => ?_, fun g a b => ?_, fun g a b _ => ht g a b, fun g a b c => ?_, fun k a b => ?_, fun k x a b _ _ c => ?_⟩
  · rw [q_hasBit0', h1 g a b]
  · rw [ht g a b, h2 g a b]
  · exact absurd (q_hasBit0' g) c
  · rw [q_hasBit0', h8 k a b]
  · exact absurd (q_hasBit0' k) c
theorem jBk_clear (ft fp fl fh fq fr fd y1 y2 y3 y4 y5 y6 y7 y8 y9 n1 n2 n3 n6 n7 n8 n9 : Int → Int) (e1 : n1 = kfill y1 (31 * (0 : Int)) (31 * (0 : Int) + 31) 0) (e2 : n2 = kfill y2 (31 * (0 : Int)) (31 * (0 : Int) + 31) 0) (e8 : n8 = kfill y8 (4 * (0 : Int)) (4 * (0 : Int) + 4) 0) : jBk 0 0 (f_XA_fill31 ft 0) fp fl fh fq fr fd n1 n2 n3 y4 y5 n6 n7 n8 n9 := by
  refine jBk_0 _ _ _ _ _ _ _ _ _ _ _ _ _ _ _ _ (fun g a b => ?_) (fun g a b => ?_) (fun g a b => ?_) (fun g a b => ?_)
  · rw [e1]; unfold kfill; rw [if_pos (by omega)]
  · rw [e2]; unfold kfill; rw [if_pos (by omega)]
  · rw [e8]; unfold kfill; rw [if_pos (by omega)]
  · rw [f_XA_fill31_eq]; dsimp only; rw [if_pos (by omega)]
theorem q_settleL (bg bf : Int) (ft fp : Int → Int) : ∀ (n : Nat) (k : Int) (fa : Int → Int), 31 - k < (n : Int) → 1 ≤ k → k ≤ 31 → ∀ g, (k ≤ g → g ≤ 30 → f_XB_settle_L2 bg bf ft fp n k fa g = kfp bg bf ft g) ∧ (g < k → f_XB_settle_L2 bg bf ft fp n k fa g = fa g) := by
  intro n
  induction n with
  | zero => intro k fa h; omega
  | succ n ih =>
    intro k fa h1 h2 h3 g
    rw [f_XB_settle_L2_s]
    by_cases a : 30 < k
    · rw [if_pos a]
      exact ⟨fun b c => by omega, fun _ => rfl⟩
    · rw [if_neg a]
      have go : ∀ v, v = kfp bg bf ft k → (k ≤ g → g ≤ 30 → f_XB_settle_L2 bg bf ft fp n (k + 1) (jset fa k v) g = kfp bg bf ft g) ∧ (g < k → f_XB_settle_L2 bg bf ft fp n (k + 1) (jset fa k v) g = fa g) := by
        intro v hv
        obtain ⟨i1, i2⟩ := ih (k + 1) (jset fa k v) (by omega) (by omega) (by omega) g
        refine ⟨fun b c => ?_, fun b => ?_⟩
        · by_cases d : g = k
          · rw [i2 (by omega)]; unfold jset; rw [if_pos d, hv, d]
          · exact i1 (by omega) c
        · rw [i2 (by omega)]; unfold jset; rw [if_neg (by omega)]
      by_cases b : f_XB_knows bg bf (ft k) = 0
      · rw [if_pos b]
        exact go 0 (by unfold kfp; rw [if_pos b])
      · rw [if_neg b]
        by_cases c : f_XB_onRing bg bf ft k = 0
        · rw [if_pos c]
          exact go (ft k) (by unfold kfp; rw [if_neg b, if_pos c])
        · rw [if_neg c]
          exact go 0 (by unfold kfp; rw [if_neg b, if_neg c])
theorem q_settle (bg bf : Int) (ft fp : Int → Int) (g : Int) (h1 : 1 ≤ g) (h2 : g ≤ 30) : f_XB_settle bg bf ft fp g = kfp bg bf ft g := by
  rw [f_XB_settle_s]
  exact (q_settleL bg bf ft fp _ 1 fp (by decide) (by decide) (by decide) g).1 h1 h2
theorem kcp_v (f : Int → Int) (n i : Int) (h : 0 ≤ i ∧ i < n) : kcp f n n i = f (n + i) := by unfold kcp; rw [if_pos h]
theorem jBk_read (bg bf : Int) (ft fp xp fl fh fq fr fd x1 x2 x3 x4 x5 x6 x7 x8 x9 n1 n2 n3 n4 n5 n6 n7 n8 n9 : Int → Int) (hB : eBk bg ft fl fh fq fr x1 x2 x3 x4 x5 x6 x7) (hF : eFm bf fd x8 x9) (hp : fp = f_XB_settle bg bf ft xp)
    (e : (n1, n2, n3, n4, n5, n6, n7, n8, n9) = (kcp x1 31 31, kcp x2 31 31, kcp x3 248 248, kcp x4 248 248, kcp x5 248 248, kcp x6 31 31, kcp x7 124 124, kcp x8 4 4, kcp x9 32 32)) : jBk bg bf ft fp fl fh fq fr fd n1 n2 n3 n4 n5 n6 n7 n8 n9 := by
  simp only [Prod.mk.injEq] at e
  obtain ⟨e1, e2, e3, e4, e5, e6, e7, e8, e9⟩ := e
  obtain ⟨_, b1, b2, b3, b4, b5, b6⟩ := hB
  obtain ⟨_, f1, f2, _, _⟩ := hF
  refine ⟨fun g a b => ?_, fun g a b => ?_, fun g a b c => (b6 g a b c).1, fun g a b c => ⟨fun x x1 x2 => ?_, ?_, fun x x1 x2 => ?_, ?_⟩, fun k a b => ?_, fun k x a b x1 x2 c => ?_⟩
  · rw [e1, kcp_v _ _ _ (by omega)]; exact b1 g a b
  · rw [e2, kcp_v _ _ _ (by omega)]; exact b2 g a b
  · have h := b3 g x a b x1 x2
    rw [show 8 * (31 + g) + x = 248 + (8 * g + x) by omega] at h
    rw [e3, e4, e5, kcp_v _ _ _ (by omega), kcp_v _ _ _ (by omega), kcp_v _ _ _ (by omega)]
    exact h
  · rw [e6, kcp_v _ _ _ (by omega)]; exact b4 g a b
  · have h := b5 g x a b x1 x2
    rw [show 4 * (31 + g) + x = 124 + (4 * g + x) by omega] at h
    rw [e7, kcp_v _ _ _ (by omega)]
    exact h
  · rw [hp]; exact q_settle bg bf ft xp g a b
  · rw [e8, kcp_v _ _ _ (by omega)]; exact f1 k a b
  · have h := f2 k x a b x1 x2
    rw [show 8 * (4 + k) + x = 32 + (8 * k + x) by omega] at h
    rw [e9, kcp_v _ _ _ (by omega)]
    exact h
theorem jBk_keep (bg bf : Int) (ft fp fl fh fq fr fd y1 y2 y3 y4 y5 y6 y7 y8 y9 n1 n2 n3 n4 n5 n6 n7 n8 n9 : Int → Int) (h : jBk bg bf ft fp fl fh fq fr fd y1 y2 y3 y4 y5 y6 y7 y8 y9)
    (e1 : ∀ i, i < 31 → n1 i = y1 i) (e2 : ∀ i, i < 31 → n2 i = y2 i) (e3 : ∀ i, i < 248 → n3 i = y3 i) (e4 : ∀ i, i < 248 → n4 i = y4 i) (e5 : ∀ i, i < 248 → n5 i = y5 i) (e6 : ∀ i, i < 31 → n6 i = y6 i) (e7 : ∀ i, i < 124 → n7 i = y7 i) (e8 : ∀ i, i < 4 → n8 i = y8 i) (e9 : ∀ i, i < 32 → n9 i = y9 i) : jBk bg bf ft fp fl fh fq fr fd n1 n2 n3 n4 n5 n6 n7 n8 n9 := by
  obtain ⟨b1, b2, b3, b4, b5, b6⟩ := h
  refine ⟨fun g a b => ?_, fun g a b => ?_, b3, fun g a b c => ⟨fun x x1 x2 => ?_, ?_, fun x x1 x2 => ?_, (b4 g a b c).2.2.2⟩, fun k a b => ?_, fun k x a b x1 x2 c => ?_⟩
  · rw [e1 g (by omega)]; exact b1 g a b
  · rw [e2 g (by omega)]; exact b2 g a b
  · rw [e3 _ (by omega), e4 _ (by omega), e5 _ (by omega)]; exact (b4 g a b c).1 x x1 x2
  · rw [e6 g (by omega)]; exact (b4 g a b c).2.1
  · rw [e7 _ (by omega)]; exact (b4 g a b c).2.2.1 x x1 x2
  · rw [e8 k (by omega)]; exact b5 k a b
  · rw [e9 _ (by omega)]; exact b6 k x a b x1 x2 c
/-! ring's answers -/
section EQX3
variable (mth mn mp mw mu md mo : Int)
end EQX3
end
section
def kT (bg v : Int) : Prop := 1 ≤ v ∧ v ≤ 30 ∧ f_XG_hasBit bg v ≠ 0
theorem kT_knows (bg bf v : Int) : (f_XB_knows bg bf v = 1 ∧ kT bg v) ∨ (f_XB_knows bg bf v = 0 ∧ ¬ kT bg v) := by
  rw [f_XB_knows_s]
  unfold kT
  by_cases a : v < 1
  · rw [if_pos a]; exact Or.inr ⟨rfl, fun h => by omega⟩
  · rw [if_neg a]
    by_cases b : 30 < v
    · rw [if_pos b]; exact Or.inr ⟨rfl, fun h => by omega⟩
    · rw [if_neg b]
      by_cases c : f_XG_hasBit bg v = 0
      · rw [if_pos c]; exact Or.inr ⟨rfl, fun h => h.2.2 c⟩
      · rw [if_neg c]; exact Or.inl ⟨rfl, by omega, by omega, c⟩
theorem e_told (mth mn mp mw mu md mo : Int) (bg bf : Int) (y1 : Int → Int) (hy1 : ∀ i, 0 ≤ y1 i ∧ y1 i ≤ 1) (hG : ∀ g, 1 ≤ g → g ≤ 30 → f_XG_hasBit bg g = y1 g) (z : Int) (hz : i32 z) : f_XM_isTold mth mn mp mw mu md mo y1 z = f_XB_knows bg bf z := by
  have h := f_XM_isTold_b mth mn mp mw mu md mo y1 z hy1 hz
  rcases kT_knows bg bf z with ⟨k1, k2, k3, k4⟩ | ⟨k1, k2⟩
  · have := hG z k2 k3
    rw [k1]; omega
  · rw [k1]
    rcases h with ⟨h1, h2, h3, h4⟩ | ⟨h1, _⟩
    · exact absurd ⟨h2, h3, by rw [hG z h2 h3]; omega⟩ k2
    · exact h1
theorem kfp_t (bg bf : Int) (ft : Int → Int) (g : Int) : kfp bg bf ft g = 0 ∨ (kT bg (kfp bg bf ft g) ∧ kfp bg bf ft g = ft g ∧ f_XB_onRing bg bf ft g = 0) := by
  unfold kfp
  rcases kT_knows bg bf (ft g) with ⟨k1, k2⟩ | ⟨k1, k2⟩
  · rw [if_neg (show ¬ f_XB_knows bg bf (ft g) = 0 by omega)]
    by_cases c : f_XB_onRing bg bf ft g = 0
    · rw [if_pos c]; exact Or.inr ⟨k2, rfl, c⟩
    · rw [if_neg c]; exact Or.inl rfl
  · rw [if_pos k1]; exact Or.inl rfl
theorem jdp_le (F : Int → Int) : ∀ (n m : Nat) (k : Int), jit F n k ≤ 0 → jdp F m k ≤ n := by
  intro n
  induction n with
  | zero => intro m k h; rw [jdp_end F m k h]; omega
  | succ n ih =>
    intro m k h
    cases m with
    | zero => show (0 : Int) ≤ _; omega
    | succ m =>
      show (if k ≤ 0 then 0 else 1 + jdp F m (F k)) ≤ _
      have := ih m (F k) h
      split <;> omega
theorem reach30 (bg bf : Int) (ft fp : Int → Int) (hft : ∀ i, 0 ≤ ft i ∧ ft i ≤ 30) (hp : ∀ g, kT bg g → fp g = kfp bg bf ft g) (g : Int) (hg : kT bg g) : ∃ n, n ≤ 30 ∧ jit fp n g ≤ 0 := by
  by_cases hx : ∃ n, n ≤ 30 ∧ jit fp n g ≤ 0
  · exact hx
  · have hpos : ∀ n, n ≤ 30 → 0 < jit fp n g := fun n hn => by
      by_cases h : 0 < jit fp n g
      · exact h
      · exact absurd ⟨n, hn, by omega⟩ hx
    have hT : ∀ n, n ≤ 30 → kT bg (jit fp n g) := by
      intro n
      induction n with
      | zero => intro _; exact hg
      | succ n ih =>
        intro hn
        have h1 := ih (by omega)
        have h2 := hpos (n + 1) hn
        rw [jit_succ] at h2 ⊢
        rw [hp _ h1] at h2 ⊢
        rcases kfp_t bg bf ft (jit fp n g) with h3 | ⟨h3, _⟩
        · omega
        · exact h3
    have hS : ∀ n, n + 1 ≤ 30 → jit fp (n + 1) g = ft (jit fp n g) ∧ f_XB_onRing bg bf ft (jit fp n g) = 0 := by
      intro n hn
      have h1 := hT n (by omega)
      have h2 := hpos (n + 1) hn
      rw [jit_succ] at h2 ⊢
      rw [hp _ h1] at h2 ⊢
      rcases kfp_t bg bf ft (jit fp n g) with h3 | ⟨_, h3, h4⟩
      · omega
      · exact ⟨h3, h4⟩
    obtain ⟨i, j, i1, i2, i3⟩ := jpig 30 (fun n => (jit fp n g - 1).toNat) (fun i hi => by
      have := hT i (by omega)
      show (jit fp i g - 1).toNat < 30
      have := this.1; have := (hT i (by omega)).2.1
      omega)
    have a1 := (hT i (by omega)).1
    have a2 := (hT j (by omega)).1
    have i3 : (jit fp i g - 1).toNat = (jit fp j g - 1).toNat := i3
    have hE : ∀ d, i + d ≤ 30 → jit (eF ft) d (jit fp i g) = jit fp (i + d) g := by
      intro d
      induction d with
      | zero => intro _; rfl
      | succ d ih =>
        intro hd
        have h1 := (hT (i + d) (by omega)).1
        rw [jit_succ, ih (by omega), ← Nat.add_assoc, (hS (i + d) (by omega)).1]
        unfold eF
        rw [if_pos (by omega)]
    have hj := hE (j - i) (by omega)
    rw [show i + (j - i) = j by omega, show jit fp j g = jit fp i g by omega] at hj
    rcases e_on bg bf ft hft (jit fp i g) ⟨a1, (hT i (by omega)).2.1⟩ with ⟨o1, _⟩ | ⟨_, o2⟩
    · have := (hS i (by omega)).2
      omega
    · exact absurd hj (o2 (j - i) (by omega) (by omega))
theorem dp_fp (bg bf : Int) (ft fp : Int → Int) (hft : ∀ i, 0 ≤ ft i ∧ ft i ≤ 30) (hp : ∀ g, kT bg g → fp g = kfp bg bf ft g) (g : Int) (hg : kT bg g) : jdp fp 41 g ≤ 30 ∧ jdp fp 41 (fp g) < jdp fp 41 g ∧ 0 ≤ jdp fp 41 (fp g) ∧ (fp g = 0 ∨ kT bg (fp g)) := by
  obtain ⟨n, h1, h2⟩ := reach30 bg bf ft fp hft hp g hg
  have h3 := jdp_le fp n 41 g h2
  refine ⟨by omega, jdp_step fp n g h2 (by omega) (by have := hg.1; omega), jdp_nn fp 41 _, ?_⟩
  rw [hp g hg]
  rcases kfp_t bg bf ft g with h4 | ⟨h4, _⟩
  · exact Or.inl h4
  · exact Or.inr h4
section EQX4
variable (mth mn mp mw mu md mo : Int) (bg bf : Int) (ft fp fl fh fq fr fd y1 y2 y3 y4 y5 y6 y7 y8 y9 : Int → Int)
theorem jBk_p (h : jBk bg bf ft fp fl fh fq fr fd y1 y2 y3 y4 y5 y6 y7 y8 y9) : ∀ g, kT bg g → fp g = kfp bg bf ft g := fun g hg => (h.2.2.2.1 g hg.1 hg.2.1 hg.2.2).2.2.2
theorem e_from (hft : ∀ i, 0 ≤ ft i ∧ ft i ≤ 30) (hy1 : ∀ i, 0 ≤ y1 i ∧ y1 i ≤ 1) (h : jBk bg bf ft fp fl fh fq fr fd y1 y2 y3 y4 y5 y6 y7 y8 y9) (g : Int) (hg : kT bg g) : f_XM_from mth mn mp mw mu md mo y1 y2 g = fp g := by
  rw [jBk_p bg bf ft fp fl fh fq fr fd y1 y2 y3 y4 y5 y6 y7 y8 y9 h g hg, f_XM_from_s]
  have hE := e_ringEq mth mn mp mw mu md mo y1 y2 bg bf ft hft hy1 h.1 h.2.1 h.2.2.1 g ⟨hg.1, hg.2.1⟩
  have hy := h.2.1 g hg.1 hg.2.1
  have hb := hft g
  have hk := e_told mth mn mp mw mu md mo bg bf y1 hy1 h.1 (ft g) (by omega)
  rw [← hE, ← hy, hk]
  unfold kfp
  by_cases a : f_XB_onRing bg bf ft g = 0
  · rw [if_pos a, if_pos a]
  · rw [if_neg a, if_neg a]
    split <;> rfl
theorem e_limL (hft : ∀ i, 0 ≤ ft i ∧ ft i ≤ 30) (hfq : ∀ i, -1 ≤ fq i ∧ fq i ≤ 999999) (hy1 : ∀ i, 0 ≤ y1 i ∧ y1 i ≤ 1) (hy2 : ∀ i, 0 ≤ y2 i ∧ y2 i ≤ 30) (h : jBk bg bf ft fp fl fh fq fr fd y1 y2 y3 y4 y5 y6 y7 y8 y9) (zg z1 zk : Int) (hk : 0 ≤ zk ∧ zk ≤ 3) : ∀ (n n' : Nat) (v k : Int), (v = 0 ∨ kT bg v) → 0 ≤ k → jdp fp 41 v + k ≤ 30 → 30 - k < (n : Int) → jdp (fun x => f_XM_from mth mn mp mw mu md mo y1 y2 x) 41 v < (n' : Int) → f_XM_limitOfP_L2 mth mn mp mw mu md mo y1 y2 y7 z1 zk n' v = f_XB_limitOf_L5 bg bf fp fq zg zk n v k := by
  intro n
  induction n with
  | zero => intro n' v k h1 h2 h3 h4; have := jdp_nn fp 41 v; omega
  | succ n ih =>
    intro n' v k h1 h2 h3 h4 h5
    cases n' with
    | zero => have := jdp_nn (fun x => f_XM_from mth mn mp mw mu md mo y1 y2 x) 41 v; omega
    | succ n' =>
      rw [f_XM_limitOfP_L2_s, f_XB_limitOf_L5_s]
      rcases h1 with rfl | hT
      · rw [if_neg (show ¬ (0 : Int) < 0 by decide), if_pos (rfl : (0 : Int) = 0)]
        split <;> rfl
      · obtain ⟨d1, d2, d3, d4⟩ := dp_fp bg bf ft fp hft (jBk_p bg bf ft fp fl fh fq fr fd y1 y2 y3 y4 y5 y6 y7 y8 y9 h) v hT
        have hv := hT.1
        have hv2 := hT.2.1
        have hd := from_dec mth mn mp mw mu md mo y1 y2 hy1 hy2 v ⟨hv, hv2⟩
        have hq := (h.2.2.2.1 v hT.1 hT.2.1 hT.2.2).2.2.1 zk hk.1 hk.2
        have hb := hfq (v * 4 + zk)
        rw [if_pos (show 0 < v by omega), if_pos (show k < 30 by omega), if_pos (show 0 < v by omega), f_XB_tellsLimit_s]
        rw [e_from mth mn mp mw mu md mo bg bf ft fp fl fh fq fr fd y1 y2 y3 y4 y5 y6 y7 y8 y9 hft hy1 h v hT] at hd ⊢
        by_cases a : fq (v * 4 + zk) = -1
        · rw [if_pos a, if_pos (rfl : (0 : Int) = 0), if_pos (show y7 (4 * v + zk) < 0 by omega)]
          exact ih n' (fp v) (k + 1) d4 (by omega) (by omega) (by omega) (by omega)
        · rw [if_neg a, if_neg (show ¬ (1 : Int) = 0 by decide), if_neg (show ¬ v = 0 by omega), if_neg (show ¬ y7 (4 * v + zk) < 0 by omega), hq]
theorem e_limitOf (hft : ∀ i, 0 ≤ ft i ∧ ft i ≤ 30) (hfq : ∀ i, -1 ≤ fq i ∧ fq i ≤ 999999) (hy1 : ∀ i, 0 ≤ y1 i ∧ y1 i ≤ 1) (hy2 : ∀ i, 0 ≤ y2 i ∧ y2 i ≤ 30) (h : jBk bg bf ft fp fl fh fq fr fd y1 y2 y3 y4 y5 y6 y7 y8 y9) (g zk : Int) (hg : kT bg g) (hk : 0 ≤ zk ∧ zk ≤ 3) : f_XM_limitOfP mth mn mp mw mu md mo y1 y2 y7 g zk = f_XB_limitOf bg bf fp fq g zk := by
  rw [f_XM_limitOfP_s, f_XB_limitOf_s]
  have d := dp_fp bg bf ft fp hft (jBk_p bg bf ft fp fl fh fq fr fd y1 y2 y3 y4 y5 y6 y7 y8 y9 h) g hg
  have := jdp_nn (fun x => f_XM_from mth mn mp mw mu md mo y1 y2 x) 41 g
  exact e_limL mth mn mp mw mu md mo bg bf ft fp fl fh fq fr fd y1 y2 y3 y4 y5 y6 y7 y8 y9 hft hfq hy1 hy2 h g g zk hk _ _ g 0 (Or.inr hg) (by decide) (by omega) (by decide) (by omega)
theorem e_lowL (hft : ∀ i, 0 ≤ ft i ∧ ft i ≤ 30) (hy1 : ∀ i, 0 ≤ y1 i ∧ y1 i ≤ 1) (hy2 : ∀ i, 0 ≤ y2 i ∧ y2 i ≤ 30) (h : jBk bg bf ft fp fl fh fq fr fd y1 y2 y3 y4 y5 y6 y7 y8 y9) (zg z1 ze : Int) (he : 0 ≤ ze ∧ ze ≤ 7) : ∀ (n n' : Nat) (v k : Int), (v = 0 ∨ kT bg v) → 0 ≤ k → jdp fp 41 v + k ≤ 30 → 30 - k < (n : Int) → jdp (fun x => f_XM_from mth mn mp mw mu md mo y1 y2 x) 41 v < (n' : Int) → f_XM_lowOfP_L2 mth mn mp mw mu md mo y1 y2 y3 y4 z1 ze n' v = f_XB_endOf_L6 bg bf fp fl fh zg ze 0 n v k ∧ f_XM_highOfP_L2 mth mn mp mw mu md mo y1 y2 y3 y5 z1 ze n' v = f_XB_endOf_L6 bg bf fp fl fh zg ze 1 n v k := by
  intro n
  induction n with
  | zero => intro n' v k h1 h2 h3 h4; have := jdp_nn fp 41 v; omega
  | succ n ih =>
    intro n' v k h1 h2 h3 h4 h5
    cases n' with
    | zero => have := jdp_nn (fun x => f_XM_from mth mn mp mw mu md mo y1 y2 x) 41 v; omega
    | succ n' =>
      rw [f_XM_lowOfP_L2_s, f_XM_highOfP_L2_s, f_XB_endOf_L6_s, f_XB_endOf_L6_s]
      rcases h1 with rfl | hT
      · simp only [if_neg (show ¬ (0 : Int) < 0 by decide), if_pos (rfl : (0 : Int) = 0), if_neg (show ¬ (1 : Int) = 0 by decide)]
        constructor <;> split <;> rfl
      · obtain ⟨d1, d2, d3, d4⟩ := dp_fp bg bf ft fp hft (jBk_p bg bf ft fp fl fh fq fr fd y1 y2 y3 y4 y5 y6 y7 y8 y9 h) v hT
        have hv := hT.1
        have hv2 := hT.2.1
        have hd := from_dec mth mn mp mw mu md mo y1 y2 hy1 hy2 v ⟨hv, hv2⟩
        have hq := (h.2.2.2.1 v hT.1 hT.2.1 hT.2.2).1 ze he.1 he.2
        simp only [if_pos (show 0 < v by omega), if_pos (show k < 30 by omega), f_XB_tellsSpan_s]
        rw [e_from mth mn mp mw mu md mo bg bf ft fp fl fh fq fr fd y1 y2 y3 y4 y5 y6 y7 y8 y9 hft hy1 h v hT] at hd ⊢
        rcases hq with ⟨q1, q2⟩ | ⟨q1, q2, q3, q4⟩
        · simp only [if_pos q1, if_pos q2, if_true]
          exact ih n' (fp v) (k + 1) d4 (by omega) (by omega) (by omega) (by omega)
        · simp only [if_neg (show ¬ fh (v * 8 + ze) = -1 by omega), if_neg (show ¬ y3 (8 * v + ze) = 0 by omega), if_neg (show ¬ v = 0 by omega), if_neg (show ¬ (1 : Int) = 0 by decide), if_true]
          exact ⟨q3.symm, q4.symm⟩
theorem e_low (hft : ∀ i, 0 ≤ ft i ∧ ft i ≤ 30) (hy1 : ∀ i, 0 ≤ y1 i ∧ y1 i ≤ 1) (hy2 : ∀ i, 0 ≤ y2 i ∧ y2 i ≤ 30) (h : jBk bg bf ft fp fl fh fq fr fd y1 y2 y3 y4 y5 y6 y7 y8 y9) (g ze : Int) (hg : kT bg g) (he : 0 ≤ ze ∧ ze ≤ 7) : f_XM_lowOfP mth mn mp mw mu md mo y1 y2 y3 y4 g ze = f_XB_endOf bg bf fp fl fh g ze 0 ∧ f_XM_highOfP mth mn mp mw mu md mo y1 y2 y3 y5 g ze = f_XB_endOf bg bf fp fl fh g ze 1 := by
  rw [f_XM_lowOfP_s, f_XM_highOfP_s, f_XB_endOf_s, f_XB_endOf_s]
  have d := dp_fp bg bf ft fp hft (jBk_p bg bf ft fp fl fh fq fr fd y1 y2 y3 y4 y5 y6 y7 y8 y9 h) g hg
  have := jdp_nn (fun x => f_XM_from mth mn mp mw mu md mo y1 y2 x) 41 g
  exact e_lowL mth mn mp mw mu md mo bg bf ft fp fl fh fq fr fd y1 y2 y3 y4 y5 y6 y7 y8 y9 hft hy1 hy2 h g g ze he _ _ g 0 (Or.inr hg) (by decide) (by omega) (by decide) (by omega)
end EQX4
end
section
/-! what both answer: limit, span, difference, route -/
theorem k_goes (mth mn mp mw mu md mo : Int) : f_XM_goesP mth mn mp mw mu md mo 0 1 = (0, 1) ∧ f_XM_goesP mth mn mp mw mu md mo 1 1 = (1, 0) := by
  constructor
  · rw [f_XM_goesP_s, if_pos (rfl : (0 : Int) = 0)]
  · rw [f_XM_goesP_s, if_neg (show ¬ (1 : Int) = 0 by decide), if_neg (show ¬ (1 : Int) = 0 by decide)]
theorem k_need (bg bf v : Int) : (f_XG_needGrade bg bf v = 0 ∧ f_XB_knows bg bf v = 1 ∧ kT bg v) ∨ (f_XG_needGrade bg bf v = 1 ∧ f_XB_knows bg bf v = 0) := by
  rw [f_XG_needGrade_s]
  rcases kT_knows bg bf v with ⟨k1, k2⟩ | ⟨k1, k2⟩
  · rw [if_neg (show ¬ f_XB_knows bg bf v = 0 by omega)]; exact Or.inl ⟨rfl, k1, k2⟩
  · rw [if_pos k1]; exact Or.inr ⟨rfl, k1⟩
section EQX5
variable (mth mn mp mw mu md mo : Int) (bg bf : Int) (ft fp fl fh fq fr fd y1 y2 y3 y4 y5 y6 y7 y8 y9 : Int → Int)
end EQX5
end
section
/-! fractions in lowest terms: numbers alone -/
theorem fz_gcd (a b : Nat) : Nat.gcd a b = Nat.gcd b (a % b) := by rw [Nat.gcd_comm a b, Nat.gcd_rec b a, Nat.gcd_comm]
/-- the fraction up / down stands for sum / 232792560 in lowest terms -/
def kFr (U D S : Int) : Prop := ∃ (u d c : Nat), U = u ∧ D = d ∧ 1 ≤ d ∧ 1 ≤ c ∧ Nat.gcd u d = 1 ∧ S = ((u * c : Nat) : Int) ∧ 232792560 = d * c
theorem kFr_0 : kFr 0 1 0 := ⟨0, 1, 232792560, rfl, rfl, by decide, by decide, by decide, by decide, by decide⟩
theorem fz_dvd (o : Int) (h : 1 ≤ o ∧ o ≤ 20) : ∃ (n t : Nat), o = n ∧ 1 ≤ n ∧ 232792560 = n * t ∧ Int.tdiv 232792560 o = t := by
  have h9 : o = 1 ∨ o = 2 ∨ o = 3 ∨ o = 4 ∨ o = 5 ∨ o = 6 ∨ o = 7 ∨ o = 8 ∨ o = 9 ∨ o = 10 ∨ o = 11 ∨ o = 12 ∨ o = 13 ∨ o = 14 ∨ o = 15 ∨ o = 16 ∨ o = 17 ∨ o = 18 ∨ o = 19 ∨ o = 20 := by omega
  rcases h9 with rfl | rfl | rfl | rfl | rfl | rfl | rfl | rfl | rfl | rfl | rfl | rfl | rfl | rfl | rfl | rfl | rfl | rfl | rfl | rfl
  · exact ⟨1, 232792560, rfl, by decide, by decide, by decide⟩
  · exact ⟨2, 116396280, rfl, by decide, by decide, by decide⟩
  · exact ⟨3, 77597520, rfl, by decide, by decide, by decide⟩
  · exact ⟨4, 58198140, rfl, by decide, by decide, by decide⟩
  · exact ⟨5, 46558512, rfl, by decide, by decide, by decide⟩
  · exact ⟨6, 38798760, rfl, by decide, by decide, by decide⟩
  · exact ⟨7, 33256080, rfl, by decide, by decide, by decide⟩
  · exact ⟨8, 29099070, rfl, by decide, by decide, by decide⟩
  · exact ⟨9, 25865840, rfl, by decide, by decide, by decide⟩
  · exact ⟨10, 23279256, rfl, by decide, by decide, by decide⟩
  · exact ⟨11, 21162960, rfl, by decide, by decide, by decide⟩
  · exact ⟨12, 19399380, rfl, by decide, by decide, by decide⟩
  · exact ⟨13, 17907120, rfl, by decide, by decide, by decide⟩
  · exact ⟨14, 16628040, rfl, by decide, by decide, by decide⟩
  · exact ⟨15, 15519504, rfl, by decide, by decide, by decide⟩
  · exact ⟨16, 14549535, rfl, by decide, by decide, by decide⟩
  · exact ⟨17, 13693680, rfl, by decide, by decide, by decide⟩
  · exact ⟨18, 12932920, rfl, by decide, by decide, by decide⟩
  · exact ⟨19, 12252240, rfl, by decide, by decide, by decide⟩
  · exact ⟨20, 11639628, rfl, by decide, by decide, by decide⟩
theorem fz_un (u d S K : Nat) (hd : 1 ≤ d) (hK : 1 ≤ K) (hg : Nat.gcd u d = 1) (h : u * K = S * d) : ∃ c, 1 ≤ c ∧ S = u * c ∧ K = d * c := by
  have h1 : d ∣ K := by
    have h2 : d ∣ u * K := ⟨S, by rw [h, Nat.mul_comm]⟩
    exact Nat.Coprime.dvd_of_dvd_mul_left (show Nat.Coprime d u by rw [Nat.Coprime, Nat.gcd_comm]; exact hg) h2
  obtain ⟨c, rfl⟩ := h1
  refine ⟨c, ?_, ?_, rfl⟩
  · cases c with
    | zero => omega
    | succ c => omega
  · have h3 : d * (u * c) = d * S := by rw [Nat.mul_left_comm, h, Nat.mul_comm]
    exact (Nat.eq_of_mul_eq_mul_left (by omega) h3).symm
theorem kFr_step (U D S s o : Int) (h : kFr U D S) (hs : 0 ≤ s) (ho : 1 ≤ o ∧ o ≤ 20) : kFr (Int.tdiv (U * o + s * D) (Nat.gcd (D * o).toNat (U * o + s * D).toNat)) (Int.tdiv (D * o) (Nat.gcd (D * o).toNat (U * o + s * D).toNat)) (S + s * Int.tdiv 232792560 o) := by
  obtain ⟨u, d, c, rfl, rfl, hd, hc, hg, rfl, hK⟩ := h
  obtain ⟨n, t, rfl, hn, hK2, ht⟩ := fz_dvd o ho
  obtain ⟨s, rfl⟩ := Int.eq_ofNat_of_zero_le hs
  rw [ht]
  have e1 : ((u : Int) * n + s * d) = ((u * n + s * d : Nat) : Int) := by simp
  have e2 : ((d : Int) * n) = ((d * n : Nat) : Int) := by simp
  have e3 : (((u * c : Nat) : Int) + s * t) = ((u * c + s * t : Nat) : Int) := by simp
  rw [e1, e2, e3, Int.toNat_natCast, Int.toNat_natCast, ← Int.ofNat_tdiv, ← Int.ofNat_tdiv]
  have hP : 1 ≤ d * n := Nat.mul_pos hd hn
  generalize hPe : d * n = P at hP ⊢
  generalize hNe : u * n + s * d = N
  obtain ⟨d', u', hco, h1, h2⟩ := Nat.exists_coprime P N
  have hgp : 0 < Nat.gcd P N := Nat.gcd_pos_of_pos_left N hP
  generalize Nat.gcd P N = g at h1 h2 hgp ⊢
  have q1 : N / g = u' := by rw [h2]; exact Nat.mul_div_cancel u' hgp
  have q2 : P / g = d' := by rw [h1]; exact Nat.mul_div_cancel d' hgp
  rw [q1, q2]
  have hd' : 1 ≤ d' := by
    cases d' with
    | zero => omega
    | succ d' => omega
  have key : u' * 232792560 = (u * c + s * t) * d' := by
    have k1 : (u' * 232792560) * g = ((u * c + s * t) * d') * g := by
      have k2 : (u' * 232792560) * g = N * 232792560 := by rw [h2, Nat.mul_right_comm]
      have k3 : ((u * c + s * t) * d') * g = (u * c + s * t) * P := by rw [h1, Nat.mul_assoc]
      rw [k2, k3, ← hPe, ← hNe, Nat.add_mul, Nat.add_mul]
      have k4 : u * n * 232792560 = u * c * (d * n) := by rw [hK]; simp only [Nat.mul_comm, Nat.mul_left_comm]
      have k5 : s * d * 232792560 = s * t * (d * n) := by rw [hK2]; simp only [Nat.mul_comm, Nat.mul_left_comm]
      rw [k4, k5]
    exact Nat.eq_of_mul_eq_mul_right hgp k1
  obtain ⟨c', hc', hS, hK'⟩ := fz_un u' d' (u * c + s * t) 232792560 hd' (by decide) (by rw [Nat.gcd_comm]; exact hco) key
  exact ⟨u', d', c', rfl, rfl, hd', hc', by rw [Nat.gcd_comm]; exact hco, by rw [hS], hK'⟩
theorem kFr_above (U D S L : Int) (h : kFr U D S) : L * D < U ↔ L * 232792560 < S := by
  obtain ⟨u, d, c, rfl, rfl, hd, hc, hg, rfl, hK⟩ := h
  have e2 : (232792560 : Int) = (d : Int) * c := by
    have : ((232792560 : Nat) : Int) = ((d * c : Nat) : Int) := by rw [← hK]
    rw [Int.natCast_mul] at this
    exact this
  have e3 : ((u * c : Nat) : Int) = (u : Int) * c := Int.natCast_mul u c
  have hc2 : (0 : Int) < (c : Int) := by omega
  rw [e3, e2, ← Int.mul_assoc]
  exact ⟨fun h => Int.mul_lt_mul_of_pos_right h hc2, fun h => Int.lt_of_mul_lt_mul_right h (by omega)⟩

end
section
noncomputable def g_XM_addsP_L46 (mth : Int) (mn : Int) (mp : Int) (mw : Int) (mu : Int) (md : Int) (mo : Int) (zs : Int) (z2 : Int) : Nat → Int → Int → Int × Int
  | 0, _, _ => (0, 0)
  | n9 + 1, x4, x6 =>
    if 0 < x6 then
      g_XM_addsP_L46 mth mn mp mw mu md mo zs z2 n9 x6 (Int.tmod x4 x6)
    else
      (Int.tdiv ((mu * z2) + (zs * md)) x4, Int.tdiv (md * z2) x4)
noncomputable def f_XM_addsP_L46 : Int → Int → Int → Int → Int → Int → Int → Int → Int → Nat → Int → Int → Int × Int := jopq g_XM_addsP_L46
theorem f_XM_addsP_L46_q : f_XM_addsP_L46 = g_XM_addsP_L46 := jopq_eq _
theorem f_XM_addsP_L46_s (mth : Int) (mn : Int) (mp : Int) (mw : Int) (mu : Int) (md : Int) (mo : Int) (zs : Int) (z2 : Int) (n9 : Nat) (x4 : Int) (x6 : Int) : f_XM_addsP_L46 mth mn mp mw mu md mo zs z2 (n9 + 1) x4 x6 = (
    if 0 < x6 then
      f_XM_addsP_L46 mth mn mp mw mu md mo zs z2 n9 x6 (Int.tmod x4 x6)
    else
      (Int.tdiv ((mu * z2) + (zs * md)) x4, Int.tdiv (md * z2) x4)
  : Int × Int) := by rw [f_XM_addsP_L46_q]; rfl
noncomputable def g_XM_addsP (mth : Int) (mn : Int) (mp : Int) (mw : Int) (mu : Int) (md : Int) (mo : Int) (zs : Int) (z2 : Int) : Int × Int :=
  if z2 = 0 then
    (mu, md)
  else
    f_XM_addsP_L46 mth mn mp mw mu md mo zs z2 (Int.toNat (((mu * z2) + (zs * md))) + 1) (md * z2) ((mu * z2) + (zs * md))
noncomputable def f_XM_addsP : Int → Int → Int → Int → Int → Int → Int → Int → Int → Int × Int := jopq g_XM_addsP
theorem f_XM_addsP_q : f_XM_addsP = g_XM_addsP := jopq_eq _
theorem f_XM_addsP_s (mth : Int) (mn : Int) (mp : Int) (mw : Int) (mu : Int) (md : Int) (mo : Int) (zs : Int) (z2 : Int) : f_XM_addsP mth mn mp mw mu md mo zs z2 = (
    if z2 = 0 then
      (mu, md)
    else
      f_XM_addsP_L46 mth mn mp mw mu md mo zs z2 (Int.toNat (((mu * z2) + (zs * md))) + 1) (md * z2) ((mu * z2) + (zs * md))
  : Int × Int) := by rw [f_XM_addsP_q]; rfl
set_option maxHeartbeats 4000000 in
set_option maxRecDepth 100000 in
theorem c_XM_addsP (l : Launch) (dC : Nat → ClassId) (dI : Nat → Nat → Nat) (cA cZ : ClassId) (sz : Nat) (ma : Nat) (a0 : Nat) (a1 : Nat) (a2 : Nat) (a3 : Nat) (a4 : Nat) (a5 : Nat) (a6 : Nat) (a7 : Nat) (a8 : Nat) (a9 : Nat) (a10 : Nat) (a11 : Nat) (mth : Int) (mn : Int) (mp : Int) (mw : Int) (mu : Int) (md : Int) (mo : Int) (zs : Int) (z2 : Int) (hzs : 0 ≤ zs ∧ zs ≤ 100000) (hz2 : 0 ≤ z2 ∧ z2 ≤ 20) (hmu : 0 ≤ mu ∧ mu ≤ 100000000000000) (hmd : 1 ≤ md ∧ md ≤ 1280000000) : Met l yXM_adds (Cond.code yXM_adds cXM_adds 10 none :: TBL) ({ frames := 0, cells := 0, slots := 0, locals := 0 } : Room) (va_Pc [.ref ma, .long (jL zs), .int (jI z2)] (jBw (dC, dI) [(cA, .int), (cZ, .boolean)] [(ma, .inr (5, [.int (jI mth), .int (jI mn), .ref a0, .int (jI mp), .int (jI mw), .ref a1, .ref a2, .ref a3, .ref a4, .ref a5, .ref a6, .ref a7, .ref a8, .ref a9, .ref a10, .long (jL mu), .long (jL md), .int (jI mo), .ref a11]))] sz)) (va_Qv (fun (u : Int × Int) => u = f_XM_addsP mth mn mp mw mu md mo zs z2 ∧ (0 ≤ u.1 ∧ u.1 ≤ 20 * mu + 100000 * md) ∧ (1 ≤ u.2 ∧ u.2 ≤ 20 * md)) (fun u t => jE (dC, dI) [(cA, .int), (cZ, .boolean)] [(ma, .inr (5, [.int (jI mth), .int (jI mn), .ref a0, .int (jI mp), .int (jI mw), .ref a1, .ref a2, .ref a3, .ref a4, .ref a5, .ref a6, .ref a7, .ref a8, .ref a9, .ref a10, .long (jL mu), .long (jL md), .int (jI mo), .ref a11]))] sz [(ma, .inr (5, [.int (jI mth), .int (jI mn), .ref a0, .int (jI mp), .int (jI mw), .ref a1, .ref a2, .ref a3, .ref a4, .ref a5, .ref a6, .ref a7, .ref a8, .ref a9, .ref a10, .long (jL u.1), .long (jL u.2), .int (jI mo), .ref a11]))] t) (va_A [(ma, .inr (5, [.int (jI mth), .int (jI mn), .ref a0, .int (jI mp), .int (jI mw), .ref a1, .ref a2, .ref a3, .ref a4, .ref a5, .ref a6, .ref a7, .ref a8, .ref a9, .ref a10, .long (jL mu), .long (jL md), .int (jI mo), .ref a11]))] sz)) 0 0 (va_A [(ma, .inr (5, [.int (jI mth), .int (jI mn), .ref a0, .int (jI mp), .int (jI mw), .ref a1, .ref a2, .ref a3, .ref a4, .ref a5, .ref a6, .ref a7, .ref a8, .ref a9, .ref a10, .long (jL mu), .long (jL md), .int (jI mo), .ref a11]))] sz) := by
  refine jMet (cc := cXM_adds) (maxL := 10) (ret := none) (by decide) rfl ?_
  intro p e s m args below meth c s₁ R Q hR hQ B hml hv
  obtain ⟨rfl, hsz, hP, hK, hD0, hN⟩ := hv
  have hx := B.exec
  have hb := B.bytes
  have hr := B.returns
  have hts := atoms_spec (ws := Cond.code yXM_adds cXM_adds 10 none :: TBL) B.pre
  have hown : s.vm.findClass RXM = some m.cls := findClass_of_methodNamed B.named
  have hlocks := B.notSynchronized
  subst hsz
  obtain ⟨A, hAe⟩ : ∃ A, A = va_A [(ma, .inr (5, [.int (jI mth), .int (jI mn), .ref a0, .int (jI mp), .int (jI mw), .ref a1, .ref a2, .ref a3, .ref a4, .ref a5, .ref a6, .ref a7, .ref a8, .ref a9, .ref a10, .long (jL mu), .long (jL md), .int (jI mo), .ref a11]))] s.heap.size := ⟨_, rfl⟩
  have hD : va_D A [(ma, .inr (5, [.int (jI mth), .int (jI mn), .ref a0, .int (jI mp), .int (jI mw), .ref a1, .ref a2, .ref a3, .ref a4, .ref a5, .ref a6, .ref a7, .ref a8, .ref a9, .ref a10, .long (jL mu), .long (jL md), .int (jI mo), .ref a11]))] := by rw [hAe]; exact hD0.self
  have hA : ∀ q : Nat, s.heap.size ≤ q → A q := fun q h => by rw [hAe]; exact Or.inr h
  have hS : va_S A s.heap s.heap [] := va_S.rf
  have hP : va_P (dC, dI) vwCl [(ma, .inr (5, [.int (jI mth), .int (jI mn), .ref a0, .int (jI mp), .int (jI mw), .ref a1, .ref a2, .ref a3, .ref a4, .ref a5, .ref a6, .ref a7, .ref a8, .ref a9, .ref a10, .long (jL mu), .long (jL md), .int (jI mo), .ref a11]))] s.heap := hP
  have hl := lv_entry ([.ref ma, .long (jL zs), .int (jI z2)]) (n := 10) (Nat.le_of_ble_eq_true rfl)
  rw [lg_entry_eq]
  generalize (lg_sl ([.ref ma, .long (jL zs), .int (jI z2)]) ++ List.replicate (10 - (lg_sl ([.ref ma, .long (jL zs), .int (jI z2)])).length) Slot.unset).toArray = ls at hl ⊢
  have hl : lv_has ls 10 [(0, .ref ma), (1, .long (jL zs)), (3, .int (jI z2))] := hl
  have q1 := mulb hmu.1 hz2
  have q2 := mulc hzs (show 0 ≤ md by omega)
  have q3 := mulb (show 0 ≤ md by omega) hz2
  refine lv_iload_n hx hb dXM_adds_0 rfl (lv_at hl 2 rfl) ?_
  refine ji_if_ne (tgt := 5) hx hb dXM_adds_1 (by decide) (by omega) (fun c1_ => ?_) (fun c1_ => ?_)
  · refine lv_aload_n hx hb dXM_adds_5 rfl (lv_at hl 0 rfl) ?_
    refine lv_aload_n hx hb dXM_adds_6 rfl (lv_at hl 0 rfl) ?_
    refine va_get (D := (dC, dI)) (ci := 5) (v := .long (jL mu)) (C := RXM) (T := TXM) (N := 19) hx hb hts (fun w h => jmem (inXM w h)) hown hK hP 0 rfl rfl 15 (by decide) (hts _ (jmem tw_643)) (fun _ h9 => h9) rfl dXM_adds_7 ?_
    refine lv_iload_n hx hb dXM_adds_10 rfl (lv_at hl 2 rfl) ?_
    refine ji_i2l hx hb dXM_adds_11 (by omega) ?_
    refine ji_lmul hx hb dXM_adds_12 ?_
    refine lv_lload_n hx hb dXM_adds_13 rfl (lv_at hl 1 rfl) ?_
    refine lv_aload_n hx hb dXM_adds_14 rfl (lv_at hl 0 rfl) ?_
    refine va_get (D := (dC, dI)) (ci := 5) (v := .long (jL md)) (C := RXM) (T := TXM) (N := 19) hx hb hts (fun w h => jmem (inXM w h)) hown hK hP 0 rfl rfl 16 (by decide) (hts _ (jmem tw_644)) (fun _ h9 => h9) rfl dXM_adds_15 ?_
    refine ji_lmul hx hb dXM_adds_18 ?_
    refine ji_ladd hx hb dXM_adds_19 ?_
    refine va_put (D := (dC, dI)) (ci := 5) (v := .long (jL ((mu * z2) + (zs * md)))) (ty := (.long)) (C := RXM) (T := TXM) (N := 19) hx hb hts (fun w h => jmem (inXM w h)) tyXM tyXM_ok nXM hown hK hP hD hS 0 rfl rfl 15 (by decide) (hts _ (jmem tw_643)) (fun _ h9 => h9) rfl (by decide +kernel) rfl rfl (Nat.le_of_ble_eq_true rfl) dXM_adds_20 (fun H locs hP hD hS => ?_)
    have hP : va_P (dC, dI) vwCl [(ma, .inr (5, [.int (jI mth), .int (jI mn), .ref a0, .int (jI mp), .int (jI mw), .ref a1, .ref a2, .ref a3, .ref a4, .ref a5, .ref a6, .ref a7, .ref a8, .ref a9, .ref a10, .long (jL ((mu * z2) + (zs * md))), .long (jL md), .int (jI mo), .ref a11]))] H := hP
    have hD : va_D A [(ma, .inr (5, [.int (jI mth), .int (jI mn), .ref a0, .int (jI mp), .int (jI mw), .ref a1, .ref a2, .ref a3, .ref a4, .ref a5, .ref a6, .ref a7, .ref a8, .ref a9, .ref a10, .long (jL ((mu * z2) + (zs * md))), .long (jL md), .int (jI mo), .ref a11]))] := hD
    refine lv_aload_n hx hb dXM_adds_23 rfl (lv_at hl 0 rfl) ?_
    refine lv_aload_n hx hb dXM_adds_24 rfl (lv_at hl 0 rfl) ?_
    refine va_get (D := (dC, dI)) (ci := 5) (v := .long (jL md)) (C := RXM) (T := TXM) (N := 19) hx hb hts (fun w h => jmem (inXM w h)) hown hK hP 0 rfl rfl 16 (by decide) (hts _ (jmem tw_644)) (fun _ h9 => h9) rfl dXM_adds_25 ?_
    refine lv_iload_n hx hb dXM_adds_28 rfl (lv_at hl 2 rfl) ?_
    refine ji_i2l hx hb dXM_adds_29 (by omega) ?_
    refine ji_lmul hx hb dXM_adds_30 ?_
    refine va_put (D := (dC, dI)) (ci := 5) (v := .long (jL (md * z2))) (ty := (.long)) (C := RXM) (T := TXM) (N := 19) hx hb hts (fun w h => jmem (inXM w h)) tyXM tyXM_ok nXM hown hK hP hD hS 0 rfl rfl 16 (by decide) (hts _ (jmem tw_644)) (fun _ h9 => h9) rfl (by decide +kernel) rfl rfl (Nat.le_of_ble_eq_true rfl) dXM_adds_31 (fun H locs hP hD hS => ?_)
    have hP : va_P (dC, dI) vwCl [(ma, .inr (5, [.int (jI mth), .int (jI mn), .ref a0, .int (jI mp), .int (jI mw), .ref a1, .ref a2, .ref a3, .ref a4, .ref a5, .ref a6, .ref a7, .ref a8, .ref a9, .ref a10, .long (jL ((mu * z2) + (zs * md))), .long (jL (md * z2)), .int (jI mo), .ref a11]))] H := hP
    have hD : va_D A [(ma, .inr (5, [.int (jI mth), .int (jI mn), .ref a0, .int (jI mp), .int (jI mw), .ref a1, .ref a2, .ref a3, .ref a4, .ref a5, .ref a6, .ref a7, .ref a8, .ref a9, .ref a10, .long (jL ((mu * z2) + (zs * md))), .long (jL (md * z2)), .int (jI mo), .ref a11]))] := hD
    refine lv_aload_n hx hb dXM_adds_34 rfl (lv_at hl 0 rfl) ?_
    refine va_get (D := (dC, dI)) (ci := 5) (v := .long (jL (md * z2))) (C := RXM) (T := TXM) (N := 19) hx hb hts (fun w h => jmem (inXM w h)) hown hK hP 0 rfl rfl 16 (by decide) (hts _ (jmem tw_644)) (fun _ h9 => h9) rfl dXM_adds_35 ?_
    refine lv_lstore (lv' := [(4, .long (jL (md * z2))), (0, .ref ma), (1, .long (jL zs)), (3, .int (jI z2))]) hx hb dXM_adds_38 hl (by decide) rfl (fun ls hl => ?_)
    refine lv_aload_n hx hb dXM_adds_40 rfl (lv_at hl 1 rfl) ?_
    refine va_get (D := (dC, dI)) (ci := 5) (v := .long (jL ((mu * z2) + (zs * md)))) (C := RXM) (T := TXM) (N := 19) hx hb hts (fun w h => jmem (inXM w h)) hown hK hP 0 rfl rfl 15 (by decide) (hts _ (jmem tw_643)) (fun _ h9 => h9) rfl dXM_adds_41 ?_
    refine lv_lstore (lv' := [(6, .long (jL ((mu * z2) + (zs * md)))), (4, .long (jL (md * z2))), (0, .ref ma), (1, .long (jL zs)), (3, .int (jI z2))]) hx hb dXM_adds_44 hl (by decide) rfl (fun ls hl => ?_)
    have loop46 : ∀ (n9 : Nat) (x4 : Int) (x6 : Int) , x6 < (n9 : Int) → f_XM_addsP_L46 mth mn mp mw mu md mo zs z2 n9 x4 x6 = f_XM_addsP mth mn mp mw mu md mo zs z2 → (1 ≤ x4 ∧ x4 ≤ 10000000000000000) → (0 ≤ x6 ∧ x6 ≤ 10000000000000000) → (∀ d : Int, d ∣ x4 → d ∣ x6 → d ∣ md * z2) → ∀ (H : Heap) (locs : List Loc), va_P (dC, dI) vwCl [(ma, .inr (5, [.int (jI mth), .int (jI mn), .ref a0, .int (jI mp), .int (jI mw), .ref a1, .ref a2, .ref a3, .ref a4, .ref a5, .ref a6, .ref a7, .ref a8, .ref a9, .ref a10, .long (jL ((mu * z2) + (zs * md))), .long (jL (md * z2)), .int (jI mo), .ref a11]))] H → va_D A [(ma, .inr (5, [.int (jI mth), .int (jI mn), .ref a0, .int (jI mp), .int (jI mw), .ref a1, .ref a2, .ref a3, .ref a4, .ref a5, .ref a6, .ref a7, .ref a8, .ref a9, .ref a10, .long (jL ((mu * z2) + (zs * md))), .long (jL (md * z2)), .int (jI mo), .ref a11]))] → va_S A s.heap H locs → ∀ ls : Array Slot, lv_has ls 10 [(6, .long (jL x6)), (4, .long (jL x4)), (0, .ref ma), (1, .long (jL zs)), (3, .int (jI z2))] → W p l e R s m ([.ref ma, .long (jL zs), .int (jI z2)] : List Value).toArray below meth c H locs 0 0 Q (F0 m 46 ls []) := by
      intro n9
      induction n9 with
      | zero =>
        intro x4 x6 hm hF hx4 hx6 hgd
        exact absurd hm (by omega)
      | succ n9 ih46 =>
        intro x4 x6 hm hF hx4 hx6 hgd H locs hP hD hS ls hl
        refine lv_lload hx hb dXM_adds_46 (lv_at hl 0 rfl) ?_
        refine ji_lconst (z := 0) hx hb dXM_adds_48 rfl ?_
        refine ji_lcmp hx hb dXM_adds_49 (by omega) (by omega) ?_
        refine ji_if_le (tgt := 71) hx hb dXM_adds_50 (by decide) (jcmp_i _ _) (fun c50_ => ?_) (fun c50_ => ?_)
        · have c50_ := jcmp_ngt.mp c50_
          refine lv_aload_n hx hb dXM_adds_71 rfl (lv_at hl 2 rfl) ?_
          refine lv_aload_n hx hb dXM_adds_72 rfl (lv_at hl 2 rfl) ?_
          refine va_get (D := (dC, dI)) (ci := 5) (v := .long (jL ((mu * z2) + (zs * md)))) (C := RXM) (T := TXM) (N := 19) hx hb hts (fun w h => jmem (inXM w h)) hown hK hP 0 rfl rfl 15 (by decide) (hts _ (jmem tw_643)) (fun _ h9 => h9) rfl dXM_adds_73 ?_
          refine lv_lload hx hb dXM_adds_76 (lv_at hl 1 rfl) ?_
          refine ji_ldiv hx hb dXM_adds_78 (by omega) (by omega) (by omega) (by omega) ?_
          have q5 := tdb (mu * z2 + zs * md) x4 (by omega) (by omega)
          refine va_put (D := (dC, dI)) (ci := 5) (v := .long (jL (Int.tdiv ((mu * z2) + (zs * md)) x4))) (ty := (.long)) (C := RXM) (T := TXM) (N := 19) hx hb hts (fun w h => jmem (inXM w h)) tyXM tyXM_ok nXM hown hK hP hD hS 0 rfl rfl 15 (by decide) (hts _ (jmem tw_643)) (fun _ h9 => h9) rfl (by decide +kernel) rfl rfl (Nat.le_of_ble_eq_true rfl) dXM_adds_79 (fun H locs hP hD hS => ?_)
          have hP : va_P (dC, dI) vwCl [(ma, .inr (5, [.int (jI mth), .int (jI mn), .ref a0, .int (jI mp), .int (jI mw), .ref a1, .ref a2, .ref a3, .ref a4, .ref a5, .ref a6, .ref a7, .ref a8, .ref a9, .ref a10, .long (jL (Int.tdiv ((mu * z2) + (zs * md)) x4)), .long (jL (md * z2)), .int (jI mo), .ref a11]))] H := hP
          have hD : va_D A [(ma, .inr (5, [.int (jI mth), .int (jI mn), .ref a0, .int (jI mp), .int (jI mw), .ref a1, .ref a2, .ref a3, .ref a4, .ref a5, .ref a6, .ref a7, .ref a8, .ref a9, .ref a10, .long (jL (Int.tdiv ((mu * z2) + (zs * md)) x4)), .long (jL (md * z2)), .int (jI mo), .ref a11]))] := hD
          refine lv_aload_n hx hb dXM_adds_82 rfl (lv_at hl 2 rfl) ?_
          refine lv_aload_n hx hb dXM_adds_83 rfl (lv_at hl 2 rfl) ?_
          refine va_get (D := (dC, dI)) (ci := 5) (v := .long (jL (md * z2))) (C := RXM) (T := TXM) (N := 19) hx hb hts (fun w h => jmem (inXM w h)) hown hK hP 0 rfl rfl 16 (by decide) (hts _ (jmem tw_644)) (fun _ h9 => h9) rfl dXM_adds_84 ?_
          refine lv_lload hx hb dXM_adds_87 (lv_at hl 1 rfl) ?_
          refine ji_ldiv hx hb dXM_adds_89 (by omega) (by omega) (by omega) (by omega) ?_
          have q6 := tdb (md * z2) x4 (by omega) (by omega)
          have q7 := td1 (md * z2) x4 (by omega) (by omega) (hgd x4 (Int.dvd_refl x4) (by rw [show x6 = 0 by omega]; exact Int.dvd_zero x4))
          refine va_put (D := (dC, dI)) (ci := 5) (v := .long (jL (Int.tdiv (md * z2) x4))) (ty := (.long)) (C := RXM) (T := TXM) (N := 19) hx hb hts (fun w h => jmem (inXM w h)) tyXM tyXM_ok nXM hown hK hP hD hS 0 rfl rfl 16 (by decide) (hts _ (jmem tw_644)) (fun _ h9 => h9) rfl (by decide +kernel) rfl rfl (Nat.le_of_ble_eq_true rfl) dXM_adds_90 (fun H locs hP hD hS => ?_)
          have hP : va_P (dC, dI) vwCl [(ma, .inr (5, [.int (jI mth), .int (jI mn), .ref a0, .int (jI mp), .int (jI mw), .ref a1, .ref a2, .ref a3, .ref a4, .ref a5, .ref a6, .ref a7, .ref a8, .ref a9, .ref a10, .long (jL (Int.tdiv ((mu * z2) + (zs * md)) x4)), .long (jL (Int.tdiv (md * z2) x4)), .int (jI mo), .ref a11]))] H := hP
          have hD : va_D A [(ma, .inr (5, [.int (jI mth), .int (jI mn), .ref a0, .int (jI mp), .int (jI mw), .ref a1, .ref a2, .ref a3, .ref a4, .ref a5, .ref a6, .ref a7, .ref a8, .ref a9, .ref a10, .long (jL (Int.tdiv ((mu * z2) + (zs * md)) x4)), .long (jL (Int.tdiv (md * z2) x4)), .int (jI mo), .ref a11]))] := hD
          have hP9 := hP.sub (ws' := [(ma, .inr (5, [.int (jI mth), .int (jI mn), .ref a0, .int (jI mp), .int (jI mw), .ref a1, .ref a2, .ref a3, .ref a4, .ref a5, .ref a6, .ref a7, .ref a8, .ref a9, .ref a10, .long (jL (Int.tdiv ((mu * z2) + (zs * md)) x4)), .long (jL (Int.tdiv (md * z2) x4)), .int (jI mo), .ref a11]))]) [0] rfl
          have hD9 := hD.sub (ws' := [(ma, .inr (5, [.int (jI mth), .int (jI mn), .ref a0, .int (jI mp), .int (jI mw), .ref a1, .ref a2, .ref a3, .ref a4, .ref a5, .ref a6, .ref a7, .ref a8, .ref a9, .ref a10, .long (jL (Int.tdiv ((mu * z2) + (zs * md)) x4)), .long (jL (Int.tdiv (md * z2) x4)), .int (jI mo), .ref a11]))]) [0] (by decide) rfl
          subst hAe
          subst hQ
          exact W.vret hx hb hr (fun t ht hW => ⟨⟨(Int.tdiv ((mu * z2) + (zs * md)) x4, Int.tdiv (md * z2) x4), rfl, ⟨Eq.trans (by rw [f_XM_addsP_L46_s]; rw [if_neg (Int.not_lt.mpr c50_)]; try rfl) hF, show 0 ≤ (Int.tdiv ((mu * z2) + (zs * md)) x4) ∧ (Int.tdiv ((mu * z2) + (zs * md)) x4) ≤ 20 * mu + 100000 * md from by first | assumption | omega | exact jset_b (by assumption) (by omega) | exact jset_l (by assumption) (by omega) | exact jset_l (fun _ _ => rfl) (by omega) | exact fun _ _ => rfl | exact l_trans (by assumption) (by assumption), show 1 ≤ (Int.tdiv (md * z2) x4) ∧ (Int.tdiv (md * z2) x4) ≤ 20 * md from by first | assumption | omega | exact jset_b (by assumption) (by omega) | exact jset_l (by assumption) (by omega) | exact jset_l (fun _ _ => rfl) (by omega) | exact fun _ _ => rfl | exact l_trans (by assumption) (by assumption)⟩, ⟨by rw [ht]; exact hP9, va_K.moved hW.alike hK, hD9⟩⟩, hS.F ht⟩) hS.2.2 dXM_adds_93
        · have c50_ := jcmp_gt.mp c50_
          refine lv_lload hx hb dXM_adds_53 (lv_at hl 1 rfl) ?_
          refine lv_lload hx hb dXM_adds_55 (lv_at hl 0 rfl) ?_
          refine ji_lrem hx hb dXM_adds_57 (by omega) (by omega) (by omega) (by omega) ?_
          have q4 := gdb x4 x6 (by omega) (by omega)
          refine lv_lstore (lv' := [(8, .long (jL (Int.tmod x4 x6))), (6, .long (jL x6)), (4, .long (jL x4)), (0, .ref ma), (1, .long (jL zs)), (3, .int (jI z2))]) hx hb dXM_adds_58 hl (by decide) rfl (fun ls hl => ?_)
          refine lv_lload hx hb dXM_adds_60 (lv_at hl 1 rfl) ?_
          refine lv_lstore (lv' := [(4, .long (jL x6)), (8, .long (jL (Int.tmod x4 x6))), (6, .long (jL x6)), (0, .ref ma), (1, .long (jL zs)), (3, .int (jI z2))]) hx hb dXM_adds_62 hl (by decide) rfl (fun ls hl => ?_)
          refine lv_lload hx hb dXM_adds_64 (lv_at hl 1 rfl) ?_
          refine lv_lstore (lv' := [(6, .long (jL (Int.tmod x4 x6))), (4, .long (jL x6)), (8, .long (jL (Int.tmod x4 x6))), (0, .ref ma), (1, .long (jL zs)), (3, .int (jI z2))]) hx hb dXM_adds_66 hl (by decide) rfl (fun ls hl => ?_)
          refine lv_goto (tgt := 46) hx hb dXM_adds_68 (by decide) ?_
          exact ih46 x6 (Int.tmod x4 x6) (by omega) (Eq.trans (by rw [f_XM_addsP_L46_s]; rw [if_pos c50_]; try rfl) hF) (by first | assumption | omega) (by first | assumption | omega) (gds (by omega) hgd) _ _ hP hD hS ls (lv_sub hl [0, 1, 3, 4, 5] rfl)
    exact loop46 (Int.toNat (((mu * z2) + (zs * md))) + 1) (md * z2) ((mu * z2) + (zs * md)) (by omega) (Eq.trans (by rw [f_XM_addsP_s]; rw [if_neg c1_]; try rfl) rfl) (by first | assumption | omega) (by first | assumption | omega) (fun d h _ => h) _ _ hP hD hS ls (lv_sub hl [0, 1, 2, 3, 4] rfl)
  · have hP9 := hP.sub (ws' := [(ma, .inr (5, [.int (jI mth), .int (jI mn), .ref a0, .int (jI mp), .int (jI mw), .ref a1, .ref a2, .ref a3, .ref a4, .ref a5, .ref a6, .ref a7, .ref a8, .ref a9, .ref a10, .long (jL mu), .long (jL md), .int (jI mo), .ref a11]))]) [0] rfl
    have hD9 := hD.sub (ws' := [(ma, .inr (5, [.int (jI mth), .int (jI mn), .ref a0, .int (jI mp), .int (jI mw), .ref a1, .ref a2, .ref a3, .ref a4, .ref a5, .ref a6, .ref a7, .ref a8, .ref a9, .ref a10, .long (jL mu), .long (jL md), .int (jI mo), .ref a11]))]) [0] (by decide) rfl
    subst hAe
    subst hQ
    exact W.vret hx hb hr (fun t ht hW => ⟨⟨(mu, md), rfl, ⟨Eq.trans (by rw [f_XM_addsP_s]; rw [if_pos c1_]; try rfl) rfl, show 0 ≤ mu ∧ mu ≤ 20 * mu + 100000 * md from by first | assumption | omega | exact jset_b (by assumption) (by omega) | exact jset_l (by assumption) (by omega) | exact jset_l (fun _ _ => rfl) (by omega) | exact fun _ _ => rfl | exact l_trans (by assumption) (by assumption), show 1 ≤ md ∧ md ≤ 20 * md from by first | assumption | omega | exact jset_b (by assumption) (by omega) | exact jset_l (by assumption) (by omega) | exact jset_l (fun _ _ => rfl) (by omega) | exact fun _ _ => rfl | exact l_trans (by assumption) (by assumption)⟩, ⟨by rw [ht]; exact hP9, va_K.moved hW.alike hK, hD9⟩⟩, hS.F ht⟩) hS.2.2 dXM_adds_4
noncomputable def g_XM_reckonP_L13 (mth : Int) (mn : Int) (mp : Int) (mw : Int) (mu : Int) (md : Int) (mo : Int) (y1 : Int → Int) (y2 : Int → Int) (y3 : Int → Int) (y4 : Int → Int) (y5 : Int → Int) (y9 : Int → Int) (y10 : Int → Int) (z1 : Int) (z2 : Int) (z3 : Int) : Nat → Int → Int → Int → Int × Int
  | 0, _, _, _ => (0, 0)
  | n9 + 1, e9, u9, d9 =>
    if e9 < 8 then
      if z3 = 2 then
        match f_XM_addsP mth mn mp mw u9 d9 mo (y10 e9) (y9 ((8 * z2) + e9)) with
        | (mu1'13, md1'14) =>
          g_XM_reckonP_L13 mth mn mp mw mu md mo y1 y2 y3 y4 y5 y9 y10 z1 z2 z3 n9 (e9 + 1) mu1'13 md1'14
      else
        if z3 = 0 then
          match f_XM_addsP mth mn mp mw u9 d9 mo (f_XM_lowOfP mth mn mp mw u9 d9 mo y1 y2 y3 y4 z1 e9) (y9 ((8 * z2) + e9)) with
          | (mu1'5, md1'6) =>
            g_XM_reckonP_L13 mth mn mp mw mu md mo y1 y2 y3 y4 y5 y9 y10 z1 z2 z3 n9 (e9 + 1) mu1'5 md1'6
        else
          match f_XM_addsP mth mn mp mw u9 d9 mo (f_XM_highOfP mth mn mp mw u9 d9 mo y1 y2 y3 y5 z1 e9) (y9 ((8 * z2) + e9)) with
          | (mu1', md1') =>
            g_XM_reckonP_L13 mth mn mp mw mu md mo y1 y2 y3 y4 y5 y9 y10 z1 z2 z3 n9 (e9 + 1) mu1' md1'
    else
      (u9, d9)
noncomputable def f_XM_reckonP_L13 : Int → Int → Int → Int → Int → Int → Int → (Int → Int) → (Int → Int) → (Int → Int) → (Int → Int) → (Int → Int) → (Int → Int) → (Int → Int) → Int → Int → Int → Nat → Int → Int → Int → Int × Int := jopq g_XM_reckonP_L13
theorem f_XM_reckonP_L13_q : f_XM_reckonP_L13 = g_XM_reckonP_L13 := jopq_eq _
theorem f_XM_reckonP_L13_s (mth : Int) (mn : Int) (mp : Int) (mw : Int) (mu : Int) (md : Int) (mo : Int) (y1 : Int → Int) (y2 : Int → Int) (y3 : Int → Int) (y4 : Int → Int) (y5 : Int → Int) (y9 : Int → Int) (y10 : Int → Int) (z1 : Int) (z2 : Int) (z3 : Int) (n9 : Nat) (e9 : Int) (u9 : Int) (d9 : Int) : f_XM_reckonP_L13 mth mn mp mw mu md mo y1 y2 y3 y4 y5 y9 y10 z1 z2 z3 (n9 + 1) e9 u9 d9 = (
    if e9 < 8 then
      if z3 = 2 then
        match f_XM_addsP mth mn mp mw u9 d9 mo (y10 e9) (y9 ((8 * z2) + e9)) with
        | (mu1'13, md1'14) =>
          f_XM_reckonP_L13 mth mn mp mw mu md mo y1 y2 y3 y4 y5 y9 y10 z1 z2 z3 n9 (e9 + 1) mu1'13 md1'14
      else
        if z3 = 0 then
          match f_XM_addsP mth mn mp mw u9 d9 mo (f_XM_lowOfP mth mn mp mw u9 d9 mo y1 y2 y3 y4 z1 e9) (y9 ((8 * z2) + e9)) with
          | (mu1'5, md1'6) =>
            f_XM_reckonP_L13 mth mn mp mw mu md mo y1 y2 y3 y4 y5 y9 y10 z1 z2 z3 n9 (e9 + 1) mu1'5 md1'6
        else
          match f_XM_addsP mth mn mp mw u9 d9 mo (f_XM_highOfP mth mn mp mw u9 d9 mo y1 y2 y3 y5 z1 e9) (y9 ((8 * z2) + e9)) with
          | (mu1', md1') =>
            f_XM_reckonP_L13 mth mn mp mw mu md mo y1 y2 y3 y4 y5 y9 y10 z1 z2 z3 n9 (e9 + 1) mu1' md1'
    else
      (u9, d9)
  : Int × Int) := by rw [f_XM_reckonP_L13_q]; rfl
noncomputable def g_XM_reckonP (mth : Int) (mn : Int) (mp : Int) (mw : Int) (mu : Int) (md : Int) (mo : Int) (y1 : Int → Int) (y2 : Int → Int) (y3 : Int → Int) (y4 : Int → Int) (y5 : Int → Int) (y9 : Int → Int) (y10 : Int → Int) (z1 : Int) (z2 : Int) (z3 : Int) : Int × Int :=
  f_XM_reckonP_L13 mth mn mp mw mu md mo y1 y2 y3 y4 y5 y9 y10 z1 z2 z3 (Int.toNat (8 - 0) + 1) 0 0 1
noncomputable def f_XM_reckonP : Int → Int → Int → Int → Int → Int → Int → (Int → Int) → (Int → Int) → (Int → Int) → (Int → Int) → (Int → Int) → (Int → Int) → (Int → Int) → Int → Int → Int → Int × Int := jopq g_XM_reckonP
theorem f_XM_reckonP_q : f_XM_reckonP = g_XM_reckonP := jopq_eq _
theorem f_XM_reckonP_s (mth : Int) (mn : Int) (mp : Int) (mw : Int) (mu : Int) (md : Int) (mo : Int) (y1 : Int → Int) (y2 : Int → Int) (y3 : Int → Int) (y4 : Int → Int) (y5 : Int → Int) (y9 : Int → Int) (y10 : Int → Int) (z1 : Int) (z2 : Int) (z3 : Int) : f_XM_reckonP mth mn mp mw mu md mo y1 y2 y3 y4 y5 y9 y10 z1 z2 z3 = (
    f_XM_reckonP_L13 mth mn mp mw mu md mo y1 y2 y3 y4 y5 y9 y10 z1 z2 z3 (Int.toNat (8 - 0) + 1) 0 0 1
  : Int × Int) := by rw [f_XM_reckonP_q]; rfl
set_option maxHeartbeats 4000000 in
set_option maxRecDepth 100000 in
theorem c_XM_reckonP (l : Launch) (dC : Nat → ClassId) (dI : Nat → Nat → Nat) (cA cZ : ClassId) (sz : Nat) (ma : Nat) (a0 : Nat) (a1 : Nat) (a2 : Nat) (a3 : Nat) (a4 : Nat) (a5 : Nat) (a6 : Nat) (a7 : Nat) (a8 : Nat) (a9 : Nat) (a10 : Nat) (a11 : Nat) (mth : Int) (mn : Int) (mp : Int) (mw : Int) (mu : Int) (md : Int) (mo : Int) (y1 : Int → Int) (y2 : Int → Int) (y3 : Int → Int) (y4 : Int → Int) (y5 : Int → Int) (y9 : Int → Int) (y10 : Int → Int) (z1 : Int) (z2 : Int) (z3 : Int) (hy1 : ∀ i, 0 ≤ y1 i ∧ y1 i ≤ 1) (hy2 : ∀ i, 0 ≤ y2 i ∧ y2 i ≤ 30) (hy3 : ∀ i, 0 ≤ y3 i ∧ y3 i ≤ 1) (hy4 : ∀ i, 0 ≤ y4 i ∧ y4 i ≤ 100000) (hy5 : ∀ i, 0 ≤ y5 i ∧ y5 i ≤ 100000) (hy9 : ∀ i, 0 ≤ y9 i ∧ y9 i ≤ 20) (hy10 : ∀ i, 0 ≤ y10 i ∧ y10 i ≤ 100000) (hz2 : 0 ≤ z2 ∧ z2 ≤ 3) (hz3 : z3 = 2 ∨ (1 ≤ z1 ∧ z1 ≤ 30 ∧ 0 ≤ z3 ∧ z3 ≤ 1)) : Met l yXM_reckon (Cond.code yXM_reckon cXM_reckon 5 none :: TBL) ({ frames := 5, cells := 0, slots := 0, locals := 110 } : Room) (va_Pc [.ref ma, .int (jI z1), .int (jI z2), .int (jI z3)] (jBw (dC, dI) [(cA, .int), (cZ, .boolean)] [(ma, .inr (5, [.int (jI mth), .int (jI mn), .ref a0, .int (jI mp), .int (jI mw), .ref a1, .ref a2, .ref a3, .ref a4, .ref a5, .ref a6, .ref a7, .ref a8, .ref a9, .ref a10, .long (jL mu), .long (jL md), .int (jI mo), .ref a11])), (a1, .inl (cZ, 62, .inl (jA y1))), (a2, .inl (cA, 62, .inl (jA y2))), (a3, .inl (cZ, 496, .inl (jA y3))), (a4, .inl (cA, 496, .inl (jA y4))), (a5, .inl (cA, 496, .inl (jA y5))), (a9, .inl (cA, 64, .inl (jA y9))), (a10, .inl (cA, 8, .inl (jA y10)))] sz)) (va_Qv (fun (u : Int × Int) => u = f_XM_reckonP mth mn mp mw mu md mo y1 y2 y3 y4 y5 y9 y10 z1 z2 z3 ∧ (0 ≤ u.1 ∧ u.1 ≤ 1024000000000000) ∧ (1 ≤ u.2 ∧ u.2 ≤ 25600000000)) (fun u t => jE (dC, dI) [(cA, .int), (cZ, .boolean)] [(ma, .inr (5, [.int (jI mth), .int (jI mn), .ref a0, .int (jI mp), .int (jI mw), .ref a1, .ref a2, .ref a3, .ref a4, .ref a5, .ref a6, .ref a7, .ref a8, .ref a9, .ref a10, .long (jL mu), .long (jL md), .int (jI mo), .ref a11])), (a1, .inl (cZ, 62, .inl (jA y1))), (a2, .inl (cA, 62, .inl (jA y2))), (a3, .inl (cZ, 496, .inl (jA y3))), (a4, .inl (cA, 496, .inl (jA y4))), (a5, .inl (cA, 496, .inl (jA y5))), (a9, .inl (cA, 64, .inl (jA y9))), (a10, .inl (cA, 8, .inl (jA y10)))] sz [(ma, .inr (5, [.int (jI mth), .int (jI mn), .ref a0, .int (jI mp), .int (jI mw), .ref a1, .ref a2, .ref a3, .ref a4, .ref a5, .ref a6, .ref a7, .ref a8, .ref a9, .ref a10, .long (jL u.1), .long (jL u.2), .int (jI mo), .ref a11])), (a1, .inl (cZ, 62, .inl (jA y1))), (a2, .inl (cA, 62, .inl (jA y2))), (a3, .inl (cZ, 496, .inl (jA y3))), (a4, .inl (cA, 496, .inl (jA y4))), (a5, .inl (cA, 496, .inl (jA y5))), (a9, .inl (cA, 64, .inl (jA y9))), (a10, .inl (cA, 8, .inl (jA y10)))] t) (va_A [(ma, .inr (5, [.int (jI mth), .int (jI mn), .ref a0, .int (jI mp), .int (jI mw), .ref a1, .ref a2, .ref a3, .ref a4, .ref a5, .ref a6, .ref a7, .ref a8, .ref a9, .ref a10, .long (jL mu), .long (jL md), .int (jI mo), .ref a11])), (a1, .inl (cZ, 62, .inl (jA y1))), (a2, .inl (cA, 62, .inl (jA y2))), (a3, .inl (cZ, 496, .inl (jA y3))), (a4, .inl (cA, 496, .inl (jA y4))), (a5, .inl (cA, 496, .inl (jA y5))), (a9, .inl (cA, 64, .inl (jA y9))), (a10, .inl (cA, 8, .inl (jA y10)))] sz)) 0 0 (va_A [(ma, .inr (5, [.int (jI mth), .int (jI mn), .ref a0, .int (jI mp), .int (jI mw), .ref a1, .ref a2, .ref a3, .ref a4, .ref a5, .ref a6, .ref a7, .ref a8, .ref a9, .ref a10, .long (jL mu), .long (jL md), .int (jI mo), .ref a11])), (a1, .inl (cZ, 62, .inl (jA y1))), (a2, .inl (cA, 62, .inl (jA y2))), (a3, .inl (cZ, 496, .inl (jA y3))), (a4, .inl (cA, 496, .inl (jA y4))), (a5, .inl (cA, 496, .inl (jA y5))), (a9, .inl (cA, 64, .inl (jA y9))), (a10, .inl (cA, 8, .inl (jA y10)))] sz) := by
  refine jMet (cc := cXM_reckon) (maxL := 5) (ret := none) (by decide) rfl ?_
  intro p e s m args below meth c s₁ R Q hR hQ B hml hv
  obtain ⟨rfl, hsz, hP, hK, hD0, hN⟩ := hv
  have hx := B.exec
  have hb := B.bytes
  have hr := B.returns
  have hts := atoms_spec (ws := Cond.code yXM_reckon cXM_reckon 5 none :: TBL) B.pre
  have hown : s.vm.findClass RXM = some m.cls := findClass_of_methodNamed B.named
  have hlocks := B.notSynchronized
  subst hsz
  obtain ⟨A, hAe⟩ : ∃ A, A = va_A [(ma, .inr (5, [.int (jI mth), .int (jI mn), .ref a0, .int (jI mp), .int (jI mw), .ref a1, .ref a2, .ref a3, .ref a4, .ref a5, .ref a6, .ref a7, .ref a8, .ref a9, .ref a10, .long (jL mu), .long (jL md), .int (jI mo), .ref a11])), (a1, .inl (cZ, 62, .inl (jA y1))), (a2, .inl (cA, 62, .inl (jA y2))), (a3, .inl (cZ, 496, .inl (jA y3))), (a4, .inl (cA, 496, .inl (jA y4))), (a5, .inl (cA, 496, .inl (jA y5))), (a9, .inl (cA, 64, .inl (jA y9))), (a10, .inl (cA, 8, .inl (jA y10)))] s.heap.size := ⟨_, rfl⟩
  have hD : va_D A [(ma, .inr (5, [.int (jI mth), .int (jI mn), .ref a0, .int (jI mp), .int (jI mw), .ref a1, .ref a2, .ref a3, .ref a4, .ref a5, .ref a6, .ref a7, .ref a8, .ref a9, .ref a10, .long (jL mu), .long (jL md), .int (jI mo), .ref a11])), (a1, .inl (cZ, 62, .inl (jA y1))), (a2, .inl (cA, 62, .inl (jA y2))), (a3, .inl (cZ, 496, .inl (jA y3))), (a4, .inl (cA, 496, .inl (jA y4))), (a5, .inl (cA, 496, .inl (jA y5))), (a9, .inl (cA, 64, .inl (jA y9))), (a10, .inl (cA, 8, .inl (jA y10)))] := by rw [hAe]; exact hD0.self
  have hA : ∀ q : Nat, s.heap.size ≤ q → A q := fun q h => by rw [hAe]; exact Or.inr h
  have hS : va_S A s.heap s.heap [] := va_S.rf
  have hP : va_P (dC, dI) vwCl [(ma, .inr (5, [.int (jI mth), .int (jI mn), .ref a0, .int (jI mp), .int (jI mw), .ref a1, .ref a2, .ref a3, .ref a4, .ref a5, .ref a6, .ref a7, .ref a8, .ref a9, .ref a10, .long (jL mu), .long (jL md), .int (jI mo), .ref a11])), (a1, .inl (cZ, 62, .inl (jA y1))), (a2, .inl (cA, 62, .inl (jA y2))), (a3, .inl (cZ, 496, .inl (jA y3))), (a4, .inl (cA, 496, .inl (jA y4))), (a5, .inl (cA, 496, .inl (jA y5))), (a9, .inl (cA, 64, .inl (jA y9))), (a10, .inl (cA, 8, .inl (jA y10)))] s.heap := hP
  have hl := lv_entry ([.ref ma, .int (jI z1), .int (jI z2), .int (jI z3)]) (n := 5) (Nat.le_of_ble_eq_true rfl)
  rw [lg_entry_eq]
  generalize (lg_sl ([.ref ma, .int (jI z1), .int (jI z2), .int (jI z3)]) ++ List.replicate (5 - (lg_sl ([.ref ma, .int (jI z1), .int (jI z2), .int (jI z3)])).length) Slot.unset).toArray = ls at hl ⊢
  have hl : lv_has ls 5 [(0, .ref ma), (1, .int (jI z1)), (2, .int (jI z2)), (3, .int (jI z3))] := hl
  refine lv_aload_n hx hb dXM_reckon_0 rfl (lv_at hl 0 rfl) ?_
  refine ji_lconst (z := 0) hx hb dXM_reckon_1 rfl ?_
  refine va_put (D := (dC, dI)) (ci := 5) (v := .long (jL 0)) (ty := (.long)) (C := RXM) (T := TXM) (N := 19) hx hb hts (fun w h => jmem (inXM w h)) tyXM tyXM_ok nXM hown hK hP hD hS 0 rfl rfl 15 (by decide) (hts _ (jmem tw_643)) (fun _ h9 => h9) rfl (by decide +kernel) rfl rfl (Nat.le_of_ble_eq_true rfl) dXM_reckon_2 (fun H locs hP hD hS => ?_)
  have hP : va_P (dC, dI) vwCl [(ma, .inr (5, [.int (jI mth), .int (jI mn), .ref a0, .int (jI mp), .int (jI mw), .ref a1, .ref a2, .ref a3, .ref a4, .ref a5, .ref a6, .ref a7, .ref a8, .ref a9, .ref a10, .long (jL 0), .long (jL md), .int (jI mo), .ref a11])), (a1, .inl (cZ, 62, .inl (jA y1))), (a2, .inl (cA, 62, .inl (jA y2))), (a3, .inl (cZ, 496, .inl (jA y3))), (a4, .inl (cA, 496, .inl (jA y4))), (a5, .inl (cA, 496, .inl (jA y5))), (a9, .inl (cA, 64, .inl (jA y9))), (a10, .inl (cA, 8, .inl (jA y10)))] H := hP
  have hD : va_D A [(ma, .inr (5, [.int (jI mth), .int (jI mn), .ref a0, .int (jI mp), .int (jI mw), .ref a1, .ref a2, .ref a3, .ref a4, .ref a5, .ref a6, .ref a7, .ref a8, .ref a9, .ref a10, .long (jL 0), .long (jL md), .int (jI mo), .ref a11])), (a1, .inl (cZ, 62, .inl (jA y1))), (a2, .inl (cA, 62, .inl (jA y2))), (a3, .inl (cZ, 496, .inl (jA y3))), (a4, .inl (cA, 496, .inl (jA y4))), (a5, .inl (cA, 496, .inl (jA y5))), (a9, .inl (cA, 64, .inl (jA y9))), (a10, .inl (cA, 8, .inl (jA y10)))] := hD
  refine lv_aload_n hx hb dXM_reckon_5 rfl (lv_at hl 0 rfl) ?_
  refine ji_lconst (z := 1) hx hb dXM_reckon_6 rfl ?_
  refine va_put (D := (dC, dI)) (ci := 5) (v := .long (jL 1)) (ty := (.long)) (C := RXM) (T := TXM) (N := 19) hx hb hts (fun w h => jmem (inXM w h)) tyXM tyXM_ok nXM hown hK hP hD hS 0 rfl rfl 16 (by decide) (hts _ (jmem tw_644)) (fun _ h9 => h9) rfl (by decide +kernel) rfl rfl (Nat.le_of_ble_eq_true rfl) dXM_reckon_7 (fun H locs hP hD hS => ?_)
  have hP : va_P (dC, dI) vwCl [(ma, .inr (5, [.int (jI mth), .int (jI mn), .ref a0, .int (jI mp), .int (jI mw), .ref a1, .ref a2, .ref a3, .ref a4, .ref a5, .ref a6, .ref a7, .ref a8, .ref a9, .ref a10, .long (jL 0), .long (jL 1), .int (jI mo), .ref a11])), (a1, .inl (cZ, 62, .inl (jA y1))), (a2, .inl (cA, 62, .inl (jA y2))), (a3, .inl (cZ, 496, .inl (jA y3))), (a4, .inl (cA, 496, .inl (jA y4))), (a5, .inl (cA, 496, .inl (jA y5))), (a9, .inl (cA, 64, .inl (jA y9))), (a10, .inl (cA, 8, .inl (jA y10)))] H := hP
  have hD : va_D A [(ma, .inr (5, [.int (jI mth), .int (jI mn), .ref a0, .int (jI mp), .int (jI mw), .ref a1, .ref a2, .ref a3, .ref a4, .ref a5, .ref a6, .ref a7, .ref a8, .ref a9, .ref a10, .long (jL 0), .long (jL 1), .int (jI mo), .ref a11])), (a1, .inl (cZ, 62, .inl (jA y1))), (a2, .inl (cA, 62, .inl (jA y2))), (a3, .inl (cZ, 496, .inl (jA y3))), (a4, .inl (cA, 496, .inl (jA y4))), (a5, .inl (cA, 496, .inl (jA y5))), (a9, .inl (cA, 64, .inl (jA y9))), (a10, .inl (cA, 8, .inl (jA y10)))] := hD
  refine ji_iconst hx hb dXM_reckon_10 ?_
  refine lv_istore (lv' := [(4, .int (jI 0)), (0, .ref ma), (1, .int (jI z1)), (2, .int (jI z2)), (3, .int (jI z3))]) hx hb dXM_reckon_11 hl (by decide) rfl (fun ls hl => ?_)
  have loop13 : ∀ (n9 : Nat) (e9 : Int) (u9 : Int) (d9 : Int) , 8 - e9 < (n9 : Int) → f_XM_reckonP_L13 mth mn mp mw mu md mo y1 y2 y3 y4 y5 y9 y10 z1 z2 z3 n9 e9 u9 d9 = f_XM_reckonP mth mn mp mw mu md mo y1 y2 y3 y4 y5 y9 y10 z1 z2 z3 → (0 ≤ e9 ∧ e9 ≤ 8) → (0 ≤ u9 ∧ 1 ≤ d9) → (kUD e9 u9 d9) → ∀ (H : Heap) (locs : List Loc), va_P (dC, dI) vwCl [(ma, .inr (5, [.int (jI mth), .int (jI mn), .ref a0, .int (jI mp), .int (jI mw), .ref a1, .ref a2, .ref a3, .ref a4, .ref a5, .ref a6, .ref a7, .ref a8, .ref a9, .ref a10, .long (jL u9), .long (jL d9), .int (jI mo), .ref a11])), (a1, .inl (cZ, 62, .inl (jA y1))), (a2, .inl (cA, 62, .inl (jA y2))), (a3, .inl (cZ, 496, .inl (jA y3))), (a4, .inl (cA, 496, .inl (jA y4))), (a5, .inl (cA, 496, .inl (jA y5))), (a9, .inl (cA, 64, .inl (jA y9))), (a10, .inl (cA, 8, .inl (jA y10)))] H → va_D A [(ma, .inr (5, [.int (jI mth), .int (jI mn), .ref a0, .int (jI mp), .int (jI mw), .ref a1, .ref a2, .ref a3, .ref a4, .ref a5, .ref a6, .ref a7, .ref a8, .ref a9, .ref a10, .long (jL u9), .long (jL d9), .int (jI mo), .ref a11])), (a1, .inl (cZ, 62, .inl (jA y1))), (a2, .inl (cA, 62, .inl (jA y2))), (a3, .inl (cZ, 496, .inl (jA y3))), (a4, .inl (cA, 496, .inl (jA y4))), (a5, .inl (cA, 496, .inl (jA y5))), (a9, .inl (cA, 64, .inl (jA y9))), (a10, .inl (cA, 8, .inl (jA y10)))] → va_S A s.heap H locs → ∀ ls : Array Slot, lv_has ls 5 [(4, .int (jI e9)), (0, .ref ma), (1, .int (jI z1)), (2, .int (jI z2)), (3, .int (jI z3))] → W p l e R s m ([.ref ma, .int (jI z1), .int (jI z2), .int (jI z3)] : List Value).toArray below meth c H locs 0 0 Q (F0 m 13 ls []) := by
    intro n9
    induction n9 with
    | zero =>
      intro e9 u9 d9 hm hF he9 hu9 hud
      exact absurd hm (by omega)
    | succ n9 ih13 =>
      intro e9 u9 d9 hm hF he9 hu9 hud H locs hP hD hS ls hl
      refine lv_iload hx hb dXM_reckon_13 (lv_at hl 0 rfl) ?_
      refine ji_bipush hx hb dXM_reckon_15 (by decide) ?_
      refine ji_icmp_ge (tgt := 81) hx hb dXM_reckon_17 (by decide) (by omega) (by omega) (fun c17_ => ?_) (fun c17_ => ?_)
      · have hP9 := hP.sub (ws' := [(ma, .inr (5, [.int (jI mth), .int (jI mn), .ref a0, .int (jI mp), .int (jI mw), .ref a1, .ref a2, .ref a3, .ref a4, .ref a5, .ref a6, .ref a7, .ref a8, .ref a9, .ref a10, .long (jL u9), .long (jL d9), .int (jI mo), .ref a11])), (a1, .inl (cZ, 62, .inl (jA y1))), (a2, .inl (cA, 62, .inl (jA y2))), (a3, .inl (cZ, 496, .inl (jA y3))), (a4, .inl (cA, 496, .inl (jA y4))), (a5, .inl (cA, 496, .inl (jA y5))), (a9, .inl (cA, 64, .inl (jA y9))), (a10, .inl (cA, 8, .inl (jA y10)))]) [0, 1, 2, 3, 4, 5, 6, 7] rfl
        have hD9 := hD.sub (ws' := [(ma, .inr (5, [.int (jI mth), .int (jI mn), .ref a0, .int (jI mp), .int (jI mw), .ref a1, .ref a2, .ref a3, .ref a4, .ref a5, .ref a6, .ref a7, .ref a8, .ref a9, .ref a10, .long (jL u9), .long (jL d9), .int (jI mo), .ref a11])), (a1, .inl (cZ, 62, .inl (jA y1))), (a2, .inl (cA, 62, .inl (jA y2))), (a3, .inl (cZ, 496, .inl (jA y3))), (a4, .inl (cA, 496, .inl (jA y4))), (a5, .inl (cA, 496, .inl (jA y5))), (a9, .inl (cA, 64, .inl (jA y9))), (a10, .inl (cA, 8, .inl (jA y10)))]) [0, 1, 2, 3, 4, 5, 6, 7] (by decide) rfl
        subst hAe
        subst hQ
        exact W.vret hx hb hr (fun t ht hW => ⟨⟨(u9, d9), rfl, ⟨Eq.trans (by rw [f_XM_reckonP_L13_s]; rw [if_neg (Int.not_lt.mpr c17_)]; try rfl) hF, show 0 ≤ u9 ∧ u9 ≤ 1024000000000000 from (by have h8 := kUD_8 (by omega) hud; omega), show 1 ≤ d9 ∧ d9 ≤ 25600000000 from (by have h8 := kUD_8 (by omega) hud; omega)⟩, ⟨by rw [ht]; exact hP9, va_K.moved hW.alike hK, hD9⟩⟩, hS.F ht⟩) hS.2.2 dXM_reckon_81
      · refine lv_aload_n hx hb dXM_reckon_20 rfl (lv_at hl 1 rfl) ?_
        refine lv_iload_n hx hb dXM_reckon_21 rfl (lv_at hl 4 rfl) ?_
        refine ji_iconst hx hb dXM_reckon_22 ?_
        refine ji_icmp_ne (tgt := 37) hx hb dXM_reckon_23 (by decide) (by omega) (by omega) (fun c23_ => ?_) (fun c23_ => ?_)
        · refine lv_iload_n hx hb dXM_reckon_37 rfl (lv_at hl 4 rfl) ?_
          refine ji_if_ne (tgt := 52) hx hb dXM_reckon_38 (by decide) (by omega) (fun c38_ => ?_) (fun c38_ => ?_)
          · refine lv_aload_n hx hb dXM_reckon_52 rfl (lv_at hl 1 rfl) ?_
            refine lv_iload_n hx hb dXM_reckon_53 rfl (lv_at hl 2 rfl) ?_
            refine lv_iload hx hb dXM_reckon_54 (lv_at hl 0 rfl) ?_
            refine jrVi (rest := [.ref ma]) ⟨hx, hb, hml, hown, hts⟩ (c_XM_highOfP l dC dI cA cZ ma a0 a1 a2 a3 a4 a5 a6 a7 a8 a9 a10 a11 mth mn mp mw u9 d9 mo y1 y2 y3 y5 z1 e9 (by first | assumption | omega) (by first | assumption | omega) (by first | assumption | omega) (by first | assumption | omega) (by first | assumption | omega) (by first | assumption | omega)) (cwV 2 hts (jG_V tw_787 tw_789 ts_33 tw_6 tw_790) rfl rfl rfl (by decide +kernel) (by rw [hR]; exact ⟨Nat.le_of_ble_eq_true rfl, Nat.le_of_ble_eq_true rfl⟩)) hK hP hN [0, 1, 2, 3, 5] rfl 0 5 rfl rfl rfl rfl hl.1 rfl (Nat.le_of_ble_eq_true rfl) dXM_reckon_56 (by rw [hR]; exact ⟨Nat.le_of_ble_eq_true rfl, Nat.le_of_ble_eq_true rfl⟩) ?_
            have f := f_XM_highOfP_b mth mn mp mw u9 d9 mo y1 y2 y3 y5 z1 e9 (by first | assumption | omega) (by first | assumption | omega) (by first | assumption | omega) (by first | assumption | omega) (by first | assumption | omega) (by first | assumption | omega)
            refine ji_i2l hx hb dXM_reckon_59 (by omega) ?_
            refine lv_aload_n hx hb dXM_reckon_60 rfl (lv_at hl 1 rfl) ?_
            refine va_get (D := (dC, dI)) (ci := 5) (v := .ref a9) (C := RXM) (T := TXM) (N := 19) hx hb hts (fun w h => jmem (inXM w h)) hown hK hP 0 rfl rfl 13 (by decide) (hts _ (jmem tw_641)) (fun _ h9 => h9) rfl dXM_reckon_61 ?_
            refine ji_bipush hx hb dXM_reckon_64 (by decide) ?_
            refine lv_iload_n hx hb dXM_reckon_66 rfl (lv_at hl 3 rfl) ?_
            refine ji_imul hx hb dXM_reckon_67 ?_
            refine lv_iload hx hb dXM_reckon_68 (lv_at hl 0 rfl) ?_
            refine ji_iadd hx hb dXM_reckon_70 ?_
            refine ji_iald hx hb hK hP 6 0 rfl rfl ⟨by omega, by omega⟩ (by decide) dXM_reckon_71 ?_
            have rb := hy9 ((8 * z2) + e9)
            refine jwVv (rest := []) (wr := [(a1, .inl (cZ, 62, .inl (jA y1))), (a2, .inl (cA, 62, .inl (jA y2))), (a3, .inl (cZ, 496, .inl (jA y3))), (a4, .inl (cA, 496, .inl (jA y4))), (a5, .inl (cA, 496, .inl (jA y5))), (a9, .inl (cA, 64, .inl (jA y9))), (a10, .inl (cA, 8, .inl (jA y10)))]) ⟨hx, hb, hml, hown, hts⟩ (c_XM_addsP l dC dI cA cZ _ ma a0 a1 a2 a3 a4 a5 a6 a7 a8 a9 a10 a11 mth mn mp mw u9 d9 mo (f_XM_highOfP mth mn mp mw u9 d9 mo y1 y2 y3 y5 z1 e9) (y9 ((8 * z2) + e9)) (by first | assumption | omega) (by first | assumption | omega) (kUD_u (by omega) hu9.1 hud) (kUD_d (by omega) hu9.2 hud)) (cwV 2 hts (jG_V tw_810 tw_812 ts_36 tw_6 tw_813) rfl rfl rfl (by decide +kernel) (by rw [hR]; exact ⟨Nat.le_of_ble_eq_true rfl, Nat.le_of_ble_eq_true rfl⟩)) hK hP hD hS hA hN [0] [1, 2, 3, 4, 5, 6, 7] rfl rfl (by decide) (by decide) (by decide) 0 5 rfl rfl rfl rfl hl.1 rfl (Nat.le_of_ble_eq_true rfl) dXM_reckon_72 (by rw [hR]; exact ⟨Nat.le_of_ble_eq_true rfl, Nat.le_of_ble_eq_true rfl⟩) (fun u H locs hwb hP hD hS => ?_)
            obtain ⟨mu1', md1'⟩ := u
            try dsimp only at hwb
            obtain ⟨hwb, f1, f2⟩ := hwb
            have f1 : 0 ≤ mu1' ∧ mu1' ≤ 20 * u9 + 100000 * d9 := f1
            have f2 : 1 ≤ md1' ∧ md1' ≤ 20 * d9 := f2
            have hP : va_P (dC, dI) vwCl [(a1, .inl (cZ, 62, .inl (jA y1))), (a2, .inl (cA, 62, .inl (jA y2))), (a3, .inl (cZ, 496, .inl (jA y3))), (a4, .inl (cA, 496, .inl (jA y4))), (a5, .inl (cA, 496, .inl (jA y5))), (a9, .inl (cA, 64, .inl (jA y9))), (a10, .inl (cA, 8, .inl (jA y10))), (ma, .inr (5, [.int (jI mth), .int (jI mn), .ref a0, .int (jI mp), .int (jI mw), .ref a1, .ref a2, .ref a3, .ref a4, .ref a5, .ref a6, .ref a7, .ref a8, .ref a9, .ref a10, .long (jL mu1'), .long (jL md1'), .int (jI mo), .ref a11]))] H := hP
            have hD : va_D A [(a1, .inl (cZ, 62, .inl (jA y1))), (a2, .inl (cA, 62, .inl (jA y2))), (a3, .inl (cZ, 496, .inl (jA y3))), (a4, .inl (cA, 496, .inl (jA y4))), (a5, .inl (cA, 496, .inl (jA y5))), (a9, .inl (cA, 64, .inl (jA y9))), (a10, .inl (cA, 8, .inl (jA y10))), (ma, .inr (5, [.int (jI mth), .int (jI mn), .ref a0, .int (jI mp), .int (jI mw), .ref a1, .ref a2, .ref a3, .ref a4, .ref a5, .ref a6, .ref a7, .ref a8, .ref a9, .ref a10, .long (jL mu1'), .long (jL md1'), .int (jI mo), .ref a11]))] := hD
            refine ji_iinc (k := 0) (lv' := [(4, .int (jI (e9 + 1))), (0, .ref ma), (1, .int (jI z1)), (2, .int (jI z2)), (3, .int (jI z3))]) hx hb dXM_reckon_75 hl rfl (by decide) rfl (fun ls hl => ?_)
            refine lv_goto (tgt := 13) hx hb dXM_reckon_78 (by decide) ?_
            exact ih13 (e9 + 1) mu1' md1' (by omega) (Eq.trans (by rw [f_XM_reckonP_L13_s]; rw [if_pos c17_, if_neg c23_, if_neg c38_]; rw [← hwb]; try dsimp only; try rfl) hF) (by first | assumption | omega) (by first | assumption | omega) (kUD_s (by omega) hud (by omega) (by omega)) _ _ (hP.sub [7, 0, 1, 2, 3, 4, 5, 6] rfl) (hD.sub [7, 0, 1, 2, 3, 4, 5, 6] (by decide) rfl) hS ls (lv_sub hl [0, 1, 2, 3, 4] rfl)
          · refine lv_aload_n hx hb dXM_reckon_41 rfl (lv_at hl 1 rfl) ?_
            refine lv_iload_n hx hb dXM_reckon_42 rfl (lv_at hl 2 rfl) ?_
            refine lv_iload hx hb dXM_reckon_43 (lv_at hl 0 rfl) ?_
            refine jrVi (rest := [.ref ma]) ⟨hx, hb, hml, hown, hts⟩ (c_XM_lowOfP l dC dI cA cZ ma a0 a1 a2 a3 a4 a5 a6 a7 a8 a9 a10 a11 mth mn mp mw u9 d9 mo y1 y2 y3 y4 z1 e9 (by first | assumption | omega) (by first | assumption | omega) (by first | assumption | omega) (by first | assumption | omega) (by first | assumption | omega) (by first | assumption | omega)) (cwV 2 hts (jG_V tw_775 tw_777 ts_30 tw_6 tw_778) rfl rfl rfl (by decide +kernel) (by rw [hR]; exact ⟨Nat.le_of_ble_eq_true rfl, Nat.le_of_ble_eq_true rfl⟩)) hK hP hN [0, 1, 2, 3, 4] rfl 0 5 rfl rfl rfl rfl hl.1 rfl (Nat.le_of_ble_eq_true rfl) dXM_reckon_45 (by rw [hR]; exact ⟨Nat.le_of_ble_eq_true rfl, Nat.le_of_ble_eq_true rfl⟩) ?_
            have f3 := f_XM_lowOfP_b mth mn mp mw u9 d9 mo y1 y2 y3 y4 z1 e9 (by first | assumption | omega) (by first | assumption | omega) (by first | assumption | omega) (by first | assumption | omega) (by first | assumption | omega) (by first | assumption | omega)
            refine ji_i2l hx hb dXM_reckon_48 (by omega) ?_
            refine lv_goto (tgt := 60) hx hb dXM_reckon_49 (by decide) ?_
            refine lv_aload_n hx hb dXM_reckon_60 rfl (lv_at hl 1 rfl) ?_
            refine va_get (D := (dC, dI)) (ci := 5) (v := .ref a9) (C := RXM) (T := TXM) (N := 19) hx hb hts (fun w h => jmem (inXM w h)) hown hK hP 0 rfl rfl 13 (by decide) (hts _ (jmem tw_641)) (fun _ h9 => h9) rfl dXM_reckon_61 ?_
            refine ji_bipush hx hb dXM_reckon_64 (by decide) ?_
            refine lv_iload_n hx hb dXM_reckon_66 rfl (lv_at hl 3 rfl) ?_
            refine ji_imul hx hb dXM_reckon_67 ?_
            refine lv_iload hx hb dXM_reckon_68 (lv_at hl 0 rfl) ?_
            refine ji_iadd hx hb dXM_reckon_70 ?_
            refine ji_iald hx hb hK hP 6 0 rfl rfl ⟨by omega, by omega⟩ (by decide) dXM_reckon_71 ?_
            have rb4 := hy9 ((8 * z2) + e9)
            refine jwVv (rest := []) (wr := [(a1, .inl (cZ, 62, .inl (jA y1))), (a2, .inl (cA, 62, .inl (jA y2))), (a3, .inl (cZ, 496, .inl (jA y3))), (a4, .inl (cA, 496, .inl (jA y4))), (a5, .inl (cA, 496, .inl (jA y5))), (a9, .inl (cA, 64, .inl (jA y9))), (a10, .inl (cA, 8, .inl (jA y10)))]) ⟨hx, hb, hml, hown, hts⟩ (c_XM_addsP l dC dI cA cZ _ ma a0 a1 a2 a3 a4 a5 a6 a7 a8 a9 a10 a11 mth mn mp mw u9 d9 mo (f_XM_lowOfP mth mn mp mw u9 d9 mo y1 y2 y3 y4 z1 e9) (y9 ((8 * z2) + e9)) (by first | assumption | omega) (by first | assumption | omega) (kUD_u (by omega) hu9.1 hud) (kUD_d (by omega) hu9.2 hud)) (cwV 2 hts (jG_V tw_810 tw_812 ts_36 tw_6 tw_813) rfl rfl rfl (by decide +kernel) (by rw [hR]; exact ⟨Nat.le_of_ble_eq_true rfl, Nat.le_of_ble_eq_true rfl⟩)) hK hP hD hS hA hN [0] [1, 2, 3, 4, 5, 6, 7] rfl rfl (by decide) (by decide) (by decide) 0 5 rfl rfl rfl rfl hl.1 rfl (Nat.le_of_ble_eq_true rfl) dXM_reckon_72 (by rw [hR]; exact ⟨Nat.le_of_ble_eq_true rfl, Nat.le_of_ble_eq_true rfl⟩) (fun u7 H locs hwb8 hP hD hS => ?_)
            obtain ⟨mu1'5, md1'6⟩ := u7
            try dsimp only at hwb8
            obtain ⟨hwb8, f9, f10⟩ := hwb8
            have f9 : 0 ≤ mu1'5 ∧ mu1'5 ≤ 20 * u9 + 100000 * d9 := f9
            have f10 : 1 ≤ md1'6 ∧ md1'6 ≤ 20 * d9 := f10
            have hP : va_P (dC, dI) vwCl [(a1, .inl (cZ, 62, .inl (jA y1))), (a2, .inl (cA, 62, .inl (jA y2))), (a3, .inl (cZ, 496, .inl (jA y3))), (a4, .inl (cA, 496, .inl (jA y4))), (a5, .inl (cA, 496, .inl (jA y5))), (a9, .inl (cA, 64, .inl (jA y9))), (a10, .inl (cA, 8, .inl (jA y10))), (ma, .inr (5, [.int (jI mth), .int (jI mn), .ref a0, .int (jI mp), .int (jI mw), .ref a1, .ref a2, .ref a3, .ref a4, .ref a5, .ref a6, .ref a7, .ref a8, .ref a9, .ref a10, .long (jL mu1'5), .long (jL md1'6), .int (jI mo), .ref a11]))] H := hP
            have hD : va_D A [(a1, .inl (cZ, 62, .inl (jA y1))), (a2, .inl (cA, 62, .inl (jA y2))), (a3, .inl (cZ, 496, .inl (jA y3))), (a4, .inl (cA, 496, .inl (jA y4))), (a5, .inl (cA, 496, .inl (jA y5))), (a9, .inl (cA, 64, .inl (jA y9))), (a10, .inl (cA, 8, .inl (jA y10))), (ma, .inr (5, [.int (jI mth), .int (jI mn), .ref a0, .int (jI mp), .int (jI mw), .ref a1, .ref a2, .ref a3, .ref a4, .ref a5, .ref a6, .ref a7, .ref a8, .ref a9, .ref a10, .long (jL mu1'5), .long (jL md1'6), .int (jI mo), .ref a11]))] := hD
            refine ji_iinc (k := 0) (lv' := [(4, .int (jI (e9 + 1))), (0, .ref ma), (1, .int (jI z1)), (2, .int (jI z2)), (3, .int (jI z3))]) hx hb dXM_reckon_75 hl rfl (by decide) rfl (fun ls hl => ?_)
            refine lv_goto (tgt := 13) hx hb dXM_reckon_78 (by decide) ?_
            exact ih13 (e9 + 1) mu1'5 md1'6 (by omega) (Eq.trans (by rw [f_XM_reckonP_L13_s]; rw [if_pos c17_, if_neg c23_, if_pos c38_]; rw [← hwb8]; try dsimp only; try rfl) hF) (by first | assumption | omega) (by first | assumption | omega) (kUD_s (by omega) hud (by omega) (by omega)) _ _ (hP.sub [7, 0, 1, 2, 3, 4, 5, 6] rfl) (hD.sub [7, 0, 1, 2, 3, 4, 5, 6] (by decide) rfl) hS ls (lv_sub hl [0, 1, 2, 3, 4] rfl)
        · refine lv_aload_n hx hb dXM_reckon_26 rfl (lv_at hl 1 rfl) ?_
          refine va_get (D := (dC, dI)) (ci := 5) (v := .ref a10) (C := RXM) (T := TXM) (N := 19) hx hb hts (fun w h => jmem (inXM w h)) hown hK hP 0 rfl rfl 14 (by decide) (hts _ (jmem tw_642)) (fun _ h9 => h9) rfl dXM_reckon_27 ?_
          refine lv_iload hx hb dXM_reckon_30 (lv_at hl 0 rfl) ?_
          refine ji_iald hx hb hK hP 7 0 rfl rfl ⟨by omega, by omega⟩ (by decide) dXM_reckon_32 ?_
          have rb11 := hy10 e9
          refine ji_i2l hx hb dXM_reckon_33 (by omega) ?_
          refine lv_goto (tgt := 60) hx hb dXM_reckon_34 (by decide) ?_
          refine lv_aload_n hx hb dXM_reckon_60 rfl (lv_at hl 1 rfl) ?_
          refine va_get (D := (dC, dI)) (ci := 5) (v := .ref a9) (C := RXM) (T := TXM) (N := 19) hx hb hts (fun w h => jmem (inXM w h)) hown hK hP 0 rfl rfl 13 (by decide) (hts _ (jmem tw_641)) (fun _ h9 => h9) rfl dXM_reckon_61 ?_
          refine ji_bipush hx hb dXM_reckon_64 (by decide) ?_
          refine lv_iload_n hx hb dXM_reckon_66 rfl (lv_at hl 3 rfl) ?_
          refine ji_imul hx hb dXM_reckon_67 ?_
          refine lv_iload hx hb dXM_reckon_68 (lv_at hl 0 rfl) ?_
          refine ji_iadd hx hb dXM_reckon_70 ?_
          refine ji_iald hx hb hK hP 6 0 rfl rfl ⟨by omega, by omega⟩ (by decide) dXM_reckon_71 ?_
          have rb12 := hy9 ((8 * z2) + e9)
          refine jwVv (rest := []) (wr := [(a1, .inl (cZ, 62, .inl (jA y1))), (a2, .inl (cA, 62, .inl (jA y2))), (a3, .inl (cZ, 496, .inl (jA y3))), (a4, .inl (cA, 496, .inl (jA y4))), (a5, .inl (cA, 496, .inl (jA y5))), (a9, .inl (cA, 64, .inl (jA y9))), (a10, .inl (cA, 8, .inl (jA y10)))]) ⟨hx, hb, hml, hown, hts⟩ (c_XM_addsP l dC dI cA cZ _ ma a0 a1 a2 a3 a4 a5 a6 a7 a8 a9 a10 a11 mth mn mp mw u9 d9 mo (y10 e9) (y9 ((8 * z2) + e9)) (by first | assumption | omega) (by first | assumption | omega) (kUD_u (by omega) hu9.1 hud) (kUD_d (by omega) hu9.2 hud)) (cwV 2 hts (jG_V tw_810 tw_812 ts_36 tw_6 tw_813) rfl rfl rfl (by decide +kernel) (by rw [hR]; exact ⟨Nat.le_of_ble_eq_true rfl, Nat.le_of_ble_eq_true rfl⟩)) hK hP hD hS hA hN [0] [1, 2, 3, 4, 5, 6, 7] rfl rfl (by decide) (by decide) (by decide) 0 5 rfl rfl rfl rfl hl.1 rfl (Nat.le_of_ble_eq_true rfl) dXM_reckon_72 (by rw [hR]; exact ⟨Nat.le_of_ble_eq_true rfl, Nat.le_of_ble_eq_true rfl⟩) (fun u15 H locs hwb16 hP hD hS => ?_)
          obtain ⟨mu1'13, md1'14⟩ := u15
          try dsimp only at hwb16
          obtain ⟨hwb16, f17, f18⟩ := hwb16
          have f17 : 0 ≤ mu1'13 ∧ mu1'13 ≤ 20 * u9 + 100000 * d9 := f17
          have f18 : 1 ≤ md1'14 ∧ md1'14 ≤ 20 * d9 := f18
          have hP : va_P (dC, dI) vwCl [(a1, .inl (cZ, 62, .inl (jA y1))), (a2, .inl (cA, 62, .inl (jA y2))), (a3, .inl (cZ, 496, .inl (jA y3))), (a4, .inl (cA, 496, .inl (jA y4))), (a5, .inl (cA, 496, .inl (jA y5))), (a9, .inl (cA, 64, .inl (jA y9))), (a10, .inl (cA, 8, .inl (jA y10))), (ma, .inr (5, [.int (jI mth), .int (jI mn), .ref a0, .int (jI mp), .int (jI mw), .ref a1, .ref a2, .ref a3, .ref a4, .ref a5, .ref a6, .ref a7, .ref a8, .ref a9, .ref a10, .long (jL mu1'13), .long (jL md1'14), .int (jI mo), .ref a11]))] H := hP
          have hD : va_D A [(a1, .inl (cZ, 62, .inl (jA y1))), (a2, .inl (cA, 62, .inl (jA y2))), (a3, .inl (cZ, 496, .inl (jA y3))), (a4, .inl (cA, 496, .inl (jA y4))), (a5, .inl (cA, 496, .inl (jA y5))), (a9, .inl (cA, 64, .inl (jA y9))), (a10, .inl (cA, 8, .inl (jA y10))), (ma, .inr (5, [.int (jI mth), .int (jI mn), .ref a0, .int (jI mp), .int (jI mw), .ref a1, .ref a2, .ref a3, .ref a4, .ref a5, .ref a6, .ref a7, .ref a8, .ref a9, .ref a10, .long (jL mu1'13), .long (jL md1'14), .int (jI mo), .ref a11]))] := hD
          refine ji_iinc (k := 0) (lv' := [(4, .int (jI (e9 + 1))), (0, .ref ma), (1, .int (jI z1)), (2, .int (jI z2)), (3, .int (jI z3))]) hx hb dXM_reckon_75 hl rfl (by decide) rfl (fun ls hl => ?_)
          refine lv_goto (tgt := 13) hx hb dXM_reckon_78 (by decide) ?_
          exact ih13 (e9 + 1) mu1'13 md1'14 (by omega) (Eq.trans (by rw [f_XM_reckonP_L13_s]; rw [if_pos c17_, if_pos c23_]; rw [← hwb16]; try dsimp only; try rfl) hF) (by first | assumption | omega) (by first | assumption | omega) (kUD_s (by omega) hud (by omega) (by omega)) _ _ (hP.sub [7, 0, 1, 2, 3, 4, 5, 6] rfl) (hD.sub [7, 0, 1, 2, 3, 4, 5, 6] (by decide) rfl) hS ls (lv_sub hl [0, 1, 2, 3, 4] rfl)
  exact loop13 (Int.toNat (8 - 0) + 1) 0 0 1 (by omega) (Eq.trans (by rw [f_XM_reckonP_s]; try rfl) rfl) (by first | assumption | omega) (by first | assumption | omega) (kUD_0) _ _ hP hD hS ls (lv_sub hl [0, 1, 2, 3, 4] rfl)

end
section
noncomputable def g_XM_isAboveP (mth : Int) (mn : Int) (mp : Int) (mw : Int) (mu : Int) (md : Int) (mo : Int) (y1 : Int → Int) (y2 : Int → Int) (y3 : Int → Int) (y4 : Int → Int) (y5 : Int → Int) (y7 : Int → Int) (y8 : Int → Int) (y9 : Int → Int) (y10 : Int → Int) (z1 : Int) (z2 : Int) (z3 : Int) (z4 : Int) : Int × Int × Int :=
  if (y8 z3) = 0 then
    (0, mu, md)
  else
    if (f_XM_limitOfP mth mn mp mw mu md mo y1 y2 y7 z1 z3) < 0 then
      (0, mu, md)
    else
      match f_XM_reckonP mth mn mp mw mu md mo y1 y2 y3 y4 y5 y9 y10 z2 z3 z4 with
      | (mu1', md1') =>
        if ((f_XM_limitOfP mth mn mp mw mu1' md1' mo y1 y2 y7 z1 z3) * md1') < mu1' then
          (1, mu1', md1')
        else
          (0, mu1', md1')
noncomputable def f_XM_isAboveP : Int → Int → Int → Int → Int → Int → Int → (Int → Int) → (Int → Int) → (Int → Int) → (Int → Int) → (Int → Int) → (Int → Int) → (Int → Int) → (Int → Int) → (Int → Int) → Int → Int → Int → Int → Int × Int × Int := jopq g_XM_isAboveP
theorem f_XM_isAboveP_q : f_XM_isAboveP = g_XM_isAboveP := jopq_eq _
theorem f_XM_isAboveP_s (mth : Int) (mn : Int) (mp : Int) (mw : Int) (mu : Int) (md : Int) (mo : Int) (y1 : Int → Int) (y2 : Int → Int) (y3 : Int → Int) (y4 : Int → Int) (y5 : Int → Int) (y7 : Int → Int) (y8 : Int → Int) (y9 : Int → Int) (y10 : Int → Int) (z1 : Int) (z2 : Int) (z3 : Int) (z4 : Int) : f_XM_isAboveP mth mn mp mw mu md mo y1 y2 y3 y4 y5 y7 y8 y9 y10 z1 z2 z3 z4 = (
    if (y8 z3) = 0 then
      (0, mu, md)
    else
      if (f_XM_limitOfP mth mn mp mw mu md mo y1 y2 y7 z1 z3) < 0 then
        (0, mu, md)
      else
        match f_XM_reckonP mth mn mp mw mu md mo y1 y2 y3 y4 y5 y9 y10 z2 z3 z4 with
        | (mu1', md1') =>
          if ((f_XM_limitOfP mth mn mp mw mu1' md1' mo y1 y2 y7 z1 z3) * md1') < mu1' then
            (1, mu1', md1')
          else
            (0, mu1', md1')
  : Int × Int × Int) := by rw [f_XM_isAboveP_q]; rfl
set_option maxHeartbeats 4000000 in
set_option maxRecDepth 100000 in
theorem c_XM_isAboveP (l : Launch) (dC : Nat → ClassId) (dI : Nat → Nat → Nat) (cA cZ : ClassId) (sz : Nat) (ma : Nat) (a0 : Nat) (a1 : Nat) (a2 : Nat) (a3 : Nat) (a4 : Nat) (a5 : Nat) (a6 : Nat) (a7 : Nat) (a8 : Nat) (a9 : Nat) (a10 : Nat) (a11 : Nat) (mth : Int) (mn : Int) (mp : Int) (mw : Int) (mu : Int) (md : Int) (mo : Int) (y1 : Int → Int) (y2 : Int → Int) (y3 : Int → Int) (y4 : Int → Int) (y5 : Int → Int) (y7 : Int → Int) (y8 : Int → Int) (y9 : Int → Int) (y10 : Int → Int) (z1 : Int) (z2 : Int) (z3 : Int) (z4 : Int) (hy1 : ∀ i, 0 ≤ y1 i ∧ y1 i ≤ 1) (hy2 : ∀ i, 0 ≤ y2 i ∧ y2 i ≤ 30) (hy3 : ∀ i, 0 ≤ y3 i ∧ y3 i ≤ 1) (hy4 : ∀ i, 0 ≤ y4 i ∧ y4 i ≤ 100000) (hy5 : ∀ i, 0 ≤ y5 i ∧ y5 i ≤ 100000) (hy7 : ∀ i, -1 ≤ y7 i ∧ y7 i ≤ 999999) (hy8 : ∀ i, 0 ≤ y8 i ∧ y8 i ≤ 1) (hy9 : ∀ i, 0 ≤ y9 i ∧ y9 i ≤ 20) (hy10 : ∀ i, 0 ≤ y10 i ∧ y10 i ≤ 100000) (hz1 : 1 ≤ z1 ∧ z1 ≤ 30) (hz3 : 0 ≤ z3 ∧ z3 ≤ 3) (hz4 : z4 = 2 ∨ (1 ≤ z2 ∧ z2 ≤ 30 ∧ 0 ≤ z4 ∧ z4 ≤ 1)) : Met l yXM_isAbove (Cond.code yXM_isAbove cXM_isAbove 5 (some .boolean) :: TBL) ({ frames := 6, cells := 0, slots := 0, locals := 134 } : Room) (va_Pc [.ref ma, .int (jI z1), .int (jI z2), .int (jI z3), .int (jI z4)] (jBw (dC, dI) [(cA, .int), (cZ, .boolean)] [(ma, .inr (5, [.int (jI mth), .int (jI mn), .ref a0, .int (jI mp), .int (jI mw), .ref a1, .ref a2, .ref a3, .ref a4, .ref a5, .ref a6, .ref a7, .ref a8, .ref a9, .ref a10, .long (jL mu), .long (jL md), .int (jI mo), .ref a11])), (a1, .inl (cZ, 62, .inl (jA y1))), (a2, .inl (cA, 62, .inl (jA y2))), (a3, .inl (cZ, 496, .inl (jA y3))), (a4, .inl (cA, 496, .inl (jA y4))), (a5, .inl (cA, 496, .inl (jA y5))), (a7, .inl (cA, 248, .inl (jA y7))), (a8, .inl (cZ, 8, .inl (jA y8))), (a9, .inl (cA, 64, .inl (jA y9))), (a10, .inl (cA, 8, .inl (jA y10)))] sz)) (va_Qi (fun (r : Int32) (u : Int × Int × Int) => r = jI u.1 ∧ u = f_XM_isAboveP mth mn mp mw mu md mo y1 y2 y3 y4 y5 y7 y8 y9 y10 z1 z2 z3 z4 ∧ (0 ≤ u.1 ∧ u.1 ≤ 1)) (fun u t => jE (dC, dI) [(cA, .int), (cZ, .boolean)] [(ma, .inr (5, [.int (jI mth), .int (jI mn), .ref a0, .int (jI mp), .int (jI mw), .ref a1, .ref a2, .ref a3, .ref a4, .ref a5, .ref a6, .ref a7, .ref a8, .ref a9, .ref a10, .long (jL mu), .long (jL md), .int (jI mo), .ref a11])), (a1, .inl (cZ, 62, .inl (jA y1))), (a2, .inl (cA, 62, .inl (jA y2))), (a3, .inl (cZ, 496, .inl (jA y3))), (a4, .inl (cA, 496, .inl (jA y4))), (a5, .inl (cA, 496, .inl (jA y5))), (a7, .inl (cA, 248, .inl (jA y7))), (a8, .inl (cZ, 8, .inl (jA y8))), (a9, .inl (cA, 64, .inl (jA y9))), (a10, .inl (cA, 8, .inl (jA y10)))] sz [(ma, .inr (5, [.int (jI mth), .int (jI mn), .ref a0, .int (jI mp), .int (jI mw), .ref a1, .ref a2, .ref a3, .ref a4, .ref a5, .ref a6, .ref a7, .ref a8, .ref a9, .ref a10, .long (jL u.2.1), .long (jL u.2.2), .int (jI mo), .ref a11])), (a1, .inl (cZ, 62, .inl (jA y1))), (a2, .inl (cA, 62, .inl (jA y2))), (a3, .inl (cZ, 496, .inl (jA y3))), (a4, .inl (cA, 496, .inl (jA y4))), (a5, .inl (cA, 496, .inl (jA y5))), (a7, .inl (cA, 248, .inl (jA y7))), (a8, .inl (cZ, 8, .inl (jA y8))), (a9, .inl (cA, 64, .inl (jA y9))), (a10, .inl (cA, 8, .inl (jA y10)))] t) (va_A [(ma, .inr (5, [.int (jI mth), .int (jI mn), .ref a0, .int (jI mp), .int (jI mw), .ref a1, .ref a2, .ref a3, .ref a4, .ref a5, .ref a6, .ref a7, .ref a8, .ref a9, .ref a10, .long (jL mu), .long (jL md), .int (jI mo), .ref a11])), (a1, .inl (cZ, 62, .inl (jA y1))), (a2, .inl (cA, 62, .inl (jA y2))), (a3, .inl (cZ, 496, .inl (jA y3))), (a4, .inl (cA, 496, .inl (jA y4))), (a5, .inl (cA, 496, .inl (jA y5))), (a7, .inl (cA, 248, .inl (jA y7))), (a8, .inl (cZ, 8, .inl (jA y8))), (a9, .inl (cA, 64, .inl (jA y9))), (a10, .inl (cA, 8, .inl (jA y10)))] sz)) 0 0 (va_A [(ma, .inr (5, [.int (jI mth), .int (jI mn), .ref a0, .int (jI mp), .int (jI mw), .ref a1, .ref a2, .ref a3, .ref a4, .ref a5, .ref a6, .ref a7, .ref a8, .ref a9, .ref a10, .long (jL mu), .long (jL md), .int (jI mo), .ref a11])), (a1, .inl (cZ, 62, .inl (jA y1))), (a2, .inl (cA, 62, .inl (jA y2))), (a3, .inl (cZ, 496, .inl (jA y3))), (a4, .inl (cA, 496, .inl (jA y4))), (a5, .inl (cA, 496, .inl (jA y5))), (a7, .inl (cA, 248, .inl (jA y7))), (a8, .inl (cZ, 8, .inl (jA y8))), (a9, .inl (cA, 64, .inl (jA y9))), (a10, .inl (cA, 8, .inl (jA y10)))] sz) := by
  refine jMet (cc := cXM_isAbove) (maxL := 5) (ret := some .boolean) (by decide) rfl ?_
  intro p e s m args below meth c s₁ R Q hR hQ B hml hv
  obtain ⟨rfl, hsz, hP, hK, hD0, hN⟩ := hv
  have hx := B.exec
  have hb := B.bytes
  have hr := B.returns
  have hts := atoms_spec (ws := Cond.code yXM_isAbove cXM_isAbove 5 (some .boolean) :: TBL) B.pre
  have hown : s.vm.findClass RXM = some m.cls := findClass_of_methodNamed B.named
  have hlocks := B.notSynchronized
  subst hsz
  obtain ⟨A, hAe⟩ : ∃ A, A = va_A [(ma, .inr (5, [.int (jI mth), .int (jI mn), .ref a0, .int (jI mp), .int (jI mw), .ref a1, .ref a2, .ref a3, .ref a4, .ref a5, .ref a6, .ref a7, .ref a8, .ref a9, .ref a10, .long (jL mu), .long (jL md), .int (jI mo), .ref a11])), (a1, .inl (cZ, 62, .inl (jA y1))), (a2, .inl (cA, 62, .inl (jA y2))), (a3, .inl (cZ, 496, .inl (jA y3))), (a4, .inl (cA, 496, .inl (jA y4))), (a5, .inl (cA, 496, .inl (jA y5))), (a7, .inl (cA, 248, .inl (jA y7))), (a8, .inl (cZ, 8, .inl (jA y8))), (a9, .inl (cA, 64, .inl (jA y9))), (a10, .inl (cA, 8, .inl (jA y10)))] s.heap.size := ⟨_, rfl⟩
  have hD : va_D A [(ma, .inr (5, [.int (jI mth), .int (jI mn), .ref a0, .int (jI mp), .int (jI mw), .ref a1, .ref a2, .ref a3, .ref a4, .ref a5, .ref a6, .ref a7, .ref a8, .ref a9, .ref a10, .long (jL mu), .long (jL md), .int (jI mo), .ref a11])), (a1, .inl (cZ, 62, .inl (jA y1))), (a2, .inl (cA, 62, .inl (jA y2))), (a3, .inl (cZ, 496, .inl (jA y3))), (a4, .inl (cA, 496, .inl (jA y4))), (a5, .inl (cA, 496, .inl (jA y5))), (a7, .inl (cA, 248, .inl (jA y7))), (a8, .inl (cZ, 8, .inl (jA y8))), (a9, .inl (cA, 64, .inl (jA y9))), (a10, .inl (cA, 8, .inl (jA y10)))] := by rw [hAe]; exact hD0.self
  have hA : ∀ q : Nat, s.heap.size ≤ q → A q := fun q h => by rw [hAe]; exact Or.inr h
  have hS : va_S A s.heap s.heap [] := va_S.rf
  have hP : va_P (dC, dI) vwCl [(ma, .inr (5, [.int (jI mth), .int (jI mn), .ref a0, .int (jI mp), .int (jI mw), .ref a1, .ref a2, .ref a3, .ref a4, .ref a5, .ref a6, .ref a7, .ref a8, .ref a9, .ref a10, .long (jL mu), .long (jL md), .int (jI mo), .ref a11])), (a1, .inl (cZ, 62, .inl (jA y1))), (a2, .inl (cA, 62, .inl (jA y2))), (a3, .inl (cZ, 496, .inl (jA y3))), (a4, .inl (cA, 496, .inl (jA y4))), (a5, .inl (cA, 496, .inl (jA y5))), (a7, .inl (cA, 248, .inl (jA y7))), (a8, .inl (cZ, 8, .inl (jA y8))), (a9, .inl (cA, 64, .inl (jA y9))), (a10, .inl (cA, 8, .inl (jA y10)))] s.heap := hP
  have hl := lv_entry ([.ref ma, .int (jI z1), .int (jI z2), .int (jI z3), .int (jI z4)]) (n := 5) (Nat.le_of_ble_eq_true rfl)
  rw [lg_entry_eq]
  generalize (lg_sl ([.ref ma, .int (jI z1), .int (jI z2), .int (jI z3), .int (jI z4)]) ++ List.replicate (5 - (lg_sl ([.ref ma, .int (jI z1), .int (jI z2), .int (jI z3), .int (jI z4)])).length) Slot.unset).toArray = ls at hl ⊢
  have hl : lv_has ls 5 [(0, .ref ma), (1, .int (jI z1)), (2, .int (jI z2)), (3, .int (jI z3)), (4, .int (jI z4))] := hl
  refine lv_aload_n hx hb dXM_isAbove_0 rfl (lv_at hl 0 rfl) ?_
  refine va_get (D := (dC, dI)) (ci := 5) (v := .ref a8) (C := RXM) (T := TXM) (N := 19) hx hb hts (fun w h => jmem (inXM w h)) hown hK hP 0 rfl rfl 12 (by decide) (hts _ (jmem tw_640)) (fun _ h9 => h9) rfl dXM_isAbove_1 ?_
  refine lv_iload_n hx hb dXM_isAbove_4 rfl (lv_at hl 3 rfl) ?_
  refine ji_zald hx hb hK hP 7 1 rfl rfl ⟨by omega, by omega⟩ (by decide) dXM_isAbove_5 ?_
  have rb := hy8 z3
  refine ji_if_eq (tgt := 18) hx hb dXM_isAbove_6 (by decide) (by omega) (fun c6_ => ?_) (fun c6_ => ?_)
  · refine ji_iconst hx hb dXM_isAbove_18 ?_
    have hP9 := hP.sub (ws' := [(ma, .inr (5, [.int (jI mth), .int (jI mn), .ref a0, .int (jI mp), .int (jI mw), .ref a1, .ref a2, .ref a3, .ref a4, .ref a5, .ref a6, .ref a7, .ref a8, .ref a9, .ref a10, .long (jL mu), .long (jL md), .int (jI mo), .ref a11])), (a1, .inl (cZ, 62, .inl (jA y1))), (a2, .inl (cA, 62, .inl (jA y2))), (a3, .inl (cZ, 496, .inl (jA y3))), (a4, .inl (cA, 496, .inl (jA y4))), (a5, .inl (cA, 496, .inl (jA y5))), (a7, .inl (cA, 248, .inl (jA y7))), (a8, .inl (cZ, 8, .inl (jA y8))), (a9, .inl (cA, 64, .inl (jA y9))), (a10, .inl (cA, 8, .inl (jA y10)))]) [0, 1, 2, 3, 4, 5, 6, 7, 8, 9] rfl
    have hD9 := hD.sub (ws' := [(ma, .inr (5, [.int (jI mth), .int (jI mn), .ref a0, .int (jI mp), .int (jI mw), .ref a1, .ref a2, .ref a3, .ref a4, .ref a5, .ref a6, .ref a7, .ref a8, .ref a9, .ref a10, .long (jL mu), .long (jL md), .int (jI mo), .ref a11])), (a1, .inl (cZ, 62, .inl (jA y1))), (a2, .inl (cA, 62, .inl (jA y2))), (a3, .inl (cZ, 496, .inl (jA y3))), (a4, .inl (cA, 496, .inl (jA y4))), (a5, .inl (cA, 496, .inl (jA y5))), (a7, .inl (cA, 248, .inl (jA y7))), (a8, .inl (cZ, 8, .inl (jA y8))), (a9, .inl (cA, 64, .inl (jA y9))), (a10, .inl (cA, 8, .inl (jA y10)))]) [0, 1, 2, 3, 4, 5, 6, 7, 8, 9] (by decide) rfl
    subst hAe
    subst hQ
    exact W.zret (v := jI 0) hx hb hr (by first | decide | exact jz (by omega)) (fun t ht hW => ⟨⟨_, (0, mu, md), rfl, ⟨rfl, Eq.trans (by rw [f_XM_isAboveP_s]; rw [if_pos c6_]; try rfl) rfl, show 0 ≤ 0 ∧ 0 ≤ 1 from by first | assumption | omega | exact jset_b (by assumption) (by omega) | exact jset_l (by assumption) (by omega) | exact jset_l (fun _ _ => rfl) (by omega) | exact fun _ _ => rfl | exact l_trans (by assumption) (by assumption)⟩, ⟨by rw [ht]; exact hP9, va_K.moved hW.alike hK, hD9⟩⟩, hS.F ht⟩) hS.2.2 dXM_isAbove_19
  · refine lv_aload_n hx hb dXM_isAbove_9 rfl (lv_at hl 0 rfl) ?_
    refine lv_iload_n hx hb dXM_isAbove_10 rfl (lv_at hl 1 rfl) ?_
    refine lv_iload_n hx hb dXM_isAbove_11 rfl (lv_at hl 3 rfl) ?_
    refine jrVi (rest := []) ⟨hx, hb, hml, hown, hts⟩ (c_XM_limitOfP l dC dI cA cZ ma a0 a1 a2 a3 a4 a5 a6 a7 a8 a9 a10 a11 mth mn mp mw mu md mo y1 y2 y7 z1 z3 (by first | assumption | omega) (by first | assumption | omega) (by first | assumption | omega) (by first | assumption | omega) (by first | assumption | omega)) (cwV 2 hts (jG_V tw_798 tw_800 ts_34 tw_6 tw_801) rfl rfl rfl (by decide +kernel) (by rw [hR]; exact ⟨Nat.le_of_ble_eq_true rfl, Nat.le_of_ble_eq_true rfl⟩)) hK hP hN [0, 1, 2, 6] rfl 0 5 rfl rfl rfl rfl hl.1 rfl (Nat.le_of_ble_eq_true rfl) dXM_isAbove_12 (by rw [hR]; exact ⟨Nat.le_of_ble_eq_true rfl, Nat.le_of_ble_eq_true rfl⟩) ?_
    have f := f_XM_limitOfP_b mth mn mp mw mu md mo y1 y2 y7 z1 z3 (by first | assumption | omega) (by first | assumption | omega) (by first | assumption | omega) (by first | assumption | omega) (by first | assumption | omega)
    refine ji_if_ge (tgt := 20) hx hb dXM_isAbove_15 (by decide) (by omega) (fun c15_ => ?_) (fun c15_ => ?_)
    · refine lv_aload_n hx hb dXM_isAbove_20 rfl (lv_at hl 0 rfl) ?_
      refine lv_iload_n hx hb dXM_isAbove_21 rfl (lv_at hl 2 rfl) ?_
      refine lv_iload_n hx hb dXM_isAbove_22 rfl (lv_at hl 3 rfl) ?_
      refine lv_iload hx hb dXM_isAbove_23 (lv_at hl 4 rfl) ?_
      refine jwVv (rest := []) (wr := [(a7, .inl (cA, 248, .inl (jA y7))), (a8, .inl (cZ, 8, .inl (jA y8)))]) ⟨hx, hb, hml, hown, hts⟩ (c_XM_reckonP l dC dI cA cZ _ ma a0 a1 a2 a3 a4 a5 a6 a7 a8 a9 a10 a11 mth mn mp mw mu md mo y1 y2 y3 y4 y5 y9 y10 z2 z3 z4 (by first | assumption | omega) (by first | assumption | omega) (by first | assumption | omega) (by first | assumption | omega) (by first | assumption | omega) (by first | assumption | omega) (by first | assumption | omega) (by first | assumption | omega) (by first | assumption | omega)) (cwV 3 hts (jG_V tw_806 tw_808 ts_35 tw_6 tw_809) rfl rfl rfl (by decide +kernel) (by rw [hR]; exact ⟨Nat.le_of_ble_eq_true rfl, Nat.le_of_ble_eq_true rfl⟩)) hK hP hD hS hA hN [0, 1, 2, 3, 4, 5, 8, 9] [6, 7] rfl rfl (by decide) (by decide) (by decide) 0 5 rfl rfl rfl rfl hl.1 rfl (Nat.le_of_ble_eq_true rfl) dXM_isAbove_25 (by rw [hR]; exact ⟨Nat.le_of_ble_eq_true rfl, Nat.le_of_ble_eq_true rfl⟩) (fun u H locs hwb hP hD hS => ?_)
      obtain ⟨mu1', md1'⟩ := u
      try dsimp only at hwb
      obtain ⟨hwb, f1, f2⟩ := hwb
      have f1 : 0 ≤ mu1' ∧ mu1' ≤ 1024000000000000 := f1
      have f2 : 1 ≤ md1' ∧ md1' ≤ 25600000000 := f2
      have hP : va_P (dC, dI) vwCl [(a7, .inl (cA, 248, .inl (jA y7))), (a8, .inl (cZ, 8, .inl (jA y8))), (ma, .inr (5, [.int (jI mth), .int (jI mn), .ref a0, .int (jI mp), .int (jI mw), .ref a1, .ref a2, .ref a3, .ref a4, .ref a5, .ref a6, .ref a7, .ref a8, .ref a9, .ref a10, .long (jL mu1'), .long (jL md1'), .int (jI mo), .ref a11])), (a1, .inl (cZ, 62, .inl (jA y1))), (a2, .inl (cA, 62, .inl (jA y2))), (a3, .inl (cZ, 496, .inl (jA y3))), (a4, .inl (cA, 496, .inl (jA y4))), (a5, .inl (cA, 496, .inl (jA y5))), (a9, .inl (cA, 64, .inl (jA y9))), (a10, .inl (cA, 8, .inl (jA y10)))] H := hP
      have hD : va_D A [(a7, .inl (cA, 248, .inl (jA y7))), (a8, .inl (cZ, 8, .inl (jA y8))), (ma, .inr (5, [.int (jI mth), .int (jI mn), .ref a0, .int (jI mp), .int (jI mw), .ref a1, .ref a2, .ref a3, .ref a4, .ref a5, .ref a6, .ref a7, .ref a8, .ref a9, .ref a10, .long (jL mu1'), .long (jL md1'), .int (jI mo), .ref a11])), (a1, .inl (cZ, 62, .inl (jA y1))), (a2, .inl (cA, 62, .inl (jA y2))), (a3, .inl (cZ, 496, .inl (jA y3))), (a4, .inl (cA, 496, .inl (jA y4))), (a5, .inl (cA, 496, .inl (jA y5))), (a9, .inl (cA, 64, .inl (jA y9))), (a10, .inl (cA, 8, .inl (jA y10)))] := hD
      refine lv_aload_n hx hb dXM_isAbove_28 rfl (lv_at hl 0 rfl) ?_
      refine va_get (D := (dC, dI)) (ci := 5) (v := .long (jL mu1')) (C := RXM) (T := TXM) (N := 19) hx hb hts (fun w h => jmem (inXM w h)) hown hK hP 2 rfl rfl 15 (by decide) (hts _ (jmem tw_643)) (fun _ h9 => h9) rfl dXM_isAbove_29 ?_
      refine lv_aload_n hx hb dXM_isAbove_32 rfl (lv_at hl 0 rfl) ?_
      refine lv_iload_n hx hb dXM_isAbove_33 rfl (lv_at hl 1 rfl) ?_
      refine lv_iload_n hx hb dXM_isAbove_34 rfl (lv_at hl 3 rfl) ?_
      refine jrVi (rest := [.long (jL mu1')]) ⟨hx, hb, hml, hown, hts⟩ (c_XM_limitOfP l dC dI cA cZ ma a0 a1 a2 a3 a4 a5 a6 a7 a8 a9 a10 a11 mth mn mp mw mu1' md1' mo y1 y2 y7 z1 z3 (by first | assumption | omega) (by first | assumption | omega) (by first | assumption | omega) (by first | assumption | omega) (by first | assumption | omega)) (cwV 2 hts (jG_V tw_798 tw_800 ts_34 tw_6 tw_801) rfl rfl rfl (by decide +kernel) (by rw [hR]; exact ⟨Nat.le_of_ble_eq_true rfl, Nat.le_of_ble_eq_true rfl⟩)) hK hP hN [2, 3, 4, 0] rfl 2 5 rfl rfl rfl rfl hl.1 rfl (Nat.le_of_ble_eq_true rfl) dXM_isAbove_35 (by rw [hR]; exact ⟨Nat.le_of_ble_eq_true rfl, Nat.le_of_ble_eq_true rfl⟩) ?_
      have f3 := f_XM_limitOfP_b mth mn mp mw mu1' md1' mo y1 y2 y7 z1 z3 (by first | assumption | omega) (by first | assumption | omega) (by first | assumption | omega) (by first | assumption | omega) (by first | assumption | omega)
      have q8 := muld (show -1 ≤ (f_XM_limitOfP mth mn mp mw mu1' md1' mo y1 y2 y7 z1 z3) ∧ (f_XM_limitOfP mth mn mp mw mu1' md1' mo y1 y2 y7 z1 z3) ≤ 999999 by omega) (show 1 ≤ md1' ∧ md1' ≤ 25600000000 by omega)
      refine ji_i2l hx hb dXM_isAbove_38 (by omega) ?_
      refine lv_aload_n hx hb dXM_isAbove_39 rfl (lv_at hl 0 rfl) ?_
      refine va_get (D := (dC, dI)) (ci := 5) (v := .long (jL md1')) (C := RXM) (T := TXM) (N := 19) hx hb hts (fun w h => jmem (inXM w h)) hown hK hP 2 rfl rfl 16 (by decide) (hts _ (jmem tw_644)) (fun _ h9 => h9) rfl dXM_isAbove_40 ?_
      refine ji_lmul hx hb dXM_isAbove_43 ?_
      refine ji_lcmp hx hb dXM_isAbove_44 (by omega) (by omega) ?_
      refine ji_if_le (tgt := 52) hx hb dXM_isAbove_45 (by decide) (jcmp_i _ _) (fun c45_ => ?_) (fun c45_ => ?_)
      · have c45_ := jcmp_ngt.mp c45_
        refine ji_iconst hx hb dXM_isAbove_52 ?_
        have hP9 := hP.sub (ws' := [(ma, .inr (5, [.int (jI mth), .int (jI mn), .ref a0, .int (jI mp), .int (jI mw), .ref a1, .ref a2, .ref a3, .ref a4, .ref a5, .ref a6, .ref a7, .ref a8, .ref a9, .ref a10, .long (jL mu1'), .long (jL md1'), .int (jI mo), .ref a11])), (a1, .inl (cZ, 62, .inl (jA y1))), (a2, .inl (cA, 62, .inl (jA y2))), (a3, .inl (cZ, 496, .inl (jA y3))), (a4, .inl (cA, 496, .inl (jA y4))), (a5, .inl (cA, 496, .inl (jA y5))), (a7, .inl (cA, 248, .inl (jA y7))), (a8, .inl (cZ, 8, .inl (jA y8))), (a9, .inl (cA, 64, .inl (jA y9))), (a10, .inl (cA, 8, .inl (jA y10)))]) [2, 3, 4, 5, 6, 7, 0, 1, 8, 9] rfl
        have hD9 := hD.sub (ws' := [(ma, .inr (5, [.int (jI mth), .int (jI mn), .ref a0, .int (jI mp), .int (jI mw), .ref a1, .ref a2, .ref a3, .ref a4, .ref a5, .ref a6, .ref a7, .ref a8, .ref a9, .ref a10, .long (jL mu1'), .long (jL md1'), .int (jI mo), .ref a11])), (a1, .inl (cZ, 62, .inl (jA y1))), (a2, .inl (cA, 62, .inl (jA y2))), (a3, .inl (cZ, 496, .inl (jA y3))), (a4, .inl (cA, 496, .inl (jA y4))), (a5, .inl (cA, 496, .inl (jA y5))), (a7, .inl (cA, 248, .inl (jA y7))), (a8, .inl (cZ, 8, .inl (jA y8))), (a9, .inl (cA, 64, .inl (jA y9))), (a10, .inl (cA, 8, .inl (jA y10)))]) [2, 3, 4, 5, 6, 7, 0, 1, 8, 9] (by decide) rfl
        subst hAe
        subst hQ
        exact W.zret (v := jI 0) hx hb hr (by first | decide | exact jz (by omega)) (fun t ht hW => ⟨⟨_, (0, mu1', md1'), rfl, ⟨rfl, Eq.trans (by rw [f_XM_isAboveP_s]; rw [if_neg c6_, if_neg (Int.not_lt.mpr c15_)]; rw [← hwb]; try dsimp only; rw [if_neg (Int.not_lt.mpr c45_)]; try rfl) rfl, show 0 ≤ 0 ∧ 0 ≤ 1 from by first | assumption | omega | exact jset_b (by assumption) (by omega) | exact jset_l (by assumption) (by omega) | exact jset_l (fun _ _ => rfl) (by omega) | exact fun _ _ => rfl | exact l_trans (by assumption) (by assumption)⟩, ⟨by rw [ht]; exact hP9, va_K.moved hW.alike hK, hD9⟩⟩, hS.F ht⟩) hS.2.2 dXM_isAbove_53
      · have c45_ := jcmp_gt.mp c45_
        refine ji_iconst hx hb dXM_isAbove_48 ?_
        refine lv_goto (tgt := 53) hx hb dXM_isAbove_49 (by decide) ?_
        have hP9 := hP.sub (ws' := [(ma, .inr (5, [.int (jI mth), .int (jI mn), .ref a0, .int (jI mp), .int (jI mw), .ref a1, .ref a2, .ref a3, .ref a4, .ref a5, .ref a6, .ref a7, .ref a8, .ref a9, .ref a10, .long (jL mu1'), .long (jL md1'), .int (jI mo), .ref a11])), (a1, .inl (cZ, 62, .inl (jA y1))), (a2, .inl (cA, 62, .inl (jA y2))), (a3, .inl (cZ, 496, .inl (jA y3))), (a4, .inl (cA, 496, .inl (jA y4))), (a5, .inl (cA, 496, .inl (jA y5))), (a7, .inl (cA, 248, .inl (jA y7))), (a8, .inl (cZ, 8, .inl (jA y8))), (a9, .inl (cA, 64, .inl (jA y9))), (a10, .inl (cA, 8, .inl (jA y10)))]) [2, 3, 4, 5, 6, 7, 0, 1, 8, 9] rfl
        have hD9 := hD.sub (ws' := [(ma, .inr (5, [.int (jI mth), .int (jI mn), .ref a0, .int (jI mp), .int (jI mw), .ref a1, .ref a2, .ref a3, .ref a4, .ref a5, .ref a6, .ref a7, .ref a8, .ref a9, .ref a10, .long (jL mu1'), .long (jL md1'), .int (jI mo), .ref a11])), (a1, .inl (cZ, 62, .inl (jA y1))), (a2, .inl (cA, 62, .inl (jA y2))), (a3, .inl (cZ, 496, .inl (jA y3))), (a4, .inl (cA, 496, .inl (jA y4))), (a5, .inl (cA, 496, .inl (jA y5))), (a7, .inl (cA, 248, .inl (jA y7))), (a8, .inl (cZ, 8, .inl (jA y8))), (a9, .inl (cA, 64, .inl (jA y9))), (a10, .inl (cA, 8, .inl (jA y10)))]) [2, 3, 4, 5, 6, 7, 0, 1, 8, 9] (by decide) rfl
        subst hAe
        subst hQ
        exact W.zret (v := jI 1) hx hb hr (by first | decide | exact jz (by omega)) (fun t ht hW => ⟨⟨_, (1, mu1', md1'), rfl, ⟨rfl, Eq.trans (by rw [f_XM_isAboveP_s]; rw [if_neg c6_, if_neg (Int.not_lt.mpr c15_)]; rw [← hwb]; try dsimp only; rw [if_pos c45_]; try rfl) rfl, show 0 ≤ 1 ∧ 1 ≤ 1 from by first | assumption | omega | exact jset_b (by assumption) (by omega) | exact jset_l (by assumption) (by omega) | exact jset_l (fun _ _ => rfl) (by omega) | exact fun _ _ => rfl | exact l_trans (by assumption) (by assumption)⟩, ⟨by rw [ht]; exact hP9, va_K.moved hW.alike hK, hD9⟩⟩, hS.F ht⟩) hS.2.2 dXM_isAbove_53
    · refine ji_iconst hx hb dXM_isAbove_18 ?_
      have hP9 := hP.sub (ws' := [(ma, .inr (5, [.int (jI mth), .int (jI mn), .ref a0, .int (jI mp), .int (jI mw), .ref a1, .ref a2, .ref a3, .ref a4, .ref a5, .ref a6, .ref a7, .ref a8, .ref a9, .ref a10, .long (jL mu), .long (jL md), .int (jI mo), .ref a11])), (a1, .inl (cZ, 62, .inl (jA y1))), (a2, .inl (cA, 62, .inl (jA y2))), (a3, .inl (cZ, 496, .inl (jA y3))), (a4, .inl (cA, 496, .inl (jA y4))), (a5, .inl (cA, 496, .inl (jA y5))), (a7, .inl (cA, 248, .inl (jA y7))), (a8, .inl (cZ, 8, .inl (jA y8))), (a9, .inl (cA, 64, .inl (jA y9))), (a10, .inl (cA, 8, .inl (jA y10)))]) [0, 1, 2, 3, 4, 5, 6, 7, 8, 9] rfl
      have hD9 := hD.sub (ws' := [(ma, .inr (5, [.int (jI mth), .int (jI mn), .ref a0, .int (jI mp), .int (jI mw), .ref a1, .ref a2, .ref a3, .ref a4, .ref a5, .ref a6, .ref a7, .ref a8, .ref a9, .ref a10, .long (jL mu), .long (jL md), .int (jI mo), .ref a11])), (a1, .inl (cZ, 62, .inl (jA y1))), (a2, .inl (cA, 62, .inl (jA y2))), (a3, .inl (cZ, 496, .inl (jA y3))), (a4, .inl (cA, 496, .inl (jA y4))), (a5, .inl (cA, 496, .inl (jA y5))), (a7, .inl (cA, 248, .inl (jA y7))), (a8, .inl (cZ, 8, .inl (jA y8))), (a9, .inl (cA, 64, .inl (jA y9))), (a10, .inl (cA, 8, .inl (jA y10)))]) [0, 1, 2, 3, 4, 5, 6, 7, 8, 9] (by decide) rfl
      subst hAe
      subst hQ
      exact W.zret (v := jI 0) hx hb hr (by first | decide | exact jz (by omega)) (fun t ht hW => ⟨⟨_, (0, mu, md), rfl, ⟨rfl, Eq.trans (by rw [f_XM_isAboveP_s]; rw [if_neg c6_, if_pos c15_]; try rfl) rfl, show 0 ≤ 0 ∧ 0 ≤ 1 from by first | assumption | omega | exact jset_b (by assumption) (by omega) | exact jset_l (by assumption) (by omega) | exact jset_l (fun _ _ => rfl) (by omega) | exact fun _ _ => rfl | exact l_trans (by assumption) (by assumption)⟩, ⟨by rw [ht]; exact hP9, va_K.moved hW.alike hK, hD9⟩⟩, hS.F ht⟩) hS.2.2 dXM_isAbove_19
noncomputable def g_XM_equivalentP_J63 (mth : Int) (mn : Int) (mp : Int) (mw : Int) (mu : Int) (md : Int) (mo : Int) (y1 : Int → Int) (y2 : Int → Int) (y3 : Int → Int) (y4 : Int → Int) (y5 : Int → Int) (y8 : Int → Int) (y9 : Int → Int) (y10 : Int → Int) (z1 : Int) (z2 : Int) (z3 : Int) (z4 : Int) (jc : Int) (jd : Int) : Int × Int × Int × Int :=
  match f_XM_goesP mth mn mp mw mu md mo jc jd with
  | (r, mth1') =>
    if r = 0 then
      (0, mth1', mu, md)
    else
      match f_XM_reckonP mth1' mn mp mw mu md mo y1 y2 y3 y4 y5 y9 y10 z1 z2 z3 with
      | (mu1', md1') =>
        if z4 = 0 then
          (mu1', mth1', mu1', md1')
        else
          (md1', mth1', mu1', md1')
noncomputable def f_XM_equivalentP_J63 : Int → Int → Int → Int → Int → Int → Int → (Int → Int) → (Int → Int) → (Int → Int) → (Int → Int) → (Int → Int) → (Int → Int) → (Int → Int) → (Int → Int) → Int → Int → Int → Int → Int → Int → Int × Int × Int × Int := jopq g_XM_equivalentP_J63
theorem f_XM_equivalentP_J63_q : f_XM_equivalentP_J63 = g_XM_equivalentP_J63 := jopq_eq _
theorem f_XM_equivalentP_J63_s (mth : Int) (mn : Int) (mp : Int) (mw : Int) (mu : Int) (md : Int) (mo : Int) (y1 : Int → Int) (y2 : Int → Int) (y3 : Int → Int) (y4 : Int → Int) (y5 : Int → Int) (y8 : Int → Int) (y9 : Int → Int) (y10 : Int → Int) (z1 : Int) (z2 : Int) (z3 : Int) (z4 : Int) (jc : Int) (jd : Int) : f_XM_equivalentP_J63 mth mn mp mw mu md mo y1 y2 y3 y4 y5 y8 y9 y10 z1 z2 z3 z4 jc jd = (
    match f_XM_goesP mth mn mp mw mu md mo jc jd with
    | (r, mth1') =>
      if r = 0 then
        (0, mth1', mu, md)
      else
        match f_XM_reckonP mth1' mn mp mw mu md mo y1 y2 y3 y4 y5 y9 y10 z1 z2 z3 with
        | (mu1', md1') =>
          if z4 = 0 then
            (mu1', mth1', mu1', md1')
          else
            (md1', mth1', mu1', md1')
  : Int × Int × Int × Int) := by rw [f_XM_equivalentP_J63_q]; rfl
noncomputable def g_XM_equivalentP_J39 (mth : Int) (mn : Int) (mp : Int) (mw : Int) (mu : Int) (md : Int) (mo : Int) (y1 : Int → Int) (y2 : Int → Int) (y3 : Int → Int) (y4 : Int → Int) (y5 : Int → Int) (y8 : Int → Int) (y9 : Int → Int) (y10 : Int → Int) (z1 : Int) (z2 : Int) (z3 : Int) (z4 : Int) (jc : Int) : Int × Int × Int × Int :=
  if jc = 0 then
    f_XM_equivalentP_J63 mth mn mp mw mu md mo y1 y2 y3 y4 y5 y8 y9 y10 z1 z2 z3 z4 jc 0
  else
    if (y8 z2) = 0 then
      f_XM_equivalentP_J63 mth mn mp mw mu md mo y1 y2 y3 y4 y5 y8 y9 y10 z1 z2 z3 z4 jc 0
    else
      f_XM_equivalentP_J63 mth mn mp mw mu md mo y1 y2 y3 y4 y5 y8 y9 y10 z1 z2 z3 z4 jc 1
noncomputable def f_XM_equivalentP_J39 : Int → Int → Int → Int → Int → Int → Int → (Int → Int) → (Int → Int) → (Int → Int) → (Int → Int) → (Int → Int) → (Int → Int) → (Int → Int) → (Int → Int) → Int → Int → Int → Int → Int → Int × Int × Int × Int := jopq g_XM_equivalentP_J39
theorem f_XM_equivalentP_J39_q : f_XM_equivalentP_J39 = g_XM_equivalentP_J39 := jopq_eq _
theorem f_XM_equivalentP_J39_s (mth : Int) (mn : Int) (mp : Int) (mw : Int) (mu : Int) (md : Int) (mo : Int) (y1 : Int → Int) (y2 : Int → Int) (y3 : Int → Int) (y4 : Int → Int) (y5 : Int → Int) (y8 : Int → Int) (y9 : Int → Int) (y10 : Int → Int) (z1 : Int) (z2 : Int) (z3 : Int) (z4 : Int) (jc : Int) : f_XM_equivalentP_J39 mth mn mp mw mu md mo y1 y2 y3 y4 y5 y8 y9 y10 z1 z2 z3 z4 jc = (
    if jc = 0 then
      f_XM_equivalentP_J63 mth mn mp mw mu md mo y1 y2 y3 y4 y5 y8 y9 y10 z1 z2 z3 z4 jc 0
    else
      if (y8 z2) = 0 then
        f_XM_equivalentP_J63 mth mn mp mw mu md mo y1 y2 y3 y4 y5 y8 y9 y10 z1 z2 z3 z4 jc 0
      else
        f_XM_equivalentP_J63 mth mn mp mw mu md mo y1 y2 y3 y4 y5 y8 y9 y10 z1 z2 z3 z4 jc 1
  : Int × Int × Int × Int) := by rw [f_XM_equivalentP_J39_q]; rfl
noncomputable def g_XM_equivalentP (mth : Int) (mn : Int) (mp : Int) (mw : Int) (mu : Int) (md : Int) (mo : Int) (y1 : Int → Int) (y2 : Int → Int) (y3 : Int → Int) (y4 : Int → Int) (y5 : Int → Int) (y8 : Int → Int) (y9 : Int → Int) (y10 : Int → Int) (z1 : Int) (z2 : Int) (z3 : Int) (z4 : Int) : Int × Int × Int × Int :=
  if (f_XM_isTold mth mn mp mw mu md mo y1 z1) = 0 then
    f_XM_equivalentP_J39 mth mn mp mw mu md mo y1 y2 y3 y4 y5 y8 y9 y10 z1 z2 z3 z4 0
  else
    if (f_XM_isKind z2) = 0 then
      f_XM_equivalentP_J39 mth mn mp mw mu md mo y1 y2 y3 y4 y5 y8 y9 y10 z1 z2 z3 z4 0
    else
      if (f_XM_in z3 0 1) = 0 then
        f_XM_equivalentP_J39 mth mn mp mw mu md mo y1 y2 y3 y4 y5 y8 y9 y10 z1 z2 z3 z4 0
      else
        if (f_XM_in z4 0 1) = 0 then
          f_XM_equivalentP_J39 mth mn mp mw mu md mo y1 y2 y3 y4 y5 y8 y9 y10 z1 z2 z3 z4 0
        else
          f_XM_equivalentP_J39 mth mn mp mw mu md mo y1 y2 y3 y4 y5 y8 y9 y10 z1 z2 z3 z4 1
noncomputable def f_XM_equivalentP : Int → Int → Int → Int → Int → Int → Int → (Int → Int) → (Int → Int) → (Int → Int) → (Int → Int) → (Int → Int) → (Int → Int) → (Int → Int) → (Int → Int) → Int → Int → Int → Int → Int × Int × Int × Int := jopq g_XM_equivalentP
theorem f_XM_equivalentP_q : f_XM_equivalentP = g_XM_equivalentP := jopq_eq _
theorem f_XM_equivalentP_s (mth : Int) (mn : Int) (mp : Int) (mw : Int) (mu : Int) (md : Int) (mo : Int) (y1 : Int → Int) (y2 : Int → Int) (y3 : Int → Int) (y4 : Int → Int) (y5 : Int → Int) (y8 : Int → Int) (y9 : Int → Int) (y10 : Int → Int) (z1 : Int) (z2 : Int) (z3 : Int) (z4 : Int) : f_XM_equivalentP mth mn mp mw mu md mo y1 y2 y3 y4 y5 y8 y9 y10 z1 z2 z3 z4 = (
    if (f_XM_isTold mth mn mp mw mu md mo y1 z1) = 0 then
      f_XM_equivalentP_J39 mth mn mp mw mu md mo y1 y2 y3 y4 y5 y8 y9 y10 z1 z2 z3 z4 0
    else
      if (f_XM_isKind z2) = 0 then
        f_XM_equivalentP_J39 mth mn mp mw mu md mo y1 y2 y3 y4 y5 y8 y9 y10 z1 z2 z3 z4 0
      else
        if (f_XM_in z3 0 1) = 0 then
          f_XM_equivalentP_J39 mth mn mp mw mu md mo y1 y2 y3 y4 y5 y8 y9 y10 z1 z2 z3 z4 0
        else
          if (f_XM_in z4 0 1) = 0 then
            f_XM_equivalentP_J39 mth mn mp mw mu md mo y1 y2 y3 y4 y5 y8 y9 y10 z1 z2 z3 z4 0
          else
            f_XM_equivalentP_J39 mth mn mp mw mu md mo y1 y2 y3 y4 y5 y8 y9 y10 z1 z2 z3 z4 1
  : Int × Int × Int × Int) := by rw [f_XM_equivalentP_q]; rfl
set_option maxHeartbeats 4000000 in
set_option maxRecDepth 100000 in
theorem c_XM_equivalentP (l : Launch) (dC : Nat → ClassId) (dI : Nat → Nat → Nat) (cA cZ : ClassId) (sz : Nat) (ma : Nat) (a0 : Nat) (a1 : Nat) (a2 : Nat) (a3 : Nat) (a4 : Nat) (a5 : Nat) (a6 : Nat) (a7 : Nat) (a8 : Nat) (a9 : Nat) (a10 : Nat) (a11 : Nat) (mth : Int) (mn : Int) (mp : Int) (mw : Int) (mu : Int) (md : Int) (mo : Int) (y1 : Int → Int) (y2 : Int → Int) (y3 : Int → Int) (y4 : Int → Int) (y5 : Int → Int) (y8 : Int → Int) (y9 : Int → Int) (y10 : Int → Int) (z1 : Int) (z2 : Int) (z3 : Int) (z4 : Int) (hy1 : ∀ i, 0 ≤ y1 i ∧ y1 i ≤ 1) (hy2 : ∀ i, 0 ≤ y2 i ∧ y2 i ≤ 30) (hy3 : ∀ i, 0 ≤ y3 i ∧ y3 i ≤ 1) (hy4 : ∀ i, 0 ≤ y4 i ∧ y4 i ≤ 100000) (hy5 : ∀ i, 0 ≤ y5 i ∧ y5 i ≤ 100000) (hy8 : ∀ i, 0 ≤ y8 i ∧ y8 i ≤ 1) (hy9 : ∀ i, 0 ≤ y9 i ∧ y9 i ≤ 20) (hy10 : ∀ i, 0 ≤ y10 i ∧ y10 i ≤ 100000) (hiz1 : i32 z1) (hiz2 : i32 z2) (hiz3 : i32 z3) (hiz4 : i32 z4) : Met l yXM_equivalent (Cond.code yXM_equivalent cXM_equivalent 6 (some .long) :: TBL) ({ frames := 6, cells := 0, slots := 0, locals := 134 } : Room) (va_Pc [.ref ma, .int (jI z1), .int (jI z2), .int (jI z3), .int (jI z4)] (jBw (dC, dI) [(cA, .int), (cZ, .boolean)] [(ma, .inr (5, [.int (jI mth), .int (jI mn), .ref a0, .int (jI mp), .int (jI mw), .ref a1, .ref a2, .ref a3, .ref a4, .ref a5, .ref a6, .ref a7, .ref a8, .ref a9, .ref a10, .long (jL mu), .long (jL md), .int (jI mo), .ref a11])), (a1, .inl (cZ, 62, .inl (jA y1))), (a2, .inl (cA, 62, .inl (jA y2))), (a3, .inl (cZ, 496, .inl (jA y3))), (a4, .inl (cA, 496, .inl (jA y4))), (a5, .inl (cA, 496, .inl (jA y5))), (a8, .inl (cZ, 8, .inl (jA y8))), (a9, .inl (cA, 64, .inl (jA y9))), (a10, .inl (cA, 8, .inl (jA y10)))] sz)) (va_Ql (fun (r : Int64) (u : Int × Int × Int × Int) => r = jL u.1 ∧ u = f_XM_equivalentP mth mn mp mw mu md mo y1 y2 y3 y4 y5 y8 y9 y10 z1 z2 z3 z4 ∧ (0 ≤ u.2.1 ∧ u.2.1 ≤ 2) ∧ (0 ≤ u.1 ∧ u.1 ≤ 1024000000000000)) (fun u t => jE (dC, dI) [(cA, .int), (cZ, .boolean)] [(ma, .inr (5, [.int (jI mth), .int (jI mn), .ref a0, .int (jI mp), .int (jI mw), .ref a1, .ref a2, .ref a3, .ref a4, .ref a5, .ref a6, .ref a7, .ref a8, .ref a9, .ref a10, .long (jL mu), .long (jL md), .int (jI mo), .ref a11])), (a1, .inl (cZ, 62, .inl (jA y1))), (a2, .inl (cA, 62, .inl (jA y2))), (a3, .inl (cZ, 496, .inl (jA y3))), (a4, .inl (cA, 496, .inl (jA y4))), (a5, .inl (cA, 496, .inl (jA y5))), (a8, .inl (cZ, 8, .inl (jA y8))), (a9, .inl (cA, 64, .inl (jA y9))), (a10, .inl (cA, 8, .inl (jA y10)))] sz [(ma, .inr (5, [.int (jI u.2.1), .int (jI mn), .ref a0, .int (jI mp), .int (jI mw), .ref a1, .ref a2, .ref a3, .ref a4, .ref a5, .ref a6, .ref a7, .ref a8, .ref a9, .ref a10, .long (jL u.2.2.1), .long (jL u.2.2.2), .int (jI mo), .ref a11])), (a1, .inl (cZ, 62, .inl (jA y1))), (a2, .inl (cA, 62, .inl (jA y2))), (a3, .inl (cZ, 496, .inl (jA y3))), (a4, .inl (cA, 496, .inl (jA y4))), (a5, .inl (cA, 496, .inl (jA y5))), (a8, .inl (cZ, 8, .inl (jA y8))), (a9, .inl (cA, 64, .inl (jA y9))), (a10, .inl (cA, 8, .inl (jA y10)))] t) (va_A [(ma, .inr (5, [.int (jI mth), .int (jI mn), .ref a0, .int (jI mp), .int (jI mw), .ref a1, .ref a2, .ref a3, .ref a4, .ref a5, .ref a6, .ref a7, .ref a8, .ref a9, .ref a10, .long (jL mu), .long (jL md), .int (jI mo), .ref a11])), (a1, .inl (cZ, 62, .inl (jA y1))), (a2, .inl (cA, 62, .inl (jA y2))), (a3, .inl (cZ, 496, .inl (jA y3))), (a4, .inl (cA, 496, .inl (jA y4))), (a5, .inl (cA, 496, .inl (jA y5))), (a8, .inl (cZ, 8, .inl (jA y8))), (a9, .inl (cA, 64, .inl (jA y9))), (a10, .inl (cA, 8, .inl (jA y10)))] sz)) 0 0 (va_A [(ma, .inr (5, [.int (jI mth), .int (jI mn), .ref a0, .int (jI mp), .int (jI mw), .ref a1, .ref a2, .ref a3, .ref a4, .ref a5, .ref a6, .ref a7, .ref a8, .ref a9, .ref a10, .long (jL mu), .long (jL md), .int (jI mo), .ref a11])), (a1, .inl (cZ, 62, .inl (jA y1))), (a2, .inl (cA, 62, .inl (jA y2))), (a3, .inl (cZ, 496, .inl (jA y3))), (a4, .inl (cA, 496, .inl (jA y4))), (a5, .inl (cA, 496, .inl (jA y5))), (a8, .inl (cZ, 8, .inl (jA y8))), (a9, .inl (cA, 64, .inl (jA y9))), (a10, .inl (cA, 8, .inl (jA y10)))] sz) := by
  refine jMet (cc := cXM_equivalent) (maxL := 6) (ret := some .long) (by decide) rfl ?_
  intro p e s m args below meth c s₁ R Q hR hQ B hml hv
  obtain ⟨rfl, hsz, hP, hK, hD0, hN⟩ := hv
  have hx := B.exec
  have hb := B.bytes
  have hr := B.returns
  have hts := atoms_spec (ws := Cond.code yXM_equivalent cXM_equivalent 6 (some .long) :: TBL) B.pre
  have hown : s.vm.findClass RXM = some m.cls := findClass_of_methodNamed B.named
  have hlocks := B.notSynchronized
  subst hsz
  obtain ⟨A, hAe⟩ : ∃ A, A = va_A [(ma, .inr (5, [.int (jI mth), .int (jI mn), .ref a0, .int (jI mp), .int (jI mw), .ref a1, .ref a2, .ref a3, .ref a4, .ref a5, .ref a6, .ref a7, .ref a8, .ref a9, .ref a10, .long (jL mu), .long (jL md), .int (jI mo), .ref a11])), (a1, .inl (cZ, 62, .inl (jA y1))), (a2, .inl (cA, 62, .inl (jA y2))), (a3, .inl (cZ, 496, .inl (jA y3))), (a4, .inl (cA, 496, .inl (jA y4))), (a5, .inl (cA, 496, .inl (jA y5))), (a8, .inl (cZ, 8, .inl (jA y8))), (a9, .inl (cA, 64, .inl (jA y9))), (a10, .inl (cA, 8, .inl (jA y10)))] s.heap.size := ⟨_, rfl⟩
  have hD : va_D A [(ma, .inr (5, [.int (jI mth), .int (jI mn), .ref a0, .int (jI mp), .int (jI mw), .ref a1, .ref a2, .ref a3, .ref a4, .ref a5, .ref a6, .ref a7, .ref a8, .ref a9, .ref a10, .long (jL mu), .long (jL md), .int (jI mo), .ref a11])), (a1, .inl (cZ, 62, .inl (jA y1))), (a2, .inl (cA, 62, .inl (jA y2))), (a3, .inl (cZ, 496, .inl (jA y3))), (a4, .inl (cA, 496, .inl (jA y4))), (a5, .inl (cA, 496, .inl (jA y5))), (a8, .inl (cZ, 8, .inl (jA y8))), (a9, .inl (cA, 64, .inl (jA y9))), (a10, .inl (cA, 8, .inl (jA y10)))] := by rw [hAe]; exact hD0.self
  have hA : ∀ q : Nat, s.heap.size ≤ q → A q := fun q h => by rw [hAe]; exact Or.inr h
  have hS : va_S A s.heap s.heap [] := va_S.rf
  have hP : va_P (dC, dI) vwCl [(ma, .inr (5, [.int (jI mth), .int (jI mn), .ref a0, .int (jI mp), .int (jI mw), .ref a1, .ref a2, .ref a3, .ref a4, .ref a5, .ref a6, .ref a7, .ref a8, .ref a9, .ref a10, .long (jL mu), .long (jL md), .int (jI mo), .ref a11])), (a1, .inl (cZ, 62, .inl (jA y1))), (a2, .inl (cA, 62, .inl (jA y2))), (a3, .inl (cZ, 496, .inl (jA y3))), (a4, .inl (cA, 496, .inl (jA y4))), (a5, .inl (cA, 496, .inl (jA y5))), (a8, .inl (cZ, 8, .inl (jA y8))), (a9, .inl (cA, 64, .inl (jA y9))), (a10, .inl (cA, 8, .inl (jA y10)))] s.heap := hP
  have hl := lv_entry ([.ref ma, .int (jI z1), .int (jI z2), .int (jI z3), .int (jI z4)]) (n := 6) (Nat.le_of_ble_eq_true rfl)
  rw [lg_entry_eq]
  generalize (lg_sl ([.ref ma, .int (jI z1), .int (jI z2), .int (jI z3), .int (jI z4)]) ++ List.replicate (6 - (lg_sl ([.ref ma, .int (jI z1), .int (jI z2), .int (jI z3), .int (jI z4)])).length) Slot.unset).toArray = ls at hl ⊢
  have hl : lv_has ls 6 [(0, .ref ma), (1, .int (jI z1)), (2, .int (jI z2)), (3, .int (jI z3)), (4, .int (jI z4))] := hl
  have join39 : ∀ (jc : Int) , f_XM_equivalentP_J39 mth mn mp mw mu md mo y1 y2 y3 y4 y5 y8 y9 y10 z1 z2 z3 z4 jc = f_XM_equivalentP mth mn mp mw mu md mo y1 y2 y3 y4 y5 y8 y9 y10 z1 z2 z3 z4 → ((jc = 0) ∨ (jc = 1 ∧ 1 ≤ z1 ∧ z1 ≤ 30 ∧ 0 ≤ z2 ∧ z2 ≤ 3 ∧ 0 ≤ z3 ∧ z3 ≤ 1 ∧ 0 ≤ z4 ∧ z4 ≤ 1)) → ∀ (H : Heap) (locs : List Loc), va_P (dC, dI) vwCl [(ma, .inr (5, [.int (jI mth), .int (jI mn), .ref a0, .int (jI mp), .int (jI mw), .ref a1, .ref a2, .ref a3, .ref a4, .ref a5, .ref a6, .ref a7, .ref a8, .ref a9, .ref a10, .long (jL mu), .long (jL md), .int (jI mo), .ref a11])), (a1, .inl (cZ, 62, .inl (jA y1))), (a2, .inl (cA, 62, .inl (jA y2))), (a3, .inl (cZ, 496, .inl (jA y3))), (a4, .inl (cA, 496, .inl (jA y4))), (a5, .inl (cA, 496, .inl (jA y5))), (a8, .inl (cZ, 8, .inl (jA y8))), (a9, .inl (cA, 64, .inl (jA y9))), (a10, .inl (cA, 8, .inl (jA y10)))] H → va_D A [(ma, .inr (5, [.int (jI mth), .int (jI mn), .ref a0, .int (jI mp), .int (jI mw), .ref a1, .ref a2, .ref a3, .ref a4, .ref a5, .ref a6, .ref a7, .ref a8, .ref a9, .ref a10, .long (jL mu), .long (jL md), .int (jI mo), .ref a11])), (a1, .inl (cZ, 62, .inl (jA y1))), (a2, .inl (cA, 62, .inl (jA y2))), (a3, .inl (cZ, 496, .inl (jA y3))), (a4, .inl (cA, 496, .inl (jA y4))), (a5, .inl (cA, 496, .inl (jA y5))), (a8, .inl (cZ, 8, .inl (jA y8))), (a9, .inl (cA, 64, .inl (jA y9))), (a10, .inl (cA, 8, .inl (jA y10)))] → va_S A s.heap H locs → ∀ ls : Array Slot, lv_has ls 6 [(0, .ref ma), (1, .int (jI z1)), (2, .int (jI z2)), (3, .int (jI z3)), (4, .int (jI z4))] → W p l e R s m ([.ref ma, .int (jI z1), .int (jI z2), .int (jI z3), .int (jI z4)] : List Value).toArray below meth c H locs 0 0 Q (F0 m 39 ls [.int (jI jc)]) := by
    intro jc hF hjc H locs hP hD hS ls hl
    refine lv_istore (lv' := [(5, .int (jI jc)), (0, .ref ma), (1, .int (jI z1)), (2, .int (jI z2)), (3, .int (jI z3)), (4, .int (jI z4))]) hx hb dXM_equivalent_39 hl (by decide) rfl (fun ls hl => ?_)
    refine lv_aload_n hx hb dXM_equivalent_41 rfl (lv_at hl 1 rfl) ?_
    refine lv_iload hx hb dXM_equivalent_42 (lv_at hl 0 rfl) ?_
    have join63 : ∀ (jd : Int) , f_XM_equivalentP_J63 mth mn mp mw mu md mo y1 y2 y3 y4 y5 y8 y9 y10 z1 z2 z3 z4 jc jd = f_XM_equivalentP mth mn mp mw mu md mo y1 y2 y3 y4 y5 y8 y9 y10 z1 z2 z3 z4 → ((jd = 0) ∨ (jd = 1 ∧ jc = 1)) → ∀ (H : Heap) (locs : List Loc), va_P (dC, dI) vwCl [(ma, .inr (5, [.int (jI mth), .int (jI mn), .ref a0, .int (jI mp), .int (jI mw), .ref a1, .ref a2, .ref a3, .ref a4, .ref a5, .ref a6, .ref a7, .ref a8, .ref a9, .ref a10, .long (jL mu), .long (jL md), .int (jI mo), .ref a11])), (a1, .inl (cZ, 62, .inl (jA y1))), (a2, .inl (cA, 62, .inl (jA y2))), (a3, .inl (cZ, 496, .inl (jA y3))), (a4, .inl (cA, 496, .inl (jA y4))), (a5, .inl (cA, 496, .inl (jA y5))), (a8, .inl (cZ, 8, .inl (jA y8))), (a9, .inl (cA, 64, .inl (jA y9))), (a10, .inl (cA, 8, .inl (jA y10)))] H → va_D A [(ma, .inr (5, [.int (jI mth), .int (jI mn), .ref a0, .int (jI mp), .int (jI mw), .ref a1, .ref a2, .ref a3, .ref a4, .ref a5, .ref a6, .ref a7, .ref a8, .ref a9, .ref a10, .long (jL mu), .long (jL md), .int (jI mo), .ref a11])), (a1, .inl (cZ, 62, .inl (jA y1))), (a2, .inl (cA, 62, .inl (jA y2))), (a3, .inl (cZ, 496, .inl (jA y3))), (a4, .inl (cA, 496, .inl (jA y4))), (a5, .inl (cA, 496, .inl (jA y5))), (a8, .inl (cZ, 8, .inl (jA y8))), (a9, .inl (cA, 64, .inl (jA y9))), (a10, .inl (cA, 8, .inl (jA y10)))] → va_S A s.heap H locs → ∀ ls : Array Slot, lv_has ls 6 [(5, .int (jI jc)), (0, .ref ma), (1, .int (jI z1)), (2, .int (jI z2)), (3, .int (jI z3)), (4, .int (jI z4))] → W p l e R s m ([.ref ma, .int (jI z1), .int (jI z2), .int (jI z3), .int (jI z4)] : List Value).toArray below meth c H locs 0 0 Q (F0 m 63 ls [.int (jI jd), .int (jI jc), .ref ma]) := by
      intro jd hF hjd H locs hP hD hS ls hl
      refine jwVi (rest := []) (wr := [(a1, .inl (cZ, 62, .inl (jA y1))), (a2, .inl (cA, 62, .inl (jA y2))), (a3, .inl (cZ, 496, .inl (jA y3))), (a4, .inl (cA, 496, .inl (jA y4))), (a5, .inl (cA, 496, .inl (jA y5))), (a8, .inl (cZ, 8, .inl (jA y8))), (a9, .inl (cA, 64, .inl (jA y9))), (a10, .inl (cA, 8, .inl (jA y10)))]) ⟨hx, hb, hml, hown, hts⟩ (c_XM_goesP l dC dI cA cZ _ ma a0 a1 a2 a3 a4 a5 a6 a7 a8 a9 a10 a11 mth mn mp mw mu md mo jc jd (by first | assumption | omega) (by first | assumption | omega)) (cwV 2 hts (jG_V tw_698 tw_700 ts_14 tw_6 tw_701) rfl rfl rfl (by decide +kernel) (by rw [hR]; exact ⟨Nat.le_of_ble_eq_true rfl, Nat.le_of_ble_eq_true rfl⟩)) hK hP hD hS hA hN [0] [1, 2, 3, 4, 5, 6, 7, 8] rfl rfl (by decide) (by decide) (by decide) 0 5 rfl rfl rfl rfl hl.1 rfl (Nat.le_of_ble_eq_true rfl) dXM_equivalent_63 (by rw [hR]; exact ⟨Nat.le_of_ble_eq_true rfl, Nat.le_of_ble_eq_true rfl⟩) (fun v u H locs hwb hP hD hS => ?_)
      obtain ⟨r, mth1'⟩ := u
      try dsimp only at hwb
      obtain ⟨er, hwb, f⟩ := hwb
      subst er
      have f : (r = 0 ∧ mth1' = 1 ∧ jc = 0) ∨ (r = 0 ∧ mth1' = 2 ∧ jc = 1 ∧ jd = 0) ∨ (r = 1 ∧ mth1' = 0 ∧ jc = 1 ∧ jd = 1) := f
      have hP : va_P (dC, dI) vwCl [(a1, .inl (cZ, 62, .inl (jA y1))), (a2, .inl (cA, 62, .inl (jA y2))), (a3, .inl (cZ, 496, .inl (jA y3))), (a4, .inl (cA, 496, .inl (jA y4))), (a5, .inl (cA, 496, .inl (jA y5))), (a8, .inl (cZ, 8, .inl (jA y8))), (a9, .inl (cA, 64, .inl (jA y9))), (a10, .inl (cA, 8, .inl (jA y10))), (ma, .inr (5, [.int (jI mth1'), .int (jI mn), .ref a0, .int (jI mp), .int (jI mw), .ref a1, .ref a2, .ref a3, .ref a4, .ref a5, .ref a6, .ref a7, .ref a8, .ref a9, .ref a10, .long (jL mu), .long (jL md), .int (jI mo), .ref a11]))] H := hP
      have hD : va_D A [(a1, .inl (cZ, 62, .inl (jA y1))), (a2, .inl (cA, 62, .inl (jA y2))), (a3, .inl (cZ, 496, .inl (jA y3))), (a4, .inl (cA, 496, .inl (jA y4))), (a5, .inl (cA, 496, .inl (jA y5))), (a8, .inl (cZ, 8, .inl (jA y8))), (a9, .inl (cA, 64, .inl (jA y9))), (a10, .inl (cA, 8, .inl (jA y10))), (ma, .inr (5, [.int (jI mth1'), .int (jI mn), .ref a0, .int (jI mp), .int (jI mw), .ref a1, .ref a2, .ref a3, .ref a4, .ref a5, .ref a6, .ref a7, .ref a8, .ref a9, .ref a10, .long (jL mu), .long (jL md), .int (jI mo), .ref a11]))] := hD
      refine ji_if_ne (tgt := 71) hx hb dXM_equivalent_66 (by decide) (by omega) (fun c66_ => ?_) (fun c66_ => ?_)
      · refine lv_aload_n hx hb dXM_equivalent_71 rfl (lv_at hl 1 rfl) ?_
        refine lv_iload_n hx hb dXM_equivalent_72 rfl (lv_at hl 2 rfl) ?_
        refine lv_iload_n hx hb dXM_equivalent_73 rfl (lv_at hl 3 rfl) ?_
        refine lv_iload_n hx hb dXM_equivalent_74 rfl (lv_at hl 4 rfl) ?_
        refine jwVv (rest := []) (wr := [(a8, .inl (cZ, 8, .inl (jA y8)))]) ⟨hx, hb, hml, hown, hts⟩ (c_XM_reckonP l dC dI cA cZ _ ma a0 a1 a2 a3 a4 a5 a6 a7 a8 a9 a10 a11 mth1' mn mp mw mu md mo y1 y2 y3 y4 y5 y9 y10 z1 z2 z3 (by first | assumption | omega) (by first | assumption | omega) (by first | assumption | omega) (by first | assumption | omega) (by first | assumption | omega) (by first | assumption | omega) (by first | assumption | omega) (by first | assumption | omega) (by first | assumption | omega)) (cwV 3 hts (jG_V tw_806 tw_808 ts_35 tw_6 tw_809) rfl rfl rfl (by decide +kernel) (by rw [hR]; exact ⟨Nat.le_of_ble_eq_true rfl, Nat.le_of_ble_eq_true rfl⟩)) hK hP hD hS hA hN [8, 0, 1, 2, 3, 4, 6, 7] [5] rfl rfl (by decide) (by decide) (by decide) 8 5 rfl rfl rfl rfl hl.1 rfl (Nat.le_of_ble_eq_true rfl) dXM_equivalent_75 (by rw [hR]; exact ⟨Nat.le_of_ble_eq_true rfl, Nat.le_of_ble_eq_true rfl⟩) (fun u1 H locs hwb2 hP hD hS => ?_)
        obtain ⟨mu1', md1'⟩ := u1
        try dsimp only at hwb2
        obtain ⟨hwb2, f3, f4⟩ := hwb2
        have f3 : 0 ≤ mu1' ∧ mu1' ≤ 1024000000000000 := f3
        have f4 : 1 ≤ md1' ∧ md1' ≤ 25600000000 := f4
        have hP : va_P (dC, dI) vwCl [(a8, .inl (cZ, 8, .inl (jA y8))), (ma, .inr (5, [.int (jI mth1'), .int (jI mn), .ref a0, .int (jI mp), .int (jI mw), .ref a1, .ref a2, .ref a3, .ref a4, .ref a5, .ref a6, .ref a7, .ref a8, .ref a9, .ref a10, .long (jL mu1'), .long (jL md1'), .int (jI mo), .ref a11])), (a1, .inl (cZ, 62, .inl (jA y1))), (a2, .inl (cA, 62, .inl (jA y2))), (a3, .inl (cZ, 496, .inl (jA y3))), (a4, .inl (cA, 496, .inl (jA y4))), (a5, .inl (cA, 496, .inl (jA y5))), (a9, .inl (cA, 64, .inl (jA y9))), (a10, .inl (cA, 8, .inl (jA y10)))] H := hP
        have hD : va_D A [(a8, .inl (cZ, 8, .inl (jA y8))), (ma, .inr (5, [.int (jI mth1'), .int (jI mn), .ref a0, .int (jI mp), .int (jI mw), .ref a1, .ref a2, .ref a3, .ref a4, .ref a5, .ref a6, .ref a7, .ref a8, .ref a9, .ref a10, .long (jL mu1'), .long (jL md1'), .int (jI mo), .ref a11])), (a1, .inl (cZ, 62, .inl (jA y1))), (a2, .inl (cA, 62, .inl (jA y2))), (a3, .inl (cZ, 496, .inl (jA y3))), (a4, .inl (cA, 496, .inl (jA y4))), (a5, .inl (cA, 496, .inl (jA y5))), (a9, .inl (cA, 64, .inl (jA y9))), (a10, .inl (cA, 8, .inl (jA y10)))] := hD
        refine lv_iload hx hb dXM_equivalent_78 (lv_at hl 5 rfl) ?_
        refine ji_if_ne (tgt := 90) hx hb dXM_equivalent_80 (by decide) (by omega) (fun c80_ => ?_) (fun c80_ => ?_)
        · refine lv_aload_n hx hb dXM_equivalent_90 rfl (lv_at hl 1 rfl) ?_
          refine va_get (D := (dC, dI)) (ci := 5) (v := .long (jL md1')) (C := RXM) (T := TXM) (N := 19) hx hb hts (fun w h => jmem (inXM w h)) hown hK hP 1 rfl rfl 16 (by decide) (hts _ (jmem tw_644)) (fun _ h9 => h9) rfl dXM_equivalent_91 ?_
          have hP9 := hP.sub (ws' := [(ma, .inr (5, [.int (jI mth1'), .int (jI mn), .ref a0, .int (jI mp), .int (jI mw), .ref a1, .ref a2, .ref a3, .ref a4, .ref a5, .ref a6, .ref a7, .ref a8, .ref a9, .ref a10, .long (jL mu1'), .long (jL md1'), .int (jI mo), .ref a11])), (a1, .inl (cZ, 62, .inl (jA y1))), (a2, .inl (cA, 62, .inl (jA y2))), (a3, .inl (cZ, 496, .inl (jA y3))), (a4, .inl (cA, 496, .inl (jA y4))), (a5, .inl (cA, 496, .inl (jA y5))), (a8, .inl (cZ, 8, .inl (jA y8))), (a9, .inl (cA, 64, .inl (jA y9))), (a10, .inl (cA, 8, .inl (jA y10)))]) [1, 2, 3, 4, 5, 6, 0, 7, 8] rfl
          have hD9 := hD.sub (ws' := [(ma, .inr (5, [.int (jI mth1'), .int (jI mn), .ref a0, .int (jI mp), .int (jI mw), .ref a1, .ref a2, .ref a3, .ref a4, .ref a5, .ref a6, .ref a7, .ref a8, .ref a9, .ref a10, .long (jL mu1'), .long (jL md1'), .int (jI mo), .ref a11])), (a1, .inl (cZ, 62, .inl (jA y1))), (a2, .inl (cA, 62, .inl (jA y2))), (a3, .inl (cZ, 496, .inl (jA y3))), (a4, .inl (cA, 496, .inl (jA y4))), (a5, .inl (cA, 496, .inl (jA y5))), (a8, .inl (cZ, 8, .inl (jA y8))), (a9, .inl (cA, 64, .inl (jA y9))), (a10, .inl (cA, 8, .inl (jA y10)))]) [1, 2, 3, 4, 5, 6, 0, 7, 8] (by decide) rfl
          subst hAe
          subst hQ
          exact W.lret (v := jL md1') hx hb hr (fun t ht hW => ⟨⟨_, (md1', mth1', mu1', md1'), rfl, ⟨rfl, Eq.trans (by rw [f_XM_equivalentP_J63_s]; rw [← hwb]; try dsimp only; rw [if_neg c66_]; rw [← hwb2]; try dsimp only; rw [if_neg c80_]; try rfl) hF, show 0 ≤ mth1' ∧ mth1' ≤ 2 from by first | assumption | omega | exact jset_b (by assumption) (by omega) | exact jset_l (by assumption) (by omega) | exact jset_l (fun _ _ => rfl) (by omega) | exact fun _ _ => rfl | exact l_trans (by assumption) (by assumption), show 0 ≤ md1' ∧ md1' ≤ 1024000000000000 from by first | assumption | omega | exact jset_b (by assumption) (by omega) | exact jset_l (by assumption) (by omega) | exact jset_l (fun _ _ => rfl) (by omega) | exact fun _ _ => rfl | exact l_trans (by assumption) (by assumption)⟩, ⟨by rw [ht]; exact hP9, va_K.moved hW.alike hK, hD9⟩⟩, hS.F ht⟩) hS.2.2 dXM_equivalent_94
        · refine lv_aload_n hx hb dXM_equivalent_83 rfl (lv_at hl 1 rfl) ?_
          refine va_get (D := (dC, dI)) (ci := 5) (v := .long (jL mu1')) (C := RXM) (T := TXM) (N := 19) hx hb hts (fun w h => jmem (inXM w h)) hown hK hP 1 rfl rfl 15 (by decide) (hts _ (jmem tw_643)) (fun _ h9 => h9) rfl dXM_equivalent_84 ?_
          refine lv_goto (tgt := 94) hx hb dXM_equivalent_87 (by decide) ?_
          have hP9 := hP.sub (ws' := [(ma, .inr (5, [.int (jI mth1'), .int (jI mn), .ref a0, .int (jI mp), .int (jI mw), .ref a1, .ref a2, .ref a3, .ref a4, .ref a5, .ref a6, .ref a7, .ref a8, .ref a9, .ref a10, .long (jL mu1'), .long (jL md1'), .int (jI mo), .ref a11])), (a1, .inl (cZ, 62, .inl (jA y1))), (a2, .inl (cA, 62, .inl (jA y2))), (a3, .inl (cZ, 496, .inl (jA y3))), (a4, .inl (cA, 496, .inl (jA y4))), (a5, .inl (cA, 496, .inl (jA y5))), (a8, .inl (cZ, 8, .inl (jA y8))), (a9, .inl (cA, 64, .inl (jA y9))), (a10, .inl (cA, 8, .inl (jA y10)))]) [1, 2, 3, 4, 5, 6, 0, 7, 8] rfl
          have hD9 := hD.sub (ws' := [(ma, .inr (5, [.int (jI mth1'), .int (jI mn), .ref a0, .int (jI mp), .int (jI mw), .ref a1, .ref a2, .ref a3, .ref a4, .ref a5, .ref a6, .ref a7, .ref a8, .ref a9, .ref a10, .long (jL mu1'), .long (jL md1'), .int (jI mo), .ref a11])), (a1, .inl (cZ, 62, .inl (jA y1))), (a2, .inl (cA, 62, .inl (jA y2))), (a3, .inl (cZ, 496, .inl (jA y3))), (a4, .inl (cA, 496, .inl (jA y4))), (a5, .inl (cA, 496, .inl (jA y5))), (a8, .inl (cZ, 8, .inl (jA y8))), (a9, .inl (cA, 64, .inl (jA y9))), (a10, .inl (cA, 8, .inl (jA y10)))]) [1, 2, 3, 4, 5, 6, 0, 7, 8] (by decide) rfl
          subst hAe
          subst hQ
          exact W.lret (v := jL mu1') hx hb hr (fun t ht hW => ⟨⟨_, (mu1', mth1', mu1', md1'), rfl, ⟨rfl, Eq.trans (by rw [f_XM_equivalentP_J63_s]; rw [← hwb]; try dsimp only; rw [if_neg c66_]; rw [← hwb2]; try dsimp only; rw [if_pos c80_]; try rfl) hF, show 0 ≤ mth1' ∧ mth1' ≤ 2 from by first | assumption | omega | exact jset_b (by assumption) (by omega) | exact jset_l (by assumption) (by omega) | exact jset_l (fun _ _ => rfl) (by omega) | exact fun _ _ => rfl | exact l_trans (by assumption) (by assumption), show 0 ≤ mu1' ∧ mu1' ≤ 1024000000000000 from by first | assumption | omega | exact jset_b (by assumption) (by omega) | exact jset_l (by assumption) (by omega) | exact jset_l (fun _ _ => rfl) (by omega) | exact fun _ _ => rfl | exact l_trans (by assumption) (by assumption)⟩, ⟨by rw [ht]; exact hP9, va_K.moved hW.alike hK, hD9⟩⟩, hS.F ht⟩) hS.2.2 dXM_equivalent_94
      · refine ji_lconst (z := 0) hx hb dXM_equivalent_69 rfl ?_
        have hP9 := hP.sub (ws' := [(ma, .inr (5, [.int (jI mth1'), .int (jI mn), .ref a0, .int (jI mp), .int (jI mw), .ref a1, .ref a2, .ref a3, .ref a4, .ref a5, .ref a6, .ref a7, .ref a8, .ref a9, .ref a10, .long (jL mu), .long (jL md), .int (jI mo), .ref a11])), (a1, .inl (cZ, 62, .inl (jA y1))), (a2, .inl (cA, 62, .inl (jA y2))), (a3, .inl (cZ, 496, .inl (jA y3))), (a4, .inl (cA, 496, .inl (jA y4))), (a5, .inl (cA, 496, .inl (jA y5))), (a8, .inl (cZ, 8, .inl (jA y8))), (a9, .inl (cA, 64, .inl (jA y9))), (a10, .inl (cA, 8, .inl (jA y10)))]) [8, 0, 1, 2, 3, 4, 5, 6, 7] rfl
        have hD9 := hD.sub (ws' := [(ma, .inr (5, [.int (jI mth1'), .int (jI mn), .ref a0, .int (jI mp), .int (jI mw), .ref a1, .ref a2, .ref a3, .ref a4, .ref a5, .ref a6, .ref a7, .ref a8, .ref a9, .ref a10, .long (jL mu), .long (jL md), .int (jI mo), .ref a11])), (a1, .inl (cZ, 62, .inl (jA y1))), (a2, .inl (cA, 62, .inl (jA y2))), (a3, .inl (cZ, 496, .inl (jA y3))), (a4, .inl (cA, 496, .inl (jA y4))), (a5, .inl (cA, 496, .inl (jA y5))), (a8, .inl (cZ, 8, .inl (jA y8))), (a9, .inl (cA, 64, .inl (jA y9))), (a10, .inl (cA, 8, .inl (jA y10)))]) [8, 0, 1, 2, 3, 4, 5, 6, 7] (by decide) rfl
        subst hAe
        subst hQ
        exact W.lret (v := jL 0) hx hb hr (fun t ht hW => ⟨⟨_, (0, mth1', mu, md), rfl, ⟨rfl, Eq.trans (by rw [f_XM_equivalentP_J63_s]; rw [← hwb]; try dsimp only; rw [if_pos c66_]; try rfl) hF, show 0 ≤ mth1' ∧ mth1' ≤ 2 from by first | assumption | omega | exact jset_b (by assumption) (by omega) | exact jset_l (by assumption) (by omega) | exact jset_l (fun _ _ => rfl) (by omega) | exact fun _ _ => rfl | exact l_trans (by assumption) (by assumption), show 0 ≤ 0 ∧ 0 ≤ 1024000000000000 from by first | assumption | omega | exact jset_b (by assumption) (by omega) | exact jset_l (by assumption) (by omega) | exact jset_l (fun _ _ => rfl) (by omega) | exact fun _ _ => rfl | exact l_trans (by assumption) (by assumption)⟩, ⟨by rw [ht]; exact hP9, va_K.moved hW.alike hK, hD9⟩⟩, hS.F ht⟩) hS.2.2 dXM_equivalent_70
    refine lv_iload hx hb dXM_equivalent_44 (lv_at hl 0 rfl) ?_
    refine ji_if_eq (tgt := 62) hx hb dXM_equivalent_46 (by decide) (by omega) (fun c46_ => ?_) (fun c46_ => ?_)
    · refine ji_iconst hx hb dXM_equivalent_62 ?_
      exact join63 0 (Eq.trans (by rw [f_XM_equivalentP_J39_s]; rw [if_pos c46_]; try rfl) hF) (by first | assumption | omega | exact jset_b (by assumption) (by omega)) _ _ hP hD hS ls (lv_sub hl [0, 1, 2, 3, 4, 5] rfl)
    · refine lv_aload_n hx hb dXM_equivalent_49 rfl (lv_at hl 1 rfl) ?_
      refine va_get (D := (dC, dI)) (ci := 5) (v := .ref a8) (C := RXM) (T := TXM) (N := 19) hx hb hts (fun w h => jmem (inXM w h)) hown hK hP 0 rfl rfl 12 (by decide) (hts _ (jmem tw_640)) (fun _ h9 => h9) rfl dXM_equivalent_50 ?_
      refine lv_iload_n hx hb dXM_equivalent_53 rfl (lv_at hl 3 rfl) ?_
      refine ji_zald hx hb hK hP 6 1 rfl rfl ⟨by omega, by omega⟩ (by decide) dXM_equivalent_54 ?_
      have rb := hy8 z2
      refine ji_if_eq (tgt := 62) hx hb dXM_equivalent_55 (by decide) (by omega) (fun c55_ => ?_) (fun c55_ => ?_)
      · refine ji_iconst hx hb dXM_equivalent_62 ?_
        exact join63 0 (Eq.trans (by rw [f_XM_equivalentP_J39_s]; rw [if_neg c46_, if_pos c55_]; try rfl) hF) (by first | assumption | omega | exact jset_b (by assumption) (by omega)) _ _ hP hD hS ls (lv_sub hl [0, 1, 2, 3, 4, 5] rfl)
      · refine ji_iconst hx hb dXM_equivalent_58 ?_
        refine lv_goto (tgt := 63) hx hb dXM_equivalent_59 (by decide) ?_
        exact join63 1 (Eq.trans (by rw [f_XM_equivalentP_J39_s]; rw [if_neg c46_, if_neg c55_]; try rfl) hF) (by first | assumption | omega | exact jset_b (by assumption) (by omega)) _ _ hP hD hS ls (lv_sub hl [0, 1, 2, 3, 4, 5] rfl)
  refine lv_aload_n hx hb dXM_equivalent_0 rfl (lv_at hl 0 rfl) ?_
  refine lv_iload_n hx hb dXM_equivalent_1 rfl (lv_at hl 1 rfl) ?_
  refine jrVi (rest := []) ⟨hx, hb, hml, hown, hts⟩ (c_XM_isTold l dC dI cA cZ ma a0 a1 a2 a3 a4 a5 a6 a7 a8 a9 a10 a11 mth mn mp mw mu md mo y1 z1 (by first | assumption | omega) (by first | assumption | omega)) (cwV 1 hts (jG_V tw_768 tw_770 ts_29 tw_6 tw_771) rfl rfl rfl (by decide +kernel) (by rw [hR]; exact ⟨Nat.le_of_ble_eq_true rfl, Nat.le_of_ble_eq_true rfl⟩)) hK hP hN [0, 1] rfl 0 5 rfl rfl rfl rfl hl.1 rfl (Nat.le_of_ble_eq_true rfl) dXM_equivalent_2 (by rw [hR]; exact ⟨Nat.le_of_ble_eq_true rfl, Nat.le_of_ble_eq_true rfl⟩) ?_
  have f5 := f_XM_isTold_b mth mn mp mw mu md mo y1 z1 (by first | assumption | omega) (by first | assumption | omega)
  refine ji_if_eq (tgt := 38) hx hb dXM_equivalent_5 (by decide) (by omega) (fun c5_ => ?_) (fun c5_ => ?_)
  · refine ji_iconst hx hb dXM_equivalent_38 ?_
    exact join39 0 (Eq.trans (by rw [f_XM_equivalentP_s]; rw [if_pos c5_]; try rfl) rfl) (by first | assumption | omega | exact jset_b (by assumption) (by omega)) _ _ hP hD hS ls (lv_sub hl [0, 1, 2, 3, 4] rfl)
  · refine lv_iload_n hx hb dXM_equivalent_8 rfl (lv_at hl 2 rfl) ?_
    refine jrSi (rest := []) ⟨hx, hb, hml, hown, hts⟩ (c_XM_isKind l dC dI cA cZ z2 (by first | assumption | omega)) (cwS 1 hts (jG_S tw_795 tw_796 tw_6 tw_797) rfl rfl rfl (by decide +kernel) (by rw [hR]; exact ⟨Nat.le_of_ble_eq_true rfl, Nat.le_of_ble_eq_true rfl⟩)) hK hP hN [] rfl rfl hl.1 rfl (Nat.le_of_ble_eq_true rfl) dXM_equivalent_9 (by rw [hR]; exact ⟨Nat.le_of_ble_eq_true rfl, Nat.le_of_ble_eq_true rfl⟩) ?_
    have f6 := f_XM_isKind_b z2 (by first | assumption | omega)
    refine ji_if_eq (tgt := 38) hx hb dXM_equivalent_12 (by decide) (by omega) (fun c12_ => ?_) (fun c12_ => ?_)
    · refine ji_iconst hx hb dXM_equivalent_38 ?_
      exact join39 0 (Eq.trans (by rw [f_XM_equivalentP_s]; rw [if_neg c5_, if_pos c12_]; try rfl) rfl) (by first | assumption | omega | exact jset_b (by assumption) (by omega)) _ _ hP hD hS ls (lv_sub hl [0, 1, 2, 3, 4] rfl)
    · refine lv_iload_n hx hb dXM_equivalent_15 rfl (lv_at hl 3 rfl) ?_
      refine ji_iconst hx hb dXM_equivalent_16 ?_
      refine ji_iconst hx hb dXM_equivalent_17 ?_
      refine jrSi (rest := []) ⟨hx, hb, hml, hown, hts⟩ (c_XM_in l dC dI cA cZ z3 0 1 (by first | assumption | omega) (by first | assumption | omega) (by first | assumption | omega)) (cwS 3 hts (jG_S tw_695 tw_696 tw_6 tw_697) rfl rfl rfl (by decide +kernel) (by rw [hR]; exact ⟨Nat.le_of_ble_eq_true rfl, Nat.le_of_ble_eq_true rfl⟩)) hK hP hN [] rfl rfl hl.1 rfl (Nat.le_of_ble_eq_true rfl) dXM_equivalent_18 (by rw [hR]; exact ⟨Nat.le_of_ble_eq_true rfl, Nat.le_of_ble_eq_true rfl⟩) ?_
      have f7 := f_XM_in_b z3 0 1 (by first | assumption | omega) (by first | assumption | omega) (by first | assumption | omega)
      refine ji_if_eq (tgt := 38) hx hb dXM_equivalent_21 (by decide) (by omega) (fun c21_ => ?_) (fun c21_ => ?_)
      · refine ji_iconst hx hb dXM_equivalent_38 ?_
        exact join39 0 (Eq.trans (by rw [f_XM_equivalentP_s]; rw [if_neg c5_, if_neg c12_, if_pos c21_]; try rfl) rfl) (by first | assumption | omega | exact jset_b (by assumption) (by omega)) _ _ hP hD hS ls (lv_sub hl [0, 1, 2, 3, 4] rfl)
      · refine lv_iload hx hb dXM_equivalent_24 (lv_at hl 4 rfl) ?_
        refine ji_iconst hx hb dXM_equivalent_26 ?_
        refine ji_iconst hx hb dXM_equivalent_27 ?_
        refine jrSi (rest := []) ⟨hx, hb, hml, hown, hts⟩ (c_XM_in l dC dI cA cZ z4 0 1 (by first | assumption | omega) (by first | assumption | omega) (by first | assumption | omega)) (cwS 3 hts (jG_S tw_695 tw_696 tw_6 tw_697) rfl rfl rfl (by decide +kernel) (by rw [hR]; exact ⟨Nat.le_of_ble_eq_true rfl, Nat.le_of_ble_eq_true rfl⟩)) hK hP hN [] rfl rfl hl.1 rfl (Nat.le_of_ble_eq_true rfl) dXM_equivalent_28 (by rw [hR]; exact ⟨Nat.le_of_ble_eq_true rfl, Nat.le_of_ble_eq_true rfl⟩) ?_
        have f8 := f_XM_in_b z4 0 1 (by first | assumption | omega) (by first | assumption | omega) (by first | assumption | omega)
        refine ji_if_eq (tgt := 38) hx hb dXM_equivalent_31 (by decide) (by omega) (fun c31_ => ?_) (fun c31_ => ?_)
        · refine ji_iconst hx hb dXM_equivalent_38 ?_
          exact join39 0 (Eq.trans (by rw [f_XM_equivalentP_s]; rw [if_neg c5_, if_neg c12_, if_neg c21_, if_pos c31_]; try rfl) rfl) (by first | assumption | omega | exact jset_b (by assumption) (by omega)) _ _ hP hD hS ls (lv_sub hl [0, 1, 2, 3, 4] rfl)
        · refine ji_iconst hx hb dXM_equivalent_34 ?_
          refine lv_goto (tgt := 39) hx hb dXM_equivalent_35 (by decide) ?_
          exact join39 1 (Eq.trans (by rw [f_XM_equivalentP_s]; rw [if_neg c5_, if_neg c12_, if_neg c21_, if_neg c31_]; try rfl) rfl) (by first | assumption | omega | exact jset_b (by assumption) (by omega)) _ _ hP hD hS ls (lv_sub hl [0, 1, 2, 3, 4] rfl)
noncomputable def g_XM_valueP_J42 (mth : Int) (mn : Int) (mp : Int) (mw : Int) (mu : Int) (md : Int) (mo : Int) (y1 : Int → Int) (y2 : Int → Int) (y3 : Int → Int) (y4 : Int → Int) (y5 : Int → Int) (y8 : Int → Int) (y9 : Int → Int) (y10 : Int → Int) (z1 : Int) (z2 : Int) (jc : Int) (jd : Int) : Int × Int × Int × Int :=
  match f_XM_goesP mth mn mp mw mu md mo jc jd with
  | (r, mth1') =>
    if r = 0 then
      (0, mth1', mu, md)
    else
      match f_XM_reckonP mth1' mn mp mw mu md mo y1 y2 y3 y4 y5 y9 y10 0 z1 2 with
      | (mu1', md1') =>
        if z2 = 0 then
          (mu1', mth1', mu1', md1')
        else
          (md1', mth1', mu1', md1')
noncomputable def f_XM_valueP_J42 : Int → Int → Int → Int → Int → Int → Int → (Int → Int) → (Int → Int) → (Int → Int) → (Int → Int) → (Int → Int) → (Int → Int) → (Int → Int) → (Int → Int) → Int → Int → Int → Int → Int × Int × Int × Int := jopq g_XM_valueP_J42
theorem f_XM_valueP_J42_q : f_XM_valueP_J42 = g_XM_valueP_J42 := jopq_eq _
theorem f_XM_valueP_J42_s (mth : Int) (mn : Int) (mp : Int) (mw : Int) (mu : Int) (md : Int) (mo : Int) (y1 : Int → Int) (y2 : Int → Int) (y3 : Int → Int) (y4 : Int → Int) (y5 : Int → Int) (y8 : Int → Int) (y9 : Int → Int) (y10 : Int → Int) (z1 : Int) (z2 : Int) (jc : Int) (jd : Int) : f_XM_valueP_J42 mth mn mp mw mu md mo y1 y2 y3 y4 y5 y8 y9 y10 z1 z2 jc jd = (
    match f_XM_goesP mth mn mp mw mu md mo jc jd with
    | (r, mth1') =>
      if r = 0 then
        (0, mth1', mu, md)
      else
        match f_XM_reckonP mth1' mn mp mw mu md mo y1 y2 y3 y4 y5 y9 y10 0 z1 2 with
        | (mu1', md1') =>
          if z2 = 0 then
            (mu1', mth1', mu1', md1')
          else
            (md1', mth1', mu1', md1')
  : Int × Int × Int × Int) := by rw [f_XM_valueP_J42_q]; rfl
noncomputable def g_XM_valueP_J21 (mth : Int) (mn : Int) (mp : Int) (mw : Int) (mu : Int) (md : Int) (mo : Int) (y1 : Int → Int) (y2 : Int → Int) (y3 : Int → Int) (y4 : Int → Int) (y5 : Int → Int) (y8 : Int → Int) (y9 : Int → Int) (y10 : Int → Int) (z1 : Int) (z2 : Int) (jc : Int) : Int × Int × Int × Int :=
  if jc = 0 then
    f_XM_valueP_J42 mth mn mp mw mu md mo y1 y2 y3 y4 y5 y8 y9 y10 z1 z2 jc 0
  else
    if (y8 z1) = 0 then
      f_XM_valueP_J42 mth mn mp mw mu md mo y1 y2 y3 y4 y5 y8 y9 y10 z1 z2 jc 0
    else
      f_XM_valueP_J42 mth mn mp mw mu md mo y1 y2 y3 y4 y5 y8 y9 y10 z1 z2 jc 1
noncomputable def f_XM_valueP_J21 : Int → Int → Int → Int → Int → Int → Int → (Int → Int) → (Int → Int) → (Int → Int) → (Int → Int) → (Int → Int) → (Int → Int) → (Int → Int) → (Int → Int) → Int → Int → Int → Int × Int × Int × Int := jopq g_XM_valueP_J21
theorem f_XM_valueP_J21_q : f_XM_valueP_J21 = g_XM_valueP_J21 := jopq_eq _
theorem f_XM_valueP_J21_s (mth : Int) (mn : Int) (mp : Int) (mw : Int) (mu : Int) (md : Int) (mo : Int) (y1 : Int → Int) (y2 : Int → Int) (y3 : Int → Int) (y4 : Int → Int) (y5 : Int → Int) (y8 : Int → Int) (y9 : Int → Int) (y10 : Int → Int) (z1 : Int) (z2 : Int) (jc : Int) : f_XM_valueP_J21 mth mn mp mw mu md mo y1 y2 y3 y4 y5 y8 y9 y10 z1 z2 jc = (
    if jc = 0 then
      f_XM_valueP_J42 mth mn mp mw mu md mo y1 y2 y3 y4 y5 y8 y9 y10 z1 z2 jc 0
    else
      if (y8 z1) = 0 then
        f_XM_valueP_J42 mth mn mp mw mu md mo y1 y2 y3 y4 y5 y8 y9 y10 z1 z2 jc 0
      else
        f_XM_valueP_J42 mth mn mp mw mu md mo y1 y2 y3 y4 y5 y8 y9 y10 z1 z2 jc 1
  : Int × Int × Int × Int) := by rw [f_XM_valueP_J21_q]; rfl
noncomputable def g_XM_valueP (mth : Int) (mn : Int) (mp : Int) (mw : Int) (mu : Int) (md : Int) (mo : Int) (y1 : Int → Int) (y2 : Int → Int) (y3 : Int → Int) (y4 : Int → Int) (y5 : Int → Int) (y8 : Int → Int) (y9 : Int → Int) (y10 : Int → Int) (z1 : Int) (z2 : Int) : Int × Int × Int × Int :=
  if (f_XM_isKind z1) = 0 then
    f_XM_valueP_J21 mth mn mp mw mu md mo y1 y2 y3 y4 y5 y8 y9 y10 z1 z2 0
  else
    if (f_XM_in z2 0 1) = 0 then
      f_XM_valueP_J21 mth mn mp mw mu md mo y1 y2 y3 y4 y5 y8 y9 y10 z1 z2 0
    else
      f_XM_valueP_J21 mth mn mp mw mu md mo y1 y2 y3 y4 y5 y8 y9 y10 z1 z2 1
noncomputable def f_XM_valueP : Int → Int → Int → Int → Int → Int → Int → (Int → Int) → (Int → Int) → (Int → Int) → (Int → Int) → (Int → Int) → (Int → Int) → (Int → Int) → (Int → Int) → Int → Int → Int × Int × Int × Int := jopq g_XM_valueP
theorem f_XM_valueP_q : f_XM_valueP = g_XM_valueP := jopq_eq _
theorem f_XM_valueP_s (mth : Int) (mn : Int) (mp : Int) (mw : Int) (mu : Int) (md : Int) (mo : Int) (y1 : Int → Int) (y2 : Int → Int) (y3 : Int → Int) (y4 : Int → Int) (y5 : Int → Int) (y8 : Int → Int) (y9 : Int → Int) (y10 : Int → Int) (z1 : Int) (z2 : Int) : f_XM_valueP mth mn mp mw mu md mo y1 y2 y3 y4 y5 y8 y9 y10 z1 z2 = (
    if (f_XM_isKind z1) = 0 then
      f_XM_valueP_J21 mth mn mp mw mu md mo y1 y2 y3 y4 y5 y8 y9 y10 z1 z2 0
    else
      if (f_XM_in z2 0 1) = 0 then
        f_XM_valueP_J21 mth mn mp mw mu md mo y1 y2 y3 y4 y5 y8 y9 y10 z1 z2 0
      else
        f_XM_valueP_J21 mth mn mp mw mu md mo y1 y2 y3 y4 y5 y8 y9 y10 z1 z2 1
  : Int × Int × Int × Int) := by rw [f_XM_valueP_q]; rfl
set_option maxHeartbeats 4000000 in
set_option maxRecDepth 100000 in
theorem c_XM_valueP (l : Launch) (dC : Nat → ClassId) (dI : Nat → Nat → Nat) (cA cZ : ClassId) (sz : Nat) (ma : Nat) (a0 : Nat) (a1 : Nat) (a2 : Nat) (a3 : Nat) (a4 : Nat) (a5 : Nat) (a6 : Nat) (a7 : Nat) (a8 : Nat) (a9 : Nat) (a10 : Nat) (a11 : Nat) (mth : Int) (mn : Int) (mp : Int) (mw : Int) (mu : Int) (md : Int) (mo : Int) (y1 : Int → Int) (y2 : Int → Int) (y3 : Int → Int) (y4 : Int → Int) (y5 : Int → Int) (y8 : Int → Int) (y9 : Int → Int) (y10 : Int → Int) (z1 : Int) (z2 : Int) (hy1 : ∀ i, 0 ≤ y1 i ∧ y1 i ≤ 1) (hy2 : ∀ i, 0 ≤ y2 i ∧ y2 i ≤ 30) (hy3 : ∀ i, 0 ≤ y3 i ∧ y3 i ≤ 1) (hy4 : ∀ i, 0 ≤ y4 i ∧ y4 i ≤ 100000) (hy5 : ∀ i, 0 ≤ y5 i ∧ y5 i ≤ 100000) (hy8 : ∀ i, 0 ≤ y8 i ∧ y8 i ≤ 1) (hy9 : ∀ i, 0 ≤ y9 i ∧ y9 i ≤ 20) (hy10 : ∀ i, 0 ≤ y10 i ∧ y10 i ≤ 100000) (hiz1 : i32 z1) (hiz2 : i32 z2) : Met l yXM_value (Cond.code yXM_value cXM_value 4 (some .long) :: TBL) ({ frames := 6, cells := 0, slots := 0, locals := 134 } : Room) (va_Pc [.ref ma, .int (jI z1), .int (jI z2)] (jBw (dC, dI) [(cA, .int), (cZ, .boolean)] [(ma, .inr (5, [.int (jI mth), .int (jI mn), .ref a0, .int (jI mp), .int (jI mw), .ref a1, .ref a2, .ref a3, .ref a4, .ref a5, .ref a6, .ref a7, .ref a8, .ref a9, .ref a10, .long (jL mu), .long (jL md), .int (jI mo), .ref a11])), (a1, .inl (cZ, 62, .inl (jA y1))), (a2, .inl (cA, 62, .inl (jA y2))), (a3, .inl (cZ, 496, .inl (jA y3))), (a4, .inl (cA, 496, .inl (jA y4))), (a5, .inl (cA, 496, .inl (jA y5))), (a8, .inl (cZ, 8, .inl (jA y8))), (a9, .inl (cA, 64, .inl (jA y9))), (a10, .inl (cA, 8, .inl (jA y10)))] sz)) (va_Ql (fun (r : Int64) (u : Int × Int × Int × Int) => r = jL u.1 ∧ u = f_XM_valueP mth mn mp mw mu md mo y1 y2 y3 y4 y5 y8 y9 y10 z1 z2 ∧ (0 ≤ u.2.1 ∧ u.2.1 ≤ 2) ∧ (0 ≤ u.1 ∧ u.1 ≤ 1024000000000000)) (fun u t => jE (dC, dI) [(cA, .int), (cZ, .boolean)] [(ma, .inr (5, [.int (jI mth), .int (jI mn), .ref a0, .int (jI mp), .int (jI mw), .ref a1, .ref a2, .ref a3, .ref a4, .ref a5, .ref a6, .ref a7, .ref a8, .ref a9, .ref a10, .long (jL mu), .long (jL md), .int (jI mo), .ref a11])), (a1, .inl (cZ, 62, .inl (jA y1))), (a2, .inl (cA, 62, .inl (jA y2))), (a3, .inl (cZ, 496, .inl (jA y3))), (a4, .inl (cA, 496, .inl (jA y4))), (a5, .inl (cA, 496, .inl (jA y5))), (a8, .inl (cZ, 8, .inl (jA y8))), (a9, .inl (cA, 64, .inl (jA y9))), (a10, .inl (cA, 8, .inl (jA y10)))] sz [(ma, .inr (5, [.int (jI u.2.1), .int (jI mn), .ref a0, .int (jI mp), .int (jI mw), .ref a1, .ref a2, .ref a3, .ref a4, .ref a5, .ref a6, .ref a7, .ref a8, .ref a9, .ref a10, .long (jL u.2.2.1), .long (jL u.2.2.2), .int (jI mo), .ref a11])), (a1, .inl (cZ, 62, .inl (jA y1))), (a2, .inl (cA, 62, .inl (jA y2))), (a3, .inl (cZ, 496, .inl (jA y3))), (a4, .inl (cA, 496, .inl (jA y4))), (a5, .inl (cA, 496, .inl (jA y5))), (a8, .inl (cZ, 8, .inl (jA y8))), (a9, .inl (cA, 64, .inl (jA y9))), (a10, .inl (cA, 8, .inl (jA y10)))] t) (va_A [(ma, .inr (5, [.int (jI mth), .int (jI mn), .ref a0, .int (jI mp), .int (jI mw), .ref a1, .ref a2, .ref a3, .ref a4, .ref a5, .ref a6, .ref a7, .ref a8, .ref a9, .ref a10, .long (jL mu), .long (jL md), .int (jI mo), .ref a11])), (a1, .inl (cZ, 62, .inl (jA y1))), (a2, .inl (cA, 62, .inl (jA y2))), (a3, .inl (cZ, 496, .inl (jA y3))), (a4, .inl (cA, 496, .inl (jA y4))), (a5, .inl (cA, 496, .inl (jA y5))), (a8, .inl (cZ, 8, .inl (jA y8))), (a9, .inl (cA, 64, .inl (jA y9))), (a10, .inl (cA, 8, .inl (jA y10)))] sz)) 0 0 (va_A [(ma, .inr (5, [.int (jI mth), .int (jI mn), .ref a0, .int (jI mp), .int (jI mw), .ref a1, .ref a2, .ref a3, .ref a4, .ref a5, .ref a6, .ref a7, .ref a8, .ref a9, .ref a10, .long (jL mu), .long (jL md), .int (jI mo), .ref a11])), (a1, .inl (cZ, 62, .inl (jA y1))), (a2, .inl (cA, 62, .inl (jA y2))), (a3, .inl (cZ, 496, .inl (jA y3))), (a4, .inl (cA, 496, .inl (jA y4))), (a5, .inl (cA, 496, .inl (jA y5))), (a8, .inl (cZ, 8, .inl (jA y8))), (a9, .inl (cA, 64, .inl (jA y9))), (a10, .inl (cA, 8, .inl (jA y10)))] sz) := by
  refine jMet (cc := cXM_value) (maxL := 4) (ret := some .long) (by decide) rfl ?_
  intro p e s m args below meth c s₁ R Q hR hQ B hml hv
  obtain ⟨rfl, hsz, hP, hK, hD0, hN⟩ := hv
  have hx := B.exec
  have hb := B.bytes
  have hr := B.returns
  have hts := atoms_spec (ws := Cond.code yXM_value cXM_value 4 (some .long) :: TBL) B.pre
  have hown : s.vm.findClass RXM = some m.cls := findClass_of_methodNamed B.named
  have hlocks := B.notSynchronized
  subst hsz
  obtain ⟨A, hAe⟩ : ∃ A, A = va_A [(ma, .inr (5, [.int (jI mth), .int (jI mn), .ref a0, .int (jI mp), .int (jI mw), .ref a1, .ref a2, .ref a3, .ref a4, .ref a5, .ref a6, .ref a7, .ref a8, .ref a9, .ref a10, .long (jL mu), .long (jL md), .int (jI mo), .ref a11])), (a1, .inl (cZ, 62, .inl (jA y1))), (a2, .inl (cA, 62, .inl (jA y2))), (a3, .inl (cZ, 496, .inl (jA y3))), (a4, .inl (cA, 496, .inl (jA y4))), (a5, .inl (cA, 496, .inl (jA y5))), (a8, .inl (cZ, 8, .inl (jA y8))), (a9, .inl (cA, 64, .inl (jA y9))), (a10, .inl (cA, 8, .inl (jA y10)))] s.heap.size := ⟨_, rfl⟩
  have hD : va_D A [(ma, .inr (5, [.int (jI mth), .int (jI mn), .ref a0, .int (jI mp), .int (jI mw), .ref a1, .ref a2, .ref a3, .ref a4, .ref a5, .ref a6, .ref a7, .ref a8, .ref a9, .ref a10, .long (jL mu), .long (jL md), .int (jI mo), .ref a11])), (a1, .inl (cZ, 62, .inl (jA y1))), (a2, .inl (cA, 62, .inl (jA y2))), (a3, .inl (cZ, 496, .inl (jA y3))), (a4, .inl (cA, 496, .inl (jA y4))), (a5, .inl (cA, 496, .inl (jA y5))), (a8, .inl (cZ, 8, .inl (jA y8))), (a9, .inl (cA, 64, .inl (jA y9))), (a10, .inl (cA, 8, .inl (jA y10)))] := by rw [hAe]; exact hD0.self
  have hA : ∀ q : Nat, s.heap.size ≤ q → A q := fun q h => by rw [hAe]; exact Or.inr h
  have hS : va_S A s.heap s.heap [] := va_S.rf
  have hP : va_P (dC, dI) vwCl [(ma, .inr (5, [.int (jI mth), .int (jI mn), .ref a0, .int (jI mp), .int (jI mw), .ref a1, .ref a2, .ref a3, .ref a4, .ref a5, .ref a6, .ref a7, .ref a8, .ref a9, .ref a10, .long (jL mu), .long (jL md), .int (jI mo), .ref a11])), (a1, .inl (cZ, 62, .inl (jA y1))), (a2, .inl (cA, 62, .inl (jA y2))), (a3, .inl (cZ, 496, .inl (jA y3))), (a4, .inl (cA, 496, .inl (jA y4))), (a5, .inl (cA, 496, .inl (jA y5))), (a8, .inl (cZ, 8, .inl (jA y8))), (a9, .inl (cA, 64, .inl (jA y9))), (a10, .inl (cA, 8, .inl (jA y10)))] s.heap := hP
  have hl := lv_entry ([.ref ma, .int (jI z1), .int (jI z2)]) (n := 4) (Nat.le_of_ble_eq_true rfl)
  rw [lg_entry_eq]
  generalize (lg_sl ([.ref ma, .int (jI z1), .int (jI z2)]) ++ List.replicate (4 - (lg_sl ([.ref ma, .int (jI z1), .int (jI z2)])).length) Slot.unset).toArray = ls at hl ⊢
  have hl : lv_has ls 4 [(0, .ref ma), (1, .int (jI z1)), (2, .int (jI z2))] := hl
  have join21 : ∀ (jc : Int) , f_XM_valueP_J21 mth mn mp mw mu md mo y1 y2 y3 y4 y5 y8 y9 y10 z1 z2 jc = f_XM_valueP mth mn mp mw mu md mo y1 y2 y3 y4 y5 y8 y9 y10 z1 z2 → ((jc = 0) ∨ (jc = 1 ∧ 0 ≤ z1 ∧ z1 ≤ 3 ∧ 0 ≤ z2 ∧ z2 ≤ 1)) → ∀ (H : Heap) (locs : List Loc), va_P (dC, dI) vwCl [(ma, .inr (5, [.int (jI mth), .int (jI mn), .ref a0, .int (jI mp), .int (jI mw), .ref a1, .ref a2, .ref a3, .ref a4, .ref a5, .ref a6, .ref a7, .ref a8, .ref a9, .ref a10, .long (jL mu), .long (jL md), .int (jI mo), .ref a11])), (a1, .inl (cZ, 62, .inl (jA y1))), (a2, .inl (cA, 62, .inl (jA y2))), (a3, .inl (cZ, 496, .inl (jA y3))), (a4, .inl (cA, 496, .inl (jA y4))), (a5, .inl (cA, 496, .inl (jA y5))), (a8, .inl (cZ, 8, .inl (jA y8))), (a9, .inl (cA, 64, .inl (jA y9))), (a10, .inl (cA, 8, .inl (jA y10)))] H → va_D A [(ma, .inr (5, [.int (jI mth), .int (jI mn), .ref a0, .int (jI mp), .int (jI mw), .ref a1, .ref a2, .ref a3, .ref a4, .ref a5, .ref a6, .ref a7, .ref a8, .ref a9, .ref a10, .long (jL mu), .long (jL md), .int (jI mo), .ref a11])), (a1, .inl (cZ, 62, .inl (jA y1))), (a2, .inl (cA, 62, .inl (jA y2))), (a3, .inl (cZ, 496, .inl (jA y3))), (a4, .inl (cA, 496, .inl (jA y4))), (a5, .inl (cA, 496, .inl (jA y5))), (a8, .inl (cZ, 8, .inl (jA y8))), (a9, .inl (cA, 64, .inl (jA y9))), (a10, .inl (cA, 8, .inl (jA y10)))] → va_S A s.heap H locs → ∀ ls : Array Slot, lv_has ls 4 [(0, .ref ma), (1, .int (jI z1)), (2, .int (jI z2))] → W p l e R s m ([.ref ma, .int (jI z1), .int (jI z2)] : List Value).toArray below meth c H locs 0 0 Q (F0 m 21 ls [.int (jI jc)]) := by
    intro jc hF hjc H locs hP hD hS ls hl
    refine lv_istore_n (lv' := [(3, .int (jI jc)), (0, .ref ma), (1, .int (jI z1)), (2, .int (jI z2))]) hx hb dXM_value_21 rfl hl (by decide) rfl (fun ls hl => ?_)
    refine lv_aload_n hx hb dXM_value_22 rfl (lv_at hl 1 rfl) ?_
    refine lv_iload_n hx hb dXM_value_23 rfl (lv_at hl 0 rfl) ?_
    have join42 : ∀ (jd : Int) , f_XM_valueP_J42 mth mn mp mw mu md mo y1 y2 y3 y4 y5 y8 y9 y10 z1 z2 jc jd = f_XM_valueP mth mn mp mw mu md mo y1 y2 y3 y4 y5 y8 y9 y10 z1 z2 → ((jd = 0) ∨ (jd = 1 ∧ jc = 1)) → ∀ (H : Heap) (locs : List Loc), va_P (dC, dI) vwCl [(ma, .inr (5, [.int (jI mth), .int (jI mn), .ref a0, .int (jI mp), .int (jI mw), .ref a1, .ref a2, .ref a3, .ref a4, .ref a5, .ref a6, .ref a7, .ref a8, .ref a9, .ref a10, .long (jL mu), .long (jL md), .int (jI mo), .ref a11])), (a1, .inl (cZ, 62, .inl (jA y1))), (a2, .inl (cA, 62, .inl (jA y2))), (a3, .inl (cZ, 496, .inl (jA y3))), (a4, .inl (cA, 496, .inl (jA y4))), (a5, .inl (cA, 496, .inl (jA y5))), (a8, .inl (cZ, 8, .inl (jA y8))), (a9, .inl (cA, 64, .inl (jA y9))), (a10, .inl (cA, 8, .inl (jA y10)))] H → va_D A [(ma, .inr (5, [.int (jI mth), .int (jI mn), .ref a0, .int (jI mp), .int (jI mw), .ref a1, .ref a2, .ref a3, .ref a4, .ref a5, .ref a6, .ref a7, .ref a8, .ref a9, .ref a10, .long (jL mu), .long (jL md), .int (jI mo), .ref a11])), (a1, .inl (cZ, 62, .inl (jA y1))), (a2, .inl (cA, 62, .inl (jA y2))), (a3, .inl (cZ, 496, .inl (jA y3))), (a4, .inl (cA, 496, .inl (jA y4))), (a5, .inl (cA, 496, .inl (jA y5))), (a8, .inl (cZ, 8, .inl (jA y8))), (a9, .inl (cA, 64, .inl (jA y9))), (a10, .inl (cA, 8, .inl (jA y10)))] → va_S A s.heap H locs → ∀ ls : Array Slot, lv_has ls 4 [(3, .int (jI jc)), (0, .ref ma), (1, .int (jI z1)), (2, .int (jI z2))] → W p l e R s m ([.ref ma, .int (jI z1), .int (jI z2)] : List Value).toArray below meth c H locs 0 0 Q (F0 m 42 ls [.int (jI jd), .int (jI jc), .ref ma]) := by
      intro jd hF hjd H locs hP hD hS ls hl
      refine jwVi (rest := []) (wr := [(a1, .inl (cZ, 62, .inl (jA y1))), (a2, .inl (cA, 62, .inl (jA y2))), (a3, .inl (cZ, 496, .inl (jA y3))), (a4, .inl (cA, 496, .inl (jA y4))), (a5, .inl (cA, 496, .inl (jA y5))), (a8, .inl (cZ, 8, .inl (jA y8))), (a9, .inl (cA, 64, .inl (jA y9))), (a10, .inl (cA, 8, .inl (jA y10)))]) ⟨hx, hb, hml, hown, hts⟩ (c_XM_goesP l dC dI cA cZ _ ma a0 a1 a2 a3 a4 a5 a6 a7 a8 a9 a10 a11 mth mn mp mw mu md mo jc jd (by first | assumption | omega) (by first | assumption | omega)) (cwV 2 hts (jG_V tw_698 tw_700 ts_14 tw_6 tw_701) rfl rfl rfl (by decide +kernel) (by rw [hR]; exact ⟨Nat.le_of_ble_eq_true rfl, Nat.le_of_ble_eq_true rfl⟩)) hK hP hD hS hA hN [0] [1, 2, 3, 4, 5, 6, 7, 8] rfl rfl (by decide) (by decide) (by decide) 0 5 rfl rfl rfl rfl hl.1 rfl (Nat.le_of_ble_eq_true rfl) dXM_value_42 (by rw [hR]; exact ⟨Nat.le_of_ble_eq_true rfl, Nat.le_of_ble_eq_true rfl⟩) (fun v u H locs hwb hP hD hS => ?_)
      obtain ⟨r, mth1'⟩ := u
      try dsimp only at hwb
      obtain ⟨er, hwb, f⟩ := hwb
      subst er
      have f : (r = 0 ∧ mth1' = 1 ∧ jc = 0) ∨ (r = 0 ∧ mth1' = 2 ∧ jc = 1 ∧ jd = 0) ∨ (r = 1 ∧ mth1' = 0 ∧ jc = 1 ∧ jd = 1) := f
      have hP : va_P (dC, dI) vwCl [(a1, .inl (cZ, 62, .inl (jA y1))), (a2, .inl (cA, 62, .inl (jA y2))), (a3, .inl (cZ, 496, .inl (jA y3))), (a4, .inl (cA, 496, .inl (jA y4))), (a5, .inl (cA, 496, .inl (jA y5))), (a8, .inl (cZ, 8, .inl (jA y8))), (a9, .inl (cA, 64, .inl (jA y9))), (a10, .inl (cA, 8, .inl (jA y10))), (ma, .inr (5, [.int (jI mth1'), .int (jI mn), .ref a0, .int (jI mp), .int (jI mw), .ref a1, .ref a2, .ref a3, .ref a4, .ref a5, .ref a6, .ref a7, .ref a8, .ref a9, .ref a10, .long (jL mu), .long (jL md), .int (jI mo), .ref a11]))] H := hP
      have hD : va_D A [(a1, .inl (cZ, 62, .inl (jA y1))), (a2, .inl (cA, 62, .inl (jA y2))), (a3, .inl (cZ, 496, .inl (jA y3))), (a4, .inl (cA, 496, .inl (jA y4))), (a5, .inl (cA, 496, .inl (jA y5))), (a8, .inl (cZ, 8, .inl (jA y8))), (a9, .inl (cA, 64, .inl (jA y9))), (a10, .inl (cA, 8, .inl (jA y10))), (ma, .inr (5, [.int (jI mth1'), .int (jI mn), .ref a0, .int (jI mp), .int (jI mw), .ref a1, .ref a2, .ref a3, .ref a4, .ref a5, .ref a6, .ref a7, .ref a8, .ref a9, .ref a10, .long (jL mu), .long (jL md), .int (jI mo), .ref a11]))] := hD
      refine ji_if_ne (tgt := 50) hx hb dXM_value_45 (by decide) (by omega) (fun c45_ => ?_) (fun c45_ => ?_)
      · refine lv_aload_n hx hb dXM_value_50 rfl (lv_at hl 1 rfl) ?_
        refine ji_iconst hx hb dXM_value_51 ?_
        refine lv_iload_n hx hb dXM_value_52 rfl (lv_at hl 2 rfl) ?_
        refine ji_iconst hx hb dXM_value_53 ?_
        refine jwVv (rest := []) (wr := [(a8, .inl (cZ, 8, .inl (jA y8)))]) ⟨hx, hb, hml, hown, hts⟩ (c_XM_reckonP l dC dI cA cZ _ ma a0 a1 a2 a3 a4 a5 a6 a7 a8 a9 a10 a11 mth1' mn mp mw mu md mo y1 y2 y3 y4 y5 y9 y10 0 z1 2 (by first | assumption | omega) (by first | assumption | omega) (by first | assumption | omega) (by first | assumption | omega) (by first | assumption | omega) (by first | assumption | omega) (by first | assumption | omega) (by first | assumption | omega) (by first | assumption | omega)) (cwV 3 hts (jG_V tw_806 tw_808 ts_35 tw_6 tw_809) rfl rfl rfl (by decide +kernel) (by rw [hR]; exact ⟨Nat.le_of_ble_eq_true rfl, Nat.le_of_ble_eq_true rfl⟩)) hK hP hD hS hA hN [8, 0, 1, 2, 3, 4, 6, 7] [5] rfl rfl (by decide) (by decide) (by decide) 8 5 rfl rfl rfl rfl hl.1 rfl (Nat.le_of_ble_eq_true rfl) dXM_value_54 (by rw [hR]; exact ⟨Nat.le_of_ble_eq_true rfl, Nat.le_of_ble_eq_true rfl⟩) (fun u1 H locs hwb2 hP hD hS => ?_)
        obtain ⟨mu1', md1'⟩ := u1
        try dsimp only at hwb2
        obtain ⟨hwb2, f3, f4⟩ := hwb2
        have f3 : 0 ≤ mu1' ∧ mu1' ≤ 1024000000000000 := f3
        have f4 : 1 ≤ md1' ∧ md1' ≤ 25600000000 := f4
        have hP : va_P (dC, dI) vwCl [(a8, .inl (cZ, 8, .inl (jA y8))), (ma, .inr (5, [.int (jI mth1'), .int (jI mn), .ref a0, .int (jI mp), .int (jI mw), .ref a1, .ref a2, .ref a3, .ref a4, .ref a5, .ref a6, .ref a7, .ref a8, .ref a9, .ref a10, .long (jL mu1'), .long (jL md1'), .int (jI mo), .ref a11])), (a1, .inl (cZ, 62, .inl (jA y1))), (a2, .inl (cA, 62, .inl (jA y2))), (a3, .inl (cZ, 496, .inl (jA y3))), (a4, .inl (cA, 496, .inl (jA y4))), (a5, .inl (cA, 496, .inl (jA y5))), (a9, .inl (cA, 64, .inl (jA y9))), (a10, .inl (cA, 8, .inl (jA y10)))] H := hP
        have hD : va_D A [(a8, .inl (cZ, 8, .inl (jA y8))), (ma, .inr (5, [.int (jI mth1'), .int (jI mn), .ref a0, .int (jI mp), .int (jI mw), .ref a1, .ref a2, .ref a3, .ref a4, .ref a5, .ref a6, .ref a7, .ref a8, .ref a9, .ref a10, .long (jL mu1'), .long (jL md1'), .int (jI mo), .ref a11])), (a1, .inl (cZ, 62, .inl (jA y1))), (a2, .inl (cA, 62, .inl (jA y2))), (a3, .inl (cZ, 496, .inl (jA y3))), (a4, .inl (cA, 496, .inl (jA y4))), (a5, .inl (cA, 496, .inl (jA y5))), (a9, .inl (cA, 64, .inl (jA y9))), (a10, .inl (cA, 8, .inl (jA y10)))] := hD
        refine lv_iload_n hx hb dXM_value_57 rfl (lv_at hl 3 rfl) ?_
        refine ji_if_ne (tgt := 68) hx hb dXM_value_58 (by decide) (by omega) (fun c58_ => ?_) (fun c58_ => ?_)
        · refine lv_aload_n hx hb dXM_value_68 rfl (lv_at hl 1 rfl) ?_
          refine va_get (D := (dC, dI)) (ci := 5) (v := .long (jL md1')) (C := RXM) (T := TXM) (N := 19) hx hb hts (fun w h => jmem (inXM w h)) hown hK hP 1 rfl rfl 16 (by decide) (hts _ (jmem tw_644)) (fun _ h9 => h9) rfl dXM_value_69 ?_
          have hP9 := hP.sub (ws' := [(ma, .inr (5, [.int (jI mth1'), .int (jI mn), .ref a0, .int (jI mp), .int (jI mw), .ref a1, .ref a2, .ref a3, .ref a4, .ref a5, .ref a6, .ref a7, .ref a8, .ref a9, .ref a10, .long (jL mu1'), .long (jL md1'), .int (jI mo), .ref a11])), (a1, .inl (cZ, 62, .inl (jA y1))), (a2, .inl (cA, 62, .inl (jA y2))), (a3, .inl (cZ, 496, .inl (jA y3))), (a4, .inl (cA, 496, .inl (jA y4))), (a5, .inl (cA, 496, .inl (jA y5))), (a8, .inl (cZ, 8, .inl (jA y8))), (a9, .inl (cA, 64, .inl (jA y9))), (a10, .inl (cA, 8, .inl (jA y10)))]) [1, 2, 3, 4, 5, 6, 0, 7, 8] rfl
          have hD9 := hD.sub (ws' := [(ma, .inr (5, [.int (jI mth1'), .int (jI mn), .ref a0, .int (jI mp), .int (jI mw), .ref a1, .ref a2, .ref a3, .ref a4, .ref a5, .ref a6, .ref a7, .ref a8, .ref a9, .ref a10, .long (jL mu1'), .long (jL md1'), .int (jI mo), .ref a11])), (a1, .inl (cZ, 62, .inl (jA y1))), (a2, .inl (cA, 62, .inl (jA y2))), (a3, .inl (cZ, 496, .inl (jA y3))), (a4, .inl (cA, 496, .inl (jA y4))), (a5, .inl (cA, 496, .inl (jA y5))), (a8, .inl (cZ, 8, .inl (jA y8))), (a9, .inl (cA, 64, .inl (jA y9))), (a10, .inl (cA, 8, .inl (jA y10)))]) [1, 2, 3, 4, 5, 6, 0, 7, 8] (by decide) rfl
          subst hAe
          subst hQ
          exact W.lret (v := jL md1') hx hb hr (fun t ht hW => ⟨⟨_, (md1', mth1', mu1', md1'), rfl, ⟨rfl, Eq.trans (by rw [f_XM_valueP_J42_s]; rw [← hwb]; try dsimp only; rw [if_neg c45_]; rw [← hwb2]; try dsimp only; rw [if_neg c58_]; try rfl) hF, show 0 ≤ mth1' ∧ mth1' ≤ 2 from by first | assumption | omega | exact jset_b (by assumption) (by omega) | exact jset_l (by assumption) (by omega) | exact jset_l (fun _ _ => rfl) (by omega) | exact fun _ _ => rfl | exact l_trans (by assumption) (by assumption), show 0 ≤ md1' ∧ md1' ≤ 1024000000000000 from by first | assumption | omega | exact jset_b (by assumption) (by omega) | exact jset_l (by assumption) (by omega) | exact jset_l (fun _ _ => rfl) (by omega) | exact fun _ _ => rfl | exact l_trans (by assumption) (by assumption)⟩, ⟨by rw [ht]; exact hP9, va_K.moved hW.alike hK, hD9⟩⟩, hS.F ht⟩) hS.2.2 dXM_value_72
        · refine lv_aload_n hx hb dXM_value_61 rfl (lv_at hl 1 rfl) ?_
          refine va_get (D := (dC, dI)) (ci := 5) (v := .long (jL mu1')) (C := RXM) (T := TXM) (N := 19) hx hb hts (fun w h => jmem (inXM w h)) hown hK hP 1 rfl rfl 15 (by decide) (hts _ (jmem tw_643)) (fun _ h9 => h9) rfl dXM_value_62 ?_
          refine lv_goto (tgt := 72) hx hb dXM_value_65 (by decide) ?_
          have hP9 := hP.sub (ws' := [(ma, .inr (5, [.int (jI mth1'), .int (jI mn), .ref a0, .int (jI mp), .int (jI mw), .ref a1, .ref a2, .ref a3, .ref a4, .ref a5, .ref a6, .ref a7, .ref a8, .ref a9, .ref a10, .long (jL mu1'), .long (jL md1'), .int (jI mo), .ref a11])), (a1, .inl (cZ, 62, .inl (jA y1))), (a2, .inl (cA, 62, .inl (jA y2))), (a3, .inl (cZ, 496, .inl (jA y3))), (a4, .inl (cA, 496, .inl (jA y4))), (a5, .inl (cA, 496, .inl (jA y5))), (a8, .inl (cZ, 8, .inl (jA y8))), (a9, .inl (cA, 64, .inl (jA y9))), (a10, .inl (cA, 8, .inl (jA y10)))]) [1, 2, 3, 4, 5, 6, 0, 7, 8] rfl
          have hD9 := hD.sub (ws' := [(ma, .inr (5, [.int (jI mth1'), .int (jI mn), .ref a0, .int (jI mp), .int (jI mw), .ref a1, .ref a2, .ref a3, .ref a4, .ref a5, .ref a6, .ref a7, .ref a8, .ref a9, .ref a10, .long (jL mu1'), .long (jL md1'), .int (jI mo), .ref a11])), (a1, .inl (cZ, 62, .inl (jA y1))), (a2, .inl (cA, 62, .inl (jA y2))), (a3, .inl (cZ, 496, .inl (jA y3))), (a4, .inl (cA, 496, .inl (jA y4))), (a5, .inl (cA, 496, .inl (jA y5))), (a8, .inl (cZ, 8, .inl (jA y8))), (a9, .inl (cA, 64, .inl (jA y9))), (a10, .inl (cA, 8, .inl (jA y10)))]) [1, 2, 3, 4, 5, 6, 0, 7, 8] (by decide) rfl
          subst hAe
          subst hQ
          exact W.lret (v := jL mu1') hx hb hr (fun t ht hW => ⟨⟨_, (mu1', mth1', mu1', md1'), rfl, ⟨rfl, Eq.trans (by rw [f_XM_valueP_J42_s]; rw [← hwb]; try dsimp only; rw [if_neg c45_]; rw [← hwb2]; try dsimp only; rw [if_pos c58_]; try rfl) hF, show 0 ≤ mth1' ∧ mth1' ≤ 2 from by first | assumption | omega | exact jset_b (by assumption) (by omega) | exact jset_l (by assumption) (by omega) | exact jset_l (fun _ _ => rfl) (by omega) | exact fun _ _ => rfl | exact l_trans (by assumption) (by assumption), show 0 ≤ mu1' ∧ mu1' ≤ 1024000000000000 from by first | assumption | omega | exact jset_b (by assumption) (by omega) | exact jset_l (by assumption) (by omega) | exact jset_l (fun _ _ => rfl) (by omega) | exact fun _ _ => rfl | exact l_trans (by assumption) (by assumption)⟩, ⟨by rw [ht]; exact hP9, va_K.moved hW.alike hK, hD9⟩⟩, hS.F ht⟩) hS.2.2 dXM_value_72
      · refine ji_lconst (z := 0) hx hb dXM_value_48 rfl ?_
        have hP9 := hP.sub (ws' := [(ma, .inr (5, [.int (jI mth1'), .int (jI mn), .ref a0, .int (jI mp), .int (jI mw), .ref a1, .ref a2, .ref a3, .ref a4, .ref a5, .ref a6, .ref a7, .ref a8, .ref a9, .ref a10, .long (jL mu), .long (jL md), .int (jI mo), .ref a11])), (a1, .inl (cZ, 62, .inl (jA y1))), (a2, .inl (cA, 62, .inl (jA y2))), (a3, .inl (cZ, 496, .inl (jA y3))), (a4, .inl (cA, 496, .inl (jA y4))), (a5, .inl (cA, 496, .inl (jA y5))), (a8, .inl (cZ, 8, .inl (jA y8))), (a9, .inl (cA, 64, .inl (jA y9))), (a10, .inl (cA, 8, .inl (jA y10)))]) [8, 0, 1, 2, 3, 4, 5, 6, 7] rfl
        have hD9 := hD.sub (ws' := [(ma, .inr (5, [.int (jI mth1'), .int (jI mn), .ref a0, .int (jI mp), .int (jI mw), .ref a1, .ref a2, .ref a3, .ref a4, .ref a5, .ref a6, .ref a7, .ref a8, .ref a9, .ref a10, .long (jL mu), .long (jL md), .int (jI mo), .ref a11])), (a1, .inl (cZ, 62, .inl (jA y1))), (a2, .inl (cA, 62, .inl (jA y2))), (a3, .inl (cZ, 496, .inl (jA y3))), (a4, .inl (cA, 496, .inl (jA y4))), (a5, .inl (cA, 496, .inl (jA y5))), (a8, .inl (cZ, 8, .inl (jA y8))), (a9, .inl (cA, 64, .inl (jA y9))), (a10, .inl (cA, 8, .inl (jA y10)))]) [8, 0, 1, 2, 3, 4, 5, 6, 7] (by decide) rfl
        subst hAe
        subst hQ
        exact W.lret (v := jL 0) hx hb hr (fun t ht hW => ⟨⟨_, (0, mth1', mu, md), rfl, ⟨rfl, Eq.trans (by rw [f_XM_valueP_J42_s]; rw [← hwb]; try dsimp only; rw [if_pos c45_]; try rfl) hF, show 0 ≤ mth1' ∧ mth1' ≤ 2 from by first | assumption | omega | exact jset_b (by assumption) (by omega) | exact jset_l (by assumption) (by omega) | exact jset_l (fun _ _ => rfl) (by omega) | exact fun _ _ => rfl | exact l_trans (by assumption) (by assumption), show 0 ≤ 0 ∧ 0 ≤ 1024000000000000 from by first | assumption | omega | exact jset_b (by assumption) (by omega) | exact jset_l (by assumption) (by omega) | exact jset_l (fun _ _ => rfl) (by omega) | exact fun _ _ => rfl | exact l_trans (by assumption) (by assumption)⟩, ⟨by rw [ht]; exact hP9, va_K.moved hW.alike hK, hD9⟩⟩, hS.F ht⟩) hS.2.2 dXM_value_49
    refine lv_iload_n hx hb dXM_value_24 rfl (lv_at hl 0 rfl) ?_
    refine ji_if_eq (tgt := 41) hx hb dXM_value_25 (by decide) (by omega) (fun c25_ => ?_) (fun c25_ => ?_)
    · refine ji_iconst hx hb dXM_value_41 ?_
      exact join42 0 (Eq.trans (by rw [f_XM_valueP_J21_s]; rw [if_pos c25_]; try rfl) hF) (by first | assumption | omega | exact jset_b (by assumption) (by omega)) _ _ hP hD hS ls (lv_sub hl [0, 1, 2, 3] rfl)
    · refine lv_aload_n hx hb dXM_value_28 rfl (lv_at hl 1 rfl) ?_
      refine va_get (D := (dC, dI)) (ci := 5) (v := .ref a8) (C := RXM) (T := TXM) (N := 19) hx hb hts (fun w h => jmem (inXM w h)) hown hK hP 0 rfl rfl 12 (by decide) (hts _ (jmem tw_640)) (fun _ h9 => h9) rfl dXM_value_29 ?_
      refine lv_iload_n hx hb dXM_value_32 rfl (lv_at hl 2 rfl) ?_
      refine ji_zald hx hb hK hP 6 1 rfl rfl ⟨by omega, by omega⟩ (by decide) dXM_value_33 ?_
      have rb := hy8 z1
      refine ji_if_eq (tgt := 41) hx hb dXM_value_34 (by decide) (by omega) (fun c34_ => ?_) (fun c34_ => ?_)
      · refine ji_iconst hx hb dXM_value_41 ?_
        exact join42 0 (Eq.trans (by rw [f_XM_valueP_J21_s]; rw [if_neg c25_, if_pos c34_]; try rfl) hF) (by first | assumption | omega | exact jset_b (by assumption) (by omega)) _ _ hP hD hS ls (lv_sub hl [0, 1, 2, 3] rfl)
      · refine ji_iconst hx hb dXM_value_37 ?_
        refine lv_goto (tgt := 42) hx hb dXM_value_38 (by decide) ?_
        exact join42 1 (Eq.trans (by rw [f_XM_valueP_J21_s]; rw [if_neg c25_, if_neg c34_]; try rfl) hF) (by first | assumption | omega | exact jset_b (by assumption) (by omega)) _ _ hP hD hS ls (lv_sub hl [0, 1, 2, 3] rfl)
  refine lv_iload_n hx hb dXM_value_0 rfl (lv_at hl 1 rfl) ?_
  refine jrSi (rest := []) ⟨hx, hb, hml, hown, hts⟩ (c_XM_isKind l dC dI cA cZ z1 (by first | assumption | omega)) (cwS 1 hts (jG_S tw_795 tw_796 tw_6 tw_797) rfl rfl rfl (by decide +kernel) (by rw [hR]; exact ⟨Nat.le_of_ble_eq_true rfl, Nat.le_of_ble_eq_true rfl⟩)) hK hP hN [] rfl rfl hl.1 rfl (Nat.le_of_ble_eq_true rfl) dXM_value_1 (by rw [hR]; exact ⟨Nat.le_of_ble_eq_true rfl, Nat.le_of_ble_eq_true rfl⟩) ?_
  have f5 := f_XM_isKind_b z1 (by first | assumption | omega)
  refine ji_if_eq (tgt := 20) hx hb dXM_value_4 (by decide) (by omega) (fun c4_ => ?_) (fun c4_ => ?_)
  · refine ji_iconst hx hb dXM_value_20 ?_
    exact join21 0 (Eq.trans (by rw [f_XM_valueP_s]; rw [if_pos c4_]; try rfl) rfl) (by first | assumption | omega | exact jset_b (by assumption) (by omega)) _ _ hP hD hS ls (lv_sub hl [0, 1, 2] rfl)
  · refine lv_iload_n hx hb dXM_value_7 rfl (lv_at hl 2 rfl) ?_
    refine ji_iconst hx hb dXM_value_8 ?_
    refine ji_iconst hx hb dXM_value_9 ?_
    refine jrSi (rest := []) ⟨hx, hb, hml, hown, hts⟩ (c_XM_in l dC dI cA cZ z2 0 1 (by first | assumption | omega) (by first | assumption | omega) (by first | assumption | omega)) (cwS 3 hts (jG_S tw_695 tw_696 tw_6 tw_697) rfl rfl rfl (by decide +kernel) (by rw [hR]; exact ⟨Nat.le_of_ble_eq_true rfl, Nat.le_of_ble_eq_true rfl⟩)) hK hP hN [] rfl rfl hl.1 rfl (Nat.le_of_ble_eq_true rfl) dXM_value_10 (by rw [hR]; exact ⟨Nat.le_of_ble_eq_true rfl, Nat.le_of_ble_eq_true rfl⟩) ?_
    have f6 := f_XM_in_b z2 0 1 (by first | assumption | omega) (by first | assumption | omega) (by first | assumption | omega)
    refine ji_if_eq (tgt := 20) hx hb dXM_value_13 (by decide) (by omega) (fun c13_ => ?_) (fun c13_ => ?_)
    · refine ji_iconst hx hb dXM_value_20 ?_
      exact join21 0 (Eq.trans (by rw [f_XM_valueP_s]; rw [if_neg c4_, if_pos c13_]; try rfl) rfl) (by first | assumption | omega | exact jset_b (by assumption) (by omega)) _ _ hP hD hS ls (lv_sub hl [0, 1, 2] rfl)
    · refine ji_iconst hx hb dXM_value_16 ?_
      refine lv_goto (tgt := 21) hx hb dXM_value_17 (by decide) ?_
      exact join21 1 (Eq.trans (by rw [f_XM_valueP_s]; rw [if_neg c4_, if_neg c13_]; try rfl) rfl) (by first | assumption | omega | exact jset_b (by assumption) (by omega)) _ _ hP hD hS ls (lv_sub hl [0, 1, 2] rfl)

end
section
noncomputable def g_XM_fitsP_L57 (mth : Int) (mn : Int) (mp : Int) (mw : Int) (mu : Int) (md : Int) (mo : Int) (y1 : Int → Int) (y2 : Int → Int) (y3 : Int → Int) (y4 : Int → Int) (y5 : Int → Int) (y7 : Int → Int) (y8 : Int → Int) (y9 : Int → Int) (y10 : Int → Int) (z1 : Int) (mth1' : Int) : Nat → Int → Int → Int → Int × Int × Int × Int
  | 0, _, _, _ => (0, 0, 0, 0)
  | n9 + 1, k2, u9, d9 =>
    if k2 < 4 then
      match f_XM_isAboveP mth1' mn mp mw u9 d9 mo y1 y2 y3 y4 y5 y7 y8 y9 y10 z1 0 k2 2 with
      | (r2, mu1', md1') =>
        if r2 = 0 then
          g_XM_fitsP_L57 mth mn mp mw mu md mo y1 y2 y3 y4 y5 y7 y8 y9 y10 z1 mth1' n9 (k2 + 1) mu1' md1'
        else
          (8 + k2, mth1', mu1', md1')
    else
      (-1, mth1', u9, d9)
noncomputable def f_XM_fitsP_L57 : Int → Int → Int → Int → Int → Int → Int → (Int → Int) → (Int → Int) → (Int → Int) → (Int → Int) → (Int → Int) → (Int → Int) → (Int → Int) → (Int → Int) → (Int → Int) → Int → Int → Nat → Int → Int → Int → Int × Int × Int × Int := jopq g_XM_fitsP_L57
theorem f_XM_fitsP_L57_q : f_XM_fitsP_L57 = g_XM_fitsP_L57 := jopq_eq _
theorem f_XM_fitsP_L57_s (mth : Int) (mn : Int) (mp : Int) (mw : Int) (mu : Int) (md : Int) (mo : Int) (y1 : Int → Int) (y2 : Int → Int) (y3 : Int → Int) (y4 : Int → Int) (y5 : Int → Int) (y7 : Int → Int) (y8 : Int → Int) (y9 : Int → Int) (y10 : Int → Int) (z1 : Int) (mth1' : Int) (n9 : Nat) (k2 : Int) (u9 : Int) (d9 : Int) : f_XM_fitsP_L57 mth mn mp mw mu md mo y1 y2 y3 y4 y5 y7 y8 y9 y10 z1 mth1' (n9 + 1) k2 u9 d9 = (
    if k2 < 4 then
      match f_XM_isAboveP mth1' mn mp mw u9 d9 mo y1 y2 y3 y4 y5 y7 y8 y9 y10 z1 0 k2 2 with
      | (r2, mu1', md1') =>
        if r2 = 0 then
          f_XM_fitsP_L57 mth mn mp mw mu md mo y1 y2 y3 y4 y5 y7 y8 y9 y10 z1 mth1' n9 (k2 + 1) mu1' md1'
        else
          (8 + k2, mth1', mu1', md1')
    else
      (-1, mth1', u9, d9)
  : Int × Int × Int × Int) := by rw [f_XM_fitsP_L57_q]; rfl
noncomputable def g_XM_fitsP_L17 (mth : Int) (mn : Int) (mp : Int) (mw : Int) (mu : Int) (md : Int) (mo : Int) (y1 : Int → Int) (y2 : Int → Int) (y3 : Int → Int) (y4 : Int → Int) (y5 : Int → Int) (y7 : Int → Int) (y8 : Int → Int) (y9 : Int → Int) (y10 : Int → Int) (z1 : Int) (mth1' : Int) : Nat → Int → Int × Int × Int × Int
  | 0, _ => (0, 0, 0, 0)
  | n9 + 1, k =>
    if k < 8 then
      if (f_XM_in (y10 k) (f_XM_lowOfP mth1' mn mp mw mu md mo y1 y2 y3 y4 z1 k) (f_XM_highOfP mth1' mn mp mw mu md mo y1 y2 y3 y5 z1 k)) = 0 then
        (k, mth1', mu, md)
      else
        g_XM_fitsP_L17 mth mn mp mw mu md mo y1 y2 y3 y4 y5 y7 y8 y9 y10 z1 mth1' n9 (k + 1)
    else
      f_XM_fitsP_L57 mth mn mp mw mu md mo y1 y2 y3 y4 y5 y7 y8 y9 y10 z1 mth1' (Int.toNat (4 - 0) + 1) 0 mu md
noncomputable def f_XM_fitsP_L17 : Int → Int → Int → Int → Int → Int → Int → (Int → Int) → (Int → Int) → (Int → Int) → (Int → Int) → (Int → Int) → (Int → Int) → (Int → Int) → (Int → Int) → (Int → Int) → Int → Int → Nat → Int → Int × Int × Int × Int := jopq g_XM_fitsP_L17
theorem f_XM_fitsP_L17_q : f_XM_fitsP_L17 = g_XM_fitsP_L17 := jopq_eq _
theorem f_XM_fitsP_L17_s (mth : Int) (mn : Int) (mp : Int) (mw : Int) (mu : Int) (md : Int) (mo : Int) (y1 : Int → Int) (y2 : Int → Int) (y3 : Int → Int) (y4 : Int → Int) (y5 : Int → Int) (y7 : Int → Int) (y8 : Int → Int) (y9 : Int → Int) (y10 : Int → Int) (z1 : Int) (mth1' : Int) (n9 : Nat) (k : Int) : f_XM_fitsP_L17 mth mn mp mw mu md mo y1 y2 y3 y4 y5 y7 y8 y9 y10 z1 mth1' (n9 + 1) k = (
    if k < 8 then
      if (f_XM_in (y10 k) (f_XM_lowOfP mth1' mn mp mw mu md mo y1 y2 y3 y4 z1 k) (f_XM_highOfP mth1' mn mp mw mu md mo y1 y2 y3 y5 z1 k)) = 0 then
        (k, mth1', mu, md)
      else
        f_XM_fitsP_L17 mth mn mp mw mu md mo y1 y2 y3 y4 y5 y7 y8 y9 y10 z1 mth1' n9 (k + 1)
    else
      f_XM_fitsP_L57 mth mn mp mw mu md mo y1 y2 y3 y4 y5 y7 y8 y9 y10 z1 mth1' (Int.toNat (4 - 0) + 1) 0 mu md
  : Int × Int × Int × Int) := by rw [f_XM_fitsP_L17_q]; rfl
noncomputable def g_XM_fitsP (mth : Int) (mn : Int) (mp : Int) (mw : Int) (mu : Int) (md : Int) (mo : Int) (y1 : Int → Int) (y2 : Int → Int) (y3 : Int → Int) (y4 : Int → Int) (y5 : Int → Int) (y7 : Int → Int) (y8 : Int → Int) (y9 : Int → Int) (y10 : Int → Int) (z1 : Int) : Int × Int × Int × Int :=
  match f_XM_goesP mth mn mp mw mu md mo (f_XM_isTold mth mn mp mw mu md mo y1 z1) 1 with
  | (r, mth1') =>
    if r = 0 then
      (0, mth1', mu, md)
    else
      f_XM_fitsP_L17 mth mn mp mw mu md mo y1 y2 y3 y4 y5 y7 y8 y9 y10 z1 mth1' (Int.toNat (8 - 0) + 1) 0
noncomputable def f_XM_fitsP : Int → Int → Int → Int → Int → Int → Int → (Int → Int) → (Int → Int) → (Int → Int) → (Int → Int) → (Int → Int) → (Int → Int) → (Int → Int) → (Int → Int) → (Int → Int) → Int → Int × Int × Int × Int := jopq g_XM_fitsP
theorem f_XM_fitsP_q : f_XM_fitsP = g_XM_fitsP := jopq_eq _
theorem f_XM_fitsP_s (mth : Int) (mn : Int) (mp : Int) (mw : Int) (mu : Int) (md : Int) (mo : Int) (y1 : Int → Int) (y2 : Int → Int) (y3 : Int → Int) (y4 : Int → Int) (y5 : Int → Int) (y7 : Int → Int) (y8 : Int → Int) (y9 : Int → Int) (y10 : Int → Int) (z1 : Int) : f_XM_fitsP mth mn mp mw mu md mo y1 y2 y3 y4 y5 y7 y8 y9 y10 z1 = (
    match f_XM_goesP mth mn mp mw mu md mo (f_XM_isTold mth mn mp mw mu md mo y1 z1) 1 with
    | (r, mth1') =>
      if r = 0 then
        (0, mth1', mu, md)
      else
        f_XM_fitsP_L17 mth mn mp mw mu md mo y1 y2 y3 y4 y5 y7 y8 y9 y10 z1 mth1' (Int.toNat (8 - 0) + 1) 0
  : Int × Int × Int × Int) := by rw [f_XM_fitsP_q]; rfl
set_option maxHeartbeats 4000000 in
set_option maxRecDepth 100000 in
theorem c_XM_fitsP (l : Launch) (dC : Nat → ClassId) (dI : Nat → Nat → Nat) (cA cZ : ClassId) (sz : Nat) (ma : Nat) (a0 : Nat) (a1 : Nat) (a2 : Nat) (a3 : Nat) (a4 : Nat) (a5 : Nat) (a6 : Nat) (a7 : Nat) (a8 : Nat) (a9 : Nat) (a10 : Nat) (a11 : Nat) (mth : Int) (mn : Int) (mp : Int) (mw : Int) (mu : Int) (md : Int) (mo : Int) (y1 : Int → Int) (y2 : Int → Int) (y3 : Int → Int) (y4 : Int → Int) (y5 : Int → Int) (y7 : Int → Int) (y8 : Int → Int) (y9 : Int → Int) (y10 : Int → Int) (z1 : Int) (hy1 : ∀ i, 0 ≤ y1 i ∧ y1 i ≤ 1) (hy2 : ∀ i, 0 ≤ y2 i ∧ y2 i ≤ 30) (hy3 : ∀ i, 0 ≤ y3 i ∧ y3 i ≤ 1) (hy4 : ∀ i, 0 ≤ y4 i ∧ y4 i ≤ 100000) (hy5 : ∀ i, 0 ≤ y5 i ∧ y5 i ≤ 100000) (hy7 : ∀ i, -1 ≤ y7 i ∧ y7 i ≤ 999999) (hy8 : ∀ i, 0 ≤ y8 i ∧ y8 i ≤ 1) (hy9 : ∀ i, 0 ≤ y9 i ∧ y9 i ≤ 20) (hy10 : ∀ i, 0 ≤ y10 i ∧ y10 i ≤ 100000) (hiz1 : i32 z1) : Met l yXM_fits (Cond.code yXM_fits cXM_fits 3 (some .int) :: TBL) ({ frames := 7, cells := 0, slots := 0, locals := 158 } : Room) (va_Pc [.ref ma, .int (jI z1)] (jBw (dC, dI) [(cA, .int), (cZ, .boolean)] [(ma, .inr (5, [.int (jI mth), .int (jI mn), .ref a0, .int (jI mp), .int (jI mw), .ref a1, .ref a2, .ref a3, .ref a4, .ref a5, .ref a6, .ref a7, .ref a8, .ref a9, .ref a10, .long (jL mu), .long (jL md), .int (jI mo), .ref a11])), (a1, .inl (cZ, 62, .inl (jA y1))), (a2, .inl (cA, 62, .inl (jA y2))), (a3, .inl (cZ, 496, .inl (jA y3))), (a4, .inl (cA, 496, .inl (jA y4))), (a5, .inl (cA, 496, .inl (jA y5))), (a7, .inl (cA, 248, .inl (jA y7))), (a8, .inl (cZ, 8, .inl (jA y8))), (a9, .inl (cA, 64, .inl (jA y9))), (a10, .inl (cA, 8, .inl (jA y10)))] sz)) (va_Qi (fun (r : Int32) (u : Int × Int × Int × Int) => r = jI u.1 ∧ u = f_XM_fitsP mth mn mp mw mu md mo y1 y2 y3 y4 y5 y7 y8 y9 y10 z1 ∧ (0 ≤ u.2.1 ∧ u.2.1 ≤ 2) ∧ (-1 ≤ u.1 ∧ u.1 ≤ 11)) (fun u t => jE (dC, dI) [(cA, .int), (cZ, .boolean)] [(ma, .inr (5, [.int (jI mth), .int (jI mn), .ref a0, .int (jI mp), .int (jI mw), .ref a1, .ref a2, .ref a3, .ref a4, .ref a5, .ref a6, .ref a7, .ref a8, .ref a9, .ref a10, .long (jL mu), .long (jL md), .int (jI mo), .ref a11])), (a1, .inl (cZ, 62, .inl (jA y1))), (a2, .inl (cA, 62, .inl (jA y2))), (a3, .inl (cZ, 496, .inl (jA y3))), (a4, .inl (cA, 496, .inl (jA y4))), (a5, .inl (cA, 496, .inl (jA y5))), (a7, .inl (cA, 248, .inl (jA y7))), (a8, .inl (cZ, 8, .inl (jA y8))), (a9, .inl (cA, 64, .inl (jA y9))), (a10, .inl (cA, 8, .inl (jA y10)))] sz [(ma, .inr (5, [.int (jI u.2.1), .int (jI mn), .ref a0, .int (jI mp), .int (jI mw), .ref a1, .ref a2, .ref a3, .ref a4, .ref a5, .ref a6, .ref a7, .ref a8, .ref a9, .ref a10, .long (jL u.2.2.1), .long (jL u.2.2.2), .int (jI mo), .ref a11])), (a1, .inl (cZ, 62, .inl (jA y1))), (a2, .inl (cA, 62, .inl (jA y2))), (a3, .inl (cZ, 496, .inl (jA y3))), (a4, .inl (cA, 496, .inl (jA y4))), (a5, .inl (cA, 496, .inl (jA y5))), (a7, .inl (cA, 248, .inl (jA y7))), (a8, .inl (cZ, 8, .inl (jA y8))), (a9, .inl (cA, 64, .inl (jA y9))), (a10, .inl (cA, 8, .inl (jA y10)))] t) (va_A [(ma, .inr (5, [.int (jI mth), .int (jI mn), .ref a0, .int (jI mp), .int (jI mw), .ref a1, .ref a2, .ref a3, .ref a4, .ref a5, .ref a6, .ref a7, .ref a8, .ref a9, .ref a10, .long (jL mu), .long (jL md), .int (jI mo), .ref a11])), (a1, .inl (cZ, 62, .inl (jA y1))), (a2, .inl (cA, 62, .inl (jA y2))), (a3, .inl (cZ, 496, .inl (jA y3))), (a4, .inl (cA, 496, .inl (jA y4))), (a5, .inl (cA, 496, .inl (jA y5))), (a7, .inl (cA, 248, .inl (jA y7))), (a8, .inl (cZ, 8, .inl (jA y8))), (a9, .inl (cA, 64, .inl (jA y9))), (a10, .inl (cA, 8, .inl (jA y10)))] sz)) 0 0 (va_A [(ma, .inr (5, [.int (jI mth), .int (jI mn), .ref a0, .int (jI mp), .int (jI mw), .ref a1, .ref a2, .ref a3, .ref a4, .ref a5, .ref a6, .ref a7, .ref a8, .ref a9, .ref a10, .long (jL mu), .long (jL md), .int (jI mo), .ref a11])), (a1, .inl (cZ, 62, .inl (jA y1))), (a2, .inl (cA, 62, .inl (jA y2))), (a3, .inl (cZ, 496, .inl (jA y3))), (a4, .inl (cA, 496, .inl (jA y4))), (a5, .inl (cA, 496, .inl (jA y5))), (a7, .inl (cA, 248, .inl (jA y7))), (a8, .inl (cZ, 8, .inl (jA y8))), (a9, .inl (cA, 64, .inl (jA y9))), (a10, .inl (cA, 8, .inl (jA y10)))] sz) := by
  refine jMet (cc := cXM_fits) (maxL := 3) (ret := some .int) (by decide) rfl ?_
  intro p e s m args below meth c s₁ R Q hR hQ B hml hv
  obtain ⟨rfl, hsz, hP, hK, hD0, hN⟩ := hv
  have hx := B.exec
  have hb := B.bytes
  have hr := B.returns
  have hts := atoms_spec (ws := Cond.code yXM_fits cXM_fits 3 (some .int) :: TBL) B.pre
  have hown : s.vm.findClass RXM = some m.cls := findClass_of_methodNamed B.named
  have hlocks := B.notSynchronized
  subst hsz
  obtain ⟨A, hAe⟩ : ∃ A, A = va_A [(ma, .inr (5, [.int (jI mth), .int (jI mn), .ref a0, .int (jI mp), .int (jI mw), .ref a1, .ref a2, .ref a3, .ref a4, .ref a5, .ref a6, .ref a7, .ref a8, .ref a9, .ref a10, .long (jL mu), .long (jL md), .int (jI mo), .ref a11])), (a1, .inl (cZ, 62, .inl (jA y1))), (a2, .inl (cA, 62, .inl (jA y2))), (a3, .inl (cZ, 496, .inl (jA y3))), (a4, .inl (cA, 496, .inl (jA y4))), (a5, .inl (cA, 496, .inl (jA y5))), (a7, .inl (cA, 248, .inl (jA y7))), (a8, .inl (cZ, 8, .inl (jA y8))), (a9, .inl (cA, 64, .inl (jA y9))), (a10, .inl (cA, 8, .inl (jA y10)))] s.heap.size := ⟨_, rfl⟩
  have hD : va_D A [(ma, .inr (5, [.int (jI mth), .int (jI mn), .ref a0, .int (jI mp), .int (jI mw), .ref a1, .ref a2, .ref a3, .ref a4, .ref a5, .ref a6, .ref a7, .ref a8, .ref a9, .ref a10, .long (jL mu), .long (jL md), .int (jI mo), .ref a11])), (a1, .inl (cZ, 62, .inl (jA y1))), (a2, .inl (cA, 62, .inl (jA y2))), (a3, .inl (cZ, 496, .inl (jA y3))), (a4, .inl (cA, 496, .inl (jA y4))), (a5, .inl (cA, 496, .inl (jA y5))), (a7, .inl (cA, 248, .inl (jA y7))), (a8, .inl (cZ, 8, .inl (jA y8))), (a9, .inl (cA, 64, .inl (jA y9))), (a10, .inl (cA, 8, .inl (jA y10)))] := by rw [hAe]; exact hD0.self
  have hA : ∀ q : Nat, s.heap.size ≤ q → A q := fun q h => by rw [hAe]; exact Or.inr h
  have hS : va_S A s.heap s.heap [] := va_S.rf
  have hP : va_P (dC, dI) vwCl [(ma, .inr (5, [.int (jI mth), .int (jI mn), .ref a0, .int (jI mp), .int (jI mw), .ref a1, .ref a2, .ref a3, .ref a4, .ref a5, .ref a6, .ref a7, .ref a8, .ref a9, .ref a10, .long (jL mu), .long (jL md), .int (jI mo), .ref a11])), (a1, .inl (cZ, 62, .inl (jA y1))), (a2, .inl (cA, 62, .inl (jA y2))), (a3, .inl (cZ, 496, .inl (jA y3))), (a4, .inl (cA, 496, .inl (jA y4))), (a5, .inl (cA, 496, .inl (jA y5))), (a7, .inl (cA, 248, .inl (jA y7))), (a8, .inl (cZ, 8, .inl (jA y8))), (a9, .inl (cA, 64, .inl (jA y9))), (a10, .inl (cA, 8, .inl (jA y10)))] s.heap := hP
  have hl := lv_entry ([.ref ma, .int (jI z1)]) (n := 3) (Nat.le_of_ble_eq_true rfl)
  rw [lg_entry_eq]
  generalize (lg_sl ([.ref ma, .int (jI z1)]) ++ List.replicate (3 - (lg_sl ([.ref ma, .int (jI z1)])).length) Slot.unset).toArray = ls at hl ⊢
  have hl : lv_has ls 3 [(0, .ref ma), (1, .int (jI z1))] := hl
  refine lv_aload_n hx hb dXM_fits_0 rfl (lv_at hl 0 rfl) ?_
  refine lv_aload_n hx hb dXM_fits_1 rfl (lv_at hl 0 rfl) ?_
  refine lv_iload_n hx hb dXM_fits_2 rfl (lv_at hl 1 rfl) ?_
  refine jrVi (rest := [.ref ma]) ⟨hx, hb, hml, hown, hts⟩ (c_XM_isTold l dC dI cA cZ ma a0 a1 a2 a3 a4 a5 a6 a7 a8 a9 a10 a11 mth mn mp mw mu md mo y1 z1 (by first | assumption | omega) (by first | assumption | omega)) (cwV 1 hts (jG_V tw_768 tw_770 ts_29 tw_6 tw_771) rfl rfl rfl (by decide +kernel) (by rw [hR]; exact ⟨Nat.le_of_ble_eq_true rfl, Nat.le_of_ble_eq_true rfl⟩)) hK hP hN [0, 1] rfl 0 5 rfl rfl rfl rfl hl.1 rfl (Nat.le_of_ble_eq_true rfl) dXM_fits_3 (by rw [hR]; exact ⟨Nat.le_of_ble_eq_true rfl, Nat.le_of_ble_eq_true rfl⟩) ?_
  have f := f_XM_isTold_b mth mn mp mw mu md mo y1 z1 (by first | assumption | omega) (by first | assumption | omega)
  refine ji_iconst hx hb dXM_fits_6 ?_
  refine jwVi (rest := []) (wr := [(a1, .inl (cZ, 62, .inl (jA y1))), (a2, .inl (cA, 62, .inl (jA y2))), (a3, .inl (cZ, 496, .inl (jA y3))), (a4, .inl (cA, 496, .inl (jA y4))), (a5, .inl (cA, 496, .inl (jA y5))), (a7, .inl (cA, 248, .inl (jA y7))), (a8, .inl (cZ, 8, .inl (jA y8))), (a9, .inl (cA, 64, .inl (jA y9))), (a10, .inl (cA, 8, .inl (jA y10)))]) ⟨hx, hb, hml, hown, hts⟩ (c_XM_goesP l dC dI cA cZ _ ma a0 a1 a2 a3 a4 a5 a6 a7 a8 a9 a10 a11 mth mn mp mw mu md mo (f_XM_isTold mth mn mp mw mu md mo y1 z1) 1 (by first | assumption | omega) (by first | assumption | omega)) (cwV 2 hts (jG_V tw_698 tw_700 ts_14 tw_6 tw_701) rfl rfl rfl (by decide +kernel) (by rw [hR]; exact ⟨Nat.le_of_ble_eq_true rfl, Nat.le_of_ble_eq_true rfl⟩)) hK hP hD hS hA hN [0] [1, 2, 3, 4, 5, 6, 7, 8, 9] rfl rfl (by decide) (by decide) (by decide) 0 5 rfl rfl rfl rfl hl.1 rfl (Nat.le_of_ble_eq_true rfl) dXM_fits_7 (by rw [hR]; exact ⟨Nat.le_of_ble_eq_true rfl, Nat.le_of_ble_eq_true rfl⟩) (fun v u H locs hwb hP hD hS => ?_)
  obtain ⟨r, mth1'⟩ := u
  try dsimp only at hwb
  obtain ⟨er, hwb, f1⟩ := hwb
  subst er
  have f1 : (r = 0 ∧ mth1' = 1 ∧ (f_XM_isTold mth mn mp mw mu md mo y1 z1) = 0) ∨ (r = 0 ∧ mth1' = 2 ∧ (f_XM_isTold mth mn mp mw mu md mo y1 z1) = 1 ∧ (1 : Int) = 0) ∨ (r = 1 ∧ mth1' = 0 ∧ (f_XM_isTold mth mn mp mw mu md mo y1 z1) = 1 ∧ (1 : Int) = 1) := f1
  have hP : va_P (dC, dI) vwCl [(a1, .inl (cZ, 62, .inl (jA y1))), (a2, .inl (cA, 62, .inl (jA y2))), (a3, .inl (cZ, 496, .inl (jA y3))), (a4, .inl (cA, 496, .inl (jA y4))), (a5, .inl (cA, 496, .inl (jA y5))), (a7, .inl (cA, 248, .inl (jA y7))), (a8, .inl (cZ, 8, .inl (jA y8))), (a9, .inl (cA, 64, .inl (jA y9))), (a10, .inl (cA, 8, .inl (jA y10))), (ma, .inr (5, [.int (jI mth1'), .int (jI mn), .ref a0, .int (jI mp), .int (jI mw), .ref a1, .ref a2, .ref a3, .ref a4, .ref a5, .ref a6, .ref a7, .ref a8, .ref a9, .ref a10, .long (jL mu), .long (jL md), .int (jI mo), .ref a11]))] H := hP
  have hD : va_D A [(a1, .inl (cZ, 62, .inl (jA y1))), (a2, .inl (cA, 62, .inl (jA y2))), (a3, .inl (cZ, 496, .inl (jA y3))), (a4, .inl (cA, 496, .inl (jA y4))), (a5, .inl (cA, 496, .inl (jA y5))), (a7, .inl (cA, 248, .inl (jA y7))), (a8, .inl (cZ, 8, .inl (jA y8))), (a9, .inl (cA, 64, .inl (jA y9))), (a10, .inl (cA, 8, .inl (jA y10))), (ma, .inr (5, [.int (jI mth1'), .int (jI mn), .ref a0, .int (jI mp), .int (jI mw), .ref a1, .ref a2, .ref a3, .ref a4, .ref a5, .ref a6, .ref a7, .ref a8, .ref a9, .ref a10, .long (jL mu), .long (jL md), .int (jI mo), .ref a11]))] := hD
  refine ji_if_ne (tgt := 15) hx hb dXM_fits_10 (by decide) (by omega) (fun c10_ => ?_) (fun c10_ => ?_)
  · refine ji_iconst hx hb dXM_fits_15 ?_
    refine lv_istore_n (lv' := [(2, .int (jI 0)), (0, .ref ma), (1, .int (jI z1))]) hx hb dXM_fits_16 rfl hl (by decide) rfl (fun ls hl => ?_)
    have loop17 : ∀ (n9 : Nat) (k : Int) , 8 - k < (n9 : Int) → f_XM_fitsP_L17 mth mn mp mw mu md mo y1 y2 y3 y4 y5 y7 y8 y9 y10 z1 mth1' n9 k = f_XM_fitsP mth mn mp mw mu md mo y1 y2 y3 y4 y5 y7 y8 y9 y10 z1 → (0 ≤ k ∧ k ≤ 8) → ∀ (H : Heap) (locs : List Loc), va_P (dC, dI) vwCl [(a1, .inl (cZ, 62, .inl (jA y1))), (a2, .inl (cA, 62, .inl (jA y2))), (a3, .inl (cZ, 496, .inl (jA y3))), (a4, .inl (cA, 496, .inl (jA y4))), (a5, .inl (cA, 496, .inl (jA y5))), (a7, .inl (cA, 248, .inl (jA y7))), (a8, .inl (cZ, 8, .inl (jA y8))), (a9, .inl (cA, 64, .inl (jA y9))), (a10, .inl (cA, 8, .inl (jA y10))), (ma, .inr (5, [.int (jI mth1'), .int (jI mn), .ref a0, .int (jI mp), .int (jI mw), .ref a1, .ref a2, .ref a3, .ref a4, .ref a5, .ref a6, .ref a7, .ref a8, .ref a9, .ref a10, .long (jL mu), .long (jL md), .int (jI mo), .ref a11]))] H → va_D A [(a1, .inl (cZ, 62, .inl (jA y1))), (a2, .inl (cA, 62, .inl (jA y2))), (a3, .inl (cZ, 496, .inl (jA y3))), (a4, .inl (cA, 496, .inl (jA y4))), (a5, .inl (cA, 496, .inl (jA y5))), (a7, .inl (cA, 248, .inl (jA y7))), (a8, .inl (cZ, 8, .inl (jA y8))), (a9, .inl (cA, 64, .inl (jA y9))), (a10, .inl (cA, 8, .inl (jA y10))), (ma, .inr (5, [.int (jI mth1'), .int (jI mn), .ref a0, .int (jI mp), .int (jI mw), .ref a1, .ref a2, .ref a3, .ref a4, .ref a5, .ref a6, .ref a7, .ref a8, .ref a9, .ref a10, .long (jL mu), .long (jL md), .int (jI mo), .ref a11]))] → va_S A s.heap H locs → ∀ ls : Array Slot, lv_has ls 3 [(2, .int (jI k)), (0, .ref ma), (1, .int (jI z1))] → W p l e R s m ([.ref ma, .int (jI z1)] : List Value).toArray below meth c H locs 0 0 Q (F0 m 17 ls []) := by
      intro n9
      induction n9 with
      | zero =>
        intro k hm hF hk
        exact absurd hm (by omega)
      | succ n9 ih17 =>
        intro k hm hF hk H locs hP hD hS ls hl
        refine lv_iload_n hx hb dXM_fits_17 rfl (lv_at hl 0 rfl) ?_
        refine ji_bipush hx hb dXM_fits_18 (by decide) ?_
        refine ji_icmp_ge (tgt := 55) hx hb dXM_fits_20 (by decide) (by omega) (by omega) (fun c20_ => ?_) (fun c20_ => ?_)
        · refine ji_iconst hx hb dXM_fits_55 ?_
          refine lv_istore_n (lv' := [(2, .int (jI 0)), (0, .ref ma), (1, .int (jI z1))]) hx hb dXM_fits_56 rfl hl (by decide) rfl (fun ls hl => ?_)
          have loop57 : ∀ (n9 : Nat) (k2 : Int) (u9 : Int) (d9 : Int) , 4 - k2 < (n9 : Int) → f_XM_fitsP_L57 mth mn mp mw mu md mo y1 y2 y3 y4 y5 y7 y8 y9 y10 z1 mth1' n9 k2 u9 d9 = f_XM_fitsP mth mn mp mw mu md mo y1 y2 y3 y4 y5 y7 y8 y9 y10 z1 → (0 ≤ k2 ∧ k2 ≤ 4) → ∀ (H : Heap) (locs : List Loc), va_P (dC, dI) vwCl [(a1, .inl (cZ, 62, .inl (jA y1))), (a2, .inl (cA, 62, .inl (jA y2))), (a3, .inl (cZ, 496, .inl (jA y3))), (a4, .inl (cA, 496, .inl (jA y4))), (a5, .inl (cA, 496, .inl (jA y5))), (a7, .inl (cA, 248, .inl (jA y7))), (a8, .inl (cZ, 8, .inl (jA y8))), (a9, .inl (cA, 64, .inl (jA y9))), (a10, .inl (cA, 8, .inl (jA y10))), (ma, .inr (5, [.int (jI mth1'), .int (jI mn), .ref a0, .int (jI mp), .int (jI mw), .ref a1, .ref a2, .ref a3, .ref a4, .ref a5, .ref a6, .ref a7, .ref a8, .ref a9, .ref a10, .long (jL u9), .long (jL d9), .int (jI mo), .ref a11]))] H → va_D A [(a1, .inl (cZ, 62, .inl (jA y1))), (a2, .inl (cA, 62, .inl (jA y2))), (a3, .inl (cZ, 496, .inl (jA y3))), (a4, .inl (cA, 496, .inl (jA y4))), (a5, .inl (cA, 496, .inl (jA y5))), (a7, .inl (cA, 248, .inl (jA y7))), (a8, .inl (cZ, 8, .inl (jA y8))), (a9, .inl (cA, 64, .inl (jA y9))), (a10, .inl (cA, 8, .inl (jA y10))), (ma, .inr (5, [.int (jI mth1'), .int (jI mn), .ref a0, .int (jI mp), .int (jI mw), .ref a1, .ref a2, .ref a3, .ref a4, .ref a5, .ref a6, .ref a7, .ref a8, .ref a9, .ref a10, .long (jL u9), .long (jL d9), .int (jI mo), .ref a11]))] → va_S A s.heap H locs → ∀ ls : Array Slot, lv_has ls 3 [(2, .int (jI k2)), (0, .ref ma), (1, .int (jI z1))] → W p l e R s m ([.ref ma, .int (jI z1)] : List Value).toArray below meth c H locs 0 0 Q (F0 m 57 ls []) := by
            intro n9
            induction n9 with
            | zero =>
              intro k2 u9 d9 hm hF hk2
              exact absurd hm (by omega)
            | succ n9 ih57 =>
              intro k2 u9 d9 hm hF hk2 H locs hP hD hS ls hl
              refine lv_iload_n hx hb dXM_fits_57 rfl (lv_at hl 0 rfl) ?_
              refine ji_iconst hx hb dXM_fits_58 ?_
              refine ji_icmp_ge (tgt := 84) hx hb dXM_fits_59 (by decide) (by omega) (by omega) (fun c59_ => ?_) (fun c59_ => ?_)
              · refine ji_iconst hx hb dXM_fits_84 ?_
                have hP9 := hP.sub (ws' := [(ma, .inr (5, [.int (jI mth1'), .int (jI mn), .ref a0, .int (jI mp), .int (jI mw), .ref a1, .ref a2, .ref a3, .ref a4, .ref a5, .ref a6, .ref a7, .ref a8, .ref a9, .ref a10, .long (jL u9), .long (jL d9), .int (jI mo), .ref a11])), (a1, .inl (cZ, 62, .inl (jA y1))), (a2, .inl (cA, 62, .inl (jA y2))), (a3, .inl (cZ, 496, .inl (jA y3))), (a4, .inl (cA, 496, .inl (jA y4))), (a5, .inl (cA, 496, .inl (jA y5))), (a7, .inl (cA, 248, .inl (jA y7))), (a8, .inl (cZ, 8, .inl (jA y8))), (a9, .inl (cA, 64, .inl (jA y9))), (a10, .inl (cA, 8, .inl (jA y10)))]) [9, 0, 1, 2, 3, 4, 5, 6, 7, 8] rfl
                have hD9 := hD.sub (ws' := [(ma, .inr (5, [.int (jI mth1'), .int (jI mn), .ref a0, .int (jI mp), .int (jI mw), .ref a1, .ref a2, .ref a3, .ref a4, .ref a5, .ref a6, .ref a7, .ref a8, .ref a9, .ref a10, .long (jL u9), .long (jL d9), .int (jI mo), .ref a11])), (a1, .inl (cZ, 62, .inl (jA y1))), (a2, .inl (cA, 62, .inl (jA y2))), (a3, .inl (cZ, 496, .inl (jA y3))), (a4, .inl (cA, 496, .inl (jA y4))), (a5, .inl (cA, 496, .inl (jA y5))), (a7, .inl (cA, 248, .inl (jA y7))), (a8, .inl (cZ, 8, .inl (jA y8))), (a9, .inl (cA, 64, .inl (jA y9))), (a10, .inl (cA, 8, .inl (jA y10)))]) [9, 0, 1, 2, 3, 4, 5, 6, 7, 8] (by decide) rfl
                subst hAe
                subst hQ
                exact W.iret (v := jI (-1)) hx hb hr (fun t ht hW => ⟨⟨_, (-1, mth1', u9, d9), rfl, ⟨rfl, Eq.trans (by rw [f_XM_fitsP_L57_s]; rw [if_neg (Int.not_lt.mpr c59_)]; try rfl) hF, show 0 ≤ mth1' ∧ mth1' ≤ 2 from by first | assumption | omega | exact jset_b (by assumption) (by omega) | exact jset_l (by assumption) (by omega) | exact jset_l (fun _ _ => rfl) (by omega) | exact fun _ _ => rfl | exact l_trans (by assumption) (by assumption), show -1 ≤ (-1) ∧ (-1) ≤ 11 from by first | assumption | omega | exact jset_b (by assumption) (by omega) | exact jset_l (by assumption) (by omega) | exact jset_l (fun _ _ => rfl) (by omega) | exact fun _ _ => rfl | exact l_trans (by assumption) (by assumption)⟩, ⟨by rw [ht]; exact hP9, va_K.moved hW.alike hK, hD9⟩⟩, hS.F ht⟩) hS.2.2 dXM_fits_85
              · refine lv_aload_n hx hb dXM_fits_62 rfl (lv_at hl 1 rfl) ?_
                refine lv_iload_n hx hb dXM_fits_63 rfl (lv_at hl 2 rfl) ?_
                refine ji_iconst hx hb dXM_fits_64 ?_
                refine lv_iload_n hx hb dXM_fits_65 rfl (lv_at hl 0 rfl) ?_
                refine ji_iconst hx hb dXM_fits_66 ?_
                refine jwVi (rest := []) (wr := []) ⟨hx, hb, hml, hown, hts⟩ (c_XM_isAboveP l dC dI cA cZ _ ma a0 a1 a2 a3 a4 a5 a6 a7 a8 a9 a10 a11 mth1' mn mp mw u9 d9 mo y1 y2 y3 y4 y5 y7 y8 y9 y10 z1 0 k2 2 (by first | assumption | omega) (by first | assumption | omega) (by first | assumption | omega) (by first | assumption | omega) (by first | assumption | omega) (by first | assumption | omega) (by first | assumption | omega) (by first | assumption | omega) (by first | assumption | omega) (by first | assumption | omega) (by first | assumption | omega) (by first | assumption | omega)) (cwV 4 hts (jG_V tw_826 tw_828 ts_37 tw_6 tw_829) rfl rfl rfl (by decide +kernel) (by rw [hR]; exact ⟨Nat.le_of_ble_eq_true rfl, Nat.le_of_ble_eq_true rfl⟩)) hK hP hD hS hA hN [9, 0, 1, 2, 3, 4, 5, 6, 7, 8] [] rfl rfl (by decide) (by decide) (by decide) 9 5 rfl rfl rfl rfl hl.1 rfl (Nat.le_of_ble_eq_true rfl) dXM_fits_67 (by rw [hR]; exact ⟨Nat.le_of_ble_eq_true rfl, Nat.le_of_ble_eq_true rfl⟩) (fun v4 u3 H locs hwb5 hP hD hS => ?_)
                obtain ⟨r2, mu1', md1'⟩ := u3
                try dsimp only at hwb5
                obtain ⟨er, hwb5, f6⟩ := hwb5
                subst er
                have f6 : 0 ≤ r2 ∧ r2 ≤ 1 := f6
                have hP : va_P (dC, dI) vwCl [(ma, .inr (5, [.int (jI mth1'), .int (jI mn), .ref a0, .int (jI mp), .int (jI mw), .ref a1, .ref a2, .ref a3, .ref a4, .ref a5, .ref a6, .ref a7, .ref a8, .ref a9, .ref a10, .long (jL mu1'), .long (jL md1'), .int (jI mo), .ref a11])), (a1, .inl (cZ, 62, .inl (jA y1))), (a2, .inl (cA, 62, .inl (jA y2))), (a3, .inl (cZ, 496, .inl (jA y3))), (a4, .inl (cA, 496, .inl (jA y4))), (a5, .inl (cA, 496, .inl (jA y5))), (a7, .inl (cA, 248, .inl (jA y7))), (a8, .inl (cZ, 8, .inl (jA y8))), (a9, .inl (cA, 64, .inl (jA y9))), (a10, .inl (cA, 8, .inl (jA y10)))] H := hP
                have hD : va_D A [(ma, .inr (5, [.int (jI mth1'), .int (jI mn), .ref a0, .int (jI mp), .int (jI mw), .ref a1, .ref a2, .ref a3, .ref a4, .ref a5, .ref a6, .ref a7, .ref a8, .ref a9, .ref a10, .long (jL mu1'), .long (jL md1'), .int (jI mo), .ref a11])), (a1, .inl (cZ, 62, .inl (jA y1))), (a2, .inl (cA, 62, .inl (jA y2))), (a3, .inl (cZ, 496, .inl (jA y3))), (a4, .inl (cA, 496, .inl (jA y4))), (a5, .inl (cA, 496, .inl (jA y5))), (a7, .inl (cA, 248, .inl (jA y7))), (a8, .inl (cZ, 8, .inl (jA y8))), (a9, .inl (cA, 64, .inl (jA y9))), (a10, .inl (cA, 8, .inl (jA y10)))] := hD
                refine ji_if_eq (tgt := 78) hx hb dXM_fits_70 (by decide) (by omega) (fun c70_ => ?_) (fun c70_ => ?_)
                · refine ji_iinc (k := 0) (lv' := [(2, .int (jI (k2 + 1))), (0, .ref ma), (1, .int (jI z1))]) hx hb dXM_fits_78 hl rfl (by decide) rfl (fun ls hl => ?_)
                  refine lv_goto (tgt := 57) hx hb dXM_fits_81 (by decide) ?_
                  exact ih57 (k2 + 1) mu1' md1' (by omega) (Eq.trans (by rw [f_XM_fitsP_L57_s]; rw [if_pos c59_]; rw [← hwb5]; try dsimp only; rw [if_pos c70_]; try rfl) hF) (by first | assumption | omega) _ _ (hP.sub [1, 2, 3, 4, 5, 6, 7, 8, 9, 0] rfl) (hD.sub [1, 2, 3, 4, 5, 6, 7, 8, 9, 0] (by decide) rfl) hS ls (lv_sub hl [0, 1, 2] rfl)
                · refine ji_bipush hx hb dXM_fits_73 (by decide) ?_
                  refine lv_iload_n hx hb dXM_fits_75 rfl (lv_at hl 0 rfl) ?_
                  refine ji_iadd hx hb dXM_fits_76 ?_
                  have hP9 := hP.sub (ws' := [(ma, .inr (5, [.int (jI mth1'), .int (jI mn), .ref a0, .int (jI mp), .int (jI mw), .ref a1, .ref a2, .ref a3, .ref a4, .ref a5, .ref a6, .ref a7, .ref a8, .ref a9, .ref a10, .long (jL mu1'), .long (jL md1'), .int (jI mo), .ref a11])), (a1, .inl (cZ, 62, .inl (jA y1))), (a2, .inl (cA, 62, .inl (jA y2))), (a3, .inl (cZ, 496, .inl (jA y3))), (a4, .inl (cA, 496, .inl (jA y4))), (a5, .inl (cA, 496, .inl (jA y5))), (a7, .inl (cA, 248, .inl (jA y7))), (a8, .inl (cZ, 8, .inl (jA y8))), (a9, .inl (cA, 64, .inl (jA y9))), (a10, .inl (cA, 8, .inl (jA y10)))]) [0, 1, 2, 3, 4, 5, 6, 7, 8, 9] rfl
                  have hD9 := hD.sub (ws' := [(ma, .inr (5, [.int (jI mth1'), .int (jI mn), .ref a0, .int (jI mp), .int (jI mw), .ref a1, .ref a2, .ref a3, .ref a4, .ref a5, .ref a6, .ref a7, .ref a8, .ref a9, .ref a10, .long (jL mu1'), .long (jL md1'), .int (jI mo), .ref a11])), (a1, .inl (cZ, 62, .inl (jA y1))), (a2, .inl (cA, 62, .inl (jA y2))), (a3, .inl (cZ, 496, .inl (jA y3))), (a4, .inl (cA, 496, .inl (jA y4))), (a5, .inl (cA, 496, .inl (jA y5))), (a7, .inl (cA, 248, .inl (jA y7))), (a8, .inl (cZ, 8, .inl (jA y8))), (a9, .inl (cA, 64, .inl (jA y9))), (a10, .inl (cA, 8, .inl (jA y10)))]) [0, 1, 2, 3, 4, 5, 6, 7, 8, 9] (by decide) rfl
                  subst hAe
                  subst hQ
                  exact W.iret (v := jI (8 + k2)) hx hb hr (fun t ht hW => ⟨⟨_, (8 + k2, mth1', mu1', md1'), rfl, ⟨rfl, Eq.trans (by rw [f_XM_fitsP_L57_s]; rw [if_pos c59_]; rw [← hwb5]; try dsimp only; rw [if_neg c70_]; try rfl) hF, show 0 ≤ mth1' ∧ mth1' ≤ 2 from by first | assumption | omega | exact jset_b (by assumption) (by omega) | exact jset_l (by assumption) (by omega) | exact jset_l (fun _ _ => rfl) (by omega) | exact fun _ _ => rfl | exact l_trans (by assumption) (by assumption), show -1 ≤ (8 + k2) ∧ (8 + k2) ≤ 11 from by first | assumption | omega | exact jset_b (by assumption) (by omega) | exact jset_l (by assumption) (by omega) | exact jset_l (fun _ _ => rfl) (by omega) | exact fun _ _ => rfl | exact l_trans (by assumption) (by assumption)⟩, ⟨by rw [ht]; exact hP9, va_K.moved hW.alike hK, hD9⟩⟩, hS.F ht⟩) hS.2.2 dXM_fits_77
          exact loop57 (Int.toNat (4 - 0) + 1) 0 mu md (by omega) (Eq.trans (by rw [f_XM_fitsP_L17_s]; rw [if_neg (Int.not_lt.mpr c20_)]; try rfl) hF) (by first | assumption | omega) _ _ hP hD hS ls (lv_sub hl [0, 1, 2] rfl)
        · refine lv_aload_n hx hb dXM_fits_23 rfl (lv_at hl 1 rfl) ?_
          refine va_get (D := (dC, dI)) (ci := 5) (v := .ref a10) (C := RXM) (T := TXM) (N := 19) hx hb hts (fun w h => jmem (inXM w h)) hown hK hP 9 rfl rfl 14 (by decide) (hts _ (jmem tw_642)) (fun _ h9 => h9) rfl dXM_fits_24 ?_
          refine lv_iload_n hx hb dXM_fits_27 rfl (lv_at hl 0 rfl) ?_
          refine ji_iald hx hb hK hP 8 0 rfl rfl ⟨by omega, by omega⟩ (by decide) dXM_fits_28 ?_
          have rb := hy10 k
          refine lv_aload_n hx hb dXM_fits_29 rfl (lv_at hl 1 rfl) ?_
          refine lv_iload_n hx hb dXM_fits_30 rfl (lv_at hl 2 rfl) ?_
          refine lv_iload_n hx hb dXM_fits_31 rfl (lv_at hl 0 rfl) ?_
          refine jrVi (rest := [.int (jI (y10 k))]) ⟨hx, hb, hml, hown, hts⟩ (c_XM_lowOfP l dC dI cA cZ ma a0 a1 a2 a3 a4 a5 a6 a7 a8 a9 a10 a11 mth1' mn mp mw mu md mo y1 y2 y3 y4 z1 k (by first | assumption | omega) (by first | assumption | omega) (by first | assumption | omega) (by first | assumption | omega) (by first | assumption | omega) (by first | assumption | omega)) (cwV 2 hts (jG_V tw_775 tw_777 ts_30 tw_6 tw_778) rfl rfl rfl (by decide +kernel) (by rw [hR]; exact ⟨Nat.le_of_ble_eq_true rfl, Nat.le_of_ble_eq_true rfl⟩)) hK hP hN [9, 0, 1, 2, 3] rfl 9 5 rfl rfl rfl rfl hl.1 rfl (Nat.le_of_ble_eq_true rfl) dXM_fits_32 (by rw [hR]; exact ⟨Nat.le_of_ble_eq_true rfl, Nat.le_of_ble_eq_true rfl⟩) ?_
          have f7 := f_XM_lowOfP_b mth1' mn mp mw mu md mo y1 y2 y3 y4 z1 k (by first | assumption | omega) (by first | assumption | omega) (by first | assumption | omega) (by first | assumption | omega) (by first | assumption | omega) (by first | assumption | omega)
          refine lv_aload_n hx hb dXM_fits_35 rfl (lv_at hl 1 rfl) ?_
          refine lv_iload_n hx hb dXM_fits_36 rfl (lv_at hl 2 rfl) ?_
          refine lv_iload_n hx hb dXM_fits_37 rfl (lv_at hl 0 rfl) ?_
          refine jrVi (rest := [.int (jI (f_XM_lowOfP mth1' mn mp mw mu md mo y1 y2 y3 y4 z1 k)), .int (jI (y10 k))]) ⟨hx, hb, hml, hown, hts⟩ (c_XM_highOfP l dC dI cA cZ ma a0 a1 a2 a3 a4 a5 a6 a7 a8 a9 a10 a11 mth1' mn mp mw mu md mo y1 y2 y3 y5 z1 k (by first | assumption | omega) (by first | assumption | omega) (by first | assumption | omega) (by first | assumption | omega) (by first | assumption | omega) (by first | assumption | omega)) (cwV 2 hts (jG_V tw_787 tw_789 ts_33 tw_6 tw_790) rfl rfl rfl (by decide +kernel) (by rw [hR]; exact ⟨Nat.le_of_ble_eq_true rfl, Nat.le_of_ble_eq_true rfl⟩)) hK hP hN [9, 0, 1, 2, 4] rfl 9 5 rfl rfl rfl rfl hl.1 rfl (Nat.le_of_ble_eq_true rfl) dXM_fits_38 (by rw [hR]; exact ⟨Nat.le_of_ble_eq_true rfl, Nat.le_of_ble_eq_true rfl⟩) ?_
          have f8 := f_XM_highOfP_b mth1' mn mp mw mu md mo y1 y2 y3 y5 z1 k (by first | assumption | omega) (by first | assumption | omega) (by first | assumption | omega) (by first | assumption | omega) (by first | assumption | omega) (by first | assumption | omega)
          refine jrSi (rest := []) ⟨hx, hb, hml, hown, hts⟩ (c_XM_in l dC dI cA cZ (y10 k) (f_XM_lowOfP mth1' mn mp mw mu md mo y1 y2 y3 y4 z1 k) (f_XM_highOfP mth1' mn mp mw mu md mo y1 y2 y3 y5 z1 k) (by first | assumption | omega) (by first | assumption | omega) (by first | assumption | omega)) (cwS 3 hts (jG_S tw_695 tw_696 tw_6 tw_697) rfl rfl rfl (by decide +kernel) (by rw [hR]; exact ⟨Nat.le_of_ble_eq_true rfl, Nat.le_of_ble_eq_true rfl⟩)) hK hP hN [] rfl rfl hl.1 rfl (Nat.le_of_ble_eq_true rfl) dXM_fits_41 (by rw [hR]; exact ⟨Nat.le_of_ble_eq_true rfl, Nat.le_of_ble_eq_true rfl⟩) ?_
          have f9 := f_XM_in_b (y10 k) (f_XM_lowOfP mth1' mn mp mw mu md mo y1 y2 y3 y4 z1 k) (f_XM_highOfP mth1' mn mp mw mu md mo y1 y2 y3 y5 z1 k) (by first | assumption | omega) (by first | assumption | omega) (by first | assumption | omega)
          refine ji_if_ne (tgt := 49) hx hb dXM_fits_44 (by decide) (by omega) (fun c44_ => ?_) (fun c44_ => ?_)
          · refine ji_iinc (k := 0) (lv' := [(2, .int (jI (k + 1))), (0, .ref ma), (1, .int (jI z1))]) hx hb dXM_fits_49 hl rfl (by decide) rfl (fun ls hl => ?_)
            refine lv_goto (tgt := 17) hx hb dXM_fits_52 (by decide) ?_
            exact ih17 (k + 1) (by omega) (Eq.trans (by rw [f_XM_fitsP_L17_s]; rw [if_pos c20_, if_neg c44_]; try rfl) hF) (by first | assumption | omega) _ _ hP hD hS ls (lv_sub hl [0, 1, 2] rfl)
          · refine lv_iload_n hx hb dXM_fits_47 rfl (lv_at hl 0 rfl) ?_
            have hP9 := hP.sub (ws' := [(ma, .inr (5, [.int (jI mth1'), .int (jI mn), .ref a0, .int (jI mp), .int (jI mw), .ref a1, .ref a2, .ref a3, .ref a4, .ref a5, .ref a6, .ref a7, .ref a8, .ref a9, .ref a10, .long (jL mu), .long (jL md), .int (jI mo), .ref a11])), (a1, .inl (cZ, 62, .inl (jA y1))), (a2, .inl (cA, 62, .inl (jA y2))), (a3, .inl (cZ, 496, .inl (jA y3))), (a4, .inl (cA, 496, .inl (jA y4))), (a5, .inl (cA, 496, .inl (jA y5))), (a7, .inl (cA, 248, .inl (jA y7))), (a8, .inl (cZ, 8, .inl (jA y8))), (a9, .inl (cA, 64, .inl (jA y9))), (a10, .inl (cA, 8, .inl (jA y10)))]) [9, 0, 1, 2, 3, 4, 5, 6, 7, 8] rfl
            have hD9 := hD.sub (ws' := [(ma, .inr (5, [.int (jI mth1'), .int (jI mn), .ref a0, .int (jI mp), .int (jI mw), .ref a1, .ref a2, .ref a3, .ref a4, .ref a5, .ref a6, .ref a7, .ref a8, .ref a9, .ref a10, .long (jL mu), .long (jL md), .int (jI mo), .ref a11])), (a1, .inl (cZ, 62, .inl (jA y1))), (a2, .inl (cA, 62, .inl (jA y2))), (a3, .inl (cZ, 496, .inl (jA y3))), (a4, .inl (cA, 496, .inl (jA y4))), (a5, .inl (cA, 496, .inl (jA y5))), (a7, .inl (cA, 248, .inl (jA y7))), (a8, .inl (cZ, 8, .inl (jA y8))), (a9, .inl (cA, 64, .inl (jA y9))), (a10, .inl (cA, 8, .inl (jA y10)))]) [9, 0, 1, 2, 3, 4, 5, 6, 7, 8] (by decide) rfl
            subst hAe
            subst hQ
            exact W.iret (v := jI k) hx hb hr (fun t ht hW => ⟨⟨_, (k, mth1', mu, md), rfl, ⟨rfl, Eq.trans (by rw [f_XM_fitsP_L17_s]; rw [if_pos c20_, if_pos c44_]; try rfl) hF, show 0 ≤ mth1' ∧ mth1' ≤ 2 from by first | assumption | omega | exact jset_b (by assumption) (by omega) | exact jset_l (by assumption) (by omega) | exact jset_l (fun _ _ => rfl) (by omega) | exact fun _ _ => rfl | exact l_trans (by assumption) (by assumption), show -1 ≤ k ∧ k ≤ 11 from by first | assumption | omega | exact jset_b (by assumption) (by omega) | exact jset_l (by assumption) (by omega) | exact jset_l (fun _ _ => rfl) (by omega) | exact fun _ _ => rfl | exact l_trans (by assumption) (by assumption)⟩, ⟨by rw [ht]; exact hP9, va_K.moved hW.alike hK, hD9⟩⟩, hS.F ht⟩) hS.2.2 dXM_fits_48
    exact loop17 (Int.toNat (8 - 0) + 1) 0 (by omega) (Eq.trans (by rw [f_XM_fitsP_s]; rw [← hwb]; try dsimp only; rw [if_neg c10_]; try rfl) rfl) (by first | assumption | omega) _ _ hP hD hS ls (lv_sub hl [0, 1, 2] rfl)
  · refine ji_iconst hx hb dXM_fits_13 ?_
    have hP9 := hP.sub (ws' := [(ma, .inr (5, [.int (jI mth1'), .int (jI mn), .ref a0, .int (jI mp), .int (jI mw), .ref a1, .ref a2, .ref a3, .ref a4, .ref a5, .ref a6, .ref a7, .ref a8, .ref a9, .ref a10, .long (jL mu), .long (jL md), .int (jI mo), .ref a11])), (a1, .inl (cZ, 62, .inl (jA y1))), (a2, .inl (cA, 62, .inl (jA y2))), (a3, .inl (cZ, 496, .inl (jA y3))), (a4, .inl (cA, 496, .inl (jA y4))), (a5, .inl (cA, 496, .inl (jA y5))), (a7, .inl (cA, 248, .inl (jA y7))), (a8, .inl (cZ, 8, .inl (jA y8))), (a9, .inl (cA, 64, .inl (jA y9))), (a10, .inl (cA, 8, .inl (jA y10)))]) [9, 0, 1, 2, 3, 4, 5, 6, 7, 8] rfl
    have hD9 := hD.sub (ws' := [(ma, .inr (5, [.int (jI mth1'), .int (jI mn), .ref a0, .int (jI mp), .int (jI mw), .ref a1, .ref a2, .ref a3, .ref a4, .ref a5, .ref a6, .ref a7, .ref a8, .ref a9, .ref a10, .long (jL mu), .long (jL md), .int (jI mo), .ref a11])), (a1, .inl (cZ, 62, .inl (jA y1))), (a2, .inl (cA, 62, .inl (jA y2))), (a3, .inl (cZ, 496, .inl (jA y3))), (a4, .inl (cA, 496, .inl (jA y4))), (a5, .inl (cA, 496, .inl (jA y5))), (a7, .inl (cA, 248, .inl (jA y7))), (a8, .inl (cZ, 8, .inl (jA y8))), (a9, .inl (cA, 64, .inl (jA y9))), (a10, .inl (cA, 8, .inl (jA y10)))]) [9, 0, 1, 2, 3, 4, 5, 6, 7, 8] (by decide) rfl
    subst hAe
    subst hQ
    exact W.iret (v := jI 0) hx hb hr (fun t ht hW => ⟨⟨_, (0, mth1', mu, md), rfl, ⟨rfl, Eq.trans (by rw [f_XM_fitsP_s]; rw [← hwb]; try dsimp only; rw [if_pos c10_]; try rfl) rfl, show 0 ≤ mth1' ∧ mth1' ≤ 2 from by first | assumption | omega | exact jset_b (by assumption) (by omega) | exact jset_l (by assumption) (by omega) | exact jset_l (fun _ _ => rfl) (by omega) | exact fun _ _ => rfl | exact l_trans (by assumption) (by assumption), show -1 ≤ 0 ∧ 0 ≤ 11 from by first | assumption | omega | exact jset_b (by assumption) (by omega) | exact jset_l (by assumption) (by omega) | exact jset_l (fun _ _ => rfl) (by omega) | exact fun _ _ => rfl | exact l_trans (by assumption) (by assumption)⟩, ⟨by rw [ht]; exact hP9, va_K.moved hW.alike hK, hD9⟩⟩, hS.F ht⟩) hS.2.2 dXM_fits_14
noncomputable def g_XM_holdsP_L79 (mth : Int) (mn : Int) (mp : Int) (mw : Int) (mu : Int) (md : Int) (mo : Int) (y1 : Int → Int) (y2 : Int → Int) (y3 : Int → Int) (y4 : Int → Int) (y5 : Int → Int) (y7 : Int → Int) (y8 : Int → Int) (y9 : Int → Int) (y10 : Int → Int) (z1 : Int) (z2 : Int) (mth1' : Int) : Nat → Int → Int → Int → Int × Int × Int × Int
  | 0, _, _, _ => (0, 0, 0, 0)
  | n9 + 1, k2, u9, d9 =>
    if k2 < 4 then
      match f_XM_isAboveP mth1' mn mp mw u9 d9 mo y1 y2 y3 y4 y5 y7 y8 y9 y10 z1 z2 k2 1 with
      | (r1, mu1', md1') =>
        if r1 = 0 then
          g_XM_holdsP_L79 mth mn mp mw mu md mo y1 y2 y3 y4 y5 y7 y8 y9 y10 z1 z2 mth1' n9 (k2 + 1) mu1' md1'
        else
          (0, mth1', mu1', md1')
    else
      (1, mth1', u9, d9)
noncomputable def f_XM_holdsP_L79 : Int → Int → Int → Int → Int → Int → Int → (Int → Int) → (Int → Int) → (Int → Int) → (Int → Int) → (Int → Int) → (Int → Int) → (Int → Int) → (Int → Int) → (Int → Int) → Int → Int → Int → Nat → Int → Int → Int → Int × Int × Int × Int := jopq g_XM_holdsP_L79
theorem f_XM_holdsP_L79_q : f_XM_holdsP_L79 = g_XM_holdsP_L79 := jopq_eq _
theorem f_XM_holdsP_L79_s (mth : Int) (mn : Int) (mp : Int) (mw : Int) (mu : Int) (md : Int) (mo : Int) (y1 : Int → Int) (y2 : Int → Int) (y3 : Int → Int) (y4 : Int → Int) (y5 : Int → Int) (y7 : Int → Int) (y8 : Int → Int) (y9 : Int → Int) (y10 : Int → Int) (z1 : Int) (z2 : Int) (mth1' : Int) (n9 : Nat) (k2 : Int) (u9 : Int) (d9 : Int) : f_XM_holdsP_L79 mth mn mp mw mu md mo y1 y2 y3 y4 y5 y7 y8 y9 y10 z1 z2 mth1' (n9 + 1) k2 u9 d9 = (
    if k2 < 4 then
      match f_XM_isAboveP mth1' mn mp mw u9 d9 mo y1 y2 y3 y4 y5 y7 y8 y9 y10 z1 z2 k2 1 with
      | (r1, mu1', md1') =>
        if r1 = 0 then
          f_XM_holdsP_L79 mth mn mp mw mu md mo y1 y2 y3 y4 y5 y7 y8 y9 y10 z1 z2 mth1' n9 (k2 + 1) mu1' md1'
        else
          (0, mth1', mu1', md1')
    else
      (1, mth1', u9, d9)
  : Int × Int × Int × Int) := by rw [f_XM_holdsP_L79_q]; rfl
noncomputable def g_XM_holdsP_L33 (mth : Int) (mn : Int) (mp : Int) (mw : Int) (mu : Int) (md : Int) (mo : Int) (y1 : Int → Int) (y2 : Int → Int) (y3 : Int → Int) (y4 : Int → Int) (y5 : Int → Int) (y7 : Int → Int) (y8 : Int → Int) (y9 : Int → Int) (y10 : Int → Int) (z1 : Int) (z2 : Int) (mth1' : Int) : Nat → Int → Int × Int × Int × Int
  | 0, _ => (0, 0, 0, 0)
  | n9 + 1, k =>
    if k < 8 then
      if (f_XM_lowOfP mth1' mn mp mw mu md mo y1 y2 y3 y4 z2 k) < (f_XM_lowOfP mth1' mn mp mw mu md mo y1 y2 y3 y4 z1 k) then
        (0, mth1', mu, md)
      else
        if (f_XM_highOfP mth1' mn mp mw mu md mo y1 y2 y3 y5 z1 k) < (f_XM_highOfP mth1' mn mp mw mu md mo y1 y2 y3 y5 z2 k) then
          (0, mth1', mu, md)
        else
          g_XM_holdsP_L33 mth mn mp mw mu md mo y1 y2 y3 y4 y5 y7 y8 y9 y10 z1 z2 mth1' n9 (k + 1)
    else
      f_XM_holdsP_L79 mth mn mp mw mu md mo y1 y2 y3 y4 y5 y7 y8 y9 y10 z1 z2 mth1' (Int.toNat (4 - 0) + 1) 0 mu md
noncomputable def f_XM_holdsP_L33 : Int → Int → Int → Int → Int → Int → Int → (Int → Int) → (Int → Int) → (Int → Int) → (Int → Int) → (Int → Int) → (Int → Int) → (Int → Int) → (Int → Int) → (Int → Int) → Int → Int → Int → Nat → Int → Int × Int × Int × Int := jopq g_XM_holdsP_L33
theorem f_XM_holdsP_L33_q : f_XM_holdsP_L33 = g_XM_holdsP_L33 := jopq_eq _
theorem f_XM_holdsP_L33_s (mth : Int) (mn : Int) (mp : Int) (mw : Int) (mu : Int) (md : Int) (mo : Int) (y1 : Int → Int) (y2 : Int → Int) (y3 : Int → Int) (y4 : Int → Int) (y5 : Int → Int) (y7 : Int → Int) (y8 : Int → Int) (y9 : Int → Int) (y10 : Int → Int) (z1 : Int) (z2 : Int) (mth1' : Int) (n9 : Nat) (k : Int) : f_XM_holdsP_L33 mth mn mp mw mu md mo y1 y2 y3 y4 y5 y7 y8 y9 y10 z1 z2 mth1' (n9 + 1) k = (
    if k < 8 then
      if (f_XM_lowOfP mth1' mn mp mw mu md mo y1 y2 y3 y4 z2 k) < (f_XM_lowOfP mth1' mn mp mw mu md mo y1 y2 y3 y4 z1 k) then
        (0, mth1', mu, md)
      else
        if (f_XM_highOfP mth1' mn mp mw mu md mo y1 y2 y3 y5 z1 k) < (f_XM_highOfP mth1' mn mp mw mu md mo y1 y2 y3 y5 z2 k) then
          (0, mth1', mu, md)
        else
          f_XM_holdsP_L33 mth mn mp mw mu md mo y1 y2 y3 y4 y5 y7 y8 y9 y10 z1 z2 mth1' n9 (k + 1)
    else
      f_XM_holdsP_L79 mth mn mp mw mu md mo y1 y2 y3 y4 y5 y7 y8 y9 y10 z1 z2 mth1' (Int.toNat (4 - 0) + 1) 0 mu md
  : Int × Int × Int × Int) := by rw [f_XM_holdsP_L33_q]; rfl
noncomputable def g_XM_holdsP_J22 (mth : Int) (mn : Int) (mp : Int) (mw : Int) (mu : Int) (md : Int) (mo : Int) (y1 : Int → Int) (y2 : Int → Int) (y3 : Int → Int) (y4 : Int → Int) (y5 : Int → Int) (y7 : Int → Int) (y8 : Int → Int) (y9 : Int → Int) (y10 : Int → Int) (z1 : Int) (z2 : Int) (jc : Int) : Int × Int × Int × Int :=
  match f_XM_goesP mth mn mp mw mu md mo jc 1 with
  | (r, mth1') =>
    if r = 0 then
      (0, mth1', mu, md)
    else
      f_XM_holdsP_L33 mth mn mp mw mu md mo y1 y2 y3 y4 y5 y7 y8 y9 y10 z1 z2 mth1' (Int.toNat (8 - 0) + 1) 0
noncomputable def f_XM_holdsP_J22 : Int → Int → Int → Int → Int → Int → Int → (Int → Int) → (Int → Int) → (Int → Int) → (Int → Int) → (Int → Int) → (Int → Int) → (Int → Int) → (Int → Int) → (Int → Int) → Int → Int → Int → Int × Int × Int × Int := jopq g_XM_holdsP_J22
theorem f_XM_holdsP_J22_q : f_XM_holdsP_J22 = g_XM_holdsP_J22 := jopq_eq _
theorem f_XM_holdsP_J22_s (mth : Int) (mn : Int) (mp : Int) (mw : Int) (mu : Int) (md : Int) (mo : Int) (y1 : Int → Int) (y2 : Int → Int) (y3 : Int → Int) (y4 : Int → Int) (y5 : Int → Int) (y7 : Int → Int) (y8 : Int → Int) (y9 : Int → Int) (y10 : Int → Int) (z1 : Int) (z2 : Int) (jc : Int) : f_XM_holdsP_J22 mth mn mp mw mu md mo y1 y2 y3 y4 y5 y7 y8 y9 y10 z1 z2 jc = (
    match f_XM_goesP mth mn mp mw mu md mo jc 1 with
    | (r, mth1') =>
      if r = 0 then
        (0, mth1', mu, md)
      else
        f_XM_holdsP_L33 mth mn mp mw mu md mo y1 y2 y3 y4 y5 y7 y8 y9 y10 z1 z2 mth1' (Int.toNat (8 - 0) + 1) 0
  : Int × Int × Int × Int) := by rw [f_XM_holdsP_J22_q]; rfl
noncomputable def g_XM_holdsP (mth : Int) (mn : Int) (mp : Int) (mw : Int) (mu : Int) (md : Int) (mo : Int) (y1 : Int → Int) (y2 : Int → Int) (y3 : Int → Int) (y4 : Int → Int) (y5 : Int → Int) (y7 : Int → Int) (y8 : Int → Int) (y9 : Int → Int) (y10 : Int → Int) (z1 : Int) (z2 : Int) : Int × Int × Int × Int :=
  if (f_XM_isTold mth mn mp mw mu md mo y1 z1) = 0 then
    f_XM_holdsP_J22 mth mn mp mw mu md mo y1 y2 y3 y4 y5 y7 y8 y9 y10 z1 z2 0
  else
    if (f_XM_isTold mth mn mp mw mu md mo y1 z2) = 0 then
      f_XM_holdsP_J22 mth mn mp mw mu md mo y1 y2 y3 y4 y5 y7 y8 y9 y10 z1 z2 0
    else
      f_XM_holdsP_J22 mth mn mp mw mu md mo y1 y2 y3 y4 y5 y7 y8 y9 y10 z1 z2 1
noncomputable def f_XM_holdsP : Int → Int → Int → Int → Int → Int → Int → (Int → Int) → (Int → Int) → (Int → Int) → (Int → Int) → (Int → Int) → (Int → Int) → (Int → Int) → (Int → Int) → (Int → Int) → Int → Int → Int × Int × Int × Int := jopq g_XM_holdsP
theorem f_XM_holdsP_q : f_XM_holdsP = g_XM_holdsP := jopq_eq _
theorem f_XM_holdsP_s (mth : Int) (mn : Int) (mp : Int) (mw : Int) (mu : Int) (md : Int) (mo : Int) (y1 : Int → Int) (y2 : Int → Int) (y3 : Int → Int) (y4 : Int → Int) (y5 : Int → Int) (y7 : Int → Int) (y8 : Int → Int) (y9 : Int → Int) (y10 : Int → Int) (z1 : Int) (z2 : Int) : f_XM_holdsP mth mn mp mw mu md mo y1 y2 y3 y4 y5 y7 y8 y9 y10 z1 z2 = (
    if (f_XM_isTold mth mn mp mw mu md mo y1 z1) = 0 then
      f_XM_holdsP_J22 mth mn mp mw mu md mo y1 y2 y3 y4 y5 y7 y8 y9 y10 z1 z2 0
    else
      if (f_XM_isTold mth mn mp mw mu md mo y1 z2) = 0 then
        f_XM_holdsP_J22 mth mn mp mw mu md mo y1 y2 y3 y4 y5 y7 y8 y9 y10 z1 z2 0
      else
        f_XM_holdsP_J22 mth mn mp mw mu md mo y1 y2 y3 y4 y5 y7 y8 y9 y10 z1 z2 1
  : Int × Int × Int × Int) := by rw [f_XM_holdsP_q]; rfl
set_option maxHeartbeats 4000000 in
set_option maxRecDepth 100000 in
theorem c_XM_holdsP (l : Launch) (dC : Nat → ClassId) (dI : Nat → Nat → Nat) (cA cZ : ClassId) (sz : Nat) (ma : Nat) (a0 : Nat) (a1 : Nat) (a2 : Nat) (a3 : Nat) (a4 : Nat) (a5 : Nat) (a6 : Nat) (a7 : Nat) (a8 : Nat) (a9 : Nat) (a10 : Nat) (a11 : Nat) (mth : Int) (mn : Int) (mp : Int) (mw : Int) (mu : Int) (md : Int) (mo : Int) (y1 : Int → Int) (y2 : Int → Int) (y3 : Int → Int) (y4 : Int → Int) (y5 : Int → Int) (y7 : Int → Int) (y8 : Int → Int) (y9 : Int → Int) (y10 : Int → Int) (z1 : Int) (z2 : Int) (hy1 : ∀ i, 0 ≤ y1 i ∧ y1 i ≤ 1) (hy2 : ∀ i, 0 ≤ y2 i ∧ y2 i ≤ 30) (hy3 : ∀ i, 0 ≤ y3 i ∧ y3 i ≤ 1) (hy4 : ∀ i, 0 ≤ y4 i ∧ y4 i ≤ 100000) (hy5 : ∀ i, 0 ≤ y5 i ∧ y5 i ≤ 100000) (hy7 : ∀ i, -1 ≤ y7 i ∧ y7 i ≤ 999999) (hy8 : ∀ i, 0 ≤ y8 i ∧ y8 i ≤ 1) (hy9 : ∀ i, 0 ≤ y9 i ∧ y9 i ≤ 20) (hy10 : ∀ i, 0 ≤ y10 i ∧ y10 i ≤ 100000) (hiz1 : i32 z1) (hiz2 : i32 z2) : Met l yXM_holds (Cond.code yXM_holds cXM_holds 4 (some .boolean) :: TBL) ({ frames := 7, cells := 0, slots := 0, locals := 158 } : Room) (va_Pc [.ref ma, .int (jI z1), .int (jI z2)] (jBw (dC, dI) [(cA, .int), (cZ, .boolean)] [(ma, .inr (5, [.int (jI mth), .int (jI mn), .ref a0, .int (jI mp), .int (jI mw), .ref a1, .ref a2, .ref a3, .ref a4, .ref a5, .ref a6, .ref a7, .ref a8, .ref a9, .ref a10, .long (jL mu), .long (jL md), .int (jI mo), .ref a11])), (a1, .inl (cZ, 62, .inl (jA y1))), (a2, .inl (cA, 62, .inl (jA y2))), (a3, .inl (cZ, 496, .inl (jA y3))), (a4, .inl (cA, 496, .inl (jA y4))), (a5, .inl (cA, 496, .inl (jA y5))), (a7, .inl (cA, 248, .inl (jA y7))), (a8, .inl (cZ, 8, .inl (jA y8))), (a9, .inl (cA, 64, .inl (jA y9))), (a10, .inl (cA, 8, .inl (jA y10)))] sz)) (va_Qi (fun (r : Int32) (u : Int × Int × Int × Int) => r = jI u.1 ∧ u = f_XM_holdsP mth mn mp mw mu md mo y1 y2 y3 y4 y5 y7 y8 y9 y10 z1 z2 ∧ (0 ≤ u.2.1 ∧ u.2.1 ≤ 2) ∧ (0 ≤ u.1 ∧ u.1 ≤ 1)) (fun u t => jE (dC, dI) [(cA, .int), (cZ, .boolean)] [(ma, .inr (5, [.int (jI mth), .int (jI mn), .ref a0, .int (jI mp), .int (jI mw), .ref a1, .ref a2, .ref a3, .ref a4, .ref a5, .ref a6, .ref a7, .ref a8, .ref a9, .ref a10, .long (jL mu), .long (jL md), .int (jI mo), .ref a11])), (a1, .inl (cZ, 62, .inl (jA y1))), (a2, .inl (cA, 62, .inl (jA y2))), (a3, .inl (cZ, 496, .inl (jA y3))), (a4, .inl (cA, 496, .inl (jA y4))), (a5, .inl (cA, 496, .inl (jA y5))), (a7, .inl (cA, 248, .inl (jA y7))), (a8, .inl (cZ, 8, .inl (jA y8))), (a9, .inl (cA, 64, .inl (jA y9))), (a10, .inl (cA, 8, .inl (jA y10)))] sz [(ma, .inr (5, [.int (jI u.2.1), .int (jI mn), .ref a0, .int (jI mp), .int (jI mw), .ref a1, .ref a2, .ref a3, .ref a4, .ref a5, .ref a6, .ref a7, .ref a8, .ref a9, .ref a10, .long (jL u.2.2.1), .long (jL u.2.2.2), .int (jI mo), .ref a11])), (a1, .inl (cZ, 62, .inl (jA y1))), (a2, .inl (cA, 62, .inl (jA y2))), (a3, .inl (cZ, 496, .inl (jA y3))), (a4, .inl (cA, 496, .inl (jA y4))), (a5, .inl (cA, 496, .inl (jA y5))), (a7, .inl (cA, 248, .inl (jA y7))), (a8, .inl (cZ, 8, .inl (jA y8))), (a9, .inl (cA, 64, .inl (jA y9))), (a10, .inl (cA, 8, .inl (jA y10)))] t) (va_A [(ma, .inr (5, [.int (jI mth), .int (jI mn), .ref a0, .int (jI mp), .int (jI mw), .ref a1, .ref a2, .ref a3, .ref a4, .ref a5, .ref a6, .ref a7, .ref a8, .ref a9, .ref a10, .long (jL mu), .long (jL md), .int (jI mo), .ref a11])), (a1, .inl (cZ, 62, .inl (jA y1))), (a2, .inl (cA, 62, .inl (jA y2))), (a3, .inl (cZ, 496, .inl (jA y3))), (a4, .inl (cA, 496, .inl (jA y4))), (a5, .inl (cA, 496, .inl (jA y5))), (a7, .inl (cA, 248, .inl (jA y7))), (a8, .inl (cZ, 8, .inl (jA y8))), (a9, .inl (cA, 64, .inl (jA y9))), (a10, .inl (cA, 8, .inl (jA y10)))] sz)) 0 0 (va_A [(ma, .inr (5, [.int (jI mth), .int (jI mn), .ref a0, .int (jI mp), .int (jI mw), .ref a1, .ref a2, .ref a3, .ref a4, .ref a5, .ref a6, .ref a7, .ref a8, .ref a9, .ref a10, .long (jL mu), .long (jL md), .int (jI mo), .ref a11])), (a1, .inl (cZ, 62, .inl (jA y1))), (a2, .inl (cA, 62, .inl (jA y2))), (a3, .inl (cZ, 496, .inl (jA y3))), (a4, .inl (cA, 496, .inl (jA y4))), (a5, .inl (cA, 496, .inl (jA y5))), (a7, .inl (cA, 248, .inl (jA y7))), (a8, .inl (cZ, 8, .inl (jA y8))), (a9, .inl (cA, 64, .inl (jA y9))), (a10, .inl (cA, 8, .inl (jA y10)))] sz) := by
  refine jMet (cc := cXM_holds) (maxL := 4) (ret := some .boolean) (by decide) rfl ?_
  intro p e s m args below meth c s₁ R Q hR hQ B hml hv
  obtain ⟨rfl, hsz, hP, hK, hD0, hN⟩ := hv
  have hx := B.exec
  have hb := B.bytes
  have hr := B.returns
  have hts := atoms_spec (ws := Cond.code yXM_holds cXM_holds 4 (some .boolean) :: TBL) B.pre
  have hown : s.vm.findClass RXM = some m.cls := findClass_of_methodNamed B.named
  have hlocks := B.notSynchronized
  subst hsz
  obtain ⟨A, hAe⟩ : ∃ A, A = va_A [(ma, .inr (5, [.int (jI mth), .int (jI mn), .ref a0, .int (jI mp), .int (jI mw), .ref a1, .ref a2, .ref a3, .ref a4, .ref a5, .ref a6, .ref a7, .ref a8, .ref a9, .ref a10, .long (jL mu), .long (jL md), .int (jI mo), .ref a11])), (a1, .inl (cZ, 62, .inl (jA y1))), (a2, .inl (cA, 62, .inl (jA y2))), (a3, .inl (cZ, 496, .inl (jA y3))), (a4, .inl (cA, 496, .inl (jA y4))), (a5, .inl (cA, 496, .inl (jA y5))), (a7, .inl (cA, 248, .inl (jA y7))), (a8, .inl (cZ, 8, .inl (jA y8))), (a9, .inl (cA, 64, .inl (jA y9))), (a10, .inl (cA, 8, .inl (jA y10)))] s.heap.size := ⟨_, rfl⟩
  have hD : va_D A [(ma, .inr (5, [.int (jI mth), .int (jI mn), .ref a0, .int (jI mp), .int (jI mw), .ref a1, .ref a2, .ref a3, .ref a4, .ref a5, .ref a6, .ref a7, .ref a8, .ref a9, .ref a10, .long (jL mu), .long (jL md), .int (jI mo), .ref a11])), (a1, .inl (cZ, 62, .inl (jA y1))), (a2, .inl (cA, 62, .inl (jA y2))), (a3, .inl (cZ, 496, .inl (jA y3))), (a4, .inl (cA, 496, .inl (jA y4))), (a5, .inl (cA, 496, .inl (jA y5))), (a7, .inl (cA, 248, .inl (jA y7))), (a8, .inl (cZ, 8, .inl (jA y8))), (a9, .inl (cA, 64, .inl (jA y9))), (a10, .inl (cA, 8, .inl (jA y10)))] := by rw [hAe]; exact hD0.self
  have hA : ∀ q : Nat, s.heap.size ≤ q → A q := fun q h => by rw [hAe]; exact Or.inr h
  have hS : va_S A s.heap s.heap [] := va_S.rf
  have hP : va_P (dC, dI) vwCl [(ma, .inr (5, [.int (jI mth), .int (jI mn), .ref a0, .int (jI mp), .int (jI mw), .ref a1, .ref a2, .ref a3, .ref a4, .ref a5, .ref a6, .ref a7, .ref a8, .ref a9, .ref a10, .long (jL mu), .long (jL md), .int (jI mo), .ref a11])), (a1, .inl (cZ, 62, .inl (jA y1))), (a2, .inl (cA, 62, .inl (jA y2))), (a3, .inl (cZ, 496, .inl (jA y3))), (a4, .inl (cA, 496, .inl (jA y4))), (a5, .inl (cA, 496, .inl (jA y5))), (a7, .inl (cA, 248, .inl (jA y7))), (a8, .inl (cZ, 8, .inl (jA y8))), (a9, .inl (cA, 64, .inl (jA y9))), (a10, .inl (cA, 8, .inl (jA y10)))] s.heap := hP
  have hl := lv_entry ([.ref ma, .int (jI z1), .int (jI z2)]) (n := 4) (Nat.le_of_ble_eq_true rfl)
  rw [lg_entry_eq]
  generalize (lg_sl ([.ref ma, .int (jI z1), .int (jI z2)]) ++ List.replicate (4 - (lg_sl ([.ref ma, .int (jI z1), .int (jI z2)])).length) Slot.unset).toArray = ls at hl ⊢
  have hl : lv_has ls 4 [(0, .ref ma), (1, .int (jI z1)), (2, .int (jI z2))] := hl
  refine lv_aload_n hx hb dXM_holds_0 rfl (lv_at hl 0 rfl) ?_
  have join22 : ∀ (jc : Int) , f_XM_holdsP_J22 mth mn mp mw mu md mo y1 y2 y3 y4 y5 y7 y8 y9 y10 z1 z2 jc = f_XM_holdsP mth mn mp mw mu md mo y1 y2 y3 y4 y5 y7 y8 y9 y10 z1 z2 → ((jc = 0) ∨ (jc = 1 ∧ 1 ≤ z1 ∧ z1 ≤ 30 ∧ 1 ≤ z2 ∧ z2 ≤ 30)) → ∀ (H : Heap) (locs : List Loc), va_P (dC, dI) vwCl [(ma, .inr (5, [.int (jI mth), .int (jI mn), .ref a0, .int (jI mp), .int (jI mw), .ref a1, .ref a2, .ref a3, .ref a4, .ref a5, .ref a6, .ref a7, .ref a8, .ref a9, .ref a10, .long (jL mu), .long (jL md), .int (jI mo), .ref a11])), (a1, .inl (cZ, 62, .inl (jA y1))), (a2, .inl (cA, 62, .inl (jA y2))), (a3, .inl (cZ, 496, .inl (jA y3))), (a4, .inl (cA, 496, .inl (jA y4))), (a5, .inl (cA, 496, .inl (jA y5))), (a7, .inl (cA, 248, .inl (jA y7))), (a8, .inl (cZ, 8, .inl (jA y8))), (a9, .inl (cA, 64, .inl (jA y9))), (a10, .inl (cA, 8, .inl (jA y10)))] H → va_D A [(ma, .inr (5, [.int (jI mth), .int (jI mn), .ref a0, .int (jI mp), .int (jI mw), .ref a1, .ref a2, .ref a3, .ref a4, .ref a5, .ref a6, .ref a7, .ref a8, .ref a9, .ref a10, .long (jL mu), .long (jL md), .int (jI mo), .ref a11])), (a1, .inl (cZ, 62, .inl (jA y1))), (a2, .inl (cA, 62, .inl (jA y2))), (a3, .inl (cZ, 496, .inl (jA y3))), (a4, .inl (cA, 496, .inl (jA y4))), (a5, .inl (cA, 496, .inl (jA y5))), (a7, .inl (cA, 248, .inl (jA y7))), (a8, .inl (cZ, 8, .inl (jA y8))), (a9, .inl (cA, 64, .inl (jA y9))), (a10, .inl (cA, 8, .inl (jA y10)))] → va_S A s.heap H locs → ∀ ls : Array Slot, lv_has ls 4 [(0, .ref ma), (1, .int (jI z1)), (2, .int (jI z2))] → W p l e R s m ([.ref ma, .int (jI z1), .int (jI z2)] : List Value).toArray below meth c H locs 0 0 Q (F0 m 22 ls [.int (jI jc), .ref ma]) := by
    intro jc hF hjc H locs hP hD hS ls hl
    refine ji_iconst hx hb dXM_holds_22 ?_
    refine jwVi (rest := []) (wr := [(a1, .inl (cZ, 62, .inl (jA y1))), (a2, .inl (cA, 62, .inl (jA y2))), (a3, .inl (cZ, 496, .inl (jA y3))), (a4, .inl (cA, 496, .inl (jA y4))), (a5, .inl (cA, 496, .inl (jA y5))), (a7, .inl (cA, 248, .inl (jA y7))), (a8, .inl (cZ, 8, .inl (jA y8))), (a9, .inl (cA, 64, .inl (jA y9))), (a10, .inl (cA, 8, .inl (jA y10)))]) ⟨hx, hb, hml, hown, hts⟩ (c_XM_goesP l dC dI cA cZ _ ma a0 a1 a2 a3 a4 a5 a6 a7 a8 a9 a10 a11 mth mn mp mw mu md mo jc 1 (by first | assumption | omega) (by first | assumption | omega)) (cwV 2 hts (jG_V tw_698 tw_700 ts_14 tw_6 tw_701) rfl rfl rfl (by decide +kernel) (by rw [hR]; exact ⟨Nat.le_of_ble_eq_true rfl, Nat.le_of_ble_eq_true rfl⟩)) hK hP hD hS hA hN [0] [1, 2, 3, 4, 5, 6, 7, 8, 9] rfl rfl (by decide) (by decide) (by decide) 0 5 rfl rfl rfl rfl hl.1 rfl (Nat.le_of_ble_eq_true rfl) dXM_holds_23 (by rw [hR]; exact ⟨Nat.le_of_ble_eq_true rfl, Nat.le_of_ble_eq_true rfl⟩) (fun v u H locs hwb hP hD hS => ?_)
    obtain ⟨r, mth1'⟩ := u
    try dsimp only at hwb
    obtain ⟨er, hwb, f⟩ := hwb
    subst er
    have f : (r = 0 ∧ mth1' = 1 ∧ jc = 0) ∨ (r = 0 ∧ mth1' = 2 ∧ jc = 1 ∧ (1 : Int) = 0) ∨ (r = 1 ∧ mth1' = 0 ∧ jc = 1 ∧ (1 : Int) = 1) := f
    have hP : va_P (dC, dI) vwCl [(a1, .inl (cZ, 62, .inl (jA y1))), (a2, .inl (cA, 62, .inl (jA y2))), (a3, .inl (cZ, 496, .inl (jA y3))), (a4, .inl (cA, 496, .inl (jA y4))), (a5, .inl (cA, 496, .inl (jA y5))), (a7, .inl (cA, 248, .inl (jA y7))), (a8, .inl (cZ, 8, .inl (jA y8))), (a9, .inl (cA, 64, .inl (jA y9))), (a10, .inl (cA, 8, .inl (jA y10))), (ma, .inr (5, [.int (jI mth1'), .int (jI mn), .ref a0, .int (jI mp), .int (jI mw), .ref a1, .ref a2, .ref a3, .ref a4, .ref a5, .ref a6, .ref a7, .ref a8, .ref a9, .ref a10, .long (jL mu), .long (jL md), .int (jI mo), .ref a11]))] H := hP
    have hD : va_D A [(a1, .inl (cZ, 62, .inl (jA y1))), (a2, .inl (cA, 62, .inl (jA y2))), (a3, .inl (cZ, 496, .inl (jA y3))), (a4, .inl (cA, 496, .inl (jA y4))), (a5, .inl (cA, 496, .inl (jA y5))), (a7, .inl (cA, 248, .inl (jA y7))), (a8, .inl (cZ, 8, .inl (jA y8))), (a9, .inl (cA, 64, .inl (jA y9))), (a10, .inl (cA, 8, .inl (jA y10))), (ma, .inr (5, [.int (jI mth1'), .int (jI mn), .ref a0, .int (jI mp), .int (jI mw), .ref a1, .ref a2, .ref a3, .ref a4, .ref a5, .ref a6, .ref a7, .ref a8, .ref a9, .ref a10, .long (jL mu), .long (jL md), .int (jI mo), .ref a11]))] := hD
    refine ji_if_ne (tgt := 31) hx hb dXM_holds_26 (by decide) (by omega) (fun c26_ => ?_) (fun c26_ => ?_)
    · refine ji_iconst hx hb dXM_holds_31 ?_
      refine lv_istore_n (lv' := [(3, .int (jI 0)), (0, .ref ma), (1, .int (jI z1)), (2, .int (jI z2))]) hx hb dXM_holds_32 rfl hl (by decide) rfl (fun ls hl => ?_)
      have loop33 : ∀ (n9 : Nat) (k : Int) , 8 - k < (n9 : Int) → f_XM_holdsP_L33 mth mn mp mw mu md mo y1 y2 y3 y4 y5 y7 y8 y9 y10 z1 z2 mth1' n9 k = f_XM_holdsP mth mn mp mw mu md mo y1 y2 y3 y4 y5 y7 y8 y9 y10 z1 z2 → (0 ≤ k ∧ k ≤ 8) → ∀ (H : Heap) (locs : List Loc), va_P (dC, dI) vwCl [(a1, .inl (cZ, 62, .inl (jA y1))), (a2, .inl (cA, 62, .inl (jA y2))), (a3, .inl (cZ, 496, .inl (jA y3))), (a4, .inl (cA, 496, .inl (jA y4))), (a5, .inl (cA, 496, .inl (jA y5))), (a7, .inl (cA, 248, .inl (jA y7))), (a8, .inl (cZ, 8, .inl (jA y8))), (a9, .inl (cA, 64, .inl (jA y9))), (a10, .inl (cA, 8, .inl (jA y10))), (ma, .inr (5, [.int (jI mth1'), .int (jI mn), .ref a0, .int (jI mp), .int (jI mw), .ref a1, .ref a2, .ref a3, .ref a4, .ref a5, .ref a6, .ref a7, .ref a8, .ref a9, .ref a10, .long (jL mu), .long (jL md), .int (jI mo), .ref a11]))] H → va_D A [(a1, .inl (cZ, 62, .inl (jA y1))), (a2, .inl (cA, 62, .inl (jA y2))), (a3, .inl (cZ, 496, .inl (jA y3))), (a4, .inl (cA, 496, .inl (jA y4))), (a5, .inl (cA, 496, .inl (jA y5))), (a7, .inl (cA, 248, .inl (jA y7))), (a8, .inl (cZ, 8, .inl (jA y8))), (a9, .inl (cA, 64, .inl (jA y9))), (a10, .inl (cA, 8, .inl (jA y10))), (ma, .inr (5, [.int (jI mth1'), .int (jI mn), .ref a0, .int (jI mp), .int (jI mw), .ref a1, .ref a2, .ref a3, .ref a4, .ref a5, .ref a6, .ref a7, .ref a8, .ref a9, .ref a10, .long (jL mu), .long (jL md), .int (jI mo), .ref a11]))] → va_S A s.heap H locs → ∀ ls : Array Slot, lv_has ls 4 [(3, .int (jI k)), (0, .ref ma), (1, .int (jI z1)), (2, .int (jI z2))] → W p l e R s m ([.ref ma, .int (jI z1), .int (jI z2)] : List Value).toArray below meth c H locs 0 0 Q (F0 m 33 ls []) := by
        intro n9
        induction n9 with
        | zero =>
          intro k hm hF hk
          exact absurd hm (by omega)
        | succ n9 ih33 =>
          intro k hm hF hk H locs hP hD hS ls hl
          refine lv_iload_n hx hb dXM_holds_33 rfl (lv_at hl 0 rfl) ?_
          refine ji_bipush hx hb dXM_holds_34 (by decide) ?_
          refine ji_icmp_ge (tgt := 77) hx hb dXM_holds_36 (by decide) (by omega) (by omega) (fun c36_ => ?_) (fun c36_ => ?_)
          · refine ji_iconst hx hb dXM_holds_77 ?_
            refine lv_istore_n (lv' := [(3, .int (jI 0)), (0, .ref ma), (1, .int (jI z1)), (2, .int (jI z2))]) hx hb dXM_holds_78 rfl hl (by decide) rfl (fun ls hl => ?_)
            have loop79 : ∀ (n9 : Nat) (k2 : Int) (u9 : Int) (d9 : Int) , 4 - k2 < (n9 : Int) → f_XM_holdsP_L79 mth mn mp mw mu md mo y1 y2 y3 y4 y5 y7 y8 y9 y10 z1 z2 mth1' n9 k2 u9 d9 = f_XM_holdsP mth mn mp mw mu md mo y1 y2 y3 y4 y5 y7 y8 y9 y10 z1 z2 → (0 ≤ k2 ∧ k2 ≤ 4) → ∀ (H : Heap) (locs : List Loc), va_P (dC, dI) vwCl [(a1, .inl (cZ, 62, .inl (jA y1))), (a2, .inl (cA, 62, .inl (jA y2))), (a3, .inl (cZ, 496, .inl (jA y3))), (a4, .inl (cA, 496, .inl (jA y4))), (a5, .inl (cA, 496, .inl (jA y5))), (a7, .inl (cA, 248, .inl (jA y7))), (a8, .inl (cZ, 8, .inl (jA y8))), (a9, .inl (cA, 64, .inl (jA y9))), (a10, .inl (cA, 8, .inl (jA y10))), (ma, .inr (5, [.int (jI mth1'), .int (jI mn), .ref a0, .int (jI mp), .int (jI mw), .ref a1, .ref a2, .ref a3, .ref a4, .ref a5, .ref a6, .ref a7, .ref a8, .ref a9, .ref a10, .long (jL u9), .long (jL d9), .int (jI mo), .ref a11]))] H → va_D A [(a1, .inl (cZ, 62, .inl (jA y1))), (a2, .inl (cA, 62, .inl (jA y2))), (a3, .inl (cZ, 496, .inl (jA y3))), (a4, .inl (cA, 496, .inl (jA y4))), (a5, .inl (cA, 496, .inl (jA y5))), (a7, .inl (cA, 248, .inl (jA y7))), (a8, .inl (cZ, 8, .inl (jA y8))), (a9, .inl (cA, 64, .inl (jA y9))), (a10, .inl (cA, 8, .inl (jA y10))), (ma, .inr (5, [.int (jI mth1'), .int (jI mn), .ref a0, .int (jI mp), .int (jI mw), .ref a1, .ref a2, .ref a3, .ref a4, .ref a5, .ref a6, .ref a7, .ref a8, .ref a9, .ref a10, .long (jL u9), .long (jL d9), .int (jI mo), .ref a11]))] → va_S A s.heap H locs → ∀ ls : Array Slot, lv_has ls 4 [(3, .int (jI k2)), (0, .ref ma), (1, .int (jI z1)), (2, .int (jI z2))] → W p l e R s m ([.ref ma, .int (jI z1), .int (jI z2)] : List Value).toArray below meth c H locs 0 0 Q (F0 m 79 ls []) := by
              intro n9
              induction n9 with
              | zero =>
                intro k2 u9 d9 hm hF hk2
                exact absurd hm (by omega)
              | succ n9 ih79 =>
                intro k2 u9 d9 hm hF hk2 H locs hP hD hS ls hl
                refine lv_iload_n hx hb dXM_holds_79 rfl (lv_at hl 0 rfl) ?_
                refine ji_iconst hx hb dXM_holds_80 ?_
                refine ji_icmp_ge (tgt := 103) hx hb dXM_holds_81 (by decide) (by omega) (by omega) (fun c81_ => ?_) (fun c81_ => ?_)
                · refine ji_iconst hx hb dXM_holds_103 ?_
                  have hP9 := hP.sub (ws' := [(ma, .inr (5, [.int (jI mth1'), .int (jI mn), .ref a0, .int (jI mp), .int (jI mw), .ref a1, .ref a2, .ref a3, .ref a4, .ref a5, .ref a6, .ref a7, .ref a8, .ref a9, .ref a10, .long (jL u9), .long (jL d9), .int (jI mo), .ref a11])), (a1, .inl (cZ, 62, .inl (jA y1))), (a2, .inl (cA, 62, .inl (jA y2))), (a3, .inl (cZ, 496, .inl (jA y3))), (a4, .inl (cA, 496, .inl (jA y4))), (a5, .inl (cA, 496, .inl (jA y5))), (a7, .inl (cA, 248, .inl (jA y7))), (a8, .inl (cZ, 8, .inl (jA y8))), (a9, .inl (cA, 64, .inl (jA y9))), (a10, .inl (cA, 8, .inl (jA y10)))]) [9, 0, 1, 2, 3, 4, 5, 6, 7, 8] rfl
                  have hD9 := hD.sub (ws' := [(ma, .inr (5, [.int (jI mth1'), .int (jI mn), .ref a0, .int (jI mp), .int (jI mw), .ref a1, .ref a2, .ref a3, .ref a4, .ref a5, .ref a6, .ref a7, .ref a8, .ref a9, .ref a10, .long (jL u9), .long (jL d9), .int (jI mo), .ref a11])), (a1, .inl (cZ, 62, .inl (jA y1))), (a2, .inl (cA, 62, .inl (jA y2))), (a3, .inl (cZ, 496, .inl (jA y3))), (a4, .inl (cA, 496, .inl (jA y4))), (a5, .inl (cA, 496, .inl (jA y5))), (a7, .inl (cA, 248, .inl (jA y7))), (a8, .inl (cZ, 8, .inl (jA y8))), (a9, .inl (cA, 64, .inl (jA y9))), (a10, .inl (cA, 8, .inl (jA y10)))]) [9, 0, 1, 2, 3, 4, 5, 6, 7, 8] (by decide) rfl
                  subst hAe
                  subst hQ
                  exact W.zret (v := jI 1) hx hb hr (by first | decide | exact jz (by omega)) (fun t ht hW => ⟨⟨_, (1, mth1', u9, d9), rfl, ⟨rfl, Eq.trans (by rw [f_XM_holdsP_L79_s]; rw [if_neg (Int.not_lt.mpr c81_)]; try rfl) hF, show 0 ≤ mth1' ∧ mth1' ≤ 2 from by first | assumption | omega | exact jset_b (by assumption) (by omega) | exact jset_l (by assumption) (by omega) | exact jset_l (fun _ _ => rfl) (by omega) | exact fun _ _ => rfl | exact l_trans (by assumption) (by assumption), show 0 ≤ 1 ∧ 1 ≤ 1 from by first | assumption | omega | exact jset_b (by assumption) (by omega) | exact jset_l (by assumption) (by omega) | exact jset_l (fun _ _ => rfl) (by omega) | exact fun _ _ => rfl | exact l_trans (by assumption) (by assumption)⟩, ⟨by rw [ht]; exact hP9, va_K.moved hW.alike hK, hD9⟩⟩, hS.F ht⟩) hS.2.2 dXM_holds_104
                · refine lv_aload_n hx hb dXM_holds_84 rfl (lv_at hl 1 rfl) ?_
                  refine lv_iload_n hx hb dXM_holds_85 rfl (lv_at hl 2 rfl) ?_
                  refine lv_iload_n hx hb dXM_holds_86 rfl (lv_at hl 3 rfl) ?_
                  refine lv_iload_n hx hb dXM_holds_87 rfl (lv_at hl 0 rfl) ?_
                  refine ji_iconst hx hb dXM_holds_88 ?_
                  refine jwVi (rest := []) (wr := []) ⟨hx, hb, hml, hown, hts⟩ (c_XM_isAboveP l dC dI cA cZ _ ma a0 a1 a2 a3 a4 a5 a6 a7 a8 a9 a10 a11 mth1' mn mp mw u9 d9 mo y1 y2 y3 y4 y5 y7 y8 y9 y10 z1 z2 k2 1 (by first | assumption | omega) (by first | assumption | omega) (by first | assumption | omega) (by first | assumption | omega) (by first | assumption | omega) (by first | assumption | omega) (by first | assumption | omega) (by first | assumption | omega) (by first | assumption | omega) (by first | assumption | omega) (by first | assumption | omega) (by first | assumption | omega)) (cwV 4 hts (jG_V tw_826 tw_828 ts_37 tw_6 tw_829) rfl rfl rfl (by decide +kernel) (by rw [hR]; exact ⟨Nat.le_of_ble_eq_true rfl, Nat.le_of_ble_eq_true rfl⟩)) hK hP hD hS hA hN [9, 0, 1, 2, 3, 4, 5, 6, 7, 8] [] rfl rfl (by decide) (by decide) (by decide) 9 5 rfl rfl rfl rfl hl.1 rfl (Nat.le_of_ble_eq_true rfl) dXM_holds_89 (by rw [hR]; exact ⟨Nat.le_of_ble_eq_true rfl, Nat.le_of_ble_eq_true rfl⟩) (fun v3 u2 H locs hwb4 hP hD hS => ?_)
                  obtain ⟨r1, mu1', md1'⟩ := u2
                  try dsimp only at hwb4
                  obtain ⟨er, hwb4, f5⟩ := hwb4
                  subst er
                  have f5 : 0 ≤ r1 ∧ r1 ≤ 1 := f5
                  have hP : va_P (dC, dI) vwCl [(ma, .inr (5, [.int (jI mth1'), .int (jI mn), .ref a0, .int (jI mp), .int (jI mw), .ref a1, .ref a2, .ref a3, .ref a4, .ref a5, .ref a6, .ref a7, .ref a8, .ref a9, .ref a10, .long (jL mu1'), .long (jL md1'), .int (jI mo), .ref a11])), (a1, .inl (cZ, 62, .inl (jA y1))), (a2, .inl (cA, 62, .inl (jA y2))), (a3, .inl (cZ, 496, .inl (jA y3))), (a4, .inl (cA, 496, .inl (jA y4))), (a5, .inl (cA, 496, .inl (jA y5))), (a7, .inl (cA, 248, .inl (jA y7))), (a8, .inl (cZ, 8, .inl (jA y8))), (a9, .inl (cA, 64, .inl (jA y9))), (a10, .inl (cA, 8, .inl (jA y10)))] H := hP
                  have hD : va_D A [(ma, .inr (5, [.int (jI mth1'), .int (jI mn), .ref a0, .int (jI mp), .int (jI mw), .ref a1, .ref a2, .ref a3, .ref a4, .ref a5, .ref a6, .ref a7, .ref a8, .ref a9, .ref a10, .long (jL mu1'), .long (jL md1'), .int (jI mo), .ref a11])), (a1, .inl (cZ, 62, .inl (jA y1))), (a2, .inl (cA, 62, .inl (jA y2))), (a3, .inl (cZ, 496, .inl (jA y3))), (a4, .inl (cA, 496, .inl (jA y4))), (a5, .inl (cA, 496, .inl (jA y5))), (a7, .inl (cA, 248, .inl (jA y7))), (a8, .inl (cZ, 8, .inl (jA y8))), (a9, .inl (cA, 64, .inl (jA y9))), (a10, .inl (cA, 8, .inl (jA y10)))] := hD
                  refine ji_if_eq (tgt := 97) hx hb dXM_holds_92 (by decide) (by omega) (fun c92_ => ?_) (fun c92_ => ?_)
                  · refine ji_iinc (k := 0) (lv' := [(3, .int (jI (k2 + 1))), (0, .ref ma), (1, .int (jI z1)), (2, .int (jI z2))]) hx hb dXM_holds_97 hl rfl (by decide) rfl (fun ls hl => ?_)
                    refine lv_goto (tgt := 79) hx hb dXM_holds_100 (by decide) ?_
                    exact ih79 (k2 + 1) mu1' md1' (by omega) (Eq.trans (by rw [f_XM_holdsP_L79_s]; rw [if_pos c81_]; rw [← hwb4]; try dsimp only; rw [if_pos c92_]; try rfl) hF) (by first | assumption | omega) _ _ (hP.sub [1, 2, 3, 4, 5, 6, 7, 8, 9, 0] rfl) (hD.sub [1, 2, 3, 4, 5, 6, 7, 8, 9, 0] (by decide) rfl) hS ls (lv_sub hl [0, 1, 2, 3] rfl)
                  · refine ji_iconst hx hb dXM_holds_95 ?_
                    have hP9 := hP.sub (ws' := [(ma, .inr (5, [.int (jI mth1'), .int (jI mn), .ref a0, .int (jI mp), .int (jI mw), .ref a1, .ref a2, .ref a3, .ref a4, .ref a5, .ref a6, .ref a7, .ref a8, .ref a9, .ref a10, .long (jL mu1'), .long (jL md1'), .int (jI mo), .ref a11])), (a1, .inl (cZ, 62, .inl (jA y1))), (a2, .inl (cA, 62, .inl (jA y2))), (a3, .inl (cZ, 496, .inl (jA y3))), (a4, .inl (cA, 496, .inl (jA y4))), (a5, .inl (cA, 496, .inl (jA y5))), (a7, .inl (cA, 248, .inl (jA y7))), (a8, .inl (cZ, 8, .inl (jA y8))), (a9, .inl (cA, 64, .inl (jA y9))), (a10, .inl (cA, 8, .inl (jA y10)))]) [0, 1, 2, 3, 4, 5, 6, 7, 8, 9] rfl
                    have hD9 := hD.sub (ws' := [(ma, .inr (5, [.int (jI mth1'), .int (jI mn), .ref a0, .int (jI mp), .int (jI mw), .ref a1, .ref a2, .ref a3, .ref a4, .ref a5, .ref a6, .ref a7, .ref a8, .ref a9, .ref a10, .long (jL mu1'), .long (jL md1'), .int (jI mo), .ref a11])), (a1, .inl (cZ, 62, .inl (jA y1))), (a2, .inl (cA, 62, .inl (jA y2))), (a3, .inl (cZ, 496, .inl (jA y3))), (a4, .inl (cA, 496, .inl (jA y4))), (a5, .inl (cA, 496, .inl (jA y5))), (a7, .inl (cA, 248, .inl (jA y7))), (a8, .inl (cZ, 8, .inl (jA y8))), (a9, .inl (cA, 64, .inl (jA y9))), (a10, .inl (cA, 8, .inl (jA y10)))]) [0, 1, 2, 3, 4, 5, 6, 7, 8, 9] (by decide) rfl
                    subst hAe
                    subst hQ
                    exact W.zret (v := jI 0) hx hb hr (by first | decide | exact jz (by omega)) (fun t ht hW => ⟨⟨_, (0, mth1', mu1', md1'), rfl, ⟨rfl, Eq.trans (by rw [f_XM_holdsP_L79_s]; rw [if_pos c81_]; rw [← hwb4]; try dsimp only; rw [if_neg c92_]; try rfl) hF, show 0 ≤ mth1' ∧ mth1' ≤ 2 from by first | assumption | omega | exact jset_b (by assumption) (by omega) | exact jset_l (by assumption) (by omega) | exact jset_l (fun _ _ => rfl) (by omega) | exact fun _ _ => rfl | exact l_trans (by assumption) (by assumption), show 0 ≤ 0 ∧ 0 ≤ 1 from by first | assumption | omega | exact jset_b (by assumption) (by omega) | exact jset_l (by assumption) (by omega) | exact jset_l (fun _ _ => rfl) (by omega) | exact fun _ _ => rfl | exact l_trans (by assumption) (by assumption)⟩, ⟨by rw [ht]; exact hP9, va_K.moved hW.alike hK, hD9⟩⟩, hS.F ht⟩) hS.2.2 dXM_holds_96
            exact loop79 (Int.toNat (4 - 0) + 1) 0 mu md (by omega) (Eq.trans (by rw [f_XM_holdsP_L33_s]; rw [if_neg (Int.not_lt.mpr c36_)]; try rfl) hF) (by first | assumption | omega) _ _ hP hD hS ls (lv_sub hl [0, 1, 2, 3] rfl)
          · refine lv_aload_n hx hb dXM_holds_39 rfl (lv_at hl 1 rfl) ?_
            refine lv_iload_n hx hb dXM_holds_40 rfl (lv_at hl 3 rfl) ?_
            refine lv_iload_n hx hb dXM_holds_41 rfl (lv_at hl 0 rfl) ?_
            refine jrVi (rest := []) ⟨hx, hb, hml, hown, hts⟩ (c_XM_lowOfP l dC dI cA cZ ma a0 a1 a2 a3 a4 a5 a6 a7 a8 a9 a10 a11 mth1' mn mp mw mu md mo y1 y2 y3 y4 z2 k (by first | assumption | omega) (by first | assumption | omega) (by first | assumption | omega) (by first | assumption | omega) (by first | assumption | omega) (by first | assumption | omega)) (cwV 2 hts (jG_V tw_775 tw_777 ts_30 tw_6 tw_778) rfl rfl rfl (by decide +kernel) (by rw [hR]; exact ⟨Nat.le_of_ble_eq_true rfl, Nat.le_of_ble_eq_true rfl⟩)) hK hP hN [9, 0, 1, 2, 3] rfl 9 5 rfl rfl rfl rfl hl.1 rfl (Nat.le_of_ble_eq_true rfl) dXM_holds_42 (by rw [hR]; exact ⟨Nat.le_of_ble_eq_true rfl, Nat.le_of_ble_eq_true rfl⟩) ?_
            have f6 := f_XM_lowOfP_b mth1' mn mp mw mu md mo y1 y2 y3 y4 z2 k (by first | assumption | omega) (by first | assumption | omega) (by first | assumption | omega) (by first | assumption | omega) (by first | assumption | omega) (by first | assumption | omega)
            refine lv_aload_n hx hb dXM_holds_45 rfl (lv_at hl 1 rfl) ?_
            refine lv_iload_n hx hb dXM_holds_46 rfl (lv_at hl 2 rfl) ?_
            refine lv_iload_n hx hb dXM_holds_47 rfl (lv_at hl 0 rfl) ?_
            refine jrVi (rest := [.int (jI (f_XM_lowOfP mth1' mn mp mw mu md mo y1 y2 y3 y4 z2 k))]) ⟨hx, hb, hml, hown, hts⟩ (c_XM_lowOfP l dC dI cA cZ ma a0 a1 a2 a3 a4 a5 a6 a7 a8 a9 a10 a11 mth1' mn mp mw mu md mo y1 y2 y3 y4 z1 k (by first | assumption | omega) (by first | assumption | omega) (by first | assumption | omega) (by first | assumption | omega) (by first | assumption | omega) (by first | assumption | omega)) (cwV 2 hts (jG_V tw_775 tw_777 ts_30 tw_6 tw_778) rfl rfl rfl (by decide +kernel) (by rw [hR]; exact ⟨Nat.le_of_ble_eq_true rfl, Nat.le_of_ble_eq_true rfl⟩)) hK hP hN [9, 0, 1, 2, 3] rfl 9 5 rfl rfl rfl rfl hl.1 rfl (Nat.le_of_ble_eq_true rfl) dXM_holds_48 (by rw [hR]; exact ⟨Nat.le_of_ble_eq_true rfl, Nat.le_of_ble_eq_true rfl⟩) ?_
            have f7 := f_XM_lowOfP_b mth1' mn mp mw mu md mo y1 y2 y3 y4 z1 k (by first | assumption | omega) (by first | assumption | omega) (by first | assumption | omega) (by first | assumption | omega) (by first | assumption | omega) (by first | assumption | omega)
            refine ji_icmp_lt (tgt := 69) hx hb dXM_holds_51 (by decide) (by omega) (by omega) (fun c51_ => ?_) (fun c51_ => ?_)
            · refine ji_iconst hx hb dXM_holds_69 ?_
              have hP9 := hP.sub (ws' := [(ma, .inr (5, [.int (jI mth1'), .int (jI mn), .ref a0, .int (jI mp), .int (jI mw), .ref a1, .ref a2, .ref a3, .ref a4, .ref a5, .ref a6, .ref a7, .ref a8, .ref a9, .ref a10, .long (jL mu), .long (jL md), .int (jI mo), .ref a11])), (a1, .inl (cZ, 62, .inl (jA y1))), (a2, .inl (cA, 62, .inl (jA y2))), (a3, .inl (cZ, 496, .inl (jA y3))), (a4, .inl (cA, 496, .inl (jA y4))), (a5, .inl (cA, 496, .inl (jA y5))), (a7, .inl (cA, 248, .inl (jA y7))), (a8, .inl (cZ, 8, .inl (jA y8))), (a9, .inl (cA, 64, .inl (jA y9))), (a10, .inl (cA, 8, .inl (jA y10)))]) [9, 0, 1, 2, 3, 4, 5, 6, 7, 8] rfl
              have hD9 := hD.sub (ws' := [(ma, .inr (5, [.int (jI mth1'), .int (jI mn), .ref a0, .int (jI mp), .int (jI mw), .ref a1, .ref a2, .ref a3, .ref a4, .ref a5, .ref a6, .ref a7, .ref a8, .ref a9, .ref a10, .long (jL mu), .long (jL md), .int (jI mo), .ref a11])), (a1, .inl (cZ, 62, .inl (jA y1))), (a2, .inl (cA, 62, .inl (jA y2))), (a3, .inl (cZ, 496, .inl (jA y3))), (a4, .inl (cA, 496, .inl (jA y4))), (a5, .inl (cA, 496, .inl (jA y5))), (a7, .inl (cA, 248, .inl (jA y7))), (a8, .inl (cZ, 8, .inl (jA y8))), (a9, .inl (cA, 64, .inl (jA y9))), (a10, .inl (cA, 8, .inl (jA y10)))]) [9, 0, 1, 2, 3, 4, 5, 6, 7, 8] (by decide) rfl
              subst hAe
              subst hQ
              exact W.zret (v := jI 0) hx hb hr (by first | decide | exact jz (by omega)) (fun t ht hW => ⟨⟨_, (0, mth1', mu, md), rfl, ⟨rfl, Eq.trans (by rw [f_XM_holdsP_L33_s]; rw [if_pos c36_, if_pos c51_]; try rfl) hF, show 0 ≤ mth1' ∧ mth1' ≤ 2 from by first | assumption | omega | exact jset_b (by assumption) (by omega) | exact jset_l (by assumption) (by omega) | exact jset_l (fun _ _ => rfl) (by omega) | exact fun _ _ => rfl | exact l_trans (by assumption) (by assumption), show 0 ≤ 0 ∧ 0 ≤ 1 from by first | assumption | omega | exact jset_b (by assumption) (by omega) | exact jset_l (by assumption) (by omega) | exact jset_l (fun _ _ => rfl) (by omega) | exact fun _ _ => rfl | exact l_trans (by assumption) (by assumption)⟩, ⟨by rw [ht]; exact hP9, va_K.moved hW.alike hK, hD9⟩⟩, hS.F ht⟩) hS.2.2 dXM_holds_70
            · refine lv_aload_n hx hb dXM_holds_54 rfl (lv_at hl 1 rfl) ?_
              refine lv_iload_n hx hb dXM_holds_55 rfl (lv_at hl 3 rfl) ?_
              refine lv_iload_n hx hb dXM_holds_56 rfl (lv_at hl 0 rfl) ?_
              refine jrVi (rest := []) ⟨hx, hb, hml, hown, hts⟩ (c_XM_highOfP l dC dI cA cZ ma a0 a1 a2 a3 a4 a5 a6 a7 a8 a9 a10 a11 mth1' mn mp mw mu md mo y1 y2 y3 y5 z2 k (by first | assumption | omega) (by first | assumption | omega) (by first | assumption | omega) (by first | assumption | omega) (by first | assumption | omega) (by first | assumption | omega)) (cwV 2 hts (jG_V tw_787 tw_789 ts_33 tw_6 tw_790) rfl rfl rfl (by decide +kernel) (by rw [hR]; exact ⟨Nat.le_of_ble_eq_true rfl, Nat.le_of_ble_eq_true rfl⟩)) hK hP hN [9, 0, 1, 2, 4] rfl 9 5 rfl rfl rfl rfl hl.1 rfl (Nat.le_of_ble_eq_true rfl) dXM_holds_57 (by rw [hR]; exact ⟨Nat.le_of_ble_eq_true rfl, Nat.le_of_ble_eq_true rfl⟩) ?_
              have f8 := f_XM_highOfP_b mth1' mn mp mw mu md mo y1 y2 y3 y5 z2 k (by first | assumption | omega) (by first | assumption | omega) (by first | assumption | omega) (by first | assumption | omega) (by first | assumption | omega) (by first | assumption | omega)
              refine lv_aload_n hx hb dXM_holds_60 rfl (lv_at hl 1 rfl) ?_
              refine lv_iload_n hx hb dXM_holds_61 rfl (lv_at hl 2 rfl) ?_
              refine lv_iload_n hx hb dXM_holds_62 rfl (lv_at hl 0 rfl) ?_
              refine jrVi (rest := [.int (jI (f_XM_highOfP mth1' mn mp mw mu md mo y1 y2 y3 y5 z2 k))]) ⟨hx, hb, hml, hown, hts⟩ (c_XM_highOfP l dC dI cA cZ ma a0 a1 a2 a3 a4 a5 a6 a7 a8 a9 a10 a11 mth1' mn mp mw mu md mo y1 y2 y3 y5 z1 k (by first | assumption | omega) (by first | assumption | omega) (by first | assumption | omega) (by first | assumption | omega) (by first | assumption | omega) (by first | assumption | omega)) (cwV 2 hts (jG_V tw_787 tw_789 ts_33 tw_6 tw_790) rfl rfl rfl (by decide +kernel) (by rw [hR]; exact ⟨Nat.le_of_ble_eq_true rfl, Nat.le_of_ble_eq_true rfl⟩)) hK hP hN [9, 0, 1, 2, 4] rfl 9 5 rfl rfl rfl rfl hl.1 rfl (Nat.le_of_ble_eq_true rfl) dXM_holds_63 (by rw [hR]; exact ⟨Nat.le_of_ble_eq_true rfl, Nat.le_of_ble_eq_true rfl⟩) ?_
              have f9 := f_XM_highOfP_b mth1' mn mp mw mu md mo y1 y2 y3 y5 z1 k (by first | assumption | omega) (by first | assumption | omega) (by first | assumption | omega) (by first | assumption | omega) (by first | assumption | omega) (by first | assumption | omega)
              refine ji_icmp_le (tgt := 71) hx hb dXM_holds_66 (by decide) (by omega) (by omega) (fun c66_ => ?_) (fun c66_ => ?_)
              · refine ji_iinc (k := 0) (lv' := [(3, .int (jI (k + 1))), (0, .ref ma), (1, .int (jI z1)), (2, .int (jI z2))]) hx hb dXM_holds_71 hl rfl (by decide) rfl (fun ls hl => ?_)
                refine lv_goto (tgt := 33) hx hb dXM_holds_74 (by decide) ?_
                exact ih33 (k + 1) (by omega) (Eq.trans (by rw [f_XM_holdsP_L33_s]; rw [if_pos c36_, if_neg (Int.not_lt.mpr c51_), if_neg (Int.not_lt.mpr c66_)]; try rfl) hF) (by first | assumption | omega) _ _ hP hD hS ls (lv_sub hl [0, 1, 2, 3] rfl)
              · refine ji_iconst hx hb dXM_holds_69 ?_
                have hP9 := hP.sub (ws' := [(ma, .inr (5, [.int (jI mth1'), .int (jI mn), .ref a0, .int (jI mp), .int (jI mw), .ref a1, .ref a2, .ref a3, .ref a4, .ref a5, .ref a6, .ref a7, .ref a8, .ref a9, .ref a10, .long (jL mu), .long (jL md), .int (jI mo), .ref a11])), (a1, .inl (cZ, 62, .inl (jA y1))), (a2, .inl (cA, 62, .inl (jA y2))), (a3, .inl (cZ, 496, .inl (jA y3))), (a4, .inl (cA, 496, .inl (jA y4))), (a5, .inl (cA, 496, .inl (jA y5))), (a7, .inl (cA, 248, .inl (jA y7))), (a8, .inl (cZ, 8, .inl (jA y8))), (a9, .inl (cA, 64, .inl (jA y9))), (a10, .inl (cA, 8, .inl (jA y10)))]) [9, 0, 1, 2, 3, 4, 5, 6, 7, 8] rfl
                have hD9 := hD.sub (ws' := [(ma, .inr (5, [.int (jI mth1'), .int (jI mn), .ref a0, .int (jI mp), .int (jI mw), .ref a1, .ref a2, .ref a3, .ref a4, .ref a5, .ref a6, .ref a7, .ref a8, .ref a9, .ref a10, .long (jL mu), .long (jL md), .int (jI mo), .ref a11])), (a1, .inl (cZ, 62, .inl (jA y1))), (a2, .inl (cA, 62, .inl (jA y2))), (a3, .inl (cZ, 496, .inl (jA y3))), (a4, .inl (cA, 496, .inl (jA y4))), (a5, .inl (cA, 496, .inl (jA y5))), (a7, .inl (cA, 248, .inl (jA y7))), (a8, .inl (cZ, 8, .inl (jA y8))), (a9, .inl (cA, 64, .inl (jA y9))), (a10, .inl (cA, 8, .inl (jA y10)))]) [9, 0, 1, 2, 3, 4, 5, 6, 7, 8] (by decide) rfl
                subst hAe
                subst hQ
                exact W.zret (v := jI 0) hx hb hr (by first | decide | exact jz (by omega)) (fun t ht hW => ⟨⟨_, (0, mth1', mu, md), rfl, ⟨rfl, Eq.trans (by rw [f_XM_holdsP_L33_s]; rw [if_pos c36_, if_neg (Int.not_lt.mpr c51_), if_pos c66_]; try rfl) hF, show 0 ≤ mth1' ∧ mth1' ≤ 2 from by first | assumption | omega | exact jset_b (by assumption) (by omega) | exact jset_l (by assumption) (by omega) | exact jset_l (fun _ _ => rfl) (by omega) | exact fun _ _ => rfl | exact l_trans (by assumption) (by assumption), show 0 ≤ 0 ∧ 0 ≤ 1 from by first | assumption | omega | exact jset_b (by assumption) (by omega) | exact jset_l (by assumption) (by omega) | exact jset_l (fun _ _ => rfl) (by omega) | exact fun _ _ => rfl | exact l_trans (by assumption) (by assumption)⟩, ⟨by rw [ht]; exact hP9, va_K.moved hW.alike hK, hD9⟩⟩, hS.F ht⟩) hS.2.2 dXM_holds_70
      exact loop33 (Int.toNat (8 - 0) + 1) 0 (by omega) (Eq.trans (by rw [f_XM_holdsP_J22_s]; rw [← hwb]; try dsimp only; rw [if_neg c26_]; try rfl) hF) (by first | assumption | omega) _ _ hP hD hS ls (lv_sub hl [0, 1, 2, 3] rfl)
    · refine ji_iconst hx hb dXM_holds_29 ?_
      have hP9 := hP.sub (ws' := [(ma, .inr (5, [.int (jI mth1'), .int (jI mn), .ref a0, .int (jI mp), .int (jI mw), .ref a1, .ref a2, .ref a3, .ref a4, .ref a5, .ref a6, .ref a7, .ref a8, .ref a9, .ref a10, .long (jL mu), .long (jL md), .int (jI mo), .ref a11])), (a1, .inl (cZ, 62, .inl (jA y1))), (a2, .inl (cA, 62, .inl (jA y2))), (a3, .inl (cZ, 496, .inl (jA y3))), (a4, .inl (cA, 496, .inl (jA y4))), (a5, .inl (cA, 496, .inl (jA y5))), (a7, .inl (cA, 248, .inl (jA y7))), (a8, .inl (cZ, 8, .inl (jA y8))), (a9, .inl (cA, 64, .inl (jA y9))), (a10, .inl (cA, 8, .inl (jA y10)))]) [9, 0, 1, 2, 3, 4, 5, 6, 7, 8] rfl
      have hD9 := hD.sub (ws' := [(ma, .inr (5, [.int (jI mth1'), .int (jI mn), .ref a0, .int (jI mp), .int (jI mw), .ref a1, .ref a2, .ref a3, .ref a4, .ref a5, .ref a6, .ref a7, .ref a8, .ref a9, .ref a10, .long (jL mu), .long (jL md), .int (jI mo), .ref a11])), (a1, .inl (cZ, 62, .inl (jA y1))), (a2, .inl (cA, 62, .inl (jA y2))), (a3, .inl (cZ, 496, .inl (jA y3))), (a4, .inl (cA, 496, .inl (jA y4))), (a5, .inl (cA, 496, .inl (jA y5))), (a7, .inl (cA, 248, .inl (jA y7))), (a8, .inl (cZ, 8, .inl (jA y8))), (a9, .inl (cA, 64, .inl (jA y9))), (a10, .inl (cA, 8, .inl (jA y10)))]) [9, 0, 1, 2, 3, 4, 5, 6, 7, 8] (by decide) rfl
      subst hAe
      subst hQ
      exact W.zret (v := jI 0) hx hb hr (by first | decide | exact jz (by omega)) (fun t ht hW => ⟨⟨_, (0, mth1', mu, md), rfl, ⟨rfl, Eq.trans (by rw [f_XM_holdsP_J22_s]; rw [← hwb]; try dsimp only; rw [if_pos c26_]; try rfl) hF, show 0 ≤ mth1' ∧ mth1' ≤ 2 from by first | assumption | omega | exact jset_b (by assumption) (by omega) | exact jset_l (by assumption) (by omega) | exact jset_l (fun _ _ => rfl) (by omega) | exact fun _ _ => rfl | exact l_trans (by assumption) (by assumption), show 0 ≤ 0 ∧ 0 ≤ 1 from by first | assumption | omega | exact jset_b (by assumption) (by omega) | exact jset_l (by assumption) (by omega) | exact jset_l (fun _ _ => rfl) (by omega) | exact fun _ _ => rfl | exact l_trans (by assumption) (by assumption)⟩, ⟨by rw [ht]; exact hP9, va_K.moved hW.alike hK, hD9⟩⟩, hS.F ht⟩) hS.2.2 dXM_holds_30
  refine lv_aload_n hx hb dXM_holds_1 rfl (lv_at hl 0 rfl) ?_
  refine lv_iload_n hx hb dXM_holds_2 rfl (lv_at hl 1 rfl) ?_
  refine jrVi (rest := [.ref ma]) ⟨hx, hb, hml, hown, hts⟩ (c_XM_isTold l dC dI cA cZ ma a0 a1 a2 a3 a4 a5 a6 a7 a8 a9 a10 a11 mth mn mp mw mu md mo y1 z1 (by first | assumption | omega) (by first | assumption | omega)) (cwV 1 hts (jG_V tw_768 tw_770 ts_29 tw_6 tw_771) rfl rfl rfl (by decide +kernel) (by rw [hR]; exact ⟨Nat.le_of_ble_eq_true rfl, Nat.le_of_ble_eq_true rfl⟩)) hK hP hN [0, 1] rfl 0 5 rfl rfl rfl rfl hl.1 rfl (Nat.le_of_ble_eq_true rfl) dXM_holds_3 (by rw [hR]; exact ⟨Nat.le_of_ble_eq_true rfl, Nat.le_of_ble_eq_true rfl⟩) ?_
  have f10 := f_XM_isTold_b mth mn mp mw mu md mo y1 z1 (by first | assumption | omega) (by first | assumption | omega)
  refine ji_if_eq (tgt := 21) hx hb dXM_holds_6 (by decide) (by omega) (fun c6_ => ?_) (fun c6_ => ?_)
  · refine ji_iconst hx hb dXM_holds_21 ?_
    exact join22 0 (Eq.trans (by rw [f_XM_holdsP_s]; rw [if_pos c6_]; try rfl) rfl) (by first | assumption | omega | exact jset_b (by assumption) (by omega)) _ _ hP hD hS ls (lv_sub hl [0, 1, 2] rfl)
  · refine lv_aload_n hx hb dXM_holds_9 rfl (lv_at hl 0 rfl) ?_
    refine lv_iload_n hx hb dXM_holds_10 rfl (lv_at hl 2 rfl) ?_
    refine jrVi (rest := [.ref ma]) ⟨hx, hb, hml, hown, hts⟩ (c_XM_isTold l dC dI cA cZ ma a0 a1 a2 a3 a4 a5 a6 a7 a8 a9 a10 a11 mth mn mp mw mu md mo y1 z2 (by first | assumption | omega) (by first | assumption | omega)) (cwV 1 hts (jG_V tw_768 tw_770 ts_29 tw_6 tw_771) rfl rfl rfl (by decide +kernel) (by rw [hR]; exact ⟨Nat.le_of_ble_eq_true rfl, Nat.le_of_ble_eq_true rfl⟩)) hK hP hN [0, 1] rfl 0 5 rfl rfl rfl rfl hl.1 rfl (Nat.le_of_ble_eq_true rfl) dXM_holds_11 (by rw [hR]; exact ⟨Nat.le_of_ble_eq_true rfl, Nat.le_of_ble_eq_true rfl⟩) ?_
    have f11 := f_XM_isTold_b mth mn mp mw mu md mo y1 z2 (by first | assumption | omega) (by first | assumption | omega)
    refine ji_if_eq (tgt := 21) hx hb dXM_holds_14 (by decide) (by omega) (fun c14_ => ?_) (fun c14_ => ?_)
    · refine ji_iconst hx hb dXM_holds_21 ?_
      exact join22 0 (Eq.trans (by rw [f_XM_holdsP_s]; rw [if_neg c6_, if_pos c14_]; try rfl) rfl) (by first | assumption | omega | exact jset_b (by assumption) (by omega)) _ _ hP hD hS ls (lv_sub hl [0, 1, 2] rfl)
    · refine ji_iconst hx hb dXM_holds_17 ?_
      refine lv_goto (tgt := 22) hx hb dXM_holds_18 (by decide) ?_
      exact join22 1 (Eq.trans (by rw [f_XM_holdsP_s]; rw [if_neg c6_, if_neg c14_]; try rfl) rfl) (by first | assumption | omega | exact jset_b (by assumption) (by omega)) _ _ hP hD hS ls (lv_sub hl [0, 1, 2] rfl)

end
