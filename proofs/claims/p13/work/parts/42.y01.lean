section
/-! the byte that both put on the tape -/
theorem e_byte1 (B : BitVec 64) : (jI B.toInt &&& jI 255).toInt = ((B.toNat % 256 : Nat) : Int) := by
  have h1 : (jI B.toInt).toBitVec = B.setWidth 32 := by
    show BitVec.ofInt 32 B.toInt = _
    apply BitVec.eq_of_toInt_eq
    rw [BitVec.toInt_ofInt, BitVec.toInt_setWidth, BitVec.toInt_eq_toNat_bmod, Int.bmod_bmod_of_dvd (by decide)]
  have h2 : (jI B.toInt &&& jI 255).toBitVec = B.setWidth 32 &&& 255#32 := by
    rw [Int32.toBitVec_and, h1]; rfl
  have h3 : (B.setWidth 32 &&& 255#32).toNat = B.toNat % 256 := by
    rw [BitVec.toNat_and, BitVec.toNat_setWidth]
    show B.toNat % 2 ^ 32 &&& 2 ^ 8 - 1 = _
    rw [Nat.and_two_pow_sub_one_eq_mod]
    omega
  show (jI B.toInt &&& jI 255).toBitVec.toInt = _
  rw [h2, BitVec.toInt_eq_toNat_of_lt (by rw [h3]; omega), h3]
theorem e_byte2 (A : BitVec 64) (j : Nat) (hj : j ≤ 56) : (A.sshiftRight j).toNat % 256 = (A.toNat / 2 ^ j) % 256 := by
  apply Nat.eq_of_testBit_eq
  intro i
  rw [show 256 = 2 ^ 8 from rfl, Nat.testBit_mod_two_pow, Nat.testBit_mod_two_pow, Nat.testBit_div_two_pow]
  by_cases h : i < 8
  · have h1 : (A.sshiftRight j).toNat.testBit i = A.toNat.testBit (j + i) := by
      show (A.sshiftRight j).getLsbD i = A.getLsbD (j + i)
      rw [BitVec.getLsbD_sshiftRight]
      have g1 : j + i < 64 := by omega
      have g2 : i < 64 := by omega
      simp [g1, g2]
    rw [h1, Nat.add_comm]
  · simp [h]
theorem e_byte3 : ∀ n, n < 8 → ∀ A : Int64, (A >>> ((jI (8 * (n : Nat))).toInt64 &&& 63)).toBitVec = A.toBitVec.sshiftRight (8 * n) := by
  intro n hn A
  rcases (show n = 0 ∨ n = 1 ∨ n = 2 ∨ n = 3 ∨ n = 4 ∨ n = 5 ∨ n = 6 ∨ n = 7 by omega) with rfl | rfl | rfl | rfl | rfl | rfl | rfl | rfl <;> rfl
theorem e_byte (zy k : Int) (hk : 0 ≤ k ∧ k ≤ 7) : (jI ((jL zy >>> ((jI (8 * k)).toInt64 &&& 63)).toInt) &&& jI 255).toInt = (jushr zy (8 * k)) % 256 := by
  obtain ⟨n, rfl⟩ := Int.eq_ofNat_of_zero_le hk.1
  have h := e_byte3 n (by omega) (jL zy)
  have h1 : (jL zy >>> ((jI (8 * (n : Int))).toInt64 &&& 63)).toInt = ((jL zy).toBitVec.sshiftRight (8 * n)).toInt := by
    show (jL zy >>> ((jI (8 * (n : Int))).toInt64 &&& 63)).toBitVec.toInt = _
    rw [h]
  rw [h1, e_byte1, e_byte2 _ _ (by omega)]
  have h2 : (jL zy).toBitVec.toNat = (zy % 18446744073709551616).toNat := jL_nat zy
  rw [h2]
  have hx := Int.emod_nonneg zy (show (18446744073709551616 : Int) ≠ 0 by decide)
  obtain ⟨y, hy⟩ := Int.eq_ofNat_of_zero_le hx
  unfold jushr
  rw [hy, show (8 * (n : Int)).toNat = 8 * n by omega, Int.toNat_natCast, ← Int.natCast_ediv]
  rfl

end
section
/-! sign: what lies on both tapes -/
section EQX2
variable (mth mp mw mu md mo : Int)
theorem e_signL (mn : Int) (y0 : Int → Int) (tn tp tw : Int) (tf : Int → Int) (zy z1 zn m1 : Int) : ∀ (n n' : Nat) (k q : Int) (fa : Int → Int), k + 1 < (n : Int) → k + 1 < (n' : Int) → -1 ≤ k → k ≤ 7 → 0 ≤ q → q + k + 1 ≤ 400 → (f_XT_append_L5 tn tp tw tf zy zn n k q fa).2.2 = (f_XM_signP_L38 mth mn mp mw mu md mo y0 zy z1 m1 n' k q fa).2.2.2 := by
  intro n
  induction n with
  | zero => intro n' k q fa h; omega
  | succ n ih =>
    intro n' k q fa h1 h2 h3 h4 h5 h6
    cases n' with
    | zero => omega
    | succ n' =>
      rw [f_XT_append_L5_s, f_XM_signP_L38_s]
      by_cases a : k < 0
      · rw [if_pos a, if_pos a]
      · rw [if_neg a, if_neg a, if_pos (show q < 400 by omega), e_byte zy k (by omega)]
        exact ih n' (k + (-1)) (q + 1) _ (by omega) (by omega) (by omega) (by omega) (by omega) (by omega)
theorem e_sign (tn tp tw : Int) (tf : Int → Int) (zy z1 : Int) (fo : Int → Int) (hn : 0 ≤ tn ∧ tn ≤ 400) (hz : i32 z1) : (f_XL_sign tn tp tw tf zy z1 fo).2.2.2 = (f_XM_signP mth tn mp mw mu md mo tf zy z1).2.2.2 := by
  have hi := f_XM_in_b z1 1 8 hz (by decide) (by decide)
  have hr := f_XT_hasRoom_b tn tp tw tf z1 hn hz
  have hw := jw_or (tn + z1)
  have hG : f_XG_sign tn tp tw tf zy z1 = f_XG_sign tn tp tw tf zy z1 := rfl
  rw [f_XL_sign_s, f_XM_signP_s]
  conv at hG => rhs; rw [f_XG_sign_s]
  rcases hi with ⟨i1, i2, i3⟩ | ⟨i1, i2⟩
  · rw [if_neg (show ¬ z1 < 1 by omega), if_neg (show ¬ 8 < z1 by omega)] at hG
    rcases hr with ⟨r1, r2⟩ | ⟨r1, r2⟩
    · rw [if_neg (show ¬ f_XT_hasRoom tn tp tw tf z1 = 0 by omega), f_XT_append_s] at hG
      have hL := e_signL mth mp mw mu md mo tn tf tn tp tw tf zy z1 z1 0 (Int.toNat (z1 - 1 + 1) + 1) (Int.toNat (z1 - 1 + 1) + 1) (z1 - 1) tn tf (by omega) (by omega) (by omega) (by omega) (by omega) (by omega)
      generalize f_XT_append_L5 tn tp tw tf zy z1 (Int.toNat (z1 - 1 + 1) + 1) (z1 - 1) tn tf = q at hG hL
      obtain ⟨q1, q2, q3⟩ := q
      dsimp only at hG hL
      rw [hG]
      dsimp only
      rw [if_pos rfl, if_neg (show ¬ 400 < jw (tn + z1) by omega), f_XM_signP_J25_s, f_XM_goesP_s, i1, if_neg (show ¬ (1 : Int) = 0 by decide), if_neg (show ¬ (1 : Int) = 0 by decide)]
      dsimp only
      rw [if_neg (show ¬ (1 : Int) = 0 by decide)]
      exact hL
    · rw [if_pos r1] at hG
      rw [hG]
      dsimp only
      rw [if_neg (show ¬ (4 : Int) = 0 by decide), if_neg (show ¬ (4 : Int) = 3 by decide), if_pos (show 400 < jw (tn + z1) by omega), f_XM_signP_J25_s, f_XM_goesP_s, i1, if_neg (show ¬ (1 : Int) = 0 by decide), if_pos (rfl : (0 : Int) = 0)]
      dsimp only
      rw [if_pos (rfl : (0 : Int) = 0)]
  · have hG2 : f_XG_sign tn tp tw tf zy z1 = (3, 0, 0, fun _ => 0) := by
      rw [hG]
      by_cases a : z1 < 1
      · rw [if_pos a]
      · rw [if_neg a, if_pos (show 8 < z1 by omega)]
    rw [hG2]
    dsimp only
    rw [if_neg (show ¬ (3 : Int) = 0 by decide), if_pos (rfl : (3 : Int) = 3)]
    have hJ : ∀ jz, (f_XM_signP_J25 mth tn mp mw mu md mo tf zy z1 jz).2.2.2 = tf := by
      intro jz
      rw [f_XM_signP_J25_s, f_XM_goesP_s, i1, if_pos (rfl : (0 : Int) = 0)]
      dsimp only
      rw [if_pos (rfl : (0 : Int) = 0)]
    by_cases b : 400 < jw (tn + z1)
    · rw [if_pos b]; exact (hJ 0).symm
    · rw [if_neg b]; exact (hJ 1).symm
end EQX2
theorem e_share (fs y10 : Int → Int) (z1 z2 m1 : Int) (n10 : Int → Int) (h : ∀ i, 0 ≤ i → i ≤ 7 → fs i = y10 i) (hp : (m1 = 1 ∧ (z1 < 0 ∨ 7 < z1) ∧ n10 = y10) ∨ (m1 = 2 ∧ 0 ≤ z1 ∧ z1 ≤ 7 ∧ (z2 < 0 ∨ 100000 < z2) ∧ n10 = y10) ∨ (m1 = 0 ∧ 0 ≤ z1 ∧ z1 ≤ 7 ∧ 0 ≤ z2 ∧ z2 ≤ 100000 ∧ n10 = jset y10 z1 z2)) : ∀ i, 0 ≤ i → i ≤ 7 → (f_XL_share fs z1 z2).2 i = n10 i := by
  intro i i1 i2
  have hG : f_XG_share fs z1 z2 = f_XG_share fs z1 z2 := rfl
  conv at hG => rhs; rw [f_XG_share_s, f_XG_needBelow_s]
  rw [f_XL_share_s]
  rcases hp with ⟨_, h1, rfl⟩ | ⟨_, h1, h2, h3, rfl⟩ | ⟨_, h1, h2, h3, h4, rfl⟩
  · have hG2 : f_XG_share fs z1 z2 = (1, fun _ => 0) := by
      rw [hG]
      by_cases a : z1 < 0
      · rw [if_pos a, if_neg (show ¬ (1 : Int) = 0 by decide)]
      · rw [if_neg a, if_neg (show ¬ z1 < 8 by omega), if_neg (show ¬ (1 : Int) = 0 by decide)]
    rw [hG2]
    dsimp only
    rw [if_neg (show ¬ (1 : Int) = 0 by decide), if_pos (rfl : (1 : Int) = 1)]
    exact h i i1 i2
  · have hG2 : f_XG_share fs z1 z2 = (3, fun _ => 0) := by
      rw [hG, if_neg (show ¬ z1 < 0 by omega), if_pos (show z1 < 8 by omega), if_pos (rfl : (0 : Int) = 0)]
      by_cases a : z2 < 0
      · rw [if_pos a]
      · rw [if_neg a, if_pos (show 100000 < z2 by omega)]
    rw [hG2]
    dsimp only
    rw [if_neg (show ¬ (3 : Int) = 0 by decide), if_neg (show ¬ (3 : Int) = 1 by decide)]
    exact h i i1 i2
  · rw [if_neg (show ¬ z1 < 0 by omega), if_pos (show z1 < 8 by omega), if_pos (rfl : (0 : Int) = 0), if_neg (show ¬ z2 < 0 by omega), if_neg (show ¬ 100000 < z2 by omega)] at hG
    rw [hG]
    dsimp only
    rw [if_pos (rfl : (0 : Int) = 0)]
    show jset fs z1 z2 i = jset y10 z1 z2 i
    unfold jset
    by_cases a : i = z1
    · rw [if_pos a, if_pos a]
    · rw [if_neg a, if_neg a]; exact h i i1 i2
theorem e_clearS (fs y10 n10 : Int → Int) (h : n10 = kfill y10 0 8 0) : ∀ i, 0 ≤ i → i ≤ 7 → f_XA_fill8 fs 0 i = n10 i := by
  intro i i1 i2
  rw [h, f_XA_fill8_eq]
  unfold kfill
  dsimp only
  rw [if_pos (by omega), if_pos (by omega)]

end
section
/-! the books of both, as they stand between two calls -/
noncomputable def kfp (bg bf : Int) (ft : Int → Int) (g : Int) : Int := if f_XB_knows bg bf (ft g) = 0 then 0 else if f_XB_onRing bg bf ft g = 0 then ft g else 0
def jBk (bg bf : Int) (ft fp fl fh fq fr fd y1 y2 y3 y4 y5 y6 y7 y8 y9 : Int → Int) : Prop :=
  (∀ g, 1 ≤ g → g ≤ 30 → f_XG_hasBit bg g = y1 g) ∧ (∀ g, 1 ≤ g → g ≤ 30 → ft g = y2 g) ∧ (∀ g, 1 ≤ g → g ≤ 30 → f_XG_hasBit bg g = 0 → ft g = 0) ∧
  (∀ g, 1 ≤ g → g ≤ 30 → f_XG_hasBit bg g ≠ 0 → (∀ x, 0 ≤ x → x ≤ 7 → (fh (g * 8 + x) = -1 ∧ y3 (8 * g + x) = 0) ∨ (0 ≤ fh (g * 8 + x) ∧ y3 (8 * g + x) = 1 ∧ fl (g * 8 + x) = y4 (8 * g + x) ∧ fh (g * 8 + x) = y5 (8 * g + x))) ∧ fr g = y6 g ∧ (∀ x, 0 ≤ x → x ≤ 3 → fq (g * 4 + x) = y7 (4 * g + x)) ∧ fp g = kfp bg bf ft g) ∧
  (∀ k, 0 ≤ k → k ≤ 3 → f_XG_hasBit bf k = y8 k) ∧ (∀ k x, 0 ≤ k → k ≤ 3 → 0 ≤ x → x ≤ 7 → f_XG_hasBit bf k ≠ 0 → fd (k * 8 + x) = y9 (8 * k + x))
theorem jBk_0 (ft fp fl fh fq fr fd y1 y2 y3 y4 y5 y6 y7 y8 y9 : Int → Int) (h1 : ∀ g, 1 ≤ g → g ≤ 30 → y1 g = 0) (h2 : ∀ g, 1 ≤ g → g ≤ 30 → y2 g = 0) (h8 : ∀ k, 0 ≤ k → k ≤ 3 → y8 k = 0) (ht : ∀ g, 1 ≤ g → g ≤ 30 → ft g = 0) : jBk 0 0 ft fp fl fh fq fr fd y1 y2 y3 y4 y5 y6 y7 y8 y9 := by
  refine ⟨fun g a b => ?_, fun g a b => ?_, fun g a b _ => ht g a b, fun g a b c => ?_, fun k a b => ?_, fun k x a b _ _ c => ?_⟩
  · rw [q_hasBit0', h1 g a b]
  · rw [ht g a b, h2 g a b]
  · exact absurd (q_hasBit0' g) c
  · rw [q_hasBit0', h8 k a b]
  · exact absurd (q_hasBit0' k) c
theorem jBk_clear (ft fp fl fh fq fr fd y1 y2 y3 y4 y5 y6 y7 y8 y9 n1 n2 n3 n6 n7 n8 n9 : Int → Int) (e1 : n1 = kfill y1 (31 * (0 : Int)) (31 * (0 : Int) + 31) 0) (e2 : n2 = kfill y2 (31 * (0 : Int)) (31 * (0 : Int) + 31) 0) (e8 : n8 = kfill y8 (4 * (0 : Int)) (4 * (0 : Int) + 4) 0) : jBk 0 0 (f_XA_fill31 ft 0) fp fl fh fq fr fd n1 n2 n3 y4 y5 n6 n7 n8 n9 := by
  refine jBk_0 _ _ _ _ _ _ _ _ _ _ _ _ _ _ _ _ (fun g a b => ?_) (fun g a b => ?_) (fun g a b => ?_) (fun g a b => ?_)
  · rw [e1]; unfold kfill; rw [if_pos (by omega)]
  · rw [e2]; unfold kfill; rw [if_pos (by omega)]
  · rw [e8]; unfold kfill; rw [if_pos (by omega)]
  · rw [f_XA_fill31_eq]; dsimp only; rw [if_pos (by omega)]
theorem q_settleL (bg bf : Int) (ft fp : Int → Int) : ∀ (n : Nat) (k : Int) (fa : Int → Int), 31 - k < (n : Int) → 1 ≤ k → k ≤ 31 → ∀ g, (k ≤ g → g ≤ 30 → f_XB_settle_L2 bg bf ft fp n k fa g = kfp bg bf ft g) ∧ (g < k → f_XB_settle_L2 bg bf ft fp n k fa g = fa g) := by
  intro n
  induction n with
  | zero => intro k fa h; omega
  | succ n ih =>
    intro k fa h1 h2 h3 g
    rw [f_XB_settle_L2_s]
    by_cases a : 30 < k
    · rw [if_pos a]
      exact ⟨fun b c => by omega, fun _ => rfl⟩
    · rw [if_neg a]
      have go : ∀ v, v = kfp bg bf ft k → (k ≤ g → g ≤ 30 → f_XB_settle_L2 bg bf ft fp n (k + 1) (jset fa k v) g = kfp bg bf ft g) ∧ (g < k → f_XB_settle_L2 bg bf ft fp n (k + 1) (jset fa k v) g = fa g) := by
        intro v hv
        obtain ⟨i1, i2⟩ := ih (k + 1) (jset fa k v) (by omega) (by omega) (by omega) g
        refine ⟨fun b c => ?_, fun b => ?_⟩
        · by_cases d : g = k
          · rw [i2 (by omega)]; unfold jset; rw [if_pos d, hv, d]
          · exact i1 (by omega) c
        · rw [i2 (by omega)]; unfold jset; rw [if_neg (by omega)]
      by_cases b : f_XB_knows bg bf (ft k) = 0
      · rw [if_pos b]
        exact go 0 (by unfold kfp; rw [if_pos b])
      · rw [if_neg b]
        by_cases c : f_XB_onRing bg bf ft k = 0
        · rw [if_pos c]
          exact go (ft k) (by unfold kfp; rw [if_neg b, if_pos c])
        · rw [if_neg c]
          exact go 0 (by unfold kfp; rw [if_neg b, if_neg c])
theorem q_settle (bg bf : Int) (ft fp : Int → Int) (g : Int) (h1 : 1 ≤ g) (h2 : g ≤ 30) : f_XB_settle bg bf ft fp g = kfp bg bf ft g := by
  rw [f_XB_settle_s]
  exact (q_settleL bg bf ft fp _ 1 fp (by decide) (by decide) (by decide) g).1 h1 h2
theorem kcp_v (f : Int → Int) (n i : Int) (h : 0 ≤ i ∧ i < n) : kcp f n n i = f (n + i) := by unfold kcp; rw [if_pos h]
theorem jBk_read (bg bf : Int) (ft fp xp fl fh fq fr fd x1 x2 x3 x4 x5 x6 x7 x8 x9 n1 n2 n3 n4 n5 n6 n7 n8 n9 : Int → Int) (hB : eBk bg ft fl fh fq fr x1 x2 x3 x4 x5 x6 x7) (hF : eFm bf fd x8 x9) (hp : fp = f_XB_settle bg bf ft xp)
    (e : (n1, n2, n3, n4, n5, n6, n7, n8, n9) = (kcp x1 31 31, kcp x2 31 31, kcp x3 248 248, kcp x4 248 248, kcp x5 248 248, kcp x6 31 31, kcp x7 124 124, kcp x8 4 4, kcp x9 32 32)) : jBk bg bf ft fp fl fh fq fr fd n1 n2 n3 n4 n5 n6 n7 n8 n9 := by
  simp only [Prod.mk.injEq] at e
  obtain ⟨e1, e2, e3, e4, e5, e6, e7, e8, e9⟩ := e
  obtain ⟨_, b1, b2, b3, b4, b5, b6⟩ := hB
  obtain ⟨_, f1, f2, _, _⟩ := hF
  refine ⟨fun g a b => ?_, fun g a b => ?_, fun g a b c => (b6 g a b c).1, fun g a b c => ⟨fun x x1 x2 => ?_, ?_, fun x x1 x2 => ?_, ?_⟩, fun k a b => ?_, fun k x a b x1 x2 c => ?_⟩
  · rw [e1, kcp_v _ _ _ (by omega)]; exact b1 g a b
  · rw [e2, kcp_v _ _ _ (by omega)]; exact b2 g a b
  · have h := b3 g x a b x1 x2
    rw [show 8 * (31 + g) + x = 248 + (8 * g + x) by omega] at h
    rw [e3, e4, e5, kcp_v _ _ _ (by omega), kcp_v _ _ _ (by omega), kcp_v _ _ _ (by omega)]
    exact h
  · rw [e6, kcp_v _ _ _ (by omega)]; exact b4 g a b
  · have h := b5 g x a b x1 x2
    rw [show 4 * (31 + g) + x = 124 + (4 * g + x) by omega] at h
    rw [e7, kcp_v _ _ _ (by omega)]
    exact h
  · rw [hp]; exact q_settle bg bf ft xp g a b
  · rw [e8, kcp_v _ _ _ (by omega)]; exact f1 k a b
  · have h := f2 k x a b x1 x2
    rw [show 8 * (4 + k) + x = 32 + (8 * k + x) by omega] at h
    rw [e9, kcp_v _ _ _ (by omega)]
    exact h
theorem jBk_keep (bg bf : Int) (ft fp fl fh fq fr fd y1 y2 y3 y4 y5 y6 y7 y8 y9 n1 n2 n3 n4 n5 n6 n7 n8 n9 : Int → Int) (h : jBk bg bf ft fp fl fh fq fr fd y1 y2 y3 y4 y5 y6 y7 y8 y9)
    (e1 : ∀ i, i < 31 → n1 i = y1 i) (e2 : ∀ i, i < 31 → n2 i = y2 i) (e3 : ∀ i, i < 248 → n3 i = y3 i) (e4 : ∀ i, i < 248 → n4 i = y4 i) (e5 : ∀ i, i < 248 → n5 i = y5 i) (e6 : ∀ i, i < 31 → n6 i = y6 i) (e7 : ∀ i, i < 124 → n7 i = y7 i) (e8 : ∀ i, i < 4 → n8 i = y8 i) (e9 : ∀ i, i < 32 → n9 i = y9 i) : jBk bg bf ft fp fl fh fq fr fd n1 n2 n3 n4 n5 n6 n7 n8 n9 := by
  obtain ⟨b1, b2, b3, b4, b5, b6⟩ := h
  refine ⟨fun g a b => ?_, fun g a b => ?_, b3, fun g a b c => ⟨fun x x1 x2 => ?_, ?_, fun x x1 x2 => ?_, (b4 g a b c).2.2.2⟩, fun k a b => ?_, fun k x a b x1 x2 c => ?_⟩
  · rw [e1 g (by omega)]; exact b1 g a b
  · rw [e2 g (by omega)]; exact b2 g a b
  · rw [e3 _ (by omega), e4 _ (by omega), e5 _ (by omega)]; exact (b4 g a b c).1 x x1 x2
  · rw [e6 g (by omega)]; exact (b4 g a b c).2.1
  · rw [e7 _ (by omega)]; exact (b4 g a b c).2.2.1 x x1 x2
  · rw [e8 k (by omega)]; exact b5 k a b
  · rw [e9 _ (by omega)]; exact b6 k x a b x1 x2 c
/-! ring's answers -/
section EQX3
variable (mth mn mp mw mu md mo : Int)
end EQX3
end
section
def kT (bg v : Int) : Prop := 1 ≤ v ∧ v ≤ 30 ∧ f_XG_hasBit bg v ≠ 0
theorem kT_knows (bg bf v : Int) : (f_XB_knows bg bf v = 1 ∧ kT bg v) ∨ (f_XB_knows bg bf v = 0 ∧ ¬ kT bg v) := by
  rw [f_XB_knows_s]
  unfold kT
  by_cases a : v < 1
  · rw [if_pos a]; exact Or.inr ⟨rfl, fun h => by omega⟩
  · rw [if_neg a]
    by_cases b : 30 < v
    · rw [if_pos b]; exact Or.inr ⟨rfl, fun h => by omega⟩
    · rw [if_neg b]
      by_cases c : f_XG_hasBit bg v = 0
      · rw [if_pos c]; exact Or.inr ⟨rfl, fun h => h.2.2 c⟩
      · rw [if_neg c]; exact Or.inl ⟨rfl, by omega, by omega, c⟩
theorem e_told (mth mn mp mw mu md mo : Int) (bg bf : Int) (y1 : Int → Int) (hy1 : ∀ i, 0 ≤ y1 i ∧ y1 i ≤ 1) (hG : ∀ g, 1 ≤ g → g ≤ 30 → f_XG_hasBit bg g = y1 g) (z : Int) (hz : i32 z) : f_XM_isTold mth mn mp mw mu md mo y1 z = f_XB_knows bg bf z := by
  have h := f_XM_isTold_b mth mn mp mw mu md mo y1 z hy1 hz
  rcases kT_knows bg bf z with ⟨k1, k2, k3, k4⟩ | ⟨k1, k2⟩
  · have := hG z k2 k3
    rw [k1]; omega
  · rw [k1]
    rcases h with ⟨h1, h2, h3, h4⟩ | ⟨h1, _⟩
    · exact absurd ⟨h2, h3, by rw [hG z h2 h3]; omega⟩ k2
    · exact h1
theorem kfp_t (bg bf : Int) (ft : Int → Int) (g : Int) : kfp bg bf ft g = 0 ∨ (kT bg (kfp bg bf ft g) ∧ kfp bg bf ft g = ft g ∧ f_XB_onRing bg bf ft g = 0) := by
  unfold kfp
  rcases kT_knows bg bf (ft g) with ⟨k1, k2⟩ | ⟨k1, k2⟩
  · rw [if_neg (show ¬ f_XB_knows bg bf (ft g) = 0 by omega)]
    by_cases c : f_XB_onRing bg bf ft g = 0
    · rw [if_pos c]; exact Or.inr ⟨k2, rfl, c⟩
    · rw [if_neg c]; exact Or.inl rfl
  · rw [if_pos k1]; exact Or.inl rfl
theorem jdp_le (F : Int → Int) : ∀ (n m : Nat) (k : Int), jit F n k ≤ 0 → jdp F m k ≤ n := by
  intro n
  induction n with
  | zero => intro m k h; rw [jdp_end F m k h]; omega
  | succ n ih =>
    intro m k h
    cases m with
    | zero => show (0 : Int) ≤ _; omega
    | succ m =>
      show (if k ≤ 0 then 0 else 1 + jdp F m (F k)) ≤ _
      have := ih m (F k) h
      split <;> omega
theorem reach30 (bg bf : Int) (ft fp : Int → Int) (hft : ∀ i, 0 ≤ ft i ∧ ft i ≤ 30) (hp : ∀ g, kT bg g → fp g = kfp bg bf ft g) (g : Int) (hg : kT bg g) : ∃ n, n ≤ 30 ∧ jit fp n g ≤ 0 := by
  by_cases hx : ∃ n, n ≤ 30 ∧ jit fp n g ≤ 0
  · exact hx
  · have hpos : ∀ n, n ≤ 30 → 0 < jit fp n g := fun n hn => by
      by_cases h : 0 < jit fp n g
      · exact h
      · exact absurd ⟨n, hn, by omega⟩ hx
    have hT : ∀ n, n ≤ 30 → kT bg (jit fp n g) := by
      intro n
      induction n with
      | zero => intro _; exact hg
      | succ n ih =>
        intro hn
        have h1 := ih (by omega)
        have h2 := hpos (n + 1) hn
        rw [jit_succ] at h2 ⊢
        rw [hp _ h1] at h2 ⊢
        rcases kfp_t bg bf ft (jit fp n g) with h3 | ⟨h3, _⟩
        · omega
        · exact h3
    have hS : ∀ n, n + 1 ≤ 30 → jit fp (n + 1) g = ft (jit fp n g) ∧ f_XB_onRing bg bf ft (jit fp n g) = 0 := by
      intro n hn
      have h1 := hT n (by omega)
      have h2 := hpos (n + 1) hn
      rw [jit_succ] at h2 ⊢
      rw [hp _ h1] at h2 ⊢
      rcases kfp_t bg bf ft (jit fp n g) with h3 | ⟨_, h3, h4⟩
      · omega
      · exact ⟨h3, h4⟩
    obtain ⟨i, j, i1, i2, i3⟩ := jpig 30 (fun n => (jit fp n g - 1).toNat) (fun i hi => by
      have := hT i (by omega)
      show (jit fp i g - 1).toNat < 30
      have := this.1; have := (hT i (by omega)).2.1
      omega)
    have a1 := (hT i (by omega)).1
    have a2 := (hT j (by omega)).1
    have i3 : (jit fp i g - 1).toNat = (jit fp j g - 1).toNat := i3
    have hE : ∀ d, i + d ≤ 30 → jit (eF ft) d (jit fp i g) = jit fp (i + d) g := by
      intro d
      induction d with
      | zero => intro _; rfl
      | succ d ih =>
        intro hd
        have h1 := (hT (i + d) (by omega)).1
        rw [jit_succ, ih (by omega), ← Nat.add_assoc, (hS (i + d) (by omega)).1]
        unfold eF
        rw [if_pos (by omega)]
    have hj := hE (j - i) (by omega)
    rw [show i + (j - i) = j by omega, show jit fp j g = jit fp i g by omega] at hj
    rcases e_on bg bf ft hft (jit fp i g) ⟨a1, (hT i (by omega)).2.1⟩ with ⟨o1, _⟩ | ⟨_, o2⟩
    · have := (hS i (by omega)).2
      omega
    · exact absurd hj (o2 (j - i) (by omega) (by omega))
theorem dp_fp (bg bf : Int) (ft fp : Int → Int) (hft : ∀ i, 0 ≤ ft i ∧ ft i ≤ 30) (hp : ∀ g, kT bg g → fp g = kfp bg bf ft g) (g : Int) (hg : kT bg g) : jdp fp 41 g ≤ 30 ∧ jdp fp 41 (fp g) < jdp fp 41 g ∧ 0 ≤ jdp fp 41 (fp g) ∧ (fp g = 0 ∨ kT bg (fp g)) := by
  obtain ⟨n, h1, h2⟩ := reach30 bg bf ft fp hft hp g hg
  have h3 := jdp_le fp n 41 g h2
  refine ⟨by omega, jdp_step fp n g h2 (by omega) (by have := hg.1; omega), jdp_nn fp 41 _, ?_⟩
  rw [hp g hg]
  rcases kfp_t bg bf ft g with h4 | ⟨h4, _⟩
  · exact Or.inl h4
  · exact Or.inr h4
section EQX4
variable (mth mn mp mw mu md mo : Int) (bg bf : Int) (ft fp fl fh fq fr fd y1 y2 y3 y4 y5 y6 y7 y8 y9 : Int → Int)
theorem jBk_p (h : jBk bg bf ft fp fl fh fq fr fd y1 y2 y3 y4 y5 y6 y7 y8 y9) : ∀ g, kT bg g → fp g = kfp bg bf ft g := fun g hg => (h.2.2.2.1 g hg.1 hg.2.1 hg.2.2).2.2.2
theorem e_from (hft : ∀ i, 0 ≤ ft i ∧ ft i ≤ 30) (hy1 : ∀ i, 0 ≤ y1 i ∧ y1 i ≤ 1) (h : jBk bg bf ft fp fl fh fq fr fd y1 y2 y3 y4 y5 y6 y7 y8 y9) (g : Int) (hg : kT bg g) : f_XM_from mth mn mp mw mu md mo y1 y2 g = fp g := by
  rw [jBk_p bg bf ft fp fl fh fq fr fd y1 y2 y3 y4 y5 y6 y7 y8 y9 h g hg, f_XM_from_s]
  have hE := e_ringEq mth mn mp mw mu md mo y1 y2 bg bf ft hft hy1 h.1 h.2.1 h.2.2.1 g ⟨hg.1, hg.2.1⟩
  have hy := h.2.1 g hg.1 hg.2.1
  have hb := hft g
  have hk := e_told mth mn mp mw mu md mo bg bf y1 hy1 h.1 (ft g) (by omega)
  rw [← hE, ← hy, hk]
  unfold kfp
  by_cases a : f_XB_onRing bg bf ft g = 0
  · rw [if_pos a, if_pos a]
  · rw [if_neg a, if_neg a]
    split <;> rfl
theorem e_lowL (hft : ∀ i, 0 ≤ ft i ∧ ft i ≤ 30) (hy1 : ∀ i, 0 ≤ y1 i ∧ y1 i ≤ 1) (hy2 : ∀ i, 0 ≤ y2 i ∧ y2 i ≤ 30) (h : jBk bg bf ft fp fl fh fq fr fd y1 y2 y3 y4 y5 y6 y7 y8 y9) (zg z1 ze : Int) (he : 0 ≤ ze ∧ ze ≤ 7) : ∀ (n n' : Nat) (v k : Int), (v = 0 ∨ kT bg v) → 0 ≤ k → jdp fp 41 v + k ≤ 30 → 30 - k < (n : Int) → jdp (fun x => f_XM_from mth mn mp mw mu md mo y1 y2 x) 41 v < (n' : Int) → f_XM_lowOfP_L2 mth mn mp mw mu md mo y1 y2 y3 y4 z1 ze n' v = f_XB_endOf_L6 bg bf fp fl fh zg ze 0 n v k ∧ f_XM_highOfP_L2 mth mn mp mw mu md mo y1 y2 y3 y5 z1 ze n' v = f_XB_endOf_L6 bg bf fp fl fh zg ze 1 n v k := by
  intro n
  induction n with
  | zero => intro n' v k h1 h2 h3 h4; have := jdp_nn fp 41 v; omega
  | succ n ih =>
    intro n' v k h1 h2 h3 h4 h5
    cases n' with
    | zero => have := jdp_nn (fun x => f_XM_from mth mn mp mw mu md mo y1 y2 x) 41 v; omega
    | succ n' =>
      rw [f_XM_lowOfP_L2_s, f_XM_highOfP_L2_s, f_XB_endOf_L6_s, f_XB_endOf_L6_s]
      rcases h1 with rfl | hT
      · simp only [if_neg (show ¬ (0 : Int) < 0 by decide), if_pos (rfl : (0 : Int) = 0), if_neg (show ¬ (1 : Int) = 0 by decide)]
        constructor <;> split <;> rfl
      · obtain ⟨d1, d2, d3, d4⟩ := dp_fp bg bf ft fp hft (jBk_p bg bf ft fp fl fh fq fr fd y1 y2 y3 y4 y5 y6 y7 y8 y9 h) v hT
        have hv := hT.1
        have hv2 := hT.2.1
        have hd := from_dec mth mn mp mw mu md mo y1 y2 hy1 hy2 v ⟨hv, hv2⟩
        have hq := (h.2.2.2.1 v hT.1 hT.2.1 hT.2.2).1 ze he.1 he.2
        simp only [if_pos (show 0 < v by omega), if_pos (show k < 30 by omega), f_XB_tellsSpan_s]
        rw [e_from mth mn mp mw mu md mo bg bf ft fp fl fh fq fr fd y1 y2 y3 y4 y5 y6 y7 y8 y9 hft hy1 h v hT] at hd ⊢
        rcases hq with ⟨q1, q2⟩ | ⟨q1, q2, q3, q4⟩
        · simp only [if_pos q1, if_pos q2, if_true]
          exact ih n' (fp v) (k + 1) d4 (by omega) (by omega) (by omega) (by omega)
        · simp only [if_neg (show ¬ fh (v * 8 + ze) = -1 by omega), if_neg (show ¬ y3 (8 * v + ze) = 0 by omega), if_neg (show ¬ v = 0 by omega), if_neg (show ¬ (1 : Int) = 0 by decide), if_true]
          exact ⟨q3.symm, q4.symm⟩
theorem e_low (hft : ∀ i, 0 ≤ ft i ∧ ft i ≤ 30) (hy1 : ∀ i, 0 ≤ y1 i ∧ y1 i ≤ 1) (hy2 : ∀ i, 0 ≤ y2 i ∧ y2 i ≤ 30) (h : jBk bg bf ft fp fl fh fq fr fd y1 y2 y3 y4 y5 y6 y7 y8 y9) (g ze : Int) (hg : kT bg g) (he : 0 ≤ ze ∧ ze ≤ 7) : f_XM_lowOfP mth mn mp mw mu md mo y1 y2 y3 y4 g ze = f_XB_endOf bg bf fp fl fh g ze 0 ∧ f_XM_highOfP mth mn mp mw mu md mo y1 y2 y3 y5 g ze = f_XB_endOf bg bf fp fl fh g ze 1 := by
  rw [f_XM_lowOfP_s, f_XM_highOfP_s, f_XB_endOf_s, f_XB_endOf_s]
  have d := dp_fp bg bf ft fp hft (jBk_p bg bf ft fp fl fh fq fr fd y1 y2 y3 y4 y5 y6 y7 y8 y9 h) g hg
  have := jdp_nn (fun x => f_XM_from mth mn mp mw mu md mo y1 y2 x) 41 g
  exact e_lowL mth mn mp mw mu md mo bg bf ft fp fl fh fq fr fd y1 y2 y3 y4 y5 y6 y7 y8 y9 hft hy1 hy2 h g g ze he _ _ g 0 (Or.inr hg) (by decide) (by omega) (by decide) (by omega)
end EQX4
end
section
/-! what both answer: limit, span, difference, route -/
theorem k_goes (mth mn mp mw mu md mo : Int) : f_XM_goesP mth mn mp mw mu md mo 0 1 = (0, 1) ∧ f_XM_goesP mth mn mp mw mu md mo 1 1 = (1, 0) := by
  constructor
  · rw [f_XM_goesP_s, if_pos (rfl : (0 : Int) = 0)]
  · rw [f_XM_goesP_s, if_neg (show ¬ (1 : Int) = 0 by decide), if_neg (show ¬ (1 : Int) = 0 by decide)]
theorem k_need (bg bf v : Int) : (f_XG_needGrade bg bf v = 0 ∧ f_XB_knows bg bf v = 1 ∧ kT bg v) ∨ (f_XG_needGrade bg bf v = 1 ∧ f_XB_knows bg bf v = 0) := by
  rw [f_XG_needGrade_s]
  rcases kT_knows bg bf v with ⟨k1, k2⟩ | ⟨k1, k2⟩
  · rw [if_neg (show ¬ f_XB_knows bg bf v = 0 by omega)]; exact Or.inl ⟨rfl, k1, k2⟩
  · rw [if_pos k1]; exact Or.inr ⟨rfl, k1⟩
/-- what is compared, of a call that gives an int -/
def kAns (G : Int × Int) (C : Int × (Int → Int)) (fo : Int → Int) : Prop := C = if G.1 = 0 then (0, jset fo 0 (jw G.2)) else (1, fo)
theorem k_ans (G : Int × Int) (C : Int × (Int → Int)) (fo : Int → Int) (M : Int × Int) (h : kAns G C fo) (hG : (G.1 = 0 ∧ M = (G.2, 0)) ∨ (G.1 = 1 ∧ M.2 = 1)) : M.2 = C.1 ∧ (C.1 = 0 → C.2 0 = jw M.1) := by
  unfold kAns at h
  rcases hG with ⟨g1, g2⟩ | ⟨g1, g2⟩
  · rw [if_pos g1] at h
    rw [h, g2]
    exact ⟨rfl, fun _ => (if_pos (rfl : (0 : Int) = 0) : jset fo 0 (jw G.2) 0 = jw G.2)⟩
  · rw [if_neg (show ¬ G.1 = 0 by omega)] at h
    rw [h, g2]
    exact ⟨rfl, fun h => absurd (show (1 : Int) = 0 from h) (by decide)⟩
section EQX5
variable (mth mn mp mw mu md mo : Int) (bg bf : Int) (ft fp fl fh fq fr fd y1 y2 y3 y4 y5 y6 y7 y8 y9 : Int → Int)
theorem e_diffL (m1 : Int) (hft : ∀ i, 0 ≤ ft i ∧ ft i ≤ 30) (hy1 : ∀ i, 0 ≤ y1 i ∧ y1 i ≤ 1) (hy2 : ∀ i, 0 ≤ y2 i ∧ y2 i ≤ 30) (h : jBk bg bf ft fp fl fh fq fr fd y1 y2 y3 y4 y5 y6 y7 y8 y9) (z1 z2 z3 : Int) (t1 : kT bg z1) (t2 : kT bg z2) : ∀ (n n' : Nat) (v k : Int), 8 - k < (n : Int) → 8 - k < (n' : Int) → 0 ≤ k → k ≤ 8 → (f_XG_difference_L20 bg bf fp fl fh z1 z2 z3 n v k).1 = 0 ∧ f_XM_differenceP_L41 mth mn mp mw mu md mo y1 y2 y3 y4 y5 z1 z2 z3 m1 n' v k = ((f_XG_difference_L20 bg bf fp fl fh z1 z2 z3 n v k).2, m1) := by
  intro n
  induction n with
  | zero => intro n' v k h1; omega
  | succ n ih =>
    intro n' v k h1 h2 h3 h4
    cases n' with
    | zero => omega
    | succ n' =>
      rw [f_XG_difference_L20_s, f_XM_differenceP_L41_s]
      by_cases a : k < 8
      · obtain ⟨l1, l2⟩ := e_low m1 mn mp mw mu md mo bg bf ft fp fl fh fq fr fd y1 y2 y3 y4 y5 y6 y7 y8 y9 hft hy1 hy2 h z1 k t1 ⟨h3, by omega⟩
        obtain ⟨l3, l4⟩ := e_low m1 mn mp mw mu md mo bg bf ft fp fl fh fq fr fd y1 y2 y3 y4 y5 y6 y7 y8 y9 hft hy1 hy2 h z2 k t2 ⟨h3, by omega⟩
        have next := fun v => ih n' v (k + 1) (by omega) (by omega) (by omega) (by omega)
        rw [if_pos a, if_pos a, l1, l2, l3, l4]
        by_cases b : f_XB_endOf bg bf fp fl fh z1 k 0 = f_XB_endOf bg bf fp fl fh z2 k 0
        · rw [if_pos b, if_pos b]
          by_cases c : f_XB_endOf bg bf fp fl fh z1 k 1 = f_XB_endOf bg bf fp fl fh z2 k 1
          · rw [if_pos c, if_pos c]; exact next v
          · rw [if_neg c, if_neg c]
            by_cases d : v = 0
            · rw [if_pos d, if_pos d]; exact ⟨rfl, rfl⟩
            · rw [if_neg d, if_neg d]; exact next (v + (-1))
        · rw [if_neg b, if_neg b]
          by_cases d : v = 0
          · rw [if_pos d, if_pos d]; exact ⟨rfl, rfl⟩
          · rw [if_neg d, if_neg d]; exact next (v + (-1))
      · rw [if_neg a, if_neg a]; exact ⟨rfl, rfl⟩
theorem e_difference (hft : ∀ i, 0 ≤ ft i ∧ ft i ≤ 30) (hy1 : ∀ i, 0 ≤ y1 i ∧ y1 i ≤ 1) (hy2 : ∀ i, 0 ≤ y2 i ∧ y2 i ≤ 30) (h : jBk bg bf ft fp fl fh fq fr fd y1 y2 y3 y4 y5 y6 y7 y8 y9) (z1 z2 z3 : Int) (i1 : i32 z1) (i2 : i32 z2) (fo : Int → Int) :
    ∀ C, C = f_XL_difference bg bf fp fl fh z1 z2 z3 fo → ∀ M, M = f_XM_differenceP mth mn mp mw mu md mo y1 y2 y3 y4 y5 z1 z2 z3 → M.2 = C.1 ∧ (C.1 = 0 → C.2 0 = jw M.1) := by
  intro C hC M hM
  rw [f_XL_difference_s] at hC
  refine k_ans _ C fo M hC ?_
  rw [f_XM_differenceP_s, e_told mth mn mp mw mu md mo bg bf y1 hy1 h.1 z1 i1, e_told mth mn mp mw mu md mo bg bf y1 hy1 h.1 z2 i2] at hM
  rw [f_XG_difference_s, f_XG_needPlace_s]
  obtain ⟨g0, g1⟩ := k_goes mth mn mp mw mu md mo
  have no : f_XM_differenceP_J26 mth mn mp mw mu md mo y1 y2 y3 y4 y5 z1 z2 z3 0 = (0, 1) := by
    rw [f_XM_differenceP_J26_s, g0]; dsimp only; rw [if_pos (rfl : (0 : Int) = 0)]
  rcases k_need bg bf z1 with ⟨n1, n2, n3⟩ | ⟨n1, n2⟩
  · rw [n2, if_neg (show ¬ (1 : Int) = 0 by decide)] at hM
    rw [if_pos n1]
    rcases k_need bg bf z2 with ⟨b1, b2, b3⟩ | ⟨b1, b2⟩
    · rw [if_pos b1]
      rw [b2, if_neg (show ¬ (1 : Int) = 0 by decide)] at hM
      by_cases c : z3 < 0
      · rw [if_pos c, no] at hM
        rw [if_pos c, if_neg (show ¬ (1 : Int) = 0 by decide)]
        exact Or.inr ⟨rfl, by rw [hM]⟩
      · rw [if_neg c, f_XM_differenceP_J26_s, g1] at hM
        dsimp only at hM
        obtain ⟨l1, l2⟩ := e_diffL mth mn mp mw mu md mo bg bf ft fp fl fh fq fr fd y1 y2 y3 y4 y5 y6 y7 y8 y9 0 hft hy1 hy2 h z1 z2 z3 n3 b3 (Int.toNat (8 - 0) + 1) (Int.toNat (8 - 0) + 1) z3 0 (by decide) (by decide) (by decide) (by decide)
        rw [if_neg (show ¬ (1 : Int) = 0 by decide), l2] at hM
        rw [if_neg c, if_pos (rfl : (0 : Int) = 0)]
        exact Or.inl ⟨l1, hM⟩
    · rw [if_neg (show ¬ f_XG_needGrade bg bf z2 = 0 by omega), b1]
      rw [b2, if_pos (rfl : (0 : Int) = 0), no] at hM
      exact Or.inr ⟨rfl, by rw [hM]⟩
  · rw [n2, if_pos (rfl : (0 : Int) = 0), no] at hM
    rw [if_neg (show ¬ f_XG_needGrade bg bf z1 = 0 by omega), n1]
    exact Or.inr ⟨rfl, by rw [hM]⟩
end EQX5
end
