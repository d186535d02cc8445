/-! read: the class beside the reference -/
section EQW2
variable (mth mn mp mw mu md mo : Int) (tf : Int → Int) (y1 y2 y3 y4 y5 y6 y7 y8 y9 : Int → Int)
theorem e_L104 (kx wx : Int) (x1 x2 x3 x4 x5 x6 x7 x8 x9 : Int → Int) : ∀ (n : Nat) (n1 k2 : Int), 31 - k2 < (n : Int) → (f_XM_readP_L104 mth mn mp mw mu md mo tf y1 y2 y3 y4 y5 y6 y7 y8 y9 kx wx x1 x2 x3 x4 x5 x6 x7 x8 x9 n n1 k2).2 = (0, 0, kx, wx, kcp x1 31 31, kcp x2 31 31, kcp x3 248 248, kcp x4 248 248, kcp x5 248 248, kcp x6 31 31, kcp x7 124 124, kcp x8 4 4, kcp x9 32 32) ∨ 31 < k2 := by
  intro n
  induction n with
  | zero => intro n1 k2 h; right; omega
  | succ n ih =>
    intro n1 k2 h
    rw [f_XM_readP_L104_s]
    by_cases a : k2 < 31
    · rw [if_pos a]
      by_cases b : kcp x1 31 31 k2 = 0
      · rw [if_pos b]
        rcases ih n1 (k2 + 1) (by omega) with q | q
        · exact Or.inl q
        · right; omega
      · rw [if_neg b]
        rcases ih (n1 + 1) (k2 + 1) (by omega) with q | q
        · exact Or.inl q
        · right; omega
    · rw [if_neg a]; exact Or.inl rfl
theorem e_start (xt xh xq xr xd xl : Int → Int) : eBk 0 (f_XA_fill31 xt 0) xl (f_XA_fill248 xh (-1)) (f_XA_fill124 xq (-1)) (f_XA_fill31 xr 0) (kfill y1 (31 * 1) (31 * 1 + 31) 0) (kfill y2 (31 * 1) (31 * 1 + 31) 0) (kfill y3 (248 * 1) (248 * 1 + 248) 0) y4 y5 (kfill y6 (31 * 1) (31 * 1 + 31) 0) (kfill y7 (124 * 1) (124 * 1 + 124) (-1)) ∧ eFm 0 (f_XA_fill32 xd 0) (kfill y8 (4 * 1) (4 * 1 + 4) 0) (kfill y9 (32 * 1) (32 * 1 + 32) 0) := by
  rw [f_XA_fill31_eq, f_XA_fill31_eq, f_XA_fill248_eq, f_XA_fill124_eq, f_XA_fill32_eq]
  refine ⟨⟨by decide, fun g g1 g2 => ?_, fun g g1 g2 => ?_, fun g x g1 g2 x1 x2 => ?_, fun g g1 g2 => ?_, fun g x g1 g2 x1 x2 => ?_, fun g g1 g2 _ => ⟨?_, ?_, fun x x1 x2 => ?_, fun x x1 x2 => ?_⟩⟩, by decide, fun k k1 k2 => ?_, fun j x j1 j2 x1 x2 => ?_, fun k x k1 k2 x1 x2 => ?_, fun k x k1 k2 x1 x2 _ => ?_⟩
  · rw [q_hasBit0']; unfold kfill; rw [if_pos (by omega)]
  · unfold kfill; dsimp only; rw [if_pos (by omega), if_pos (by omega)]
  · left; unfold kfill; dsimp only; rw [if_pos (by omega), if_pos (by omega)]; exact ⟨rfl, rfl⟩
  · unfold kfill; dsimp only; rw [if_pos (by omega), if_pos (by omega)]
  · unfold kfill; dsimp only; rw [if_pos (by omega), if_pos (by omega)]
  · dsimp only; rw [if_pos (by omega)]
  · dsimp only; rw [if_pos (by omega)]
  · dsimp only; rw [if_pos (by omega)]
  · dsimp only; rw [if_pos (by omega)]
  · rw [q_hasBit0']; unfold kfill; rw [if_pos (by omega)]
  · unfold kfill; dsimp only; rw [if_pos (by omega), if_pos (by omega)]
  · dsimp only; rw [if_pos (by omega)]; decide
  · dsimp only; rw [if_pos (by omega)]
set_option maxHeartbeats 2000000 in
theorem e_read (hmn : 0 ≤ mn ∧ mn ≤ 400) (hf : ∀ i, 0 ≤ tf i ∧ tf i ≤ 255) (ba da : Nat) (tp tw dg df : Int) (xt xp xl xh xq xr xd : Int → Int) :
    ∀ C, C = f_XG_read ba mn tp tw tf da dg df xt xp xl xh xq xr xd → ∀ M, M = f_XM_readP mth mn mp mw mu md mo tf y1 y2 y3 y4 y5 y6 y7 y8 y9 →
    (C.2.1 = da ∧ C.2.2.1 = ba ∧ M.2.2.2.2.1 = -1 ∧ (∃ x1 x2 x3 x4 x5 x6 x7 x8 x9, M.2.2.2.2.2 = (kcp x1 31 31, kcp x2 31 31, kcp x3 248 248, kcp x4 248 248, kcp x5 248 248, kcp x6 31 31, kcp x7 124 124, kcp x8 4 4, kcp x9 32 32) ∧ eBk C.2.2.2.2.2.2.2.2.2.2.2.2.2.1 C.2.2.2.2.2.2.1 C.2.2.2.2.2.2.2.2.1 C.2.2.2.2.2.2.2.2.2.1 C.2.2.2.2.2.2.2.2.2.2.1 C.2.2.2.2.2.2.2.2.2.2.2.1 x1 x2 x3 x4 x5 x6 x7 ∧ eFm C.2.2.2.2.2.2.2.2.2.2.2.2.2.2 C.2.2.2.2.2.2.2.2.2.2.2.2.1 x8 x9) ∧ C.2.2.2.2.2.2.2.1 = f_XB_settle C.2.2.2.2.2.2.2.2.2.2.2.2.2.1 C.2.2.2.2.2.2.2.2.2.2.2.2.2.2 C.2.2.2.2.2.2.1 xp) ∨ (C.2.1 = ba ∧ C.2.2.1 = da ∧ 0 ≤ M.2.2.2.2.1) := by
  intro C hC M hM
  rw [f_XG_read_s, f_XB_forget_s] at hC
  dsimp only at hC
  rw [f_XR_text_s, f_XT_rewind_s] at hC
  rw [f_XM_readP_s] at hM
  obtain ⟨s1, s2⟩ := e_start y1 y2 y3 y4 y5 y6 y7 y8 y9 xt xh xq xr xd xl
  have T := e_text mth mn mp mw mu md mo tf y1 y2 y3 y4 y5 y6 y7 y8 y9 hmn hf tp tw 0 0 (f_XA_fill31 xt 0) xl (f_XA_fill248 xh (-1)) (f_XA_fill124 xq (-1)) (f_XA_fill31 xr 0) (f_XA_fill32 xd 0) (Int.toNat (400 - 0) + 1) (Int.toNat (mn - 0 - (-1) + 400) + 1) 0 0 tw (f_XA_fill31 xt 0) xl (f_XA_fill248 xh (-1)) (f_XA_fill124 xq (-1)) (f_XA_fill31 xr 0) (f_XA_fill32 xd 0) 0 0 _ _ _ _ _ _ _ _ _ (by decide) (by omega) (by decide) (by decide) (by decide) (by omega) s1 s2 _ rfl M hM
  generalize f_XR_text_L9 mn tp tw tf 0 0 (f_XA_fill31 xt 0) xl (f_XA_fill248 xh (-1)) (f_XA_fill124 xq (-1)) (f_XA_fill31 xr 0) (f_XA_fill32 xd 0) (Int.toNat (400 - 0) + 1) 0 0 tw (f_XA_fill31 xt 0) xl (f_XA_fill248 xh (-1)) (f_XA_fill124 xq (-1)) (f_XA_fill31 xr 0) (f_XA_fill32 xd 0) 0 0 = c1 at hC T
  obtain ⟨r, a1, a2, a3, a4, a5, a6, a7, a8, a9, a10⟩ := c1
  dsimp only at hC T
  rcases T with ⟨t1, p, x1, x2, x3, x4, x5, x6, x7, x8, x9, t2, t3, t4⟩ | ⟨t1, p, v, x1, x2, x3, x4, x5, x6, x7, x8, x9, t2, t3⟩
  · left
    rw [if_neg (show ¬ r = 0 by omega)] at hC
    rw [f_XM_readP_J77_s, if_pos (show (-1 : Int) < 0 by decide)] at t2
    have hL := e_L104 mth mn mp mw mu md mo tf y1 y2 y3 y4 y5 y6 y7 y8 y9 p (-1) x1 x2 x3 x4 x5 x6 x7 x8 x9 (Int.toNat (31 - 0) + 1) 0 0 (by decide)
    rcases hL with hL | hL
    · rw [← t2] at hL
      rw [hC]
      dsimp only
      refine ⟨rfl, rfl, by rw [hL], ⟨x1, x2, x3, x4, x5, x6, x7, x8, x9, by rw [hL], t3, t4⟩, rfl⟩
    · omega
  · right
    rw [if_pos t1] at hC
    rw [f_XM_readP_J77_s, if_neg (show ¬ v < 0 by omega)] at t3
    rw [hC, t3]
    exact ⟨rfl, rfl, t2⟩
end EQW2
