/-! what the class says where nothing is told -/
theorem q_hasBit0 (k : Int) : f_XG_hasBit 0 k = 0 := by
  have h1 := jand_nn 0 (jpow k)
  have h2 := jand_le (Int.le_refl 0) (jpow k)
  rw [f_XG_hasBit_s, if_pos (by omega)]
theorem q_knows0 (bf z : Int) : f_XB_knows 0 bf z = 0 := by
  rw [f_XB_knows_s, q_hasBit0]
  (repeat' split) <;> first | rfl | omega
theorem q_needGrade0 (bf z : Int) : f_XG_needGrade 0 bf z = 1 := by rw [f_XG_needGrade_s, q_knows0, if_pos rfl]
theorem q_needFormula0 (bg z : Int) : f_XG_needFormula bg 0 z = 2 := by rw [f_XG_needFormula_s, f_XB_hasFormula_s, q_hasBit0, if_pos rfl]
theorem q_needBelow (z b : Int) : (f_XG_needBelow z b = 0 ∧ 0 ≤ z ∧ z < b) ∨ (f_XG_needBelow z b = 1 ∧ (z < 0 ∨ b ≤ z)) := by
  rw [f_XG_needBelow_s]
  (repeat' split) <;> omega
theorem q_needPlace (z : Int) : (f_XG_needPlace z = 0 ∧ 0 ≤ z) ∨ (f_XG_needPlace z = 1 ∧ z < 0) := by
  rw [f_XG_needPlace_s]
  (repeat' split) <;> omega
theorem jw_in {v : Int} (h : i32 v) : jw v = v := jI_toInt h
theorem jset_at (f : Int → Int) (v : Int) : jset f 0 v 0 = v := by unfold jset; rw [if_pos rfl]
theorem q_span0 (bf : Int) (fp : Int → Int) (fl : Int → Int) (fh : Int → Int) (z1 : Int) (z2 : Int) (z3 : Int) (fo : Int → Int) : (f_XL_span 0 bf fp fl fh z1 z2 z3 fo).1 = 1 := by
  have e9 : (f_XG_span 0 bf fp fl fh z1 z2 z3).1 = 1 := by rw [f_XG_span_s, q_needGrade0, if_neg (by decide)]
  rw [f_XL_span_s, if_neg (by rw [e9]; decide)]
theorem q_limit0 (bf : Int) (fp : Int → Int) (fq : Int → Int) (z1 : Int) (z2 : Int) (fo : Int → Int) : (f_XL_limit 0 bf fp fq z1 z2 fo).1 = 1 := by
  have e9 : (f_XG_limit 0 bf fp fq z1 z2).1 = 1 := by rw [f_XG_limit_s, q_needGrade0, if_neg (by decide)]
  rw [f_XL_limit_s, if_neg (by rw [e9]; decide)]
theorem q_equivalent0 (bf : Int) (fp : Int → Int) (fl : Int → Int) (fh : Int → Int) (fd : Int → Int) (fe : Int → Int) (z1 : Int) (z2 : Int) (z3 : Int) (z4 : Int) (fo : Int → Int) : (f_XL_equivalent 0 bf fp fl fh fd fe z1 z2 z3 z4 fo).1 = 1 := by
  have e9 : (f_XG_equivalent 0 bf fp fl fh fd fe z1 z2 z3 z4).1 = 1 := by rw [f_XG_equivalent_s, q_needGrade0, if_neg (by decide)]
  rw [f_XL_equivalent_s, if_neg (by rw [e9]; decide), if_pos e9]
theorem q_fits0 (bf : Int) (fp : Int → Int) (fl : Int → Int) (fh : Int → Int) (fq : Int → Int) (fd : Int → Int) (fs : Int → Int) (z1 : Int) (fo : Int → Int) : (f_XL_fits 0 bf fp fl fh fq fd fs z1 fo).1 = 1 := by
  have e9 : (f_XG_fits 0 bf fp fl fh fq fd fs z1).1 = 1 := by rw [f_XG_fits_s, q_needGrade0, if_neg (by decide)]
  rw [f_XL_fits_s, if_neg (by rw [e9]; decide)]
theorem q_holds0 (bf : Int) (fp : Int → Int) (fl : Int → Int) (fh : Int → Int) (fq : Int → Int) (fd : Int → Int) (fe : Int → Int) (z1 : Int) (z2 : Int) (fo : Int → Int) : (f_XL_holds 0 bf fp fl fh fq fd fe z1 z2 fo).1 = 1 := by
  have e9 : (f_XG_holds 0 bf fp fl fh fq fd fe z1 z2).1 = 1 := by rw [f_XG_holds_s, q_needGrade0, if_neg (by decide)]
  rw [f_XL_holds_s, if_neg (by rw [e9]; decide)]
theorem q_route0 (bf : Int) (fp : Int → Int) (fr : Int → Int) (z1 : Int) (z2 : Int) (fo : Int → Int) : (f_XL_route 0 bf fp fr z1 z2 fo).1 = 1 := by
  have e9 : (f_XG_route 0 bf fp fr z1 z2).1 = 1 := by rw [f_XG_route_s, q_needGrade0, if_neg (by decide)]
  rw [f_XL_route_s, if_neg (by rw [e9]; decide)]
theorem q_difference0 (bf : Int) (fp : Int → Int) (fl : Int → Int) (fh : Int → Int) (z1 : Int) (z2 : Int) (z3 : Int) (fo : Int → Int) : (f_XL_difference 0 bf fp fl fh z1 z2 z3 fo).1 = 1 := by
  have e9 : (f_XG_difference 0 bf fp fl fh z1 z2 z3).1 = 1 := by rw [f_XG_difference_s, q_needGrade0, if_neg (by decide)]
  rw [f_XL_difference_s, if_neg (by rw [e9]; decide)]
theorem q_write0 (bf : Int) (ft : Int → Int) (fl : Int → Int) (fh : Int → Int) (fq : Int → Int) (fr : Int → Int) (pn : Int) (pf : Int → Int) (z1 : Int) (fo : Int → Int) : (f_XL_write 0 bf ft fl fh fq fr pn pf z1 fo).1 = 1 := by
  have e9 : (f_XG_write 0 bf ft fl fh fq fr pn pf z1).1 = 1 := by rw [f_XG_write_s, q_needGrade0, if_neg (by decide)]
  rw [f_XL_write_s, if_neg (by rw [e9]; decide)]
theorem q_value0 (bg : Int) (fd fs : Int → Int) (z1 z2 : Int) (fo : Int → Int) : ((f_XL_value bg 0 fd fs z1 z2 fo).1 = 1 ∧ (z1 < 0 ∨ 3 < z1 ∨ z2 < 0 ∨ 1 < z2)) ∨ ((f_XL_value bg 0 fd fs z1 z2 fo).1 = 2 ∧ 0 ≤ z1 ∧ z1 ≤ 3 ∧ 0 ≤ z2 ∧ z2 ≤ 1) := by
  rw [f_XL_value_s, f_XG_value_s, q_needFormula0]
  rcases q_needBelow z1 4 with ⟨a, a1, a2⟩ | ⟨a, a1⟩
  · rcases q_needBelow z2 2 with ⟨b, b1, b2⟩ | ⟨b, b1⟩
    · right; simp [a, b]; omega
    · left; simp [a, b]; omega
  · left; simp [a]; omega
theorem q_share (fs : Int → Int) (z1 z2 : Int) : ((f_XL_share fs z1 z2).1 = 1 ∧ (z1 < 0 ∨ 7 < z1)) ∨ ((f_XL_share fs z1 z2).1 = 2 ∧ 0 ≤ z1 ∧ z1 ≤ 7 ∧ (z2 < 0 ∨ 100000 < z2)) ∨ ((f_XL_share fs z1 z2).1 = 0 ∧ 0 ≤ z1 ∧ z1 ≤ 7 ∧ 0 ≤ z2 ∧ z2 ≤ 100000) := by
  rw [f_XL_share_s, f_XG_share_s]
  rcases q_needBelow z1 8 with ⟨a, a1, a2⟩ | ⟨a, a1⟩
  · by_cases b : z2 < 0
    · right; left; simp [a, b]; omega
    · by_cases d : 100000 < z2
      · right; left; simp [a, b, d]; omega
      · right; right; simp [a, b, d]; omega
  · left; simp [a]; omega
theorem q_at0 (pf : Int → Int) (z1 : Int) (fo : Int → Int) : ((f_XL_at 0 pf z1 fo).1 = 1 ∧ z1 < 0) ∨ ((f_XL_at 0 pf z1 fo).1 = 0 ∧ 0 ≤ z1 ∧ (f_XL_at 0 pf z1 fo).2 0 = -1) := by
  rw [f_XL_at_s, f_XG_at_s]
  rcases q_needPlace z1 with ⟨a, a1⟩ | ⟨a, a1⟩
  · right
    have e9 : f_XP_byteAt 0 pf z1 = -1 := by rw [f_XP_byteAt_s]; (repeat' split) <;> omega
    have h1 : jw (-1) = -1 := jw_in (by decide)
    simp [a, e9, h1, jset_at]; omega
  · left; simp [a]; omega
theorem q_onRing0 (bg bf k : Int) : f_XB_onRing bg bf (fun _ => 0) k = 0 := by
  rw [f_XB_onRing_s, f_XB_onRing_L9_s, if_pos (by decide), if_neg (by decide)]
theorem q_ringL (bg bf z1 : Int) : ∀ (n : Nat) (v k : Int), 31 - k < (n : Int) → k ≤ 31 → f_XG_ring_L8 bg bf (fun _ => 0) z1 n v k = (0, -1) := by
  intro n
  induction n with
  | zero => intro v k h1 h2; omega
  | succ n ih =>
    intro v k h1 h2
    rw [f_XG_ring_L8_s]
    by_cases h : 30 < k
    · rw [if_pos h]
    · rw [if_neg h, if_pos (q_onRing0 ..)]
      exact ih v (k + 1) (by omega) (by omega)
theorem q_ring0 (bg bf z1 : Int) (fo : Int → Int) : ((f_XL_ring bg bf (fun _ => 0) z1 fo).1 = 1 ∧ z1 < 0) ∨ ((f_XL_ring bg bf (fun _ => 0) z1 fo).1 = 0 ∧ 0 ≤ z1 ∧ (f_XL_ring bg bf (fun _ => 0) z1 fo).2 0 = -1) := by
  rw [f_XL_ring_s, f_XG_ring_s]
  rcases q_needPlace z1 with ⟨a, a1⟩ | ⟨a, a1⟩
  · right
    have e9 := q_ringL bg bf z1 (Int.toNat (31 - 1) + 1) z1 1 (by decide) (by decide)
    have h1 : jw (-1) = -1 := jw_in (by decide)
    rw [if_pos a, e9]
    simp [h1, jset_at]; omega
  · left; simp [a]; omega
theorem q_sign (tn tp tw : Int) (tf : Int → Int) (zy z1 : Int) (fo : Int → Int) (hn : 0 ≤ tn ∧ tn ≤ 400) (hf : ∀ i, 0 ≤ tf i ∧ tf i < 256) :
    ((f_XL_sign tn tp tw tf zy z1 fo).1 = 1 ∧ (z1 < 1 ∨ 8 < z1) ∧ (f_XL_sign tn tp tw tf zy z1 fo).2.2.1 = tn) ∨ ((f_XL_sign tn tp tw tf zy z1 fo).1 = 2 ∧ 1 ≤ z1 ∧ z1 ≤ 8 ∧ 400 < tn + z1 ∧ (f_XL_sign tn tp tw tf zy z1 fo).2.2.1 = tn) ∨ ((f_XL_sign tn tp tw tf zy z1 fo).1 = 0 ∧ 1 ≤ z1 ∧ z1 ≤ 8 ∧ tn + z1 ≤ 400 ∧ (f_XL_sign tn tp tw tf zy z1 fo).2.2.1 = tn + z1 ∧ (f_XL_sign tn tp tw tf zy z1 fo).2.1 0 = tn + z1) := by
  by_cases a : z1 < 1
  · left
    have e9 : (f_XG_sign tn tp tw tf zy z1) = (3, 0, 0, fun _ => 0) := by rw [f_XG_sign_s, if_pos a]
    rw [f_XL_sign_s, e9]; simp; omega
  · by_cases b : 8 < z1
    · left
      have e9 : (f_XG_sign tn tp tw tf zy z1) = (3, 0, 0, fun _ => 0) := by rw [f_XG_sign_s, if_neg a, if_pos b]
      rw [f_XL_sign_s, e9]; simp; omega
    · by_cases d : 400 - tn < z1
      · right; left
        have e9 : (f_XG_sign tn tp tw tf zy z1) = (4, 0, 0, fun _ => 0) := by rw [f_XG_sign_s, if_neg a, if_neg b, if_pos (by rw [f_XT_hasRoom_s, if_pos d])]
        rw [f_XL_sign_s, e9]; simp; omega
      · right; right
        have h9 := f_XT_append_b tn tp tw tf zy z1 hn hf (by omega)
        have e9 : (f_XG_sign tn tp tw tf zy z1) = (0, f_XT_append tn tp tw tf zy z1) := by rw [f_XG_sign_s, if_neg a, if_neg b, if_neg (by rw [f_XT_hasRoom_s, if_neg d]; decide)]
        have h2 : (f_XT_append tn tp tw tf zy z1).1 = tn + z1 := by omega
        have h3 : (f_XT_append tn tp tw tf zy z1).2.1 = tn + z1 := by omega
        have h4 : jw (tn + z1) = tn + z1 := jw_in (by omega)
        rw [f_XL_sign_s, e9, if_pos rfl]
        refine ⟨rfl, by omega, by omega, by omega, h3, ?_⟩
        show jset fo 0 (jw (f_XT_append tn tp tw tf zy z1).1) 0 = _
        rw [jset_at, h2, h4]
theorem q_next0 (tp tw : Int) (tf : Int → Int) : f_XT_next 0 0 tw tf = (-1, 0) := by
  rw [f_XT_next_s, f_XT_next_L0_s, if_neg (by decide), if_neg (by decide)]
theorem q_text0 (tp tw : Int) (tf : Int → Int) (bg bf : Int) (ft fl fh fq fr fd : Int → Int) : f_XR_text 0 tp tw tf bg bf ft fl fh fq fr fd = (1, 0, tw, ft, fl, fh, fq, fr, fd, bg, bf) := by
  rw [f_XR_text_s, f_XR_text_L9_s, if_pos (by decide), f_XT_rewind_s, q_next0 0]
  dsimp only
  rw [if_pos rfl]
theorem q_count0 : f_XB_count 0 0 = 0 := by rw [f_XB_count_s, f_XI_bitCount_s]; decide +kernel
theorem q_read0 (ba : Nat) (tp tw : Int) (tf : Int → Int) (da : Nat) (dg df : Int) (xt xp xl xh xq xr xd : Int → Int) : (f_XG_read ba 0 tp tw tf da dg df xt xp xl xh xq xr xd).1 = 0 := by
  rw [f_XG_read_s, f_XB_forget_s]
  dsimp only
  rw [q_text0]
  dsimp only
  rw [if_neg (by decide)]
  exact q_count0
