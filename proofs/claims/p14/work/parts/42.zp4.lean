/-! a grade tells at most four routes -/
noncomputable def kC (a : Int) : Nat → Int
  | 0 => 0
  | n + 1 => f_XG_hasBit a (7 - (n : Int)) + kC a n
theorem hb_01 (a k : Int) : f_XG_hasBit a k = 0 ∨ f_XG_hasBit a k = 1 := by
  rw [f_XG_hasBit_s]
  split
  · exact Or.inl rfl
  · exact Or.inr rfl
theorem kC_0 : ∀ n, kC 0 n = 0 := by
  intro n
  induction n with
  | zero => rfl
  | succ n ih =>
    show f_XG_hasBit 0 (7 - (n : Int)) + kC 0 n = 0
    rw [q_hasBit0', ih]; rfl
theorem kC_nn (a : Int) : ∀ n, 0 ≤ kC a n := by
  intro n
  induction n with
  | zero => exact Int.le_refl 0
  | succ n ih =>
    show 0 ≤ f_XG_hasBit a (7 - (n : Int)) + kC a n
    have := hb_01 a (7 - (n : Int))
    omega
theorem kC_or (a k : Int) (hk : 0 ≤ k) : ∀ n : Nat, n ≤ 8 → kC (jor a (jpow k)) n ≤ kC a n + (if 8 - (n : Int) ≤ k then 1 else 0) := by
  intro n
  induction n with
  | zero => intro _; show (0 : Int) ≤ 0 + _; split <;> omega
  | succ n ih =>
    intro hn
    have h := ih (by omega)
    show f_XG_hasBit (jor a (jpow k)) (7 - (n : Int)) + kC (jor a (jpow k)) n ≤ f_XG_hasBit a (7 - (n : Int)) + kC a n + _
    have h1 := hb_01 a (7 - (n : Int))
    rw [hb_or a k (7 - (n : Int)) hk (by omega)]
    by_cases c : 7 - (n : Int) = k
    · rw [if_neg (show ¬ 8 - (n : Int) ≤ k by omega)] at h
      rw [if_pos c, if_pos (show 8 - ((n + 1 : Nat) : Int) ≤ k by omega)]
      omega
    · rw [if_neg c]
      by_cases d : 8 - (n : Int) ≤ k
      · rw [if_pos d] at h
        rw [if_pos (show 8 - ((n + 1 : Nat) : Int) ≤ k by omega)]
        omega
      · rw [if_neg d] at h
        rw [if_neg (show ¬ 8 - ((n + 1 : Nat) : Int) ≤ k by omega)]
        omega
theorem kC_or1 (a k : Int) (hk : 0 ≤ k) : kC (jor a (jpow k)) 8 ≤ kC a 8 + 1 := by
  have h := kC_or a k hk 8 (by decide)
  split at h <;> omega
theorem q_one (tn tp tw : Int) (tf : Int → Int) (zs zc : Int) : (f_XT_takeOneOf tn tp tw tf zs zc).1 = -1 ∨ 0 ≤ (f_XT_takeOneOf tn tp tw tf zs zc).1 := by
  rw [f_XT_takeOneOf_s]
  (repeat' split) <;> first | exact Or.inl rfl | (dsimp only; omega)
theorem q_numL (tn tp tw : Int) (tf : Int → Int) (zl zm : Int) (hz : 0 ≤ zl) : ∀ (n : Nat) (v k q : Int), 6 - k < (n : Int) → 0 ≤ k → k ≤ 6 → (f_XT_number_L22 tn tp tw tf zl zm n v k q).1 = -1 ∨ 0 ≤ (f_XT_number_L22 tn tp tw tf zl zm n v k q).1 := by
  intro n
  induction n with
  | zero => intro v k q h; omega
  | succ n ih =>
    intro v k q h1 h2 h3
    rw [f_XT_number_L22_s]
    repeat' split
    all_goals first | exact Or.inl rfl | (exact ih _ _ _ (by omega) (by omega) (by omega)) | (dsimp only; omega)
theorem q_num (tn tp tw : Int) (tf : Int → Int) (zl zm : Int) (hz : 0 ≤ zl) : (f_XT_number tn tp tw tf zl zm).1 = -1 ∨ 0 ≤ (f_XT_number tn tp tw tf zl zm).1 := by
  rw [f_XT_number_s]
  split
  split
  · split; exact Or.inl rfl
  · exact q_numL tn tp tw tf zl zm hz _ _ _ _ (by decide) (by decide) (by decide)
theorem q_routesNL (tn tp tw : Int) (tf : Int → Int) (bg bf : Int) (fr : Int → Int) (zg : Int) : ∀ (n : Nat) (k v q w : Int) (yr : Int → Int), 4 - k < (n : Int) → 0 ≤ k → k ≤ 4 → kC (yr zg) 8 ≤ k → kC ((f_XR_routes_L19 tn tp tw tf bg bf fr zg n k v q w yr).2.2.2 zg) 8 ≤ 4 ∧ ∀ g, g ≠ zg → (f_XR_routes_L19 tn tp tw tf bg bf fr zg n k v q w yr).2.2.2 g = yr g := by
  intro n
  induction n with
  | zero => intro k v q w yr h; omega
  | succ n ih =>
    intro k v q w yr h1 h2 h3 h4
    have stay : kC (yr zg) 8 ≤ 4 ∧ ∀ g, g ≠ zg → yr g = yr g := ⟨by omega, fun _ _ => rfl⟩
    have go : ∀ r q' w', 0 ≤ r → k < 4 → kC ((f_XR_routes_L19 tn tp tw tf bg bf fr zg n (k + 1) r q' w' (f_XB_tellRoute bg bf yr zg r)).2.2.2 zg) 8 ≤ 4 ∧ ∀ g, g ≠ zg → (f_XR_routes_L19 tn tp tw tf bg bf fr zg n (k + 1) r q' w' (f_XB_tellRoute bg bf yr zg r)).2.2.2 g = yr g := by
      intro r q' w' hr hk
      have e1 : f_XB_tellRoute bg bf yr zg r zg = jor (yr zg) (jpow r) := by rw [f_XB_tellRoute_s]; unfold jset; rw [if_pos rfl]
      have e2 := kC_or1 (yr zg) r hr
      obtain ⟨i1, i2⟩ := ih (k + 1) r q' w' (f_XB_tellRoute bg bf yr zg r) (by omega) (by omega) (by omega) (by rw [e1]; omega)
      refine ⟨i1, fun g hg => ?_⟩
      rw [i2 g hg, f_XB_tellRoute_s]
      unfold jset
      rw [if_neg hg]
    rw [f_XR_routes_L19_s]
    have t1 := q_one tn q w tf 48 8
    by_cases a : k < 4
    · rw [if_pos a]
      by_cases b : 0 < k
      · rw [if_pos b]
        obtain ⟨r15, p16⟩ := f_XT_next tn q w tf
        dsimp only
        have t2 := q_one tn p16 w tf 48 8
        split
        · exact stay
        · generalize f_XT_takeOneOf tn p16 w tf 48 8 = X9 at t2 ⊢
          obtain ⟨r22, p23, w24⟩ := X9
          dsimp only at t2 ⊢
          split
          · exact stay
          · split
            · exact go _ _ _ (by omega) a
            · exact stay
      · rw [if_neg b]
        generalize f_XT_takeOneOf tn q w tf 48 8 = X9 at t1 ⊢
        obtain ⟨r1, p2, w1⟩ := X9
        dsimp only at t1 ⊢
        split
        · exact stay
        · split
          · exact go _ _ _ (by omega) a
          · exact stay
    · rw [if_neg a]; exact stay
/-- what holds of the routes of a book that is being read -/
def kRI (bg : Int) (fr : Int → Int) : Prop := (∀ g, 1 ≤ g → g ≤ 30 → kC (fr g) 8 ≤ 4) ∧ (∀ g, 1 ≤ g → g ≤ 30 → f_XG_hasBit bg g = 0 → fr g = 0)
theorem q_routesN (tn tp tw : Int) (tf : Int → Int) (bg bf : Int) (fr : Int → Int) (zg : Int) (h : fr zg = 0) : kC ((f_XR_routes tn tp tw tf bg bf fr zg).2.2.2 zg) 8 ≤ 4 ∧ ∀ g, g ≠ zg → (f_XR_routes tn tp tw tf bg bf fr zg).2.2.2 g = fr g := by
  have h0 : kC (fr zg) 8 ≤ 0 := by rw [h, kC_0]; decide
  rw [f_XR_routes_s]
  obtain ⟨r, p1⟩ := f_XT_skipIf tn tp tw tf 114
  dsimp only
  split
  · exact ⟨by dsimp only; omega, fun _ _ => rfl⟩
  · exact q_routesNL tn tp tw tf bg bf fr zg _ _ _ _ _ fr (by decide) (by decide) (by decide) h0
theorem q_routesOL (tn tp tw : Int) (tf : Int → Int) (bg bf : Int) (fr : Int → Int) (zg : Int) (g : Int) (hg : g ≠ zg) : ∀ (n : Nat) (k v q w : Int) (yr : Int → Int), 4 - k < (n : Int) → k ≤ 4 → (f_XR_routes_L19 tn tp tw tf bg bf fr zg n k v q w yr).2.2.2 g = yr g := by
  intro n
  induction n with
  | zero => intro k v q w yr h; omega
  | succ n ih =>
    intro k v q w yr h1 h3
    have go : ∀ r q' w', k < 4 → (f_XR_routes_L19 tn tp tw tf bg bf fr zg n (k + 1) r q' w' (f_XB_tellRoute bg bf yr zg r)).2.2.2 g = yr g := by
      intro r q' w' hk
      rw [ih (k + 1) r q' w' _ (by omega) (by omega), f_XB_tellRoute_s]
      unfold jset
      rw [if_neg hg]
    rw [f_XR_routes_L19_s]
    by_cases a : k < 4
    · rw [if_pos a]
      by_cases b : 0 < k
      · rw [if_pos b]
        obtain ⟨r15, p16⟩ := f_XT_next tn q w tf
        dsimp only
        split
        · rfl
        · obtain ⟨r22, p23, w24⟩ := f_XT_takeOneOf tn p16 w tf 48 8
          dsimp only
          split
          · rfl
          · split
            · exact go _ _ _ a
            · rfl
      · rw [if_neg b]
        obtain ⟨r1, p2, w1⟩ := f_XT_takeOneOf tn q w tf 48 8
        dsimp only
        split
        · rfl
        · split
          · exact go _ _ _ a
          · rfl
    · rw [if_neg a]
theorem q_routesO (tn tp tw : Int) (tf : Int → Int) (bg bf : Int) (fr : Int → Int) (zg g : Int) (hg : g ≠ zg) : (f_XR_routes tn tp tw tf bg bf fr zg).2.2.2 g = fr g := by
  rw [f_XR_routes_s]
  obtain ⟨r, p1⟩ := f_XT_skipIf tn tp tw tf 114
  dsimp only
  split
  · rfl
  · exact q_routesOL tn tp tw tf bg bf fr zg g hg _ _ _ _ _ fr (by decide) (by decide)
theorem q_gradeN (tn tp tw : Int) (tf : Int → Int) (bg bf : Int) (ft fl fh fq fr : Int → Int) (h : kRI bg fr) : kRI (f_XR_grade tn tp tw tf bg bf ft fl fh fq fr).2.2.2.2.2.2.2.2 (f_XR_grade tn tp tw tf bg bf ft fl fh fq fr).2.2.2.2.2.2.2.1 := by
  rw [f_XR_grade_s]
  have hn := q_num tn tp tw tf 1 30 (by decide)
  generalize f_XT_number tn tp tw tf 1 30 = X9 at hn ⊢
  obtain ⟨r, p1, w1⟩ := X9
  dsimp only at hn ⊢
  by_cases a : r = -1
  · rw [if_pos a]; exact h
  · rw [if_neg a]
    by_cases b : f_XB_knows bg bf r = 0
    · rw [if_pos b]
      have hk : ∀ g, 1 ≤ g → f_XG_hasBit (f_XB_tellGrade bg bf r) g = if g = r then 1 else f_XG_hasBit bg g := fun g hg => by rw [f_XB_tellGrade_s]; exact hb_or bg r g (by omega) (by omega)
      have stay : kRI (f_XB_tellGrade bg bf r) fr := by
        refine ⟨h.1, fun g g1 g2 g3 => ?_⟩
        rw [hk g g1] at g3
        by_cases c : g = r
        · rw [if_pos c] at g3; exact absurd g3 (by decide)
        · rw [if_neg c] at g3; exact h.2 g g1 g2 g3
      obtain ⟨r5, p6, w7, ft1⟩ := f_XR_parent tn p1 w1 tf (f_XB_tellGrade bg bf r) bf ft r
      dsimp only
      by_cases c : r5 = 0
      · rw [if_pos c]; exact stay
      · rw [if_neg c]
        obtain ⟨r14, p15, w16, fl1, fh1⟩ := f_XR_spans tn p6 w7 tf (f_XB_tellGrade bg bf r) bf fl fh r
        dsimp only
        by_cases d : r14 = 0
        · rw [if_pos d]; exact stay
        · rw [if_neg d]
          have key : kRI (f_XB_tellGrade bg bf r) (f_XR_routes tn p15 w16 tf (f_XB_tellGrade bg bf r) bf fr r).2.2.2 := by
            by_cases e : 1 ≤ r ∧ r ≤ 30
            · have z : fr r = 0 := by
                refine h.2 r e.1 e.2 ?_
                rw [f_XB_knows_s, if_neg (show ¬ r < 1 by omega), if_neg (show ¬ 30 < r by omega)] at b
                by_cases q : f_XG_hasBit bg r = 0
                · exact q
                · rw [if_neg q] at b; exact absurd b (by decide)
              obtain ⟨i1, i2⟩ := q_routesN tn p15 w16 tf (f_XB_tellGrade bg bf r) bf fr r z
              refine ⟨fun g g1 g2 => ?_, fun g g1 g2 g3 => ?_⟩
              · by_cases q : g = r
                · rw [q]; exact i1
                · rw [i2 g q]; exact h.1 g g1 g2
              · by_cases q : g = r
                · rw [hk g g1, if_pos q] at g3; exact absurd g3 (by decide)
                · rw [i2 g q]; exact stay.2 g g1 g2 g3
            · have out : ∀ g, g ≠ r → (f_XR_routes tn p15 w16 tf (f_XB_tellGrade bg bf r) bf fr r).2.2.2 g = fr g := by
                intro g hg
                exact q_routesO tn p15 w16 tf (f_XB_tellGrade bg bf r) bf fr r g hg
              refine ⟨fun g g1 g2 => ?_, fun g g1 g2 g3 => ?_⟩
              · rw [out g (by omega)]; exact h.1 g g1 g2
              · rw [out g (by omega)]; exact stay.2 g g1 g2 g3
          generalize f_XR_routes tn p15 w16 tf (f_XB_tellGrade bg bf r) bf fr r = X9 at key ⊢
          obtain ⟨r24, p25, w26, fr1⟩ := X9
          dsimp only at key ⊢
          by_cases e : r24 = 0
          · rw [if_pos e]; exact key
          · rw [if_neg e]
            obtain ⟨r33, p34, w35, fq1⟩ := f_XR_limits tn p25 w26 tf (f_XB_tellGrade bg bf r) bf fq r
            dsimp only
            by_cases f : r33 = 0
            · rw [if_pos f]; exact key
            · rw [if_neg f]; exact key
    · rw [if_neg b]; exact h
theorem q_rowN (tn tp tw : Int) (tf : Int → Int) (bg bf : Int) (ft fl fh fq fr fd : Int → Int) (h : kRI bg fr) : kRI (f_XR_row tn tp tw tf bg bf ft fl fh fq fr fd).2.2.2.2.2.2.2.2.2.1 (f_XR_row tn tp tw tf bg bf ft fl fh fq fr fd).2.2.2.2.2.2.2.1 := by
  rw [f_XR_row_s]
  obtain ⟨r, p1⟩ := f_XT_skipIf tn tp tw tf 101
  dsimp only
  by_cases a : r = 0
  · rw [if_pos a]
    obtain ⟨r1, p2⟩ := f_XT_skipIf tn p1 tw tf 103
    dsimp only
    by_cases b : r1 = 0
    · rw [if_pos b]; exact h
    · rw [if_neg b]
      have g := q_gradeN tn p2 tw tf bg bf ft fl fh fq fr h
      generalize f_XR_grade tn p2 tw tf bg bf ft fl fh fq fr = X9 at g ⊢
      obtain ⟨r12, p13, w14, ft1, fl1, fh1, fq1, fr1, bg1⟩ := X9
      dsimp only at g ⊢
      by_cases c : r12 = 0
      · rw [if_pos c]; exact g
      · rw [if_neg c]
        obtain ⟨r26, p27, w28⟩ := f_XT_take tn p13 w14 tf 59
        dsimp only
        by_cases d : r26 = 0
        · rw [if_pos d]; exact g
        · rw [if_neg d]; exact g
  · rw [if_neg a]
    obtain ⟨r33, p34, w35, fd1, bf1⟩ := f_XR_formula tn p1 tw tf bg bf fd
    dsimp only
    by_cases c : r33 = 0
    · rw [if_pos c]; exact h
    · rw [if_neg c]
      obtain ⟨r43, p44, w45⟩ := f_XT_take tn p34 w35 tf 59
      dsimp only
      by_cases d : r43 = 0
      · rw [if_pos d]; exact h
      · rw [if_neg d]; exact h
theorem q_textNL (tn tp tw : Int) (tf : Int → Int) (bg bf : Int) (ft fl fh fq fr fd : Int → Int) : ∀ (n : Nat) (k q w : Int) (yt yl yh yq yr yd : Int → Int) (yg yf : Int), 400 - k < (n : Int) → k ≤ 400 → kRI yg yr → kRI (f_XR_text_L9 tn tp tw tf bg bf ft fl fh fq fr fd n k q w yt yl yh yq yr yd yg yf).2.2.2.2.2.2.2.2.2.1 (f_XR_text_L9 tn tp tw tf bg bf ft fl fh fq fr fd n k q w yt yl yh yq yr yd yg yf).2.2.2.2.2.2.2.1 := by
  intro n
  induction n with
  | zero => intro k q w yt yl yh yq yr yd yg yf h; omega
  | succ n ih =>
    intro k q w yt yl yh yq yr yd yg yf h1 h2 h3
    rw [f_XR_text_L9_s]
    by_cases a : k < 400
    · rw [if_pos a]
      obtain ⟨r, p1⟩ := f_XT_next tn q w tf
      dsimp only
      by_cases b : r = -1
      · rw [if_pos b]; exact h3
      · rw [if_neg b]
        have g := q_rowN tn p1 w tf yg yf yt yl yh yq yr yd h3
        generalize f_XR_row tn p1 w tf yg yf yt yl yh yq yr yd = X9 at g ⊢
        obtain ⟨r3, p4, w1, ft1, fl1, fh1, fq1, fr1, fd1, bg1, bf1⟩ := X9
        dsimp only at g ⊢
        by_cases c : r3 = 0
        · rw [if_pos c]; exact g
        · rw [if_neg c]; exact ih (k + 1) p4 w1 ft1 fl1 fh1 fq1 fr1 fd1 bg1 bf1 (by omega) (by omega) g
    · rw [if_neg a]; exact h3
/-- the routes of the book that read leaves (the third entry from the end but one is fr) -/
theorem q_readN (ba : Nat) (tn tp tw : Int) (tf : Int → Int) (da : Nat) (dg df : Int) (xt xp xl xh xq xr xd : Int → Int) : ∀ C, C = f_XG_read ba tn tp tw tf da dg df xt xp xl xh xq xr xd → ∀ g, 1 ≤ g → g ≤ 30 → kC (C.2.2.2.2.2.2.2.2.2.2.2.1 g) 8 ≤ 4 := by
  intro C hC
  rw [f_XG_read_s, f_XB_forget_s] at hC
  dsimp only at hC
  have h0 : kRI 0 (f_XA_fill31 xr 0) := by
    have z : ∀ g, 1 ≤ g → g ≤ 30 → f_XA_fill31 xr 0 g = 0 := fun g g1 g2 => by rw [f_XA_fill31_eq]; dsimp only; rw [if_pos (by omega)]
    exact ⟨fun g g1 g2 => by rw [z g g1 g2, kC_0]; decide, fun g g1 g2 _ => z g g1 g2⟩
  have hT : kRI (f_XR_text tn tp tw tf 0 0 (f_XA_fill31 xt 0) xl (f_XA_fill248 xh (-1)) (f_XA_fill124 xq (-1)) (f_XA_fill31 xr 0) (f_XA_fill32 xd 0)).2.2.2.2.2.2.2.2.2.1 (f_XR_text tn tp tw tf 0 0 (f_XA_fill31 xt 0) xl (f_XA_fill248 xh (-1)) (f_XA_fill124 xq (-1)) (f_XA_fill31 xr 0) (f_XA_fill32 xd 0)).2.2.2.2.2.2.2.1 := by
    rw [f_XR_text_s]
    exact q_textNL tn tp tw tf 0 0 _ _ _ _ _ _ _ _ _ _ _ _ _ _ _ _ _ _ (by decide) (by decide) h0
  generalize f_XR_text tn tp tw tf 0 0 (f_XA_fill31 xt 0) xl (f_XA_fill248 xh (-1)) (f_XA_fill124 xq (-1)) (f_XA_fill31 xr 0) (f_XA_fill32 xd 0) = X at hC hT
  obtain ⟨r, p1, w1, ft1, fl1, fh1, fq1, fr1, fd1, bg1, bf1⟩ := X
  dsimp only at hC hT
  by_cases c : r = 0
  · rw [if_pos c] at hC; rw [hC]; exact hT.1
  · rw [if_neg c] at hC; rw [hC]; exact hT.1
