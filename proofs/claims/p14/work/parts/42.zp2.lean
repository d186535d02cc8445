noncomputable def g_XM_writeP_L168 (mth : Int) (mn : Int) (mp : Int) (mw : Int) (mu : Int) (md : Int) (mo : Int) (y1 : Int → Int) (y2 : Int → Int) (y3 : Int → Int) (y4 : Int → Int) (y5 : Int → Int) (y6 : Int → Int) (y7 : Int → Int) (y11 : Int → Int) (z1 : Int) (mth1' : Int) : Nat → Int → Int → (Int → Int) → Int × Int × Int × (Int → Int)
  | 0, _, _, _ => (0, 0, 0, fun _ => 0)
  | n9 + 1, k3, m7, v7 =>
    if k3 < 4 then
      if (y7 ((4 * z1) + k3)) < 0 then
        g_XM_writeP_L168 mth mn mp mw mu md mo y1 y2 y3 y4 y5 y6 y7 y11 z1 mth1' n9 (k3 + 1) m7 v7
      else
        match f_XM_tellP mth1' mn mp mw mu md m7 v7 113 k3 with
        | (mo1'10, y11n'11) =>
          match f_XM_tellP mth1' mn mp mw mu md mo1'10 y11n'11 60 (y7 ((4 * z1) + k3)) with
          | (mo1'16, y11n'17) =>
            g_XM_writeP_L168 mth mn mp mw mu md mo y1 y2 y3 y4 y5 y6 y7 y11 z1 mth1' n9 (k3 + 1) mo1'16 y11n'17
    else
      match f_XM_putP mth1' mn mp mw mu md m7 v7 59 with
      | (mo1'5, y11n'6) =>
        (mo1'5, mth1', mo1'5, y11n'6)
noncomputable def f_XM_writeP_L168 : Int → Int → Int → Int → Int → Int → Int → (Int → Int) → (Int → Int) → (Int → Int) → (Int → Int) → (Int → Int) → (Int → Int) → (Int → Int) → (Int → Int) → Int → Int → Nat → Int → Int → (Int → Int) → Int × Int × Int × (Int → Int) := jopq g_XM_writeP_L168
theorem f_XM_writeP_L168_q : f_XM_writeP_L168 = g_XM_writeP_L168 := jopq_eq _
theorem f_XM_writeP_L168_s (mth : Int) (mn : Int) (mp : Int) (mw : Int) (mu : Int) (md : Int) (mo : Int) (y1 : Int → Int) (y2 : Int → Int) (y3 : Int → Int) (y4 : Int → Int) (y5 : Int → Int) (y6 : Int → Int) (y7 : Int → Int) (y11 : Int → Int) (z1 : Int) (mth1' : Int) (n9 : Nat) (k3 : Int) (m7 : Int) (v7 : Int → Int) : f_XM_writeP_L168 mth mn mp mw mu md mo y1 y2 y3 y4 y5 y6 y7 y11 z1 mth1' (n9 + 1) k3 m7 v7 = (
    if k3 < 4 then
      if (y7 ((4 * z1) + k3)) < 0 then
        f_XM_writeP_L168 mth mn mp mw mu md mo y1 y2 y3 y4 y5 y6 y7 y11 z1 mth1' n9 (k3 + 1) m7 v7
      else
        match f_XM_tellP mth1' mn mp mw mu md m7 v7 113 k3 with
        | (mo1'10, y11n'11) =>
          match f_XM_tellP mth1' mn mp mw mu md mo1'10 y11n'11 60 (y7 ((4 * z1) + k3)) with
          | (mo1'16, y11n'17) =>
            f_XM_writeP_L168 mth mn mp mw mu md mo y1 y2 y3 y4 y5 y6 y7 y11 z1 mth1' n9 (k3 + 1) mo1'16 y11n'17
    else
      match f_XM_putP mth1' mn mp mw mu md m7 v7 59 with
      | (mo1'5, y11n'6) =>
        (mo1'5, mth1', mo1'5, y11n'6)
  : Int × Int × Int × (Int → Int)) := by rw [f_XM_writeP_L168_q]; rfl
theorem f_XM_writeP_L168_z (mth : Int) (mn : Int) (mp : Int) (mw : Int) (mu : Int) (md : Int) (mo : Int) (y1 : Int → Int) (y2 : Int → Int) (y3 : Int → Int) (y4 : Int → Int) (y5 : Int → Int) (y6 : Int → Int) (y7 : Int → Int) (y11 : Int → Int) (z1 : Int) (mth1' : Int) (k3 : Int) (m7 : Int) (v7 : Int → Int) : f_XM_writeP_L168 mth mn mp mw mu md mo y1 y2 y3 y4 y5 y6 y7 y11 z1 mth1' 0 k3 m7 v7 = (0, 0, 0, fun _ => 0) := by rw [f_XM_writeP_L168_q]; rfl
noncomputable def g_XM_writeP_L132 (mth : Int) (mn : Int) (mp : Int) (mw : Int) (mu : Int) (md : Int) (mo : Int) (y1 : Int → Int) (y2 : Int → Int) (y3 : Int → Int) (y4 : Int → Int) (y5 : Int → Int) (y6 : Int → Int) (y7 : Int → Int) (y11 : Int → Int) (z1 : Int) (mth1' : Int) : Nat → Int → Int → (Int → Int) → Int × Int × Int × (Int → Int)
  | 0, _, _, _ => (0, 0, 0, fun _ => 0)
  | n9 + 1, k2, m5, v5 =>
    if k2 < 8 then
      if ((jI ((jI (y6 z1) >>> (jI k2 &&& 31)).toInt) &&& jI 1).toInt) = 1 then
        match f_XM_putP mth1' mn mp mw mu md m5 v5 (48 + k2) with
        | (mo1'24, y11n'25) =>
          g_XM_writeP_L132 mth mn mp mw mu md mo y1 y2 y3 y4 y5 y6 y7 y11 z1 mth1' n9 (k2 + 1) mo1'24 y11n'25
      else
        g_XM_writeP_L132 mth mn mp mw mu md mo y1 y2 y3 y4 y5 y6 y7 y11 z1 mth1' n9 (k2 + 1) m5 v5
    else
      f_XM_writeP_L168 mth mn mp mw mu md mo y1 y2 y3 y4 y5 y6 y7 y11 z1 mth1' (Int.toNat (4 - 0) + 1) 0 m5 v5
noncomputable def f_XM_writeP_L132 : Int → Int → Int → Int → Int → Int → Int → (Int → Int) → (Int → Int) → (Int → Int) → (Int → Int) → (Int → Int) → (Int → Int) → (Int → Int) → (Int → Int) → Int → Int → Nat → Int → Int → (Int → Int) → Int × Int × Int × (Int → Int) := jopq g_XM_writeP_L132
theorem f_XM_writeP_L132_q : f_XM_writeP_L132 = g_XM_writeP_L132 := jopq_eq _
theorem f_XM_writeP_L132_s (mth : Int) (mn : Int) (mp : Int) (mw : Int) (mu : Int) (md : Int) (mo : Int) (y1 : Int → Int) (y2 : Int → Int) (y3 : Int → Int) (y4 : Int → Int) (y5 : Int → Int) (y6 : Int → Int) (y7 : Int → Int) (y11 : Int → Int) (z1 : Int) (mth1' : Int) (n9 : Nat) (k2 : Int) (m5 : Int) (v5 : Int → Int) : f_XM_writeP_L132 mth mn mp mw mu md mo y1 y2 y3 y4 y5 y6 y7 y11 z1 mth1' (n9 + 1) k2 m5 v5 = (
    if k2 < 8 then
      if ((jI ((jI (y6 z1) >>> (jI k2 &&& 31)).toInt) &&& jI 1).toInt) = 1 then
        match f_XM_putP mth1' mn mp mw mu md m5 v5 (48 + k2) with
        | (mo1'24, y11n'25) =>
          f_XM_writeP_L132 mth mn mp mw mu md mo y1 y2 y3 y4 y5 y6 y7 y11 z1 mth1' n9 (k2 + 1) mo1'24 y11n'25
      else
        f_XM_writeP_L132 mth mn mp mw mu md mo y1 y2 y3 y4 y5 y6 y7 y11 z1 mth1' n9 (k2 + 1) m5 v5
    else
      f_XM_writeP_L168 mth mn mp mw mu md mo y1 y2 y3 y4 y5 y6 y7 y11 z1 mth1' (Int.toNat (4 - 0) + 1) 0 m5 v5
  : Int × Int × Int × (Int → Int)) := by rw [f_XM_writeP_L132_q]; rfl
theorem f_XM_writeP_L132_z (mth : Int) (mn : Int) (mp : Int) (mw : Int) (mu : Int) (md : Int) (mo : Int) (y1 : Int → Int) (y2 : Int → Int) (y3 : Int → Int) (y4 : Int → Int) (y5 : Int → Int) (y6 : Int → Int) (y7 : Int → Int) (y11 : Int → Int) (z1 : Int) (mth1' : Int) (k2 : Int) (m5 : Int) (v5 : Int → Int) : f_XM_writeP_L132 mth mn mp mw mu md mo y1 y2 y3 y4 y5 y6 y7 y11 z1 mth1' 0 k2 m5 v5 = (0, 0, 0, fun _ => 0) := by rw [f_XM_writeP_L132_q]; rfl
noncomputable def g_XM_writeP_J130 (mth : Int) (mn : Int) (mp : Int) (mw : Int) (mu : Int) (md : Int) (mo : Int) (y1 : Int → Int) (y2 : Int → Int) (y3 : Int → Int) (y4 : Int → Int) (y5 : Int → Int) (y6 : Int → Int) (y7 : Int → Int) (y11 : Int → Int) (z1 : Int) (mth1' : Int) (m4 : Int) (v4 : Int → Int) : Int × Int × Int × (Int → Int) :=
  f_XM_writeP_L132 mth mn mp mw mu md mo y1 y2 y3 y4 y5 y6 y7 y11 z1 mth1' (Int.toNat (8 - 0) + 1) 0 m4 v4
noncomputable def f_XM_writeP_J130 : Int → Int → Int → Int → Int → Int → Int → (Int → Int) → (Int → Int) → (Int → Int) → (Int → Int) → (Int → Int) → (Int → Int) → (Int → Int) → (Int → Int) → Int → Int → Int → (Int → Int) → Int × Int × Int × (Int → Int) := jopq g_XM_writeP_J130
theorem f_XM_writeP_J130_q : f_XM_writeP_J130 = g_XM_writeP_J130 := jopq_eq _
theorem f_XM_writeP_J130_s (mth : Int) (mn : Int) (mp : Int) (mw : Int) (mu : Int) (md : Int) (mo : Int) (y1 : Int → Int) (y2 : Int → Int) (y3 : Int → Int) (y4 : Int → Int) (y5 : Int → Int) (y6 : Int → Int) (y7 : Int → Int) (y11 : Int → Int) (z1 : Int) (mth1' : Int) (m4 : Int) (v4 : Int → Int) : f_XM_writeP_J130 mth mn mp mw mu md mo y1 y2 y3 y4 y5 y6 y7 y11 z1 mth1' m4 v4 = (
    f_XM_writeP_L132 mth mn mp mw mu md mo y1 y2 y3 y4 y5 y6 y7 y11 z1 mth1' (Int.toNat (8 - 0) + 1) 0 m4 v4
  : Int × Int × Int × (Int → Int)) := by rw [f_XM_writeP_J130_q]; rfl
noncomputable def g_XM_writeP_L50 (mth : Int) (mn : Int) (mp : Int) (mw : Int) (mu : Int) (md : Int) (mo : Int) (y1 : Int → Int) (y2 : Int → Int) (y3 : Int → Int) (y4 : Int → Int) (y5 : Int → Int) (y6 : Int → Int) (y7 : Int → Int) (y11 : Int → Int) (z1 : Int) (mth1' : Int) : Nat → Int → Int → (Int → Int) → Int × Int × Int × (Int → Int)
  | 0, _, _, _ => (0, 0, 0, fun _ => 0)
  | n9 + 1, k, m2, v2 =>
    if k < 8 then
      if (y3 ((8 * z1) + k)) = 0 then
        g_XM_writeP_L50 mth mn mp mw mu md mo y1 y2 y3 y4 y5 y6 y7 y11 z1 mth1' n9 (k + 1) m2 v2
      else
        match f_XM_tellP mth1' mn mp mw mu md m2 v2 (65 + k) (y4 ((8 * z1) + k)) with
        | (mo1'37, y11n'38) =>
          match f_XM_tellP mth1' mn mp mw mu md mo1'37 y11n'38 45 (y5 ((8 * z1) + k)) with
          | (mo1'43, y11n'44) =>
            g_XM_writeP_L50 mth mn mp mw mu md mo y1 y2 y3 y4 y5 y6 y7 y11 z1 mth1' n9 (k + 1) mo1'43 y11n'44
    else
      if 0 < (y6 z1) then
        match f_XM_putP mth1' mn mp mw mu md m2 v2 114 with
        | (mo1'30, y11n'31) =>
          f_XM_writeP_J130 mth mn mp mw mu md mo y1 y2 y3 y4 y5 y6 y7 y11 z1 mth1' mo1'30 y11n'31
      else
        f_XM_writeP_J130 mth mn mp mw mu md mo y1 y2 y3 y4 y5 y6 y7 y11 z1 mth1' m2 v2
noncomputable def f_XM_writeP_L50 : Int → Int → Int → Int → Int → Int → Int → (Int → Int) → (Int → Int) → (Int → Int) → (Int → Int) → (Int → Int) → (Int → Int) → (Int → Int) → (Int → Int) → Int → Int → Nat → Int → Int → (Int → Int) → Int × Int × Int × (Int → Int) := jopq g_XM_writeP_L50
theorem f_XM_writeP_L50_q : f_XM_writeP_L50 = g_XM_writeP_L50 := jopq_eq _
theorem f_XM_writeP_L50_s (mth : Int) (mn : Int) (mp : Int) (mw : Int) (mu : Int) (md : Int) (mo : Int) (y1 : Int → Int) (y2 : Int → Int) (y3 : Int → Int) (y4 : Int → Int) (y5 : Int → Int) (y6 : Int → Int) (y7 : Int → Int) (y11 : Int → Int) (z1 : Int) (mth1' : Int) (n9 : Nat) (k : Int) (m2 : Int) (v2 : Int → Int) : f_XM_writeP_L50 mth mn mp mw mu md mo y1 y2 y3 y4 y5 y6 y7 y11 z1 mth1' (n9 + 1) k m2 v2 = (
    if k < 8 then
      if (y3 ((8 * z1) + k)) = 0 then
        f_XM_writeP_L50 mth mn mp mw mu md mo y1 y2 y3 y4 y5 y6 y7 y11 z1 mth1' n9 (k + 1) m2 v2
      else
        match f_XM_tellP mth1' mn mp mw mu md m2 v2 (65 + k) (y4 ((8 * z1) + k)) with
        | (mo1'37, y11n'38) =>
          match f_XM_tellP mth1' mn mp mw mu md mo1'37 y11n'38 45 (y5 ((8 * z1) + k)) with
          | (mo1'43, y11n'44) =>
            f_XM_writeP_L50 mth mn mp mw mu md mo y1 y2 y3 y4 y5 y6 y7 y11 z1 mth1' n9 (k + 1) mo1'43 y11n'44
    else
      if 0 < (y6 z1) then
        match f_XM_putP mth1' mn mp mw mu md m2 v2 114 with
        | (mo1'30, y11n'31) =>
          f_XM_writeP_J130 mth mn mp mw mu md mo y1 y2 y3 y4 y5 y6 y7 y11 z1 mth1' mo1'30 y11n'31
      else
        f_XM_writeP_J130 mth mn mp mw mu md mo y1 y2 y3 y4 y5 y6 y7 y11 z1 mth1' m2 v2
  : Int × Int × Int × (Int → Int)) := by rw [f_XM_writeP_L50_q]; rfl
theorem f_XM_writeP_L50_z (mth : Int) (mn : Int) (mp : Int) (mw : Int) (mu : Int) (md : Int) (mo : Int) (y1 : Int → Int) (y2 : Int → Int) (y3 : Int → Int) (y4 : Int → Int) (y5 : Int → Int) (y6 : Int → Int) (y7 : Int → Int) (y11 : Int → Int) (z1 : Int) (mth1' : Int) (k : Int) (m2 : Int) (v2 : Int → Int) : f_XM_writeP_L50 mth mn mp mw mu md mo y1 y2 y3 y4 y5 y6 y7 y11 z1 mth1' 0 k m2 v2 = (0, 0, 0, fun _ => 0) := by rw [f_XM_writeP_L50_q]; rfl
noncomputable def g_XM_writeP_J48 (mth : Int) (mn : Int) (mp : Int) (mw : Int) (mu : Int) (md : Int) (mo : Int) (y1 : Int → Int) (y2 : Int → Int) (y3 : Int → Int) (y4 : Int → Int) (y5 : Int → Int) (y6 : Int → Int) (y7 : Int → Int) (y11 : Int → Int) (z1 : Int) (mth1' : Int) (m1 : Int) (v1 : Int → Int) : Int × Int × Int × (Int → Int) :=
  f_XM_writeP_L50 mth mn mp mw mu md mo y1 y2 y3 y4 y5 y6 y7 y11 z1 mth1' (Int.toNat (8 - 0) + 1) 0 m1 v1
noncomputable def f_XM_writeP_J48 : Int → Int → Int → Int → Int → Int → Int → (Int → Int) → (Int → Int) → (Int → Int) → (Int → Int) → (Int → Int) → (Int → Int) → (Int → Int) → (Int → Int) → Int → Int → Int → (Int → Int) → Int × Int × Int × (Int → Int) := jopq g_XM_writeP_J48
theorem f_XM_writeP_J48_q : f_XM_writeP_J48 = g_XM_writeP_J48 := jopq_eq _
theorem f_XM_writeP_J48_s (mth : Int) (mn : Int) (mp : Int) (mw : Int) (mu : Int) (md : Int) (mo : Int) (y1 : Int → Int) (y2 : Int → Int) (y3 : Int → Int) (y4 : Int → Int) (y5 : Int → Int) (y6 : Int → Int) (y7 : Int → Int) (y11 : Int → Int) (z1 : Int) (mth1' : Int) (m1 : Int) (v1 : Int → Int) : f_XM_writeP_J48 mth mn mp mw mu md mo y1 y2 y3 y4 y5 y6 y7 y11 z1 mth1' m1 v1 = (
    f_XM_writeP_L50 mth mn mp mw mu md mo y1 y2 y3 y4 y5 y6 y7 y11 z1 mth1' (Int.toNat (8 - 0) + 1) 0 m1 v1
  : Int × Int × Int × (Int → Int)) := by rw [f_XM_writeP_J48_q]; rfl
noncomputable def g_XM_writeP (mth : Int) (mn : Int) (mp : Int) (mw : Int) (mu : Int) (md : Int) (mo : Int) (y1 : Int → Int) (y2 : Int → Int) (y3 : Int → Int) (y4 : Int → Int) (y5 : Int → Int) (y6 : Int → Int) (y7 : Int → Int) (y11 : Int → Int) (z1 : Int) : Int × Int × Int × (Int → Int) :=
  match f_XM_goesP mth mn mp mw mu md mo (f_XM_isTold mth mn mp mw mu md mo y1 z1) 1 with
  | (r, mth1') =>
    if r = 0 then
      (0, mth1', mo, y11)
    else
      match f_XM_tellP mth1' mn mp mw mu md 0 y11 103 z1 with
      | (mo1', y11n') =>
        if 0 < (y2 z1) then
          match f_XM_tellP mth1' mn mp mw mu md mo1' y11n' 60 (y2 z1) with
          | (mo1'50, y11n'51) =>
            f_XM_writeP_J48 mth mn mp mw mu md mo y1 y2 y3 y4 y5 y6 y7 y11 z1 mth1' mo1'50 y11n'51
        else
          f_XM_writeP_J48 mth mn mp mw mu md mo y1 y2 y3 y4 y5 y6 y7 y11 z1 mth1' mo1' y11n'
noncomputable def f_XM_writeP : Int → Int → Int → Int → Int → Int → Int → (Int → Int) → (Int → Int) → (Int → Int) → (Int → Int) → (Int → Int) → (Int → Int) → (Int → Int) → (Int → Int) → Int → Int × Int × Int × (Int → Int) := jopq g_XM_writeP
theorem f_XM_writeP_q : f_XM_writeP = g_XM_writeP := jopq_eq _
theorem f_XM_writeP_s (mth : Int) (mn : Int) (mp : Int) (mw : Int) (mu : Int) (md : Int) (mo : Int) (y1 : Int → Int) (y2 : Int → Int) (y3 : Int → Int) (y4 : Int → Int) (y5 : Int → Int) (y6 : Int → Int) (y7 : Int → Int) (y11 : Int → Int) (z1 : Int) : f_XM_writeP mth mn mp mw mu md mo y1 y2 y3 y4 y5 y6 y7 y11 z1 = (
    match f_XM_goesP mth mn mp mw mu md mo (f_XM_isTold mth mn mp mw mu md mo y1 z1) 1 with
    | (r, mth1') =>
      if r = 0 then
        (0, mth1', mo, y11)
      else
        match f_XM_tellP mth1' mn mp mw mu md 0 y11 103 z1 with
        | (mo1', y11n') =>
          if 0 < (y2 z1) then
            match f_XM_tellP mth1' mn mp mw mu md mo1' y11n' 60 (y2 z1) with
            | (mo1'50, y11n'51) =>
              f_XM_writeP_J48 mth mn mp mw mu md mo y1 y2 y3 y4 y5 y6 y7 y11 z1 mth1' mo1'50 y11n'51
          else
            f_XM_writeP_J48 mth mn mp mw mu md mo y1 y2 y3 y4 y5 y6 y7 y11 z1 mth1' mo1' y11n'
  : Int × Int × Int × (Int → Int)) := by rw [f_XM_writeP_q]; rfl
set_option maxHeartbeats 4000000 in
set_option maxRecDepth 100000 in
theorem c_XM_writeP (l : Launch) (dC : Nat → ClassId) (dI : Nat → Nat → Nat) (cA cZ : ClassId) (sz : Nat) (ma : Nat) (a0 : Nat) (a1 : Nat) (a2 : Nat) (a3 : Nat) (a4 : Nat) (a5 : Nat) (a6 : Nat) (a7 : Nat) (a8 : Nat) (a9 : Nat) (a10 : Nat) (a11 : Nat) (mth : Int) (mn : Int) (mp : Int) (mw : Int) (mu : Int) (md : Int) (mo : Int) (y1 : Int → Int) (y2 : Int → Int) (y3 : Int → Int) (y4 : Int → Int) (y5 : Int → Int) (y6 : Int → Int) (y7 : Int → Int) (y11 : Int → Int) (z1 : Int) (hy1 : ∀ i, 0 ≤ y1 i ∧ y1 i ≤ 1) (hy2 : ∀ i, 0 ≤ y2 i ∧ y2 i ≤ 30) (hy3 : ∀ i, 0 ≤ y3 i ∧ y3 i ≤ 1) (hy4 : ∀ i, 0 ≤ y4 i ∧ y4 i ≤ 100000) (hy5 : ∀ i, 0 ≤ y5 i ∧ y5 i ≤ 100000) (hy6 : ∀ i, -2147483648 ≤ y6 i ∧ y6 i ≤ 2147483647) (hy7 : ∀ i, -1 ≤ y7 i ∧ y7 i ≤ 999999) (hmo : 0 ≤ mo ∧ mo ≤ 300) (hiz1 : i32 z1) : Met l yXM_write (Cond.code yXM_write cXM_write 3 (some .int) :: TBL) ({ frames := 2, cells := 0, slots := 0, locals := 44 } : Room) (va_Pc [.ref ma, .int (jI z1)] (jBw (dC, dI) [(cA, .int), (cZ, .boolean)] [(ma, .inr (5, [.int (jI mth), .int (jI mn), .ref a0, .int (jI mp), .int (jI mw), .ref a1, .ref a2, .ref a3, .ref a4, .ref a5, .ref a6, .ref a7, .ref a8, .ref a9, .ref a10, .long (jL mu), .long (jL md), .int (jI mo), .ref a11])), (a1, .inl (cZ, 62, .inl (jA y1))), (a2, .inl (cA, 62, .inl (jA y2))), (a3, .inl (cZ, 496, .inl (jA y3))), (a4, .inl (cA, 496, .inl (jA y4))), (a5, .inl (cA, 496, .inl (jA y5))), (a6, .inl (cA, 62, .inl (jA y6))), (a7, .inl (cA, 248, .inl (jA y7))), (a11, .inl (cA, 300, .inl (jA y11)))] sz)) (va_Qi (fun (r : Int32) (u : Int × Int × Int × (Int → Int)) => r = jI u.1 ∧ u = f_XM_writeP mth mn mp mw mu md mo y1 y2 y3 y4 y5 y6 y7 y11 z1 ∧ (0 ≤ u.2.1 ∧ u.2.1 ≤ 2) ∧ (0 ≤ u.2.2.1 ∧ u.2.2.1 ≤ 300) ∧ (-1 ≤ u.1 ∧ u.1 ≤ 300)) (fun u t => jE (dC, dI) [(cA, .int), (cZ, .boolean)] [(ma, .inr (5, [.int (jI mth), .int (jI mn), .ref a0, .int (jI mp), .int (jI mw), .ref a1, .ref a2, .ref a3, .ref a4, .ref a5, .ref a6, .ref a7, .ref a8, .ref a9, .ref a10, .long (jL mu), .long (jL md), .int (jI mo), .ref a11])), (a1, .inl (cZ, 62, .inl (jA y1))), (a2, .inl (cA, 62, .inl (jA y2))), (a3, .inl (cZ, 496, .inl (jA y3))), (a4, .inl (cA, 496, .inl (jA y4))), (a5, .inl (cA, 496, .inl (jA y5))), (a6, .inl (cA, 62, .inl (jA y6))), (a7, .inl (cA, 248, .inl (jA y7))), (a11, .inl (cA, 300, .inl (jA y11)))] sz [(ma, .inr (5, [.int (jI u.2.1), .int (jI mn), .ref a0, .int (jI mp), .int (jI mw), .ref a1, .ref a2, .ref a3, .ref a4, .ref a5, .ref a6, .ref a7, .ref a8, .ref a9, .ref a10, .long (jL mu), .long (jL md), .int (jI u.2.2.1), .ref a11])), (a1, .inl (cZ, 62, .inl (jA y1))), (a2, .inl (cA, 62, .inl (jA y2))), (a3, .inl (cZ, 496, .inl (jA y3))), (a4, .inl (cA, 496, .inl (jA y4))), (a5, .inl (cA, 496, .inl (jA y5))), (a6, .inl (cA, 62, .inl (jA y6))), (a7, .inl (cA, 248, .inl (jA y7))), (a11, .inl (cA, 300, .inl (jA u.2.2.2)))] t) (va_A [(ma, .inr (5, [.int (jI mth), .int (jI mn), .ref a0, .int (jI mp), .int (jI mw), .ref a1, .ref a2, .ref a3, .ref a4, .ref a5, .ref a6, .ref a7, .ref a8, .ref a9, .ref a10, .long (jL mu), .long (jL md), .int (jI mo), .ref a11])), (a1, .inl (cZ, 62, .inl (jA y1))), (a2, .inl (cA, 62, .inl (jA y2))), (a3, .inl (cZ, 496, .inl (jA y3))), (a4, .inl (cA, 496, .inl (jA y4))), (a5, .inl (cA, 496, .inl (jA y5))), (a6, .inl (cA, 62, .inl (jA y6))), (a7, .inl (cA, 248, .inl (jA y7))), (a11, .inl (cA, 300, .inl (jA y11)))] sz)) 0 0 (va_A [(ma, .inr (5, [.int (jI mth), .int (jI mn), .ref a0, .int (jI mp), .int (jI mw), .ref a1, .ref a2, .ref a3, .ref a4, .ref a5, .ref a6, .ref a7, .ref a8, .ref a9, .ref a10, .long (jL mu), .long (jL md), .int (jI mo), .ref a11])), (a1, .inl (cZ, 62, .inl (jA y1))), (a2, .inl (cA, 62, .inl (jA y2))), (a3, .inl (cZ, 496, .inl (jA y3))), (a4, .inl (cA, 496, .inl (jA y4))), (a5, .inl (cA, 496, .inl (jA y5))), (a6, .inl (cA, 62, .inl (jA y6))), (a7, .inl (cA, 248, .inl (jA y7))), (a11, .inl (cA, 300, .inl (jA y11)))] sz) := by
  refine jMet (cc := cXM_write) (maxL := 3) (ret := some .int) (by decide) rfl ?_
  intro p e s m args below meth c s₁ R Q hR hQ B hml hv
  obtain ⟨rfl, hsz, hP, hK, hD0, hN⟩ := hv
  have hx := B.exec
  have hb := B.bytes
  have hr := B.returns
  have hts := atoms_spec (ws := Cond.code yXM_write cXM_write 3 (some .int) :: TBL) B.pre
  have hown : s.vm.findClass RXM = some m.cls := findClass_of_methodNamed B.named
  have hlocks := B.notSynchronized
  subst hsz
  obtain ⟨A, hAe⟩ : ∃ A, A = va_A [(ma, .inr (5, [.int (jI mth), .int (jI mn), .ref a0, .int (jI mp), .int (jI mw), .ref a1, .ref a2, .ref a3, .ref a4, .ref a5, .ref a6, .ref a7, .ref a8, .ref a9, .ref a10, .long (jL mu), .long (jL md), .int (jI mo), .ref a11])), (a1, .inl (cZ, 62, .inl (jA y1))), (a2, .inl (cA, 62, .inl (jA y2))), (a3, .inl (cZ, 496, .inl (jA y3))), (a4, .inl (cA, 496, .inl (jA y4))), (a5, .inl (cA, 496, .inl (jA y5))), (a6, .inl (cA, 62, .inl (jA y6))), (a7, .inl (cA, 248, .inl (jA y7))), (a11, .inl (cA, 300, .inl (jA y11)))] s.heap.size := ⟨_, rfl⟩
  have hD : va_D A [(ma, .inr (5, [.int (jI mth), .int (jI mn), .ref a0, .int (jI mp), .int (jI mw), .ref a1, .ref a2, .ref a3, .ref a4, .ref a5, .ref a6, .ref a7, .ref a8, .ref a9, .ref a10, .long (jL mu), .long (jL md), .int (jI mo), .ref a11])), (a1, .inl (cZ, 62, .inl (jA y1))), (a2, .inl (cA, 62, .inl (jA y2))), (a3, .inl (cZ, 496, .inl (jA y3))), (a4, .inl (cA, 496, .inl (jA y4))), (a5, .inl (cA, 496, .inl (jA y5))), (a6, .inl (cA, 62, .inl (jA y6))), (a7, .inl (cA, 248, .inl (jA y7))), (a11, .inl (cA, 300, .inl (jA y11)))] := by rw [hAe]; exact hD0.self
  have hA : ∀ q : Nat, s.heap.size ≤ q → A q := fun q h => by rw [hAe]; exact Or.inr h
  have hS : va_S A s.heap s.heap [] := va_S.rf
  have hP : va_P (dC, dI) vwCl [(ma, .inr (5, [.int (jI mth), .int (jI mn), .ref a0, .int (jI mp), .int (jI mw), .ref a1, .ref a2, .ref a3, .ref a4, .ref a5, .ref a6, .ref a7, .ref a8, .ref a9, .ref a10, .long (jL mu), .long (jL md), .int (jI mo), .ref a11])), (a1, .inl (cZ, 62, .inl (jA y1))), (a2, .inl (cA, 62, .inl (jA y2))), (a3, .inl (cZ, 496, .inl (jA y3))), (a4, .inl (cA, 496, .inl (jA y4))), (a5, .inl (cA, 496, .inl (jA y5))), (a6, .inl (cA, 62, .inl (jA y6))), (a7, .inl (cA, 248, .inl (jA y7))), (a11, .inl (cA, 300, .inl (jA y11)))] s.heap := hP
  have hl := lv_entry ([.ref ma, .int (jI z1)]) (n := 3) (Nat.le_of_ble_eq_true rfl)
  rw [lg_entry_eq]
  generalize (lg_sl ([.ref ma, .int (jI z1)]) ++ List.replicate (3 - (lg_sl ([.ref ma, .int (jI z1)])).length) Slot.unset).toArray = ls at hl ⊢
  have hl : lv_has ls 3 [(0, .ref ma), (1, .int (jI z1))] := hl
  refine lv_aload_n hx hb dXM_write_0 rfl (lv_at hl 0 rfl) ?_
  refine lv_aload_n hx hb dXM_write_1 rfl (lv_at hl 0 rfl) ?_
  refine lv_iload_n hx hb dXM_write_2 rfl (lv_at hl 1 rfl) ?_
  refine jrVi (rest := [.ref ma]) ⟨hx, hb, hml, hown, hts⟩ (c_XM_isTold l dC dI cA cZ ma a0 a1 a2 a3 a4 a5 a6 a7 a8 a9 a10 a11 mth mn mp mw mu md mo y1 z1 (by first | assumption | omega) (by first | assumption | omega)) (cwV 1 hts (jG_V tw_768 tw_770 ts_29 tw_6 tw_771) rfl rfl rfl (by decide +kernel) (by rw [hR]; exact ⟨Nat.le_of_ble_eq_true rfl, Nat.le_of_ble_eq_true rfl⟩)) hK hP hN [0, 1] rfl 0 5 rfl rfl rfl rfl hl.1 rfl (Nat.le_of_ble_eq_true rfl) dXM_write_3 (by rw [hR]; exact ⟨Nat.le_of_ble_eq_true rfl, Nat.le_of_ble_eq_true rfl⟩) ?_
  have f := f_XM_isTold_b mth mn mp mw mu md mo y1 z1 (by first | assumption | omega) (by first | assumption | omega)
  refine ji_iconst hx hb dXM_write_6 ?_
  refine jwVi (rest := []) (wr := [(a1, .inl (cZ, 62, .inl (jA y1))), (a2, .inl (cA, 62, .inl (jA y2))), (a3, .inl (cZ, 496, .inl (jA y3))), (a4, .inl (cA, 496, .inl (jA y4))), (a5, .inl (cA, 496, .inl (jA y5))), (a6, .inl (cA, 62, .inl (jA y6))), (a7, .inl (cA, 248, .inl (jA y7))), (a11, .inl (cA, 300, .inl (jA y11)))]) ⟨hx, hb, hml, hown, hts⟩ (c_XM_goesP l dC dI cA cZ _ ma a0 a1 a2 a3 a4 a5 a6 a7 a8 a9 a10 a11 mth mn mp mw mu md mo (f_XM_isTold mth mn mp mw mu md mo y1 z1) 1 (by first | assumption | omega) (by first | assumption | omega)) (cwV 2 hts (jG_V tw_698 tw_700 ts_14 tw_6 tw_701) rfl rfl rfl (by decide +kernel) (by rw [hR]; exact ⟨Nat.le_of_ble_eq_true rfl, Nat.le_of_ble_eq_true rfl⟩)) hK hP hD hS hA hN [0] [1, 2, 3, 4, 5, 6, 7, 8] rfl rfl (by decide) (by decide) (by decide) 0 5 rfl rfl rfl rfl hl.1 rfl (Nat.le_of_ble_eq_true rfl) dXM_write_7 (by rw [hR]; exact ⟨Nat.le_of_ble_eq_true rfl, Nat.le_of_ble_eq_true rfl⟩) (fun v u H locs hwb hP hD hS => ?_)
  obtain ⟨r, mth1'⟩ := u
  try dsimp only at hwb
  obtain ⟨er, hwb, f1⟩ := hwb
  subst er
  have f1 : (r = 0 ∧ mth1' = 1 ∧ (f_XM_isTold mth mn mp mw mu md mo y1 z1) = 0) ∨ (r = 0 ∧ mth1' = 2 ∧ (f_XM_isTold mth mn mp mw mu md mo y1 z1) = 1 ∧ (1 : Int) = 0) ∨ (r = 1 ∧ mth1' = 0 ∧ (f_XM_isTold mth mn mp mw mu md mo y1 z1) = 1 ∧ (1 : Int) = 1) := f1
  have hP : va_P (dC, dI) vwCl [(a1, .inl (cZ, 62, .inl (jA y1))), (a2, .inl (cA, 62, .inl (jA y2))), (a3, .inl (cZ, 496, .inl (jA y3))), (a4, .inl (cA, 496, .inl (jA y4))), (a5, .inl (cA, 496, .inl (jA y5))), (a6, .inl (cA, 62, .inl (jA y6))), (a7, .inl (cA, 248, .inl (jA y7))), (a11, .inl (cA, 300, .inl (jA y11))), (ma, .inr (5, [.int (jI mth1'), .int (jI mn), .ref a0, .int (jI mp), .int (jI mw), .ref a1, .ref a2, .ref a3, .ref a4, .ref a5, .ref a6, .ref a7, .ref a8, .ref a9, .ref a10, .long (jL mu), .long (jL md), .int (jI mo), .ref a11]))] H := hP
  have hD : va_D A [(a1, .inl (cZ, 62, .inl (jA y1))), (a2, .inl (cA, 62, .inl (jA y2))), (a3, .inl (cZ, 496, .inl (jA y3))), (a4, .inl (cA, 496, .inl (jA y4))), (a5, .inl (cA, 496, .inl (jA y5))), (a6, .inl (cA, 62, .inl (jA y6))), (a7, .inl (cA, 248, .inl (jA y7))), (a11, .inl (cA, 300, .inl (jA y11))), (ma, .inr (5, [.int (jI mth1'), .int (jI mn), .ref a0, .int (jI mp), .int (jI mw), .ref a1, .ref a2, .ref a3, .ref a4, .ref a5, .ref a6, .ref a7, .ref a8, .ref a9, .ref a10, .long (jL mu), .long (jL md), .int (jI mo), .ref a11]))] := hD
  refine ji_if_ne (tgt := 15) hx hb dXM_write_10 (by decide) (by omega) (fun c10_ => ?_) (fun c10_ => ?_)
  · refine lv_aload_n hx hb dXM_write_15 rfl (lv_at hl 0 rfl) ?_
    refine ji_iconst hx hb dXM_write_16 ?_
    refine va_put (D := (dC, dI)) (ci := 5) (v := .int (jI 0)) (ty := (.int)) (C := RXM) (T := TXM) (N := 19) hx hb hts (fun w h => jmem (inXM w h)) tyXM tyXM_ok nXM hown hK hP hD hS 8 rfl rfl 17 (by decide) (hts _ (jmem tw_645)) (fun _ h9 => h9) rfl (by decide +kernel) rfl rfl (Nat.le_of_ble_eq_true rfl) dXM_write_17 (fun H locs hP hD hS => ?_)
    have hP : va_P (dC, dI) vwCl [(a1, .inl (cZ, 62, .inl (jA y1))), (a2, .inl (cA, 62, .inl (jA y2))), (a3, .inl (cZ, 496, .inl (jA y3))), (a4, .inl (cA, 496, .inl (jA y4))), (a5, .inl (cA, 496, .inl (jA y5))), (a6, .inl (cA, 62, .inl (jA y6))), (a7, .inl (cA, 248, .inl (jA y7))), (a11, .inl (cA, 300, .inl (jA y11))), (ma, .inr (5, [.int (jI mth1'), .int (jI mn), .ref a0, .int (jI mp), .int (jI mw), .ref a1, .ref a2, .ref a3, .ref a4, .ref a5, .ref a6, .ref a7, .ref a8, .ref a9, .ref a10, .long (jL mu), .long (jL md), .int (jI 0), .ref a11]))] H := hP
    have hD : va_D A [(a1, .inl (cZ, 62, .inl (jA y1))), (a2, .inl (cA, 62, .inl (jA y2))), (a3, .inl (cZ, 496, .inl (jA y3))), (a4, .inl (cA, 496, .inl (jA y4))), (a5, .inl (cA, 496, .inl (jA y5))), (a6, .inl (cA, 62, .inl (jA y6))), (a7, .inl (cA, 248, .inl (jA y7))), (a11, .inl (cA, 300, .inl (jA y11))), (ma, .inr (5, [.int (jI mth1'), .int (jI mn), .ref a0, .int (jI mp), .int (jI mw), .ref a1, .ref a2, .ref a3, .ref a4, .ref a5, .ref a6, .ref a7, .ref a8, .ref a9, .ref a10, .long (jL mu), .long (jL md), .int (jI 0), .ref a11]))] := hD
    refine lv_aload_n hx hb dXM_write_20 rfl (lv_at hl 0 rfl) ?_
    refine ji_bipush hx hb dXM_write_21 (by decide) ?_
    refine lv_iload_n hx hb dXM_write_23 rfl (lv_at hl 1 rfl) ?_
    refine jwVv (rest := []) (wr := [(a1, .inl (cZ, 62, .inl (jA y1))), (a2, .inl (cA, 62, .inl (jA y2))), (a3, .inl (cZ, 496, .inl (jA y3))), (a4, .inl (cA, 496, .inl (jA y4))), (a5, .inl (cA, 496, .inl (jA y5))), (a6, .inl (cA, 62, .inl (jA y6))), (a7, .inl (cA, 248, .inl (jA y7)))]) ⟨hx, hb, hml, hown, hts⟩ (c_XM_tellP l dC dI cA cZ _ ma a0 a1 a2 a3 a4 a5 a6 a7 a8 a9 a10 a11 mth1' mn mp mw mu md 0 y11 103 z1 (by first | assumption | omega) (by first | assumption | omega)) (cwV 2 hts (jG_V tw_850 tw_852 ts_38 tw_6 tw_853) rfl rfl rfl (by decide +kernel) (by rw [hR]; exact ⟨Nat.le_of_ble_eq_true rfl, Nat.le_of_ble_eq_true rfl⟩)) hK hP hD hS hA hN [8, 7] [0, 1, 2, 3, 4, 5, 6] rfl rfl (by decide) (by decide) (by decide) 8 5 rfl rfl rfl rfl hl.1 rfl (Nat.le_of_ble_eq_true rfl) dXM_write_24 (by rw [hR]; exact ⟨Nat.le_of_ble_eq_true rfl, Nat.le_of_ble_eq_true rfl⟩) (fun u2 H locs hwb3 hP hD hS => ?_)
    obtain ⟨mo1', y11n'⟩ := u2
    try dsimp only at hwb3
    obtain ⟨hwb3, f4⟩ := hwb3
    have f4 : (0 : Int) ≤ mo1' ∧ mo1' ≤ (0 : Int) + 7 := f4
    have hP : va_P (dC, dI) vwCl [(a1, .inl (cZ, 62, .inl (jA y1))), (a2, .inl (cA, 62, .inl (jA y2))), (a3, .inl (cZ, 496, .inl (jA y3))), (a4, .inl (cA, 496, .inl (jA y4))), (a5, .inl (cA, 496, .inl (jA y5))), (a6, .inl (cA, 62, .inl (jA y6))), (a7, .inl (cA, 248, .inl (jA y7))), (ma, .inr (5, [.int (jI mth1'), .int (jI mn), .ref a0, .int (jI mp), .int (jI mw), .ref a1, .ref a2, .ref a3, .ref a4, .ref a5, .ref a6, .ref a7, .ref a8, .ref a9, .ref a10, .long (jL mu), .long (jL md), .int (jI mo1'), .ref a11])), (a11, .inl (cA, 300, .inl (jA y11n')))] H := hP
    have hD : va_D A [(a1, .inl (cZ, 62, .inl (jA y1))), (a2, .inl (cA, 62, .inl (jA y2))), (a3, .inl (cZ, 496, .inl (jA y3))), (a4, .inl (cA, 496, .inl (jA y4))), (a5, .inl (cA, 496, .inl (jA y5))), (a6, .inl (cA, 62, .inl (jA y6))), (a7, .inl (cA, 248, .inl (jA y7))), (ma, .inr (5, [.int (jI mth1'), .int (jI mn), .ref a0, .int (jI mp), .int (jI mw), .ref a1, .ref a2, .ref a3, .ref a4, .ref a5, .ref a6, .ref a7, .ref a8, .ref a9, .ref a10, .long (jL mu), .long (jL md), .int (jI mo1'), .ref a11])), (a11, .inl (cA, 300, .inl (jA y11n')))] := hD
    have join48 : ∀ (m1 : Int) (v1 : Int → Int) , f_XM_writeP_J48 mth mn mp mw mu md mo y1 y2 y3 y4 y5 y6 y7 y11 z1 mth1' m1 v1 = f_XM_writeP mth mn mp mw mu md mo y1 y2 y3 y4 y5 y6 y7 y11 z1 → (0 ≤ m1 ∧ m1 ≤ 14) → ∀ (H : Heap) (locs : List Loc), va_P (dC, dI) vwCl [(a1, .inl (cZ, 62, .inl (jA y1))), (a2, .inl (cA, 62, .inl (jA y2))), (a3, .inl (cZ, 496, .inl (jA y3))), (a4, .inl (cA, 496, .inl (jA y4))), (a5, .inl (cA, 496, .inl (jA y5))), (a6, .inl (cA, 62, .inl (jA y6))), (a7, .inl (cA, 248, .inl (jA y7))), (ma, .inr (5, [.int (jI mth1'), .int (jI mn), .ref a0, .int (jI mp), .int (jI mw), .ref a1, .ref a2, .ref a3, .ref a4, .ref a5, .ref a6, .ref a7, .ref a8, .ref a9, .ref a10, .long (jL mu), .long (jL md), .int (jI m1), .ref a11])), (a11, .inl (cA, 300, .inl (jA v1)))] H → va_D A [(a1, .inl (cZ, 62, .inl (jA y1))), (a2, .inl (cA, 62, .inl (jA y2))), (a3, .inl (cZ, 496, .inl (jA y3))), (a4, .inl (cA, 496, .inl (jA y4))), (a5, .inl (cA, 496, .inl (jA y5))), (a6, .inl (cA, 62, .inl (jA y6))), (a7, .inl (cA, 248, .inl (jA y7))), (ma, .inr (5, [.int (jI mth1'), .int (jI mn), .ref a0, .int (jI mp), .int (jI mw), .ref a1, .ref a2, .ref a3, .ref a4, .ref a5, .ref a6, .ref a7, .ref a8, .ref a9, .ref a10, .long (jL mu), .long (jL md), .int (jI m1), .ref a11])), (a11, .inl (cA, 300, .inl (jA v1)))] → va_S A s.heap H locs → ∀ ls : Array Slot, lv_has ls 3 [(0, .ref ma), (1, .int (jI z1))] → W p l e R s m ([.ref ma, .int (jI z1)] : List Value).toArray below meth c H locs 0 0 Q (F0 m 48 ls []) := by
      intro m1 v1 hF hm1 H locs hP hD hS ls hl
      refine ji_iconst hx hb dXM_write_48 ?_
      refine lv_istore_n (lv' := [(2, .int (jI 0)), (0, .ref ma), (1, .int (jI z1))]) hx hb dXM_write_49 rfl hl (by decide) rfl (fun ls hl => ?_)
      have loop50 : ∀ (n9 : Nat) (k : Int) (m2 : Int) (v2 : Int → Int) , 8 - k < (n9 : Int) → f_XM_writeP_L50 mth mn mp mw mu md mo y1 y2 y3 y4 y5 y6 y7 y11 z1 mth1' n9 k m2 v2 = f_XM_writeP mth mn mp mw mu md mo y1 y2 y3 y4 y5 y6 y7 y11 z1 → (0 ≤ k ∧ k ≤ 8) → (0 ≤ m2 ∧ m2 ≤ 14 + 14 * k) → ∀ (H : Heap) (locs : List Loc), va_P (dC, dI) vwCl [(a1, .inl (cZ, 62, .inl (jA y1))), (a2, .inl (cA, 62, .inl (jA y2))), (a3, .inl (cZ, 496, .inl (jA y3))), (a4, .inl (cA, 496, .inl (jA y4))), (a5, .inl (cA, 496, .inl (jA y5))), (a6, .inl (cA, 62, .inl (jA y6))), (a7, .inl (cA, 248, .inl (jA y7))), (ma, .inr (5, [.int (jI mth1'), .int (jI mn), .ref a0, .int (jI mp), .int (jI mw), .ref a1, .ref a2, .ref a3, .ref a4, .ref a5, .ref a6, .ref a7, .ref a8, .ref a9, .ref a10, .long (jL mu), .long (jL md), .int (jI m2), .ref a11])), (a11, .inl (cA, 300, .inl (jA v2)))] H → va_D A [(a1, .inl (cZ, 62, .inl (jA y1))), (a2, .inl (cA, 62, .inl (jA y2))), (a3, .inl (cZ, 496, .inl (jA y3))), (a4, .inl (cA, 496, .inl (jA y4))), (a5, .inl (cA, 496, .inl (jA y5))), (a6, .inl (cA, 62, .inl (jA y6))), (a7, .inl (cA, 248, .inl (jA y7))), (ma, .inr (5, [.int (jI mth1'), .int (jI mn), .ref a0, .int (jI mp), .int (jI mw), .ref a1, .ref a2, .ref a3, .ref a4, .ref a5, .ref a6, .ref a7, .ref a8, .ref a9, .ref a10, .long (jL mu), .long (jL md), .int (jI m2), .ref a11])), (a11, .inl (cA, 300, .inl (jA v2)))] → va_S A s.heap H locs → ∀ ls : Array Slot, lv_has ls 3 [(2, .int (jI k)), (0, .ref ma), (1, .int (jI z1))] → W p l e R s m ([.ref ma, .int (jI z1)] : List Value).toArray below meth c H locs 0 0 Q (F0 m 50 ls []) := by
        intro n9
        induction n9 with
        | zero =>
          intro k m2 v2 hm hF hk hm2
          exact absurd hm (by omega)
        | succ n9 ih50 =>
          intro k m2 v2 hm hF hk hm2 H locs hP hD hS ls hl
          refine lv_iload_n hx hb dXM_write_50 rfl (lv_at hl 0 rfl) ?_
          refine ji_bipush hx hb dXM_write_51 (by decide) ?_
          refine ji_icmp_ge (tgt := 115) hx hb dXM_write_53 (by decide) (by omega) (by omega) (fun c53_ => ?_) (fun c53_ => ?_)
          · have join130 : ∀ (m4 : Int) (v4 : Int → Int) , f_XM_writeP_J130 mth mn mp mw mu md mo y1 y2 y3 y4 y5 y6 y7 y11 z1 mth1' m4 v4 = f_XM_writeP mth mn mp mw mu md mo y1 y2 y3 y4 y5 y6 y7 y11 z1 → (0 ≤ m4 ∧ m4 ≤ 127) → ∀ (H : Heap) (locs : List Loc), va_P (dC, dI) vwCl [(a1, .inl (cZ, 62, .inl (jA y1))), (a2, .inl (cA, 62, .inl (jA y2))), (a3, .inl (cZ, 496, .inl (jA y3))), (a4, .inl (cA, 496, .inl (jA y4))), (a5, .inl (cA, 496, .inl (jA y5))), (a6, .inl (cA, 62, .inl (jA y6))), (a7, .inl (cA, 248, .inl (jA y7))), (ma, .inr (5, [.int (jI mth1'), .int (jI mn), .ref a0, .int (jI mp), .int (jI mw), .ref a1, .ref a2, .ref a3, .ref a4, .ref a5, .ref a6, .ref a7, .ref a8, .ref a9, .ref a10, .long (jL mu), .long (jL md), .int (jI m4), .ref a11])), (a11, .inl (cA, 300, .inl (jA v4)))] H → va_D A [(a1, .inl (cZ, 62, .inl (jA y1))), (a2, .inl (cA, 62, .inl (jA y2))), (a3, .inl (cZ, 496, .inl (jA y3))), (a4, .inl (cA, 496, .inl (jA y4))), (a5, .inl (cA, 496, .inl (jA y5))), (a6, .inl (cA, 62, .inl (jA y6))), (a7, .inl (cA, 248, .inl (jA y7))), (ma, .inr (5, [.int (jI mth1'), .int (jI mn), .ref a0, .int (jI mp), .int (jI mw), .ref a1, .ref a2, .ref a3, .ref a4, .ref a5, .ref a6, .ref a7, .ref a8, .ref a9, .ref a10, .long (jL mu), .long (jL md), .int (jI m4), .ref a11])), (a11, .inl (cA, 300, .inl (jA v4)))] → va_S A s.heap H locs → ∀ ls : Array Slot, lv_has ls 3 [(2, .int (jI k)), (0, .ref ma), (1, .int (jI z1))] → W p l e R s m ([.ref ma, .int (jI z1)] : List Value).toArray below meth c H locs 0 0 Q (F0 m 130 ls []) := by
              intro m4 v4 hF hm4 H locs hP hD hS ls hl
              refine ji_iconst hx hb dXM_write_130 ?_
              refine lv_istore_n (lv' := [(2, .int (jI 0)), (0, .ref ma), (1, .int (jI z1))]) hx hb dXM_write_131 rfl hl (by decide) rfl (fun ls hl => ?_)
              have loop132 : ∀ (n9 : Nat) (k2 : Int) (m5 : Int) (v5 : Int → Int) , 8 - k2 < (n9 : Int) → f_XM_writeP_L132 mth mn mp mw mu md mo y1 y2 y3 y4 y5 y6 y7 y11 z1 mth1' n9 k2 m5 v5 = f_XM_writeP mth mn mp mw mu md mo y1 y2 y3 y4 y5 y6 y7 y11 z1 → (0 ≤ k2 ∧ k2 ≤ 8) → (0 ≤ m5 ∧ m5 ≤ 127 + k2) → ∀ (H : Heap) (locs : List Loc), va_P (dC, dI) vwCl [(a1, .inl (cZ, 62, .inl (jA y1))), (a2, .inl (cA, 62, .inl (jA y2))), (a3, .inl (cZ, 496, .inl (jA y3))), (a4, .inl (cA, 496, .inl (jA y4))), (a5, .inl (cA, 496, .inl (jA y5))), (a6, .inl (cA, 62, .inl (jA y6))), (a7, .inl (cA, 248, .inl (jA y7))), (ma, .inr (5, [.int (jI mth1'), .int (jI mn), .ref a0, .int (jI mp), .int (jI mw), .ref a1, .ref a2, .ref a3, .ref a4, .ref a5, .ref a6, .ref a7, .ref a8, .ref a9, .ref a10, .long (jL mu), .long (jL md), .int (jI m5), .ref a11])), (a11, .inl (cA, 300, .inl (jA v5)))] H → va_D A [(a1, .inl (cZ, 62, .inl (jA y1))), (a2, .inl (cA, 62, .inl (jA y2))), (a3, .inl (cZ, 496, .inl (jA y3))), (a4, .inl (cA, 496, .inl (jA y4))), (a5, .inl (cA, 496, .inl (jA y5))), (a6, .inl (cA, 62, .inl (jA y6))), (a7, .inl (cA, 248, .inl (jA y7))), (ma, .inr (5, [.int (jI mth1'), .int (jI mn), .ref a0, .int (jI mp), .int (jI mw), .ref a1, .ref a2, .ref a3, .ref a4, .ref a5, .ref a6, .ref a7, .ref a8, .ref a9, .ref a10, .long (jL mu), .long (jL md), .int (jI m5), .ref a11])), (a11, .inl (cA, 300, .inl (jA v5)))] → va_S A s.heap H locs → ∀ ls : Array Slot, lv_has ls 3 [(2, .int (jI k2)), (0, .ref ma), (1, .int (jI z1))] → W p l e R s m ([.ref ma, .int (jI z1)] : List Value).toArray below meth c H locs 0 0 Q (F0 m 132 ls []) := by
                intro n9
                induction n9 with
                | zero =>
                  intro k2 m5 v5 hm hF hk2 hm5
                  exact absurd hm (by omega)
                | succ n9 ih132 =>
                  intro k2 m5 v5 hm hF hk2 hm5 H locs hP hD hS ls hl
                  refine lv_iload_n hx hb dXM_write_132 rfl (lv_at hl 0 rfl) ?_
                  refine ji_bipush hx hb dXM_write_133 (by decide) ?_
                  refine ji_icmp_ge (tgt := 166) hx hb dXM_write_135 (by decide) (by omega) (by omega) (fun c135_ => ?_) (fun c135_ => ?_)
                  · refine ji_iconst hx hb dXM_write_166 ?_
                    refine lv_istore_n (lv' := [(2, .int (jI 0)), (0, .ref ma), (1, .int (jI z1))]) hx hb dXM_write_167 rfl hl (by decide) rfl (fun ls hl => ?_)
                    have loop168 : ∀ (n9 : Nat) (k3 : Int) (m7 : Int) (v7 : Int → Int) , 4 - k3 < (n9 : Int) → f_XM_writeP_L168 mth mn mp mw mu md mo y1 y2 y3 y4 y5 y6 y7 y11 z1 mth1' n9 k3 m7 v7 = f_XM_writeP mth mn mp mw mu md mo y1 y2 y3 y4 y5 y6 y7 y11 z1 → (0 ≤ k3 ∧ k3 ≤ 4) → (0 ≤ m7 ∧ m7 ≤ 135 + 14 * k3) → ∀ (H : Heap) (locs : List Loc), va_P (dC, dI) vwCl [(a1, .inl (cZ, 62, .inl (jA y1))), (a2, .inl (cA, 62, .inl (jA y2))), (a3, .inl (cZ, 496, .inl (jA y3))), (a4, .inl (cA, 496, .inl (jA y4))), (a5, .inl (cA, 496, .inl (jA y5))), (a6, .inl (cA, 62, .inl (jA y6))), (a7, .inl (cA, 248, .inl (jA y7))), (ma, .inr (5, [.int (jI mth1'), .int (jI mn), .ref a0, .int (jI mp), .int (jI mw), .ref a1, .ref a2, .ref a3, .ref a4, .ref a5, .ref a6, .ref a7, .ref a8, .ref a9, .ref a10, .long (jL mu), .long (jL md), .int (jI m7), .ref a11])), (a11, .inl (cA, 300, .inl (jA v7)))] H → va_D A [(a1, .inl (cZ, 62, .inl (jA y1))), (a2, .inl (cA, 62, .inl (jA y2))), (a3, .inl (cZ, 496, .inl (jA y3))), (a4, .inl (cA, 496, .inl (jA y4))), (a5, .inl (cA, 496, .inl (jA y5))), (a6, .inl (cA, 62, .inl (jA y6))), (a7, .inl (cA, 248, .inl (jA y7))), (ma, .inr (5, [.int (jI mth1'), .int (jI mn), .ref a0, .int (jI mp), .int (jI mw), .ref a1, .ref a2, .ref a3, .ref a4, .ref a5, .ref a6, .ref a7, .ref a8, .ref a9, .ref a10, .long (jL mu), .long (jL md), .int (jI m7), .ref a11])), (a11, .inl (cA, 300, .inl (jA v7)))] → va_S A s.heap H locs → ∀ ls : Array Slot, lv_has ls 3 [(2, .int (jI k3)), (0, .ref ma), (1, .int (jI z1))] → W p l e R s m ([.ref ma, .int (jI z1)] : List Value).toArray below meth c H locs 0 0 Q (F0 m 168 ls []) := by
                      intro n9
                      induction n9 with
                      | zero =>
                        intro k3 m7 v7 hm hF hk3 hm7
                        exact absurd hm (by omega)
                      | succ n9 ih168 =>
                        intro k3 m7 v7 hm hF hk3 hm7 H locs hP hD hS ls hl
                        refine lv_iload_n hx hb dXM_write_168 rfl (lv_at hl 0 rfl) ?_
                        refine ji_iconst hx hb dXM_write_169 ?_
                        refine ji_icmp_ge (tgt := 218) hx hb dXM_write_170 (by decide) (by omega) (by omega) (fun c170_ => ?_) (fun c170_ => ?_)
                        · refine lv_aload_n hx hb dXM_write_218 rfl (lv_at hl 1 rfl) ?_
                          refine ji_bipush hx hb dXM_write_219 (by decide) ?_
                          refine jwVv (rest := []) (wr := [(a1, .inl (cZ, 62, .inl (jA y1))), (a2, .inl (cA, 62, .inl (jA y2))), (a3, .inl (cZ, 496, .inl (jA y3))), (a4, .inl (cA, 496, .inl (jA y4))), (a5, .inl (cA, 496, .inl (jA y5))), (a6, .inl (cA, 62, .inl (jA y6))), (a7, .inl (cA, 248, .inl (jA y7)))]) ⟨hx, hb, hml, hown, hts⟩ (c_XM_putP l dC dI cA cZ _ ma a0 a1 a2 a3 a4 a5 a6 a7 a8 a9 a10 a11 mth1' mn mp mw mu md m7 v7 59 (by first | assumption | omega)) (cwV 1 hts (jG_V tw_854 tw_856 ts_39 tw_6 tw_857) rfl rfl rfl (by decide +kernel) (by rw [hR]; exact ⟨Nat.le_of_ble_eq_true rfl, Nat.le_of_ble_eq_true rfl⟩)) hK hP hD hS hA hN [7, 8] [0, 1, 2, 3, 4, 5, 6] rfl rfl (by decide) (by decide) (by decide) 7 5 rfl rfl rfl rfl hl.1 rfl (Nat.le_of_ble_eq_true rfl) dXM_write_221 (by rw [hR]; exact ⟨Nat.le_of_ble_eq_true rfl, Nat.le_of_ble_eq_true rfl⟩) (fun u7 H locs hwb8 hP hD hS => ?_)
                          obtain ⟨mo1'5, y11n'6⟩ := u7
                          try dsimp only at hwb8
                          obtain ⟨hwb8, f9⟩ := hwb8
                          have f9 : mo1'5 = m7 + 1 := f9
                          have hP : va_P (dC, dI) vwCl [(a1, .inl (cZ, 62, .inl (jA y1))), (a2, .inl (cA, 62, .inl (jA y2))), (a3, .inl (cZ, 496, .inl (jA y3))), (a4, .inl (cA, 496, .inl (jA y4))), (a5, .inl (cA, 496, .inl (jA y5))), (a6, .inl (cA, 62, .inl (jA y6))), (a7, .inl (cA, 248, .inl (jA y7))), (ma, .inr (5, [.int (jI mth1'), .int (jI mn), .ref a0, .int (jI mp), .int (jI mw), .ref a1, .ref a2, .ref a3, .ref a4, .ref a5, .ref a6, .ref a7, .ref a8, .ref a9, .ref a10, .long (jL mu), .long (jL md), .int (jI mo1'5), .ref a11])), (a11, .inl (cA, 300, .inl (jA y11n'6)))] H := hP
                          have hD : va_D A [(a1, .inl (cZ, 62, .inl (jA y1))), (a2, .inl (cA, 62, .inl (jA y2))), (a3, .inl (cZ, 496, .inl (jA y3))), (a4, .inl (cA, 496, .inl (jA y4))), (a5, .inl (cA, 496, .inl (jA y5))), (a6, .inl (cA, 62, .inl (jA y6))), (a7, .inl (cA, 248, .inl (jA y7))), (ma, .inr (5, [.int (jI mth1'), .int (jI mn), .ref a0, .int (jI mp), .int (jI mw), .ref a1, .ref a2, .ref a3, .ref a4, .ref a5, .ref a6, .ref a7, .ref a8, .ref a9, .ref a10, .long (jL mu), .long (jL md), .int (jI mo1'5), .ref a11])), (a11, .inl (cA, 300, .inl (jA y11n'6)))] := hD
                          refine lv_aload_n hx hb dXM_write_224 rfl (lv_at hl 1 rfl) ?_
                          refine va_get (D := (dC, dI)) (ci := 5) (v := .int (jI mo1'5)) (C := RXM) (T := TXM) (N := 19) hx hb hts (fun w h => jmem (inXM w h)) hown hK hP 7 rfl rfl 17 (by decide) (hts _ (jmem tw_645)) (fun _ h9 => h9) rfl dXM_write_225 ?_
                          have hP9 := hP.sub (ws' := [(ma, .inr (5, [.int (jI mth1'), .int (jI mn), .ref a0, .int (jI mp), .int (jI mw), .ref a1, .ref a2, .ref a3, .ref a4, .ref a5, .ref a6, .ref a7, .ref a8, .ref a9, .ref a10, .long (jL mu), .long (jL md), .int (jI mo1'5), .ref a11])), (a1, .inl (cZ, 62, .inl (jA y1))), (a2, .inl (cA, 62, .inl (jA y2))), (a3, .inl (cZ, 496, .inl (jA y3))), (a4, .inl (cA, 496, .inl (jA y4))), (a5, .inl (cA, 496, .inl (jA y5))), (a6, .inl (cA, 62, .inl (jA y6))), (a7, .inl (cA, 248, .inl (jA y7))), (a11, .inl (cA, 300, .inl (jA y11n'6)))]) [7, 0, 1, 2, 3, 4, 5, 6, 8] rfl
                          have hD9 := hD.sub (ws' := [(ma, .inr (5, [.int (jI mth1'), .int (jI mn), .ref a0, .int (jI mp), .int (jI mw), .ref a1, .ref a2, .ref a3, .ref a4, .ref a5, .ref a6, .ref a7, .ref a8, .ref a9, .ref a10, .long (jL mu), .long (jL md), .int (jI mo1'5), .ref a11])), (a1, .inl (cZ, 62, .inl (jA y1))), (a2, .inl (cA, 62, .inl (jA y2))), (a3, .inl (cZ, 496, .inl (jA y3))), (a4, .inl (cA, 496, .inl (jA y4))), (a5, .inl (cA, 496, .inl (jA y5))), (a6, .inl (cA, 62, .inl (jA y6))), (a7, .inl (cA, 248, .inl (jA y7))), (a11, .inl (cA, 300, .inl (jA y11n'6)))]) [7, 0, 1, 2, 3, 4, 5, 6, 8] (by decide) rfl
                          subst hAe
                          subst hQ
                          exact W.iret (v := jI mo1'5) hx hb hr (fun t ht hW => ⟨⟨_, (mo1'5, mth1', mo1'5, y11n'6), rfl, ⟨rfl, Eq.trans (by rw [f_XM_writeP_L168_s]; rw [if_neg (Int.not_lt.mpr c170_)]; rw [← hwb8]; try dsimp only; try rfl) hF, show 0 ≤ mth1' ∧ mth1' ≤ 2 from by first | assumption | omega | exact jset_b (by assumption) (by omega) | exact jset_l (by assumption) (by omega) | exact jset_l (fun _ _ => rfl) (by omega) | exact fun _ _ => rfl | exact l_trans (by assumption) (by assumption), show 0 ≤ mo1'5 ∧ mo1'5 ≤ 300 from by first | assumption | omega | exact jset_b (by assumption) (by omega) | exact jset_l (by assumption) (by omega) | exact jset_l (fun _ _ => rfl) (by omega) | exact fun _ _ => rfl | exact l_trans (by assumption) (by assumption), show -1 ≤ mo1'5 ∧ mo1'5 ≤ 300 from by first | assumption | omega | exact jset_b (by assumption) (by omega) | exact jset_l (by assumption) (by omega) | exact jset_l (fun _ _ => rfl) (by omega) | exact fun _ _ => rfl | exact l_trans (by assumption) (by assumption)⟩, ⟨by rw [ht]; exact hP9, va_K.moved hW.alike hK, hD9⟩⟩, hS.F ht⟩) hS.2.2 dXM_write_228
                        · refine lv_aload_n hx hb dXM_write_173 rfl (lv_at hl 1 rfl) ?_
                          refine va_get (D := (dC, dI)) (ci := 5) (v := .ref a7) (C := RXM) (T := TXM) (N := 19) hx hb hts (fun w h => jmem (inXM w h)) hown hK hP 7 rfl rfl 11 (by decide) (hts _ (jmem tw_639)) (fun _ h9 => h9) rfl dXM_write_174 ?_
                          refine ji_iconst hx hb dXM_write_177 ?_
                          refine lv_iload_n hx hb dXM_write_178 rfl (lv_at hl 2 rfl) ?_
                          refine ji_imul hx hb dXM_write_179 ?_
                          refine lv_iload_n hx hb dXM_write_180 rfl (lv_at hl 0 rfl) ?_
                          refine ji_iadd hx hb dXM_write_181 ?_
                          refine ji_iald hx hb hK hP 6 0 rfl rfl ⟨by omega, by omega⟩ (by decide) dXM_write_182 ?_
                          have rb := hy7 ((4 * z1) + k3)
                          refine ji_if_ge (tgt := 189) hx hb dXM_write_183 (by decide) (by omega) (fun c183_ => ?_) (fun c183_ => ?_)
                          · refine lv_aload_n hx hb dXM_write_189 rfl (lv_at hl 1 rfl) ?_
                            refine ji_bipush hx hb dXM_write_190 (by decide) ?_
                            refine lv_iload_n hx hb dXM_write_192 rfl (lv_at hl 0 rfl) ?_
                            refine jwVv (rest := []) (wr := [(a1, .inl (cZ, 62, .inl (jA y1))), (a2, .inl (cA, 62, .inl (jA y2))), (a3, .inl (cZ, 496, .inl (jA y3))), (a4, .inl (cA, 496, .inl (jA y4))), (a5, .inl (cA, 496, .inl (jA y5))), (a6, .inl (cA, 62, .inl (jA y6))), (a7, .inl (cA, 248, .inl (jA y7)))]) ⟨hx, hb, hml, hown, hts⟩ (c_XM_tellP l dC dI cA cZ _ ma a0 a1 a2 a3 a4 a5 a6 a7 a8 a9 a10 a11 mth1' mn mp mw mu md m7 v7 113 k3 (by first | assumption | omega) (by first | assumption | omega)) (cwV 2 hts (jG_V tw_850 tw_852 ts_38 tw_6 tw_853) rfl rfl rfl (by decide +kernel) (by rw [hR]; exact ⟨Nat.le_of_ble_eq_true rfl, Nat.le_of_ble_eq_true rfl⟩)) hK hP hD hS hA hN [7, 8] [0, 1, 2, 3, 4, 5, 6] rfl rfl (by decide) (by decide) (by decide) 7 5 rfl rfl rfl rfl hl.1 rfl (Nat.le_of_ble_eq_true rfl) dXM_write_193 (by rw [hR]; exact ⟨Nat.le_of_ble_eq_true rfl, Nat.le_of_ble_eq_true rfl⟩) (fun u12 H locs hwb13 hP hD hS => ?_)
                            obtain ⟨mo1'10, y11n'11⟩ := u12
                            try dsimp only at hwb13
                            obtain ⟨hwb13, f14⟩ := hwb13
                            have f14 : m7 ≤ mo1'10 ∧ mo1'10 ≤ m7 + 7 := f14
                            have hP : va_P (dC, dI) vwCl [(a1, .inl (cZ, 62, .inl (jA y1))), (a2, .inl (cA, 62, .inl (jA y2))), (a3, .inl (cZ, 496, .inl (jA y3))), (a4, .inl (cA, 496, .inl (jA y4))), (a5, .inl (cA, 496, .inl (jA y5))), (a6, .inl (cA, 62, .inl (jA y6))), (a7, .inl (cA, 248, .inl (jA y7))), (ma, .inr (5, [.int (jI mth1'), .int (jI mn), .ref a0, .int (jI mp), .int (jI mw), .ref a1, .ref a2, .ref a3, .ref a4, .ref a5, .ref a6, .ref a7, .ref a8, .ref a9, .ref a10, .long (jL mu), .long (jL md), .int (jI mo1'10), .ref a11])), (a11, .inl (cA, 300, .inl (jA y11n'11)))] H := hP
                            have hD : va_D A [(a1, .inl (cZ, 62, .inl (jA y1))), (a2, .inl (cA, 62, .inl (jA y2))), (a3, .inl (cZ, 496, .inl (jA y3))), (a4, .inl (cA, 496, .inl (jA y4))), (a5, .inl (cA, 496, .inl (jA y5))), (a6, .inl (cA, 62, .inl (jA y6))), (a7, .inl (cA, 248, .inl (jA y7))), (ma, .inr (5, [.int (jI mth1'), .int (jI mn), .ref a0, .int (jI mp), .int (jI mw), .ref a1, .ref a2, .ref a3, .ref a4, .ref a5, .ref a6, .ref a7, .ref a8, .ref a9, .ref a10, .long (jL mu), .long (jL md), .int (jI mo1'10), .ref a11])), (a11, .inl (cA, 300, .inl (jA y11n'11)))] := hD
                            refine lv_aload_n hx hb dXM_write_196 rfl (lv_at hl 1 rfl) ?_
                            refine ji_bipush hx hb dXM_write_197 (by decide) ?_
                            refine lv_aload_n hx hb dXM_write_199 rfl (lv_at hl 1 rfl) ?_
                            refine va_get (D := (dC, dI)) (ci := 5) (v := .ref a7) (C := RXM) (T := TXM) (N := 19) hx hb hts (fun w h => jmem (inXM w h)) hown hK hP 7 rfl rfl 11 (by decide) (hts _ (jmem tw_639)) (fun _ h9 => h9) rfl dXM_write_200 ?_
                            refine ji_iconst hx hb dXM_write_203 ?_
                            refine lv_iload_n hx hb dXM_write_204 rfl (lv_at hl 2 rfl) ?_
                            refine ji_imul hx hb dXM_write_205 ?_
                            refine lv_iload_n hx hb dXM_write_206 rfl (lv_at hl 0 rfl) ?_
                            refine ji_iadd hx hb dXM_write_207 ?_
                            refine ji_iald hx hb hK hP 6 0 rfl rfl ⟨by omega, by omega⟩ (by decide) dXM_write_208 ?_
                            have rb15 := hy7 ((4 * z1) + k3)
                            refine jwVv (rest := []) (wr := [(a1, .inl (cZ, 62, .inl (jA y1))), (a2, .inl (cA, 62, .inl (jA y2))), (a3, .inl (cZ, 496, .inl (jA y3))), (a4, .inl (cA, 496, .inl (jA y4))), (a5, .inl (cA, 496, .inl (jA y5))), (a6, .inl (cA, 62, .inl (jA y6))), (a7, .inl (cA, 248, .inl (jA y7)))]) ⟨hx, hb, hml, hown, hts⟩ (c_XM_tellP l dC dI cA cZ _ ma a0 a1 a2 a3 a4 a5 a6 a7 a8 a9 a10 a11 mth1' mn mp mw mu md mo1'10 y11n'11 60 (y7 ((4 * z1) + k3)) (by first | assumption | omega) (by first | assumption | omega)) (cwV 2 hts (jG_V tw_850 tw_852 ts_38 tw_6 tw_853) rfl rfl rfl (by decide +kernel) (by rw [hR]; exact ⟨Nat.le_of_ble_eq_true rfl, Nat.le_of_ble_eq_true rfl⟩)) hK hP hD hS hA hN [7, 8] [0, 1, 2, 3, 4, 5, 6] rfl rfl (by decide) (by decide) (by decide) 7 5 rfl rfl rfl rfl hl.1 rfl (Nat.le_of_ble_eq_true rfl) dXM_write_209 (by rw [hR]; exact ⟨Nat.le_of_ble_eq_true rfl, Nat.le_of_ble_eq_true rfl⟩) (fun u18 H locs hwb19 hP hD hS => ?_)
                            obtain ⟨mo1'16, y11n'17⟩ := u18
                            try dsimp only at hwb19
                            obtain ⟨hwb19, f20⟩ := hwb19
                            have f20 : mo1'10 ≤ mo1'16 ∧ mo1'16 ≤ mo1'10 + 7 := f20
                            have hP : va_P (dC, dI) vwCl [(a1, .inl (cZ, 62, .inl (jA y1))), (a2, .inl (cA, 62, .inl (jA y2))), (a3, .inl (cZ, 496, .inl (jA y3))), (a4, .inl (cA, 496, .inl (jA y4))), (a5, .inl (cA, 496, .inl (jA y5))), (a6, .inl (cA, 62, .inl (jA y6))), (a7, .inl (cA, 248, .inl (jA y7))), (ma, .inr (5, [.int (jI mth1'), .int (jI mn), .ref a0, .int (jI mp), .int (jI mw), .ref a1, .ref a2, .ref a3, .ref a4, .ref a5, .ref a6, .ref a7, .ref a8, .ref a9, .ref a10, .long (jL mu), .long (jL md), .int (jI mo1'16), .ref a11])), (a11, .inl (cA, 300, .inl (jA y11n'17)))] H := hP
                            have hD : va_D A [(a1, .inl (cZ, 62, .inl (jA y1))), (a2, .inl (cA, 62, .inl (jA y2))), (a3, .inl (cZ, 496, .inl (jA y3))), (a4, .inl (cA, 496, .inl (jA y4))), (a5, .inl (cA, 496, .inl (jA y5))), (a6, .inl (cA, 62, .inl (jA y6))), (a7, .inl (cA, 248, .inl (jA y7))), (ma, .inr (5, [.int (jI mth1'), .int (jI mn), .ref a0, .int (jI mp), .int (jI mw), .ref a1, .ref a2, .ref a3, .ref a4, .ref a5, .ref a6, .ref a7, .ref a8, .ref a9, .ref a10, .long (jL mu), .long (jL md), .int (jI mo1'16), .ref a11])), (a11, .inl (cA, 300, .inl (jA y11n'17)))] := hD
                            refine ji_iinc (k := 0) (lv' := [(2, .int (jI (k3 + 1))), (0, .ref ma), (1, .int (jI z1))]) hx hb dXM_write_212 hl rfl (by decide) rfl (fun ls hl => ?_)
                            refine lv_goto (tgt := 168) hx hb dXM_write_215 (by decide) ?_
                            exact ih168 (k3 + 1) mo1'16 y11n'17 (by omega) (Eq.trans (by rw [f_XM_writeP_L168_s]; rw [if_pos c170_, if_neg (Int.not_lt.mpr c183_)]; rw [← hwb13]; try dsimp only; rw [← hwb19]; try dsimp only; try rfl) hF) (by first | assumption | omega) (by first | assumption | omega) _ _ hP hD hS ls (lv_sub hl [0, 1, 2] rfl)
                          · refine lv_goto (tgt := 212) hx hb dXM_write_186 (by decide) ?_
                            refine ji_iinc (k := 0) (lv' := [(2, .int (jI (k3 + 1))), (0, .ref ma), (1, .int (jI z1))]) hx hb dXM_write_212 hl rfl (by decide) rfl (fun ls hl => ?_)
                            refine lv_goto (tgt := 168) hx hb dXM_write_215 (by decide) ?_
                            exact ih168 (k3 + 1) m7 v7 (by omega) (Eq.trans (by rw [f_XM_writeP_L168_s]; rw [if_pos c170_, if_pos c183_]; try rfl) hF) (by first | assumption | omega) (by first | assumption | omega) _ _ hP hD hS ls (lv_sub hl [0, 1, 2] rfl)
                    exact loop168 (Int.toNat (4 - 0) + 1) 0 m5 v5 (by omega) (Eq.trans (by rw [f_XM_writeP_L132_s]; rw [if_neg (Int.not_lt.mpr c135_)]; try rfl) hF) (by first | assumption | omega) (by first | assumption | omega) _ _ hP hD hS ls (lv_sub hl [0, 1, 2] rfl)
                  · refine lv_aload_n hx hb dXM_write_138 rfl (lv_at hl 1 rfl) ?_
                    refine va_get (D := (dC, dI)) (ci := 5) (v := .ref a6) (C := RXM) (T := TXM) (N := 19) hx hb hts (fun w h => jmem (inXM w h)) hown hK hP 7 rfl rfl 10 (by decide) (hts _ (jmem tw_638)) (fun _ h9 => h9) rfl dXM_write_139 ?_
                    refine lv_iload_n hx hb dXM_write_142 rfl (lv_at hl 2 rfl) ?_
                    refine ji_iald hx hb hK hP 5 0 rfl rfl ⟨by omega, by omega⟩ (by decide) dXM_write_143 ?_
                    have rb21 := hy6 z1
                    refine lv_iload_n hx hb dXM_write_144 rfl (lv_at hl 0 rfl) ?_
                    refine lv_ishr hx hb dXM_write_145 ?_
                    refine ji_rev ?_
                    have rb22 := jti32 (jI (y6 z1) >>> (jI k2 &&& 31))
                    refine ji_iconst hx hb dXM_write_146 ?_
                    refine lv_iand hx hb dXM_write_147 ?_
                    refine ji_rev ?_
                    have rb23 := jti32 (jI ((jI (y6 z1) >>> (jI k2 &&& 31)).toInt) &&& jI 1)
                    refine ji_iconst hx hb dXM_write_148 ?_
                    refine ji_icmp_ne (tgt := 160) hx hb dXM_write_149 (by decide) (by omega) (by omega) (fun c149_ => ?_) (fun c149_ => ?_)
                    · refine ji_iinc (k := 0) (lv' := [(2, .int (jI (k2 + 1))), (0, .ref ma), (1, .int (jI z1))]) hx hb dXM_write_160 hl rfl (by decide) rfl (fun ls hl => ?_)
                      refine lv_goto (tgt := 132) hx hb dXM_write_163 (by decide) ?_
                      exact ih132 (k2 + 1) m5 v5 (by omega) (Eq.trans (by rw [f_XM_writeP_L132_s]; rw [if_pos c135_, if_neg c149_]; try rfl) hF) (by first | assumption | omega) (by first | assumption | omega) _ _ hP hD hS ls (lv_sub hl [0, 1, 2] rfl)
                    · refine lv_aload_n hx hb dXM_write_152 rfl (lv_at hl 1 rfl) ?_
                      refine ji_bipush hx hb dXM_write_153 (by decide) ?_
                      refine lv_iload_n hx hb dXM_write_155 rfl (lv_at hl 0 rfl) ?_
                      refine ji_iadd hx hb dXM_write_156 ?_
                      refine jwVv (rest := []) (wr := [(a1, .inl (cZ, 62, .inl (jA y1))), (a2, .inl (cA, 62, .inl (jA y2))), (a3, .inl (cZ, 496, .inl (jA y3))), (a4, .inl (cA, 496, .inl (jA y4))), (a5, .inl (cA, 496, .inl (jA y5))), (a6, .inl (cA, 62, .inl (jA y6))), (a7, .inl (cA, 248, .inl (jA y7)))]) ⟨hx, hb, hml, hown, hts⟩ (c_XM_putP l dC dI cA cZ _ ma a0 a1 a2 a3 a4 a5 a6 a7 a8 a9 a10 a11 mth1' mn mp mw mu md m5 v5 (48 + k2) (by first | assumption | omega)) (cwV 1 hts (jG_V tw_854 tw_856 ts_39 tw_6 tw_857) rfl rfl rfl (by decide +kernel) (by rw [hR]; exact ⟨Nat.le_of_ble_eq_true rfl, Nat.le_of_ble_eq_true rfl⟩)) hK hP hD hS hA hN [7, 8] [0, 1, 2, 3, 4, 5, 6] rfl rfl (by decide) (by decide) (by decide) 7 5 rfl rfl rfl rfl hl.1 rfl (Nat.le_of_ble_eq_true rfl) dXM_write_157 (by rw [hR]; exact ⟨Nat.le_of_ble_eq_true rfl, Nat.le_of_ble_eq_true rfl⟩) (fun u26 H locs hwb27 hP hD hS => ?_)
                      obtain ⟨mo1'24, y11n'25⟩ := u26
                      try dsimp only at hwb27
                      obtain ⟨hwb27, f28⟩ := hwb27
                      have f28 : mo1'24 = m5 + 1 := f28
                      have hP : va_P (dC, dI) vwCl [(a1, .inl (cZ, 62, .inl (jA y1))), (a2, .inl (cA, 62, .inl (jA y2))), (a3, .inl (cZ, 496, .inl (jA y3))), (a4, .inl (cA, 496, .inl (jA y4))), (a5, .inl (cA, 496, .inl (jA y5))), (a6, .inl (cA, 62, .inl (jA y6))), (a7, .inl (cA, 248, .inl (jA y7))), (ma, .inr (5, [.int (jI mth1'), .int (jI mn), .ref a0, .int (jI mp), .int (jI mw), .ref a1, .ref a2, .ref a3, .ref a4, .ref a5, .ref a6, .ref a7, .ref a8, .ref a9, .ref a10, .long (jL mu), .long (jL md), .int (jI mo1'24), .ref a11])), (a11, .inl (cA, 300, .inl (jA y11n'25)))] H := hP
                      have hD : va_D A [(a1, .inl (cZ, 62, .inl (jA y1))), (a2, .inl (cA, 62, .inl (jA y2))), (a3, .inl (cZ, 496, .inl (jA y3))), (a4, .inl (cA, 496, .inl (jA y4))), (a5, .inl (cA, 496, .inl (jA y5))), (a6, .inl (cA, 62, .inl (jA y6))), (a7, .inl (cA, 248, .inl (jA y7))), (ma, .inr (5, [.int (jI mth1'), .int (jI mn), .ref a0, .int (jI mp), .int (jI mw), .ref a1, .ref a2, .ref a3, .ref a4, .ref a5, .ref a6, .ref a7, .ref a8, .ref a9, .ref a10, .long (jL mu), .long (jL md), .int (jI mo1'24), .ref a11])), (a11, .inl (cA, 300, .inl (jA y11n'25)))] := hD
                      refine ji_iinc (k := 0) (lv' := [(2, .int (jI (k2 + 1))), (0, .ref ma), (1, .int (jI z1))]) hx hb dXM_write_160 hl rfl (by decide) rfl (fun ls hl => ?_)
                      refine lv_goto (tgt := 132) hx hb dXM_write_163 (by decide) ?_
                      exact ih132 (k2 + 1) mo1'24 y11n'25 (by omega) (Eq.trans (by rw [f_XM_writeP_L132_s]; rw [if_pos c135_, if_pos c149_]; rw [← hwb27]; try dsimp only; try rfl) hF) (by first | assumption | omega) (by first | assumption | omega) _ _ hP hD hS ls (lv_sub hl [0, 1, 2] rfl)
              exact loop132 (Int.toNat (8 - 0) + 1) 0 m4 v4 (by omega) (Eq.trans (by rw [f_XM_writeP_J130_s]; try rfl) hF) (by first | assumption | omega) (by first | assumption | omega) _ _ hP hD hS ls (lv_sub hl [0, 1, 2] rfl)
            refine lv_aload_n hx hb dXM_write_115 rfl (lv_at hl 1 rfl) ?_
            refine va_get (D := (dC, dI)) (ci := 5) (v := .ref a6) (C := RXM) (T := TXM) (N := 19) hx hb hts (fun w h => jmem (inXM w h)) hown hK hP 7 rfl rfl 10 (by decide) (hts _ (jmem tw_638)) (fun _ h9 => h9) rfl dXM_write_116 ?_
            refine lv_iload_n hx hb dXM_write_119 rfl (lv_at hl 2 rfl) ?_
            refine ji_iald hx hb hK hP 5 0 rfl rfl ⟨by omega, by omega⟩ (by decide) dXM_write_120 ?_
            have rb29 := hy6 z1
            refine ji_if_le (tgt := 130) hx hb dXM_write_121 (by decide) (by omega) (fun c121_ => ?_) (fun c121_ => ?_)
            · exact join130 m2 v2 (Eq.trans (by rw [f_XM_writeP_L50_s]; rw [if_neg (Int.not_lt.mpr c53_), if_neg (Int.not_lt.mpr c121_)]; try rfl) hF) (by first | assumption | omega | exact jset_b (by assumption) (by omega)) _ _ hP hD hS ls (lv_sub hl [0, 1, 2] rfl)
            · refine lv_aload_n hx hb dXM_write_124 rfl (lv_at hl 1 rfl) ?_
              refine ji_bipush hx hb dXM_write_125 (by decide) ?_
              refine jwVv (rest := []) (wr := [(a1, .inl (cZ, 62, .inl (jA y1))), (a2, .inl (cA, 62, .inl (jA y2))), (a3, .inl (cZ, 496, .inl (jA y3))), (a4, .inl (cA, 496, .inl (jA y4))), (a5, .inl (cA, 496, .inl (jA y5))), (a6, .inl (cA, 62, .inl (jA y6))), (a7, .inl (cA, 248, .inl (jA y7)))]) ⟨hx, hb, hml, hown, hts⟩ (c_XM_putP l dC dI cA cZ _ ma a0 a1 a2 a3 a4 a5 a6 a7 a8 a9 a10 a11 mth1' mn mp mw mu md m2 v2 114 (by first | assumption | omega)) (cwV 1 hts (jG_V tw_854 tw_856 ts_39 tw_6 tw_857) rfl rfl rfl (by decide +kernel) (by rw [hR]; exact ⟨Nat.le_of_ble_eq_true rfl, Nat.le_of_ble_eq_true rfl⟩)) hK hP hD hS hA hN [7, 8] [0, 1, 2, 3, 4, 5, 6] rfl rfl (by decide) (by decide) (by decide) 7 5 rfl rfl rfl rfl hl.1 rfl (Nat.le_of_ble_eq_true rfl) dXM_write_127 (by rw [hR]; exact ⟨Nat.le_of_ble_eq_true rfl, Nat.le_of_ble_eq_true rfl⟩) (fun u32 H locs hwb33 hP hD hS => ?_)
              obtain ⟨mo1'30, y11n'31⟩ := u32
              try dsimp only at hwb33
              obtain ⟨hwb33, f34⟩ := hwb33
              have f34 : mo1'30 = m2 + 1 := f34
              have hP : va_P (dC, dI) vwCl [(a1, .inl (cZ, 62, .inl (jA y1))), (a2, .inl (cA, 62, .inl (jA y2))), (a3, .inl (cZ, 496, .inl (jA y3))), (a4, .inl (cA, 496, .inl (jA y4))), (a5, .inl (cA, 496, .inl (jA y5))), (a6, .inl (cA, 62, .inl (jA y6))), (a7, .inl (cA, 248, .inl (jA y7))), (ma, .inr (5, [.int (jI mth1'), .int (jI mn), .ref a0, .int (jI mp), .int (jI mw), .ref a1, .ref a2, .ref a3, .ref a4, .ref a5, .ref a6, .ref a7, .ref a8, .ref a9, .ref a10, .long (jL mu), .long (jL md), .int (jI mo1'30), .ref a11])), (a11, .inl (cA, 300, .inl (jA y11n'31)))] H := hP
              have hD : va_D A [(a1, .inl (cZ, 62, .inl (jA y1))), (a2, .inl (cA, 62, .inl (jA y2))), (a3, .inl (cZ, 496, .inl (jA y3))), (a4, .inl (cA, 496, .inl (jA y4))), (a5, .inl (cA, 496, .inl (jA y5))), (a6, .inl (cA, 62, .inl (jA y6))), (a7, .inl (cA, 248, .inl (jA y7))), (ma, .inr (5, [.int (jI mth1'), .int (jI mn), .ref a0, .int (jI mp), .int (jI mw), .ref a1, .ref a2, .ref a3, .ref a4, .ref a5, .ref a6, .ref a7, .ref a8, .ref a9, .ref a10, .long (jL mu), .long (jL md), .int (jI mo1'30), .ref a11])), (a11, .inl (cA, 300, .inl (jA y11n'31)))] := hD
              exact join130 mo1'30 y11n'31 (Eq.trans (by rw [f_XM_writeP_L50_s]; rw [if_neg (Int.not_lt.mpr c53_), if_pos c121_]; rw [← hwb33]; try dsimp only; try rfl) hF) (by first | assumption | omega | exact jset_b (by assumption) (by omega)) _ _ hP hD hS ls (lv_sub hl [0, 1, 2] rfl)
          · refine lv_aload_n hx hb dXM_write_56 rfl (lv_at hl 1 rfl) ?_
            refine va_get (D := (dC, dI)) (ci := 5) (v := .ref a3) (C := RXM) (T := TXM) (N := 19) hx hb hts (fun w h => jmem (inXM w h)) hown hK hP 7 rfl rfl 7 (by decide) (hts _ (jmem tw_635)) (fun _ h9 => h9) rfl dXM_write_57 ?_
            refine ji_bipush hx hb dXM_write_60 (by decide) ?_
            refine lv_iload_n hx hb dXM_write_62 rfl (lv_at hl 2 rfl) ?_
            refine ji_imul hx hb dXM_write_63 ?_
            refine lv_iload_n hx hb dXM_write_64 rfl (lv_at hl 0 rfl) ?_
            refine ji_iadd hx hb dXM_write_65 ?_
            refine ji_zald hx hb hK hP 2 1 rfl rfl ⟨by omega, by omega⟩ (by decide) dXM_write_66 ?_
            have rb35 := hy3 ((8 * z1) + k)
            refine ji_if_ne (tgt := 73) hx hb dXM_write_67 (by decide) (by omega) (fun c67_ => ?_) (fun c67_ => ?_)
            · refine lv_aload_n hx hb dXM_write_73 rfl (lv_at hl 1 rfl) ?_
              refine ji_bipush hx hb dXM_write_74 (by decide) ?_
              refine lv_iload_n hx hb dXM_write_76 rfl (lv_at hl 0 rfl) ?_
              refine ji_iadd hx hb dXM_write_77 ?_
              refine lv_aload_n hx hb dXM_write_78 rfl (lv_at hl 1 rfl) ?_
              refine va_get (D := (dC, dI)) (ci := 5) (v := .ref a4) (C := RXM) (T := TXM) (N := 19) hx hb hts (fun w h => jmem (inXM w h)) hown hK hP 7 rfl rfl 8 (by decide) (hts _ (jmem tw_636)) (fun _ h9 => h9) rfl dXM_write_79 ?_
              refine ji_bipush hx hb dXM_write_82 (by decide) ?_
              refine lv_iload_n hx hb dXM_write_84 rfl (lv_at hl 2 rfl) ?_
              refine ji_imul hx hb dXM_write_85 ?_
              refine lv_iload_n hx hb dXM_write_86 rfl (lv_at hl 0 rfl) ?_
              refine ji_iadd hx hb dXM_write_87 ?_
              refine ji_iald hx hb hK hP 3 0 rfl rfl ⟨by omega, by omega⟩ (by decide) dXM_write_88 ?_
              have rb36 := hy4 ((8 * z1) + k)
              refine jwVv (rest := []) (wr := [(a1, .inl (cZ, 62, .inl (jA y1))), (a2, .inl (cA, 62, .inl (jA y2))), (a3, .inl (cZ, 496, .inl (jA y3))), (a4, .inl (cA, 496, .inl (jA y4))), (a5, .inl (cA, 496, .inl (jA y5))), (a6, .inl (cA, 62, .inl (jA y6))), (a7, .inl (cA, 248, .inl (jA y7)))]) ⟨hx, hb, hml, hown, hts⟩ (c_XM_tellP l dC dI cA cZ _ ma a0 a1 a2 a3 a4 a5 a6 a7 a8 a9 a10 a11 mth1' mn mp mw mu md m2 v2 (65 + k) (y4 ((8 * z1) + k)) (by first | assumption | omega) (by first | assumption | omega)) (cwV 2 hts (jG_V tw_850 tw_852 ts_38 tw_6 tw_853) rfl rfl rfl (by decide +kernel) (by rw [hR]; exact ⟨Nat.le_of_ble_eq_true rfl, Nat.le_of_ble_eq_true rfl⟩)) hK hP hD hS hA hN [7, 8] [0, 1, 2, 3, 4, 5, 6] rfl rfl (by decide) (by decide) (by decide) 7 5 rfl rfl rfl rfl hl.1 rfl (Nat.le_of_ble_eq_true rfl) dXM_write_89 (by rw [hR]; exact ⟨Nat.le_of_ble_eq_true rfl, Nat.le_of_ble_eq_true rfl⟩) (fun u39 H locs hwb40 hP hD hS => ?_)
              obtain ⟨mo1'37, y11n'38⟩ := u39
              try dsimp only at hwb40
              obtain ⟨hwb40, f41⟩ := hwb40
              have f41 : m2 ≤ mo1'37 ∧ mo1'37 ≤ m2 + 7 := f41
              have hP : va_P (dC, dI) vwCl [(a1, .inl (cZ, 62, .inl (jA y1))), (a2, .inl (cA, 62, .inl (jA y2))), (a3, .inl (cZ, 496, .inl (jA y3))), (a4, .inl (cA, 496, .inl (jA y4))), (a5, .inl (cA, 496, .inl (jA y5))), (a6, .inl (cA, 62, .inl (jA y6))), (a7, .inl (cA, 248, .inl (jA y7))), (ma, .inr (5, [.int (jI mth1'), .int (jI mn), .ref a0, .int (jI mp), .int (jI mw), .ref a1, .ref a2, .ref a3, .ref a4, .ref a5, .ref a6, .ref a7, .ref a8, .ref a9, .ref a10, .long (jL mu), .long (jL md), .int (jI mo1'37), .ref a11])), (a11, .inl (cA, 300, .inl (jA y11n'38)))] H := hP
              have hD : va_D A [(a1, .inl (cZ, 62, .inl (jA y1))), (a2, .inl (cA, 62, .inl (jA y2))), (a3, .inl (cZ, 496, .inl (jA y3))), (a4, .inl (cA, 496, .inl (jA y4))), (a5, .inl (cA, 496, .inl (jA y5))), (a6, .inl (cA, 62, .inl (jA y6))), (a7, .inl (cA, 248, .inl (jA y7))), (ma, .inr (5, [.int (jI mth1'), .int (jI mn), .ref a0, .int (jI mp), .int (jI mw), .ref a1, .ref a2, .ref a3, .ref a4, .ref a5, .ref a6, .ref a7, .ref a8, .ref a9, .ref a10, .long (jL mu), .long (jL md), .int (jI mo1'37), .ref a11])), (a11, .inl (cA, 300, .inl (jA y11n'38)))] := hD
              refine lv_aload_n hx hb dXM_write_92 rfl (lv_at hl 1 rfl) ?_
              refine ji_bipush hx hb dXM_write_93 (by decide) ?_
              refine lv_aload_n hx hb dXM_write_95 rfl (lv_at hl 1 rfl) ?_
              refine va_get (D := (dC, dI)) (ci := 5) (v := .ref a5) (C := RXM) (T := TXM) (N := 19) hx hb hts (fun w h => jmem (inXM w h)) hown hK hP 7 rfl rfl 9 (by decide) (hts _ (jmem tw_637)) (fun _ h9 => h9) rfl dXM_write_96 ?_
              refine ji_bipush hx hb dXM_write_99 (by decide) ?_
              refine lv_iload_n hx hb dXM_write_101 rfl (lv_at hl 2 rfl) ?_
              refine ji_imul hx hb dXM_write_102 ?_
              refine lv_iload_n hx hb dXM_write_103 rfl (lv_at hl 0 rfl) ?_
              refine ji_iadd hx hb dXM_write_104 ?_
              refine ji_iald hx hb hK hP 4 0 rfl rfl ⟨by omega, by omega⟩ (by decide) dXM_write_105 ?_
              have rb42 := hy5 ((8 * z1) + k)
              refine jwVv (rest := []) (wr := [(a1, .inl (cZ, 62, .inl (jA y1))), (a2, .inl (cA, 62, .inl (jA y2))), (a3, .inl (cZ, 496, .inl (jA y3))), (a4, .inl (cA, 496, .inl (jA y4))), (a5, .inl (cA, 496, .inl (jA y5))), (a6, .inl (cA, 62, .inl (jA y6))), (a7, .inl (cA, 248, .inl (jA y7)))]) ⟨hx, hb, hml, hown, hts⟩ (c_XM_tellP l dC dI cA cZ _ ma a0 a1 a2 a3 a4 a5 a6 a7 a8 a9 a10 a11 mth1' mn mp mw mu md mo1'37 y11n'38 45 (y5 ((8 * z1) + k)) (by first | assumption | omega) (by first | assumption | omega)) (cwV 2 hts (jG_V tw_850 tw_852 ts_38 tw_6 tw_853) rfl rfl rfl (by decide +kernel) (by rw [hR]; exact ⟨Nat.le_of_ble_eq_true rfl, Nat.le_of_ble_eq_true rfl⟩)) hK hP hD hS hA hN [7, 8] [0, 1, 2, 3, 4, 5, 6] rfl rfl (by decide) (by decide) (by decide) 7 5 rfl rfl rfl rfl hl.1 rfl (Nat.le_of_ble_eq_true rfl) dXM_write_106 (by rw [hR]; exact ⟨Nat.le_of_ble_eq_true rfl, Nat.le_of_ble_eq_true rfl⟩) (fun u45 H locs hwb46 hP hD hS => ?_)
              obtain ⟨mo1'43, y11n'44⟩ := u45
              try dsimp only at hwb46
              obtain ⟨hwb46, f47⟩ := hwb46
              have f47 : mo1'37 ≤ mo1'43 ∧ mo1'43 ≤ mo1'37 + 7 := f47
              have hP : va_P (dC, dI) vwCl [(a1, .inl (cZ, 62, .inl (jA y1))), (a2, .inl (cA, 62, .inl (jA y2))), (a3, .inl (cZ, 496, .inl (jA y3))), (a4, .inl (cA, 496, .inl (jA y4))), (a5, .inl (cA, 496, .inl (jA y5))), (a6, .inl (cA, 62, .inl (jA y6))), (a7, .inl (cA, 248, .inl (jA y7))), (ma, .inr (5, [.int (jI mth1'), .int (jI mn), .ref a0, .int (jI mp), .int (jI mw), .ref a1, .ref a2, .ref a3, .ref a4, .ref a5, .ref a6, .ref a7, .ref a8, .ref a9, .ref a10, .long (jL mu), .long (jL md), .int (jI mo1'43), .ref a11])), (a11, .inl (cA, 300, .inl (jA y11n'44)))] H := hP
              have hD : va_D A [(a1, .inl (cZ, 62, .inl (jA y1))), (a2, .inl (cA, 62, .inl (jA y2))), (a3, .inl (cZ, 496, .inl (jA y3))), (a4, .inl (cA, 496, .inl (jA y4))), (a5, .inl (cA, 496, .inl (jA y5))), (a6, .inl (cA, 62, .inl (jA y6))), (a7, .inl (cA, 248, .inl (jA y7))), (ma, .inr (5, [.int (jI mth1'), .int (jI mn), .ref a0, .int (jI mp), .int (jI mw), .ref a1, .ref a2, .ref a3, .ref a4, .ref a5, .ref a6, .ref a7, .ref a8, .ref a9, .ref a10, .long (jL mu), .long (jL md), .int (jI mo1'43), .ref a11])), (a11, .inl (cA, 300, .inl (jA y11n'44)))] := hD
              refine ji_iinc (k := 0) (lv' := [(2, .int (jI (k + 1))), (0, .ref ma), (1, .int (jI z1))]) hx hb dXM_write_109 hl rfl (by decide) rfl (fun ls hl => ?_)
              refine lv_goto (tgt := 50) hx hb dXM_write_112 (by decide) ?_
              exact ih50 (k + 1) mo1'43 y11n'44 (by omega) (Eq.trans (by rw [f_XM_writeP_L50_s]; rw [if_pos c53_, if_neg c67_]; rw [← hwb40]; try dsimp only; rw [← hwb46]; try dsimp only; try rfl) hF) (by first | assumption | omega) (by first | assumption | omega) _ _ hP hD hS ls (lv_sub hl [0, 1, 2] rfl)
            · refine lv_goto (tgt := 109) hx hb dXM_write_70 (by decide) ?_
              refine ji_iinc (k := 0) (lv' := [(2, .int (jI (k + 1))), (0, .ref ma), (1, .int (jI z1))]) hx hb dXM_write_109 hl rfl (by decide) rfl (fun ls hl => ?_)
              refine lv_goto (tgt := 50) hx hb dXM_write_112 (by decide) ?_
              exact ih50 (k + 1) m2 v2 (by omega) (Eq.trans (by rw [f_XM_writeP_L50_s]; rw [if_pos c53_, if_pos c67_]; try rfl) hF) (by first | assumption | omega) (by first | assumption | omega) _ _ hP hD hS ls (lv_sub hl [0, 1, 2] rfl)
      exact loop50 (Int.toNat (8 - 0) + 1) 0 m1 v1 (by omega) (Eq.trans (by rw [f_XM_writeP_J48_s]; try rfl) hF) (by first | assumption | omega) (by first | assumption | omega) _ _ hP hD hS ls (lv_sub hl [0, 1, 2] rfl)
    refine lv_aload_n hx hb dXM_write_27 rfl (lv_at hl 0 rfl) ?_
    refine va_get (D := (dC, dI)) (ci := 5) (v := .ref a2) (C := RXM) (T := TXM) (N := 19) hx hb hts (fun w h => jmem (inXM w h)) hown hK hP 7 rfl rfl 6 (by decide) (hts _ (jmem tw_634)) (fun _ h9 => h9) rfl dXM_write_28 ?_
    refine lv_iload_n hx hb dXM_write_31 rfl (lv_at hl 1 rfl) ?_
    refine ji_iald hx hb hK hP 1 0 rfl rfl ⟨by omega, by omega⟩ (by decide) dXM_write_32 ?_
    have rb48 := hy2 z1
    refine ji_if_le (tgt := 48) hx hb dXM_write_33 (by decide) (by omega) (fun c33_ => ?_) (fun c33_ => ?_)
    · exact join48 mo1' y11n' (Eq.trans (by rw [f_XM_writeP_s]; rw [← hwb]; try dsimp only; rw [if_neg c10_]; rw [← hwb3]; try dsimp only; rw [if_neg (Int.not_lt.mpr c33_)]; try rfl) rfl) (by first | assumption | omega | exact jset_b (by assumption) (by omega)) _ _ hP hD hS ls (lv_sub hl [0, 1] rfl)
    · refine lv_aload_n hx hb dXM_write_36 rfl (lv_at hl 0 rfl) ?_
      refine ji_bipush hx hb dXM_write_37 (by decide) ?_
      refine lv_aload_n hx hb dXM_write_39 rfl (lv_at hl 0 rfl) ?_
      refine va_get (D := (dC, dI)) (ci := 5) (v := .ref a2) (C := RXM) (T := TXM) (N := 19) hx hb hts (fun w h => jmem (inXM w h)) hown hK hP 7 rfl rfl 6 (by decide) (hts _ (jmem tw_634)) (fun _ h9 => h9) rfl dXM_write_40 ?_
      refine lv_iload_n hx hb dXM_write_43 rfl (lv_at hl 1 rfl) ?_
      refine ji_iald hx hb hK hP 1 0 rfl rfl ⟨by omega, by omega⟩ (by decide) dXM_write_44 ?_
      have rb49 := hy2 z1
      refine jwVv (rest := []) (wr := [(a1, .inl (cZ, 62, .inl (jA y1))), (a2, .inl (cA, 62, .inl (jA y2))), (a3, .inl (cZ, 496, .inl (jA y3))), (a4, .inl (cA, 496, .inl (jA y4))), (a5, .inl (cA, 496, .inl (jA y5))), (a6, .inl (cA, 62, .inl (jA y6))), (a7, .inl (cA, 248, .inl (jA y7)))]) ⟨hx, hb, hml, hown, hts⟩ (c_XM_tellP l dC dI cA cZ _ ma a0 a1 a2 a3 a4 a5 a6 a7 a8 a9 a10 a11 mth1' mn mp mw mu md mo1' y11n' 60 (y2 z1) (by first | assumption | omega) (by first | assumption | omega)) (cwV 2 hts (jG_V tw_850 tw_852 ts_38 tw_6 tw_853) rfl rfl rfl (by decide +kernel) (by rw [hR]; exact ⟨Nat.le_of_ble_eq_true rfl, Nat.le_of_ble_eq_true rfl⟩)) hK hP hD hS hA hN [7, 8] [0, 1, 2, 3, 4, 5, 6] rfl rfl (by decide) (by decide) (by decide) 7 5 rfl rfl rfl rfl hl.1 rfl (Nat.le_of_ble_eq_true rfl) dXM_write_45 (by rw [hR]; exact ⟨Nat.le_of_ble_eq_true rfl, Nat.le_of_ble_eq_true rfl⟩) (fun u52 H locs hwb53 hP hD hS => ?_)
      obtain ⟨mo1'50, y11n'51⟩ := u52
      try dsimp only at hwb53
      obtain ⟨hwb53, f54⟩ := hwb53
      have f54 : mo1' ≤ mo1'50 ∧ mo1'50 ≤ mo1' + 7 := f54
      have hP : va_P (dC, dI) vwCl [(a1, .inl (cZ, 62, .inl (jA y1))), (a2, .inl (cA, 62, .inl (jA y2))), (a3, .inl (cZ, 496, .inl (jA y3))), (a4, .inl (cA, 496, .inl (jA y4))), (a5, .inl (cA, 496, .inl (jA y5))), (a6, .inl (cA, 62, .inl (jA y6))), (a7, .inl (cA, 248, .inl (jA y7))), (ma, .inr (5, [.int (jI mth1'), .int (jI mn), .ref a0, .int (jI mp), .int (jI mw), .ref a1, .ref a2, .ref a3, .ref a4, .ref a5, .ref a6, .ref a7, .ref a8, .ref a9, .ref a10, .long (jL mu), .long (jL md), .int (jI mo1'50), .ref a11])), (a11, .inl (cA, 300, .inl (jA y11n'51)))] H := hP
      have hD : va_D A [(a1, .inl (cZ, 62, .inl (jA y1))), (a2, .inl (cA, 62, .inl (jA y2))), (a3, .inl (cZ, 496, .inl (jA y3))), (a4, .inl (cA, 496, .inl (jA y4))), (a5, .inl (cA, 496, .inl (jA y5))), (a6, .inl (cA, 62, .inl (jA y6))), (a7, .inl (cA, 248, .inl (jA y7))), (ma, .inr (5, [.int (jI mth1'), .int (jI mn), .ref a0, .int (jI mp), .int (jI mw), .ref a1, .ref a2, .ref a3, .ref a4, .ref a5, .ref a6, .ref a7, .ref a8, .ref a9, .ref a10, .long (jL mu), .long (jL md), .int (jI mo1'50), .ref a11])), (a11, .inl (cA, 300, .inl (jA y11n'51)))] := hD
      exact join48 mo1'50 y11n'51 (Eq.trans (by rw [f_XM_writeP_s]; rw [← hwb]; try dsimp only; rw [if_neg c10_]; rw [← hwb3]; try dsimp only; rw [if_pos c33_]; rw [← hwb53]; try dsimp only; try rfl) rfl) (by first | assumption | omega | exact jset_b (by assumption) (by omega)) _ _ hP hD hS ls (lv_sub hl [0, 1] rfl)
  · refine ji_iconst hx hb dXM_write_13 ?_
    have hP9 := hP.sub (ws' := [(ma, .inr (5, [.int (jI mth1'), .int (jI mn), .ref a0, .int (jI mp), .int (jI mw), .ref a1, .ref a2, .ref a3, .ref a4, .ref a5, .ref a6, .ref a7, .ref a8, .ref a9, .ref a10, .long (jL mu), .long (jL md), .int (jI mo), .ref a11])), (a1, .inl (cZ, 62, .inl (jA y1))), (a2, .inl (cA, 62, .inl (jA y2))), (a3, .inl (cZ, 496, .inl (jA y3))), (a4, .inl (cA, 496, .inl (jA y4))), (a5, .inl (cA, 496, .inl (jA y5))), (a6, .inl (cA, 62, .inl (jA y6))), (a7, .inl (cA, 248, .inl (jA y7))), (a11, .inl (cA, 300, .inl (jA y11)))]) [8, 0, 1, 2, 3, 4, 5, 6, 7] rfl
    have hD9 := hD.sub (ws' := [(ma, .inr (5, [.int (jI mth1'), .int (jI mn), .ref a0, .int (jI mp), .int (jI mw), .ref a1, .ref a2, .ref a3, .ref a4, .ref a5, .ref a6, .ref a7, .ref a8, .ref a9, .ref a10, .long (jL mu), .long (jL md), .int (jI mo), .ref a11])), (a1, .inl (cZ, 62, .inl (jA y1))), (a2, .inl (cA, 62, .inl (jA y2))), (a3, .inl (cZ, 496, .inl (jA y3))), (a4, .inl (cA, 496, .inl (jA y4))), (a5, .inl (cA, 496, .inl (jA y5))), (a6, .inl (cA, 62, .inl (jA y6))), (a7, .inl (cA, 248, .inl (jA y7))), (a11, .inl (cA, 300, .inl (jA y11)))]) [8, 0, 1, 2, 3, 4, 5, 6, 7] (by decide) rfl
    subst hAe
    subst hQ
    exact W.iret (v := jI 0) hx hb hr (fun t ht hW => ⟨⟨_, (0, mth1', mo, y11), rfl, ⟨rfl, Eq.trans (by rw [f_XM_writeP_s]; rw [← hwb]; try dsimp only; rw [if_pos c10_]; try rfl) rfl, show 0 ≤ mth1' ∧ mth1' ≤ 2 from by first | assumption | omega | exact jset_b (by assumption) (by omega) | exact jset_l (by assumption) (by omega) | exact jset_l (fun _ _ => rfl) (by omega) | exact fun _ _ => rfl | exact l_trans (by assumption) (by assumption), show 0 ≤ mo ∧ mo ≤ 300 from by first | assumption | omega | exact jset_b (by assumption) (by omega) | exact jset_l (by assumption) (by omega) | exact jset_l (fun _ _ => rfl) (by omega) | exact fun _ _ => rfl | exact l_trans (by assumption) (by assumption), show -1 ≤ 0 ∧ 0 ≤ 300 from by first | assumption | omega | exact jset_b (by assumption) (by omega) | exact jset_l (by assumption) (by omega) | exact jset_l (fun _ _ => rfl) (by omega) | exact fun _ _ => rfl | exact l_trans (by assumption) (by assumption)⟩, ⟨by rw [ht]; exact hP9, va_K.moved hW.alike hK, hD9⟩⟩, hS.F ht⟩) hS.2.2 dXM_write_14
noncomputable def g_XM_atP_J10 (mth : Int) (mn : Int) (mp : Int) (mw : Int) (mu : Int) (md : Int) (mo : Int) (y11 : Int → Int) (z1 : Int) (jz : Int) : Int × Int :=
  match f_XM_goesP mth mn mp mw mu md mo jz 1 with
  | (r, mth1') =>
    if r = 0 then
      (0, mth1')
    else
      if z1 < mo then
        (y11 z1, mth1')
      else
        (-1, mth1')
noncomputable def f_XM_atP_J10 : Int → Int → Int → Int → Int → Int → Int → (Int → Int) → Int → Int → Int × Int := jopq g_XM_atP_J10
theorem f_XM_atP_J10_q : f_XM_atP_J10 = g_XM_atP_J10 := jopq_eq _
theorem f_XM_atP_J10_s (mth : Int) (mn : Int) (mp : Int) (mw : Int) (mu : Int) (md : Int) (mo : Int) (y11 : Int → Int) (z1 : Int) (jz : Int) : f_XM_atP_J10 mth mn mp mw mu md mo y11 z1 jz = (
    match f_XM_goesP mth mn mp mw mu md mo jz 1 with
    | (r, mth1') =>
      if r = 0 then
        (0, mth1')
      else
        if z1 < mo then
          (y11 z1, mth1')
        else
          (-1, mth1')
  : Int × Int) := by rw [f_XM_atP_J10_q]; rfl
noncomputable def g_XM_atP (mth : Int) (mn : Int) (mp : Int) (mw : Int) (mu : Int) (md : Int) (mo : Int) (y11 : Int → Int) (z1 : Int) : Int × Int :=
  if z1 < 0 then
    f_XM_atP_J10 mth mn mp mw mu md mo y11 z1 0
  else
    f_XM_atP_J10 mth mn mp mw mu md mo y11 z1 1
noncomputable def f_XM_atP : Int → Int → Int → Int → Int → Int → Int → (Int → Int) → Int → Int × Int := jopq g_XM_atP
theorem f_XM_atP_q : f_XM_atP = g_XM_atP := jopq_eq _
theorem f_XM_atP_s (mth : Int) (mn : Int) (mp : Int) (mw : Int) (mu : Int) (md : Int) (mo : Int) (y11 : Int → Int) (z1 : Int) : f_XM_atP mth mn mp mw mu md mo y11 z1 = (
    if z1 < 0 then
      f_XM_atP_J10 mth mn mp mw mu md mo y11 z1 0
    else
      f_XM_atP_J10 mth mn mp mw mu md mo y11 z1 1
  : Int × Int) := by rw [f_XM_atP_q]; rfl
set_option maxHeartbeats 4000000 in
set_option maxRecDepth 100000 in
theorem c_XM_atP (l : Launch) (dC : Nat → ClassId) (dI : Nat → Nat → Nat) (cA cZ : ClassId) (sz : Nat) (ma : Nat) (a0 : Nat) (a1 : Nat) (a2 : Nat) (a3 : Nat) (a4 : Nat) (a5 : Nat) (a6 : Nat) (a7 : Nat) (a8 : Nat) (a9 : Nat) (a10 : Nat) (a11 : Nat) (mth : Int) (mn : Int) (mp : Int) (mw : Int) (mu : Int) (md : Int) (mo : Int) (y11 : Int → Int) (z1 : Int) (hmo : 0 ≤ mo ∧ mo ≤ 300) (hi1 : i32 z1) : Met l yXM_at (Cond.code yXM_at cXM_at 2 (some .int) :: TBL) ({ frames := 1, cells := 0, slots := 0, locals := 22 } : Room) (va_Pc [.ref ma, .int (jI z1)] (jBw (dC, dI) [(cA, .int), (cZ, .boolean)] [(ma, .inr (5, [.int (jI mth), .int (jI mn), .ref a0, .int (jI mp), .int (jI mw), .ref a1, .ref a2, .ref a3, .ref a4, .ref a5, .ref a6, .ref a7, .ref a8, .ref a9, .ref a10, .long (jL mu), .long (jL md), .int (jI mo), .ref a11])), (a11, .inl (cA, 300, .inl (jA y11)))] sz)) (va_Qi (fun (r : Int32) (u : Int × Int) => r = jI u.1 ∧ u = f_XM_atP mth mn mp mw mu md mo y11 z1 ∧ ((u.2 = 1 ∧ z1 < 0) ∨ (u.2 = 0 ∧ 0 ≤ z1))) (fun u t => jE (dC, dI) [(cA, .int), (cZ, .boolean)] [(ma, .inr (5, [.int (jI mth), .int (jI mn), .ref a0, .int (jI mp), .int (jI mw), .ref a1, .ref a2, .ref a3, .ref a4, .ref a5, .ref a6, .ref a7, .ref a8, .ref a9, .ref a10, .long (jL mu), .long (jL md), .int (jI mo), .ref a11])), (a11, .inl (cA, 300, .inl (jA y11)))] sz [(ma, .inr (5, [.int (jI u.2), .int (jI mn), .ref a0, .int (jI mp), .int (jI mw), .ref a1, .ref a2, .ref a3, .ref a4, .ref a5, .ref a6, .ref a7, .ref a8, .ref a9, .ref a10, .long (jL mu), .long (jL md), .int (jI mo), .ref a11])), (a11, .inl (cA, 300, .inl (jA y11)))] t) (va_A [(ma, .inr (5, [.int (jI mth), .int (jI mn), .ref a0, .int (jI mp), .int (jI mw), .ref a1, .ref a2, .ref a3, .ref a4, .ref a5, .ref a6, .ref a7, .ref a8, .ref a9, .ref a10, .long (jL mu), .long (jL md), .int (jI mo), .ref a11])), (a11, .inl (cA, 300, .inl (jA y11)))] sz)) 0 0 (va_A [(ma, .inr (5, [.int (jI mth), .int (jI mn), .ref a0, .int (jI mp), .int (jI mw), .ref a1, .ref a2, .ref a3, .ref a4, .ref a5, .ref a6, .ref a7, .ref a8, .ref a9, .ref a10, .long (jL mu), .long (jL md), .int (jI mo), .ref a11])), (a11, .inl (cA, 300, .inl (jA y11)))] sz) := by
  refine jMet (cc := cXM_at) (maxL := 2) (ret := some .int) (by decide) rfl ?_
  intro p e s m args below meth c s₁ R Q hR hQ B hml hv
  obtain ⟨rfl, hsz, hP, hK, hD0, hN⟩ := hv
  have hx := B.exec
  have hb := B.bytes
  have hr := B.returns
  have hts := atoms_spec (ws := Cond.code yXM_at cXM_at 2 (some .int) :: TBL) B.pre
  have hown : s.vm.findClass RXM = some m.cls := findClass_of_methodNamed B.named
  have hlocks := B.notSynchronized
  subst hsz
  obtain ⟨A, hAe⟩ : ∃ A, A = va_A [(ma, .inr (5, [.int (jI mth), .int (jI mn), .ref a0, .int (jI mp), .int (jI mw), .ref a1, .ref a2, .ref a3, .ref a4, .ref a5, .ref a6, .ref a7, .ref a8, .ref a9, .ref a10, .long (jL mu), .long (jL md), .int (jI mo), .ref a11])), (a11, .inl (cA, 300, .inl (jA y11)))] s.heap.size := ⟨_, rfl⟩
  have hD : va_D A [(ma, .inr (5, [.int (jI mth), .int (jI mn), .ref a0, .int (jI mp), .int (jI mw), .ref a1, .ref a2, .ref a3, .ref a4, .ref a5, .ref a6, .ref a7, .ref a8, .ref a9, .ref a10, .long (jL mu), .long (jL md), .int (jI mo), .ref a11])), (a11, .inl (cA, 300, .inl (jA y11)))] := by rw [hAe]; exact hD0.self
  have hA : ∀ q : Nat, s.heap.size ≤ q → A q := fun q h => by rw [hAe]; exact Or.inr h
  have hS : va_S A s.heap s.heap [] := va_S.rf
  have hP : va_P (dC, dI) vwCl [(ma, .inr (5, [.int (jI mth), .int (jI mn), .ref a0, .int (jI mp), .int (jI mw), .ref a1, .ref a2, .ref a3, .ref a4, .ref a5, .ref a6, .ref a7, .ref a8, .ref a9, .ref a10, .long (jL mu), .long (jL md), .int (jI mo), .ref a11])), (a11, .inl (cA, 300, .inl (jA y11)))] s.heap := hP
  have hl := lv_entry ([.ref ma, .int (jI z1)]) (n := 2) (Nat.le_of_ble_eq_true rfl)
  rw [lg_entry_eq]
  generalize (lg_sl ([.ref ma, .int (jI z1)]) ++ List.replicate (2 - (lg_sl ([.ref ma, .int (jI z1)])).length) Slot.unset).toArray = ls at hl ⊢
  have hl : lv_has ls 2 [(0, .ref ma), (1, .int (jI z1))] := hl
  refine lv_aload_n hx hb dXM_at_0 rfl (lv_at hl 0 rfl) ?_
  refine lv_iload_n hx hb dXM_at_1 rfl (lv_at hl 1 rfl) ?_
  have join10 : ∀ (jz : Int) , f_XM_atP_J10 mth mn mp mw mu md mo y11 z1 jz = f_XM_atP mth mn mp mw mu md mo y11 z1 → ((jz = 1 ∧ 0 ≤ z1) ∨ (jz = 0 ∧ z1 < 0)) → ∀ (H : Heap) (locs : List Loc), va_P (dC, dI) vwCl [(ma, .inr (5, [.int (jI mth), .int (jI mn), .ref a0, .int (jI mp), .int (jI mw), .ref a1, .ref a2, .ref a3, .ref a4, .ref a5, .ref a6, .ref a7, .ref a8, .ref a9, .ref a10, .long (jL mu), .long (jL md), .int (jI mo), .ref a11])), (a11, .inl (cA, 300, .inl (jA y11)))] H → va_D A [(ma, .inr (5, [.int (jI mth), .int (jI mn), .ref a0, .int (jI mp), .int (jI mw), .ref a1, .ref a2, .ref a3, .ref a4, .ref a5, .ref a6, .ref a7, .ref a8, .ref a9, .ref a10, .long (jL mu), .long (jL md), .int (jI mo), .ref a11])), (a11, .inl (cA, 300, .inl (jA y11)))] → va_S A s.heap H locs → ∀ ls : Array Slot, lv_has ls 2 [(0, .ref ma), (1, .int (jI z1))] → W p l e R s m ([.ref ma, .int (jI z1)] : List Value).toArray below meth c H locs 0 0 Q (F0 m 10 ls [.int (jI jz), .ref ma]) := by
    intro jz hF hjz H locs hP hD hS ls hl
    refine ji_iconst hx hb dXM_at_10 ?_
    refine jwVi (rest := []) (wr := [(a11, .inl (cA, 300, .inl (jA y11)))]) ⟨hx, hb, hml, hown, hts⟩ (c_XM_goesP l dC dI cA cZ _ ma a0 a1 a2 a3 a4 a5 a6 a7 a8 a9 a10 a11 mth mn mp mw mu md mo jz 1 (by first | assumption | omega) (by first | assumption | omega)) (cwV 2 hts (jG_V tw_698 tw_700 ts_14 tw_6 tw_701) rfl rfl rfl (by decide +kernel) (by rw [hR]; exact ⟨Nat.le_of_ble_eq_true rfl, Nat.le_of_ble_eq_true rfl⟩)) hK hP hD hS hA hN [0] [1] rfl rfl (by decide) (by decide) (by decide) 0 5 rfl rfl rfl rfl hl.1 rfl (Nat.le_of_ble_eq_true rfl) dXM_at_11 (by rw [hR]; exact ⟨Nat.le_of_ble_eq_true rfl, Nat.le_of_ble_eq_true rfl⟩) (fun v u H locs hwb hP hD hS => ?_)
    obtain ⟨r, mth1'⟩ := u
    try dsimp only at hwb
    obtain ⟨er, hwb, f⟩ := hwb
    subst er
    have f : (r = 0 ∧ mth1' = 1 ∧ jz = 0) ∨ (r = 0 ∧ mth1' = 2 ∧ jz = 1 ∧ (1 : Int) = 0) ∨ (r = 1 ∧ mth1' = 0 ∧ jz = 1 ∧ (1 : Int) = 1) := f
    have hP : va_P (dC, dI) vwCl [(a11, .inl (cA, 300, .inl (jA y11))), (ma, .inr (5, [.int (jI mth1'), .int (jI mn), .ref a0, .int (jI mp), .int (jI mw), .ref a1, .ref a2, .ref a3, .ref a4, .ref a5, .ref a6, .ref a7, .ref a8, .ref a9, .ref a10, .long (jL mu), .long (jL md), .int (jI mo), .ref a11]))] H := hP
    have hD : va_D A [(a11, .inl (cA, 300, .inl (jA y11))), (ma, .inr (5, [.int (jI mth1'), .int (jI mn), .ref a0, .int (jI mp), .int (jI mw), .ref a1, .ref a2, .ref a3, .ref a4, .ref a5, .ref a6, .ref a7, .ref a8, .ref a9, .ref a10, .long (jL mu), .long (jL md), .int (jI mo), .ref a11]))] := hD
    refine ji_if_ne (tgt := 19) hx hb dXM_at_14 (by decide) (by omega) (fun c14_ => ?_) (fun c14_ => ?_)
    · refine lv_iload_n hx hb dXM_at_19 rfl (lv_at hl 1 rfl) ?_
      refine lv_aload_n hx hb dXM_at_20 rfl (lv_at hl 0 rfl) ?_
      refine va_get (D := (dC, dI)) (ci := 5) (v := .int (jI mo)) (C := RXM) (T := TXM) (N := 19) hx hb hts (fun w h => jmem (inXM w h)) hown hK hP 1 rfl rfl 17 (by decide) (hts _ (jmem tw_645)) (fun _ h9 => h9) rfl dXM_at_21 ?_
      refine ji_icmp_ge (tgt := 36) hx hb dXM_at_24 (by decide) (by omega) (by omega) (fun c24_ => ?_) (fun c24_ => ?_)
      · refine ji_iconst hx hb dXM_at_36 ?_
        have hP9 := hP.sub (ws' := [(ma, .inr (5, [.int (jI mth1'), .int (jI mn), .ref a0, .int (jI mp), .int (jI mw), .ref a1, .ref a2, .ref a3, .ref a4, .ref a5, .ref a6, .ref a7, .ref a8, .ref a9, .ref a10, .long (jL mu), .long (jL md), .int (jI mo), .ref a11])), (a11, .inl (cA, 300, .inl (jA y11)))]) [1, 0] rfl
        have hD9 := hD.sub (ws' := [(ma, .inr (5, [.int (jI mth1'), .int (jI mn), .ref a0, .int (jI mp), .int (jI mw), .ref a1, .ref a2, .ref a3, .ref a4, .ref a5, .ref a6, .ref a7, .ref a8, .ref a9, .ref a10, .long (jL mu), .long (jL md), .int (jI mo), .ref a11])), (a11, .inl (cA, 300, .inl (jA y11)))]) [1, 0] (by decide) rfl
        subst hAe
        subst hQ
        exact W.iret (v := jI (-1)) hx hb hr (fun t ht hW => ⟨⟨_, (-1, mth1'), rfl, ⟨rfl, Eq.trans (by rw [f_XM_atP_J10_s]; rw [← hwb]; try dsimp only; rw [if_neg c14_, if_neg (Int.not_lt.mpr c24_)]; try rfl) hF, show (mth1' = 1 ∧ z1 < 0) ∨ (mth1' = 0 ∧ 0 ≤ z1) from by first | assumption | omega | exact jset_b (by assumption) (by omega) | exact jset_l (by assumption) (by omega) | exact jset_l (fun _ _ => rfl) (by omega) | exact fun _ _ => rfl | exact l_trans (by assumption) (by assumption)⟩, ⟨by rw [ht]; exact hP9, va_K.moved hW.alike hK, hD9⟩⟩, hS.F ht⟩) hS.2.2 dXM_at_37
      · refine lv_aload_n hx hb dXM_at_27 rfl (lv_at hl 0 rfl) ?_
        refine va_get (D := (dC, dI)) (ci := 5) (v := .ref a11) (C := RXM) (T := TXM) (N := 19) hx hb hts (fun w h => jmem (inXM w h)) hown hK hP 1 rfl rfl 18 (by decide) (hts _ (jmem tw_646)) (fun _ h9 => h9) rfl dXM_at_28 ?_
        refine lv_iload_n hx hb dXM_at_31 rfl (lv_at hl 1 rfl) ?_
        refine ji_iald hx hb hK hP 0 0 rfl rfl ⟨by omega, by omega⟩ (by decide) dXM_at_32 ?_
        refine lv_goto (tgt := 37) hx hb dXM_at_33 (by decide) ?_
        have hP9 := hP.sub (ws' := [(ma, .inr (5, [.int (jI mth1'), .int (jI mn), .ref a0, .int (jI mp), .int (jI mw), .ref a1, .ref a2, .ref a3, .ref a4, .ref a5, .ref a6, .ref a7, .ref a8, .ref a9, .ref a10, .long (jL mu), .long (jL md), .int (jI mo), .ref a11])), (a11, .inl (cA, 300, .inl (jA y11)))]) [1, 0] rfl
        have hD9 := hD.sub (ws' := [(ma, .inr (5, [.int (jI mth1'), .int (jI mn), .ref a0, .int (jI mp), .int (jI mw), .ref a1, .ref a2, .ref a3, .ref a4, .ref a5, .ref a6, .ref a7, .ref a8, .ref a9, .ref a10, .long (jL mu), .long (jL md), .int (jI mo), .ref a11])), (a11, .inl (cA, 300, .inl (jA y11)))]) [1, 0] (by decide) rfl
        subst hAe
        subst hQ
        exact W.iret (v := jI (y11 z1)) hx hb hr (fun t ht hW => ⟨⟨_, (y11 z1, mth1'), rfl, ⟨rfl, Eq.trans (by rw [f_XM_atP_J10_s]; rw [← hwb]; try dsimp only; rw [if_neg c14_, if_pos c24_]; try rfl) hF, show (mth1' = 1 ∧ z1 < 0) ∨ (mth1' = 0 ∧ 0 ≤ z1) from by first | assumption | omega | exact jset_b (by assumption) (by omega) | exact jset_l (by assumption) (by omega) | exact jset_l (fun _ _ => rfl) (by omega) | exact fun _ _ => rfl | exact l_trans (by assumption) (by assumption)⟩, ⟨by rw [ht]; exact hP9, va_K.moved hW.alike hK, hD9⟩⟩, hS.F ht⟩) hS.2.2 dXM_at_37
    · refine ji_iconst hx hb dXM_at_17 ?_
      have hP9 := hP.sub (ws' := [(ma, .inr (5, [.int (jI mth1'), .int (jI mn), .ref a0, .int (jI mp), .int (jI mw), .ref a1, .ref a2, .ref a3, .ref a4, .ref a5, .ref a6, .ref a7, .ref a8, .ref a9, .ref a10, .long (jL mu), .long (jL md), .int (jI mo), .ref a11])), (a11, .inl (cA, 300, .inl (jA y11)))]) [1, 0] rfl
      have hD9 := hD.sub (ws' := [(ma, .inr (5, [.int (jI mth1'), .int (jI mn), .ref a0, .int (jI mp), .int (jI mw), .ref a1, .ref a2, .ref a3, .ref a4, .ref a5, .ref a6, .ref a7, .ref a8, .ref a9, .ref a10, .long (jL mu), .long (jL md), .int (jI mo), .ref a11])), (a11, .inl (cA, 300, .inl (jA y11)))]) [1, 0] (by decide) rfl
      subst hAe
      subst hQ
      exact W.iret (v := jI 0) hx hb hr (fun t ht hW => ⟨⟨_, (0, mth1'), rfl, ⟨rfl, Eq.trans (by rw [f_XM_atP_J10_s]; rw [← hwb]; try dsimp only; rw [if_pos c14_]; try rfl) hF, show (mth1' = 1 ∧ z1 < 0) ∨ (mth1' = 0 ∧ 0 ≤ z1) from by first | assumption | omega | exact jset_b (by assumption) (by omega) | exact jset_l (by assumption) (by omega) | exact jset_l (fun _ _ => rfl) (by omega) | exact fun _ _ => rfl | exact l_trans (by assumption) (by assumption)⟩, ⟨by rw [ht]; exact hP9, va_K.moved hW.alike hK, hD9⟩⟩, hS.F ht⟩) hS.2.2 dXM_at_18
  refine ji_if_lt (tgt := 9) hx hb dXM_at_2 (by decide) (by omega) (fun c2_ => ?_) (fun c2_ => ?_)
  · refine ji_iconst hx hb dXM_at_9 ?_
    exact join10 0 (Eq.trans (by rw [f_XM_atP_s]; rw [if_pos c2_]; try rfl) rfl) (by first | assumption | omega | exact jset_b (by assumption) (by omega)) _ _ hP hD hS ls (lv_sub hl [0, 1] rfl)
  · refine ji_iconst hx hb dXM_at_5 ?_
    refine lv_goto (tgt := 10) hx hb dXM_at_6 (by decide) ?_
    exact join10 1 (Eq.trans (by rw [f_XM_atP_s]; rw [if_neg (Int.not_lt.mpr c2_)]; try rfl) rfl) (by first | assumption | omega | exact jset_b (by assumption) (by omega)) _ _ hP hD hS ls (lv_sub hl [0, 1] rfl)
