noncomputable def g_XM_gradeP_L97 (mth : Int) (mn : Int) (mp : Int) (mw : Int) (mu : Int) (md : Int) (mo : Int) (y0 : Int → Int) (y1 : Int → Int) (y2 : Int → Int) (y3 : Int → Int) (y4 : Int → Int) (y5 : Int → Int) (y6 : Int → Int) (y7 : Int → Int) (r : Int) (jd : Int) (y3n' : Int → Int) (y4n' : Int → Int) (y5n' : Int → Int) (w6 : Int → Int) : Nat → Int → Int → Int → (Int → Int) → Int × Int × (Int → Int) × (Int → Int) × (Int → Int) × (Int → Int) × (Int → Int) × (Int → Int) × (Int → Int)
  | 0, _, _, _, _ => (0, 0, fun _ => 0, fun _ => 0, fun _ => 0, fun _ => 0, fun _ => 0, fun _ => 0, fun _ => 0)
  | n9 + 1, mks, k, w, w7 =>
    match f_XM_takesP mth mn k w mu md mo y0 113 with
    | (r13, mp1'14) =>
      if r13 = 0 then
        match f_XM_takeP mth mn mp1'14 w mu md mo y0 59 with
        | (mp1'19, mw1'20) =>
          if mw1'20 < 0 then
            (mp1'19, mw1'20, jset y1 (31 + r) 1, jset y2 (31 + r) jd, y3n', y4n', y5n', w6, w7)
          else
            (mp1'19, mw1'20, y1, jset y2 (31 + r) jd, y3n', y4n', y5n', w6, w7)
      else
        match f_XM_numberP mth mn mp1'14 w mu md mo y0 0 3 with
        | (r26, mp1'27, mw1'28) =>
          if mw1'28 < 0 then
            if ((jI ((jI mks >>> (jI r26 &&& 31)).toInt) &&& jI 1).toInt) = 1 then
              match f_XM_takeP mth mn mp1'27 (f_XM_failP mth mn mp1'27 mw1'28 mu md mo (mp1'27 - 1)) mu md mo y0 60 with
              | (mp1'79, mw1'80) =>
                match f_XM_numberP mth mn mp1'79 mw1'80 mu md mo y0 0 999999 with
                | (r86, mp1'87, mw1'88) =>
                  g_XM_gradeP_L97 mth mn mp mw mu md mo y0 y1 y2 y3 y4 y5 y6 y7 r jd y3n' y4n' y5n' w6 n9 ((jI mks ||| jI ((jI 1 <<< (jI r26 &&& 31)).toInt)).toInt) mp1'87 mw1'88 (jset w7 ((4 * (31 + r)) + r26) r86)
            else
              match f_XM_takeP mth mn mp1'27 mw1'28 mu md mo y0 60 with
              | (mp1'58, mw1'59) =>
                match f_XM_numberP mth mn mp1'58 mw1'59 mu md mo y0 0 999999 with
                | (r65, mp1'66, mw1'67) =>
                  g_XM_gradeP_L97 mth mn mp mw mu md mo y0 y1 y2 y3 y4 y5 y6 y7 r jd y3n' y4n' y5n' w6 n9 ((jI mks ||| jI ((jI 1 <<< (jI r26 &&& 31)).toInt)).toInt) mp1'66 mw1'67 (jset w7 ((4 * (31 + r)) + r26) r65)
          else
            match f_XM_takeP mth mn mp1'27 mw1'28 mu md mo y0 60 with
            | (mp1'37, mw1'38) =>
              match f_XM_numberP mth mn mp1'37 mw1'38 mu md mo y0 0 999999 with
              | (r44, mp1'45, mw1'46) =>
                g_XM_gradeP_L97 mth mn mp mw mu md mo y0 y1 y2 y3 y4 y5 y6 y7 r jd y3n' y4n' y5n' w6 n9 ((jI mks ||| jI ((jI 1 <<< (jI r26 &&& 31)).toInt)).toInt) mp1'45 mw1'46 (jset w7 ((4 * (31 + r)) + r26) r44)
noncomputable def f_XM_gradeP_L97 : Int → Int → Int → Int → Int → Int → Int → (Int → Int) → (Int → Int) → (Int → Int) → (Int → Int) → (Int → Int) → (Int → Int) → (Int → Int) → (Int → Int) → Int → Int → (Int → Int) → (Int → Int) → (Int → Int) → (Int → Int) → Nat → Int → Int → Int → (Int → Int) → Int × Int × (Int → Int) × (Int → Int) × (Int → Int) × (Int → Int) × (Int → Int) × (Int → Int) × (Int → Int) := jopq g_XM_gradeP_L97
theorem f_XM_gradeP_L97_q : f_XM_gradeP_L97 = g_XM_gradeP_L97 := jopq_eq _
theorem f_XM_gradeP_L97_s (mth : Int) (mn : Int) (mp : Int) (mw : Int) (mu : Int) (md : Int) (mo : Int) (y0 : Int → Int) (y1 : Int → Int) (y2 : Int → Int) (y3 : Int → Int) (y4 : Int → Int) (y5 : Int → Int) (y6 : Int → Int) (y7 : Int → Int) (r : Int) (jd : Int) (y3n' : Int → Int) (y4n' : Int → Int) (y5n' : Int → Int) (w6 : Int → Int) (n9 : Nat) (mks : Int) (k : Int) (w : Int) (w7 : Int → Int) : f_XM_gradeP_L97 mth mn mp mw mu md mo y0 y1 y2 y3 y4 y5 y6 y7 r jd y3n' y4n' y5n' w6 (n9 + 1) mks k w w7 = (
    match f_XM_takesP mth mn k w mu md mo y0 113 with
    | (r13, mp1'14) =>
      if r13 = 0 then
        match f_XM_takeP mth mn mp1'14 w mu md mo y0 59 with
        | (mp1'19, mw1'20) =>
          if mw1'20 < 0 then
            (mp1'19, mw1'20, jset y1 (31 + r) 1, jset y2 (31 + r) jd, y3n', y4n', y5n', w6, w7)
          else
            (mp1'19, mw1'20, y1, jset y2 (31 + r) jd, y3n', y4n', y5n', w6, w7)
      else
        match f_XM_numberP mth mn mp1'14 w mu md mo y0 0 3 with
        | (r26, mp1'27, mw1'28) =>
          if mw1'28 < 0 then
            if ((jI ((jI mks >>> (jI r26 &&& 31)).toInt) &&& jI 1).toInt) = 1 then
              match f_XM_takeP mth mn mp1'27 (f_XM_failP mth mn mp1'27 mw1'28 mu md mo (mp1'27 - 1)) mu md mo y0 60 with
              | (mp1'79, mw1'80) =>
                match f_XM_numberP mth mn mp1'79 mw1'80 mu md mo y0 0 999999 with
                | (r86, mp1'87, mw1'88) =>
                  f_XM_gradeP_L97 mth mn mp mw mu md mo y0 y1 y2 y3 y4 y5 y6 y7 r jd y3n' y4n' y5n' w6 n9 ((jI mks ||| jI ((jI 1 <<< (jI r26 &&& 31)).toInt)).toInt) mp1'87 mw1'88 (jset w7 ((4 * (31 + r)) + r26) r86)
            else
              match f_XM_takeP mth mn mp1'27 mw1'28 mu md mo y0 60 with
              | (mp1'58, mw1'59) =>
                match f_XM_numberP mth mn mp1'58 mw1'59 mu md mo y0 0 999999 with
                | (r65, mp1'66, mw1'67) =>
                  f_XM_gradeP_L97 mth mn mp mw mu md mo y0 y1 y2 y3 y4 y5 y6 y7 r jd y3n' y4n' y5n' w6 n9 ((jI mks ||| jI ((jI 1 <<< (jI r26 &&& 31)).toInt)).toInt) mp1'66 mw1'67 (jset w7 ((4 * (31 + r)) + r26) r65)
          else
            match f_XM_takeP mth mn mp1'27 mw1'28 mu md mo y0 60 with
            | (mp1'37, mw1'38) =>
              match f_XM_numberP mth mn mp1'37 mw1'38 mu md mo y0 0 999999 with
              | (r44, mp1'45, mw1'46) =>
                f_XM_gradeP_L97 mth mn mp mw mu md mo y0 y1 y2 y3 y4 y5 y6 y7 r jd y3n' y4n' y5n' w6 n9 ((jI mks ||| jI ((jI 1 <<< (jI r26 &&& 31)).toInt)).toInt) mp1'45 mw1'46 (jset w7 ((4 * (31 + r)) + r26) r44)
  : Int × Int × (Int → Int) × (Int → Int) × (Int → Int) × (Int → Int) × (Int → Int) × (Int → Int) × (Int → Int)) := by rw [f_XM_gradeP_L97_q]; rfl
theorem f_XM_gradeP_L97_z (mth : Int) (mn : Int) (mp : Int) (mw : Int) (mu : Int) (md : Int) (mo : Int) (y0 : Int → Int) (y1 : Int → Int) (y2 : Int → Int) (y3 : Int → Int) (y4 : Int → Int) (y5 : Int → Int) (y6 : Int → Int) (y7 : Int → Int) (r : Int) (jd : Int) (y3n' : Int → Int) (y4n' : Int → Int) (y5n' : Int → Int) (w6 : Int → Int) (mks : Int) (k : Int) (w : Int) (w7 : Int → Int) : f_XM_gradeP_L97 mth mn mp mw mu md mo y0 y1 y2 y3 y4 y5 y6 y7 r jd y3n' y4n' y5n' w6 0 mks k w w7 = (0, 0, fun _ => 0, fun _ => 0, fun _ => 0, fun _ => 0, fun _ => 0, fun _ => 0, fun _ => 0) := by rw [f_XM_gradeP_L97_q]; rfl
noncomputable def g_XM_gradeP_J95 (mth : Int) (mn : Int) (mp : Int) (mw : Int) (mu : Int) (md : Int) (mo : Int) (y0 : Int → Int) (y1 : Int → Int) (y2 : Int → Int) (y3 : Int → Int) (y4 : Int → Int) (y5 : Int → Int) (y6 : Int → Int) (y7 : Int → Int) (r : Int) (jd : Int) (y3n' : Int → Int) (y4n' : Int → Int) (y5n' : Int → Int) (kr : Int) (wr9 : Int) (w6 : Int → Int) : Int × Int × (Int → Int) × (Int → Int) × (Int → Int) × (Int → Int) × (Int → Int) × (Int → Int) × (Int → Int) :=
  f_XM_gradeP_L97 mth mn mp mw mu md mo y0 y1 y2 y3 y4 y5 y6 y7 r jd y3n' y4n' y5n' w6 (Int.toNat (mn - kr) + 1) 0 kr wr9 y7
noncomputable def f_XM_gradeP_J95 : Int → Int → Int → Int → Int → Int → Int → (Int → Int) → (Int → Int) → (Int → Int) → (Int → Int) → (Int → Int) → (Int → Int) → (Int → Int) → (Int → Int) → Int → Int → (Int → Int) → (Int → Int) → (Int → Int) → Int → Int → (Int → Int) → Int × Int × (Int → Int) × (Int → Int) × (Int → Int) × (Int → Int) × (Int → Int) × (Int → Int) × (Int → Int) := jopq g_XM_gradeP_J95
theorem f_XM_gradeP_J95_q : f_XM_gradeP_J95 = g_XM_gradeP_J95 := jopq_eq _
theorem f_XM_gradeP_J95_s (mth : Int) (mn : Int) (mp : Int) (mw : Int) (mu : Int) (md : Int) (mo : Int) (y0 : Int → Int) (y1 : Int → Int) (y2 : Int → Int) (y3 : Int → Int) (y4 : Int → Int) (y5 : Int → Int) (y6 : Int → Int) (y7 : Int → Int) (r : Int) (jd : Int) (y3n' : Int → Int) (y4n' : Int → Int) (y5n' : Int → Int) (kr : Int) (wr9 : Int) (w6 : Int → Int) : f_XM_gradeP_J95 mth mn mp mw mu md mo y0 y1 y2 y3 y4 y5 y6 y7 r jd y3n' y4n' y5n' kr wr9 w6 = (
    f_XM_gradeP_L97 mth mn mp mw mu md mo y0 y1 y2 y3 y4 y5 y6 y7 r jd y3n' y4n' y5n' w6 (Int.toNat (mn - kr) + 1) 0 kr wr9 y7
  : Int × Int × (Int → Int) × (Int → Int) × (Int → Int) × (Int → Int) × (Int → Int) × (Int → Int) × (Int → Int)) := by rw [f_XM_gradeP_J95_q]; rfl
noncomputable def g_XM_gradeP_J70 (mth : Int) (mn : Int) (mp : Int) (mw : Int) (mu : Int) (md : Int) (mo : Int) (y0 : Int → Int) (y1 : Int → Int) (y2 : Int → Int) (y3 : Int → Int) (y4 : Int → Int) (y5 : Int → Int) (y6 : Int → Int) (y7 : Int → Int) (r : Int) (kj : Int) (wj : Int) (jd : Int) : Int × Int × (Int → Int) × (Int → Int) × (Int → Int) × (Int → Int) × (Int → Int) × (Int → Int) × (Int → Int) :=
  match f_XM_spansP mth mn kj wj mu md mo y0 y3 y4 y5 (31 + r) with
  | (mp1'4, mw1'5, y3n', y4n', y5n') =>
    match f_XM_takesP mth mn mp1'4 mw1'5 mu md mo y0 114 with
    | (r96, mp1'97) =>
      if r96 = 0 then
        f_XM_gradeP_J95 mth mn mp mw mu md mo y0 y1 y2 y3 y4 y5 y6 y7 r jd y3n' y4n' y5n' mp1'97 mw1'5 y6
      else
        match f_XM_routeRowP mth mn mp1'97 mw1'5 mu md mo y0 with
        | (r102, mp1'103, mw1'104) =>
          f_XM_gradeP_J95 mth mn mp mw mu md mo y0 y1 y2 y3 y4 y5 y6 y7 r jd y3n' y4n' y5n' mp1'103 mw1'104 (jset y6 (31 + r) r102)
noncomputable def f_XM_gradeP_J70 : Int → Int → Int → Int → Int → Int → Int → (Int → Int) → (Int → Int) → (Int → Int) → (Int → Int) → (Int → Int) → (Int → Int) → (Int → Int) → (Int → Int) → Int → Int → Int → Int → Int × Int × (Int → Int) × (Int → Int) × (Int → Int) × (Int → Int) × (Int → Int) × (Int → Int) × (Int → Int) := jopq g_XM_gradeP_J70
theorem f_XM_gradeP_J70_q : f_XM_gradeP_J70 = g_XM_gradeP_J70 := jopq_eq _
theorem f_XM_gradeP_J70_s (mth : Int) (mn : Int) (mp : Int) (mw : Int) (mu : Int) (md : Int) (mo : Int) (y0 : Int → Int) (y1 : Int → Int) (y2 : Int → Int) (y3 : Int → Int) (y4 : Int → Int) (y5 : Int → Int) (y6 : Int → Int) (y7 : Int → Int) (r : Int) (kj : Int) (wj : Int) (jd : Int) : f_XM_gradeP_J70 mth mn mp mw mu md mo y0 y1 y2 y3 y4 y5 y6 y7 r kj wj jd = (
    match f_XM_spansP mth mn kj wj mu md mo y0 y3 y4 y5 (31 + r) with
    | (mp1'4, mw1'5, y3n', y4n', y5n') =>
      match f_XM_takesP mth mn mp1'4 mw1'5 mu md mo y0 114 with
      | (r96, mp1'97) =>
        if r96 = 0 then
          f_XM_gradeP_J95 mth mn mp mw mu md mo y0 y1 y2 y3 y4 y5 y6 y7 r jd y3n' y4n' y5n' mp1'97 mw1'5 y6
        else
          match f_XM_routeRowP mth mn mp1'97 mw1'5 mu md mo y0 with
          | (r102, mp1'103, mw1'104) =>
            f_XM_gradeP_J95 mth mn mp mw mu md mo y0 y1 y2 y3 y4 y5 y6 y7 r jd y3n' y4n' y5n' mp1'103 mw1'104 (jset y6 (31 + r) r102)
  : Int × Int × (Int → Int) × (Int → Int) × (Int → Int) × (Int → Int) × (Int → Int) × (Int → Int) × (Int → Int)) := by rw [f_XM_gradeP_J70_q]; rfl
noncomputable def g_XM_gradeP_J37 (mth : Int) (mn : Int) (mp : Int) (mw : Int) (mu : Int) (md : Int) (mo : Int) (y0 : Int → Int) (y1 : Int → Int) (y2 : Int → Int) (y3 : Int → Int) (y4 : Int → Int) (y5 : Int → Int) (y6 : Int → Int) (y7 : Int → Int) (r : Int) (mp1' : Int) (w1 : Int) : Int × Int × (Int → Int) × (Int → Int) × (Int → Int) × (Int → Int) × (Int → Int) × (Int → Int) × (Int → Int) :=
  if w1 < 0 then
    match f_XM_takesP mth mn mp1' w1 mu md mo y0 60 with
    | (r111, mp1'112) =>
      if r111 = 0 then
        f_XM_gradeP_J70 mth mn mp mw mu md mo y0 y1 y2 y3 y4 y5 y6 y7 r mp1'112 w1 0
      else
        match f_XM_numberP mth mn mp1'112 w1 mu md mo y0 1 30 with
        | (r117, mp1'118, mw1'119) =>
          f_XM_gradeP_J70 mth mn mp mw mu md mo y0 y1 y2 y3 y4 y5 y6 y7 r mp1'118 mw1'119 r117
  else
    (mp1', w1, y1, y2, y3, y4, y5, y6, y7)
noncomputable def f_XM_gradeP_J37 : Int → Int → Int → Int → Int → Int → Int → (Int → Int) → (Int → Int) → (Int → Int) → (Int → Int) → (Int → Int) → (Int → Int) → (Int → Int) → (Int → Int) → Int → Int → Int → Int × Int × (Int → Int) × (Int → Int) × (Int → Int) × (Int → Int) × (Int → Int) × (Int → Int) × (Int → Int) := jopq g_XM_gradeP_J37
theorem f_XM_gradeP_J37_q : f_XM_gradeP_J37 = g_XM_gradeP_J37 := jopq_eq _
theorem f_XM_gradeP_J37_s (mth : Int) (mn : Int) (mp : Int) (mw : Int) (mu : Int) (md : Int) (mo : Int) (y0 : Int → Int) (y1 : Int → Int) (y2 : Int → Int) (y3 : Int → Int) (y4 : Int → Int) (y5 : Int → Int) (y6 : Int → Int) (y7 : Int → Int) (r : Int) (mp1' : Int) (w1 : Int) : f_XM_gradeP_J37 mth mn mp mw mu md mo y0 y1 y2 y3 y4 y5 y6 y7 r mp1' w1 = (
    if w1 < 0 then
      match f_XM_takesP mth mn mp1' w1 mu md mo y0 60 with
      | (r111, mp1'112) =>
        if r111 = 0 then
          f_XM_gradeP_J70 mth mn mp mw mu md mo y0 y1 y2 y3 y4 y5 y6 y7 r mp1'112 w1 0
        else
          match f_XM_numberP mth mn mp1'112 w1 mu md mo y0 1 30 with
          | (r117, mp1'118, mw1'119) =>
            f_XM_gradeP_J70 mth mn mp mw mu md mo y0 y1 y2 y3 y4 y5 y6 y7 r mp1'118 mw1'119 r117
    else
      (mp1', w1, y1, y2, y3, y4, y5, y6, y7)
  : Int × Int × (Int → Int) × (Int → Int) × (Int → Int) × (Int → Int) × (Int → Int) × (Int → Int) × (Int → Int)) := by rw [f_XM_gradeP_J37_q]; rfl
noncomputable def g_XM_gradeP (mth : Int) (mn : Int) (mp : Int) (mw : Int) (mu : Int) (md : Int) (mo : Int) (y0 : Int → Int) (y1 : Int → Int) (y2 : Int → Int) (y3 : Int → Int) (y4 : Int → Int) (y5 : Int → Int) (y6 : Int → Int) (y7 : Int → Int) : Int × Int × (Int → Int) × (Int → Int) × (Int → Int) × (Int → Int) × (Int → Int) × (Int → Int) × (Int → Int) :=
  match f_XM_numberP mth mn mp mw mu md mo y0 1 30 with
  | (r, mp1', mw1') =>
    if mw1' < 0 then
      if (y1 (31 + r)) = 0 then
        f_XM_gradeP_J37 mth mn mp mw mu md mo y0 y1 y2 y3 y4 y5 y6 y7 r mp1' mw1'
      else
        f_XM_gradeP_J37 mth mn mp mw mu md mo y0 y1 y2 y3 y4 y5 y6 y7 r mp1' (f_XM_failP mth mn mp1' mw1' mu md mo (mp1' - 1))
    else
      f_XM_gradeP_J37 mth mn mp mw mu md mo y0 y1 y2 y3 y4 y5 y6 y7 r mp1' mw1'
noncomputable def f_XM_gradeP : Int → Int → Int → Int → Int → Int → Int → (Int → Int) → (Int → Int) → (Int → Int) → (Int → Int) → (Int → Int) → (Int → Int) → (Int → Int) → (Int → Int) → Int × Int × (Int → Int) × (Int → Int) × (Int → Int) × (Int → Int) × (Int → Int) × (Int → Int) × (Int → Int) := jopq g_XM_gradeP
theorem f_XM_gradeP_q : f_XM_gradeP = g_XM_gradeP := jopq_eq _
theorem f_XM_gradeP_s (mth : Int) (mn : Int) (mp : Int) (mw : Int) (mu : Int) (md : Int) (mo : Int) (y0 : Int → Int) (y1 : Int → Int) (y2 : Int → Int) (y3 : Int → Int) (y4 : Int → Int) (y5 : Int → Int) (y6 : Int → Int) (y7 : Int → Int) : f_XM_gradeP mth mn mp mw mu md mo y0 y1 y2 y3 y4 y5 y6 y7 = (
    match f_XM_numberP mth mn mp mw mu md mo y0 1 30 with
    | (r, mp1', mw1') =>
      if mw1' < 0 then
        if (y1 (31 + r)) = 0 then
          f_XM_gradeP_J37 mth mn mp mw mu md mo y0 y1 y2 y3 y4 y5 y6 y7 r mp1' mw1'
        else
          f_XM_gradeP_J37 mth mn mp mw mu md mo y0 y1 y2 y3 y4 y5 y6 y7 r mp1' (f_XM_failP mth mn mp1' mw1' mu md mo (mp1' - 1))
      else
        f_XM_gradeP_J37 mth mn mp mw mu md mo y0 y1 y2 y3 y4 y5 y6 y7 r mp1' mw1'
  : Int × Int × (Int → Int) × (Int → Int) × (Int → Int) × (Int → Int) × (Int → Int) × (Int → Int) × (Int → Int)) := by rw [f_XM_gradeP_q]; rfl
set_option maxHeartbeats 4000000 in
set_option maxRecDepth 100000 in
theorem c_XM_gradeP (l : Launch) (dC : Nat → ClassId) (dI : Nat → Nat → Nat) (cA cZ : ClassId) (sz : Nat) (ma : Nat) (a0 : Nat) (a1 : Nat) (a2 : Nat) (a3 : Nat) (a4 : Nat) (a5 : Nat) (a6 : Nat) (a7 : Nat) (a8 : Nat) (a9 : Nat) (a10 : Nat) (a11 : Nat) (mth : Int) (mn : Int) (mp : Int) (mw : Int) (mu : Int) (md : Int) (mo : Int) (y0 : Int → Int) (y1 : Int → Int) (y2 : Int → Int) (y3 : Int → Int) (y4 : Int → Int) (y5 : Int → Int) (y6 : Int → Int) (y7 : Int → Int) (hy0 : ∀ i, 0 ≤ y0 i ∧ y0 i ≤ 255) (hmn : 0 ≤ mn ∧ mn ≤ 400) (hmp : 0 ≤ mp ∧ mp ≤ mn) (hmw : -1 ≤ mw ∧ mw ≤ 400) (hy1 : ∀ i, 0 ≤ y1 i ∧ y1 i ≤ 1) (hy2 : ∀ i, 0 ≤ y2 i ∧ y2 i ≤ 30) (hy3 : ∀ i, 0 ≤ y3 i ∧ y3 i ≤ 1) (hy4 : ∀ i, 0 ≤ y4 i ∧ y4 i ≤ 100000) (hy5 : ∀ i, 0 ≤ y5 i ∧ y5 i ≤ 100000) (hy6 : ∀ i, -2147483648 ≤ y6 i ∧ y6 i ≤ 2147483647) (hy7 : ∀ i, -1 ≤ y7 i ∧ y7 i ≤ 999999) : Met l yXM_grade (Cond.code yXM_grade cXM_grade 4 none :: TBL) ({ frames := 4, cells := 0, slots := 0, locals := 90 } : Room) (va_Pc [.ref ma] (jBw (dC, dI) [(cA, .int), (cZ, .boolean)] [(ma, .inr (5, [.int (jI mth), .int (jI mn), .ref a0, .int (jI mp), .int (jI mw), .ref a1, .ref a2, .ref a3, .ref a4, .ref a5, .ref a6, .ref a7, .ref a8, .ref a9, .ref a10, .long (jL mu), .long (jL md), .int (jI mo), .ref a11])), (a0, .inl (cA, 400, .inl (jA y0))), (a1, .inl (cZ, 62, .inl (jA y1))), (a2, .inl (cA, 62, .inl (jA y2))), (a3, .inl (cZ, 496, .inl (jA y3))), (a4, .inl (cA, 496, .inl (jA y4))), (a5, .inl (cA, 496, .inl (jA y5))), (a6, .inl (cA, 62, .inl (jA y6))), (a7, .inl (cA, 248, .inl (jA y7)))] sz)) (va_Qv (fun (u : Int × Int × (Int → Int) × (Int → Int) × (Int → Int) × (Int → Int) × (Int → Int) × (Int → Int) × (Int → Int)) => u = f_XM_gradeP mth mn mp mw mu md mo y0 y1 y2 y3 y4 y5 y6 y7 ∧ (mp ≤ u.1 ∧ u.1 ≤ mn) ∧ (-1 ≤ u.2.1 ∧ u.2.1 ≤ 400 ∧ mw ≤ u.2.1) ∧ (∀ i, 0 ≤ u.2.2.1 i ∧ u.2.2.1 i ≤ 1) ∧ (∀ i, 0 ≤ u.2.2.2.1 i ∧ u.2.2.2.1 i ≤ 30) ∧ (∀ i, 0 ≤ u.2.2.2.2.1 i ∧ u.2.2.2.2.1 i ≤ 1) ∧ (∀ i, 0 ≤ u.2.2.2.2.2.1 i ∧ u.2.2.2.2.2.1 i ≤ 100000) ∧ (∀ i, 0 ≤ u.2.2.2.2.2.2.1 i ∧ u.2.2.2.2.2.2.1 i ≤ 100000) ∧ (∀ i, -2147483648 ≤ u.2.2.2.2.2.2.2.1 i ∧ u.2.2.2.2.2.2.2.1 i ≤ 2147483647) ∧ (∀ i, -1 ≤ u.2.2.2.2.2.2.2.2 i ∧ u.2.2.2.2.2.2.2.2 i ≤ 999999)) (fun u t => jE (dC, dI) [(cA, .int), (cZ, .boolean)] [(ma, .inr (5, [.int (jI mth), .int (jI mn), .ref a0, .int (jI mp), .int (jI mw), .ref a1, .ref a2, .ref a3, .ref a4, .ref a5, .ref a6, .ref a7, .ref a8, .ref a9, .ref a10, .long (jL mu), .long (jL md), .int (jI mo), .ref a11])), (a0, .inl (cA, 400, .inl (jA y0))), (a1, .inl (cZ, 62, .inl (jA y1))), (a2, .inl (cA, 62, .inl (jA y2))), (a3, .inl (cZ, 496, .inl (jA y3))), (a4, .inl (cA, 496, .inl (jA y4))), (a5, .inl (cA, 496, .inl (jA y5))), (a6, .inl (cA, 62, .inl (jA y6))), (a7, .inl (cA, 248, .inl (jA y7)))] sz [(ma, .inr (5, [.int (jI mth), .int (jI mn), .ref a0, .int (jI u.1), .int (jI u.2.1), .ref a1, .ref a2, .ref a3, .ref a4, .ref a5, .ref a6, .ref a7, .ref a8, .ref a9, .ref a10, .long (jL mu), .long (jL md), .int (jI mo), .ref a11])), (a0, .inl (cA, 400, .inl (jA y0))), (a1, .inl (cZ, 62, .inl (jA u.2.2.1))), (a2, .inl (cA, 62, .inl (jA u.2.2.2.1))), (a3, .inl (cZ, 496, .inl (jA u.2.2.2.2.1))), (a4, .inl (cA, 496, .inl (jA u.2.2.2.2.2.1))), (a5, .inl (cA, 496, .inl (jA u.2.2.2.2.2.2.1))), (a6, .inl (cA, 62, .inl (jA u.2.2.2.2.2.2.2.1))), (a7, .inl (cA, 248, .inl (jA u.2.2.2.2.2.2.2.2)))] t) (va_A [(ma, .inr (5, [.int (jI mth), .int (jI mn), .ref a0, .int (jI mp), .int (jI mw), .ref a1, .ref a2, .ref a3, .ref a4, .ref a5, .ref a6, .ref a7, .ref a8, .ref a9, .ref a10, .long (jL mu), .long (jL md), .int (jI mo), .ref a11])), (a0, .inl (cA, 400, .inl (jA y0))), (a1, .inl (cZ, 62, .inl (jA y1))), (a2, .inl (cA, 62, .inl (jA y2))), (a3, .inl (cZ, 496, .inl (jA y3))), (a4, .inl (cA, 496, .inl (jA y4))), (a5, .inl (cA, 496, .inl (jA y5))), (a6, .inl (cA, 62, .inl (jA y6))), (a7, .inl (cA, 248, .inl (jA y7)))] sz)) 0 0 (va_A [(ma, .inr (5, [.int (jI mth), .int (jI mn), .ref a0, .int (jI mp), .int (jI mw), .ref a1, .ref a2, .ref a3, .ref a4, .ref a5, .ref a6, .ref a7, .ref a8, .ref a9, .ref a10, .long (jL mu), .long (jL md), .int (jI mo), .ref a11])), (a0, .inl (cA, 400, .inl (jA y0))), (a1, .inl (cZ, 62, .inl (jA y1))), (a2, .inl (cA, 62, .inl (jA y2))), (a3, .inl (cZ, 496, .inl (jA y3))), (a4, .inl (cA, 496, .inl (jA y4))), (a5, .inl (cA, 496, .inl (jA y5))), (a6, .inl (cA, 62, .inl (jA y6))), (a7, .inl (cA, 248, .inl (jA y7)))] sz) := by
  refine jMet (cc := cXM_grade) (maxL := 4) (ret := none) (by decide) rfl ?_
  intro p e s m args below meth c s₁ R Q hR hQ B hml hv
  obtain ⟨rfl, hsz, hP, hK, hD0, hN⟩ := hv
  have hx := B.exec
  have hb := B.bytes
  have hr := B.returns
  have hts := atoms_spec (ws := Cond.code yXM_grade cXM_grade 4 none :: TBL) B.pre
  have hown : s.vm.findClass RXM = some m.cls := findClass_of_methodNamed B.named
  have hlocks := B.notSynchronized
  subst hsz
  obtain ⟨A, hAe⟩ : ∃ A, A = va_A [(ma, .inr (5, [.int (jI mth), .int (jI mn), .ref a0, .int (jI mp), .int (jI mw), .ref a1, .ref a2, .ref a3, .ref a4, .ref a5, .ref a6, .ref a7, .ref a8, .ref a9, .ref a10, .long (jL mu), .long (jL md), .int (jI mo), .ref a11])), (a0, .inl (cA, 400, .inl (jA y0))), (a1, .inl (cZ, 62, .inl (jA y1))), (a2, .inl (cA, 62, .inl (jA y2))), (a3, .inl (cZ, 496, .inl (jA y3))), (a4, .inl (cA, 496, .inl (jA y4))), (a5, .inl (cA, 496, .inl (jA y5))), (a6, .inl (cA, 62, .inl (jA y6))), (a7, .inl (cA, 248, .inl (jA y7)))] s.heap.size := ⟨_, rfl⟩
  have hD : va_D A [(ma, .inr (5, [.int (jI mth), .int (jI mn), .ref a0, .int (jI mp), .int (jI mw), .ref a1, .ref a2, .ref a3, .ref a4, .ref a5, .ref a6, .ref a7, .ref a8, .ref a9, .ref a10, .long (jL mu), .long (jL md), .int (jI mo), .ref a11])), (a0, .inl (cA, 400, .inl (jA y0))), (a1, .inl (cZ, 62, .inl (jA y1))), (a2, .inl (cA, 62, .inl (jA y2))), (a3, .inl (cZ, 496, .inl (jA y3))), (a4, .inl (cA, 496, .inl (jA y4))), (a5, .inl (cA, 496, .inl (jA y5))), (a6, .inl (cA, 62, .inl (jA y6))), (a7, .inl (cA, 248, .inl (jA y7)))] := by rw [hAe]; exact hD0.self
  have hA : ∀ q : Nat, s.heap.size ≤ q → A q := fun q h => by rw [hAe]; exact Or.inr h
  have hS : va_S A s.heap s.heap [] := va_S.rf
  have hP : va_P (dC, dI) vwCl [(ma, .inr (5, [.int (jI mth), .int (jI mn), .ref a0, .int (jI mp), .int (jI mw), .ref a1, .ref a2, .ref a3, .ref a4, .ref a5, .ref a6, .ref a7, .ref a8, .ref a9, .ref a10, .long (jL mu), .long (jL md), .int (jI mo), .ref a11])), (a0, .inl (cA, 400, .inl (jA y0))), (a1, .inl (cZ, 62, .inl (jA y1))), (a2, .inl (cA, 62, .inl (jA y2))), (a3, .inl (cZ, 496, .inl (jA y3))), (a4, .inl (cA, 496, .inl (jA y4))), (a5, .inl (cA, 496, .inl (jA y5))), (a6, .inl (cA, 62, .inl (jA y6))), (a7, .inl (cA, 248, .inl (jA y7)))] s.heap := hP
  have hl := lv_entry ([.ref ma]) (n := 4) (Nat.le_of_ble_eq_true rfl)
  rw [lg_entry_eq]
  generalize (lg_sl ([.ref ma]) ++ List.replicate (4 - (lg_sl ([.ref ma])).length) Slot.unset).toArray = ls at hl ⊢
  have hl : lv_has ls 4 [(0, .ref ma)] := hl
  refine ji_bipush hx hb dXM_grade_0 (by decide) ?_
  refine lv_aload_n hx hb dXM_grade_2 rfl (lv_at hl 0 rfl) ?_
  refine ji_iconst hx hb dXM_grade_3 ?_
  refine ji_bipush hx hb dXM_grade_4 (by decide) ?_
  refine jwVi (rest := [.int (jI 31)]) (wr := [(a1, .inl (cZ, 62, .inl (jA y1))), (a2, .inl (cA, 62, .inl (jA y2))), (a3, .inl (cZ, 496, .inl (jA y3))), (a4, .inl (cA, 496, .inl (jA y4))), (a5, .inl (cA, 496, .inl (jA y5))), (a6, .inl (cA, 62, .inl (jA y6))), (a7, .inl (cA, 248, .inl (jA y7)))]) ⟨hx, hb, hml, hown, hts⟩ (c_XM_numberP l dC dI cA cZ _ ma a0 a1 a2 a3 a4 a5 a6 a7 a8 a9 a10 a11 mth mn mp mw mu md mo y0 1 30 (by first | assumption | omega) (by first | assumption | omega) (by first | assumption | omega) (by first | assumption | omega) (by first | assumption | omega)) (cwV 2 hts (jG_V tw_726 tw_728 ts_20 tw_6 tw_729) rfl rfl rfl (by decide +kernel) (by rw [hR]; exact ⟨Nat.le_of_ble_eq_true rfl, Nat.le_of_ble_eq_true rfl⟩)) hK hP hD hS hA hN [0, 1] [2, 3, 4, 5, 6, 7, 8] rfl rfl (by decide) (by decide) (by decide) 0 5 rfl rfl rfl rfl hl.1 rfl (Nat.le_of_ble_eq_true rfl) dXM_grade_6 (by rw [hR]; exact ⟨Nat.le_of_ble_eq_true rfl, Nat.le_of_ble_eq_true rfl⟩) (fun v u H locs hwb hP hD hS => ?_)
  obtain ⟨r, mp1', mw1'⟩ := u
  try dsimp only at hwb
  obtain ⟨er, hwb, f, f1, f2, f3⟩ := hwb
  subst er
  have f : 1 ≤ r ∧ r ≤ 30 := f
  have f1 : mp ≤ mp1' ∧ mp1' ≤ mn := f1
  have f2 : -1 ≤ mw1' ∧ mw1' ≤ 400 ∧ mw ≤ mw1' := f2
  have f3 : mw1' < 0 → mp < mp1' := f3
  have hP : va_P (dC, dI) vwCl [(a1, .inl (cZ, 62, .inl (jA y1))), (a2, .inl (cA, 62, .inl (jA y2))), (a3, .inl (cZ, 496, .inl (jA y3))), (a4, .inl (cA, 496, .inl (jA y4))), (a5, .inl (cA, 496, .inl (jA y5))), (a6, .inl (cA, 62, .inl (jA y6))), (a7, .inl (cA, 248, .inl (jA y7))), (ma, .inr (5, [.int (jI mth), .int (jI mn), .ref a0, .int (jI mp1'), .int (jI mw1'), .ref a1, .ref a2, .ref a3, .ref a4, .ref a5, .ref a6, .ref a7, .ref a8, .ref a9, .ref a10, .long (jL mu), .long (jL md), .int (jI mo), .ref a11])), (a0, .inl (cA, 400, .inl (jA y0)))] H := hP
  have hD : va_D A [(a1, .inl (cZ, 62, .inl (jA y1))), (a2, .inl (cA, 62, .inl (jA y2))), (a3, .inl (cZ, 496, .inl (jA y3))), (a4, .inl (cA, 496, .inl (jA y4))), (a5, .inl (cA, 496, .inl (jA y5))), (a6, .inl (cA, 62, .inl (jA y6))), (a7, .inl (cA, 248, .inl (jA y7))), (ma, .inr (5, [.int (jI mth), .int (jI mn), .ref a0, .int (jI mp1'), .int (jI mw1'), .ref a1, .ref a2, .ref a3, .ref a4, .ref a5, .ref a6, .ref a7, .ref a8, .ref a9, .ref a10, .long (jL mu), .long (jL md), .int (jI mo), .ref a11])), (a0, .inl (cA, 400, .inl (jA y0)))] := hD
  refine ji_iadd hx hb dXM_grade_9 ?_
  refine lv_istore_n (lv' := [(1, .int (jI (31 + r))), (0, .ref ma)]) hx hb dXM_grade_10 rfl hl (by decide) rfl (fun ls hl => ?_)
  have join37 : ∀ (w1 : Int) , f_XM_gradeP_J37 mth mn mp mw mu md mo y0 y1 y2 y3 y4 y5 y6 y7 r mp1' w1 = f_XM_gradeP mth mn mp mw mu md mo y0 y1 y2 y3 y4 y5 y6 y7 → (-1 ≤ w1 ∧ w1 ≤ 400 ∧ mw1' ≤ w1) → ∀ (H : Heap) (locs : List Loc), va_P (dC, dI) vwCl [(a1, .inl (cZ, 62, .inl (jA y1))), (a2, .inl (cA, 62, .inl (jA y2))), (a3, .inl (cZ, 496, .inl (jA y3))), (a4, .inl (cA, 496, .inl (jA y4))), (a5, .inl (cA, 496, .inl (jA y5))), (a6, .inl (cA, 62, .inl (jA y6))), (a7, .inl (cA, 248, .inl (jA y7))), (ma, .inr (5, [.int (jI mth), .int (jI mn), .ref a0, .int (jI mp1'), .int (jI w1), .ref a1, .ref a2, .ref a3, .ref a4, .ref a5, .ref a6, .ref a7, .ref a8, .ref a9, .ref a10, .long (jL mu), .long (jL md), .int (jI mo), .ref a11])), (a0, .inl (cA, 400, .inl (jA y0)))] H → va_D A [(a1, .inl (cZ, 62, .inl (jA y1))), (a2, .inl (cA, 62, .inl (jA y2))), (a3, .inl (cZ, 496, .inl (jA y3))), (a4, .inl (cA, 496, .inl (jA y4))), (a5, .inl (cA, 496, .inl (jA y5))), (a6, .inl (cA, 62, .inl (jA y6))), (a7, .inl (cA, 248, .inl (jA y7))), (ma, .inr (5, [.int (jI mth), .int (jI mn), .ref a0, .int (jI mp1'), .int (jI w1), .ref a1, .ref a2, .ref a3, .ref a4, .ref a5, .ref a6, .ref a7, .ref a8, .ref a9, .ref a10, .long (jL mu), .long (jL md), .int (jI mo), .ref a11])), (a0, .inl (cA, 400, .inl (jA y0)))] → va_S A s.heap H locs → ∀ ls : Array Slot, lv_has ls 4 [(1, .int (jI (31 + r))), (0, .ref ma)] → W p l e R s m ([.ref ma] : List Value).toArray below meth c H locs 0 0 Q (F0 m 37 ls []) := by
    intro w1 hF hw1 H locs hP hD hS ls hl
    refine lv_aload_n hx hb dXM_grade_37 rfl (lv_at hl 1 rfl) ?_
    refine va_get (D := (dC, dI)) (ci := 5) (v := .int (jI w1)) (C := RXM) (T := TXM) (N := 19) hx hb hts (fun w h => jmem (inXM w h)) hown hK hP 7 rfl rfl 4 (by decide) (hts _ (jmem tw_632)) (fun _ h9 => h9) rfl dXM_grade_38 ?_
    refine ji_if_lt (tgt := 45) hx hb dXM_grade_41 (by decide) (by omega) (fun c41_ => ?_) (fun c41_ => ?_)
    · refine lv_aload_n hx hb dXM_grade_45 rfl (lv_at hl 1 rfl) ?_
      refine va_get (D := (dC, dI)) (ci := 5) (v := .ref a2) (C := RXM) (T := TXM) (N := 19) hx hb hts (fun w h => jmem (inXM w h)) hown hK hP 7 rfl rfl 6 (by decide) (hts _ (jmem tw_634)) (fun _ h9 => h9) rfl dXM_grade_46 ?_
      refine lv_iload_n hx hb dXM_grade_49 rfl (lv_at hl 0 rfl) ?_
      have join70 : ∀ (kj : Int) (wj : Int) (jd : Int) , f_XM_gradeP_J70 mth mn mp mw mu md mo y0 y1 y2 y3 y4 y5 y6 y7 r kj wj jd = f_XM_gradeP mth mn mp mw mu md mo y0 y1 y2 y3 y4 y5 y6 y7 → (mp1' ≤ kj ∧ kj ≤ mn) → (-1 ≤ wj ∧ wj ≤ 400 ∧ w1 ≤ wj) → (0 ≤ jd ∧ jd ≤ 30) → ∀ (H : Heap) (locs : List Loc), va_P (dC, dI) vwCl [(a1, .inl (cZ, 62, .inl (jA y1))), (a2, .inl (cA, 62, .inl (jA y2))), (a3, .inl (cZ, 496, .inl (jA y3))), (a4, .inl (cA, 496, .inl (jA y4))), (a5, .inl (cA, 496, .inl (jA y5))), (a6, .inl (cA, 62, .inl (jA y6))), (a7, .inl (cA, 248, .inl (jA y7))), (ma, .inr (5, [.int (jI mth), .int (jI mn), .ref a0, .int (jI kj), .int (jI wj), .ref a1, .ref a2, .ref a3, .ref a4, .ref a5, .ref a6, .ref a7, .ref a8, .ref a9, .ref a10, .long (jL mu), .long (jL md), .int (jI mo), .ref a11])), (a0, .inl (cA, 400, .inl (jA y0)))] H → va_D A [(a1, .inl (cZ, 62, .inl (jA y1))), (a2, .inl (cA, 62, .inl (jA y2))), (a3, .inl (cZ, 496, .inl (jA y3))), (a4, .inl (cA, 496, .inl (jA y4))), (a5, .inl (cA, 496, .inl (jA y5))), (a6, .inl (cA, 62, .inl (jA y6))), (a7, .inl (cA, 248, .inl (jA y7))), (ma, .inr (5, [.int (jI mth), .int (jI mn), .ref a0, .int (jI kj), .int (jI wj), .ref a1, .ref a2, .ref a3, .ref a4, .ref a5, .ref a6, .ref a7, .ref a8, .ref a9, .ref a10, .long (jL mu), .long (jL md), .int (jI mo), .ref a11])), (a0, .inl (cA, 400, .inl (jA y0)))] → va_S A s.heap H locs → ∀ ls : Array Slot, lv_has ls 4 [(1, .int (jI (31 + r))), (0, .ref ma)] → W p l e R s m ([.ref ma] : List Value).toArray below meth c H locs 0 0 Q (F0 m 70 ls [.int (jI jd), .int (jI (31 + r)), .ref a2]) := by
        intro kj wj jd hF hkj hwj hjd H locs hP hD hS ls hl
        refine ji_iast hx hb hK hP hD hS 1 0 rfl rfl ⟨by omega, by omega⟩ (by decide) dXM_grade_70 (fun H locs hP hD hS => ?_)
        have hP : va_P (dC, dI) vwCl [(a1, .inl (cZ, 62, .inl (jA y1))), (a2, .inl (cA, 62, .inl (jA (jset y2 (31 + r) jd)))), (a3, .inl (cZ, 496, .inl (jA y3))), (a4, .inl (cA, 496, .inl (jA y4))), (a5, .inl (cA, 496, .inl (jA y5))), (a6, .inl (cA, 62, .inl (jA y6))), (a7, .inl (cA, 248, .inl (jA y7))), (ma, .inr (5, [.int (jI mth), .int (jI mn), .ref a0, .int (jI kj), .int (jI wj), .ref a1, .ref a2, .ref a3, .ref a4, .ref a5, .ref a6, .ref a7, .ref a8, .ref a9, .ref a10, .long (jL mu), .long (jL md), .int (jI mo), .ref a11])), (a0, .inl (cA, 400, .inl (jA y0)))] H := hP
        have hD : va_D A [(a1, .inl (cZ, 62, .inl (jA y1))), (a2, .inl (cA, 62, .inl (jA (jset y2 (31 + r) jd)))), (a3, .inl (cZ, 496, .inl (jA y3))), (a4, .inl (cA, 496, .inl (jA y4))), (a5, .inl (cA, 496, .inl (jA y5))), (a6, .inl (cA, 62, .inl (jA y6))), (a7, .inl (cA, 248, .inl (jA y7))), (ma, .inr (5, [.int (jI mth), .int (jI mn), .ref a0, .int (jI kj), .int (jI wj), .ref a1, .ref a2, .ref a3, .ref a4, .ref a5, .ref a6, .ref a7, .ref a8, .ref a9, .ref a10, .long (jL mu), .long (jL md), .int (jI mo), .ref a11])), (a0, .inl (cA, 400, .inl (jA y0)))] := hD
        refine lv_aload_n hx hb dXM_grade_71 rfl (lv_at hl 1 rfl) ?_
        refine lv_iload_n hx hb dXM_grade_72 rfl (lv_at hl 0 rfl) ?_
        refine jwVv (rest := []) (wr := [(a1, .inl (cZ, 62, .inl (jA y1))), (a2, .inl (cA, 62, .inl (jA (jset y2 (31 + r) jd)))), (a6, .inl (cA, 62, .inl (jA y6))), (a7, .inl (cA, 248, .inl (jA y7)))]) ⟨hx, hb, hml, hown, hts⟩ (c_XM_spansP l dC dI cA cZ _ ma a0 a1 a2 a3 a4 a5 a6 a7 a8 a9 a10 a11 mth mn kj wj mu md mo y0 y3 y4 y5 (31 + r) (by first | assumption | omega) (by first | assumption | omega) (by first | assumption | omega) (by first | assumption | omega) (by first | assumption | omega) (by first | assumption | omega) (by first | assumption | omega) (by first | assumption | omega)) (cwV 1 hts (jG_V tw_750 tw_752 ts_26 tw_6 tw_753) rfl rfl rfl (by decide +kernel) (by rw [hR]; exact ⟨Nat.le_of_ble_eq_true rfl, Nat.le_of_ble_eq_true rfl⟩)) hK hP hD hS hA hN [7, 8, 2, 3, 4] [0, 1, 5, 6] rfl rfl (by decide) (by decide) (by decide) 7 5 rfl rfl rfl rfl hl.1 rfl (Nat.le_of_ble_eq_true rfl) dXM_grade_73 (by rw [hR]; exact ⟨Nat.le_of_ble_eq_true rfl, Nat.le_of_ble_eq_true rfl⟩) (fun u6 H locs hwb7 hP hD hS => ?_)
        obtain ⟨mp1'4, mw1'5, y3n', y4n', y5n'⟩ := u6
        try dsimp only at hwb7
        obtain ⟨hwb7, f8, f9, f10, f11, f12⟩ := hwb7
        have f8 : kj ≤ mp1'4 ∧ mp1'4 ≤ mn := f8
        have f9 : -1 ≤ mw1'5 ∧ mw1'5 ≤ 400 ∧ wj ≤ mw1'5 := f9
        have f10 : ∀ i, 0 ≤ y3n' i ∧ y3n' i ≤ 1 := f10
        have f11 : ∀ i, 0 ≤ y4n' i ∧ y4n' i ≤ 100000 := f11
        have f12 : ∀ i, 0 ≤ y5n' i ∧ y5n' i ≤ 100000 := f12
        have hP : va_P (dC, dI) vwCl [(a1, .inl (cZ, 62, .inl (jA y1))), (a2, .inl (cA, 62, .inl (jA (jset y2 (31 + r) jd)))), (a6, .inl (cA, 62, .inl (jA y6))), (a7, .inl (cA, 248, .inl (jA y7))), (ma, .inr (5, [.int (jI mth), .int (jI mn), .ref a0, .int (jI mp1'4), .int (jI mw1'5), .ref a1, .ref a2, .ref a3, .ref a4, .ref a5, .ref a6, .ref a7, .ref a8, .ref a9, .ref a10, .long (jL mu), .long (jL md), .int (jI mo), .ref a11])), (a0, .inl (cA, 400, .inl (jA y0))), (a3, .inl (cZ, 496, .inl (jA y3n'))), (a4, .inl (cA, 496, .inl (jA y4n'))), (a5, .inl (cA, 496, .inl (jA y5n')))] H := hP
        have hD : va_D A [(a1, .inl (cZ, 62, .inl (jA y1))), (a2, .inl (cA, 62, .inl (jA (jset y2 (31 + r) jd)))), (a6, .inl (cA, 62, .inl (jA y6))), (a7, .inl (cA, 248, .inl (jA y7))), (ma, .inr (5, [.int (jI mth), .int (jI mn), .ref a0, .int (jI mp1'4), .int (jI mw1'5), .ref a1, .ref a2, .ref a3, .ref a4, .ref a5, .ref a6, .ref a7, .ref a8, .ref a9, .ref a10, .long (jL mu), .long (jL md), .int (jI mo), .ref a11])), (a0, .inl (cA, 400, .inl (jA y0))), (a3, .inl (cZ, 496, .inl (jA y3n'))), (a4, .inl (cA, 496, .inl (jA y4n'))), (a5, .inl (cA, 496, .inl (jA y5n')))] := hD
        have join95 : ∀ (kr : Int) (wr9 : Int) (w6 : Int → Int) , f_XM_gradeP_J95 mth mn mp mw mu md mo y0 y1 y2 y3 y4 y5 y6 y7 r jd y3n' y4n' y5n' kr wr9 w6 = f_XM_gradeP mth mn mp mw mu md mo y0 y1 y2 y3 y4 y5 y6 y7 → (mp1'4 ≤ kr ∧ kr ≤ mn) → (-1 ≤ wr9 ∧ wr9 ≤ 400 ∧ mw1'5 ≤ wr9) → (∀ i, -2147483648 ≤ w6 i ∧ w6 i ≤ 2147483647) → ∀ (H : Heap) (locs : List Loc), va_P (dC, dI) vwCl [(a1, .inl (cZ, 62, .inl (jA y1))), (a2, .inl (cA, 62, .inl (jA (jset y2 (31 + r) jd)))), (a6, .inl (cA, 62, .inl (jA w6))), (a7, .inl (cA, 248, .inl (jA y7))), (ma, .inr (5, [.int (jI mth), .int (jI mn), .ref a0, .int (jI kr), .int (jI wr9), .ref a1, .ref a2, .ref a3, .ref a4, .ref a5, .ref a6, .ref a7, .ref a8, .ref a9, .ref a10, .long (jL mu), .long (jL md), .int (jI mo), .ref a11])), (a0, .inl (cA, 400, .inl (jA y0))), (a3, .inl (cZ, 496, .inl (jA y3n'))), (a4, .inl (cA, 496, .inl (jA y4n'))), (a5, .inl (cA, 496, .inl (jA y5n')))] H → va_D A [(a1, .inl (cZ, 62, .inl (jA y1))), (a2, .inl (cA, 62, .inl (jA (jset y2 (31 + r) jd)))), (a6, .inl (cA, 62, .inl (jA w6))), (a7, .inl (cA, 248, .inl (jA y7))), (ma, .inr (5, [.int (jI mth), .int (jI mn), .ref a0, .int (jI kr), .int (jI wr9), .ref a1, .ref a2, .ref a3, .ref a4, .ref a5, .ref a6, .ref a7, .ref a8, .ref a9, .ref a10, .long (jL mu), .long (jL md), .int (jI mo), .ref a11])), (a0, .inl (cA, 400, .inl (jA y0))), (a3, .inl (cZ, 496, .inl (jA y3n'))), (a4, .inl (cA, 496, .inl (jA y4n'))), (a5, .inl (cA, 496, .inl (jA y5n')))] → va_S A s.heap H locs → ∀ ls : Array Slot, lv_has ls 4 [(1, .int (jI (31 + r))), (0, .ref ma)] → W p l e R s m ([.ref ma] : List Value).toArray below meth c H locs 0 0 Q (F0 m 95 ls []) := by
          intro kr wr9 w6 hF hkr hwr hw6 H locs hP hD hS ls hl
          refine ji_iconst hx hb dXM_grade_95 ?_
          refine lv_istore_n (lv' := [(2, .int (jI 0)), (1, .int (jI (31 + r))), (0, .ref ma)]) hx hb dXM_grade_96 rfl hl (by decide) rfl (fun ls hl => ?_)
          have loop97 : ∀ (n9 : Nat) (mks : Int) (k : Int) (w : Int) (w7 : Int → Int) , mn - k < (n9 : Int) → f_XM_gradeP_L97 mth mn mp mw mu md mo y0 y1 y2 y3 y4 y5 y6 y7 r jd y3n' y4n' y5n' w6 n9 mks k w w7 = f_XM_gradeP mth mn mp mw mu md mo y0 y1 y2 y3 y4 y5 y6 y7 → (kr ≤ k ∧ k ≤ mn) → (-1 ≤ w ∧ w ≤ 400 ∧ wr9 ≤ w) → (i32 mks) → (∀ i, -1 ≤ w7 i ∧ w7 i ≤ 999999) → ∀ (H : Heap) (locs : List Loc), va_P (dC, dI) vwCl [(a1, .inl (cZ, 62, .inl (jA y1))), (a2, .inl (cA, 62, .inl (jA (jset y2 (31 + r) jd)))), (a6, .inl (cA, 62, .inl (jA w6))), (a7, .inl (cA, 248, .inl (jA w7))), (ma, .inr (5, [.int (jI mth), .int (jI mn), .ref a0, .int (jI k), .int (jI w), .ref a1, .ref a2, .ref a3, .ref a4, .ref a5, .ref a6, .ref a7, .ref a8, .ref a9, .ref a10, .long (jL mu), .long (jL md), .int (jI mo), .ref a11])), (a0, .inl (cA, 400, .inl (jA y0))), (a3, .inl (cZ, 496, .inl (jA y3n'))), (a4, .inl (cA, 496, .inl (jA y4n'))), (a5, .inl (cA, 496, .inl (jA y5n')))] H → va_D A [(a1, .inl (cZ, 62, .inl (jA y1))), (a2, .inl (cA, 62, .inl (jA (jset y2 (31 + r) jd)))), (a6, .inl (cA, 62, .inl (jA w6))), (a7, .inl (cA, 248, .inl (jA w7))), (ma, .inr (5, [.int (jI mth), .int (jI mn), .ref a0, .int (jI k), .int (jI w), .ref a1, .ref a2, .ref a3, .ref a4, .ref a5, .ref a6, .ref a7, .ref a8, .ref a9, .ref a10, .long (jL mu), .long (jL md), .int (jI mo), .ref a11])), (a0, .inl (cA, 400, .inl (jA y0))), (a3, .inl (cZ, 496, .inl (jA y3n'))), (a4, .inl (cA, 496, .inl (jA y4n'))), (a5, .inl (cA, 496, .inl (jA y5n')))] → va_S A s.heap H locs → ∀ ls : Array Slot, lv_has ls 4 [(2, .int (jI mks)), (1, .int (jI (31 + r))), (0, .ref ma)] → W p l e R s m ([.ref ma] : List Value).toArray below meth c H locs 0 0 Q (F0 m 97 ls []) := by
            intro n9
            induction n9 with
            | zero =>
              intro mks k w w7 hm hF hk hw hmk hw7
              exact absurd hm (by omega)
            | succ n9 ih97 =>
              intro mks k w w7 hm hF hk hw hmk hw7 H locs hP hD hS ls hl
              refine lv_aload_n hx hb dXM_grade_97 rfl (lv_at hl 2 rfl) ?_
              refine ji_bipush hx hb dXM_grade_98 (by decide) ?_
              refine jwVi (rest := []) (wr := [(a1, .inl (cZ, 62, .inl (jA y1))), (a2, .inl (cA, 62, .inl (jA (jset y2 (31 + r) jd)))), (a6, .inl (cA, 62, .inl (jA w6))), (a7, .inl (cA, 248, .inl (jA w7))), (a3, .inl (cZ, 496, .inl (jA y3n'))), (a4, .inl (cA, 496, .inl (jA y4n'))), (a5, .inl (cA, 496, .inl (jA y5n')))]) ⟨hx, hb, hml, hown, hts⟩ (c_XM_takesP l dC dI cA cZ _ ma a0 a1 a2 a3 a4 a5 a6 a7 a8 a9 a10 a11 mth mn k w mu md mo y0 113 (by first | assumption | omega) (by first | assumption | omega) (by first | assumption | omega) (by first | assumption | omega) (by first | assumption | omega)) (cwV 1 hts (jG_V tw_718 tw_720 ts_18 tw_6 tw_721) rfl rfl rfl (by decide +kernel) (by rw [hR]; exact ⟨Nat.le_of_ble_eq_true rfl, Nat.le_of_ble_eq_true rfl⟩)) hK hP hD hS hA hN [4, 5] [0, 1, 2, 3, 6, 7, 8] rfl rfl (by decide) (by decide) (by decide) 4 5 rfl rfl rfl rfl hl.1 rfl (Nat.le_of_ble_eq_true rfl) dXM_grade_100 (by rw [hR]; exact ⟨Nat.le_of_ble_eq_true rfl, Nat.le_of_ble_eq_true rfl⟩) (fun v16 u15 H locs hwb17 hP hD hS => ?_)
              obtain ⟨r13, mp1'14⟩ := u15
              try dsimp only at hwb17
              obtain ⟨er, hwb17, f18⟩ := hwb17
              subst er
              have f18 : (r13 = 0 ∧ k ≤ mp1'14 ∧ mp1'14 ≤ mn) ∨ (r13 = 1 ∧ k < mp1'14 ∧ mp1'14 ≤ mn ∧ w < 0) := f18
              have hP : va_P (dC, dI) vwCl [(a1, .inl (cZ, 62, .inl (jA y1))), (a2, .inl (cA, 62, .inl (jA (jset y2 (31 + r) jd)))), (a6, .inl (cA, 62, .inl (jA w6))), (a7, .inl (cA, 248, .inl (jA w7))), (a3, .inl (cZ, 496, .inl (jA y3n'))), (a4, .inl (cA, 496, .inl (jA y4n'))), (a5, .inl (cA, 496, .inl (jA y5n'))), (ma, .inr (5, [.int (jI mth), .int (jI mn), .ref a0, .int (jI mp1'14), .int (jI w), .ref a1, .ref a2, .ref a3, .ref a4, .ref a5, .ref a6, .ref a7, .ref a8, .ref a9, .ref a10, .long (jL mu), .long (jL md), .int (jI mo), .ref a11])), (a0, .inl (cA, 400, .inl (jA y0)))] H := hP
              have hD : va_D A [(a1, .inl (cZ, 62, .inl (jA y1))), (a2, .inl (cA, 62, .inl (jA (jset y2 (31 + r) jd)))), (a6, .inl (cA, 62, .inl (jA w6))), (a7, .inl (cA, 248, .inl (jA w7))), (a3, .inl (cZ, 496, .inl (jA y3n'))), (a4, .inl (cA, 496, .inl (jA y4n'))), (a5, .inl (cA, 496, .inl (jA y5n'))), (ma, .inr (5, [.int (jI mth), .int (jI mn), .ref a0, .int (jI mp1'14), .int (jI w), .ref a1, .ref a2, .ref a3, .ref a4, .ref a5, .ref a6, .ref a7, .ref a8, .ref a9, .ref a10, .long (jL mu), .long (jL md), .int (jI mo), .ref a11])), (a0, .inl (cA, 400, .inl (jA y0)))] := hD
              refine ji_if_eq (tgt := 171) hx hb dXM_grade_103 (by decide) (by omega) (fun c103_ => ?_) (fun c103_ => ?_)
              · refine lv_aload_n hx hb dXM_grade_171 rfl (lv_at hl 2 rfl) ?_
                refine ji_bipush hx hb dXM_grade_172 (by decide) ?_
                refine jwVv (rest := []) (wr := [(a1, .inl (cZ, 62, .inl (jA y1))), (a2, .inl (cA, 62, .inl (jA (jset y2 (31 + r) jd)))), (a6, .inl (cA, 62, .inl (jA w6))), (a7, .inl (cA, 248, .inl (jA w7))), (a3, .inl (cZ, 496, .inl (jA y3n'))), (a4, .inl (cA, 496, .inl (jA y4n'))), (a5, .inl (cA, 496, .inl (jA y5n')))]) ⟨hx, hb, hml, hown, hts⟩ (c_XM_takeP l dC dI cA cZ _ ma a0 a1 a2 a3 a4 a5 a6 a7 a8 a9 a10 a11 mth mn mp1'14 w mu md mo y0 59 (by first | assumption | omega) (by first | assumption | omega) (by first | assumption | omega) (by first | assumption | omega) (by first | assumption | omega)) (cwV 1 hts (jG_V tw_738 tw_740 ts_23 tw_6 tw_741) rfl rfl rfl (by decide +kernel) (by rw [hR]; exact ⟨Nat.le_of_ble_eq_true rfl, Nat.le_of_ble_eq_true rfl⟩)) hK hP hD hS hA hN [7, 8] [0, 1, 2, 3, 4, 5, 6] rfl rfl (by decide) (by decide) (by decide) 7 5 rfl rfl rfl rfl hl.1 rfl (Nat.le_of_ble_eq_true rfl) dXM_grade_174 (by rw [hR]; exact ⟨Nat.le_of_ble_eq_true rfl, Nat.le_of_ble_eq_true rfl⟩) (fun u21 H locs hwb22 hP hD hS => ?_)
                obtain ⟨mp1'19, mw1'20⟩ := u21
                try dsimp only at hwb22
                obtain ⟨hwb22, f23, f24, f25⟩ := hwb22
                have f23 : mp1'14 ≤ mp1'19 ∧ mp1'19 ≤ mn := f23
                have f24 : -1 ≤ mw1'20 ∧ mw1'20 ≤ 400 ∧ w ≤ mw1'20 := f24
                have f25 : mw1'20 < 0 → mp1'14 < mp1'19 := f25
                have hP : va_P (dC, dI) vwCl [(a1, .inl (cZ, 62, .inl (jA y1))), (a2, .inl (cA, 62, .inl (jA (jset y2 (31 + r) jd)))), (a6, .inl (cA, 62, .inl (jA w6))), (a7, .inl (cA, 248, .inl (jA w7))), (a3, .inl (cZ, 496, .inl (jA y3n'))), (a4, .inl (cA, 496, .inl (jA y4n'))), (a5, .inl (cA, 496, .inl (jA y5n'))), (ma, .inr (5, [.int (jI mth), .int (jI mn), .ref a0, .int (jI mp1'19), .int (jI mw1'20), .ref a1, .ref a2, .ref a3, .ref a4, .ref a5, .ref a6, .ref a7, .ref a8, .ref a9, .ref a10, .long (jL mu), .long (jL md), .int (jI mo), .ref a11])), (a0, .inl (cA, 400, .inl (jA y0)))] H := hP
                have hD : va_D A [(a1, .inl (cZ, 62, .inl (jA y1))), (a2, .inl (cA, 62, .inl (jA (jset y2 (31 + r) jd)))), (a6, .inl (cA, 62, .inl (jA w6))), (a7, .inl (cA, 248, .inl (jA w7))), (a3, .inl (cZ, 496, .inl (jA y3n'))), (a4, .inl (cA, 496, .inl (jA y4n'))), (a5, .inl (cA, 496, .inl (jA y5n'))), (ma, .inr (5, [.int (jI mth), .int (jI mn), .ref a0, .int (jI mp1'19), .int (jI mw1'20), .ref a1, .ref a2, .ref a3, .ref a4, .ref a5, .ref a6, .ref a7, .ref a8, .ref a9, .ref a10, .long (jL mu), .long (jL md), .int (jI mo), .ref a11])), (a0, .inl (cA, 400, .inl (jA y0)))] := hD
                refine lv_aload_n hx hb dXM_grade_177 rfl (lv_at hl 2 rfl) ?_
                refine va_get (D := (dC, dI)) (ci := 5) (v := .int (jI mw1'20)) (C := RXM) (T := TXM) (N := 19) hx hb hts (fun w h => jmem (inXM w h)) hown hK hP 7 rfl rfl 4 (by decide) (hts _ (jmem tw_632)) (fun _ h9 => h9) rfl dXM_grade_178 ?_
                refine ji_if_ge (tgt := 191) hx hb dXM_grade_181 (by decide) (by omega) (fun c181_ => ?_) (fun c181_ => ?_)
                · have hP9 := hP.sub (ws' := [(ma, .inr (5, [.int (jI mth), .int (jI mn), .ref a0, .int (jI mp1'19), .int (jI mw1'20), .ref a1, .ref a2, .ref a3, .ref a4, .ref a5, .ref a6, .ref a7, .ref a8, .ref a9, .ref a10, .long (jL mu), .long (jL md), .int (jI mo), .ref a11])), (a0, .inl (cA, 400, .inl (jA y0))), (a1, .inl (cZ, 62, .inl (jA y1))), (a2, .inl (cA, 62, .inl (jA (jset y2 (31 + r) jd)))), (a3, .inl (cZ, 496, .inl (jA y3n'))), (a4, .inl (cA, 496, .inl (jA y4n'))), (a5, .inl (cA, 496, .inl (jA y5n'))), (a6, .inl (cA, 62, .inl (jA w6))), (a7, .inl (cA, 248, .inl (jA w7)))]) [7, 8, 0, 1, 4, 5, 6, 2, 3] rfl
                  have hD9 := hD.sub (ws' := [(ma, .inr (5, [.int (jI mth), .int (jI mn), .ref a0, .int (jI mp1'19), .int (jI mw1'20), .ref a1, .ref a2, .ref a3, .ref a4, .ref a5, .ref a6, .ref a7, .ref a8, .ref a9, .ref a10, .long (jL mu), .long (jL md), .int (jI mo), .ref a11])), (a0, .inl (cA, 400, .inl (jA y0))), (a1, .inl (cZ, 62, .inl (jA y1))), (a2, .inl (cA, 62, .inl (jA (jset y2 (31 + r) jd)))), (a3, .inl (cZ, 496, .inl (jA y3n'))), (a4, .inl (cA, 496, .inl (jA y4n'))), (a5, .inl (cA, 496, .inl (jA y5n'))), (a6, .inl (cA, 62, .inl (jA w6))), (a7, .inl (cA, 248, .inl (jA w7)))]) [7, 8, 0, 1, 4, 5, 6, 2, 3] (by decide) rfl
                  subst hAe
                  subst hQ
                  exact W.vret hx hb hr (fun t ht hW => ⟨⟨(mp1'19, mw1'20, y1, jset y2 (31 + r) jd, y3n', y4n', y5n', w6, w7), rfl, ⟨Eq.trans (by rw [f_XM_gradeP_L97_s]; rw [← hwb17]; try dsimp only; rw [if_pos c103_]; rw [← hwb22]; try dsimp only; rw [if_neg (Int.not_lt.mpr c181_)]; try rfl) hF, show mp ≤ mp1'19 ∧ mp1'19 ≤ mn from by first | assumption | omega | exact jset_b (by assumption) (by omega), show -1 ≤ mw1'20 ∧ mw1'20 ≤ 400 ∧ mw ≤ mw1'20 from by first | assumption | omega | exact jset_b (by assumption) (by omega), show ∀ i, 0 ≤ y1 i ∧ y1 i ≤ 1 from by first | assumption | omega | exact jset_b (by assumption) (by omega), show ∀ i, 0 ≤ (jset y2 (31 + r) jd) i ∧ (jset y2 (31 + r) jd) i ≤ 30 from by first | assumption | omega | exact jset_b (by assumption) (by omega), show ∀ i, 0 ≤ y3n' i ∧ y3n' i ≤ 1 from by first | assumption | omega | exact jset_b (by assumption) (by omega), show ∀ i, 0 ≤ y4n' i ∧ y4n' i ≤ 100000 from by first | assumption | omega | exact jset_b (by assumption) (by omega), show ∀ i, 0 ≤ y5n' i ∧ y5n' i ≤ 100000 from by first | assumption | omega | exact jset_b (by assumption) (by omega), show ∀ i, -2147483648 ≤ w6 i ∧ w6 i ≤ 2147483647 from by first | assumption | omega | exact jset_b (by assumption) (by omega), show ∀ i, -1 ≤ w7 i ∧ w7 i ≤ 999999 from by first | assumption | omega | exact jset_b (by assumption) (by omega)⟩, ⟨by rw [ht]; exact hP9, va_K.moved hW.alike hK, hD9⟩⟩, hS.F ht⟩) hS.2.2 dXM_grade_191
                · refine lv_aload_n hx hb dXM_grade_184 rfl (lv_at hl 2 rfl) ?_
                  refine va_get (D := (dC, dI)) (ci := 5) (v := .ref a1) (C := RXM) (T := TXM) (N := 19) hx hb hts (fun w h => jmem (inXM w h)) hown hK hP 7 rfl rfl 5 (by decide) (hts _ (jmem tw_633)) (fun _ h9 => h9) rfl dXM_grade_185 ?_
                  refine lv_iload_n hx hb dXM_grade_188 rfl (lv_at hl 1 rfl) ?_
                  refine ji_iconst hx hb dXM_grade_189 ?_
                  refine ji_zast hx hb hK hP hD hS 0 1 rfl rfl (by first | decide | omega) ⟨by omega, by omega⟩ (by decide) dXM_grade_190 (fun H locs hP hD hS => ?_)
                  have hP : va_P (dC, dI) vwCl [(a1, .inl (cZ, 62, .inl (jA (jset y1 (31 + r) 1)))), (a2, .inl (cA, 62, .inl (jA (jset y2 (31 + r) jd)))), (a6, .inl (cA, 62, .inl (jA w6))), (a7, .inl (cA, 248, .inl (jA w7))), (a3, .inl (cZ, 496, .inl (jA y3n'))), (a4, .inl (cA, 496, .inl (jA y4n'))), (a5, .inl (cA, 496, .inl (jA y5n'))), (ma, .inr (5, [.int (jI mth), .int (jI mn), .ref a0, .int (jI mp1'19), .int (jI mw1'20), .ref a1, .ref a2, .ref a3, .ref a4, .ref a5, .ref a6, .ref a7, .ref a8, .ref a9, .ref a10, .long (jL mu), .long (jL md), .int (jI mo), .ref a11])), (a0, .inl (cA, 400, .inl (jA y0)))] H := hP
                  have hD : va_D A [(a1, .inl (cZ, 62, .inl (jA (jset y1 (31 + r) 1)))), (a2, .inl (cA, 62, .inl (jA (jset y2 (31 + r) jd)))), (a6, .inl (cA, 62, .inl (jA w6))), (a7, .inl (cA, 248, .inl (jA w7))), (a3, .inl (cZ, 496, .inl (jA y3n'))), (a4, .inl (cA, 496, .inl (jA y4n'))), (a5, .inl (cA, 496, .inl (jA y5n'))), (ma, .inr (5, [.int (jI mth), .int (jI mn), .ref a0, .int (jI mp1'19), .int (jI mw1'20), .ref a1, .ref a2, .ref a3, .ref a4, .ref a5, .ref a6, .ref a7, .ref a8, .ref a9, .ref a10, .long (jL mu), .long (jL md), .int (jI mo), .ref a11])), (a0, .inl (cA, 400, .inl (jA y0)))] := hD
                  have hP9 := hP.sub (ws' := [(ma, .inr (5, [.int (jI mth), .int (jI mn), .ref a0, .int (jI mp1'19), .int (jI mw1'20), .ref a1, .ref a2, .ref a3, .ref a4, .ref a5, .ref a6, .ref a7, .ref a8, .ref a9, .ref a10, .long (jL mu), .long (jL md), .int (jI mo), .ref a11])), (a0, .inl (cA, 400, .inl (jA y0))), (a1, .inl (cZ, 62, .inl (jA (jset y1 (31 + r) 1)))), (a2, .inl (cA, 62, .inl (jA (jset y2 (31 + r) jd)))), (a3, .inl (cZ, 496, .inl (jA y3n'))), (a4, .inl (cA, 496, .inl (jA y4n'))), (a5, .inl (cA, 496, .inl (jA y5n'))), (a6, .inl (cA, 62, .inl (jA w6))), (a7, .inl (cA, 248, .inl (jA w7)))]) [7, 8, 0, 1, 4, 5, 6, 2, 3] rfl
                  have hD9 := hD.sub (ws' := [(ma, .inr (5, [.int (jI mth), .int (jI mn), .ref a0, .int (jI mp1'19), .int (jI mw1'20), .ref a1, .ref a2, .ref a3, .ref a4, .ref a5, .ref a6, .ref a7, .ref a8, .ref a9, .ref a10, .long (jL mu), .long (jL md), .int (jI mo), .ref a11])), (a0, .inl (cA, 400, .inl (jA y0))), (a1, .inl (cZ, 62, .inl (jA (jset y1 (31 + r) 1)))), (a2, .inl (cA, 62, .inl (jA (jset y2 (31 + r) jd)))), (a3, .inl (cZ, 496, .inl (jA y3n'))), (a4, .inl (cA, 496, .inl (jA y4n'))), (a5, .inl (cA, 496, .inl (jA y5n'))), (a6, .inl (cA, 62, .inl (jA w6))), (a7, .inl (cA, 248, .inl (jA w7)))]) [7, 8, 0, 1, 4, 5, 6, 2, 3] (by decide) rfl
                  subst hAe
                  subst hQ
                  exact W.vret hx hb hr (fun t ht hW => ⟨⟨(mp1'19, mw1'20, jset y1 (31 + r) 1, jset y2 (31 + r) jd, y3n', y4n', y5n', w6, w7), rfl, ⟨Eq.trans (by rw [f_XM_gradeP_L97_s]; rw [← hwb17]; try dsimp only; rw [if_pos c103_]; rw [← hwb22]; try dsimp only; rw [if_pos c181_]; try rfl) hF, show mp ≤ mp1'19 ∧ mp1'19 ≤ mn from by first | assumption | omega | exact jset_b (by assumption) (by omega), show -1 ≤ mw1'20 ∧ mw1'20 ≤ 400 ∧ mw ≤ mw1'20 from by first | assumption | omega | exact jset_b (by assumption) (by omega), show ∀ i, 0 ≤ (jset y1 (31 + r) 1) i ∧ (jset y1 (31 + r) 1) i ≤ 1 from by first | assumption | omega | exact jset_b (by assumption) (by omega), show ∀ i, 0 ≤ (jset y2 (31 + r) jd) i ∧ (jset y2 (31 + r) jd) i ≤ 30 from by first | assumption | omega | exact jset_b (by assumption) (by omega), show ∀ i, 0 ≤ y3n' i ∧ y3n' i ≤ 1 from by first | assumption | omega | exact jset_b (by assumption) (by omega), show ∀ i, 0 ≤ y4n' i ∧ y4n' i ≤ 100000 from by first | assumption | omega | exact jset_b (by assumption) (by omega), show ∀ i, 0 ≤ y5n' i ∧ y5n' i ≤ 100000 from by first | assumption | omega | exact jset_b (by assumption) (by omega), show ∀ i, -2147483648 ≤ w6 i ∧ w6 i ≤ 2147483647 from by first | assumption | omega | exact jset_b (by assumption) (by omega), show ∀ i, -1 ≤ w7 i ∧ w7 i ≤ 999999 from by first | assumption | omega | exact jset_b (by assumption) (by omega)⟩, ⟨by rw [ht]; exact hP9, va_K.moved hW.alike hK, hD9⟩⟩, hS.F ht⟩) hS.2.2 dXM_grade_191
              · refine lv_aload_n hx hb dXM_grade_106 rfl (lv_at hl 2 rfl) ?_
                refine ji_iconst hx hb dXM_grade_107 ?_
                refine ji_iconst hx hb dXM_grade_108 ?_
                refine jwVi (rest := []) (wr := [(a1, .inl (cZ, 62, .inl (jA y1))), (a2, .inl (cA, 62, .inl (jA (jset y2 (31 + r) jd)))), (a6, .inl (cA, 62, .inl (jA w6))), (a7, .inl (cA, 248, .inl (jA w7))), (a3, .inl (cZ, 496, .inl (jA y3n'))), (a4, .inl (cA, 496, .inl (jA y4n'))), (a5, .inl (cA, 496, .inl (jA y5n')))]) ⟨hx, hb, hml, hown, hts⟩ (c_XM_numberP l dC dI cA cZ _ ma a0 a1 a2 a3 a4 a5 a6 a7 a8 a9 a10 a11 mth mn mp1'14 w mu md mo y0 0 3 (by first | assumption | omega) (by first | assumption | omega) (by first | assumption | omega) (by first | assumption | omega) (by first | assumption | omega)) (cwV 2 hts (jG_V tw_726 tw_728 ts_20 tw_6 tw_729) rfl rfl rfl (by decide +kernel) (by rw [hR]; exact ⟨Nat.le_of_ble_eq_true rfl, Nat.le_of_ble_eq_true rfl⟩)) hK hP hD hS hA hN [7, 8] [0, 1, 2, 3, 4, 5, 6] rfl rfl (by decide) (by decide) (by decide) 7 5 rfl rfl rfl rfl hl.1 rfl (Nat.le_of_ble_eq_true rfl) dXM_grade_109 (by rw [hR]; exact ⟨Nat.le_of_ble_eq_true rfl, Nat.le_of_ble_eq_true rfl⟩) (fun v30 u29 H locs hwb31 hP hD hS => ?_)
                obtain ⟨r26, mp1'27, mw1'28⟩ := u29
                try dsimp only at hwb31
                obtain ⟨er, hwb31, f32, f33, f34, f35⟩ := hwb31
                subst er
                have f32 : 0 ≤ r26 ∧ r26 ≤ 3 := f32
                have f33 : mp1'14 ≤ mp1'27 ∧ mp1'27 ≤ mn := f33
                have f34 : -1 ≤ mw1'28 ∧ mw1'28 ≤ 400 ∧ w ≤ mw1'28 := f34
                have f35 : mw1'28 < 0 → mp1'14 < mp1'27 := f35
                have hP : va_P (dC, dI) vwCl [(a1, .inl (cZ, 62, .inl (jA y1))), (a2, .inl (cA, 62, .inl (jA (jset y2 (31 + r) jd)))), (a6, .inl (cA, 62, .inl (jA w6))), (a7, .inl (cA, 248, .inl (jA w7))), (a3, .inl (cZ, 496, .inl (jA y3n'))), (a4, .inl (cA, 496, .inl (jA y4n'))), (a5, .inl (cA, 496, .inl (jA y5n'))), (ma, .inr (5, [.int (jI mth), .int (jI mn), .ref a0, .int (jI mp1'27), .int (jI mw1'28), .ref a1, .ref a2, .ref a3, .ref a4, .ref a5, .ref a6, .ref a7, .ref a8, .ref a9, .ref a10, .long (jL mu), .long (jL md), .int (jI mo), .ref a11])), (a0, .inl (cA, 400, .inl (jA y0)))] H := hP
                have hD : va_D A [(a1, .inl (cZ, 62, .inl (jA y1))), (a2, .inl (cA, 62, .inl (jA (jset y2 (31 + r) jd)))), (a6, .inl (cA, 62, .inl (jA w6))), (a7, .inl (cA, 248, .inl (jA w7))), (a3, .inl (cZ, 496, .inl (jA y3n'))), (a4, .inl (cA, 496, .inl (jA y4n'))), (a5, .inl (cA, 496, .inl (jA y5n'))), (ma, .inr (5, [.int (jI mth), .int (jI mn), .ref a0, .int (jI mp1'27), .int (jI mw1'28), .ref a1, .ref a2, .ref a3, .ref a4, .ref a5, .ref a6, .ref a7, .ref a8, .ref a9, .ref a10, .long (jL mu), .long (jL md), .int (jI mo), .ref a11])), (a0, .inl (cA, 400, .inl (jA y0)))] := hD
                refine lv_istore_n (lv' := [(3, .int (jI r26)), (2, .int (jI mks)), (1, .int (jI (31 + r))), (0, .ref ma)]) hx hb dXM_grade_112 rfl hl (by decide) rfl (fun ls hl => ?_)
                refine lv_aload_n hx hb dXM_grade_113 rfl (lv_at hl 3 rfl) ?_
                refine va_get (D := (dC, dI)) (ci := 5) (v := .int (jI mw1'28)) (C := RXM) (T := TXM) (N := 19) hx hb hts (fun w h => jmem (inXM w h)) hown hK hP 7 rfl rfl 4 (by decide) (hts _ (jmem tw_632)) (fun _ h9 => h9) rfl dXM_grade_114 ?_
                refine ji_if_ge (tgt := 139) hx hb dXM_grade_117 (by decide) (by omega) (fun c117_ => ?_) (fun c117_ => ?_)
                · refine lv_iload_n hx hb dXM_grade_139 rfl (lv_at hl 1 rfl) ?_
                  refine ji_iconst hx hb dXM_grade_140 ?_
                  refine lv_iload_n hx hb dXM_grade_141 rfl (lv_at hl 0 rfl) ?_
                  refine lv_ishl hx hb dXM_grade_142 ?_
                  refine ji_rev ?_
                  have rb := jti32 (jI 1 <<< (jI r26 &&& 31))
                  refine lv_ior hx hb dXM_grade_143 ?_
                  refine ji_rev ?_
                  have rb36 := jti32 (jI mks ||| jI ((jI 1 <<< (jI r26 &&& 31)).toInt))
                  refine lv_istore_n (lv' := [(2, .int (jI ((jI mks ||| jI ((jI 1 <<< (jI r26 &&& 31)).toInt)).toInt))), (3, .int (jI r26)), (1, .int (jI (31 + r))), (0, .ref ma)]) hx hb dXM_grade_144 rfl hl (by decide) rfl (fun ls hl => ?_)
                  refine lv_aload_n hx hb dXM_grade_145 rfl (lv_at hl 3 rfl) ?_
                  refine ji_bipush hx hb dXM_grade_146 (by decide) ?_
                  refine jwVv (rest := []) (wr := [(a1, .inl (cZ, 62, .inl (jA y1))), (a2, .inl (cA, 62, .inl (jA (jset y2 (31 + r) jd)))), (a6, .inl (cA, 62, .inl (jA w6))), (a7, .inl (cA, 248, .inl (jA w7))), (a3, .inl (cZ, 496, .inl (jA y3n'))), (a4, .inl (cA, 496, .inl (jA y4n'))), (a5, .inl (cA, 496, .inl (jA y5n')))]) ⟨hx, hb, hml, hown, hts⟩ (c_XM_takeP l dC dI cA cZ _ ma a0 a1 a2 a3 a4 a5 a6 a7 a8 a9 a10 a11 mth mn mp1'27 mw1'28 mu md mo y0 60 (by first | assumption | omega) (by first | assumption | omega) (by first | assumption | omega) (by first | assumption | omega) (by first | assumption | omega)) (cwV 1 hts (jG_V tw_738 tw_740 ts_23 tw_6 tw_741) rfl rfl rfl (by decide +kernel) (by rw [hR]; exact ⟨Nat.le_of_ble_eq_true rfl, Nat.le_of_ble_eq_true rfl⟩)) hK hP hD hS hA hN [7, 8] [0, 1, 2, 3, 4, 5, 6] rfl rfl (by decide) (by decide) (by decide) 7 5 rfl rfl rfl rfl hl.1 rfl (Nat.le_of_ble_eq_true rfl) dXM_grade_148 (by rw [hR]; exact ⟨Nat.le_of_ble_eq_true rfl, Nat.le_of_ble_eq_true rfl⟩) (fun u39 H locs hwb40 hP hD hS => ?_)
                  obtain ⟨mp1'37, mw1'38⟩ := u39
                  try dsimp only at hwb40
                  obtain ⟨hwb40, f41, f42, f43⟩ := hwb40
                  have f41 : mp1'27 ≤ mp1'37 ∧ mp1'37 ≤ mn := f41
                  have f42 : -1 ≤ mw1'38 ∧ mw1'38 ≤ 400 ∧ mw1'28 ≤ mw1'38 := f42
                  have f43 : mw1'38 < 0 → mp1'27 < mp1'37 := f43
                  have hP : va_P (dC, dI) vwCl [(a1, .inl (cZ, 62, .inl (jA y1))), (a2, .inl (cA, 62, .inl (jA (jset y2 (31 + r) jd)))), (a6, .inl (cA, 62, .inl (jA w6))), (a7, .inl (cA, 248, .inl (jA w7))), (a3, .inl (cZ, 496, .inl (jA y3n'))), (a4, .inl (cA, 496, .inl (jA y4n'))), (a5, .inl (cA, 496, .inl (jA y5n'))), (ma, .inr (5, [.int (jI mth), .int (jI mn), .ref a0, .int (jI mp1'37), .int (jI mw1'38), .ref a1, .ref a2, .ref a3, .ref a4, .ref a5, .ref a6, .ref a7, .ref a8, .ref a9, .ref a10, .long (jL mu), .long (jL md), .int (jI mo), .ref a11])), (a0, .inl (cA, 400, .inl (jA y0)))] H := hP
                  have hD : va_D A [(a1, .inl (cZ, 62, .inl (jA y1))), (a2, .inl (cA, 62, .inl (jA (jset y2 (31 + r) jd)))), (a6, .inl (cA, 62, .inl (jA w6))), (a7, .inl (cA, 248, .inl (jA w7))), (a3, .inl (cZ, 496, .inl (jA y3n'))), (a4, .inl (cA, 496, .inl (jA y4n'))), (a5, .inl (cA, 496, .inl (jA y5n'))), (ma, .inr (5, [.int (jI mth), .int (jI mn), .ref a0, .int (jI mp1'37), .int (jI mw1'38), .ref a1, .ref a2, .ref a3, .ref a4, .ref a5, .ref a6, .ref a7, .ref a8, .ref a9, .ref a10, .long (jL mu), .long (jL md), .int (jI mo), .ref a11])), (a0, .inl (cA, 400, .inl (jA y0)))] := hD
                  refine lv_aload_n hx hb dXM_grade_151 rfl (lv_at hl 3 rfl) ?_
                  refine va_get (D := (dC, dI)) (ci := 5) (v := .ref a7) (C := RXM) (T := TXM) (N := 19) hx hb hts (fun w h => jmem (inXM w h)) hown hK hP 7 rfl rfl 11 (by decide) (hts _ (jmem tw_639)) (fun _ h9 => h9) rfl dXM_grade_152 ?_
                  refine ji_iconst hx hb dXM_grade_155 ?_
                  refine lv_iload_n hx hb dXM_grade_156 rfl (lv_at hl 2 rfl) ?_
                  refine ji_imul hx hb dXM_grade_157 ?_
                  refine lv_iload_n hx hb dXM_grade_158 rfl (lv_at hl 1 rfl) ?_
                  refine ji_iadd hx hb dXM_grade_159 ?_
                  refine lv_aload_n hx hb dXM_grade_160 rfl (lv_at hl 3 rfl) ?_
                  refine ji_iconst hx hb dXM_grade_161 ?_
                  refine lv_ldc hx hb hown (hts _ (jmem tw_759)) dXM_grade_162 ?_
                  refine ji_re (y := 999999) (by decide) ?_
                  refine jwVi (rest := [.int (jI ((4 * (31 + r)) + r26)), .ref a7]) (wr := [(a1, .inl (cZ, 62, .inl (jA y1))), (a2, .inl (cA, 62, .inl (jA (jset y2 (31 + r) jd)))), (a6, .inl (cA, 62, .inl (jA w6))), (a7, .inl (cA, 248, .inl (jA w7))), (a3, .inl (cZ, 496, .inl (jA y3n'))), (a4, .inl (cA, 496, .inl (jA y4n'))), (a5, .inl (cA, 496, .inl (jA y5n')))]) ⟨hx, hb, hml, hown, hts⟩ (c_XM_numberP l dC dI cA cZ _ ma a0 a1 a2 a3 a4 a5 a6 a7 a8 a9 a10 a11 mth mn mp1'37 mw1'38 mu md mo y0 0 999999 (by first | assumption | omega) (by first | assumption | omega) (by first | assumption | omega) (by first | assumption | omega) (by first | assumption | omega)) (cwV 2 hts (jG_V tw_726 tw_728 ts_20 tw_6 tw_729) rfl rfl rfl (by decide +kernel) (by rw [hR]; exact ⟨Nat.le_of_ble_eq_true rfl, Nat.le_of_ble_eq_true rfl⟩)) hK hP hD hS hA hN [7, 8] [0, 1, 2, 3, 4, 5, 6] rfl rfl (by decide) (by decide) (by decide) 7 5 rfl rfl rfl rfl hl.1 rfl (Nat.le_of_ble_eq_true rfl) dXM_grade_164 (by rw [hR]; exact ⟨Nat.le_of_ble_eq_true rfl, Nat.le_of_ble_eq_true rfl⟩) (fun v48 u47 H locs hwb49 hP hD hS => ?_)
                  obtain ⟨r44, mp1'45, mw1'46⟩ := u47
                  try dsimp only at hwb49
                  obtain ⟨er, hwb49, f50, f51, f52, f53⟩ := hwb49
                  subst er
                  have f50 : 0 ≤ r44 ∧ r44 ≤ 999999 := f50
                  have f51 : mp1'37 ≤ mp1'45 ∧ mp1'45 ≤ mn := f51
                  have f52 : -1 ≤ mw1'46 ∧ mw1'46 ≤ 400 ∧ mw1'38 ≤ mw1'46 := f52
                  have f53 : mw1'46 < 0 → mp1'37 < mp1'45 := f53
                  have hP : va_P (dC, dI) vwCl [(a1, .inl (cZ, 62, .inl (jA y1))), (a2, .inl (cA, 62, .inl (jA (jset y2 (31 + r) jd)))), (a6, .inl (cA, 62, .inl (jA w6))), (a7, .inl (cA, 248, .inl (jA w7))), (a3, .inl (cZ, 496, .inl (jA y3n'))), (a4, .inl (cA, 496, .inl (jA y4n'))), (a5, .inl (cA, 496, .inl (jA y5n'))), (ma, .inr (5, [.int (jI mth), .int (jI mn), .ref a0, .int (jI mp1'45), .int (jI mw1'46), .ref a1, .ref a2, .ref a3, .ref a4, .ref a5, .ref a6, .ref a7, .ref a8, .ref a9, .ref a10, .long (jL mu), .long (jL md), .int (jI mo), .ref a11])), (a0, .inl (cA, 400, .inl (jA y0)))] H := hP
                  have hD : va_D A [(a1, .inl (cZ, 62, .inl (jA y1))), (a2, .inl (cA, 62, .inl (jA (jset y2 (31 + r) jd)))), (a6, .inl (cA, 62, .inl (jA w6))), (a7, .inl (cA, 248, .inl (jA w7))), (a3, .inl (cZ, 496, .inl (jA y3n'))), (a4, .inl (cA, 496, .inl (jA y4n'))), (a5, .inl (cA, 496, .inl (jA y5n'))), (ma, .inr (5, [.int (jI mth), .int (jI mn), .ref a0, .int (jI mp1'45), .int (jI mw1'46), .ref a1, .ref a2, .ref a3, .ref a4, .ref a5, .ref a6, .ref a7, .ref a8, .ref a9, .ref a10, .long (jL mu), .long (jL md), .int (jI mo), .ref a11])), (a0, .inl (cA, 400, .inl (jA y0)))] := hD
                  refine ji_iast hx hb hK hP hD hS 3 0 rfl rfl ⟨by omega, by omega⟩ (by decide) dXM_grade_167 (fun H locs hP hD hS => ?_)
                  have hP : va_P (dC, dI) vwCl [(a1, .inl (cZ, 62, .inl (jA y1))), (a2, .inl (cA, 62, .inl (jA (jset y2 (31 + r) jd)))), (a6, .inl (cA, 62, .inl (jA w6))), (a7, .inl (cA, 248, .inl (jA (jset w7 ((4 * (31 + r)) + r26) r44)))), (a3, .inl (cZ, 496, .inl (jA y3n'))), (a4, .inl (cA, 496, .inl (jA y4n'))), (a5, .inl (cA, 496, .inl (jA y5n'))), (ma, .inr (5, [.int (jI mth), .int (jI mn), .ref a0, .int (jI mp1'45), .int (jI mw1'46), .ref a1, .ref a2, .ref a3, .ref a4, .ref a5, .ref a6, .ref a7, .ref a8, .ref a9, .ref a10, .long (jL mu), .long (jL md), .int (jI mo), .ref a11])), (a0, .inl (cA, 400, .inl (jA y0)))] H := hP
                  have hD : va_D A [(a1, .inl (cZ, 62, .inl (jA y1))), (a2, .inl (cA, 62, .inl (jA (jset y2 (31 + r) jd)))), (a6, .inl (cA, 62, .inl (jA w6))), (a7, .inl (cA, 248, .inl (jA (jset w7 ((4 * (31 + r)) + r26) r44)))), (a3, .inl (cZ, 496, .inl (jA y3n'))), (a4, .inl (cA, 496, .inl (jA y4n'))), (a5, .inl (cA, 496, .inl (jA y5n'))), (ma, .inr (5, [.int (jI mth), .int (jI mn), .ref a0, .int (jI mp1'45), .int (jI mw1'46), .ref a1, .ref a2, .ref a3, .ref a4, .ref a5, .ref a6, .ref a7, .ref a8, .ref a9, .ref a10, .long (jL mu), .long (jL md), .int (jI mo), .ref a11])), (a0, .inl (cA, 400, .inl (jA y0)))] := hD
                  refine lv_goto (tgt := 97) hx hb dXM_grade_168 (by decide) ?_
                  exact ih97 ((jI mks ||| jI ((jI 1 <<< (jI r26 &&& 31)).toInt)).toInt) mp1'45 mw1'46 (jset w7 ((4 * (31 + r)) + r26) r44) (by omega) (Eq.trans (by rw [f_XM_gradeP_L97_s]; rw [← hwb17]; try dsimp only; rw [if_neg c103_]; rw [← hwb31]; try dsimp only; rw [if_neg (Int.not_lt.mpr c117_)]; rw [← hwb40]; try dsimp only; rw [← hwb49]; try dsimp only; try rfl) hF) (by first | assumption | omega | exact jset_b (by assumption) (by omega)) (by first | assumption | omega | exact jset_b (by assumption) (by omega)) (by first | assumption | omega | exact jset_b (by assumption) (by omega)) (by first | assumption | omega | exact jset_b (by assumption) (by omega)) _ _ (hP.sub [0, 1, 2, 3, 7, 8, 4, 5, 6] rfl) (hD.sub [0, 1, 2, 3, 7, 8, 4, 5, 6] (by decide) rfl) hS ls (lv_sub hl [0, 2, 3] rfl)
                · refine lv_iload_n hx hb dXM_grade_120 rfl (lv_at hl 1 rfl) ?_
                  refine lv_iload_n hx hb dXM_grade_121 rfl (lv_at hl 0 rfl) ?_
                  refine lv_ishr hx hb dXM_grade_122 ?_
                  refine ji_rev ?_
                  have rb54 := jti32 (jI mks >>> (jI r26 &&& 31))
                  refine ji_iconst hx hb dXM_grade_123 ?_
                  refine lv_iand hx hb dXM_grade_124 ?_
                  refine ji_rev ?_
                  have rb55 := jti32 (jI ((jI mks >>> (jI r26 &&& 31)).toInt) &&& jI 1)
                  refine ji_iconst hx hb dXM_grade_125 ?_
                  refine ji_icmp_ne (tgt := 139) hx hb dXM_grade_126 (by decide) (by omega) (by omega) (fun c126_ => ?_) (fun c126_ => ?_)
                  · refine lv_iload_n hx hb dXM_grade_139 rfl (lv_at hl 1 rfl) ?_
                    refine ji_iconst hx hb dXM_grade_140 ?_
                    refine lv_iload_n hx hb dXM_grade_141 rfl (lv_at hl 0 rfl) ?_
                    refine lv_ishl hx hb dXM_grade_142 ?_
                    refine ji_rev ?_
                    have rb56 := jti32 (jI 1 <<< (jI r26 &&& 31))
                    refine lv_ior hx hb dXM_grade_143 ?_
                    refine ji_rev ?_
                    have rb57 := jti32 (jI mks ||| jI ((jI 1 <<< (jI r26 &&& 31)).toInt))
                    refine lv_istore_n (lv' := [(2, .int (jI ((jI mks ||| jI ((jI 1 <<< (jI r26 &&& 31)).toInt)).toInt))), (3, .int (jI r26)), (1, .int (jI (31 + r))), (0, .ref ma)]) hx hb dXM_grade_144 rfl hl (by decide) rfl (fun ls hl => ?_)
                    refine lv_aload_n hx hb dXM_grade_145 rfl (lv_at hl 3 rfl) ?_
                    refine ji_bipush hx hb dXM_grade_146 (by decide) ?_
                    refine jwVv (rest := []) (wr := [(a1, .inl (cZ, 62, .inl (jA y1))), (a2, .inl (cA, 62, .inl (jA (jset y2 (31 + r) jd)))), (a6, .inl (cA, 62, .inl (jA w6))), (a7, .inl (cA, 248, .inl (jA w7))), (a3, .inl (cZ, 496, .inl (jA y3n'))), (a4, .inl (cA, 496, .inl (jA y4n'))), (a5, .inl (cA, 496, .inl (jA y5n')))]) ⟨hx, hb, hml, hown, hts⟩ (c_XM_takeP l dC dI cA cZ _ ma a0 a1 a2 a3 a4 a5 a6 a7 a8 a9 a10 a11 mth mn mp1'27 mw1'28 mu md mo y0 60 (by first | assumption | omega) (by first | assumption | omega) (by first | assumption | omega) (by first | assumption | omega) (by first | assumption | omega)) (cwV 1 hts (jG_V tw_738 tw_740 ts_23 tw_6 tw_741) rfl rfl rfl (by decide +kernel) (by rw [hR]; exact ⟨Nat.le_of_ble_eq_true rfl, Nat.le_of_ble_eq_true rfl⟩)) hK hP hD hS hA hN [7, 8] [0, 1, 2, 3, 4, 5, 6] rfl rfl (by decide) (by decide) (by decide) 7 5 rfl rfl rfl rfl hl.1 rfl (Nat.le_of_ble_eq_true rfl) dXM_grade_148 (by rw [hR]; exact ⟨Nat.le_of_ble_eq_true rfl, Nat.le_of_ble_eq_true rfl⟩) (fun u60 H locs hwb61 hP hD hS => ?_)
                    obtain ⟨mp1'58, mw1'59⟩ := u60
                    try dsimp only at hwb61
                    obtain ⟨hwb61, f62, f63, f64⟩ := hwb61
                    have f62 : mp1'27 ≤ mp1'58 ∧ mp1'58 ≤ mn := f62
                    have f63 : -1 ≤ mw1'59 ∧ mw1'59 ≤ 400 ∧ mw1'28 ≤ mw1'59 := f63
                    have f64 : mw1'59 < 0 → mp1'27 < mp1'58 := f64
                    have hP : va_P (dC, dI) vwCl [(a1, .inl (cZ, 62, .inl (jA y1))), (a2, .inl (cA, 62, .inl (jA (jset y2 (31 + r) jd)))), (a6, .inl (cA, 62, .inl (jA w6))), (a7, .inl (cA, 248, .inl (jA w7))), (a3, .inl (cZ, 496, .inl (jA y3n'))), (a4, .inl (cA, 496, .inl (jA y4n'))), (a5, .inl (cA, 496, .inl (jA y5n'))), (ma, .inr (5, [.int (jI mth), .int (jI mn), .ref a0, .int (jI mp1'58), .int (jI mw1'59), .ref a1, .ref a2, .ref a3, .ref a4, .ref a5, .ref a6, .ref a7, .ref a8, .ref a9, .ref a10, .long (jL mu), .long (jL md), .int (jI mo), .ref a11])), (a0, .inl (cA, 400, .inl (jA y0)))] H := hP
                    have hD : va_D A [(a1, .inl (cZ, 62, .inl (jA y1))), (a2, .inl (cA, 62, .inl (jA (jset y2 (31 + r) jd)))), (a6, .inl (cA, 62, .inl (jA w6))), (a7, .inl (cA, 248, .inl (jA w7))), (a3, .inl (cZ, 496, .inl (jA y3n'))), (a4, .inl (cA, 496, .inl (jA y4n'))), (a5, .inl (cA, 496, .inl (jA y5n'))), (ma, .inr (5, [.int (jI mth), .int (jI mn), .ref a0, .int (jI mp1'58), .int (jI mw1'59), .ref a1, .ref a2, .ref a3, .ref a4, .ref a5, .ref a6, .ref a7, .ref a8, .ref a9, .ref a10, .long (jL mu), .long (jL md), .int (jI mo), .ref a11])), (a0, .inl (cA, 400, .inl (jA y0)))] := hD
                    refine lv_aload_n hx hb dXM_grade_151 rfl (lv_at hl 3 rfl) ?_
                    refine va_get (D := (dC, dI)) (ci := 5) (v := .ref a7) (C := RXM) (T := TXM) (N := 19) hx hb hts (fun w h => jmem (inXM w h)) hown hK hP 7 rfl rfl 11 (by decide) (hts _ (jmem tw_639)) (fun _ h9 => h9) rfl dXM_grade_152 ?_
                    refine ji_iconst hx hb dXM_grade_155 ?_
                    refine lv_iload_n hx hb dXM_grade_156 rfl (lv_at hl 2 rfl) ?_
                    refine ji_imul hx hb dXM_grade_157 ?_
                    refine lv_iload_n hx hb dXM_grade_158 rfl (lv_at hl 1 rfl) ?_
                    refine ji_iadd hx hb dXM_grade_159 ?_
                    refine lv_aload_n hx hb dXM_grade_160 rfl (lv_at hl 3 rfl) ?_
                    refine ji_iconst hx hb dXM_grade_161 ?_
                    refine lv_ldc hx hb hown (hts _ (jmem tw_759)) dXM_grade_162 ?_
                    refine ji_re (y := 999999) (by decide) ?_
                    refine jwVi (rest := [.int (jI ((4 * (31 + r)) + r26)), .ref a7]) (wr := [(a1, .inl (cZ, 62, .inl (jA y1))), (a2, .inl (cA, 62, .inl (jA (jset y2 (31 + r) jd)))), (a6, .inl (cA, 62, .inl (jA w6))), (a7, .inl (cA, 248, .inl (jA w7))), (a3, .inl (cZ, 496, .inl (jA y3n'))), (a4, .inl (cA, 496, .inl (jA y4n'))), (a5, .inl (cA, 496, .inl (jA y5n')))]) ⟨hx, hb, hml, hown, hts⟩ (c_XM_numberP l dC dI cA cZ _ ma a0 a1 a2 a3 a4 a5 a6 a7 a8 a9 a10 a11 mth mn mp1'58 mw1'59 mu md mo y0 0 999999 (by first | assumption | omega) (by first | assumption | omega) (by first | assumption | omega) (by first | assumption | omega) (by first | assumption | omega)) (cwV 2 hts (jG_V tw_726 tw_728 ts_20 tw_6 tw_729) rfl rfl rfl (by decide +kernel) (by rw [hR]; exact ⟨Nat.le_of_ble_eq_true rfl, Nat.le_of_ble_eq_true rfl⟩)) hK hP hD hS hA hN [7, 8] [0, 1, 2, 3, 4, 5, 6] rfl rfl (by decide) (by decide) (by decide) 7 5 rfl rfl rfl rfl hl.1 rfl (Nat.le_of_ble_eq_true rfl) dXM_grade_164 (by rw [hR]; exact ⟨Nat.le_of_ble_eq_true rfl, Nat.le_of_ble_eq_true rfl⟩) (fun v69 u68 H locs hwb70 hP hD hS => ?_)
                    obtain ⟨r65, mp1'66, mw1'67⟩ := u68
                    try dsimp only at hwb70
                    obtain ⟨er, hwb70, f71, f72, f73, f74⟩ := hwb70
                    subst er
                    have f71 : 0 ≤ r65 ∧ r65 ≤ 999999 := f71
                    have f72 : mp1'58 ≤ mp1'66 ∧ mp1'66 ≤ mn := f72
                    have f73 : -1 ≤ mw1'67 ∧ mw1'67 ≤ 400 ∧ mw1'59 ≤ mw1'67 := f73
                    have f74 : mw1'67 < 0 → mp1'58 < mp1'66 := f74
                    have hP : va_P (dC, dI) vwCl [(a1, .inl (cZ, 62, .inl (jA y1))), (a2, .inl (cA, 62, .inl (jA (jset y2 (31 + r) jd)))), (a6, .inl (cA, 62, .inl (jA w6))), (a7, .inl (cA, 248, .inl (jA w7))), (a3, .inl (cZ, 496, .inl (jA y3n'))), (a4, .inl (cA, 496, .inl (jA y4n'))), (a5, .inl (cA, 496, .inl (jA y5n'))), (ma, .inr (5, [.int (jI mth), .int (jI mn), .ref a0, .int (jI mp1'66), .int (jI mw1'67), .ref a1, .ref a2, .ref a3, .ref a4, .ref a5, .ref a6, .ref a7, .ref a8, .ref a9, .ref a10, .long (jL mu), .long (jL md), .int (jI mo), .ref a11])), (a0, .inl (cA, 400, .inl (jA y0)))] H := hP
                    have hD : va_D A [(a1, .inl (cZ, 62, .inl (jA y1))), (a2, .inl (cA, 62, .inl (jA (jset y2 (31 + r) jd)))), (a6, .inl (cA, 62, .inl (jA w6))), (a7, .inl (cA, 248, .inl (jA w7))), (a3, .inl (cZ, 496, .inl (jA y3n'))), (a4, .inl (cA, 496, .inl (jA y4n'))), (a5, .inl (cA, 496, .inl (jA y5n'))), (ma, .inr (5, [.int (jI mth), .int (jI mn), .ref a0, .int (jI mp1'66), .int (jI mw1'67), .ref a1, .ref a2, .ref a3, .ref a4, .ref a5, .ref a6, .ref a7, .ref a8, .ref a9, .ref a10, .long (jL mu), .long (jL md), .int (jI mo), .ref a11])), (a0, .inl (cA, 400, .inl (jA y0)))] := hD
                    refine ji_iast hx hb hK hP hD hS 3 0 rfl rfl ⟨by omega, by omega⟩ (by decide) dXM_grade_167 (fun H locs hP hD hS => ?_)
                    have hP : va_P (dC, dI) vwCl [(a1, .inl (cZ, 62, .inl (jA y1))), (a2, .inl (cA, 62, .inl (jA (jset y2 (31 + r) jd)))), (a6, .inl (cA, 62, .inl (jA w6))), (a7, .inl (cA, 248, .inl (jA (jset w7 ((4 * (31 + r)) + r26) r65)))), (a3, .inl (cZ, 496, .inl (jA y3n'))), (a4, .inl (cA, 496, .inl (jA y4n'))), (a5, .inl (cA, 496, .inl (jA y5n'))), (ma, .inr (5, [.int (jI mth), .int (jI mn), .ref a0, .int (jI mp1'66), .int (jI mw1'67), .ref a1, .ref a2, .ref a3, .ref a4, .ref a5, .ref a6, .ref a7, .ref a8, .ref a9, .ref a10, .long (jL mu), .long (jL md), .int (jI mo), .ref a11])), (a0, .inl (cA, 400, .inl (jA y0)))] H := hP
                    have hD : va_D A [(a1, .inl (cZ, 62, .inl (jA y1))), (a2, .inl (cA, 62, .inl (jA (jset y2 (31 + r) jd)))), (a6, .inl (cA, 62, .inl (jA w6))), (a7, .inl (cA, 248, .inl (jA (jset w7 ((4 * (31 + r)) + r26) r65)))), (a3, .inl (cZ, 496, .inl (jA y3n'))), (a4, .inl (cA, 496, .inl (jA y4n'))), (a5, .inl (cA, 496, .inl (jA y5n'))), (ma, .inr (5, [.int (jI mth), .int (jI mn), .ref a0, .int (jI mp1'66), .int (jI mw1'67), .ref a1, .ref a2, .ref a3, .ref a4, .ref a5, .ref a6, .ref a7, .ref a8, .ref a9, .ref a10, .long (jL mu), .long (jL md), .int (jI mo), .ref a11])), (a0, .inl (cA, 400, .inl (jA y0)))] := hD
                    refine lv_goto (tgt := 97) hx hb dXM_grade_168 (by decide) ?_
                    exact ih97 ((jI mks ||| jI ((jI 1 <<< (jI r26 &&& 31)).toInt)).toInt) mp1'66 mw1'67 (jset w7 ((4 * (31 + r)) + r26) r65) (by omega) (Eq.trans (by rw [f_XM_gradeP_L97_s]; rw [← hwb17]; try dsimp only; rw [if_neg c103_]; rw [← hwb31]; try dsimp only; rw [if_pos c117_, if_neg c126_]; rw [← hwb61]; try dsimp only; rw [← hwb70]; try dsimp only; try rfl) hF) (by first | assumption | omega | exact jset_b (by assumption) (by omega)) (by first | assumption | omega | exact jset_b (by assumption) (by omega)) (by first | assumption | omega | exact jset_b (by assumption) (by omega)) (by first | assumption | omega | exact jset_b (by assumption) (by omega)) _ _ (hP.sub [0, 1, 2, 3, 7, 8, 4, 5, 6] rfl) (hD.sub [0, 1, 2, 3, 7, 8, 4, 5, 6] (by decide) rfl) hS ls (lv_sub hl [0, 2, 3] rfl)
                  · refine lv_aload_n hx hb dXM_grade_129 rfl (lv_at hl 3 rfl) ?_
                    refine lv_aload_n hx hb dXM_grade_130 rfl (lv_at hl 3 rfl) ?_
                    refine va_get (D := (dC, dI)) (ci := 5) (v := .int (jI mp1'27)) (C := RXM) (T := TXM) (N := 19) hx hb hts (fun w h => jmem (inXM w h)) hown hK hP 7 rfl rfl 3 (by decide) (hts _ (jmem tw_631)) (fun _ h9 => h9) rfl dXM_grade_131 ?_
                    refine ji_iconst hx hb dXM_grade_134 ?_
                    refine ji_isub hx hb dXM_grade_135 ?_
                    refine jwVv (rest := []) (wr := [(a1, .inl (cZ, 62, .inl (jA y1))), (a2, .inl (cA, 62, .inl (jA (jset y2 (31 + r) jd)))), (a6, .inl (cA, 62, .inl (jA w6))), (a7, .inl (cA, 248, .inl (jA w7))), (a3, .inl (cZ, 496, .inl (jA y3n'))), (a4, .inl (cA, 496, .inl (jA y4n'))), (a5, .inl (cA, 496, .inl (jA y5n'))), (a0, .inl (cA, 400, .inl (jA y0)))]) ⟨hx, hb, hml, hown, hts⟩ (c_XM_failP l dC dI cA cZ _ ma a0 a1 a2 a3 a4 a5 a6 a7 a8 a9 a10 a11 mth mn mp1'27 mw1'28 mu md mo (mp1'27 - 1) (by first | assumption | omega) (by first | assumption | omega)) (cwV 1 hts (jG_V tw_734 tw_736 ts_22 tw_6 tw_737) rfl rfl rfl (by decide +kernel) (by rw [hR]; exact ⟨Nat.le_of_ble_eq_true rfl, Nat.le_of_ble_eq_true rfl⟩)) hK hP hD hS hA hN [7] [0, 1, 2, 3, 4, 5, 6, 8] rfl rfl (by decide) (by decide) (by decide) 7 5 rfl rfl rfl rfl hl.1 rfl (Nat.le_of_ble_eq_true rfl) dXM_grade_136 (by rw [hR]; exact ⟨Nat.le_of_ble_eq_true rfl, Nat.le_of_ble_eq_true rfl⟩) (fun u75 H locs hw hP hD hS => ?_)
                    obtain ⟨hw, f76⟩ := hw
                    subst hw
                    have f76 : (0 ≤ mw1'28 ∧ (f_XM_failP mth mn mp1'27 mw1'28 mu md mo (mp1'27 - 1)) = mw1'28) ∨ (mw1'28 < 0 ∧ (f_XM_failP mth mn mp1'27 mw1'28 mu md mo (mp1'27 - 1)) = (mp1'27 - 1)) := f76
                    have hP : va_P (dC, dI) vwCl [(a1, .inl (cZ, 62, .inl (jA y1))), (a2, .inl (cA, 62, .inl (jA (jset y2 (31 + r) jd)))), (a6, .inl (cA, 62, .inl (jA w6))), (a7, .inl (cA, 248, .inl (jA w7))), (a3, .inl (cZ, 496, .inl (jA y3n'))), (a4, .inl (cA, 496, .inl (jA y4n'))), (a5, .inl (cA, 496, .inl (jA y5n'))), (a0, .inl (cA, 400, .inl (jA y0))), (ma, .inr (5, [.int (jI mth), .int (jI mn), .ref a0, .int (jI mp1'27), .int (jI (f_XM_failP mth mn mp1'27 mw1'28 mu md mo (mp1'27 - 1))), .ref a1, .ref a2, .ref a3, .ref a4, .ref a5, .ref a6, .ref a7, .ref a8, .ref a9, .ref a10, .long (jL mu), .long (jL md), .int (jI mo), .ref a11]))] H := hP
                    have hD : va_D A [(a1, .inl (cZ, 62, .inl (jA y1))), (a2, .inl (cA, 62, .inl (jA (jset y2 (31 + r) jd)))), (a6, .inl (cA, 62, .inl (jA w6))), (a7, .inl (cA, 248, .inl (jA w7))), (a3, .inl (cZ, 496, .inl (jA y3n'))), (a4, .inl (cA, 496, .inl (jA y4n'))), (a5, .inl (cA, 496, .inl (jA y5n'))), (a0, .inl (cA, 400, .inl (jA y0))), (ma, .inr (5, [.int (jI mth), .int (jI mn), .ref a0, .int (jI mp1'27), .int (jI (f_XM_failP mth mn mp1'27 mw1'28 mu md mo (mp1'27 - 1))), .ref a1, .ref a2, .ref a3, .ref a4, .ref a5, .ref a6, .ref a7, .ref a8, .ref a9, .ref a10, .long (jL mu), .long (jL md), .int (jI mo), .ref a11]))] := hD
                    refine lv_iload_n hx hb dXM_grade_139 rfl (lv_at hl 1 rfl) ?_
                    refine ji_iconst hx hb dXM_grade_140 ?_
                    refine lv_iload_n hx hb dXM_grade_141 rfl (lv_at hl 0 rfl) ?_
                    refine lv_ishl hx hb dXM_grade_142 ?_
                    refine ji_rev ?_
                    have rb77 := jti32 (jI 1 <<< (jI r26 &&& 31))
                    refine lv_ior hx hb dXM_grade_143 ?_
                    refine ji_rev ?_
                    have rb78 := jti32 (jI mks ||| jI ((jI 1 <<< (jI r26 &&& 31)).toInt))
                    refine lv_istore_n (lv' := [(2, .int (jI ((jI mks ||| jI ((jI 1 <<< (jI r26 &&& 31)).toInt)).toInt))), (3, .int (jI r26)), (1, .int (jI (31 + r))), (0, .ref ma)]) hx hb dXM_grade_144 rfl hl (by decide) rfl (fun ls hl => ?_)
                    refine lv_aload_n hx hb dXM_grade_145 rfl (lv_at hl 3 rfl) ?_
                    refine ji_bipush hx hb dXM_grade_146 (by decide) ?_
                    refine jwVv (rest := []) (wr := [(a1, .inl (cZ, 62, .inl (jA y1))), (a2, .inl (cA, 62, .inl (jA (jset y2 (31 + r) jd)))), (a6, .inl (cA, 62, .inl (jA w6))), (a7, .inl (cA, 248, .inl (jA w7))), (a3, .inl (cZ, 496, .inl (jA y3n'))), (a4, .inl (cA, 496, .inl (jA y4n'))), (a5, .inl (cA, 496, .inl (jA y5n')))]) ⟨hx, hb, hml, hown, hts⟩ (c_XM_takeP l dC dI cA cZ _ ma a0 a1 a2 a3 a4 a5 a6 a7 a8 a9 a10 a11 mth mn mp1'27 (f_XM_failP mth mn mp1'27 mw1'28 mu md mo (mp1'27 - 1)) mu md mo y0 60 (by first | assumption | omega) (by first | assumption | omega) (by first | assumption | omega) (by first | assumption | omega) (by first | assumption | omega)) (cwV 1 hts (jG_V tw_738 tw_740 ts_23 tw_6 tw_741) rfl rfl rfl (by decide +kernel) (by rw [hR]; exact ⟨Nat.le_of_ble_eq_true rfl, Nat.le_of_ble_eq_true rfl⟩)) hK hP hD hS hA hN [8, 7] [0, 1, 2, 3, 4, 5, 6] rfl rfl (by decide) (by decide) (by decide) 8 5 rfl rfl rfl rfl hl.1 rfl (Nat.le_of_ble_eq_true rfl) dXM_grade_148 (by rw [hR]; exact ⟨Nat.le_of_ble_eq_true rfl, Nat.le_of_ble_eq_true rfl⟩) (fun u81 H locs hwb82 hP hD hS => ?_)
                    obtain ⟨mp1'79, mw1'80⟩ := u81
                    try dsimp only at hwb82
                    obtain ⟨hwb82, f83, f84, f85⟩ := hwb82
                    have f83 : mp1'27 ≤ mp1'79 ∧ mp1'79 ≤ mn := f83
                    have f84 : -1 ≤ mw1'80 ∧ mw1'80 ≤ 400 ∧ (f_XM_failP mth mn mp1'27 mw1'28 mu md mo (mp1'27 - 1)) ≤ mw1'80 := f84
                    have f85 : mw1'80 < 0 → mp1'27 < mp1'79 := f85
                    have hP : va_P (dC, dI) vwCl [(a1, .inl (cZ, 62, .inl (jA y1))), (a2, .inl (cA, 62, .inl (jA (jset y2 (31 + r) jd)))), (a6, .inl (cA, 62, .inl (jA w6))), (a7, .inl (cA, 248, .inl (jA w7))), (a3, .inl (cZ, 496, .inl (jA y3n'))), (a4, .inl (cA, 496, .inl (jA y4n'))), (a5, .inl (cA, 496, .inl (jA y5n'))), (ma, .inr (5, [.int (jI mth), .int (jI mn), .ref a0, .int (jI mp1'79), .int (jI mw1'80), .ref a1, .ref a2, .ref a3, .ref a4, .ref a5, .ref a6, .ref a7, .ref a8, .ref a9, .ref a10, .long (jL mu), .long (jL md), .int (jI mo), .ref a11])), (a0, .inl (cA, 400, .inl (jA y0)))] H := hP
                    have hD : va_D A [(a1, .inl (cZ, 62, .inl (jA y1))), (a2, .inl (cA, 62, .inl (jA (jset y2 (31 + r) jd)))), (a6, .inl (cA, 62, .inl (jA w6))), (a7, .inl (cA, 248, .inl (jA w7))), (a3, .inl (cZ, 496, .inl (jA y3n'))), (a4, .inl (cA, 496, .inl (jA y4n'))), (a5, .inl (cA, 496, .inl (jA y5n'))), (ma, .inr (5, [.int (jI mth), .int (jI mn), .ref a0, .int (jI mp1'79), .int (jI mw1'80), .ref a1, .ref a2, .ref a3, .ref a4, .ref a5, .ref a6, .ref a7, .ref a8, .ref a9, .ref a10, .long (jL mu), .long (jL md), .int (jI mo), .ref a11])), (a0, .inl (cA, 400, .inl (jA y0)))] := hD
                    refine lv_aload_n hx hb dXM_grade_151 rfl (lv_at hl 3 rfl) ?_
                    refine va_get (D := (dC, dI)) (ci := 5) (v := .ref a7) (C := RXM) (T := TXM) (N := 19) hx hb hts (fun w h => jmem (inXM w h)) hown hK hP 7 rfl rfl 11 (by decide) (hts _ (jmem tw_639)) (fun _ h9 => h9) rfl dXM_grade_152 ?_
                    refine ji_iconst hx hb dXM_grade_155 ?_
                    refine lv_iload_n hx hb dXM_grade_156 rfl (lv_at hl 2 rfl) ?_
                    refine ji_imul hx hb dXM_grade_157 ?_
                    refine lv_iload_n hx hb dXM_grade_158 rfl (lv_at hl 1 rfl) ?_
                    refine ji_iadd hx hb dXM_grade_159 ?_
                    refine lv_aload_n hx hb dXM_grade_160 rfl (lv_at hl 3 rfl) ?_
                    refine ji_iconst hx hb dXM_grade_161 ?_
                    refine lv_ldc hx hb hown (hts _ (jmem tw_759)) dXM_grade_162 ?_
                    refine ji_re (y := 999999) (by decide) ?_
                    refine jwVi (rest := [.int (jI ((4 * (31 + r)) + r26)), .ref a7]) (wr := [(a1, .inl (cZ, 62, .inl (jA y1))), (a2, .inl (cA, 62, .inl (jA (jset y2 (31 + r) jd)))), (a6, .inl (cA, 62, .inl (jA w6))), (a7, .inl (cA, 248, .inl (jA w7))), (a3, .inl (cZ, 496, .inl (jA y3n'))), (a4, .inl (cA, 496, .inl (jA y4n'))), (a5, .inl (cA, 496, .inl (jA y5n')))]) ⟨hx, hb, hml, hown, hts⟩ (c_XM_numberP l dC dI cA cZ _ ma a0 a1 a2 a3 a4 a5 a6 a7 a8 a9 a10 a11 mth mn mp1'79 mw1'80 mu md mo y0 0 999999 (by first | assumption | omega) (by first | assumption | omega) (by first | assumption | omega) (by first | assumption | omega) (by first | assumption | omega)) (cwV 2 hts (jG_V tw_726 tw_728 ts_20 tw_6 tw_729) rfl rfl rfl (by decide +kernel) (by rw [hR]; exact ⟨Nat.le_of_ble_eq_true rfl, Nat.le_of_ble_eq_true rfl⟩)) hK hP hD hS hA hN [7, 8] [0, 1, 2, 3, 4, 5, 6] rfl rfl (by decide) (by decide) (by decide) 7 5 rfl rfl rfl rfl hl.1 rfl (Nat.le_of_ble_eq_true rfl) dXM_grade_164 (by rw [hR]; exact ⟨Nat.le_of_ble_eq_true rfl, Nat.le_of_ble_eq_true rfl⟩) (fun v90 u89 H locs hwb91 hP hD hS => ?_)
                    obtain ⟨r86, mp1'87, mw1'88⟩ := u89
                    try dsimp only at hwb91
                    obtain ⟨er, hwb91, f92, f93, f94, f95⟩ := hwb91
                    subst er
                    have f92 : 0 ≤ r86 ∧ r86 ≤ 999999 := f92
                    have f93 : mp1'79 ≤ mp1'87 ∧ mp1'87 ≤ mn := f93
                    have f94 : -1 ≤ mw1'88 ∧ mw1'88 ≤ 400 ∧ mw1'80 ≤ mw1'88 := f94
                    have f95 : mw1'88 < 0 → mp1'79 < mp1'87 := f95
                    have hP : va_P (dC, dI) vwCl [(a1, .inl (cZ, 62, .inl (jA y1))), (a2, .inl (cA, 62, .inl (jA (jset y2 (31 + r) jd)))), (a6, .inl (cA, 62, .inl (jA w6))), (a7, .inl (cA, 248, .inl (jA w7))), (a3, .inl (cZ, 496, .inl (jA y3n'))), (a4, .inl (cA, 496, .inl (jA y4n'))), (a5, .inl (cA, 496, .inl (jA y5n'))), (ma, .inr (5, [.int (jI mth), .int (jI mn), .ref a0, .int (jI mp1'87), .int (jI mw1'88), .ref a1, .ref a2, .ref a3, .ref a4, .ref a5, .ref a6, .ref a7, .ref a8, .ref a9, .ref a10, .long (jL mu), .long (jL md), .int (jI mo), .ref a11])), (a0, .inl (cA, 400, .inl (jA y0)))] H := hP
                    have hD : va_D A [(a1, .inl (cZ, 62, .inl (jA y1))), (a2, .inl (cA, 62, .inl (jA (jset y2 (31 + r) jd)))), (a6, .inl (cA, 62, .inl (jA w6))), (a7, .inl (cA, 248, .inl (jA w7))), (a3, .inl (cZ, 496, .inl (jA y3n'))), (a4, .inl (cA, 496, .inl (jA y4n'))), (a5, .inl (cA, 496, .inl (jA y5n'))), (ma, .inr (5, [.int (jI mth), .int (jI mn), .ref a0, .int (jI mp1'87), .int (jI mw1'88), .ref a1, .ref a2, .ref a3, .ref a4, .ref a5, .ref a6, .ref a7, .ref a8, .ref a9, .ref a10, .long (jL mu), .long (jL md), .int (jI mo), .ref a11])), (a0, .inl (cA, 400, .inl (jA y0)))] := hD
                    refine ji_iast hx hb hK hP hD hS 3 0 rfl rfl ⟨by omega, by omega⟩ (by decide) dXM_grade_167 (fun H locs hP hD hS => ?_)
                    have hP : va_P (dC, dI) vwCl [(a1, .inl (cZ, 62, .inl (jA y1))), (a2, .inl (cA, 62, .inl (jA (jset y2 (31 + r) jd)))), (a6, .inl (cA, 62, .inl (jA w6))), (a7, .inl (cA, 248, .inl (jA (jset w7 ((4 * (31 + r)) + r26) r86)))), (a3, .inl (cZ, 496, .inl (jA y3n'))), (a4, .inl (cA, 496, .inl (jA y4n'))), (a5, .inl (cA, 496, .inl (jA y5n'))), (ma, .inr (5, [.int (jI mth), .int (jI mn), .ref a0, .int (jI mp1'87), .int (jI mw1'88), .ref a1, .ref a2, .ref a3, .ref a4, .ref a5, .ref a6, .ref a7, .ref a8, .ref a9, .ref a10, .long (jL mu), .long (jL md), .int (jI mo), .ref a11])), (a0, .inl (cA, 400, .inl (jA y0)))] H := hP
                    have hD : va_D A [(a1, .inl (cZ, 62, .inl (jA y1))), (a2, .inl (cA, 62, .inl (jA (jset y2 (31 + r) jd)))), (a6, .inl (cA, 62, .inl (jA w6))), (a7, .inl (cA, 248, .inl (jA (jset w7 ((4 * (31 + r)) + r26) r86)))), (a3, .inl (cZ, 496, .inl (jA y3n'))), (a4, .inl (cA, 496, .inl (jA y4n'))), (a5, .inl (cA, 496, .inl (jA y5n'))), (ma, .inr (5, [.int (jI mth), .int (jI mn), .ref a0, .int (jI mp1'87), .int (jI mw1'88), .ref a1, .ref a2, .ref a3, .ref a4, .ref a5, .ref a6, .ref a7, .ref a8, .ref a9, .ref a10, .long (jL mu), .long (jL md), .int (jI mo), .ref a11])), (a0, .inl (cA, 400, .inl (jA y0)))] := hD
                    refine lv_goto (tgt := 97) hx hb dXM_grade_168 (by decide) ?_
                    exact ih97 ((jI mks ||| jI ((jI 1 <<< (jI r26 &&& 31)).toInt)).toInt) mp1'87 mw1'88 (jset w7 ((4 * (31 + r)) + r26) r86) (by omega) (Eq.trans (by rw [f_XM_gradeP_L97_s]; rw [← hwb17]; try dsimp only; rw [if_neg c103_]; rw [← hwb31]; try dsimp only; rw [if_pos c117_, if_pos c126_]; rw [← hwb82]; try dsimp only; rw [← hwb91]; try dsimp only; try rfl) hF) (by first | assumption | omega | exact jset_b (by assumption) (by omega)) (by first | assumption | omega | exact jset_b (by assumption) (by omega)) (by first | assumption | omega | exact jset_b (by assumption) (by omega)) (by first | assumption | omega | exact jset_b (by assumption) (by omega)) _ _ (hP.sub [0, 1, 2, 3, 7, 8, 4, 5, 6] rfl) (hD.sub [0, 1, 2, 3, 7, 8, 4, 5, 6] (by decide) rfl) hS ls (lv_sub hl [0, 2, 3] rfl)
          exact loop97 (Int.toNat (mn - kr) + 1) 0 kr wr9 y7 (by omega) (Eq.trans (by rw [f_XM_gradeP_J95_s]; try rfl) hF) (by first | assumption | omega | exact jset_b (by assumption) (by omega)) (by first | assumption | omega | exact jset_b (by assumption) (by omega)) (by first | assumption | omega | exact jset_b (by assumption) (by omega)) (by first | assumption | omega | exact jset_b (by assumption) (by omega)) _ _ hP hD hS ls (lv_sub hl [0, 1, 2] rfl)
        refine lv_aload_n hx hb dXM_grade_76 rfl (lv_at hl 1 rfl) ?_
        refine ji_bipush hx hb dXM_grade_77 (by decide) ?_
        refine jwVi (rest := []) (wr := [(a1, .inl (cZ, 62, .inl (jA y1))), (a2, .inl (cA, 62, .inl (jA (jset y2 (31 + r) jd)))), (a6, .inl (cA, 62, .inl (jA y6))), (a7, .inl (cA, 248, .inl (jA y7))), (a3, .inl (cZ, 496, .inl (jA y3n'))), (a4, .inl (cA, 496, .inl (jA y4n'))), (a5, .inl (cA, 496, .inl (jA y5n')))]) ⟨hx, hb, hml, hown, hts⟩ (c_XM_takesP l dC dI cA cZ _ ma a0 a1 a2 a3 a4 a5 a6 a7 a8 a9 a10 a11 mth mn mp1'4 mw1'5 mu md mo y0 114 (by first | assumption | omega) (by first | assumption | omega) (by first | assumption | omega) (by first | assumption | omega) (by first | assumption | omega)) (cwV 1 hts (jG_V tw_718 tw_720 ts_18 tw_6 tw_721) rfl rfl rfl (by decide +kernel) (by rw [hR]; exact ⟨Nat.le_of_ble_eq_true rfl, Nat.le_of_ble_eq_true rfl⟩)) hK hP hD hS hA hN [4, 5] [0, 1, 2, 3, 6, 7, 8] rfl rfl (by decide) (by decide) (by decide) 4 5 rfl rfl rfl rfl hl.1 rfl (Nat.le_of_ble_eq_true rfl) dXM_grade_79 (by rw [hR]; exact ⟨Nat.le_of_ble_eq_true rfl, Nat.le_of_ble_eq_true rfl⟩) (fun v99 u98 H locs hwb100 hP hD hS => ?_)
        obtain ⟨r96, mp1'97⟩ := u98
        try dsimp only at hwb100
        obtain ⟨er, hwb100, f101⟩ := hwb100
        subst er
        have f101 : (r96 = 0 ∧ mp1'4 ≤ mp1'97 ∧ mp1'97 ≤ mn) ∨ (r96 = 1 ∧ mp1'4 < mp1'97 ∧ mp1'97 ≤ mn ∧ mw1'5 < 0) := f101
        have hP : va_P (dC, dI) vwCl [(a1, .inl (cZ, 62, .inl (jA y1))), (a2, .inl (cA, 62, .inl (jA (jset y2 (31 + r) jd)))), (a6, .inl (cA, 62, .inl (jA y6))), (a7, .inl (cA, 248, .inl (jA y7))), (a3, .inl (cZ, 496, .inl (jA y3n'))), (a4, .inl (cA, 496, .inl (jA y4n'))), (a5, .inl (cA, 496, .inl (jA y5n'))), (ma, .inr (5, [.int (jI mth), .int (jI mn), .ref a0, .int (jI mp1'97), .int (jI mw1'5), .ref a1, .ref a2, .ref a3, .ref a4, .ref a5, .ref a6, .ref a7, .ref a8, .ref a9, .ref a10, .long (jL mu), .long (jL md), .int (jI mo), .ref a11])), (a0, .inl (cA, 400, .inl (jA y0)))] H := hP
        have hD : va_D A [(a1, .inl (cZ, 62, .inl (jA y1))), (a2, .inl (cA, 62, .inl (jA (jset y2 (31 + r) jd)))), (a6, .inl (cA, 62, .inl (jA y6))), (a7, .inl (cA, 248, .inl (jA y7))), (a3, .inl (cZ, 496, .inl (jA y3n'))), (a4, .inl (cA, 496, .inl (jA y4n'))), (a5, .inl (cA, 496, .inl (jA y5n'))), (ma, .inr (5, [.int (jI mth), .int (jI mn), .ref a0, .int (jI mp1'97), .int (jI mw1'5), .ref a1, .ref a2, .ref a3, .ref a4, .ref a5, .ref a6, .ref a7, .ref a8, .ref a9, .ref a10, .long (jL mu), .long (jL md), .int (jI mo), .ref a11])), (a0, .inl (cA, 400, .inl (jA y0)))] := hD
        refine ji_if_eq (tgt := 95) hx hb dXM_grade_82 (by decide) (by omega) (fun c82_ => ?_) (fun c82_ => ?_)
        · exact join95 mp1'97 mw1'5 y6 (Eq.trans (by rw [f_XM_gradeP_J70_s]; rw [← hwb7]; try dsimp only; rw [← hwb100]; try dsimp only; rw [if_pos c82_]; try rfl) hF) (by first | assumption | omega | exact jset_b (by assumption) (by omega)) (by first | assumption | omega | exact jset_b (by assumption) (by omega)) (by first | assumption | omega | exact jset_b (by assumption) (by omega)) _ _ (hP.sub [0, 1, 2, 3, 7, 8, 4, 5, 6] rfl) (hD.sub [0, 1, 2, 3, 7, 8, 4, 5, 6] (by decide) rfl) hS ls (lv_sub hl [0, 1] rfl)
        · refine lv_aload_n hx hb dXM_grade_85 rfl (lv_at hl 1 rfl) ?_
          refine va_get (D := (dC, dI)) (ci := 5) (v := .ref a6) (C := RXM) (T := TXM) (N := 19) hx hb hts (fun w h => jmem (inXM w h)) hown hK hP 7 rfl rfl 10 (by decide) (hts _ (jmem tw_638)) (fun _ h9 => h9) rfl dXM_grade_86 ?_
          refine lv_iload_n hx hb dXM_grade_89 rfl (lv_at hl 0 rfl) ?_
          refine lv_aload_n hx hb dXM_grade_90 rfl (lv_at hl 1 rfl) ?_
          refine jwVi (rest := [.int (jI (31 + r)), .ref a6]) (wr := [(a1, .inl (cZ, 62, .inl (jA y1))), (a2, .inl (cA, 62, .inl (jA (jset y2 (31 + r) jd)))), (a6, .inl (cA, 62, .inl (jA y6))), (a7, .inl (cA, 248, .inl (jA y7))), (a3, .inl (cZ, 496, .inl (jA y3n'))), (a4, .inl (cA, 496, .inl (jA y4n'))), (a5, .inl (cA, 496, .inl (jA y5n')))]) ⟨hx, hb, hml, hown, hts⟩ (c_XM_routeRowP l dC dI cA cZ _ ma a0 a1 a2 a3 a4 a5 a6 a7 a8 a9 a10 a11 mth mn mp1'97 mw1'5 mu md mo y0 (by first | assumption | omega) (by first | assumption | omega) (by first | assumption | omega) (by first | assumption | omega)) (cwV 0 hts (jG_V tw_755 tw_757 ts_27 tw_6 tw_758) rfl rfl rfl (by decide +kernel) (by rw [hR]; exact ⟨Nat.le_of_ble_eq_true rfl, Nat.le_of_ble_eq_true rfl⟩)) hK hP hD hS hA hN [7, 8] [0, 1, 2, 3, 4, 5, 6] rfl rfl (by decide) (by decide) (by decide) 7 5 rfl rfl rfl rfl hl.1 rfl (Nat.le_of_ble_eq_true rfl) dXM_grade_91 (by rw [hR]; exact ⟨Nat.le_of_ble_eq_true rfl, Nat.le_of_ble_eq_true rfl⟩) (fun v106 u105 H locs hwb107 hP hD hS => ?_)
          obtain ⟨r102, mp1'103, mw1'104⟩ := u105
          try dsimp only at hwb107
          obtain ⟨er, hwb107, f108, f109, f110⟩ := hwb107
          subst er
          have f108 : i32 r102 := f108
          have f109 : mp1'97 ≤ mp1'103 ∧ mp1'103 ≤ mn := f109
          have f110 : -1 ≤ mw1'104 ∧ mw1'104 ≤ 400 ∧ mw1'5 ≤ mw1'104 := f110
          have hP : va_P (dC, dI) vwCl [(a1, .inl (cZ, 62, .inl (jA y1))), (a2, .inl (cA, 62, .inl (jA (jset y2 (31 + r) jd)))), (a6, .inl (cA, 62, .inl (jA y6))), (a7, .inl (cA, 248, .inl (jA y7))), (a3, .inl (cZ, 496, .inl (jA y3n'))), (a4, .inl (cA, 496, .inl (jA y4n'))), (a5, .inl (cA, 496, .inl (jA y5n'))), (ma, .inr (5, [.int (jI mth), .int (jI mn), .ref a0, .int (jI mp1'103), .int (jI mw1'104), .ref a1, .ref a2, .ref a3, .ref a4, .ref a5, .ref a6, .ref a7, .ref a8, .ref a9, .ref a10, .long (jL mu), .long (jL md), .int (jI mo), .ref a11])), (a0, .inl (cA, 400, .inl (jA y0)))] H := hP
          have hD : va_D A [(a1, .inl (cZ, 62, .inl (jA y1))), (a2, .inl (cA, 62, .inl (jA (jset y2 (31 + r) jd)))), (a6, .inl (cA, 62, .inl (jA y6))), (a7, .inl (cA, 248, .inl (jA y7))), (a3, .inl (cZ, 496, .inl (jA y3n'))), (a4, .inl (cA, 496, .inl (jA y4n'))), (a5, .inl (cA, 496, .inl (jA y5n'))), (ma, .inr (5, [.int (jI mth), .int (jI mn), .ref a0, .int (jI mp1'103), .int (jI mw1'104), .ref a1, .ref a2, .ref a3, .ref a4, .ref a5, .ref a6, .ref a7, .ref a8, .ref a9, .ref a10, .long (jL mu), .long (jL md), .int (jI mo), .ref a11])), (a0, .inl (cA, 400, .inl (jA y0)))] := hD
          refine ji_iast hx hb hK hP hD hS 2 0 rfl rfl ⟨by omega, by omega⟩ (by decide) dXM_grade_94 (fun H locs hP hD hS => ?_)
          have hP : va_P (dC, dI) vwCl [(a1, .inl (cZ, 62, .inl (jA y1))), (a2, .inl (cA, 62, .inl (jA (jset y2 (31 + r) jd)))), (a6, .inl (cA, 62, .inl (jA (jset y6 (31 + r) r102)))), (a7, .inl (cA, 248, .inl (jA y7))), (a3, .inl (cZ, 496, .inl (jA y3n'))), (a4, .inl (cA, 496, .inl (jA y4n'))), (a5, .inl (cA, 496, .inl (jA y5n'))), (ma, .inr (5, [.int (jI mth), .int (jI mn), .ref a0, .int (jI mp1'103), .int (jI mw1'104), .ref a1, .ref a2, .ref a3, .ref a4, .ref a5, .ref a6, .ref a7, .ref a8, .ref a9, .ref a10, .long (jL mu), .long (jL md), .int (jI mo), .ref a11])), (a0, .inl (cA, 400, .inl (jA y0)))] H := hP
          have hD : va_D A [(a1, .inl (cZ, 62, .inl (jA y1))), (a2, .inl (cA, 62, .inl (jA (jset y2 (31 + r) jd)))), (a6, .inl (cA, 62, .inl (jA (jset y6 (31 + r) r102)))), (a7, .inl (cA, 248, .inl (jA y7))), (a3, .inl (cZ, 496, .inl (jA y3n'))), (a4, .inl (cA, 496, .inl (jA y4n'))), (a5, .inl (cA, 496, .inl (jA y5n'))), (ma, .inr (5, [.int (jI mth), .int (jI mn), .ref a0, .int (jI mp1'103), .int (jI mw1'104), .ref a1, .ref a2, .ref a3, .ref a4, .ref a5, .ref a6, .ref a7, .ref a8, .ref a9, .ref a10, .long (jL mu), .long (jL md), .int (jI mo), .ref a11])), (a0, .inl (cA, 400, .inl (jA y0)))] := hD
          exact join95 mp1'103 mw1'104 (jset y6 (31 + r) r102) (Eq.trans (by rw [f_XM_gradeP_J70_s]; rw [← hwb7]; try dsimp only; rw [← hwb100]; try dsimp only; rw [if_neg c82_]; rw [← hwb107]; try dsimp only; try rfl) hF) (by first | assumption | omega | exact jset_b (by assumption) (by omega)) (by first | assumption | omega | exact jset_b (by assumption) (by omega)) (by first | assumption | omega | exact jset_b (by assumption) (by omega)) _ _ (hP.sub [0, 1, 2, 3, 7, 8, 4, 5, 6] rfl) (hD.sub [0, 1, 2, 3, 7, 8, 4, 5, 6] (by decide) rfl) hS ls (lv_sub hl [0, 1] rfl)
      refine lv_aload_n hx hb dXM_grade_50 rfl (lv_at hl 1 rfl) ?_
      refine ji_bipush hx hb dXM_grade_51 (by decide) ?_
      refine jwVi (rest := [.int (jI (31 + r)), .ref a2]) (wr := [(a1, .inl (cZ, 62, .inl (jA y1))), (a2, .inl (cA, 62, .inl (jA y2))), (a3, .inl (cZ, 496, .inl (jA y3))), (a4, .inl (cA, 496, .inl (jA y4))), (a5, .inl (cA, 496, .inl (jA y5))), (a6, .inl (cA, 62, .inl (jA y6))), (a7, .inl (cA, 248, .inl (jA y7)))]) ⟨hx, hb, hml, hown, hts⟩ (c_XM_takesP l dC dI cA cZ _ ma a0 a1 a2 a3 a4 a5 a6 a7 a8 a9 a10 a11 mth mn mp1' w1 mu md mo y0 60 (by first | assumption | omega) (by first | assumption | omega) (by first | assumption | omega) (by first | assumption | omega) (by first | assumption | omega)) (cwV 1 hts (jG_V tw_718 tw_720 ts_18 tw_6 tw_721) rfl rfl rfl (by decide +kernel) (by rw [hR]; exact ⟨Nat.le_of_ble_eq_true rfl, Nat.le_of_ble_eq_true rfl⟩)) hK hP hD hS hA hN [7, 8] [0, 1, 2, 3, 4, 5, 6] rfl rfl (by decide) (by decide) (by decide) 7 5 rfl rfl rfl rfl hl.1 rfl (Nat.le_of_ble_eq_true rfl) dXM_grade_53 (by rw [hR]; exact ⟨Nat.le_of_ble_eq_true rfl, Nat.le_of_ble_eq_true rfl⟩) (fun v114 u113 H locs hwb115 hP hD hS => ?_)
      obtain ⟨r111, mp1'112⟩ := u113
      try dsimp only at hwb115
      obtain ⟨er, hwb115, f116⟩ := hwb115
      subst er
      have f116 : (r111 = 0 ∧ mp1' ≤ mp1'112 ∧ mp1'112 ≤ mn) ∨ (r111 = 1 ∧ mp1' < mp1'112 ∧ mp1'112 ≤ mn ∧ w1 < 0) := f116
      have hP : va_P (dC, dI) vwCl [(a1, .inl (cZ, 62, .inl (jA y1))), (a2, .inl (cA, 62, .inl (jA y2))), (a3, .inl (cZ, 496, .inl (jA y3))), (a4, .inl (cA, 496, .inl (jA y4))), (a5, .inl (cA, 496, .inl (jA y5))), (a6, .inl (cA, 62, .inl (jA y6))), (a7, .inl (cA, 248, .inl (jA y7))), (ma, .inr (5, [.int (jI mth), .int (jI mn), .ref a0, .int (jI mp1'112), .int (jI w1), .ref a1, .ref a2, .ref a3, .ref a4, .ref a5, .ref a6, .ref a7, .ref a8, .ref a9, .ref a10, .long (jL mu), .long (jL md), .int (jI mo), .ref a11])), (a0, .inl (cA, 400, .inl (jA y0)))] H := hP
      have hD : va_D A [(a1, .inl (cZ, 62, .inl (jA y1))), (a2, .inl (cA, 62, .inl (jA y2))), (a3, .inl (cZ, 496, .inl (jA y3))), (a4, .inl (cA, 496, .inl (jA y4))), (a5, .inl (cA, 496, .inl (jA y5))), (a6, .inl (cA, 62, .inl (jA y6))), (a7, .inl (cA, 248, .inl (jA y7))), (ma, .inr (5, [.int (jI mth), .int (jI mn), .ref a0, .int (jI mp1'112), .int (jI w1), .ref a1, .ref a2, .ref a3, .ref a4, .ref a5, .ref a6, .ref a7, .ref a8, .ref a9, .ref a10, .long (jL mu), .long (jL md), .int (jI mo), .ref a11])), (a0, .inl (cA, 400, .inl (jA y0)))] := hD
      refine ji_if_eq (tgt := 69) hx hb dXM_grade_56 (by decide) (by omega) (fun c56_ => ?_) (fun c56_ => ?_)
      · refine ji_iconst hx hb dXM_grade_69 ?_
        exact join70 mp1'112 w1 0 (Eq.trans (by rw [f_XM_gradeP_J37_s]; rw [if_pos c41_]; rw [← hwb115]; try dsimp only; rw [if_pos c56_]; try rfl) hF) (by first | assumption | omega | exact jset_b (by assumption) (by omega)) (by first | assumption | omega | exact jset_b (by assumption) (by omega)) (by first | assumption | omega | exact jset_b (by assumption) (by omega)) _ _ hP hD hS ls (lv_sub hl [0, 1] rfl)
      · refine lv_aload_n hx hb dXM_grade_59 rfl (lv_at hl 1 rfl) ?_
        refine ji_iconst hx hb dXM_grade_60 ?_
        refine ji_bipush hx hb dXM_grade_61 (by decide) ?_
        refine jwVi (rest := [.int (jI (31 + r)), .ref a2]) (wr := [(a1, .inl (cZ, 62, .inl (jA y1))), (a2, .inl (cA, 62, .inl (jA y2))), (a3, .inl (cZ, 496, .inl (jA y3))), (a4, .inl (cA, 496, .inl (jA y4))), (a5, .inl (cA, 496, .inl (jA y5))), (a6, .inl (cA, 62, .inl (jA y6))), (a7, .inl (cA, 248, .inl (jA y7)))]) ⟨hx, hb, hml, hown, hts⟩ (c_XM_numberP l dC dI cA cZ _ ma a0 a1 a2 a3 a4 a5 a6 a7 a8 a9 a10 a11 mth mn mp1'112 w1 mu md mo y0 1 30 (by first | assumption | omega) (by first | assumption | omega) (by first | assumption | omega) (by first | assumption | omega) (by first | assumption | omega)) (cwV 2 hts (jG_V tw_726 tw_728 ts_20 tw_6 tw_729) rfl rfl rfl (by decide +kernel) (by rw [hR]; exact ⟨Nat.le_of_ble_eq_true rfl, Nat.le_of_ble_eq_true rfl⟩)) hK hP hD hS hA hN [7, 8] [0, 1, 2, 3, 4, 5, 6] rfl rfl (by decide) (by decide) (by decide) 7 5 rfl rfl rfl rfl hl.1 rfl (Nat.le_of_ble_eq_true rfl) dXM_grade_63 (by rw [hR]; exact ⟨Nat.le_of_ble_eq_true rfl, Nat.le_of_ble_eq_true rfl⟩) (fun v121 u120 H locs hwb122 hP hD hS => ?_)
        obtain ⟨r117, mp1'118, mw1'119⟩ := u120
        try dsimp only at hwb122
        obtain ⟨er, hwb122, f123, f124, f125, f126⟩ := hwb122
        subst er
        have f123 : 1 ≤ r117 ∧ r117 ≤ 30 := f123
        have f124 : mp1'112 ≤ mp1'118 ∧ mp1'118 ≤ mn := f124
        have f125 : -1 ≤ mw1'119 ∧ mw1'119 ≤ 400 ∧ w1 ≤ mw1'119 := f125
        have f126 : mw1'119 < 0 → mp1'112 < mp1'118 := f126
        have hP : va_P (dC, dI) vwCl [(a1, .inl (cZ, 62, .inl (jA y1))), (a2, .inl (cA, 62, .inl (jA y2))), (a3, .inl (cZ, 496, .inl (jA y3))), (a4, .inl (cA, 496, .inl (jA y4))), (a5, .inl (cA, 496, .inl (jA y5))), (a6, .inl (cA, 62, .inl (jA y6))), (a7, .inl (cA, 248, .inl (jA y7))), (ma, .inr (5, [.int (jI mth), .int (jI mn), .ref a0, .int (jI mp1'118), .int (jI mw1'119), .ref a1, .ref a2, .ref a3, .ref a4, .ref a5, .ref a6, .ref a7, .ref a8, .ref a9, .ref a10, .long (jL mu), .long (jL md), .int (jI mo), .ref a11])), (a0, .inl (cA, 400, .inl (jA y0)))] H := hP
        have hD : va_D A [(a1, .inl (cZ, 62, .inl (jA y1))), (a2, .inl (cA, 62, .inl (jA y2))), (a3, .inl (cZ, 496, .inl (jA y3))), (a4, .inl (cA, 496, .inl (jA y4))), (a5, .inl (cA, 496, .inl (jA y5))), (a6, .inl (cA, 62, .inl (jA y6))), (a7, .inl (cA, 248, .inl (jA y7))), (ma, .inr (5, [.int (jI mth), .int (jI mn), .ref a0, .int (jI mp1'118), .int (jI mw1'119), .ref a1, .ref a2, .ref a3, .ref a4, .ref a5, .ref a6, .ref a7, .ref a8, .ref a9, .ref a10, .long (jL mu), .long (jL md), .int (jI mo), .ref a11])), (a0, .inl (cA, 400, .inl (jA y0)))] := hD
        refine lv_goto (tgt := 70) hx hb dXM_grade_66 (by decide) ?_
        exact join70 mp1'118 mw1'119 r117 (Eq.trans (by rw [f_XM_gradeP_J37_s]; rw [if_pos c41_]; rw [← hwb115]; try dsimp only; rw [if_neg c56_]; rw [← hwb122]; try dsimp only; try rfl) hF) (by first | assumption | omega | exact jset_b (by assumption) (by omega)) (by first | assumption | omega | exact jset_b (by assumption) (by omega)) (by first | assumption | omega | exact jset_b (by assumption) (by omega)) _ _ hP hD hS ls (lv_sub hl [0, 1] rfl)
    · have hP9 := hP.sub (ws' := [(ma, .inr (5, [.int (jI mth), .int (jI mn), .ref a0, .int (jI mp1'), .int (jI w1), .ref a1, .ref a2, .ref a3, .ref a4, .ref a5, .ref a6, .ref a7, .ref a8, .ref a9, .ref a10, .long (jL mu), .long (jL md), .int (jI mo), .ref a11])), (a0, .inl (cA, 400, .inl (jA y0))), (a1, .inl (cZ, 62, .inl (jA y1))), (a2, .inl (cA, 62, .inl (jA y2))), (a3, .inl (cZ, 496, .inl (jA y3))), (a4, .inl (cA, 496, .inl (jA y4))), (a5, .inl (cA, 496, .inl (jA y5))), (a6, .inl (cA, 62, .inl (jA y6))), (a7, .inl (cA, 248, .inl (jA y7)))]) [7, 8, 0, 1, 2, 3, 4, 5, 6] rfl
      have hD9 := hD.sub (ws' := [(ma, .inr (5, [.int (jI mth), .int (jI mn), .ref a0, .int (jI mp1'), .int (jI w1), .ref a1, .ref a2, .ref a3, .ref a4, .ref a5, .ref a6, .ref a7, .ref a8, .ref a9, .ref a10, .long (jL mu), .long (jL md), .int (jI mo), .ref a11])), (a0, .inl (cA, 400, .inl (jA y0))), (a1, .inl (cZ, 62, .inl (jA y1))), (a2, .inl (cA, 62, .inl (jA y2))), (a3, .inl (cZ, 496, .inl (jA y3))), (a4, .inl (cA, 496, .inl (jA y4))), (a5, .inl (cA, 496, .inl (jA y5))), (a6, .inl (cA, 62, .inl (jA y6))), (a7, .inl (cA, 248, .inl (jA y7)))]) [7, 8, 0, 1, 2, 3, 4, 5, 6] (by decide) rfl
      subst hAe
      subst hQ
      exact W.vret hx hb hr (fun t ht hW => ⟨⟨(mp1', w1, y1, y2, y3, y4, y5, y6, y7), rfl, ⟨Eq.trans (by rw [f_XM_gradeP_J37_s]; rw [if_neg (Int.not_lt.mpr c41_)]; try rfl) hF, show mp ≤ mp1' ∧ mp1' ≤ mn from by first | assumption | omega | exact jset_b (by assumption) (by omega), show -1 ≤ w1 ∧ w1 ≤ 400 ∧ mw ≤ w1 from by first | assumption | omega | exact jset_b (by assumption) (by omega), show ∀ i, 0 ≤ y1 i ∧ y1 i ≤ 1 from by first | assumption | omega | exact jset_b (by assumption) (by omega), show ∀ i, 0 ≤ y2 i ∧ y2 i ≤ 30 from by first | assumption | omega | exact jset_b (by assumption) (by omega), show ∀ i, 0 ≤ y3 i ∧ y3 i ≤ 1 from by first | assumption | omega | exact jset_b (by assumption) (by omega), show ∀ i, 0 ≤ y4 i ∧ y4 i ≤ 100000 from by first | assumption | omega | exact jset_b (by assumption) (by omega), show ∀ i, 0 ≤ y5 i ∧ y5 i ≤ 100000 from by first | assumption | omega | exact jset_b (by assumption) (by omega), show ∀ i, -2147483648 ≤ y6 i ∧ y6 i ≤ 2147483647 from by first | assumption | omega | exact jset_b (by assumption) (by omega), show ∀ i, -1 ≤ y7 i ∧ y7 i ≤ 999999 from by first | assumption | omega | exact jset_b (by assumption) (by omega)⟩, ⟨by rw [ht]; exact hP9, va_K.moved hW.alike hK, hD9⟩⟩, hS.F ht⟩) hS.2.2 dXM_grade_44
  refine lv_aload_n hx hb dXM_grade_11 rfl (lv_at hl 1 rfl) ?_
  refine va_get (D := (dC, dI)) (ci := 5) (v := .int (jI mw1')) (C := RXM) (T := TXM) (N := 19) hx hb hts (fun w h => jmem (inXM w h)) hown hK hP 7 rfl rfl 4 (by decide) (hts _ (jmem tw_632)) (fun _ h9 => h9) rfl dXM_grade_12 ?_
  refine ji_if_ge (tgt := 37) hx hb dXM_grade_15 (by decide) (by omega) (fun c15_ => ?_) (fun c15_ => ?_)
  · exact join37 mw1' (Eq.trans (by rw [f_XM_gradeP_s]; rw [← hwb]; try dsimp only; rw [if_neg (Int.not_lt.mpr c15_)]; try rfl) rfl) (by first | assumption | omega | exact jset_b (by assumption) (by omega)) _ _ hP hD hS ls (lv_sub hl [0, 1] rfl)
  · refine lv_aload_n hx hb dXM_grade_18 rfl (lv_at hl 1 rfl) ?_
    refine va_get (D := (dC, dI)) (ci := 5) (v := .ref a1) (C := RXM) (T := TXM) (N := 19) hx hb hts (fun w h => jmem (inXM w h)) hown hK hP 7 rfl rfl 5 (by decide) (hts _ (jmem tw_633)) (fun _ h9 => h9) rfl dXM_grade_19 ?_
    refine lv_iload_n hx hb dXM_grade_22 rfl (lv_at hl 0 rfl) ?_
    refine ji_zald hx hb hK hP 0 1 rfl rfl ⟨by omega, by omega⟩ (by decide) dXM_grade_23 ?_
    have rb127 := hy1 (31 + r)
    refine ji_if_eq (tgt := 37) hx hb dXM_grade_24 (by decide) (by omega) (fun c24_ => ?_) (fun c24_ => ?_)
    · exact join37 mw1' (Eq.trans (by rw [f_XM_gradeP_s]; rw [← hwb]; try dsimp only; rw [if_pos c15_, if_pos c24_]; try rfl) rfl) (by first | assumption | omega | exact jset_b (by assumption) (by omega)) _ _ hP hD hS ls (lv_sub hl [0, 1] rfl)
    · refine lv_aload_n hx hb dXM_grade_27 rfl (lv_at hl 1 rfl) ?_
      refine lv_aload_n hx hb dXM_grade_28 rfl (lv_at hl 1 rfl) ?_
      refine va_get (D := (dC, dI)) (ci := 5) (v := .int (jI mp1')) (C := RXM) (T := TXM) (N := 19) hx hb hts (fun w h => jmem (inXM w h)) hown hK hP 7 rfl rfl 3 (by decide) (hts _ (jmem tw_631)) (fun _ h9 => h9) rfl dXM_grade_29 ?_
      refine ji_iconst hx hb dXM_grade_32 ?_
      refine ji_isub hx hb dXM_grade_33 ?_
      refine jwVv (rest := []) (wr := [(a1, .inl (cZ, 62, .inl (jA y1))), (a2, .inl (cA, 62, .inl (jA y2))), (a3, .inl (cZ, 496, .inl (jA y3))), (a4, .inl (cA, 496, .inl (jA y4))), (a5, .inl (cA, 496, .inl (jA y5))), (a6, .inl (cA, 62, .inl (jA y6))), (a7, .inl (cA, 248, .inl (jA y7))), (a0, .inl (cA, 400, .inl (jA y0)))]) ⟨hx, hb, hml, hown, hts⟩ (c_XM_failP l dC dI cA cZ _ ma a0 a1 a2 a3 a4 a5 a6 a7 a8 a9 a10 a11 mth mn mp1' mw1' mu md mo (mp1' - 1) (by first | assumption | omega) (by first | assumption | omega)) (cwV 1 hts (jG_V tw_734 tw_736 ts_22 tw_6 tw_737) rfl rfl rfl (by decide +kernel) (by rw [hR]; exact ⟨Nat.le_of_ble_eq_true rfl, Nat.le_of_ble_eq_true rfl⟩)) hK hP hD hS hA hN [7] [0, 1, 2, 3, 4, 5, 6, 8] rfl rfl (by decide) (by decide) (by decide) 7 5 rfl rfl rfl rfl hl.1 rfl (Nat.le_of_ble_eq_true rfl) dXM_grade_34 (by rw [hR]; exact ⟨Nat.le_of_ble_eq_true rfl, Nat.le_of_ble_eq_true rfl⟩) (fun u128 H locs hw hP hD hS => ?_)
      obtain ⟨hw, f129⟩ := hw
      subst hw
      have f129 : (0 ≤ mw1' ∧ (f_XM_failP mth mn mp1' mw1' mu md mo (mp1' - 1)) = mw1') ∨ (mw1' < 0 ∧ (f_XM_failP mth mn mp1' mw1' mu md mo (mp1' - 1)) = (mp1' - 1)) := f129
      have hP : va_P (dC, dI) vwCl [(a1, .inl (cZ, 62, .inl (jA y1))), (a2, .inl (cA, 62, .inl (jA y2))), (a3, .inl (cZ, 496, .inl (jA y3))), (a4, .inl (cA, 496, .inl (jA y4))), (a5, .inl (cA, 496, .inl (jA y5))), (a6, .inl (cA, 62, .inl (jA y6))), (a7, .inl (cA, 248, .inl (jA y7))), (a0, .inl (cA, 400, .inl (jA y0))), (ma, .inr (5, [.int (jI mth), .int (jI mn), .ref a0, .int (jI mp1'), .int (jI (f_XM_failP mth mn mp1' mw1' mu md mo (mp1' - 1))), .ref a1, .ref a2, .ref a3, .ref a4, .ref a5, .ref a6, .ref a7, .ref a8, .ref a9, .ref a10, .long (jL mu), .long (jL md), .int (jI mo), .ref a11]))] H := hP
      have hD : va_D A [(a1, .inl (cZ, 62, .inl (jA y1))), (a2, .inl (cA, 62, .inl (jA y2))), (a3, .inl (cZ, 496, .inl (jA y3))), (a4, .inl (cA, 496, .inl (jA y4))), (a5, .inl (cA, 496, .inl (jA y5))), (a6, .inl (cA, 62, .inl (jA y6))), (a7, .inl (cA, 248, .inl (jA y7))), (a0, .inl (cA, 400, .inl (jA y0))), (ma, .inr (5, [.int (jI mth), .int (jI mn), .ref a0, .int (jI mp1'), .int (jI (f_XM_failP mth mn mp1' mw1' mu md mo (mp1' - 1))), .ref a1, .ref a2, .ref a3, .ref a4, .ref a5, .ref a6, .ref a7, .ref a8, .ref a9, .ref a10, .long (jL mu), .long (jL md), .int (jI mo), .ref a11]))] := hD
      exact join37 (f_XM_failP mth mn mp1' mw1' mu md mo (mp1' - 1)) (Eq.trans (by rw [f_XM_gradeP_s]; rw [← hwb]; try dsimp only; rw [if_pos c15_, if_neg c24_]; try rfl) rfl) (by first | assumption | omega | exact jset_b (by assumption) (by omega)) _ _ (hP.sub [0, 1, 2, 3, 4, 5, 6, 8, 7] rfl) (hD.sub [0, 1, 2, 3, 4, 5, 6, 8, 7] (by decide) rfl) hS ls (lv_sub hl [0, 1] rfl)
