noncomputable def g_XM_formulaP_L56 (mth : Int) (mn : Int) (mp : Int) (mw : Int) (mu : Int) (md : Int) (mo : Int) (y0 : Int → Int) (y8 : Int → Int) (y9 : Int → Int) (r : Int) : Nat → Int → Int → Int → Int → (Int → Int) → Int × Int × (Int → Int) × (Int → Int)
  | 0, _, _, _, _, _ => (0, 0, fun _ => 0, fun _ => 0)
  | n9 + 1, mks, jm2, k, w, w9 =>
    if jm2 = 0 then
      match f_XM_takeP mth mn k w mu md mo y0 59 with
      | (mp1'11, mw1'12) =>
        if mw1'12 < 0 then
          (mp1'11, mw1'12, jset y8 (4 + r) 1, w9)
        else
          (mp1'11, mw1'12, y8, w9)
    else
      match f_XM_elementP mth mn k w mu md mo y0 mks with
      | (r18, mp1'19, mw1'20) =>
        if r18 < 0 then
          if (f_XM_failP mth mn mp1'19 mw1'20 mu md mo mp1'19) < 0 then
            match f_XM_takesP mth mn mp1'19 (f_XM_failP mth mn mp1'19 mw1'20 mu md mo mp1'19) mu md mo y0 47 with
            | (r62, mp1'63) =>
              if r62 = 0 then
                match f_XM_takesP mth mn mp1'63 (f_XM_failP mth mn mp1'19 mw1'20 mu md mo mp1'19) mu md mo y0 43 with
                | (r69, mp1'70) =>
                  g_XM_formulaP_L56 mth mn mp mw mu md mo y0 y8 y9 r n9 ((jI mks ||| jI ((jI 1 <<< (jI r18 &&& 31)).toInt)).toInt) r69 mp1'70 (f_XM_failP mth mn mp1'19 mw1'20 mu md mo mp1'19) (jset w9 ((8 * (4 + r)) + r18) 1)
              else
                match f_XM_numberP mth mn mp1'63 (f_XM_failP mth mn mp1'19 mw1'20 mu md mo mp1'19) mu md mo y0 1 20 with
                | (r75, mp1'76, mw1'77) =>
                  match f_XM_takesP mth mn mp1'76 mw1'77 mu md mo y0 43 with
                  | (r85, mp1'86) =>
                    g_XM_formulaP_L56 mth mn mp mw mu md mo y0 y8 y9 r n9 ((jI mks ||| jI ((jI 1 <<< (jI r18 &&& 31)).toInt)).toInt) r85 mp1'86 mw1'77 (jset w9 ((8 * (4 + r)) + r18) r75)
          else
            (mp1'19, f_XM_failP mth mn mp1'19 mw1'20 mu md mo mp1'19, y8, w9)
        else
          if mw1'20 < 0 then
            match f_XM_takesP mth mn mp1'19 mw1'20 mu md mo y0 47 with
            | (r29, mp1'30) =>
              if r29 = 0 then
                match f_XM_takesP mth mn mp1'30 mw1'20 mu md mo y0 43 with
                | (r35, mp1'36) =>
                  g_XM_formulaP_L56 mth mn mp mw mu md mo y0 y8 y9 r n9 ((jI mks ||| jI ((jI 1 <<< (jI r18 &&& 31)).toInt)).toInt) r35 mp1'36 mw1'20 (jset w9 ((8 * (4 + r)) + r18) 1)
              else
                match f_XM_numberP mth mn mp1'30 mw1'20 mu md mo y0 1 20 with
                | (r41, mp1'42, mw1'43) =>
                  match f_XM_takesP mth mn mp1'42 mw1'43 mu md mo y0 43 with
                  | (r51, mp1'52) =>
                    g_XM_formulaP_L56 mth mn mp mw mu md mo y0 y8 y9 r n9 ((jI mks ||| jI ((jI 1 <<< (jI r18 &&& 31)).toInt)).toInt) r51 mp1'52 mw1'43 (jset w9 ((8 * (4 + r)) + r18) r41)
          else
            (mp1'19, mw1'20, y8, w9)
noncomputable def f_XM_formulaP_L56 : Int → Int → Int → Int → Int → Int → Int → (Int → Int) → (Int → Int) → (Int → Int) → Int → Nat → Int → Int → Int → Int → (Int → Int) → Int × Int × (Int → Int) × (Int → Int) := jopq g_XM_formulaP_L56
theorem f_XM_formulaP_L56_q : f_XM_formulaP_L56 = g_XM_formulaP_L56 := jopq_eq _
theorem f_XM_formulaP_L56_s (mth : Int) (mn : Int) (mp : Int) (mw : Int) (mu : Int) (md : Int) (mo : Int) (y0 : Int → Int) (y8 : Int → Int) (y9 : Int → Int) (r : Int) (n9 : Nat) (mks : Int) (jm2 : Int) (k : Int) (w : Int) (w9 : Int → Int) : f_XM_formulaP_L56 mth mn mp mw mu md mo y0 y8 y9 r (n9 + 1) mks jm2 k w w9 = (
    if jm2 = 0 then
      match f_XM_takeP mth mn k w mu md mo y0 59 with
      | (mp1'11, mw1'12) =>
        if mw1'12 < 0 then
          (mp1'11, mw1'12, jset y8 (4 + r) 1, w9)
        else
          (mp1'11, mw1'12, y8, w9)
    else
      match f_XM_elementP mth mn k w mu md mo y0 mks with
      | (r18, mp1'19, mw1'20) =>
        if r18 < 0 then
          if (f_XM_failP mth mn mp1'19 mw1'20 mu md mo mp1'19) < 0 then
            match f_XM_takesP mth mn mp1'19 (f_XM_failP mth mn mp1'19 mw1'20 mu md mo mp1'19) mu md mo y0 47 with
            | (r62, mp1'63) =>
              if r62 = 0 then
                match f_XM_takesP mth mn mp1'63 (f_XM_failP mth mn mp1'19 mw1'20 mu md mo mp1'19) mu md mo y0 43 with
                | (r69, mp1'70) =>
                  f_XM_formulaP_L56 mth mn mp mw mu md mo y0 y8 y9 r n9 ((jI mks ||| jI ((jI 1 <<< (jI r18 &&& 31)).toInt)).toInt) r69 mp1'70 (f_XM_failP mth mn mp1'19 mw1'20 mu md mo mp1'19) (jset w9 ((8 * (4 + r)) + r18) 1)
              else
                match f_XM_numberP mth mn mp1'63 (f_XM_failP mth mn mp1'19 mw1'20 mu md mo mp1'19) mu md mo y0 1 20 with
                | (r75, mp1'76, mw1'77) =>
                  match f_XM_takesP mth mn mp1'76 mw1'77 mu md mo y0 43 with
                  | (r85, mp1'86) =>
                    f_XM_formulaP_L56 mth mn mp mw mu md mo y0 y8 y9 r n9 ((jI mks ||| jI ((jI 1 <<< (jI r18 &&& 31)).toInt)).toInt) r85 mp1'86 mw1'77 (jset w9 ((8 * (4 + r)) + r18) r75)
          else
            (mp1'19, f_XM_failP mth mn mp1'19 mw1'20 mu md mo mp1'19, y8, w9)
        else
          if mw1'20 < 0 then
            match f_XM_takesP mth mn mp1'19 mw1'20 mu md mo y0 47 with
            | (r29, mp1'30) =>
              if r29 = 0 then
                match f_XM_takesP mth mn mp1'30 mw1'20 mu md mo y0 43 with
                | (r35, mp1'36) =>
                  f_XM_formulaP_L56 mth mn mp mw mu md mo y0 y8 y9 r n9 ((jI mks ||| jI ((jI 1 <<< (jI r18 &&& 31)).toInt)).toInt) r35 mp1'36 mw1'20 (jset w9 ((8 * (4 + r)) + r18) 1)
              else
                match f_XM_numberP mth mn mp1'30 mw1'20 mu md mo y0 1 20 with
                | (r41, mp1'42, mw1'43) =>
                  match f_XM_takesP mth mn mp1'42 mw1'43 mu md mo y0 43 with
                  | (r51, mp1'52) =>
                    f_XM_formulaP_L56 mth mn mp mw mu md mo y0 y8 y9 r n9 ((jI mks ||| jI ((jI 1 <<< (jI r18 &&& 31)).toInt)).toInt) r51 mp1'52 mw1'43 (jset w9 ((8 * (4 + r)) + r18) r41)
          else
            (mp1'19, mw1'20, y8, w9)
  : Int × Int × (Int → Int) × (Int → Int)) := by rw [f_XM_formulaP_L56_q]; rfl
theorem f_XM_formulaP_L56_z (mth : Int) (mn : Int) (mp : Int) (mw : Int) (mu : Int) (md : Int) (mo : Int) (y0 : Int → Int) (y8 : Int → Int) (y9 : Int → Int) (r : Int) (mks : Int) (jm2 : Int) (k : Int) (w : Int) (w9 : Int → Int) : f_XM_formulaP_L56 mth mn mp mw mu md mo y0 y8 y9 r 0 mks jm2 k w w9 = (0, 0, fun _ => 0, fun _ => 0) := by rw [f_XM_formulaP_L56_q]; rfl
noncomputable def g_XM_formulaP_J55 (mth : Int) (mn : Int) (mp : Int) (mw : Int) (mu : Int) (md : Int) (mo : Int) (y0 : Int → Int) (y8 : Int → Int) (y9 : Int → Int) (r : Int) (mp1'4 : Int) (mw1'5 : Int) (mk0 : Int) (jm : Int) : Int × Int × (Int → Int) × (Int → Int) :=
  f_XM_formulaP_L56 mth mn mp mw mu md mo y0 y8 y9 r (Int.toNat (mn - mp1'4) + 1) mk0 jm mp1'4 mw1'5 y9
noncomputable def f_XM_formulaP_J55 : Int → Int → Int → Int → Int → Int → Int → (Int → Int) → (Int → Int) → (Int → Int) → Int → Int → Int → Int → Int → Int × Int × (Int → Int) × (Int → Int) := jopq g_XM_formulaP_J55
theorem f_XM_formulaP_J55_q : f_XM_formulaP_J55 = g_XM_formulaP_J55 := jopq_eq _
theorem f_XM_formulaP_J55_s (mth : Int) (mn : Int) (mp : Int) (mw : Int) (mu : Int) (md : Int) (mo : Int) (y0 : Int → Int) (y8 : Int → Int) (y9 : Int → Int) (r : Int) (mp1'4 : Int) (mw1'5 : Int) (mk0 : Int) (jm : Int) : f_XM_formulaP_J55 mth mn mp mw mu md mo y0 y8 y9 r mp1'4 mw1'5 mk0 jm = (
    f_XM_formulaP_L56 mth mn mp mw mu md mo y0 y8 y9 r (Int.toNat (mn - mp1'4) + 1) mk0 jm mp1'4 mw1'5 y9
  : Int × Int × (Int → Int) × (Int → Int)) := by rw [f_XM_formulaP_J55_q]; rfl
noncomputable def g_XM_formulaP_J35 (mth : Int) (mn : Int) (mp : Int) (mw : Int) (mu : Int) (md : Int) (mo : Int) (y0 : Int → Int) (y8 : Int → Int) (y9 : Int → Int) (r : Int) (mp1' : Int) (w1 : Int) : Int × Int × (Int → Int) × (Int → Int) :=
  match f_XM_takeP mth mn mp1' w1 mu md mo y0 61 with
  | (mp1'4, mw1'5) =>
    if mw1'5 < 0 then
      f_XM_formulaP_J55 mth mn mp mw mu md mo y0 y8 y9 r mp1'4 mw1'5 0 1
    else
      f_XM_formulaP_J55 mth mn mp mw mu md mo y0 y8 y9 r mp1'4 mw1'5 0 0
noncomputable def f_XM_formulaP_J35 : Int → Int → Int → Int → Int → Int → Int → (Int → Int) → (Int → Int) → (Int → Int) → Int → Int → Int → Int × Int × (Int → Int) × (Int → Int) := jopq g_XM_formulaP_J35
theorem f_XM_formulaP_J35_q : f_XM_formulaP_J35 = g_XM_formulaP_J35 := jopq_eq _
theorem f_XM_formulaP_J35_s (mth : Int) (mn : Int) (mp : Int) (mw : Int) (mu : Int) (md : Int) (mo : Int) (y0 : Int → Int) (y8 : Int → Int) (y9 : Int → Int) (r : Int) (mp1' : Int) (w1 : Int) : f_XM_formulaP_J35 mth mn mp mw mu md mo y0 y8 y9 r mp1' w1 = (
    match f_XM_takeP mth mn mp1' w1 mu md mo y0 61 with
    | (mp1'4, mw1'5) =>
      if mw1'5 < 0 then
        f_XM_formulaP_J55 mth mn mp mw mu md mo y0 y8 y9 r mp1'4 mw1'5 0 1
      else
        f_XM_formulaP_J55 mth mn mp mw mu md mo y0 y8 y9 r mp1'4 mw1'5 0 0
  : Int × Int × (Int → Int) × (Int → Int)) := by rw [f_XM_formulaP_J35_q]; rfl
noncomputable def g_XM_formulaP (mth : Int) (mn : Int) (mp : Int) (mw : Int) (mu : Int) (md : Int) (mo : Int) (y0 : Int → Int) (y8 : Int → Int) (y9 : Int → Int) : Int × Int × (Int → Int) × (Int → Int) :=
  match f_XM_numberP mth mn mp mw mu md mo y0 0 3 with
  | (r, mp1', mw1') =>
    if mw1' < 0 then
      if (y8 (4 + r)) = 0 then
        f_XM_formulaP_J35 mth mn mp mw mu md mo y0 y8 y9 r mp1' mw1'
      else
        f_XM_formulaP_J35 mth mn mp mw mu md mo y0 y8 y9 r mp1' (f_XM_failP mth mn mp1' mw1' mu md mo (mp1' - 1))
    else
      f_XM_formulaP_J35 mth mn mp mw mu md mo y0 y8 y9 r mp1' mw1'
noncomputable def f_XM_formulaP : Int → Int → Int → Int → Int → Int → Int → (Int → Int) → (Int → Int) → (Int → Int) → Int × Int × (Int → Int) × (Int → Int) := jopq g_XM_formulaP
theorem f_XM_formulaP_q : f_XM_formulaP = g_XM_formulaP := jopq_eq _
theorem f_XM_formulaP_s (mth : Int) (mn : Int) (mp : Int) (mw : Int) (mu : Int) (md : Int) (mo : Int) (y0 : Int → Int) (y8 : Int → Int) (y9 : Int → Int) : f_XM_formulaP mth mn mp mw mu md mo y0 y8 y9 = (
    match f_XM_numberP mth mn mp mw mu md mo y0 0 3 with
    | (r, mp1', mw1') =>
      if mw1' < 0 then
        if (y8 (4 + r)) = 0 then
          f_XM_formulaP_J35 mth mn mp mw mu md mo y0 y8 y9 r mp1' mw1'
        else
          f_XM_formulaP_J35 mth mn mp mw mu md mo y0 y8 y9 r mp1' (f_XM_failP mth mn mp1' mw1' mu md mo (mp1' - 1))
      else
        f_XM_formulaP_J35 mth mn mp mw mu md mo y0 y8 y9 r mp1' mw1'
  : Int × Int × (Int → Int) × (Int → Int)) := by rw [f_XM_formulaP_q]; rfl
set_option maxHeartbeats 4000000 in
set_option maxRecDepth 100000 in
theorem c_XM_formulaP (l : Launch) (dC : Nat → ClassId) (dI : Nat → Nat → Nat) (cA cZ : ClassId) (sz : Nat) (ma : Nat) (a0 : Nat) (a1 : Nat) (a2 : Nat) (a3 : Nat) (a4 : Nat) (a5 : Nat) (a6 : Nat) (a7 : Nat) (a8 : Nat) (a9 : Nat) (a10 : Nat) (a11 : Nat) (mth : Int) (mn : Int) (mp : Int) (mw : Int) (mu : Int) (md : Int) (mo : Int) (y0 : Int → Int) (y8 : Int → Int) (y9 : Int → Int) (hy0 : ∀ i, 0 ≤ y0 i ∧ y0 i ≤ 255) (hmn : 0 ≤ mn ∧ mn ≤ 400) (hmp : 0 ≤ mp ∧ mp ≤ mn) (hmw : -1 ≤ mw ∧ mw ≤ 400) (hy8 : ∀ i, 0 ≤ y8 i ∧ y8 i ≤ 1) (hy9 : ∀ i, 0 ≤ y9 i ∧ y9 i ≤ 20) : Met l yXM_formula (Cond.code yXM_formula cXM_formula 5 none :: TBL) ({ frames := 3, cells := 0, slots := 0, locals := 66 } : Room) (va_Pc [.ref ma] (jBw (dC, dI) [(cA, .int), (cZ, .boolean)] [(ma, .inr (5, [.int (jI mth), .int (jI mn), .ref a0, .int (jI mp), .int (jI mw), .ref a1, .ref a2, .ref a3, .ref a4, .ref a5, .ref a6, .ref a7, .ref a8, .ref a9, .ref a10, .long (jL mu), .long (jL md), .int (jI mo), .ref a11])), (a0, .inl (cA, 400, .inl (jA y0))), (a8, .inl (cZ, 8, .inl (jA y8))), (a9, .inl (cA, 64, .inl (jA y9)))] sz)) (va_Qv (fun (u : Int × Int × (Int → Int) × (Int → Int)) => u = f_XM_formulaP mth mn mp mw mu md mo y0 y8 y9 ∧ (mp ≤ u.1 ∧ u.1 ≤ mn) ∧ (-1 ≤ u.2.1 ∧ u.2.1 ≤ 400 ∧ mw ≤ u.2.1) ∧ (∀ i, 0 ≤ u.2.2.1 i ∧ u.2.2.1 i ≤ 1) ∧ (∀ i, 0 ≤ u.2.2.2 i ∧ u.2.2.2 i ≤ 20) ∧ (∀ i, i < 4 → u.2.2.1 i = y8 i) ∧ (∀ i, i < 32 → u.2.2.2 i = y9 i)) (fun u t => jE (dC, dI) [(cA, .int), (cZ, .boolean)] [(ma, .inr (5, [.int (jI mth), .int (jI mn), .ref a0, .int (jI mp), .int (jI mw), .ref a1, .ref a2, .ref a3, .ref a4, .ref a5, .ref a6, .ref a7, .ref a8, .ref a9, .ref a10, .long (jL mu), .long (jL md), .int (jI mo), .ref a11])), (a0, .inl (cA, 400, .inl (jA y0))), (a8, .inl (cZ, 8, .inl (jA y8))), (a9, .inl (cA, 64, .inl (jA y9)))] sz [(ma, .inr (5, [.int (jI mth), .int (jI mn), .ref a0, .int (jI u.1), .int (jI u.2.1), .ref a1, .ref a2, .ref a3, .ref a4, .ref a5, .ref a6, .ref a7, .ref a8, .ref a9, .ref a10, .long (jL mu), .long (jL md), .int (jI mo), .ref a11])), (a0, .inl (cA, 400, .inl (jA y0))), (a8, .inl (cZ, 8, .inl (jA u.2.2.1))), (a9, .inl (cA, 64, .inl (jA u.2.2.2)))] t) (va_A [(ma, .inr (5, [.int (jI mth), .int (jI mn), .ref a0, .int (jI mp), .int (jI mw), .ref a1, .ref a2, .ref a3, .ref a4, .ref a5, .ref a6, .ref a7, .ref a8, .ref a9, .ref a10, .long (jL mu), .long (jL md), .int (jI mo), .ref a11])), (a0, .inl (cA, 400, .inl (jA y0))), (a8, .inl (cZ, 8, .inl (jA y8))), (a9, .inl (cA, 64, .inl (jA y9)))] sz)) 0 0 (va_A [(ma, .inr (5, [.int (jI mth), .int (jI mn), .ref a0, .int (jI mp), .int (jI mw), .ref a1, .ref a2, .ref a3, .ref a4, .ref a5, .ref a6, .ref a7, .ref a8, .ref a9, .ref a10, .long (jL mu), .long (jL md), .int (jI mo), .ref a11])), (a0, .inl (cA, 400, .inl (jA y0))), (a8, .inl (cZ, 8, .inl (jA y8))), (a9, .inl (cA, 64, .inl (jA y9)))] sz) := by
  refine jMet (cc := cXM_formula) (maxL := 5) (ret := none) (by decide) rfl ?_
  intro p e s m args below meth c s₁ R Q hR hQ B hml hv
  obtain ⟨rfl, hsz, hP, hK, hD0, hN⟩ := hv
  have hx := B.exec
  have hb := B.bytes
  have hr := B.returns
  have hts := atoms_spec (ws := Cond.code yXM_formula cXM_formula 5 none :: TBL) B.pre
  have hown : s.vm.findClass RXM = some m.cls := findClass_of_methodNamed B.named
  have hlocks := B.notSynchronized
  subst hsz
  obtain ⟨A, hAe⟩ : ∃ A, A = va_A [(ma, .inr (5, [.int (jI mth), .int (jI mn), .ref a0, .int (jI mp), .int (jI mw), .ref a1, .ref a2, .ref a3, .ref a4, .ref a5, .ref a6, .ref a7, .ref a8, .ref a9, .ref a10, .long (jL mu), .long (jL md), .int (jI mo), .ref a11])), (a0, .inl (cA, 400, .inl (jA y0))), (a8, .inl (cZ, 8, .inl (jA y8))), (a9, .inl (cA, 64, .inl (jA y9)))] s.heap.size := ⟨_, rfl⟩
  have hD : va_D A [(ma, .inr (5, [.int (jI mth), .int (jI mn), .ref a0, .int (jI mp), .int (jI mw), .ref a1, .ref a2, .ref a3, .ref a4, .ref a5, .ref a6, .ref a7, .ref a8, .ref a9, .ref a10, .long (jL mu), .long (jL md), .int (jI mo), .ref a11])), (a0, .inl (cA, 400, .inl (jA y0))), (a8, .inl (cZ, 8, .inl (jA y8))), (a9, .inl (cA, 64, .inl (jA y9)))] := by rw [hAe]; exact hD0.self
  have hA : ∀ q : Nat, s.heap.size ≤ q → A q := fun q h => by rw [hAe]; exact Or.inr h
  have hS : va_S A s.heap s.heap [] := va_S.rf
  have hP : va_P (dC, dI) vwCl [(ma, .inr (5, [.int (jI mth), .int (jI mn), .ref a0, .int (jI mp), .int (jI mw), .ref a1, .ref a2, .ref a3, .ref a4, .ref a5, .ref a6, .ref a7, .ref a8, .ref a9, .ref a10, .long (jL mu), .long (jL md), .int (jI mo), .ref a11])), (a0, .inl (cA, 400, .inl (jA y0))), (a8, .inl (cZ, 8, .inl (jA y8))), (a9, .inl (cA, 64, .inl (jA y9)))] s.heap := hP
  have hl := lv_entry ([.ref ma]) (n := 5) (Nat.le_of_ble_eq_true rfl)
  rw [lg_entry_eq]
  generalize (lg_sl ([.ref ma]) ++ List.replicate (5 - (lg_sl ([.ref ma])).length) Slot.unset).toArray = ls at hl ⊢
  have hl : lv_has ls 5 [(0, .ref ma)] := hl
  refine ji_iconst hx hb dXM_formula_0 ?_
  refine lv_aload_n hx hb dXM_formula_1 rfl (lv_at hl 0 rfl) ?_
  refine ji_iconst hx hb dXM_formula_2 ?_
  refine ji_iconst hx hb dXM_formula_3 ?_
  refine jwVi (rest := [.int (jI 4)]) (wr := [(a8, .inl (cZ, 8, .inl (jA y8))), (a9, .inl (cA, 64, .inl (jA y9)))]) ⟨hx, hb, hml, hown, hts⟩ (c_XM_numberP l dC dI cA cZ _ ma a0 a1 a2 a3 a4 a5 a6 a7 a8 a9 a10 a11 mth mn mp mw mu md mo y0 0 3 (by first | assumption | omega) (by first | assumption | omega) (by first | assumption | omega) (by first | assumption | omega) (by first | assumption | omega)) (cwV 2 hts (jG_V tw_726 tw_728 ts_20 tw_6 tw_729) rfl rfl rfl (by decide +kernel) (by rw [hR]; exact ⟨Nat.le_of_ble_eq_true rfl, Nat.le_of_ble_eq_true rfl⟩)) hK hP hD hS hA hN [0, 1] [2, 3] rfl rfl (by decide) (by decide) (by decide) 0 5 rfl rfl rfl rfl hl.1 rfl (Nat.le_of_ble_eq_true rfl) dXM_formula_4 (by rw [hR]; exact ⟨Nat.le_of_ble_eq_true rfl, Nat.le_of_ble_eq_true rfl⟩) (fun v u H locs hwb hP hD hS => ?_)
  obtain ⟨r, mp1', mw1'⟩ := u
  try dsimp only at hwb
  obtain ⟨er, hwb, f, f1, f2, f3⟩ := hwb
  subst er
  have f : 0 ≤ r ∧ r ≤ 3 := f
  have f1 : mp ≤ mp1' ∧ mp1' ≤ mn := f1
  have f2 : -1 ≤ mw1' ∧ mw1' ≤ 400 ∧ mw ≤ mw1' := f2
  have f3 : mw1' < 0 → mp < mp1' := f3
  have hP : va_P (dC, dI) vwCl [(a8, .inl (cZ, 8, .inl (jA y8))), (a9, .inl (cA, 64, .inl (jA y9))), (ma, .inr (5, [.int (jI mth), .int (jI mn), .ref a0, .int (jI mp1'), .int (jI mw1'), .ref a1, .ref a2, .ref a3, .ref a4, .ref a5, .ref a6, .ref a7, .ref a8, .ref a9, .ref a10, .long (jL mu), .long (jL md), .int (jI mo), .ref a11])), (a0, .inl (cA, 400, .inl (jA y0)))] H := hP
  have hD : va_D A [(a8, .inl (cZ, 8, .inl (jA y8))), (a9, .inl (cA, 64, .inl (jA y9))), (ma, .inr (5, [.int (jI mth), .int (jI mn), .ref a0, .int (jI mp1'), .int (jI mw1'), .ref a1, .ref a2, .ref a3, .ref a4, .ref a5, .ref a6, .ref a7, .ref a8, .ref a9, .ref a10, .long (jL mu), .long (jL md), .int (jI mo), .ref a11])), (a0, .inl (cA, 400, .inl (jA y0)))] := hD
  refine ji_iadd hx hb dXM_formula_7 ?_
  refine lv_istore_n (lv' := [(1, .int (jI (4 + r))), (0, .ref ma)]) hx hb dXM_formula_8 rfl hl (by decide) rfl (fun ls hl => ?_)
  have join35 : ∀ (w1 : Int) , f_XM_formulaP_J35 mth mn mp mw mu md mo y0 y8 y9 r mp1' w1 = f_XM_formulaP mth mn mp mw mu md mo y0 y8 y9 → (-1 ≤ w1 ∧ w1 ≤ 400 ∧ mw1' ≤ w1) → ∀ (H : Heap) (locs : List Loc), va_P (dC, dI) vwCl [(a8, .inl (cZ, 8, .inl (jA y8))), (a9, .inl (cA, 64, .inl (jA y9))), (ma, .inr (5, [.int (jI mth), .int (jI mn), .ref a0, .int (jI mp1'), .int (jI w1), .ref a1, .ref a2, .ref a3, .ref a4, .ref a5, .ref a6, .ref a7, .ref a8, .ref a9, .ref a10, .long (jL mu), .long (jL md), .int (jI mo), .ref a11])), (a0, .inl (cA, 400, .inl (jA y0)))] H → va_D A [(a8, .inl (cZ, 8, .inl (jA y8))), (a9, .inl (cA, 64, .inl (jA y9))), (ma, .inr (5, [.int (jI mth), .int (jI mn), .ref a0, .int (jI mp1'), .int (jI w1), .ref a1, .ref a2, .ref a3, .ref a4, .ref a5, .ref a6, .ref a7, .ref a8, .ref a9, .ref a10, .long (jL mu), .long (jL md), .int (jI mo), .ref a11])), (a0, .inl (cA, 400, .inl (jA y0)))] → va_S A s.heap H locs → ∀ ls : Array Slot, lv_has ls 5 [(1, .int (jI (4 + r))), (0, .ref ma)] → W p l e R s m ([.ref ma] : List Value).toArray below meth c H locs 0 0 Q (F0 m 35 ls []) := by
    intro w1 hF hw1 H locs hP hD hS ls hl
    refine lv_aload_n hx hb dXM_formula_35 rfl (lv_at hl 1 rfl) ?_
    refine ji_bipush hx hb dXM_formula_36 (by decide) ?_
    refine jwVv (rest := []) (wr := [(a8, .inl (cZ, 8, .inl (jA y8))), (a9, .inl (cA, 64, .inl (jA y9)))]) ⟨hx, hb, hml, hown, hts⟩ (c_XM_takeP l dC dI cA cZ _ ma a0 a1 a2 a3 a4 a5 a6 a7 a8 a9 a10 a11 mth mn mp1' w1 mu md mo y0 61 (by first | assumption | omega) (by first | assumption | omega) (by first | assumption | omega) (by first | assumption | omega) (by first | assumption | omega)) (cwV 1 hts (jG_V tw_738 tw_740 ts_23 tw_6 tw_741) rfl rfl rfl (by decide +kernel) (by rw [hR]; exact ⟨Nat.le_of_ble_eq_true rfl, Nat.le_of_ble_eq_true rfl⟩)) hK hP hD hS hA hN [2, 3] [0, 1] rfl rfl (by decide) (by decide) (by decide) 2 5 rfl rfl rfl rfl hl.1 rfl (Nat.le_of_ble_eq_true rfl) dXM_formula_38 (by rw [hR]; exact ⟨Nat.le_of_ble_eq_true rfl, Nat.le_of_ble_eq_true rfl⟩) (fun u6 H locs hwb7 hP hD hS => ?_)
    obtain ⟨mp1'4, mw1'5⟩ := u6
    try dsimp only at hwb7
    obtain ⟨hwb7, f8, f9, f10⟩ := hwb7
    have f8 : mp1' ≤ mp1'4 ∧ mp1'4 ≤ mn := f8
    have f9 : -1 ≤ mw1'5 ∧ mw1'5 ≤ 400 ∧ w1 ≤ mw1'5 := f9
    have f10 : mw1'5 < 0 → mp1' < mp1'4 := f10
    have hP : va_P (dC, dI) vwCl [(a8, .inl (cZ, 8, .inl (jA y8))), (a9, .inl (cA, 64, .inl (jA y9))), (ma, .inr (5, [.int (jI mth), .int (jI mn), .ref a0, .int (jI mp1'4), .int (jI mw1'5), .ref a1, .ref a2, .ref a3, .ref a4, .ref a5, .ref a6, .ref a7, .ref a8, .ref a9, .ref a10, .long (jL mu), .long (jL md), .int (jI mo), .ref a11])), (a0, .inl (cA, 400, .inl (jA y0)))] H := hP
    have hD : va_D A [(a8, .inl (cZ, 8, .inl (jA y8))), (a9, .inl (cA, 64, .inl (jA y9))), (ma, .inr (5, [.int (jI mth), .int (jI mn), .ref a0, .int (jI mp1'4), .int (jI mw1'5), .ref a1, .ref a2, .ref a3, .ref a4, .ref a5, .ref a6, .ref a7, .ref a8, .ref a9, .ref a10, .long (jL mu), .long (jL md), .int (jI mo), .ref a11])), (a0, .inl (cA, 400, .inl (jA y0)))] := hD
    have join55 : ∀ (mk0 : Int) (jm : Int) , f_XM_formulaP_J55 mth mn mp mw mu md mo y0 y8 y9 r mp1'4 mw1'5 mk0 jm = f_XM_formulaP mth mn mp mw mu md mo y0 y8 y9 → (i32 mk0) → (0 ≤ jm ∧ jm ≤ 1) → ∀ (H : Heap) (locs : List Loc), va_P (dC, dI) vwCl [(a8, .inl (cZ, 8, .inl (jA y8))), (a9, .inl (cA, 64, .inl (jA y9))), (ma, .inr (5, [.int (jI mth), .int (jI mn), .ref a0, .int (jI mp1'4), .int (jI mw1'5), .ref a1, .ref a2, .ref a3, .ref a4, .ref a5, .ref a6, .ref a7, .ref a8, .ref a9, .ref a10, .long (jL mu), .long (jL md), .int (jI mo), .ref a11])), (a0, .inl (cA, 400, .inl (jA y0)))] H → va_D A [(a8, .inl (cZ, 8, .inl (jA y8))), (a9, .inl (cA, 64, .inl (jA y9))), (ma, .inr (5, [.int (jI mth), .int (jI mn), .ref a0, .int (jI mp1'4), .int (jI mw1'5), .ref a1, .ref a2, .ref a3, .ref a4, .ref a5, .ref a6, .ref a7, .ref a8, .ref a9, .ref a10, .long (jL mu), .long (jL md), .int (jI mo), .ref a11])), (a0, .inl (cA, 400, .inl (jA y0)))] → va_S A s.heap H locs → ∀ ls : Array Slot, lv_has ls 5 [(1, .int (jI (4 + r))), (0, .ref ma), (2, .int (jI mk0))] → W p l e R s m ([.ref ma] : List Value).toArray below meth c H locs 0 0 Q (F0 m 55 ls [.int (jI jm)]) := by
      intro mk0 jm hF hmk0 hjm H locs hP hD hS ls hl
      refine lv_istore_n (lv' := [(3, .int (jI jm)), (1, .int (jI (4 + r))), (0, .ref ma), (2, .int (jI mk0))]) hx hb dXM_formula_55 rfl hl (by decide) rfl (fun ls hl => ?_)
      have loop56 : ∀ (n9 : Nat) (mks : Int) (jm2 : Int) (k : Int) (w : Int) (w9 : Int → Int) , mn - k < (n9 : Int) → f_XM_formulaP_L56 mth mn mp mw mu md mo y0 y8 y9 r n9 mks jm2 k w w9 = f_XM_formulaP mth mn mp mw mu md mo y0 y8 y9 → (mp1'4 ≤ k ∧ k ≤ mn) → (-1 ≤ w ∧ w ≤ 400 ∧ mw1'5 ≤ w) → (i32 mks) → (0 ≤ jm2 ∧ jm2 ≤ 1) → (∀ i, 0 ≤ w9 i ∧ w9 i ≤ 20) → (∀ i, i < 32 → w9 i = y9 i) → ∀ (H : Heap) (locs : List Loc), va_P (dC, dI) vwCl [(a8, .inl (cZ, 8, .inl (jA y8))), (a9, .inl (cA, 64, .inl (jA w9))), (ma, .inr (5, [.int (jI mth), .int (jI mn), .ref a0, .int (jI k), .int (jI w), .ref a1, .ref a2, .ref a3, .ref a4, .ref a5, .ref a6, .ref a7, .ref a8, .ref a9, .ref a10, .long (jL mu), .long (jL md), .int (jI mo), .ref a11])), (a0, .inl (cA, 400, .inl (jA y0)))] H → va_D A [(a8, .inl (cZ, 8, .inl (jA y8))), (a9, .inl (cA, 64, .inl (jA w9))), (ma, .inr (5, [.int (jI mth), .int (jI mn), .ref a0, .int (jI k), .int (jI w), .ref a1, .ref a2, .ref a3, .ref a4, .ref a5, .ref a6, .ref a7, .ref a8, .ref a9, .ref a10, .long (jL mu), .long (jL md), .int (jI mo), .ref a11])), (a0, .inl (cA, 400, .inl (jA y0)))] → va_S A s.heap H locs → ∀ ls : Array Slot, lv_has ls 5 [(3, .int (jI jm2)), (1, .int (jI (4 + r))), (0, .ref ma), (2, .int (jI mks))] → W p l e R s m ([.ref ma] : List Value).toArray below meth c H locs 0 0 Q (F0 m 56 ls []) := by
        intro n9
        induction n9 with
        | zero =>
          intro mks jm2 k w w9 hm hF hk hw hmk hjm2 hw9 hl9
          exact absurd hm (by omega)
        | succ n9 ih56 =>
          intro mks jm2 k w w9 hm hF hk hw hmk hjm2 hw9 hl9 H locs hP hD hS ls hl
          refine lv_iload_n hx hb dXM_formula_56 rfl (lv_at hl 0 rfl) ?_
          refine ji_if_eq (tgt := 137) hx hb dXM_formula_57 (by decide) (by omega) (fun c57_ => ?_) (fun c57_ => ?_)
          · refine lv_aload_n hx hb dXM_formula_137 rfl (lv_at hl 2 rfl) ?_
            refine ji_bipush hx hb dXM_formula_138 (by decide) ?_
            refine jwVv (rest := []) (wr := [(a8, .inl (cZ, 8, .inl (jA y8))), (a9, .inl (cA, 64, .inl (jA w9)))]) ⟨hx, hb, hml, hown, hts⟩ (c_XM_takeP l dC dI cA cZ _ ma a0 a1 a2 a3 a4 a5 a6 a7 a8 a9 a10 a11 mth mn k w mu md mo y0 59 (by first | assumption | omega) (by first | assumption | omega) (by first | assumption | omega) (by first | assumption | omega) (by first | assumption | omega)) (cwV 1 hts (jG_V tw_738 tw_740 ts_23 tw_6 tw_741) rfl rfl rfl (by decide +kernel) (by rw [hR]; exact ⟨Nat.le_of_ble_eq_true rfl, Nat.le_of_ble_eq_true rfl⟩)) hK hP hD hS hA hN [2, 3] [0, 1] rfl rfl (by decide) (by decide) (by decide) 2 5 rfl rfl rfl rfl hl.1 rfl (Nat.le_of_ble_eq_true rfl) dXM_formula_140 (by rw [hR]; exact ⟨Nat.le_of_ble_eq_true rfl, Nat.le_of_ble_eq_true rfl⟩) (fun u13 H locs hwb14 hP hD hS => ?_)
            obtain ⟨mp1'11, mw1'12⟩ := u13
            try dsimp only at hwb14
            obtain ⟨hwb14, f15, f16, f17⟩ := hwb14
            have f15 : k ≤ mp1'11 ∧ mp1'11 ≤ mn := f15
            have f16 : -1 ≤ mw1'12 ∧ mw1'12 ≤ 400 ∧ w ≤ mw1'12 := f16
            have f17 : mw1'12 < 0 → k < mp1'11 := f17
            have hP : va_P (dC, dI) vwCl [(a8, .inl (cZ, 8, .inl (jA y8))), (a9, .inl (cA, 64, .inl (jA w9))), (ma, .inr (5, [.int (jI mth), .int (jI mn), .ref a0, .int (jI mp1'11), .int (jI mw1'12), .ref a1, .ref a2, .ref a3, .ref a4, .ref a5, .ref a6, .ref a7, .ref a8, .ref a9, .ref a10, .long (jL mu), .long (jL md), .int (jI mo), .ref a11])), (a0, .inl (cA, 400, .inl (jA y0)))] H := hP
            have hD : va_D A [(a8, .inl (cZ, 8, .inl (jA y8))), (a9, .inl (cA, 64, .inl (jA w9))), (ma, .inr (5, [.int (jI mth), .int (jI mn), .ref a0, .int (jI mp1'11), .int (jI mw1'12), .ref a1, .ref a2, .ref a3, .ref a4, .ref a5, .ref a6, .ref a7, .ref a8, .ref a9, .ref a10, .long (jL mu), .long (jL md), .int (jI mo), .ref a11])), (a0, .inl (cA, 400, .inl (jA y0)))] := hD
            refine lv_aload_n hx hb dXM_formula_143 rfl (lv_at hl 2 rfl) ?_
            refine va_get (D := (dC, dI)) (ci := 5) (v := .int (jI mw1'12)) (C := RXM) (T := TXM) (N := 19) hx hb hts (fun w h => jmem (inXM w h)) hown hK hP 2 rfl rfl 4 (by decide) (hts _ (jmem tw_632)) (fun _ h9 => h9) rfl dXM_formula_144 ?_
            refine ji_if_ge (tgt := 157) hx hb dXM_formula_147 (by decide) (by omega) (fun c147_ => ?_) (fun c147_ => ?_)
            · have hP9 := hP.sub (ws' := [(ma, .inr (5, [.int (jI mth), .int (jI mn), .ref a0, .int (jI mp1'11), .int (jI mw1'12), .ref a1, .ref a2, .ref a3, .ref a4, .ref a5, .ref a6, .ref a7, .ref a8, .ref a9, .ref a10, .long (jL mu), .long (jL md), .int (jI mo), .ref a11])), (a0, .inl (cA, 400, .inl (jA y0))), (a8, .inl (cZ, 8, .inl (jA y8))), (a9, .inl (cA, 64, .inl (jA w9)))]) [2, 3, 0, 1] rfl
              have hD9 := hD.sub (ws' := [(ma, .inr (5, [.int (jI mth), .int (jI mn), .ref a0, .int (jI mp1'11), .int (jI mw1'12), .ref a1, .ref a2, .ref a3, .ref a4, .ref a5, .ref a6, .ref a7, .ref a8, .ref a9, .ref a10, .long (jL mu), .long (jL md), .int (jI mo), .ref a11])), (a0, .inl (cA, 400, .inl (jA y0))), (a8, .inl (cZ, 8, .inl (jA y8))), (a9, .inl (cA, 64, .inl (jA w9)))]) [2, 3, 0, 1] (by decide) rfl
              subst hAe
              subst hQ
              exact W.vret hx hb hr (fun t ht hW => ⟨⟨(mp1'11, mw1'12, y8, w9), rfl, ⟨Eq.trans (by rw [f_XM_formulaP_L56_s]; rw [if_pos c57_]; rw [← hwb14]; try dsimp only; rw [if_neg (Int.not_lt.mpr c147_)]; try rfl) hF, show mp ≤ mp1'11 ∧ mp1'11 ≤ mn from by first | assumption | omega | exact jset_b (by assumption) (by omega) | exact jset_l (by assumption) (by omega) | exact jset_l (fun _ _ => rfl) (by omega) | exact fun _ _ => rfl | exact l_trans (by assumption) (by assumption), show -1 ≤ mw1'12 ∧ mw1'12 ≤ 400 ∧ mw ≤ mw1'12 from by first | assumption | omega | exact jset_b (by assumption) (by omega) | exact jset_l (by assumption) (by omega) | exact jset_l (fun _ _ => rfl) (by omega) | exact fun _ _ => rfl | exact l_trans (by assumption) (by assumption), show ∀ i, 0 ≤ y8 i ∧ y8 i ≤ 1 from by first | assumption | omega | exact jset_b (by assumption) (by omega) | exact jset_l (by assumption) (by omega) | exact jset_l (fun _ _ => rfl) (by omega) | exact fun _ _ => rfl | exact l_trans (by assumption) (by assumption), show ∀ i, 0 ≤ w9 i ∧ w9 i ≤ 20 from by first | assumption | omega | exact jset_b (by assumption) (by omega) | exact jset_l (by assumption) (by omega) | exact jset_l (fun _ _ => rfl) (by omega) | exact fun _ _ => rfl | exact l_trans (by assumption) (by assumption), show ∀ i, i < 4 → y8 i = y8 i from by first | assumption | omega | exact jset_b (by assumption) (by omega) | exact jset_l (by assumption) (by omega) | exact jset_l (fun _ _ => rfl) (by omega) | exact fun _ _ => rfl | exact l_trans (by assumption) (by assumption), show ∀ i, i < 32 → w9 i = y9 i from by first | assumption | omega | exact jset_b (by assumption) (by omega) | exact jset_l (by assumption) (by omega) | exact jset_l (fun _ _ => rfl) (by omega) | exact fun _ _ => rfl | exact l_trans (by assumption) (by assumption)⟩, ⟨by rw [ht]; exact hP9, va_K.moved hW.alike hK, hD9⟩⟩, hS.F ht⟩) hS.2.2 dXM_formula_157
            · refine lv_aload_n hx hb dXM_formula_150 rfl (lv_at hl 2 rfl) ?_
              refine va_get (D := (dC, dI)) (ci := 5) (v := .ref a8) (C := RXM) (T := TXM) (N := 19) hx hb hts (fun w h => jmem (inXM w h)) hown hK hP 2 rfl rfl 12 (by decide) (hts _ (jmem tw_640)) (fun _ h9 => h9) rfl dXM_formula_151 ?_
              refine lv_iload_n hx hb dXM_formula_154 rfl (lv_at hl 1 rfl) ?_
              refine ji_iconst hx hb dXM_formula_155 ?_
              refine ji_zast hx hb hK hP hD hS 0 1 rfl rfl (by first | decide | omega) ⟨by omega, by omega⟩ (by decide) dXM_formula_156 (fun H locs hP hD hS => ?_)
              have hP : va_P (dC, dI) vwCl [(a8, .inl (cZ, 8, .inl (jA (jset y8 (4 + r) 1)))), (a9, .inl (cA, 64, .inl (jA w9))), (ma, .inr (5, [.int (jI mth), .int (jI mn), .ref a0, .int (jI mp1'11), .int (jI mw1'12), .ref a1, .ref a2, .ref a3, .ref a4, .ref a5, .ref a6, .ref a7, .ref a8, .ref a9, .ref a10, .long (jL mu), .long (jL md), .int (jI mo), .ref a11])), (a0, .inl (cA, 400, .inl (jA y0)))] H := hP
              have hD : va_D A [(a8, .inl (cZ, 8, .inl (jA (jset y8 (4 + r) 1)))), (a9, .inl (cA, 64, .inl (jA w9))), (ma, .inr (5, [.int (jI mth), .int (jI mn), .ref a0, .int (jI mp1'11), .int (jI mw1'12), .ref a1, .ref a2, .ref a3, .ref a4, .ref a5, .ref a6, .ref a7, .ref a8, .ref a9, .ref a10, .long (jL mu), .long (jL md), .int (jI mo), .ref a11])), (a0, .inl (cA, 400, .inl (jA y0)))] := hD
              have hP9 := hP.sub (ws' := [(ma, .inr (5, [.int (jI mth), .int (jI mn), .ref a0, .int (jI mp1'11), .int (jI mw1'12), .ref a1, .ref a2, .ref a3, .ref a4, .ref a5, .ref a6, .ref a7, .ref a8, .ref a9, .ref a10, .long (jL mu), .long (jL md), .int (jI mo), .ref a11])), (a0, .inl (cA, 400, .inl (jA y0))), (a8, .inl (cZ, 8, .inl (jA (jset y8 (4 + r) 1)))), (a9, .inl (cA, 64, .inl (jA w9)))]) [2, 3, 0, 1] rfl
              have hD9 := hD.sub (ws' := [(ma, .inr (5, [.int (jI mth), .int (jI mn), .ref a0, .int (jI mp1'11), .int (jI mw1'12), .ref a1, .ref a2, .ref a3, .ref a4, .ref a5, .ref a6, .ref a7, .ref a8, .ref a9, .ref a10, .long (jL mu), .long (jL md), .int (jI mo), .ref a11])), (a0, .inl (cA, 400, .inl (jA y0))), (a8, .inl (cZ, 8, .inl (jA (jset y8 (4 + r) 1)))), (a9, .inl (cA, 64, .inl (jA w9)))]) [2, 3, 0, 1] (by decide) rfl
              subst hAe
              subst hQ
              exact W.vret hx hb hr (fun t ht hW => ⟨⟨(mp1'11, mw1'12, jset y8 (4 + r) 1, w9), rfl, ⟨Eq.trans (by rw [f_XM_formulaP_L56_s]; rw [if_pos c57_]; rw [← hwb14]; try dsimp only; rw [if_pos c147_]; try rfl) hF, show mp ≤ mp1'11 ∧ mp1'11 ≤ mn from by first | assumption | omega | exact jset_b (by assumption) (by omega) | exact jset_l (by assumption) (by omega) | exact jset_l (fun _ _ => rfl) (by omega) | exact fun _ _ => rfl | exact l_trans (by assumption) (by assumption), show -1 ≤ mw1'12 ∧ mw1'12 ≤ 400 ∧ mw ≤ mw1'12 from by first | assumption | omega | exact jset_b (by assumption) (by omega) | exact jset_l (by assumption) (by omega) | exact jset_l (fun _ _ => rfl) (by omega) | exact fun _ _ => rfl | exact l_trans (by assumption) (by assumption), show ∀ i, 0 ≤ (jset y8 (4 + r) 1) i ∧ (jset y8 (4 + r) 1) i ≤ 1 from by first | assumption | omega | exact jset_b (by assumption) (by omega) | exact jset_l (by assumption) (by omega) | exact jset_l (fun _ _ => rfl) (by omega) | exact fun _ _ => rfl | exact l_trans (by assumption) (by assumption), show ∀ i, 0 ≤ w9 i ∧ w9 i ≤ 20 from by first | assumption | omega | exact jset_b (by assumption) (by omega) | exact jset_l (by assumption) (by omega) | exact jset_l (fun _ _ => rfl) (by omega) | exact fun _ _ => rfl | exact l_trans (by assumption) (by assumption), show ∀ i, i < 4 → (jset y8 (4 + r) 1) i = y8 i from by first | assumption | omega | exact jset_b (by assumption) (by omega) | exact jset_l (by assumption) (by omega) | exact jset_l (fun _ _ => rfl) (by omega) | exact fun _ _ => rfl | exact l_trans (by assumption) (by assumption), show ∀ i, i < 32 → w9 i = y9 i from by first | assumption | omega | exact jset_b (by assumption) (by omega) | exact jset_l (by assumption) (by omega) | exact jset_l (fun _ _ => rfl) (by omega) | exact fun _ _ => rfl | exact l_trans (by assumption) (by assumption)⟩, ⟨by rw [ht]; exact hP9, va_K.moved hW.alike hK, hD9⟩⟩, hS.F ht⟩) hS.2.2 dXM_formula_157
          · refine lv_aload_n hx hb dXM_formula_60 rfl (lv_at hl 2 rfl) ?_
            refine lv_iload_n hx hb dXM_formula_61 rfl (lv_at hl 3 rfl) ?_
            refine jwVi (rest := []) (wr := [(a8, .inl (cZ, 8, .inl (jA y8))), (a9, .inl (cA, 64, .inl (jA w9)))]) ⟨hx, hb, hml, hown, hts⟩ (c_XM_elementP l dC dI cA cZ _ ma a0 a1 a2 a3 a4 a5 a6 a7 a8 a9 a10 a11 mth mn k w mu md mo y0 mks (by first | assumption | omega) (by first | assumption | omega) (by first | assumption | omega) (by first | assumption | omega) (by first | assumption | omega)) (cwV 1 hts (jG_V tw_742 tw_744 ts_24 tw_6 tw_745) rfl rfl rfl (by decide +kernel) (by rw [hR]; exact ⟨Nat.le_of_ble_eq_true rfl, Nat.le_of_ble_eq_true rfl⟩)) hK hP hD hS hA hN [2, 3] [0, 1] rfl rfl (by decide) (by decide) (by decide) 2 5 rfl rfl rfl rfl hl.1 rfl (Nat.le_of_ble_eq_true rfl) dXM_formula_62 (by rw [hR]; exact ⟨Nat.le_of_ble_eq_true rfl, Nat.le_of_ble_eq_true rfl⟩) (fun v22 u21 H locs hwb23 hP hD hS => ?_)
            obtain ⟨r18, mp1'19, mw1'20⟩ := u21
            try dsimp only at hwb23
            obtain ⟨er, hwb23, f24, f25, f26, f27⟩ := hwb23
            subst er
            have f24 : -1 ≤ r18 ∧ r18 ≤ 7 := f24
            have f25 : k ≤ mp1'19 ∧ mp1'19 ≤ mn := f25
            have f26 : -1 ≤ mw1'20 ∧ mw1'20 ≤ 400 ∧ w ≤ mw1'20 := f26
            have f27 : 0 ≤ r18 → k < mp1'19 := f27
            have hP : va_P (dC, dI) vwCl [(a8, .inl (cZ, 8, .inl (jA y8))), (a9, .inl (cA, 64, .inl (jA w9))), (ma, .inr (5, [.int (jI mth), .int (jI mn), .ref a0, .int (jI mp1'19), .int (jI mw1'20), .ref a1, .ref a2, .ref a3, .ref a4, .ref a5, .ref a6, .ref a7, .ref a8, .ref a9, .ref a10, .long (jL mu), .long (jL md), .int (jI mo), .ref a11])), (a0, .inl (cA, 400, .inl (jA y0)))] H := hP
            have hD : va_D A [(a8, .inl (cZ, 8, .inl (jA y8))), (a9, .inl (cA, 64, .inl (jA w9))), (ma, .inr (5, [.int (jI mth), .int (jI mn), .ref a0, .int (jI mp1'19), .int (jI mw1'20), .ref a1, .ref a2, .ref a3, .ref a4, .ref a5, .ref a6, .ref a7, .ref a8, .ref a9, .ref a10, .long (jL mu), .long (jL md), .int (jI mo), .ref a11])), (a0, .inl (cA, 400, .inl (jA y0)))] := hD
            refine lv_istore (lv' := [(4, .int (jI r18)), (3, .int (jI jm2)), (1, .int (jI (4 + r))), (0, .ref ma), (2, .int (jI mks))]) hx hb dXM_formula_65 hl (by decide) rfl (fun ls hl => ?_)
            refine lv_iload hx hb dXM_formula_67 (lv_at hl 0 rfl) ?_
            refine ji_if_ge (tgt := 80) hx hb dXM_formula_69 (by decide) (by omega) (fun c69_ => ?_) (fun c69_ => ?_)
            · refine lv_aload_n hx hb dXM_formula_80 rfl (lv_at hl 3 rfl) ?_
              refine va_get (D := (dC, dI)) (ci := 5) (v := .int (jI mw1'20)) (C := RXM) (T := TXM) (N := 19) hx hb hts (fun w h => jmem (inXM w h)) hown hK hP 2 rfl rfl 4 (by decide) (hts _ (jmem tw_632)) (fun _ h9 => h9) rfl dXM_formula_81 ?_
              refine ji_if_lt (tgt := 88) hx hb dXM_formula_84 (by decide) (by omega) (fun c84_ => ?_) (fun c84_ => ?_)
              · refine lv_iload_n hx hb dXM_formula_88 rfl (lv_at hl 4 rfl) ?_
                refine ji_iconst hx hb dXM_formula_89 ?_
                refine lv_iload hx hb dXM_formula_90 (lv_at hl 0 rfl) ?_
                refine lv_ishl hx hb dXM_formula_92 ?_
                refine ji_rev ?_
                have rb := jti32 (jI 1 <<< (jI r18 &&& 31))
                refine lv_ior hx hb dXM_formula_93 ?_
                refine ji_rev ?_
                have rb28 := jti32 (jI mks ||| jI ((jI 1 <<< (jI r18 &&& 31)).toInt))
                refine lv_istore_n (lv' := [(2, .int (jI ((jI mks ||| jI ((jI 1 <<< (jI r18 &&& 31)).toInt)).toInt))), (4, .int (jI r18)), (3, .int (jI jm2)), (1, .int (jI (4 + r))), (0, .ref ma)]) hx hb dXM_formula_94 rfl hl (by decide) rfl (fun ls hl => ?_)
                refine lv_aload_n hx hb dXM_formula_95 rfl (lv_at hl 4 rfl) ?_
                refine va_get (D := (dC, dI)) (ci := 5) (v := .ref a9) (C := RXM) (T := TXM) (N := 19) hx hb hts (fun w h => jmem (inXM w h)) hown hK hP 2 rfl rfl 13 (by decide) (hts _ (jmem tw_641)) (fun _ h9 => h9) rfl dXM_formula_96 ?_
                refine ji_bipush hx hb dXM_formula_99 (by decide) ?_
                refine lv_iload_n hx hb dXM_formula_101 rfl (lv_at hl 3 rfl) ?_
                refine ji_imul hx hb dXM_formula_102 ?_
                refine lv_iload hx hb dXM_formula_103 (lv_at hl 1 rfl) ?_
                refine ji_iadd hx hb dXM_formula_105 ?_
                refine lv_aload_n hx hb dXM_formula_106 rfl (lv_at hl 4 rfl) ?_
                refine ji_bipush hx hb dXM_formula_107 (by decide) ?_
                refine jwVi (rest := [.int (jI ((8 * (4 + r)) + r18)), .ref a9]) (wr := [(a8, .inl (cZ, 8, .inl (jA y8))), (a9, .inl (cA, 64, .inl (jA w9)))]) ⟨hx, hb, hml, hown, hts⟩ (c_XM_takesP l dC dI cA cZ _ ma a0 a1 a2 a3 a4 a5 a6 a7 a8 a9 a10 a11 mth mn mp1'19 mw1'20 mu md mo y0 47 (by first | assumption | omega) (by first | assumption | omega) (by first | assumption | omega) (by first | assumption | omega) (by first | assumption | omega)) (cwV 1 hts (jG_V tw_718 tw_720 ts_18 tw_6 tw_721) rfl rfl rfl (by decide +kernel) (by rw [hR]; exact ⟨Nat.le_of_ble_eq_true rfl, Nat.le_of_ble_eq_true rfl⟩)) hK hP hD hS hA hN [2, 3] [0, 1] rfl rfl (by decide) (by decide) (by decide) 2 5 rfl rfl rfl rfl hl.1 rfl (Nat.le_of_ble_eq_true rfl) dXM_formula_109 (by rw [hR]; exact ⟨Nat.le_of_ble_eq_true rfl, Nat.le_of_ble_eq_true rfl⟩) (fun v32 u31 H locs hwb33 hP hD hS => ?_)
                obtain ⟨r29, mp1'30⟩ := u31
                try dsimp only at hwb33
                obtain ⟨er, hwb33, f34⟩ := hwb33
                subst er
                have f34 : (r29 = 0 ∧ mp1'19 ≤ mp1'30 ∧ mp1'30 ≤ mn) ∨ (r29 = 1 ∧ mp1'19 < mp1'30 ∧ mp1'30 ≤ mn ∧ mw1'20 < 0) := f34
                have hP : va_P (dC, dI) vwCl [(a8, .inl (cZ, 8, .inl (jA y8))), (a9, .inl (cA, 64, .inl (jA w9))), (ma, .inr (5, [.int (jI mth), .int (jI mn), .ref a0, .int (jI mp1'30), .int (jI mw1'20), .ref a1, .ref a2, .ref a3, .ref a4, .ref a5, .ref a6, .ref a7, .ref a8, .ref a9, .ref a10, .long (jL mu), .long (jL md), .int (jI mo), .ref a11])), (a0, .inl (cA, 400, .inl (jA y0)))] H := hP
                have hD : va_D A [(a8, .inl (cZ, 8, .inl (jA y8))), (a9, .inl (cA, 64, .inl (jA w9))), (ma, .inr (5, [.int (jI mth), .int (jI mn), .ref a0, .int (jI mp1'30), .int (jI mw1'20), .ref a1, .ref a2, .ref a3, .ref a4, .ref a5, .ref a6, .ref a7, .ref a8, .ref a9, .ref a10, .long (jL mu), .long (jL md), .int (jI mo), .ref a11])), (a0, .inl (cA, 400, .inl (jA y0)))] := hD
                refine ji_if_eq (tgt := 125) hx hb dXM_formula_112 (by decide) (by omega) (fun c112_ => ?_) (fun c112_ => ?_)
                · refine ji_iconst hx hb dXM_formula_125 ?_
                  refine ji_iast hx hb hK hP hD hS 1 0 rfl rfl ⟨by omega, by omega⟩ (by decide) dXM_formula_126 (fun H locs hP hD hS => ?_)
                  have hP : va_P (dC, dI) vwCl [(a8, .inl (cZ, 8, .inl (jA y8))), (a9, .inl (cA, 64, .inl (jA (jset w9 ((8 * (4 + r)) + r18) 1)))), (ma, .inr (5, [.int (jI mth), .int (jI mn), .ref a0, .int (jI mp1'30), .int (jI mw1'20), .ref a1, .ref a2, .ref a3, .ref a4, .ref a5, .ref a6, .ref a7, .ref a8, .ref a9, .ref a10, .long (jL mu), .long (jL md), .int (jI mo), .ref a11])), (a0, .inl (cA, 400, .inl (jA y0)))] H := hP
                  have hD : va_D A [(a8, .inl (cZ, 8, .inl (jA y8))), (a9, .inl (cA, 64, .inl (jA (jset w9 ((8 * (4 + r)) + r18) 1)))), (ma, .inr (5, [.int (jI mth), .int (jI mn), .ref a0, .int (jI mp1'30), .int (jI mw1'20), .ref a1, .ref a2, .ref a3, .ref a4, .ref a5, .ref a6, .ref a7, .ref a8, .ref a9, .ref a10, .long (jL mu), .long (jL md), .int (jI mo), .ref a11])), (a0, .inl (cA, 400, .inl (jA y0)))] := hD
                  refine lv_aload_n hx hb dXM_formula_127 rfl (lv_at hl 4 rfl) ?_
                  refine ji_bipush hx hb dXM_formula_128 (by decide) ?_
                  refine jwVi (rest := []) (wr := [(a8, .inl (cZ, 8, .inl (jA y8))), (a9, .inl (cA, 64, .inl (jA (jset w9 ((8 * (4 + r)) + r18) 1))))]) ⟨hx, hb, hml, hown, hts⟩ (c_XM_takesP l dC dI cA cZ _ ma a0 a1 a2 a3 a4 a5 a6 a7 a8 a9 a10 a11 mth mn mp1'30 mw1'20 mu md mo y0 43 (by first | assumption | omega) (by first | assumption | omega) (by first | assumption | omega) (by first | assumption | omega) (by first | assumption | omega)) (cwV 1 hts (jG_V tw_718 tw_720 ts_18 tw_6 tw_721) rfl rfl rfl (by decide +kernel) (by rw [hR]; exact ⟨Nat.le_of_ble_eq_true rfl, Nat.le_of_ble_eq_true rfl⟩)) hK hP hD hS hA hN [2, 3] [0, 1] rfl rfl (by decide) (by decide) (by decide) 2 5 rfl rfl rfl rfl hl.1 rfl (Nat.le_of_ble_eq_true rfl) dXM_formula_130 (by rw [hR]; exact ⟨Nat.le_of_ble_eq_true rfl, Nat.le_of_ble_eq_true rfl⟩) (fun v38 u37 H locs hwb39 hP hD hS => ?_)
                  obtain ⟨r35, mp1'36⟩ := u37
                  try dsimp only at hwb39
                  obtain ⟨er, hwb39, f40⟩ := hwb39
                  subst er
                  have f40 : (r35 = 0 ∧ mp1'30 ≤ mp1'36 ∧ mp1'36 ≤ mn) ∨ (r35 = 1 ∧ mp1'30 < mp1'36 ∧ mp1'36 ≤ mn ∧ mw1'20 < 0) := f40
                  have hP : va_P (dC, dI) vwCl [(a8, .inl (cZ, 8, .inl (jA y8))), (a9, .inl (cA, 64, .inl (jA (jset w9 ((8 * (4 + r)) + r18) 1)))), (ma, .inr (5, [.int (jI mth), .int (jI mn), .ref a0, .int (jI mp1'36), .int (jI mw1'20), .ref a1, .ref a2, .ref a3, .ref a4, .ref a5, .ref a6, .ref a7, .ref a8, .ref a9, .ref a10, .long (jL mu), .long (jL md), .int (jI mo), .ref a11])), (a0, .inl (cA, 400, .inl (jA y0)))] H := hP
                  have hD : va_D A [(a8, .inl (cZ, 8, .inl (jA y8))), (a9, .inl (cA, 64, .inl (jA (jset w9 ((8 * (4 + r)) + r18) 1)))), (ma, .inr (5, [.int (jI mth), .int (jI mn), .ref a0, .int (jI mp1'36), .int (jI mw1'20), .ref a1, .ref a2, .ref a3, .ref a4, .ref a5, .ref a6, .ref a7, .ref a8, .ref a9, .ref a10, .long (jL mu), .long (jL md), .int (jI mo), .ref a11])), (a0, .inl (cA, 400, .inl (jA y0)))] := hD
                  refine lv_istore_n (lv' := [(3, .int (jI r35)), (2, .int (jI ((jI mks ||| jI ((jI 1 <<< (jI r18 &&& 31)).toInt)).toInt))), (4, .int (jI r18)), (1, .int (jI (4 + r))), (0, .ref ma)]) hx hb dXM_formula_133 rfl hl (by decide) rfl (fun ls hl => ?_)
                  refine lv_goto (tgt := 56) hx hb dXM_formula_134 (by decide) ?_
                  exact ih56 ((jI mks ||| jI ((jI 1 <<< (jI r18 &&& 31)).toInt)).toInt) r35 mp1'36 mw1'20 (jset w9 ((8 * (4 + r)) + r18) 1) (by omega) (Eq.trans (by rw [f_XM_formulaP_L56_s]; rw [if_neg c57_]; rw [← hwb23]; try dsimp only; rw [if_neg (Int.not_lt.mpr c69_), if_pos c84_]; rw [← hwb33]; try dsimp only; rw [if_pos c112_]; rw [← hwb39]; try dsimp only; try rfl) hF) (by first | assumption | omega | exact jset_b (by assumption) (by omega) | exact jset_l (by assumption) (by omega) | exact jset_l (fun _ _ => rfl) (by omega) | exact fun _ _ => rfl | exact l_trans (by assumption) (by assumption)) (by first | assumption | omega | exact jset_b (by assumption) (by omega) | exact jset_l (by assumption) (by omega) | exact jset_l (fun _ _ => rfl) (by omega) | exact fun _ _ => rfl | exact l_trans (by assumption) (by assumption)) (by first | assumption | omega | exact jset_b (by assumption) (by omega) | exact jset_l (by assumption) (by omega) | exact jset_l (fun _ _ => rfl) (by omega) | exact fun _ _ => rfl | exact l_trans (by assumption) (by assumption)) (by first | assumption | omega | exact jset_b (by assumption) (by omega) | exact jset_l (by assumption) (by omega) | exact jset_l (fun _ _ => rfl) (by omega) | exact fun _ _ => rfl | exact l_trans (by assumption) (by assumption)) (by first | assumption | omega | exact jset_b (by assumption) (by omega) | exact jset_l (by assumption) (by omega) | exact jset_l (fun _ _ => rfl) (by omega) | exact fun _ _ => rfl | exact l_trans (by assumption) (by assumption)) (by first | assumption | omega | exact jset_b (by assumption) (by omega) | exact jset_l (by assumption) (by omega) | exact jset_l (fun _ _ => rfl) (by omega) | exact fun _ _ => rfl | exact l_trans (by assumption) (by assumption)) _ _ hP hD hS ls (lv_sub hl [0, 3, 4, 1] rfl)
                · refine lv_aload_n hx hb dXM_formula_115 rfl (lv_at hl 4 rfl) ?_
                  refine ji_iconst hx hb dXM_formula_116 ?_
                  refine ji_bipush hx hb dXM_formula_117 (by decide) ?_
                  refine jwVi (rest := [.int (jI ((8 * (4 + r)) + r18)), .ref a9]) (wr := [(a8, .inl (cZ, 8, .inl (jA y8))), (a9, .inl (cA, 64, .inl (jA w9)))]) ⟨hx, hb, hml, hown, hts⟩ (c_XM_numberP l dC dI cA cZ _ ma a0 a1 a2 a3 a4 a5 a6 a7 a8 a9 a10 a11 mth mn mp1'30 mw1'20 mu md mo y0 1 20 (by first | assumption | omega) (by first | assumption | omega) (by first | assumption | omega) (by first | assumption | omega) (by first | assumption | omega)) (cwV 2 hts (jG_V tw_726 tw_728 ts_20 tw_6 tw_729) rfl rfl rfl (by decide +kernel) (by rw [hR]; exact ⟨Nat.le_of_ble_eq_true rfl, Nat.le_of_ble_eq_true rfl⟩)) hK hP hD hS hA hN [2, 3] [0, 1] rfl rfl (by decide) (by decide) (by decide) 2 5 rfl rfl rfl rfl hl.1 rfl (Nat.le_of_ble_eq_true rfl) dXM_formula_119 (by rw [hR]; exact ⟨Nat.le_of_ble_eq_true rfl, Nat.le_of_ble_eq_true rfl⟩) (fun v45 u44 H locs hwb46 hP hD hS => ?_)
                  obtain ⟨r41, mp1'42, mw1'43⟩ := u44
                  try dsimp only at hwb46
                  obtain ⟨er, hwb46, f47, f48, f49, f50⟩ := hwb46
                  subst er
                  have f47 : 1 ≤ r41 ∧ r41 ≤ 20 := f47
                  have f48 : mp1'30 ≤ mp1'42 ∧ mp1'42 ≤ mn := f48
                  have f49 : -1 ≤ mw1'43 ∧ mw1'43 ≤ 400 ∧ mw1'20 ≤ mw1'43 := f49
                  have f50 : mw1'43 < 0 → mp1'30 < mp1'42 := f50
                  have hP : va_P (dC, dI) vwCl [(a8, .inl (cZ, 8, .inl (jA y8))), (a9, .inl (cA, 64, .inl (jA w9))), (ma, .inr (5, [.int (jI mth), .int (jI mn), .ref a0, .int (jI mp1'42), .int (jI mw1'43), .ref a1, .ref a2, .ref a3, .ref a4, .ref a5, .ref a6, .ref a7, .ref a8, .ref a9, .ref a10, .long (jL mu), .long (jL md), .int (jI mo), .ref a11])), (a0, .inl (cA, 400, .inl (jA y0)))] H := hP
                  have hD : va_D A [(a8, .inl (cZ, 8, .inl (jA y8))), (a9, .inl (cA, 64, .inl (jA w9))), (ma, .inr (5, [.int (jI mth), .int (jI mn), .ref a0, .int (jI mp1'42), .int (jI mw1'43), .ref a1, .ref a2, .ref a3, .ref a4, .ref a5, .ref a6, .ref a7, .ref a8, .ref a9, .ref a10, .long (jL mu), .long (jL md), .int (jI mo), .ref a11])), (a0, .inl (cA, 400, .inl (jA y0)))] := hD
                  refine lv_goto (tgt := 126) hx hb dXM_formula_122 (by decide) ?_
                  refine ji_iast hx hb hK hP hD hS 1 0 rfl rfl ⟨by omega, by omega⟩ (by decide) dXM_formula_126 (fun H locs hP hD hS => ?_)
                  have hP : va_P (dC, dI) vwCl [(a8, .inl (cZ, 8, .inl (jA y8))), (a9, .inl (cA, 64, .inl (jA (jset w9 ((8 * (4 + r)) + r18) r41)))), (ma, .inr (5, [.int (jI mth), .int (jI mn), .ref a0, .int (jI mp1'42), .int (jI mw1'43), .ref a1, .ref a2, .ref a3, .ref a4, .ref a5, .ref a6, .ref a7, .ref a8, .ref a9, .ref a10, .long (jL mu), .long (jL md), .int (jI mo), .ref a11])), (a0, .inl (cA, 400, .inl (jA y0)))] H := hP
                  have hD : va_D A [(a8, .inl (cZ, 8, .inl (jA y8))), (a9, .inl (cA, 64, .inl (jA (jset w9 ((8 * (4 + r)) + r18) r41)))), (ma, .inr (5, [.int (jI mth), .int (jI mn), .ref a0, .int (jI mp1'42), .int (jI mw1'43), .ref a1, .ref a2, .ref a3, .ref a4, .ref a5, .ref a6, .ref a7, .ref a8, .ref a9, .ref a10, .long (jL mu), .long (jL md), .int (jI mo), .ref a11])), (a0, .inl (cA, 400, .inl (jA y0)))] := hD
                  refine lv_aload_n hx hb dXM_formula_127 rfl (lv_at hl 4 rfl) ?_
                  refine ji_bipush hx hb dXM_formula_128 (by decide) ?_
                  refine jwVi (rest := []) (wr := [(a8, .inl (cZ, 8, .inl (jA y8))), (a9, .inl (cA, 64, .inl (jA (jset w9 ((8 * (4 + r)) + r18) r41))))]) ⟨hx, hb, hml, hown, hts⟩ (c_XM_takesP l dC dI cA cZ _ ma a0 a1 a2 a3 a4 a5 a6 a7 a8 a9 a10 a11 mth mn mp1'42 mw1'43 mu md mo y0 43 (by first | assumption | omega) (by first | assumption | omega) (by first | assumption | omega) (by first | assumption | omega) (by first | assumption | omega)) (cwV 1 hts (jG_V tw_718 tw_720 ts_18 tw_6 tw_721) rfl rfl rfl (by decide +kernel) (by rw [hR]; exact ⟨Nat.le_of_ble_eq_true rfl, Nat.le_of_ble_eq_true rfl⟩)) hK hP hD hS hA hN [2, 3] [0, 1] rfl rfl (by decide) (by decide) (by decide) 2 5 rfl rfl rfl rfl hl.1 rfl (Nat.le_of_ble_eq_true rfl) dXM_formula_130 (by rw [hR]; exact ⟨Nat.le_of_ble_eq_true rfl, Nat.le_of_ble_eq_true rfl⟩) (fun v54 u53 H locs hwb55 hP hD hS => ?_)
                  obtain ⟨r51, mp1'52⟩ := u53
                  try dsimp only at hwb55
                  obtain ⟨er, hwb55, f56⟩ := hwb55
                  subst er
                  have f56 : (r51 = 0 ∧ mp1'42 ≤ mp1'52 ∧ mp1'52 ≤ mn) ∨ (r51 = 1 ∧ mp1'42 < mp1'52 ∧ mp1'52 ≤ mn ∧ mw1'43 < 0) := f56
                  have hP : va_P (dC, dI) vwCl [(a8, .inl (cZ, 8, .inl (jA y8))), (a9, .inl (cA, 64, .inl (jA (jset w9 ((8 * (4 + r)) + r18) r41)))), (ma, .inr (5, [.int (jI mth), .int (jI mn), .ref a0, .int (jI mp1'52), .int (jI mw1'43), .ref a1, .ref a2, .ref a3, .ref a4, .ref a5, .ref a6, .ref a7, .ref a8, .ref a9, .ref a10, .long (jL mu), .long (jL md), .int (jI mo), .ref a11])), (a0, .inl (cA, 400, .inl (jA y0)))] H := hP
                  have hD : va_D A [(a8, .inl (cZ, 8, .inl (jA y8))), (a9, .inl (cA, 64, .inl (jA (jset w9 ((8 * (4 + r)) + r18) r41)))), (ma, .inr (5, [.int (jI mth), .int (jI mn), .ref a0, .int (jI mp1'52), .int (jI mw1'43), .ref a1, .ref a2, .ref a3, .ref a4, .ref a5, .ref a6, .ref a7, .ref a8, .ref a9, .ref a10, .long (jL mu), .long (jL md), .int (jI mo), .ref a11])), (a0, .inl (cA, 400, .inl (jA y0)))] := hD
                  refine lv_istore_n (lv' := [(3, .int (jI r51)), (2, .int (jI ((jI mks ||| jI ((jI 1 <<< (jI r18 &&& 31)).toInt)).toInt))), (4, .int (jI r18)), (1, .int (jI (4 + r))), (0, .ref ma)]) hx hb dXM_formula_133 rfl hl (by decide) rfl (fun ls hl => ?_)
                  refine lv_goto (tgt := 56) hx hb dXM_formula_134 (by decide) ?_
                  exact ih56 ((jI mks ||| jI ((jI 1 <<< (jI r18 &&& 31)).toInt)).toInt) r51 mp1'52 mw1'43 (jset w9 ((8 * (4 + r)) + r18) r41) (by omega) (Eq.trans (by rw [f_XM_formulaP_L56_s]; rw [if_neg c57_]; rw [← hwb23]; try dsimp only; rw [if_neg (Int.not_lt.mpr c69_), if_pos c84_]; rw [← hwb33]; try dsimp only; rw [if_neg c112_]; rw [← hwb46]; try dsimp only; rw [← hwb55]; try dsimp only; try rfl) hF) (by first | assumption | omega | exact jset_b (by assumption) (by omega) | exact jset_l (by assumption) (by omega) | exact jset_l (fun _ _ => rfl) (by omega) | exact fun _ _ => rfl | exact l_trans (by assumption) (by assumption)) (by first | assumption | omega | exact jset_b (by assumption) (by omega) | exact jset_l (by assumption) (by omega) | exact jset_l (fun _ _ => rfl) (by omega) | exact fun _ _ => rfl | exact l_trans (by assumption) (by assumption)) (by first | assumption | omega | exact jset_b (by assumption) (by omega) | exact jset_l (by assumption) (by omega) | exact jset_l (fun _ _ => rfl) (by omega) | exact fun _ _ => rfl | exact l_trans (by assumption) (by assumption)) (by first | assumption | omega | exact jset_b (by assumption) (by omega) | exact jset_l (by assumption) (by omega) | exact jset_l (fun _ _ => rfl) (by omega) | exact fun _ _ => rfl | exact l_trans (by assumption) (by assumption)) (by first | assumption | omega | exact jset_b (by assumption) (by omega) | exact jset_l (by assumption) (by omega) | exact jset_l (fun _ _ => rfl) (by omega) | exact fun _ _ => rfl | exact l_trans (by assumption) (by assumption)) (by first | assumption | omega | exact jset_b (by assumption) (by omega) | exact jset_l (by assumption) (by omega) | exact jset_l (fun _ _ => rfl) (by omega) | exact fun _ _ => rfl | exact l_trans (by assumption) (by assumption)) _ _ hP hD hS ls (lv_sub hl [0, 3, 4, 1] rfl)
              · have hP9 := hP.sub (ws' := [(ma, .inr (5, [.int (jI mth), .int (jI mn), .ref a0, .int (jI mp1'19), .int (jI mw1'20), .ref a1, .ref a2, .ref a3, .ref a4, .ref a5, .ref a6, .ref a7, .ref a8, .ref a9, .ref a10, .long (jL mu), .long (jL md), .int (jI mo), .ref a11])), (a0, .inl (cA, 400, .inl (jA y0))), (a8, .inl (cZ, 8, .inl (jA y8))), (a9, .inl (cA, 64, .inl (jA w9)))]) [2, 3, 0, 1] rfl
                have hD9 := hD.sub (ws' := [(ma, .inr (5, [.int (jI mth), .int (jI mn), .ref a0, .int (jI mp1'19), .int (jI mw1'20), .ref a1, .ref a2, .ref a3, .ref a4, .ref a5, .ref a6, .ref a7, .ref a8, .ref a9, .ref a10, .long (jL mu), .long (jL md), .int (jI mo), .ref a11])), (a0, .inl (cA, 400, .inl (jA y0))), (a8, .inl (cZ, 8, .inl (jA y8))), (a9, .inl (cA, 64, .inl (jA w9)))]) [2, 3, 0, 1] (by decide) rfl
                subst hAe
                subst hQ
                exact W.vret hx hb hr (fun t ht hW => ⟨⟨(mp1'19, mw1'20, y8, w9), rfl, ⟨Eq.trans (by rw [f_XM_formulaP_L56_s]; rw [if_neg c57_]; rw [← hwb23]; try dsimp only; rw [if_neg (Int.not_lt.mpr c69_), if_neg (Int.not_lt.mpr c84_)]; try rfl) hF, show mp ≤ mp1'19 ∧ mp1'19 ≤ mn from by first | assumption | omega | exact jset_b (by assumption) (by omega) | exact jset_l (by assumption) (by omega) | exact jset_l (fun _ _ => rfl) (by omega) | exact fun _ _ => rfl | exact l_trans (by assumption) (by assumption), show -1 ≤ mw1'20 ∧ mw1'20 ≤ 400 ∧ mw ≤ mw1'20 from by first | assumption | omega | exact jset_b (by assumption) (by omega) | exact jset_l (by assumption) (by omega) | exact jset_l (fun _ _ => rfl) (by omega) | exact fun _ _ => rfl | exact l_trans (by assumption) (by assumption), show ∀ i, 0 ≤ y8 i ∧ y8 i ≤ 1 from by first | assumption | omega | exact jset_b (by assumption) (by omega) | exact jset_l (by assumption) (by omega) | exact jset_l (fun _ _ => rfl) (by omega) | exact fun _ _ => rfl | exact l_trans (by assumption) (by assumption), show ∀ i, 0 ≤ w9 i ∧ w9 i ≤ 20 from by first | assumption | omega | exact jset_b (by assumption) (by omega) | exact jset_l (by assumption) (by omega) | exact jset_l (fun _ _ => rfl) (by omega) | exact fun _ _ => rfl | exact l_trans (by assumption) (by assumption), show ∀ i, i < 4 → y8 i = y8 i from by first | assumption | omega | exact jset_b (by assumption) (by omega) | exact jset_l (by assumption) (by omega) | exact jset_l (fun _ _ => rfl) (by omega) | exact fun _ _ => rfl | exact l_trans (by assumption) (by assumption), show ∀ i, i < 32 → w9 i = y9 i from by first | assumption | omega | exact jset_b (by assumption) (by omega) | exact jset_l (by assumption) (by omega) | exact jset_l (fun _ _ => rfl) (by omega) | exact fun _ _ => rfl | exact l_trans (by assumption) (by assumption)⟩, ⟨by rw [ht]; exact hP9, va_K.moved hW.alike hK, hD9⟩⟩, hS.F ht⟩) hS.2.2 dXM_formula_87
            · refine lv_aload_n hx hb dXM_formula_72 rfl (lv_at hl 3 rfl) ?_
              refine lv_aload_n hx hb dXM_formula_73 rfl (lv_at hl 3 rfl) ?_
              refine va_get (D := (dC, dI)) (ci := 5) (v := .int (jI mp1'19)) (C := RXM) (T := TXM) (N := 19) hx hb hts (fun w h => jmem (inXM w h)) hown hK hP 2 rfl rfl 3 (by decide) (hts _ (jmem tw_631)) (fun _ h9 => h9) rfl dXM_formula_74 ?_
              refine jwVv (rest := []) (wr := [(a8, .inl (cZ, 8, .inl (jA y8))), (a9, .inl (cA, 64, .inl (jA w9))), (a0, .inl (cA, 400, .inl (jA y0)))]) ⟨hx, hb, hml, hown, hts⟩ (c_XM_failP l dC dI cA cZ _ ma a0 a1 a2 a3 a4 a5 a6 a7 a8 a9 a10 a11 mth mn mp1'19 mw1'20 mu md mo mp1'19 (by first | assumption | omega) (by first | assumption | omega)) (cwV 1 hts (jG_V tw_734 tw_736 ts_22 tw_6 tw_737) rfl rfl rfl (by decide +kernel) (by rw [hR]; exact ⟨Nat.le_of_ble_eq_true rfl, Nat.le_of_ble_eq_true rfl⟩)) hK hP hD hS hA hN [2] [0, 1, 3] rfl rfl (by decide) (by decide) (by decide) 2 5 rfl rfl rfl rfl hl.1 rfl (Nat.le_of_ble_eq_true rfl) dXM_formula_77 (by rw [hR]; exact ⟨Nat.le_of_ble_eq_true rfl, Nat.le_of_ble_eq_true rfl⟩) (fun u57 H locs hw hP hD hS => ?_)
              obtain ⟨hw, f58⟩ := hw
              subst hw
              have f58 : (0 ≤ mw1'20 ∧ (f_XM_failP mth mn mp1'19 mw1'20 mu md mo mp1'19) = mw1'20) ∨ (mw1'20 < 0 ∧ (f_XM_failP mth mn mp1'19 mw1'20 mu md mo mp1'19) = mp1'19) := f58
              have hP : va_P (dC, dI) vwCl [(a8, .inl (cZ, 8, .inl (jA y8))), (a9, .inl (cA, 64, .inl (jA w9))), (a0, .inl (cA, 400, .inl (jA y0))), (ma, .inr (5, [.int (jI mth), .int (jI mn), .ref a0, .int (jI mp1'19), .int (jI (f_XM_failP mth mn mp1'19 mw1'20 mu md mo mp1'19)), .ref a1, .ref a2, .ref a3, .ref a4, .ref a5, .ref a6, .ref a7, .ref a8, .ref a9, .ref a10, .long (jL mu), .long (jL md), .int (jI mo), .ref a11]))] H := hP
              have hD : va_D A [(a8, .inl (cZ, 8, .inl (jA y8))), (a9, .inl (cA, 64, .inl (jA w9))), (a0, .inl (cA, 400, .inl (jA y0))), (ma, .inr (5, [.int (jI mth), .int (jI mn), .ref a0, .int (jI mp1'19), .int (jI (f_XM_failP mth mn mp1'19 mw1'20 mu md mo mp1'19)), .ref a1, .ref a2, .ref a3, .ref a4, .ref a5, .ref a6, .ref a7, .ref a8, .ref a9, .ref a10, .long (jL mu), .long (jL md), .int (jI mo), .ref a11]))] := hD
              refine lv_aload_n hx hb dXM_formula_80 rfl (lv_at hl 3 rfl) ?_
              refine va_get (D := (dC, dI)) (ci := 5) (v := .int (jI (f_XM_failP mth mn mp1'19 mw1'20 mu md mo mp1'19))) (C := RXM) (T := TXM) (N := 19) hx hb hts (fun w h => jmem (inXM w h)) hown hK hP 3 rfl rfl 4 (by decide) (hts _ (jmem tw_632)) (fun _ h9 => h9) rfl dXM_formula_81 ?_
              refine ji_if_lt (tgt := 88) hx hb dXM_formula_84 (by decide) (by omega) (fun c84_59 => ?_) (fun c84_59 => ?_)
              · refine lv_iload_n hx hb dXM_formula_88 rfl (lv_at hl 4 rfl) ?_
                refine ji_iconst hx hb dXM_formula_89 ?_
                refine lv_iload hx hb dXM_formula_90 (lv_at hl 0 rfl) ?_
                refine lv_ishl hx hb dXM_formula_92 ?_
                refine ji_rev ?_
                have rb60 := jti32 (jI 1 <<< (jI r18 &&& 31))
                refine lv_ior hx hb dXM_formula_93 ?_
                refine ji_rev ?_
                have rb61 := jti32 (jI mks ||| jI ((jI 1 <<< (jI r18 &&& 31)).toInt))
                refine lv_istore_n (lv' := [(2, .int (jI ((jI mks ||| jI ((jI 1 <<< (jI r18 &&& 31)).toInt)).toInt))), (4, .int (jI r18)), (3, .int (jI jm2)), (1, .int (jI (4 + r))), (0, .ref ma)]) hx hb dXM_formula_94 rfl hl (by decide) rfl (fun ls hl => ?_)
                refine lv_aload_n hx hb dXM_formula_95 rfl (lv_at hl 4 rfl) ?_
                refine va_get (D := (dC, dI)) (ci := 5) (v := .ref a9) (C := RXM) (T := TXM) (N := 19) hx hb hts (fun w h => jmem (inXM w h)) hown hK hP 3 rfl rfl 13 (by decide) (hts _ (jmem tw_641)) (fun _ h9 => h9) rfl dXM_formula_96 ?_
                refine ji_bipush hx hb dXM_formula_99 (by decide) ?_
                refine lv_iload_n hx hb dXM_formula_101 rfl (lv_at hl 3 rfl) ?_
                refine ji_imul hx hb dXM_formula_102 ?_
                refine lv_iload hx hb dXM_formula_103 (lv_at hl 1 rfl) ?_
                refine ji_iadd hx hb dXM_formula_105 ?_
                refine lv_aload_n hx hb dXM_formula_106 rfl (lv_at hl 4 rfl) ?_
                refine ji_bipush hx hb dXM_formula_107 (by decide) ?_
                refine jwVi (rest := [.int (jI ((8 * (4 + r)) + r18)), .ref a9]) (wr := [(a8, .inl (cZ, 8, .inl (jA y8))), (a9, .inl (cA, 64, .inl (jA w9)))]) ⟨hx, hb, hml, hown, hts⟩ (c_XM_takesP l dC dI cA cZ _ ma a0 a1 a2 a3 a4 a5 a6 a7 a8 a9 a10 a11 mth mn mp1'19 (f_XM_failP mth mn mp1'19 mw1'20 mu md mo mp1'19) mu md mo y0 47 (by first | assumption | omega) (by first | assumption | omega) (by first | assumption | omega) (by first | assumption | omega) (by first | assumption | omega)) (cwV 1 hts (jG_V tw_718 tw_720 ts_18 tw_6 tw_721) rfl rfl rfl (by decide +kernel) (by rw [hR]; exact ⟨Nat.le_of_ble_eq_true rfl, Nat.le_of_ble_eq_true rfl⟩)) hK hP hD hS hA hN [3, 2] [0, 1] rfl rfl (by decide) (by decide) (by decide) 3 5 rfl rfl rfl rfl hl.1 rfl (Nat.le_of_ble_eq_true rfl) dXM_formula_109 (by rw [hR]; exact ⟨Nat.le_of_ble_eq_true rfl, Nat.le_of_ble_eq_true rfl⟩) (fun v65 u64 H locs hwb66 hP hD hS => ?_)
                obtain ⟨r62, mp1'63⟩ := u64
                try dsimp only at hwb66
                obtain ⟨er, hwb66, f67⟩ := hwb66
                subst er
                have f67 : (r62 = 0 ∧ mp1'19 ≤ mp1'63 ∧ mp1'63 ≤ mn) ∨ (r62 = 1 ∧ mp1'19 < mp1'63 ∧ mp1'63 ≤ mn ∧ (f_XM_failP mth mn mp1'19 mw1'20 mu md mo mp1'19) < 0) := f67
                have hP : va_P (dC, dI) vwCl [(a8, .inl (cZ, 8, .inl (jA y8))), (a9, .inl (cA, 64, .inl (jA w9))), (ma, .inr (5, [.int (jI mth), .int (jI mn), .ref a0, .int (jI mp1'63), .int (jI (f_XM_failP mth mn mp1'19 mw1'20 mu md mo mp1'19)), .ref a1, .ref a2, .ref a3, .ref a4, .ref a5, .ref a6, .ref a7, .ref a8, .ref a9, .ref a10, .long (jL mu), .long (jL md), .int (jI mo), .ref a11])), (a0, .inl (cA, 400, .inl (jA y0)))] H := hP
                have hD : va_D A [(a8, .inl (cZ, 8, .inl (jA y8))), (a9, .inl (cA, 64, .inl (jA w9))), (ma, .inr (5, [.int (jI mth), .int (jI mn), .ref a0, .int (jI mp1'63), .int (jI (f_XM_failP mth mn mp1'19 mw1'20 mu md mo mp1'19)), .ref a1, .ref a2, .ref a3, .ref a4, .ref a5, .ref a6, .ref a7, .ref a8, .ref a9, .ref a10, .long (jL mu), .long (jL md), .int (jI mo), .ref a11])), (a0, .inl (cA, 400, .inl (jA y0)))] := hD
                refine ji_if_eq (tgt := 125) hx hb dXM_formula_112 (by decide) (by omega) (fun c112_68 => ?_) (fun c112_68 => ?_)
                · refine ji_iconst hx hb dXM_formula_125 ?_
                  refine ji_iast hx hb hK hP hD hS 1 0 rfl rfl ⟨by omega, by omega⟩ (by decide) dXM_formula_126 (fun H locs hP hD hS => ?_)
                  have hP : va_P (dC, dI) vwCl [(a8, .inl (cZ, 8, .inl (jA y8))), (a9, .inl (cA, 64, .inl (jA (jset w9 ((8 * (4 + r)) + r18) 1)))), (ma, .inr (5, [.int (jI mth), .int (jI mn), .ref a0, .int (jI mp1'63), .int (jI (f_XM_failP mth mn mp1'19 mw1'20 mu md mo mp1'19)), .ref a1, .ref a2, .ref a3, .ref a4, .ref a5, .ref a6, .ref a7, .ref a8, .ref a9, .ref a10, .long (jL mu), .long (jL md), .int (jI mo), .ref a11])), (a0, .inl (cA, 400, .inl (jA y0)))] H := hP
                  have hD : va_D A [(a8, .inl (cZ, 8, .inl (jA y8))), (a9, .inl (cA, 64, .inl (jA (jset w9 ((8 * (4 + r)) + r18) 1)))), (ma, .inr (5, [.int (jI mth), .int (jI mn), .ref a0, .int (jI mp1'63), .int (jI (f_XM_failP mth mn mp1'19 mw1'20 mu md mo mp1'19)), .ref a1, .ref a2, .ref a3, .ref a4, .ref a5, .ref a6, .ref a7, .ref a8, .ref a9, .ref a10, .long (jL mu), .long (jL md), .int (jI mo), .ref a11])), (a0, .inl (cA, 400, .inl (jA y0)))] := hD
                  refine lv_aload_n hx hb dXM_formula_127 rfl (lv_at hl 4 rfl) ?_
                  refine ji_bipush hx hb dXM_formula_128 (by decide) ?_
                  refine jwVi (rest := []) (wr := [(a8, .inl (cZ, 8, .inl (jA y8))), (a9, .inl (cA, 64, .inl (jA (jset w9 ((8 * (4 + r)) + r18) 1))))]) ⟨hx, hb, hml, hown, hts⟩ (c_XM_takesP l dC dI cA cZ _ ma a0 a1 a2 a3 a4 a5 a6 a7 a8 a9 a10 a11 mth mn mp1'63 (f_XM_failP mth mn mp1'19 mw1'20 mu md mo mp1'19) mu md mo y0 43 (by first | assumption | omega) (by first | assumption | omega) (by first | assumption | omega) (by first | assumption | omega) (by first | assumption | omega)) (cwV 1 hts (jG_V tw_718 tw_720 ts_18 tw_6 tw_721) rfl rfl rfl (by decide +kernel) (by rw [hR]; exact ⟨Nat.le_of_ble_eq_true rfl, Nat.le_of_ble_eq_true rfl⟩)) hK hP hD hS hA hN [2, 3] [0, 1] rfl rfl (by decide) (by decide) (by decide) 2 5 rfl rfl rfl rfl hl.1 rfl (Nat.le_of_ble_eq_true rfl) dXM_formula_130 (by rw [hR]; exact ⟨Nat.le_of_ble_eq_true rfl, Nat.le_of_ble_eq_true rfl⟩) (fun v72 u71 H locs hwb73 hP hD hS => ?_)
                  obtain ⟨r69, mp1'70⟩ := u71
                  try dsimp only at hwb73
                  obtain ⟨er, hwb73, f74⟩ := hwb73
                  subst er
                  have f74 : (r69 = 0 ∧ mp1'63 ≤ mp1'70 ∧ mp1'70 ≤ mn) ∨ (r69 = 1 ∧ mp1'63 < mp1'70 ∧ mp1'70 ≤ mn ∧ (f_XM_failP mth mn mp1'19 mw1'20 mu md mo mp1'19) < 0) := f74
                  have hP : va_P (dC, dI) vwCl [(a8, .inl (cZ, 8, .inl (jA y8))), (a9, .inl (cA, 64, .inl (jA (jset w9 ((8 * (4 + r)) + r18) 1)))), (ma, .inr (5, [.int (jI mth), .int (jI mn), .ref a0, .int (jI mp1'70), .int (jI (f_XM_failP mth mn mp1'19 mw1'20 mu md mo mp1'19)), .ref a1, .ref a2, .ref a3, .ref a4, .ref a5, .ref a6, .ref a7, .ref a8, .ref a9, .ref a10, .long (jL mu), .long (jL md), .int (jI mo), .ref a11])), (a0, .inl (cA, 400, .inl (jA y0)))] H := hP
                  have hD : va_D A [(a8, .inl (cZ, 8, .inl (jA y8))), (a9, .inl (cA, 64, .inl (jA (jset w9 ((8 * (4 + r)) + r18) 1)))), (ma, .inr (5, [.int (jI mth), .int (jI mn), .ref a0, .int (jI mp1'70), .int (jI (f_XM_failP mth mn mp1'19 mw1'20 mu md mo mp1'19)), .ref a1, .ref a2, .ref a3, .ref a4, .ref a5, .ref a6, .ref a7, .ref a8, .ref a9, .ref a10, .long (jL mu), .long (jL md), .int (jI mo), .ref a11])), (a0, .inl (cA, 400, .inl (jA y0)))] := hD
                  refine lv_istore_n (lv' := [(3, .int (jI r69)), (2, .int (jI ((jI mks ||| jI ((jI 1 <<< (jI r18 &&& 31)).toInt)).toInt))), (4, .int (jI r18)), (1, .int (jI (4 + r))), (0, .ref ma)]) hx hb dXM_formula_133 rfl hl (by decide) rfl (fun ls hl => ?_)
                  refine lv_goto (tgt := 56) hx hb dXM_formula_134 (by decide) ?_
                  exact ih56 ((jI mks ||| jI ((jI 1 <<< (jI r18 &&& 31)).toInt)).toInt) r69 mp1'70 (f_XM_failP mth mn mp1'19 mw1'20 mu md mo mp1'19) (jset w9 ((8 * (4 + r)) + r18) 1) (by omega) (Eq.trans (by rw [f_XM_formulaP_L56_s]; rw [if_neg c57_]; rw [← hwb23]; try dsimp only; rw [if_pos c69_, if_pos c84_59]; rw [← hwb66]; try dsimp only; rw [if_pos c112_68]; rw [← hwb73]; try dsimp only; try rfl) hF) (by first | assumption | omega | exact jset_b (by assumption) (by omega) | exact jset_l (by assumption) (by omega) | exact jset_l (fun _ _ => rfl) (by omega) | exact fun _ _ => rfl | exact l_trans (by assumption) (by assumption)) (by first | assumption | omega | exact jset_b (by assumption) (by omega) | exact jset_l (by assumption) (by omega) | exact jset_l (fun _ _ => rfl) (by omega) | exact fun _ _ => rfl | exact l_trans (by assumption) (by assumption)) (by first | assumption | omega | exact jset_b (by assumption) (by omega) | exact jset_l (by assumption) (by omega) | exact jset_l (fun _ _ => rfl) (by omega) | exact fun _ _ => rfl | exact l_trans (by assumption) (by assumption)) (by first | assumption | omega | exact jset_b (by assumption) (by omega) | exact jset_l (by assumption) (by omega) | exact jset_l (fun _ _ => rfl) (by omega) | exact fun _ _ => rfl | exact l_trans (by assumption) (by assumption)) (by first | assumption | omega | exact jset_b (by assumption) (by omega) | exact jset_l (by assumption) (by omega) | exact jset_l (fun _ _ => rfl) (by omega) | exact fun _ _ => rfl | exact l_trans (by assumption) (by assumption)) (by first | assumption | omega | exact jset_b (by assumption) (by omega) | exact jset_l (by assumption) (by omega) | exact jset_l (fun _ _ => rfl) (by omega) | exact fun _ _ => rfl | exact l_trans (by assumption) (by assumption)) _ _ hP hD hS ls (lv_sub hl [0, 3, 4, 1] rfl)
                · refine lv_aload_n hx hb dXM_formula_115 rfl (lv_at hl 4 rfl) ?_
                  refine ji_iconst hx hb dXM_formula_116 ?_
                  refine ji_bipush hx hb dXM_formula_117 (by decide) ?_
                  refine jwVi (rest := [.int (jI ((8 * (4 + r)) + r18)), .ref a9]) (wr := [(a8, .inl (cZ, 8, .inl (jA y8))), (a9, .inl (cA, 64, .inl (jA w9)))]) ⟨hx, hb, hml, hown, hts⟩ (c_XM_numberP l dC dI cA cZ _ ma a0 a1 a2 a3 a4 a5 a6 a7 a8 a9 a10 a11 mth mn mp1'63 (f_XM_failP mth mn mp1'19 mw1'20 mu md mo mp1'19) mu md mo y0 1 20 (by first | assumption | omega) (by first | assumption | omega) (by first | assumption | omega) (by first | assumption | omega) (by first | assumption | omega)) (cwV 2 hts (jG_V tw_726 tw_728 ts_20 tw_6 tw_729) rfl rfl rfl (by decide +kernel) (by rw [hR]; exact ⟨Nat.le_of_ble_eq_true rfl, Nat.le_of_ble_eq_true rfl⟩)) hK hP hD hS hA hN [2, 3] [0, 1] rfl rfl (by decide) (by decide) (by decide) 2 5 rfl rfl rfl rfl hl.1 rfl (Nat.le_of_ble_eq_true rfl) dXM_formula_119 (by rw [hR]; exact ⟨Nat.le_of_ble_eq_true rfl, Nat.le_of_ble_eq_true rfl⟩) (fun v79 u78 H locs hwb80 hP hD hS => ?_)
                  obtain ⟨r75, mp1'76, mw1'77⟩ := u78
                  try dsimp only at hwb80
                  obtain ⟨er, hwb80, f81, f82, f83, f84⟩ := hwb80
                  subst er
                  have f81 : 1 ≤ r75 ∧ r75 ≤ 20 := f81
                  have f82 : mp1'63 ≤ mp1'76 ∧ mp1'76 ≤ mn := f82
                  have f83 : -1 ≤ mw1'77 ∧ mw1'77 ≤ 400 ∧ (f_XM_failP mth mn mp1'19 mw1'20 mu md mo mp1'19) ≤ mw1'77 := f83
                  have f84 : mw1'77 < 0 → mp1'63 < mp1'76 := f84
                  have hP : va_P (dC, dI) vwCl [(a8, .inl (cZ, 8, .inl (jA y8))), (a9, .inl (cA, 64, .inl (jA w9))), (ma, .inr (5, [.int (jI mth), .int (jI mn), .ref a0, .int (jI mp1'76), .int (jI mw1'77), .ref a1, .ref a2, .ref a3, .ref a4, .ref a5, .ref a6, .ref a7, .ref a8, .ref a9, .ref a10, .long (jL mu), .long (jL md), .int (jI mo), .ref a11])), (a0, .inl (cA, 400, .inl (jA y0)))] H := hP
                  have hD : va_D A [(a8, .inl (cZ, 8, .inl (jA y8))), (a9, .inl (cA, 64, .inl (jA w9))), (ma, .inr (5, [.int (jI mth), .int (jI mn), .ref a0, .int (jI mp1'76), .int (jI mw1'77), .ref a1, .ref a2, .ref a3, .ref a4, .ref a5, .ref a6, .ref a7, .ref a8, .ref a9, .ref a10, .long (jL mu), .long (jL md), .int (jI mo), .ref a11])), (a0, .inl (cA, 400, .inl (jA y0)))] := hD
                  refine lv_goto (tgt := 126) hx hb dXM_formula_122 (by decide) ?_
                  refine ji_iast hx hb hK hP hD hS 1 0 rfl rfl ⟨by omega, by omega⟩ (by decide) dXM_formula_126 (fun H locs hP hD hS => ?_)
                  have hP : va_P (dC, dI) vwCl [(a8, .inl (cZ, 8, .inl (jA y8))), (a9, .inl (cA, 64, .inl (jA (jset w9 ((8 * (4 + r)) + r18) r75)))), (ma, .inr (5, [.int (jI mth), .int (jI mn), .ref a0, .int (jI mp1'76), .int (jI mw1'77), .ref a1, .ref a2, .ref a3, .ref a4, .ref a5, .ref a6, .ref a7, .ref a8, .ref a9, .ref a10, .long (jL mu), .long (jL md), .int (jI mo), .ref a11])), (a0, .inl (cA, 400, .inl (jA y0)))] H := hP
                  have hD : va_D A [(a8, .inl (cZ, 8, .inl (jA y8))), (a9, .inl (cA, 64, .inl (jA (jset w9 ((8 * (4 + r)) + r18) r75)))), (ma, .inr (5, [.int (jI mth), .int (jI mn), .ref a0, .int (jI mp1'76), .int (jI mw1'77), .ref a1, .ref a2, .ref a3, .ref a4, .ref a5, .ref a6, .ref a7, .ref a8, .ref a9, .ref a10, .long (jL mu), .long (jL md), .int (jI mo), .ref a11])), (a0, .inl (cA, 400, .inl (jA y0)))] := hD
                  refine lv_aload_n hx hb dXM_formula_127 rfl (lv_at hl 4 rfl) ?_
                  refine ji_bipush hx hb dXM_formula_128 (by decide) ?_
                  refine jwVi (rest := []) (wr := [(a8, .inl (cZ, 8, .inl (jA y8))), (a9, .inl (cA, 64, .inl (jA (jset w9 ((8 * (4 + r)) + r18) r75))))]) ⟨hx, hb, hml, hown, hts⟩ (c_XM_takesP l dC dI cA cZ _ ma a0 a1 a2 a3 a4 a5 a6 a7 a8 a9 a10 a11 mth mn mp1'76 mw1'77 mu md mo y0 43 (by first | assumption | omega) (by first | assumption | omega) (by first | assumption | omega) (by first | assumption | omega) (by first | assumption | omega)) (cwV 1 hts (jG_V tw_718 tw_720 ts_18 tw_6 tw_721) rfl rfl rfl (by decide +kernel) (by rw [hR]; exact ⟨Nat.le_of_ble_eq_true rfl, Nat.le_of_ble_eq_true rfl⟩)) hK hP hD hS hA hN [2, 3] [0, 1] rfl rfl (by decide) (by decide) (by decide) 2 5 rfl rfl rfl rfl hl.1 rfl (Nat.le_of_ble_eq_true rfl) dXM_formula_130 (by rw [hR]; exact ⟨Nat.le_of_ble_eq_true rfl, Nat.le_of_ble_eq_true rfl⟩) (fun v88 u87 H locs hwb89 hP hD hS => ?_)
                  obtain ⟨r85, mp1'86⟩ := u87
                  try dsimp only at hwb89
                  obtain ⟨er, hwb89, f90⟩ := hwb89
                  subst er
                  have f90 : (r85 = 0 ∧ mp1'76 ≤ mp1'86 ∧ mp1'86 ≤ mn) ∨ (r85 = 1 ∧ mp1'76 < mp1'86 ∧ mp1'86 ≤ mn ∧ mw1'77 < 0) := f90
                  have hP : va_P (dC, dI) vwCl [(a8, .inl (cZ, 8, .inl (jA y8))), (a9, .inl (cA, 64, .inl (jA (jset w9 ((8 * (4 + r)) + r18) r75)))), (ma, .inr (5, [.int (jI mth), .int (jI mn), .ref a0, .int (jI mp1'86), .int (jI mw1'77), .ref a1, .ref a2, .ref a3, .ref a4, .ref a5, .ref a6, .ref a7, .ref a8, .ref a9, .ref a10, .long (jL mu), .long (jL md), .int (jI mo), .ref a11])), (a0, .inl (cA, 400, .inl (jA y0)))] H := hP
                  have hD : va_D A [(a8, .inl (cZ, 8, .inl (jA y8))), (a9, .inl (cA, 64, .inl (jA (jset w9 ((8 * (4 + r)) + r18) r75)))), (ma, .inr (5, [.int (jI mth), .int (jI mn), .ref a0, .int (jI mp1'86), .int (jI mw1'77), .ref a1, .ref a2, .ref a3, .ref a4, .ref a5, .ref a6, .ref a7, .ref a8, .ref a9, .ref a10, .long (jL mu), .long (jL md), .int (jI mo), .ref a11])), (a0, .inl (cA, 400, .inl (jA y0)))] := hD
                  refine lv_istore_n (lv' := [(3, .int (jI r85)), (2, .int (jI ((jI mks ||| jI ((jI 1 <<< (jI r18 &&& 31)).toInt)).toInt))), (4, .int (jI r18)), (1, .int (jI (4 + r))), (0, .ref ma)]) hx hb dXM_formula_133 rfl hl (by decide) rfl (fun ls hl => ?_)
                  refine lv_goto (tgt := 56) hx hb dXM_formula_134 (by decide) ?_
                  exact ih56 ((jI mks ||| jI ((jI 1 <<< (jI r18 &&& 31)).toInt)).toInt) r85 mp1'86 mw1'77 (jset w9 ((8 * (4 + r)) + r18) r75) (by omega) (Eq.trans (by rw [f_XM_formulaP_L56_s]; rw [if_neg c57_]; rw [← hwb23]; try dsimp only; rw [if_pos c69_, if_pos c84_59]; rw [← hwb66]; try dsimp only; rw [if_neg c112_68]; rw [← hwb80]; try dsimp only; rw [← hwb89]; try dsimp only; try rfl) hF) (by first | assumption | omega | exact jset_b (by assumption) (by omega) | exact jset_l (by assumption) (by omega) | exact jset_l (fun _ _ => rfl) (by omega) | exact fun _ _ => rfl | exact l_trans (by assumption) (by assumption)) (by first | assumption | omega | exact jset_b (by assumption) (by omega) | exact jset_l (by assumption) (by omega) | exact jset_l (fun _ _ => rfl) (by omega) | exact fun _ _ => rfl | exact l_trans (by assumption) (by assumption)) (by first | assumption | omega | exact jset_b (by assumption) (by omega) | exact jset_l (by assumption) (by omega) | exact jset_l (fun _ _ => rfl) (by omega) | exact fun _ _ => rfl | exact l_trans (by assumption) (by assumption)) (by first | assumption | omega | exact jset_b (by assumption) (by omega) | exact jset_l (by assumption) (by omega) | exact jset_l (fun _ _ => rfl) (by omega) | exact fun _ _ => rfl | exact l_trans (by assumption) (by assumption)) (by first | assumption | omega | exact jset_b (by assumption) (by omega) | exact jset_l (by assumption) (by omega) | exact jset_l (fun _ _ => rfl) (by omega) | exact fun _ _ => rfl | exact l_trans (by assumption) (by assumption)) (by first | assumption | omega | exact jset_b (by assumption) (by omega) | exact jset_l (by assumption) (by omega) | exact jset_l (fun _ _ => rfl) (by omega) | exact fun _ _ => rfl | exact l_trans (by assumption) (by assumption)) _ _ hP hD hS ls (lv_sub hl [0, 3, 4, 1] rfl)
              · have hP9 := hP.sub (ws' := [(ma, .inr (5, [.int (jI mth), .int (jI mn), .ref a0, .int (jI mp1'19), .int (jI (f_XM_failP mth mn mp1'19 mw1'20 mu md mo mp1'19)), .ref a1, .ref a2, .ref a3, .ref a4, .ref a5, .ref a6, .ref a7, .ref a8, .ref a9, .ref a10, .long (jL mu), .long (jL md), .int (jI mo), .ref a11])), (a0, .inl (cA, 400, .inl (jA y0))), (a8, .inl (cZ, 8, .inl (jA y8))), (a9, .inl (cA, 64, .inl (jA w9)))]) [3, 2, 0, 1] rfl
                have hD9 := hD.sub (ws' := [(ma, .inr (5, [.int (jI mth), .int (jI mn), .ref a0, .int (jI mp1'19), .int (jI (f_XM_failP mth mn mp1'19 mw1'20 mu md mo mp1'19)), .ref a1, .ref a2, .ref a3, .ref a4, .ref a5, .ref a6, .ref a7, .ref a8, .ref a9, .ref a10, .long (jL mu), .long (jL md), .int (jI mo), .ref a11])), (a0, .inl (cA, 400, .inl (jA y0))), (a8, .inl (cZ, 8, .inl (jA y8))), (a9, .inl (cA, 64, .inl (jA w9)))]) [3, 2, 0, 1] (by decide) rfl
                subst hAe
                subst hQ
                exact W.vret hx hb hr (fun t ht hW => ⟨⟨(mp1'19, f_XM_failP mth mn mp1'19 mw1'20 mu md mo mp1'19, y8, w9), rfl, ⟨Eq.trans (by rw [f_XM_formulaP_L56_s]; rw [if_neg c57_]; rw [← hwb23]; try dsimp only; rw [if_pos c69_, if_neg (Int.not_lt.mpr c84_59)]; try rfl) hF, show mp ≤ mp1'19 ∧ mp1'19 ≤ mn from by first | assumption | omega | exact jset_b (by assumption) (by omega) | exact jset_l (by assumption) (by omega) | exact jset_l (fun _ _ => rfl) (by omega) | exact fun _ _ => rfl | exact l_trans (by assumption) (by assumption), show -1 ≤ (f_XM_failP mth mn mp1'19 mw1'20 mu md mo mp1'19) ∧ (f_XM_failP mth mn mp1'19 mw1'20 mu md mo mp1'19) ≤ 400 ∧ mw ≤ (f_XM_failP mth mn mp1'19 mw1'20 mu md mo mp1'19) from by first | assumption | omega | exact jset_b (by assumption) (by omega) | exact jset_l (by assumption) (by omega) | exact jset_l (fun _ _ => rfl) (by omega) | exact fun _ _ => rfl | exact l_trans (by assumption) (by assumption), show ∀ i, 0 ≤ y8 i ∧ y8 i ≤ 1 from by first | assumption | omega | exact jset_b (by assumption) (by omega) | exact jset_l (by assumption) (by omega) | exact jset_l (fun _ _ => rfl) (by omega) | exact fun _ _ => rfl | exact l_trans (by assumption) (by assumption), show ∀ i, 0 ≤ w9 i ∧ w9 i ≤ 20 from by first | assumption | omega | exact jset_b (by assumption) (by omega) | exact jset_l (by assumption) (by omega) | exact jset_l (fun _ _ => rfl) (by omega) | exact fun _ _ => rfl | exact l_trans (by assumption) (by assumption), show ∀ i, i < 4 → y8 i = y8 i from by first | assumption | omega | exact jset_b (by assumption) (by omega) | exact jset_l (by assumption) (by omega) | exact jset_l (fun _ _ => rfl) (by omega) | exact fun _ _ => rfl | exact l_trans (by assumption) (by assumption), show ∀ i, i < 32 → w9 i = y9 i from by first | assumption | omega | exact jset_b (by assumption) (by omega) | exact jset_l (by assumption) (by omega) | exact jset_l (fun _ _ => rfl) (by omega) | exact fun _ _ => rfl | exact l_trans (by assumption) (by assumption)⟩, ⟨by rw [ht]; exact hP9, va_K.moved hW.alike hK, hD9⟩⟩, hS.F ht⟩) hS.2.2 dXM_formula_87
      exact loop56 (Int.toNat (mn - mp1'4) + 1) mk0 jm mp1'4 mw1'5 y9 (by omega) (Eq.trans (by rw [f_XM_formulaP_J55_s]; try rfl) hF) (by first | assumption | omega | exact jset_b (by assumption) (by omega) | exact jset_l (by assumption) (by omega) | exact jset_l (fun _ _ => rfl) (by omega) | exact fun _ _ => rfl | exact l_trans (by assumption) (by assumption)) (by first | assumption | omega | exact jset_b (by assumption) (by omega) | exact jset_l (by assumption) (by omega) | exact jset_l (fun _ _ => rfl) (by omega) | exact fun _ _ => rfl | exact l_trans (by assumption) (by assumption)) (by first | assumption | omega | exact jset_b (by assumption) (by omega) | exact jset_l (by assumption) (by omega) | exact jset_l (fun _ _ => rfl) (by omega) | exact fun _ _ => rfl | exact l_trans (by assumption) (by assumption)) (by first | assumption | omega | exact jset_b (by assumption) (by omega) | exact jset_l (by assumption) (by omega) | exact jset_l (fun _ _ => rfl) (by omega) | exact fun _ _ => rfl | exact l_trans (by assumption) (by assumption)) (by first | assumption | omega | exact jset_b (by assumption) (by omega) | exact jset_l (by assumption) (by omega) | exact jset_l (fun _ _ => rfl) (by omega) | exact fun _ _ => rfl | exact l_trans (by assumption) (by assumption)) (by first | assumption | omega | exact jset_b (by assumption) (by omega) | exact jset_l (by assumption) (by omega) | exact jset_l (fun _ _ => rfl) (by omega) | exact fun _ _ => rfl | exact l_trans (by assumption) (by assumption)) _ _ hP hD hS ls (lv_sub hl [0, 1, 2, 3] rfl)
    refine ji_iconst hx hb dXM_formula_41 ?_
    refine lv_istore_n (lv' := [(2, .int (jI 0)), (1, .int (jI (4 + r))), (0, .ref ma)]) hx hb dXM_formula_42 rfl hl (by decide) rfl (fun ls hl => ?_)
    refine lv_aload_n hx hb dXM_formula_43 rfl (lv_at hl 2 rfl) ?_
    refine va_get (D := (dC, dI)) (ci := 5) (v := .int (jI mw1'5)) (C := RXM) (T := TXM) (N := 19) hx hb hts (fun w h => jmem (inXM w h)) hown hK hP 2 rfl rfl 4 (by decide) (hts _ (jmem tw_632)) (fun _ h9 => h9) rfl dXM_formula_44 ?_
    refine ji_if_ge (tgt := 54) hx hb dXM_formula_47 (by decide) (by omega) (fun c47_ => ?_) (fun c47_ => ?_)
    · refine ji_iconst hx hb dXM_formula_54 ?_
      exact join55 0 0 (Eq.trans (by rw [f_XM_formulaP_J35_s]; rw [← hwb7]; try dsimp only; rw [if_neg (Int.not_lt.mpr c47_)]; try rfl) hF) (by first | assumption | omega | exact jset_b (by assumption) (by omega)) (by first | assumption | omega | exact jset_b (by assumption) (by omega)) _ _ hP hD hS ls (lv_sub hl [1, 2, 0] rfl)
    · refine ji_iconst hx hb dXM_formula_50 ?_
      refine lv_goto (tgt := 55) hx hb dXM_formula_51 (by decide) ?_
      exact join55 0 1 (Eq.trans (by rw [f_XM_formulaP_J35_s]; rw [← hwb7]; try dsimp only; rw [if_pos c47_]; try rfl) hF) (by first | assumption | omega | exact jset_b (by assumption) (by omega)) (by first | assumption | omega | exact jset_b (by assumption) (by omega)) _ _ hP hD hS ls (lv_sub hl [1, 2, 0] rfl)
  refine lv_aload_n hx hb dXM_formula_9 rfl (lv_at hl 1 rfl) ?_
  refine va_get (D := (dC, dI)) (ci := 5) (v := .int (jI mw1')) (C := RXM) (T := TXM) (N := 19) hx hb hts (fun w h => jmem (inXM w h)) hown hK hP 2 rfl rfl 4 (by decide) (hts _ (jmem tw_632)) (fun _ h9 => h9) rfl dXM_formula_10 ?_
  refine ji_if_ge (tgt := 35) hx hb dXM_formula_13 (by decide) (by omega) (fun c13_ => ?_) (fun c13_ => ?_)
  · exact join35 mw1' (Eq.trans (by rw [f_XM_formulaP_s]; rw [← hwb]; try dsimp only; rw [if_neg (Int.not_lt.mpr c13_)]; try rfl) rfl) (by first | assumption | omega | exact jset_b (by assumption) (by omega)) _ _ hP hD hS ls (lv_sub hl [0, 1] rfl)
  · refine lv_aload_n hx hb dXM_formula_16 rfl (lv_at hl 1 rfl) ?_
    refine va_get (D := (dC, dI)) (ci := 5) (v := .ref a8) (C := RXM) (T := TXM) (N := 19) hx hb hts (fun w h => jmem (inXM w h)) hown hK hP 2 rfl rfl 12 (by decide) (hts _ (jmem tw_640)) (fun _ h9 => h9) rfl dXM_formula_17 ?_
    refine lv_iload_n hx hb dXM_formula_20 rfl (lv_at hl 0 rfl) ?_
    refine ji_zald hx hb hK hP 0 1 rfl rfl ⟨by omega, by omega⟩ (by decide) dXM_formula_21 ?_
    have rb91 := hy8 (4 + r)
    refine ji_if_eq (tgt := 35) hx hb dXM_formula_22 (by decide) (by omega) (fun c22_ => ?_) (fun c22_ => ?_)
    · exact join35 mw1' (Eq.trans (by rw [f_XM_formulaP_s]; rw [← hwb]; try dsimp only; rw [if_pos c13_, if_pos c22_]; try rfl) rfl) (by first | assumption | omega | exact jset_b (by assumption) (by omega)) _ _ hP hD hS ls (lv_sub hl [0, 1] rfl)
    · refine lv_aload_n hx hb dXM_formula_25 rfl (lv_at hl 1 rfl) ?_
      refine lv_aload_n hx hb dXM_formula_26 rfl (lv_at hl 1 rfl) ?_
      refine va_get (D := (dC, dI)) (ci := 5) (v := .int (jI mp1')) (C := RXM) (T := TXM) (N := 19) hx hb hts (fun w h => jmem (inXM w h)) hown hK hP 2 rfl rfl 3 (by decide) (hts _ (jmem tw_631)) (fun _ h9 => h9) rfl dXM_formula_27 ?_
      refine ji_iconst hx hb dXM_formula_30 ?_
      refine ji_isub hx hb dXM_formula_31 ?_
      refine jwVv (rest := []) (wr := [(a8, .inl (cZ, 8, .inl (jA y8))), (a9, .inl (cA, 64, .inl (jA y9))), (a0, .inl (cA, 400, .inl (jA y0)))]) ⟨hx, hb, hml, hown, hts⟩ (c_XM_failP l dC dI cA cZ _ ma a0 a1 a2 a3 a4 a5 a6 a7 a8 a9 a10 a11 mth mn mp1' mw1' mu md mo (mp1' - 1) (by first | assumption | omega) (by first | assumption | omega)) (cwV 1 hts (jG_V tw_734 tw_736 ts_22 tw_6 tw_737) rfl rfl rfl (by decide +kernel) (by rw [hR]; exact ⟨Nat.le_of_ble_eq_true rfl, Nat.le_of_ble_eq_true rfl⟩)) hK hP hD hS hA hN [2] [0, 1, 3] rfl rfl (by decide) (by decide) (by decide) 2 5 rfl rfl rfl rfl hl.1 rfl (Nat.le_of_ble_eq_true rfl) dXM_formula_32 (by rw [hR]; exact ⟨Nat.le_of_ble_eq_true rfl, Nat.le_of_ble_eq_true rfl⟩) (fun u92 H locs hw hP hD hS => ?_)
      obtain ⟨hw, f93⟩ := hw
      subst hw
      have f93 : (0 ≤ mw1' ∧ (f_XM_failP mth mn mp1' mw1' mu md mo (mp1' - 1)) = mw1') ∨ (mw1' < 0 ∧ (f_XM_failP mth mn mp1' mw1' mu md mo (mp1' - 1)) = (mp1' - 1)) := f93
      have hP : va_P (dC, dI) vwCl [(a8, .inl (cZ, 8, .inl (jA y8))), (a9, .inl (cA, 64, .inl (jA y9))), (a0, .inl (cA, 400, .inl (jA y0))), (ma, .inr (5, [.int (jI mth), .int (jI mn), .ref a0, .int (jI mp1'), .int (jI (f_XM_failP mth mn mp1' mw1' mu md mo (mp1' - 1))), .ref a1, .ref a2, .ref a3, .ref a4, .ref a5, .ref a6, .ref a7, .ref a8, .ref a9, .ref a10, .long (jL mu), .long (jL md), .int (jI mo), .ref a11]))] H := hP
      have hD : va_D A [(a8, .inl (cZ, 8, .inl (jA y8))), (a9, .inl (cA, 64, .inl (jA y9))), (a0, .inl (cA, 400, .inl (jA y0))), (ma, .inr (5, [.int (jI mth), .int (jI mn), .ref a0, .int (jI mp1'), .int (jI (f_XM_failP mth mn mp1' mw1' mu md mo (mp1' - 1))), .ref a1, .ref a2, .ref a3, .ref a4, .ref a5, .ref a6, .ref a7, .ref a8, .ref a9, .ref a10, .long (jL mu), .long (jL md), .int (jI mo), .ref a11]))] := hD
      exact join35 (f_XM_failP mth mn mp1' mw1' mu md mo (mp1' - 1)) (Eq.trans (by rw [f_XM_formulaP_s]; rw [← hwb]; try dsimp only; rw [if_pos c13_, if_neg c22_]; try rfl) rfl) (by first | assumption | omega | exact jset_b (by assumption) (by omega)) _ _ (hP.sub [0, 1, 3, 2] rfl) (hD.sub [0, 1, 3, 2] (by decide) rfl) hS ls (lv_sub hl [0, 1] rfl)
noncomputable def g_XM_spansP_L8 (mth : Int) (mn : Int) (mp : Int) (mw : Int) (mu : Int) (md : Int) (mo : Int) (y0 : Int → Int) (y3 : Int → Int) (y4 : Int → Int) (y5 : Int → Int) (z1 : Int) : Nat → Int → Int → Int → Int → (Int → Int) → (Int → Int) → (Int → Int) → Int × Int × (Int → Int) × (Int → Int) × (Int → Int)
  | 0, _, _, _, _, _, _, _ => (0, 0, fun _ => 0, fun _ => 0, fun _ => 0)
  | n9 + 1, mks, e9, k, w, w3, w4, w5 =>
    if e9 < 0 then
      (k, w, w3, w4, w5)
    else
      if w < 0 then
        match f_XM_numberP mth mn k w mu md mo y0 0 100000 with
        | (r5, mp1'6, mw1'7) =>
          match f_XM_takeP mth mn mp1'6 mw1'7 mu md mo y0 45 with
          | (mp1'15, mw1'16) =>
            match f_XM_numberP mth mn mp1'15 mw1'16 mu md mo y0 ((jset w4 ((8 * z1) + e9) r5) ((8 * z1) + e9)) 100000 with
            | (r24, mp1'25, mw1'26) =>
              match f_XM_elementP mth mn mp1'25 mw1'26 mu md mo y0 ((jI mks ||| jI ((jI 1 <<< (jI e9 &&& 31)).toInt)).toInt) with
              | (r34, mp1'35, mw1'36) =>
                g_XM_spansP_L8 mth mn mp mw mu md mo y0 y3 y4 y5 z1 n9 ((jI mks ||| jI ((jI 1 <<< (jI e9 &&& 31)).toInt)).toInt) r34 mp1'35 mw1'36 (jset w3 ((8 * z1) + e9) 1) (jset w4 ((8 * z1) + e9) r5) (jset w5 ((8 * z1) + e9) r24)
      else
        (k, w, w3, w4, w5)
noncomputable def f_XM_spansP_L8 : Int → Int → Int → Int → Int → Int → Int → (Int → Int) → (Int → Int) → (Int → Int) → (Int → Int) → Int → Nat → Int → Int → Int → Int → (Int → Int) → (Int → Int) → (Int → Int) → Int × Int × (Int → Int) × (Int → Int) × (Int → Int) := jopq g_XM_spansP_L8
theorem f_XM_spansP_L8_q : f_XM_spansP_L8 = g_XM_spansP_L8 := jopq_eq _
theorem f_XM_spansP_L8_s (mth : Int) (mn : Int) (mp : Int) (mw : Int) (mu : Int) (md : Int) (mo : Int) (y0 : Int → Int) (y3 : Int → Int) (y4 : Int → Int) (y5 : Int → Int) (z1 : Int) (n9 : Nat) (mks : Int) (e9 : Int) (k : Int) (w : Int) (w3 : Int → Int) (w4 : Int → Int) (w5 : Int → Int) : f_XM_spansP_L8 mth mn mp mw mu md mo y0 y3 y4 y5 z1 (n9 + 1) mks e9 k w w3 w4 w5 = (
    if e9 < 0 then
      (k, w, w3, w4, w5)
    else
      if w < 0 then
        match f_XM_numberP mth mn k w mu md mo y0 0 100000 with
        | (r5, mp1'6, mw1'7) =>
          match f_XM_takeP mth mn mp1'6 mw1'7 mu md mo y0 45 with
          | (mp1'15, mw1'16) =>
            match f_XM_numberP mth mn mp1'15 mw1'16 mu md mo y0 ((jset w4 ((8 * z1) + e9) r5) ((8 * z1) + e9)) 100000 with
            | (r24, mp1'25, mw1'26) =>
              match f_XM_elementP mth mn mp1'25 mw1'26 mu md mo y0 ((jI mks ||| jI ((jI 1 <<< (jI e9 &&& 31)).toInt)).toInt) with
              | (r34, mp1'35, mw1'36) =>
                f_XM_spansP_L8 mth mn mp mw mu md mo y0 y3 y4 y5 z1 n9 ((jI mks ||| jI ((jI 1 <<< (jI e9 &&& 31)).toInt)).toInt) r34 mp1'35 mw1'36 (jset w3 ((8 * z1) + e9) 1) (jset w4 ((8 * z1) + e9) r5) (jset w5 ((8 * z1) + e9) r24)
      else
        (k, w, w3, w4, w5)
  : Int × Int × (Int → Int) × (Int → Int) × (Int → Int)) := by rw [f_XM_spansP_L8_q]; rfl
theorem f_XM_spansP_L8_z (mth : Int) (mn : Int) (mp : Int) (mw : Int) (mu : Int) (md : Int) (mo : Int) (y0 : Int → Int) (y3 : Int → Int) (y4 : Int → Int) (y5 : Int → Int) (z1 : Int) (mks : Int) (e9 : Int) (k : Int) (w : Int) (w3 : Int → Int) (w4 : Int → Int) (w5 : Int → Int) : f_XM_spansP_L8 mth mn mp mw mu md mo y0 y3 y4 y5 z1 0 mks e9 k w w3 w4 w5 = (0, 0, fun _ => 0, fun _ => 0, fun _ => 0) := by rw [f_XM_spansP_L8_q]; rfl
noncomputable def g_XM_spansP (mth : Int) (mn : Int) (mp : Int) (mw : Int) (mu : Int) (md : Int) (mo : Int) (y0 : Int → Int) (y3 : Int → Int) (y4 : Int → Int) (y5 : Int → Int) (z1 : Int) : Int × Int × (Int → Int) × (Int → Int) × (Int → Int) :=
  match f_XM_elementP mth mn mp mw mu md mo y0 0 with
  | (r, mp1', mw1') =>
    f_XM_spansP_L8 mth mn mp mw mu md mo y0 y3 y4 y5 z1 (Int.toNat (mn - mp1' - mw1' + 400) + 1) 0 r mp1' mw1' y3 y4 y5
noncomputable def f_XM_spansP : Int → Int → Int → Int → Int → Int → Int → (Int → Int) → (Int → Int) → (Int → Int) → (Int → Int) → Int → Int × Int × (Int → Int) × (Int → Int) × (Int → Int) := jopq g_XM_spansP
theorem f_XM_spansP_q : f_XM_spansP = g_XM_spansP := jopq_eq _
theorem f_XM_spansP_s (mth : Int) (mn : Int) (mp : Int) (mw : Int) (mu : Int) (md : Int) (mo : Int) (y0 : Int → Int) (y3 : Int → Int) (y4 : Int → Int) (y5 : Int → Int) (z1 : Int) : f_XM_spansP mth mn mp mw mu md mo y0 y3 y4 y5 z1 = (
    match f_XM_elementP mth mn mp mw mu md mo y0 0 with
    | (r, mp1', mw1') =>
      f_XM_spansP_L8 mth mn mp mw mu md mo y0 y3 y4 y5 z1 (Int.toNat (mn - mp1' - mw1' + 400) + 1) 0 r mp1' mw1' y3 y4 y5
  : Int × Int × (Int → Int) × (Int → Int) × (Int → Int)) := by rw [f_XM_spansP_q]; rfl
set_option maxHeartbeats 4000000 in
set_option maxRecDepth 100000 in
theorem c_XM_spansP (l : Launch) (dC : Nat → ClassId) (dI : Nat → Nat → Nat) (cA cZ : ClassId) (sz : Nat) (ma : Nat) (a0 : Nat) (a1 : Nat) (a2 : Nat) (a3 : Nat) (a4 : Nat) (a5 : Nat) (a6 : Nat) (a7 : Nat) (a8 : Nat) (a9 : Nat) (a10 : Nat) (a11 : Nat) (mth : Int) (mn : Int) (mp : Int) (mw : Int) (mu : Int) (md : Int) (mo : Int) (y0 : Int → Int) (y3 : Int → Int) (y4 : Int → Int) (y5 : Int → Int) (z1 : Int) (hy0 : ∀ i, 0 ≤ y0 i ∧ y0 i ≤ 255) (hmn : 0 ≤ mn ∧ mn ≤ 400) (hmp : 0 ≤ mp ∧ mp ≤ mn) (hmw : -1 ≤ mw ∧ mw ≤ 400) (hy3 : ∀ i, 0 ≤ y3 i ∧ y3 i ≤ 1) (hy4 : ∀ i, 0 ≤ y4 i ∧ y4 i ≤ 100000) (hy5 : ∀ i, 0 ≤ y5 i ∧ y5 i ≤ 100000) (hz1 : 32 ≤ z1 ∧ z1 ≤ 61) : Met l yXM_spans (Cond.code yXM_spans cXM_spans 5 none :: TBL) ({ frames := 3, cells := 0, slots := 0, locals := 66 } : Room) (va_Pc [.ref ma, .int (jI z1)] (jBw (dC, dI) [(cA, .int), (cZ, .boolean)] [(ma, .inr (5, [.int (jI mth), .int (jI mn), .ref a0, .int (jI mp), .int (jI mw), .ref a1, .ref a2, .ref a3, .ref a4, .ref a5, .ref a6, .ref a7, .ref a8, .ref a9, .ref a10, .long (jL mu), .long (jL md), .int (jI mo), .ref a11])), (a0, .inl (cA, 400, .inl (jA y0))), (a3, .inl (cZ, 496, .inl (jA y3))), (a4, .inl (cA, 496, .inl (jA y4))), (a5, .inl (cA, 496, .inl (jA y5)))] sz)) (va_Qv (fun (u : Int × Int × (Int → Int) × (Int → Int) × (Int → Int)) => u = f_XM_spansP mth mn mp mw mu md mo y0 y3 y4 y5 z1 ∧ (mp ≤ u.1 ∧ u.1 ≤ mn) ∧ (-1 ≤ u.2.1 ∧ u.2.1 ≤ 400 ∧ mw ≤ u.2.1) ∧ (∀ i, 0 ≤ u.2.2.1 i ∧ u.2.2.1 i ≤ 1) ∧ (∀ i, 0 ≤ u.2.2.2.1 i ∧ u.2.2.2.1 i ≤ 100000) ∧ (∀ i, 0 ≤ u.2.2.2.2 i ∧ u.2.2.2.2 i ≤ 100000) ∧ (∀ i, i < 248 → u.2.2.1 i = y3 i) ∧ (∀ i, i < 248 → u.2.2.2.1 i = y4 i) ∧ (∀ i, i < 248 → u.2.2.2.2 i = y5 i)) (fun u t => jE (dC, dI) [(cA, .int), (cZ, .boolean)] [(ma, .inr (5, [.int (jI mth), .int (jI mn), .ref a0, .int (jI mp), .int (jI mw), .ref a1, .ref a2, .ref a3, .ref a4, .ref a5, .ref a6, .ref a7, .ref a8, .ref a9, .ref a10, .long (jL mu), .long (jL md), .int (jI mo), .ref a11])), (a0, .inl (cA, 400, .inl (jA y0))), (a3, .inl (cZ, 496, .inl (jA y3))), (a4, .inl (cA, 496, .inl (jA y4))), (a5, .inl (cA, 496, .inl (jA y5)))] sz [(ma, .inr (5, [.int (jI mth), .int (jI mn), .ref a0, .int (jI u.1), .int (jI u.2.1), .ref a1, .ref a2, .ref a3, .ref a4, .ref a5, .ref a6, .ref a7, .ref a8, .ref a9, .ref a10, .long (jL mu), .long (jL md), .int (jI mo), .ref a11])), (a0, .inl (cA, 400, .inl (jA y0))), (a3, .inl (cZ, 496, .inl (jA u.2.2.1))), (a4, .inl (cA, 496, .inl (jA u.2.2.2.1))), (a5, .inl (cA, 496, .inl (jA u.2.2.2.2)))] t) (va_A [(ma, .inr (5, [.int (jI mth), .int (jI mn), .ref a0, .int (jI mp), .int (jI mw), .ref a1, .ref a2, .ref a3, .ref a4, .ref a5, .ref a6, .ref a7, .ref a8, .ref a9, .ref a10, .long (jL mu), .long (jL md), .int (jI mo), .ref a11])), (a0, .inl (cA, 400, .inl (jA y0))), (a3, .inl (cZ, 496, .inl (jA y3))), (a4, .inl (cA, 496, .inl (jA y4))), (a5, .inl (cA, 496, .inl (jA y5)))] sz)) 0 0 (va_A [(ma, .inr (5, [.int (jI mth), .int (jI mn), .ref a0, .int (jI mp), .int (jI mw), .ref a1, .ref a2, .ref a3, .ref a4, .ref a5, .ref a6, .ref a7, .ref a8, .ref a9, .ref a10, .long (jL mu), .long (jL md), .int (jI mo), .ref a11])), (a0, .inl (cA, 400, .inl (jA y0))), (a3, .inl (cZ, 496, .inl (jA y3))), (a4, .inl (cA, 496, .inl (jA y4))), (a5, .inl (cA, 496, .inl (jA y5)))] sz) := by
  refine jMet (cc := cXM_spans) (maxL := 5) (ret := none) (by decide) rfl ?_
  intro p e s m args below meth c s₁ R Q hR hQ B hml hv
  obtain ⟨rfl, hsz, hP, hK, hD0, hN⟩ := hv
  have hx := B.exec
  have hb := B.bytes
  have hr := B.returns
  have hts := atoms_spec (ws := Cond.code yXM_spans cXM_spans 5 none :: TBL) B.pre
  have hown : s.vm.findClass RXM = some m.cls := findClass_of_methodNamed B.named
  have hlocks := B.notSynchronized
  subst hsz
  obtain ⟨A, hAe⟩ : ∃ A, A = va_A [(ma, .inr (5, [.int (jI mth), .int (jI mn), .ref a0, .int (jI mp), .int (jI mw), .ref a1, .ref a2, .ref a3, .ref a4, .ref a5, .ref a6, .ref a7, .ref a8, .ref a9, .ref a10, .long (jL mu), .long (jL md), .int (jI mo), .ref a11])), (a0, .inl (cA, 400, .inl (jA y0))), (a3, .inl (cZ, 496, .inl (jA y3))), (a4, .inl (cA, 496, .inl (jA y4))), (a5, .inl (cA, 496, .inl (jA y5)))] s.heap.size := ⟨_, rfl⟩
  have hD : va_D A [(ma, .inr (5, [.int (jI mth), .int (jI mn), .ref a0, .int (jI mp), .int (jI mw), .ref a1, .ref a2, .ref a3, .ref a4, .ref a5, .ref a6, .ref a7, .ref a8, .ref a9, .ref a10, .long (jL mu), .long (jL md), .int (jI mo), .ref a11])), (a0, .inl (cA, 400, .inl (jA y0))), (a3, .inl (cZ, 496, .inl (jA y3))), (a4, .inl (cA, 496, .inl (jA y4))), (a5, .inl (cA, 496, .inl (jA y5)))] := by rw [hAe]; exact hD0.self
  have hA : ∀ q : Nat, s.heap.size ≤ q → A q := fun q h => by rw [hAe]; exact Or.inr h
  have hS : va_S A s.heap s.heap [] := va_S.rf
  have hP : va_P (dC, dI) vwCl [(ma, .inr (5, [.int (jI mth), .int (jI mn), .ref a0, .int (jI mp), .int (jI mw), .ref a1, .ref a2, .ref a3, .ref a4, .ref a5, .ref a6, .ref a7, .ref a8, .ref a9, .ref a10, .long (jL mu), .long (jL md), .int (jI mo), .ref a11])), (a0, .inl (cA, 400, .inl (jA y0))), (a3, .inl (cZ, 496, .inl (jA y3))), (a4, .inl (cA, 496, .inl (jA y4))), (a5, .inl (cA, 496, .inl (jA y5)))] s.heap := hP
  have hl := lv_entry ([.ref ma, .int (jI z1)]) (n := 5) (Nat.le_of_ble_eq_true rfl)
  rw [lg_entry_eq]
  generalize (lg_sl ([.ref ma, .int (jI z1)]) ++ List.replicate (5 - (lg_sl ([.ref ma, .int (jI z1)])).length) Slot.unset).toArray = ls at hl ⊢
  have hl : lv_has ls 5 [(0, .ref ma), (1, .int (jI z1))] := hl
  refine ji_iconst hx hb dXM_spans_0 ?_
  refine lv_istore_n (lv' := [(2, .int (jI 0)), (0, .ref ma), (1, .int (jI z1))]) hx hb dXM_spans_1 rfl hl (by decide) rfl (fun ls hl => ?_)
  refine lv_aload_n hx hb dXM_spans_2 rfl (lv_at hl 1 rfl) ?_
  refine lv_iload_n hx hb dXM_spans_3 rfl (lv_at hl 0 rfl) ?_
  refine jwVi (rest := []) (wr := [(a3, .inl (cZ, 496, .inl (jA y3))), (a4, .inl (cA, 496, .inl (jA y4))), (a5, .inl (cA, 496, .inl (jA y5)))]) ⟨hx, hb, hml, hown, hts⟩ (c_XM_elementP l dC dI cA cZ _ ma a0 a1 a2 a3 a4 a5 a6 a7 a8 a9 a10 a11 mth mn mp mw mu md mo y0 0 (by first | assumption | omega) (by first | assumption | omega) (by first | assumption | omega) (by first | assumption | omega) (by first | assumption | omega)) (cwV 1 hts (jG_V tw_742 tw_744 ts_24 tw_6 tw_745) rfl rfl rfl (by decide +kernel) (by rw [hR]; exact ⟨Nat.le_of_ble_eq_true rfl, Nat.le_of_ble_eq_true rfl⟩)) hK hP hD hS hA hN [0, 1] [2, 3, 4] rfl rfl (by decide) (by decide) (by decide) 0 5 rfl rfl rfl rfl hl.1 rfl (Nat.le_of_ble_eq_true rfl) dXM_spans_4 (by rw [hR]; exact ⟨Nat.le_of_ble_eq_true rfl, Nat.le_of_ble_eq_true rfl⟩) (fun v u H locs hwb hP hD hS => ?_)
  obtain ⟨r, mp1', mw1'⟩ := u
  try dsimp only at hwb
  obtain ⟨er, hwb, f, f1, f2, f3⟩ := hwb
  subst er
  have f : -1 ≤ r ∧ r ≤ 7 := f
  have f1 : mp ≤ mp1' ∧ mp1' ≤ mn := f1
  have f2 : -1 ≤ mw1' ∧ mw1' ≤ 400 ∧ mw ≤ mw1' := f2
  have f3 : 0 ≤ r → mp < mp1' := f3
  have hP : va_P (dC, dI) vwCl [(a3, .inl (cZ, 496, .inl (jA y3))), (a4, .inl (cA, 496, .inl (jA y4))), (a5, .inl (cA, 496, .inl (jA y5))), (ma, .inr (5, [.int (jI mth), .int (jI mn), .ref a0, .int (jI mp1'), .int (jI mw1'), .ref a1, .ref a2, .ref a3, .ref a4, .ref a5, .ref a6, .ref a7, .ref a8, .ref a9, .ref a10, .long (jL mu), .long (jL md), .int (jI mo), .ref a11])), (a0, .inl (cA, 400, .inl (jA y0)))] H := hP
  have hD : va_D A [(a3, .inl (cZ, 496, .inl (jA y3))), (a4, .inl (cA, 496, .inl (jA y4))), (a5, .inl (cA, 496, .inl (jA y5))), (ma, .inr (5, [.int (jI mth), .int (jI mn), .ref a0, .int (jI mp1'), .int (jI mw1'), .ref a1, .ref a2, .ref a3, .ref a4, .ref a5, .ref a6, .ref a7, .ref a8, .ref a9, .ref a10, .long (jL mu), .long (jL md), .int (jI mo), .ref a11])), (a0, .inl (cA, 400, .inl (jA y0)))] := hD
  refine lv_istore_n (lv' := [(3, .int (jI r)), (2, .int (jI 0)), (0, .ref ma), (1, .int (jI z1))]) hx hb dXM_spans_7 rfl hl (by decide) rfl (fun ls hl => ?_)
  have loop8 : ∀ (n9 : Nat) (mks : Int) (e9 : Int) (k : Int) (w : Int) (w3 : Int → Int) (w4 : Int → Int) (w5 : Int → Int) , mn - k - w + 400 < (n9 : Int) → f_XM_spansP_L8 mth mn mp mw mu md mo y0 y3 y4 y5 z1 n9 mks e9 k w w3 w4 w5 = f_XM_spansP mth mn mp mw mu md mo y0 y3 y4 y5 z1 → (mp ≤ k ∧ k ≤ mn) → (-1 ≤ w ∧ w ≤ 400 ∧ mw ≤ w) → (i32 mks) → (-1 ≤ e9 ∧ e9 ≤ 7) → (∀ i, 0 ≤ w3 i ∧ w3 i ≤ 1) → (∀ i, 0 ≤ w4 i ∧ w4 i ≤ 100000) → (∀ i, 0 ≤ w5 i ∧ w5 i ≤ 100000) → (∀ i, i < 248 → w3 i = y3 i) → (∀ i, i < 248 → w4 i = y4 i) → (∀ i, i < 248 → w5 i = y5 i) → ∀ (H : Heap) (locs : List Loc), va_P (dC, dI) vwCl [(a3, .inl (cZ, 496, .inl (jA w3))), (a4, .inl (cA, 496, .inl (jA w4))), (a5, .inl (cA, 496, .inl (jA w5))), (ma, .inr (5, [.int (jI mth), .int (jI mn), .ref a0, .int (jI k), .int (jI w), .ref a1, .ref a2, .ref a3, .ref a4, .ref a5, .ref a6, .ref a7, .ref a8, .ref a9, .ref a10, .long (jL mu), .long (jL md), .int (jI mo), .ref a11])), (a0, .inl (cA, 400, .inl (jA y0)))] H → va_D A [(a3, .inl (cZ, 496, .inl (jA w3))), (a4, .inl (cA, 496, .inl (jA w4))), (a5, .inl (cA, 496, .inl (jA w5))), (ma, .inr (5, [.int (jI mth), .int (jI mn), .ref a0, .int (jI k), .int (jI w), .ref a1, .ref a2, .ref a3, .ref a4, .ref a5, .ref a6, .ref a7, .ref a8, .ref a9, .ref a10, .long (jL mu), .long (jL md), .int (jI mo), .ref a11])), (a0, .inl (cA, 400, .inl (jA y0)))] → va_S A s.heap H locs → ∀ ls : Array Slot, lv_has ls 5 [(3, .int (jI e9)), (2, .int (jI mks)), (0, .ref ma), (1, .int (jI z1))] → W p l e R s m ([.ref ma, .int (jI z1)] : List Value).toArray below meth c H locs 0 0 Q (F0 m 8 ls []) := by
    intro n9
    induction n9 with
    | zero =>
      intro mks e9 k w w3 w4 w5 hm hF hk hw hmk he9 hw3 hw4 hw5 hl3 hl4 hl5
      exact absurd hm (by omega)
    | succ n9 ih8 =>
      intro mks e9 k w w3 w4 w5 hm hF hk hw hmk he9 hw3 hw4 hw5 hl3 hl4 hl5 H locs hP hD hS ls hl
      refine lv_iload_n hx hb dXM_spans_8 rfl (lv_at hl 0 rfl) ?_
      refine ji_if_lt (tgt := 90) hx hb dXM_spans_9 (by decide) (by omega) (fun c9_ => ?_) (fun c9_ => ?_)
      · have hP9 := hP.sub (ws' := [(ma, .inr (5, [.int (jI mth), .int (jI mn), .ref a0, .int (jI k), .int (jI w), .ref a1, .ref a2, .ref a3, .ref a4, .ref a5, .ref a6, .ref a7, .ref a8, .ref a9, .ref a10, .long (jL mu), .long (jL md), .int (jI mo), .ref a11])), (a0, .inl (cA, 400, .inl (jA y0))), (a3, .inl (cZ, 496, .inl (jA w3))), (a4, .inl (cA, 496, .inl (jA w4))), (a5, .inl (cA, 496, .inl (jA w5)))]) [3, 4, 0, 1, 2] rfl
        have hD9 := hD.sub (ws' := [(ma, .inr (5, [.int (jI mth), .int (jI mn), .ref a0, .int (jI k), .int (jI w), .ref a1, .ref a2, .ref a3, .ref a4, .ref a5, .ref a6, .ref a7, .ref a8, .ref a9, .ref a10, .long (jL mu), .long (jL md), .int (jI mo), .ref a11])), (a0, .inl (cA, 400, .inl (jA y0))), (a3, .inl (cZ, 496, .inl (jA w3))), (a4, .inl (cA, 496, .inl (jA w4))), (a5, .inl (cA, 496, .inl (jA w5)))]) [3, 4, 0, 1, 2] (by decide) rfl
        subst hAe
        subst hQ
        exact W.vret hx hb hr (fun t ht hW => ⟨⟨(k, w, w3, w4, w5), rfl, ⟨Eq.trans (by rw [f_XM_spansP_L8_s]; rw [if_pos c9_]; try rfl) hF, show mp ≤ k ∧ k ≤ mn from by first | assumption | omega | exact jset_b (by assumption) (by omega) | exact jset_l (by assumption) (by omega) | exact jset_l (fun _ _ => rfl) (by omega) | exact fun _ _ => rfl | exact l_trans (by assumption) (by assumption), show -1 ≤ w ∧ w ≤ 400 ∧ mw ≤ w from by first | assumption | omega | exact jset_b (by assumption) (by omega) | exact jset_l (by assumption) (by omega) | exact jset_l (fun _ _ => rfl) (by omega) | exact fun _ _ => rfl | exact l_trans (by assumption) (by assumption), show ∀ i, 0 ≤ w3 i ∧ w3 i ≤ 1 from by first | assumption | omega | exact jset_b (by assumption) (by omega) | exact jset_l (by assumption) (by omega) | exact jset_l (fun _ _ => rfl) (by omega) | exact fun _ _ => rfl | exact l_trans (by assumption) (by assumption), show ∀ i, 0 ≤ w4 i ∧ w4 i ≤ 100000 from by first | assumption | omega | exact jset_b (by assumption) (by omega) | exact jset_l (by assumption) (by omega) | exact jset_l (fun _ _ => rfl) (by omega) | exact fun _ _ => rfl | exact l_trans (by assumption) (by assumption), show ∀ i, 0 ≤ w5 i ∧ w5 i ≤ 100000 from by first | assumption | omega | exact jset_b (by assumption) (by omega) | exact jset_l (by assumption) (by omega) | exact jset_l (fun _ _ => rfl) (by omega) | exact fun _ _ => rfl | exact l_trans (by assumption) (by assumption), show ∀ i, i < 248 → w3 i = y3 i from by first | assumption | omega | exact jset_b (by assumption) (by omega) | exact jset_l (by assumption) (by omega) | exact jset_l (fun _ _ => rfl) (by omega) | exact fun _ _ => rfl | exact l_trans (by assumption) (by assumption), show ∀ i, i < 248 → w4 i = y4 i from by first | assumption | omega | exact jset_b (by assumption) (by omega) | exact jset_l (by assumption) (by omega) | exact jset_l (fun _ _ => rfl) (by omega) | exact fun _ _ => rfl | exact l_trans (by assumption) (by assumption), show ∀ i, i < 248 → w5 i = y5 i from by first | assumption | omega | exact jset_b (by assumption) (by omega) | exact jset_l (by assumption) (by omega) | exact jset_l (fun _ _ => rfl) (by omega) | exact fun _ _ => rfl | exact l_trans (by assumption) (by assumption)⟩, ⟨by rw [ht]; exact hP9, va_K.moved hW.alike hK, hD9⟩⟩, hS.F ht⟩) hS.2.2 dXM_spans_90
      · refine lv_aload_n hx hb dXM_spans_12 rfl (lv_at hl 2 rfl) ?_
        refine va_get (D := (dC, dI)) (ci := 5) (v := .int (jI w)) (C := RXM) (T := TXM) (N := 19) hx hb hts (fun w h => jmem (inXM w h)) hown hK hP 3 rfl rfl 4 (by decide) (hts _ (jmem tw_632)) (fun _ h9 => h9) rfl dXM_spans_13 ?_
        refine ji_if_ge (tgt := 90) hx hb dXM_spans_16 (by decide) (by omega) (fun c16_ => ?_) (fun c16_ => ?_)
        · have hP9 := hP.sub (ws' := [(ma, .inr (5, [.int (jI mth), .int (jI mn), .ref a0, .int (jI k), .int (jI w), .ref a1, .ref a2, .ref a3, .ref a4, .ref a5, .ref a6, .ref a7, .ref a8, .ref a9, .ref a10, .long (jL mu), .long (jL md), .int (jI mo), .ref a11])), (a0, .inl (cA, 400, .inl (jA y0))), (a3, .inl (cZ, 496, .inl (jA w3))), (a4, .inl (cA, 496, .inl (jA w4))), (a5, .inl (cA, 496, .inl (jA w5)))]) [3, 4, 0, 1, 2] rfl
          have hD9 := hD.sub (ws' := [(ma, .inr (5, [.int (jI mth), .int (jI mn), .ref a0, .int (jI k), .int (jI w), .ref a1, .ref a2, .ref a3, .ref a4, .ref a5, .ref a6, .ref a7, .ref a8, .ref a9, .ref a10, .long (jL mu), .long (jL md), .int (jI mo), .ref a11])), (a0, .inl (cA, 400, .inl (jA y0))), (a3, .inl (cZ, 496, .inl (jA w3))), (a4, .inl (cA, 496, .inl (jA w4))), (a5, .inl (cA, 496, .inl (jA w5)))]) [3, 4, 0, 1, 2] (by decide) rfl
          subst hAe
          subst hQ
          exact W.vret hx hb hr (fun t ht hW => ⟨⟨(k, w, w3, w4, w5), rfl, ⟨Eq.trans (by rw [f_XM_spansP_L8_s]; rw [if_neg (Int.not_lt.mpr c9_), if_neg (Int.not_lt.mpr c16_)]; try rfl) hF, show mp ≤ k ∧ k ≤ mn from by first | assumption | omega | exact jset_b (by assumption) (by omega) | exact jset_l (by assumption) (by omega) | exact jset_l (fun _ _ => rfl) (by omega) | exact fun _ _ => rfl | exact l_trans (by assumption) (by assumption), show -1 ≤ w ∧ w ≤ 400 ∧ mw ≤ w from by first | assumption | omega | exact jset_b (by assumption) (by omega) | exact jset_l (by assumption) (by omega) | exact jset_l (fun _ _ => rfl) (by omega) | exact fun _ _ => rfl | exact l_trans (by assumption) (by assumption), show ∀ i, 0 ≤ w3 i ∧ w3 i ≤ 1 from by first | assumption | omega | exact jset_b (by assumption) (by omega) | exact jset_l (by assumption) (by omega) | exact jset_l (fun _ _ => rfl) (by omega) | exact fun _ _ => rfl | exact l_trans (by assumption) (by assumption), show ∀ i, 0 ≤ w4 i ∧ w4 i ≤ 100000 from by first | assumption | omega | exact jset_b (by assumption) (by omega) | exact jset_l (by assumption) (by omega) | exact jset_l (fun _ _ => rfl) (by omega) | exact fun _ _ => rfl | exact l_trans (by assumption) (by assumption), show ∀ i, 0 ≤ w5 i ∧ w5 i ≤ 100000 from by first | assumption | omega | exact jset_b (by assumption) (by omega) | exact jset_l (by assumption) (by omega) | exact jset_l (fun _ _ => rfl) (by omega) | exact fun _ _ => rfl | exact l_trans (by assumption) (by assumption), show ∀ i, i < 248 → w3 i = y3 i from by first | assumption | omega | exact jset_b (by assumption) (by omega) | exact jset_l (by assumption) (by omega) | exact jset_l (fun _ _ => rfl) (by omega) | exact fun _ _ => rfl | exact l_trans (by assumption) (by assumption), show ∀ i, i < 248 → w4 i = y4 i from by first | assumption | omega | exact jset_b (by assumption) (by omega) | exact jset_l (by assumption) (by omega) | exact jset_l (fun _ _ => rfl) (by omega) | exact fun _ _ => rfl | exact l_trans (by assumption) (by assumption), show ∀ i, i < 248 → w5 i = y5 i from by first | assumption | omega | exact jset_b (by assumption) (by omega) | exact jset_l (by assumption) (by omega) | exact jset_l (fun _ _ => rfl) (by omega) | exact fun _ _ => rfl | exact l_trans (by assumption) (by assumption)⟩, ⟨by rw [ht]; exact hP9, va_K.moved hW.alike hK, hD9⟩⟩, hS.F ht⟩) hS.2.2 dXM_spans_90
        · refine lv_iload_n hx hb dXM_spans_19 rfl (lv_at hl 1 rfl) ?_
          refine ji_iconst hx hb dXM_spans_20 ?_
          refine lv_iload_n hx hb dXM_spans_21 rfl (lv_at hl 0 rfl) ?_
          refine lv_ishl hx hb dXM_spans_22 ?_
          refine ji_rev ?_
          have rb := jti32 (jI 1 <<< (jI e9 &&& 31))
          refine lv_ior hx hb dXM_spans_23 ?_
          refine ji_rev ?_
          have rb4 := jti32 (jI mks ||| jI ((jI 1 <<< (jI e9 &&& 31)).toInt))
          refine lv_istore_n (lv' := [(2, .int (jI ((jI mks ||| jI ((jI 1 <<< (jI e9 &&& 31)).toInt)).toInt))), (3, .int (jI e9)), (0, .ref ma), (1, .int (jI z1))]) hx hb dXM_spans_24 rfl hl (by decide) rfl (fun ls hl => ?_)
          refine ji_bipush hx hb dXM_spans_25 (by decide) ?_
          refine lv_iload_n hx hb dXM_spans_27 rfl (lv_at hl 3 rfl) ?_
          refine ji_imul hx hb dXM_spans_28 ?_
          refine lv_iload_n hx hb dXM_spans_29 rfl (lv_at hl 1 rfl) ?_
          refine ji_iadd hx hb dXM_spans_30 ?_
          refine lv_istore (lv' := [(4, .int (jI ((8 * z1) + e9))), (2, .int (jI ((jI mks ||| jI ((jI 1 <<< (jI e9 &&& 31)).toInt)).toInt))), (3, .int (jI e9)), (0, .ref ma), (1, .int (jI z1))]) hx hb dXM_spans_31 hl (by decide) rfl (fun ls hl => ?_)
          refine lv_aload_n hx hb dXM_spans_33 rfl (lv_at hl 3 rfl) ?_
          refine va_get (D := (dC, dI)) (ci := 5) (v := .ref a3) (C := RXM) (T := TXM) (N := 19) hx hb hts (fun w h => jmem (inXM w h)) hown hK hP 3 rfl rfl 7 (by decide) (hts _ (jmem tw_635)) (fun _ h9 => h9) rfl dXM_spans_34 ?_
          refine lv_iload hx hb dXM_spans_37 (lv_at hl 0 rfl) ?_
          refine ji_iconst hx hb dXM_spans_39 ?_
          refine ji_zast hx hb hK hP hD hS 0 1 rfl rfl (by first | decide | omega) ⟨by omega, by omega⟩ (by decide) dXM_spans_40 (fun H locs hP hD hS => ?_)
          have hP : va_P (dC, dI) vwCl [(a3, .inl (cZ, 496, .inl (jA (jset w3 ((8 * z1) + e9) 1)))), (a4, .inl (cA, 496, .inl (jA w4))), (a5, .inl (cA, 496, .inl (jA w5))), (ma, .inr (5, [.int (jI mth), .int (jI mn), .ref a0, .int (jI k), .int (jI w), .ref a1, .ref a2, .ref a3, .ref a4, .ref a5, .ref a6, .ref a7, .ref a8, .ref a9, .ref a10, .long (jL mu), .long (jL md), .int (jI mo), .ref a11])), (a0, .inl (cA, 400, .inl (jA y0)))] H := hP
          have hD : va_D A [(a3, .inl (cZ, 496, .inl (jA (jset w3 ((8 * z1) + e9) 1)))), (a4, .inl (cA, 496, .inl (jA w4))), (a5, .inl (cA, 496, .inl (jA w5))), (ma, .inr (5, [.int (jI mth), .int (jI mn), .ref a0, .int (jI k), .int (jI w), .ref a1, .ref a2, .ref a3, .ref a4, .ref a5, .ref a6, .ref a7, .ref a8, .ref a9, .ref a10, .long (jL mu), .long (jL md), .int (jI mo), .ref a11])), (a0, .inl (cA, 400, .inl (jA y0)))] := hD
          refine lv_aload_n hx hb dXM_spans_41 rfl (lv_at hl 3 rfl) ?_
          refine va_get (D := (dC, dI)) (ci := 5) (v := .ref a4) (C := RXM) (T := TXM) (N := 19) hx hb hts (fun w h => jmem (inXM w h)) hown hK hP 3 rfl rfl 8 (by decide) (hts _ (jmem tw_636)) (fun _ h9 => h9) rfl dXM_spans_42 ?_
          refine lv_iload hx hb dXM_spans_45 (lv_at hl 0 rfl) ?_
          refine lv_aload_n hx hb dXM_spans_47 rfl (lv_at hl 3 rfl) ?_
          refine ji_iconst hx hb dXM_spans_48 ?_
          refine lv_ldc hx hb hown (hts _ (jmem tw_754)) dXM_spans_49 ?_
          refine ji_re (y := 100000) (by decide) ?_
          refine jwVi (rest := [.int (jI ((8 * z1) + e9)), .ref a4]) (wr := [(a3, .inl (cZ, 496, .inl (jA (jset w3 ((8 * z1) + e9) 1)))), (a4, .inl (cA, 496, .inl (jA w4))), (a5, .inl (cA, 496, .inl (jA w5)))]) ⟨hx, hb, hml, hown, hts⟩ (c_XM_numberP l dC dI cA cZ _ ma a0 a1 a2 a3 a4 a5 a6 a7 a8 a9 a10 a11 mth mn k w mu md mo y0 0 100000 (by first | assumption | omega) (by first | assumption | omega) (by first | assumption | omega) (by first | assumption | omega) (by first | assumption | omega)) (cwV 2 hts (jG_V tw_726 tw_728 ts_20 tw_6 tw_729) rfl rfl rfl (by decide +kernel) (by rw [hR]; exact ⟨Nat.le_of_ble_eq_true rfl, Nat.le_of_ble_eq_true rfl⟩)) hK hP hD hS hA hN [3, 4] [0, 1, 2] rfl rfl (by decide) (by decide) (by decide) 3 5 rfl rfl rfl rfl hl.1 rfl (Nat.le_of_ble_eq_true rfl) dXM_spans_51 (by rw [hR]; exact ⟨Nat.le_of_ble_eq_true rfl, Nat.le_of_ble_eq_true rfl⟩) (fun v9 u8 H locs hwb10 hP hD hS => ?_)
          obtain ⟨r5, mp1'6, mw1'7⟩ := u8
          try dsimp only at hwb10
          obtain ⟨er, hwb10, f11, f12, f13, f14⟩ := hwb10
          subst er
          have f11 : 0 ≤ r5 ∧ r5 ≤ 100000 := f11
          have f12 : k ≤ mp1'6 ∧ mp1'6 ≤ mn := f12
          have f13 : -1 ≤ mw1'7 ∧ mw1'7 ≤ 400 ∧ w ≤ mw1'7 := f13
          have f14 : mw1'7 < 0 → k < mp1'6 := f14
          have hP : va_P (dC, dI) vwCl [(a3, .inl (cZ, 496, .inl (jA (jset w3 ((8 * z1) + e9) 1)))), (a4, .inl (cA, 496, .inl (jA w4))), (a5, .inl (cA, 496, .inl (jA w5))), (ma, .inr (5, [.int (jI mth), .int (jI mn), .ref a0, .int (jI mp1'6), .int (jI mw1'7), .ref a1, .ref a2, .ref a3, .ref a4, .ref a5, .ref a6, .ref a7, .ref a8, .ref a9, .ref a10, .long (jL mu), .long (jL md), .int (jI mo), .ref a11])), (a0, .inl (cA, 400, .inl (jA y0)))] H := hP
          have hD : va_D A [(a3, .inl (cZ, 496, .inl (jA (jset w3 ((8 * z1) + e9) 1)))), (a4, .inl (cA, 496, .inl (jA w4))), (a5, .inl (cA, 496, .inl (jA w5))), (ma, .inr (5, [.int (jI mth), .int (jI mn), .ref a0, .int (jI mp1'6), .int (jI mw1'7), .ref a1, .ref a2, .ref a3, .ref a4, .ref a5, .ref a6, .ref a7, .ref a8, .ref a9, .ref a10, .long (jL mu), .long (jL md), .int (jI mo), .ref a11])), (a0, .inl (cA, 400, .inl (jA y0)))] := hD
          refine ji_iast hx hb hK hP hD hS 1 0 rfl rfl ⟨by omega, by omega⟩ (by decide) dXM_spans_54 (fun H locs hP hD hS => ?_)
          have hP : va_P (dC, dI) vwCl [(a3, .inl (cZ, 496, .inl (jA (jset w3 ((8 * z1) + e9) 1)))), (a4, .inl (cA, 496, .inl (jA (jset w4 ((8 * z1) + e9) r5)))), (a5, .inl (cA, 496, .inl (jA w5))), (ma, .inr (5, [.int (jI mth), .int (jI mn), .ref a0, .int (jI mp1'6), .int (jI mw1'7), .ref a1, .ref a2, .ref a3, .ref a4, .ref a5, .ref a6, .ref a7, .ref a8, .ref a9, .ref a10, .long (jL mu), .long (jL md), .int (jI mo), .ref a11])), (a0, .inl (cA, 400, .inl (jA y0)))] H := hP
          have hD : va_D A [(a3, .inl (cZ, 496, .inl (jA (jset w3 ((8 * z1) + e9) 1)))), (a4, .inl (cA, 496, .inl (jA (jset w4 ((8 * z1) + e9) r5)))), (a5, .inl (cA, 496, .inl (jA w5))), (ma, .inr (5, [.int (jI mth), .int (jI mn), .ref a0, .int (jI mp1'6), .int (jI mw1'7), .ref a1, .ref a2, .ref a3, .ref a4, .ref a5, .ref a6, .ref a7, .ref a8, .ref a9, .ref a10, .long (jL mu), .long (jL md), .int (jI mo), .ref a11])), (a0, .inl (cA, 400, .inl (jA y0)))] := hD
          refine lv_aload_n hx hb dXM_spans_55 rfl (lv_at hl 3 rfl) ?_
          refine ji_bipush hx hb dXM_spans_56 (by decide) ?_
          refine jwVv (rest := []) (wr := [(a3, .inl (cZ, 496, .inl (jA (jset w3 ((8 * z1) + e9) 1)))), (a4, .inl (cA, 496, .inl (jA (jset w4 ((8 * z1) + e9) r5)))), (a5, .inl (cA, 496, .inl (jA w5)))]) ⟨hx, hb, hml, hown, hts⟩ (c_XM_takeP l dC dI cA cZ _ ma a0 a1 a2 a3 a4 a5 a6 a7 a8 a9 a10 a11 mth mn mp1'6 mw1'7 mu md mo y0 45 (by first | assumption | omega) (by first | assumption | omega) (by first | assumption | omega) (by first | assumption | omega) (by first | assumption | omega)) (cwV 1 hts (jG_V tw_738 tw_740 ts_23 tw_6 tw_741) rfl rfl rfl (by decide +kernel) (by rw [hR]; exact ⟨Nat.le_of_ble_eq_true rfl, Nat.le_of_ble_eq_true rfl⟩)) hK hP hD hS hA hN [3, 4] [0, 1, 2] rfl rfl (by decide) (by decide) (by decide) 3 5 rfl rfl rfl rfl hl.1 rfl (Nat.le_of_ble_eq_true rfl) dXM_spans_58 (by rw [hR]; exact ⟨Nat.le_of_ble_eq_true rfl, Nat.le_of_ble_eq_true rfl⟩) (fun u17 H locs hwb18 hP hD hS => ?_)
          obtain ⟨mp1'15, mw1'16⟩ := u17
          try dsimp only at hwb18
          obtain ⟨hwb18, f19, f20, f21⟩ := hwb18
          have f19 : mp1'6 ≤ mp1'15 ∧ mp1'15 ≤ mn := f19
          have f20 : -1 ≤ mw1'16 ∧ mw1'16 ≤ 400 ∧ mw1'7 ≤ mw1'16 := f20
          have f21 : mw1'16 < 0 → mp1'6 < mp1'15 := f21
          have hP : va_P (dC, dI) vwCl [(a3, .inl (cZ, 496, .inl (jA (jset w3 ((8 * z1) + e9) 1)))), (a4, .inl (cA, 496, .inl (jA (jset w4 ((8 * z1) + e9) r5)))), (a5, .inl (cA, 496, .inl (jA w5))), (ma, .inr (5, [.int (jI mth), .int (jI mn), .ref a0, .int (jI mp1'15), .int (jI mw1'16), .ref a1, .ref a2, .ref a3, .ref a4, .ref a5, .ref a6, .ref a7, .ref a8, .ref a9, .ref a10, .long (jL mu), .long (jL md), .int (jI mo), .ref a11])), (a0, .inl (cA, 400, .inl (jA y0)))] H := hP
          have hD : va_D A [(a3, .inl (cZ, 496, .inl (jA (jset w3 ((8 * z1) + e9) 1)))), (a4, .inl (cA, 496, .inl (jA (jset w4 ((8 * z1) + e9) r5)))), (a5, .inl (cA, 496, .inl (jA w5))), (ma, .inr (5, [.int (jI mth), .int (jI mn), .ref a0, .int (jI mp1'15), .int (jI mw1'16), .ref a1, .ref a2, .ref a3, .ref a4, .ref a5, .ref a6, .ref a7, .ref a8, .ref a9, .ref a10, .long (jL mu), .long (jL md), .int (jI mo), .ref a11])), (a0, .inl (cA, 400, .inl (jA y0)))] := hD
          refine lv_aload_n hx hb dXM_spans_61 rfl (lv_at hl 3 rfl) ?_
          refine va_get (D := (dC, dI)) (ci := 5) (v := .ref a5) (C := RXM) (T := TXM) (N := 19) hx hb hts (fun w h => jmem (inXM w h)) hown hK hP 3 rfl rfl 9 (by decide) (hts _ (jmem tw_637)) (fun _ h9 => h9) rfl dXM_spans_62 ?_
          refine lv_iload hx hb dXM_spans_65 (lv_at hl 0 rfl) ?_
          refine lv_aload_n hx hb dXM_spans_67 rfl (lv_at hl 3 rfl) ?_
          refine lv_aload_n hx hb dXM_spans_68 rfl (lv_at hl 3 rfl) ?_
          refine va_get (D := (dC, dI)) (ci := 5) (v := .ref a4) (C := RXM) (T := TXM) (N := 19) hx hb hts (fun w h => jmem (inXM w h)) hown hK hP 3 rfl rfl 8 (by decide) (hts _ (jmem tw_636)) (fun _ h9 => h9) rfl dXM_spans_69 ?_
          refine lv_iload hx hb dXM_spans_72 (lv_at hl 0 rfl) ?_
          refine ji_iald hx hb hK hP 1 0 rfl rfl ⟨by omega, by omega⟩ (by decide) dXM_spans_74 ?_
          have rb22 := hy4 ((8 * z1) + e9)
          have rb23 := (show ∀ i, 0 ≤ (jset w4 ((8 * z1) + e9) r5) i ∧ (jset w4 ((8 * z1) + e9) r5) i ≤ 100000 from jset_b hw4 (by omega)) ((8 * z1) + e9)
          refine lv_ldc hx hb hown (hts _ (jmem tw_754)) dXM_spans_75 ?_
          refine ji_re (y := 100000) (by decide) ?_
          refine jwVi (rest := [.int (jI ((8 * z1) + e9)), .ref a5]) (wr := [(a3, .inl (cZ, 496, .inl (jA (jset w3 ((8 * z1) + e9) 1)))), (a4, .inl (cA, 496, .inl (jA (jset w4 ((8 * z1) + e9) r5)))), (a5, .inl (cA, 496, .inl (jA w5)))]) ⟨hx, hb, hml, hown, hts⟩ (c_XM_numberP l dC dI cA cZ _ ma a0 a1 a2 a3 a4 a5 a6 a7 a8 a9 a10 a11 mth mn mp1'15 mw1'16 mu md mo y0 ((jset w4 ((8 * z1) + e9) r5) ((8 * z1) + e9)) 100000 (by first | assumption | omega) (by first | assumption | omega) (by first | assumption | omega) (by first | assumption | omega) (by first | assumption | omega)) (cwV 2 hts (jG_V tw_726 tw_728 ts_20 tw_6 tw_729) rfl rfl rfl (by decide +kernel) (by rw [hR]; exact ⟨Nat.le_of_ble_eq_true rfl, Nat.le_of_ble_eq_true rfl⟩)) hK hP hD hS hA hN [3, 4] [0, 1, 2] rfl rfl (by decide) (by decide) (by decide) 3 5 rfl rfl rfl rfl hl.1 rfl (Nat.le_of_ble_eq_true rfl) dXM_spans_77 (by rw [hR]; exact ⟨Nat.le_of_ble_eq_true rfl, Nat.le_of_ble_eq_true rfl⟩) (fun v28 u27 H locs hwb29 hP hD hS => ?_)
          obtain ⟨r24, mp1'25, mw1'26⟩ := u27
          try dsimp only at hwb29
          obtain ⟨er, hwb29, f30, f31, f32, f33⟩ := hwb29
          subst er
          have f30 : ((jset w4 ((8 * z1) + e9) r5) ((8 * z1) + e9)) ≤ r24 ∧ r24 ≤ 100000 := f30
          have f31 : mp1'15 ≤ mp1'25 ∧ mp1'25 ≤ mn := f31
          have f32 : -1 ≤ mw1'26 ∧ mw1'26 ≤ 400 ∧ mw1'16 ≤ mw1'26 := f32
          have f33 : mw1'26 < 0 → mp1'15 < mp1'25 := f33
          have hP : va_P (dC, dI) vwCl [(a3, .inl (cZ, 496, .inl (jA (jset w3 ((8 * z1) + e9) 1)))), (a4, .inl (cA, 496, .inl (jA (jset w4 ((8 * z1) + e9) r5)))), (a5, .inl (cA, 496, .inl (jA w5))), (ma, .inr (5, [.int (jI mth), .int (jI mn), .ref a0, .int (jI mp1'25), .int (jI mw1'26), .ref a1, .ref a2, .ref a3, .ref a4, .ref a5, .ref a6, .ref a7, .ref a8, .ref a9, .ref a10, .long (jL mu), .long (jL md), .int (jI mo), .ref a11])), (a0, .inl (cA, 400, .inl (jA y0)))] H := hP
          have hD : va_D A [(a3, .inl (cZ, 496, .inl (jA (jset w3 ((8 * z1) + e9) 1)))), (a4, .inl (cA, 496, .inl (jA (jset w4 ((8 * z1) + e9) r5)))), (a5, .inl (cA, 496, .inl (jA w5))), (ma, .inr (5, [.int (jI mth), .int (jI mn), .ref a0, .int (jI mp1'25), .int (jI mw1'26), .ref a1, .ref a2, .ref a3, .ref a4, .ref a5, .ref a6, .ref a7, .ref a8, .ref a9, .ref a10, .long (jL mu), .long (jL md), .int (jI mo), .ref a11])), (a0, .inl (cA, 400, .inl (jA y0)))] := hD
          refine ji_iast hx hb hK hP hD hS 2 0 rfl rfl ⟨by omega, by omega⟩ (by decide) dXM_spans_80 (fun H locs hP hD hS => ?_)
          have hP : va_P (dC, dI) vwCl [(a3, .inl (cZ, 496, .inl (jA (jset w3 ((8 * z1) + e9) 1)))), (a4, .inl (cA, 496, .inl (jA (jset w4 ((8 * z1) + e9) r5)))), (a5, .inl (cA, 496, .inl (jA (jset w5 ((8 * z1) + e9) r24)))), (ma, .inr (5, [.int (jI mth), .int (jI mn), .ref a0, .int (jI mp1'25), .int (jI mw1'26), .ref a1, .ref a2, .ref a3, .ref a4, .ref a5, .ref a6, .ref a7, .ref a8, .ref a9, .ref a10, .long (jL mu), .long (jL md), .int (jI mo), .ref a11])), (a0, .inl (cA, 400, .inl (jA y0)))] H := hP
          have hD : va_D A [(a3, .inl (cZ, 496, .inl (jA (jset w3 ((8 * z1) + e9) 1)))), (a4, .inl (cA, 496, .inl (jA (jset w4 ((8 * z1) + e9) r5)))), (a5, .inl (cA, 496, .inl (jA (jset w5 ((8 * z1) + e9) r24)))), (ma, .inr (5, [.int (jI mth), .int (jI mn), .ref a0, .int (jI mp1'25), .int (jI mw1'26), .ref a1, .ref a2, .ref a3, .ref a4, .ref a5, .ref a6, .ref a7, .ref a8, .ref a9, .ref a10, .long (jL mu), .long (jL md), .int (jI mo), .ref a11])), (a0, .inl (cA, 400, .inl (jA y0)))] := hD
          refine lv_aload_n hx hb dXM_spans_81 rfl (lv_at hl 3 rfl) ?_
          refine lv_iload_n hx hb dXM_spans_82 rfl (lv_at hl 1 rfl) ?_
          refine jwVi (rest := []) (wr := [(a3, .inl (cZ, 496, .inl (jA (jset w3 ((8 * z1) + e9) 1)))), (a4, .inl (cA, 496, .inl (jA (jset w4 ((8 * z1) + e9) r5)))), (a5, .inl (cA, 496, .inl (jA (jset w5 ((8 * z1) + e9) r24))))]) ⟨hx, hb, hml, hown, hts⟩ (c_XM_elementP l dC dI cA cZ _ ma a0 a1 a2 a3 a4 a5 a6 a7 a8 a9 a10 a11 mth mn mp1'25 mw1'26 mu md mo y0 ((jI mks ||| jI ((jI 1 <<< (jI e9 &&& 31)).toInt)).toInt) (by first | assumption | omega) (by first | assumption | omega) (by first | assumption | omega) (by first | assumption | omega) (by first | assumption | omega)) (cwV 1 hts (jG_V tw_742 tw_744 ts_24 tw_6 tw_745) rfl rfl rfl (by decide +kernel) (by rw [hR]; exact ⟨Nat.le_of_ble_eq_true rfl, Nat.le_of_ble_eq_true rfl⟩)) hK hP hD hS hA hN [3, 4] [0, 1, 2] rfl rfl (by decide) (by decide) (by decide) 3 5 rfl rfl rfl rfl hl.1 rfl (Nat.le_of_ble_eq_true rfl) dXM_spans_83 (by rw [hR]; exact ⟨Nat.le_of_ble_eq_true rfl, Nat.le_of_ble_eq_true rfl⟩) (fun v38 u37 H locs hwb39 hP hD hS => ?_)
          obtain ⟨r34, mp1'35, mw1'36⟩ := u37
          try dsimp only at hwb39
          obtain ⟨er, hwb39, f40, f41, f42, f43⟩ := hwb39
          subst er
          have f40 : -1 ≤ r34 ∧ r34 ≤ 7 := f40
          have f41 : mp1'25 ≤ mp1'35 ∧ mp1'35 ≤ mn := f41
          have f42 : -1 ≤ mw1'36 ∧ mw1'36 ≤ 400 ∧ mw1'26 ≤ mw1'36 := f42
          have f43 : 0 ≤ r34 → mp1'25 < mp1'35 := f43
          have hP : va_P (dC, dI) vwCl [(a3, .inl (cZ, 496, .inl (jA (jset w3 ((8 * z1) + e9) 1)))), (a4, .inl (cA, 496, .inl (jA (jset w4 ((8 * z1) + e9) r5)))), (a5, .inl (cA, 496, .inl (jA (jset w5 ((8 * z1) + e9) r24)))), (ma, .inr (5, [.int (jI mth), .int (jI mn), .ref a0, .int (jI mp1'35), .int (jI mw1'36), .ref a1, .ref a2, .ref a3, .ref a4, .ref a5, .ref a6, .ref a7, .ref a8, .ref a9, .ref a10, .long (jL mu), .long (jL md), .int (jI mo), .ref a11])), (a0, .inl (cA, 400, .inl (jA y0)))] H := hP
          have hD : va_D A [(a3, .inl (cZ, 496, .inl (jA (jset w3 ((8 * z1) + e9) 1)))), (a4, .inl (cA, 496, .inl (jA (jset w4 ((8 * z1) + e9) r5)))), (a5, .inl (cA, 496, .inl (jA (jset w5 ((8 * z1) + e9) r24)))), (ma, .inr (5, [.int (jI mth), .int (jI mn), .ref a0, .int (jI mp1'35), .int (jI mw1'36), .ref a1, .ref a2, .ref a3, .ref a4, .ref a5, .ref a6, .ref a7, .ref a8, .ref a9, .ref a10, .long (jL mu), .long (jL md), .int (jI mo), .ref a11])), (a0, .inl (cA, 400, .inl (jA y0)))] := hD
          refine lv_istore_n (lv' := [(3, .int (jI r34)), (4, .int (jI ((8 * z1) + e9))), (2, .int (jI ((jI mks ||| jI ((jI 1 <<< (jI e9 &&& 31)).toInt)).toInt))), (0, .ref ma), (1, .int (jI z1))]) hx hb dXM_spans_86 rfl hl (by decide) rfl (fun ls hl => ?_)
          refine lv_goto (tgt := 8) hx hb dXM_spans_87 (by decide) ?_
          exact ih8 ((jI mks ||| jI ((jI 1 <<< (jI e9 &&& 31)).toInt)).toInt) r34 mp1'35 mw1'36 (jset w3 ((8 * z1) + e9) 1) (jset w4 ((8 * z1) + e9) r5) (jset w5 ((8 * z1) + e9) r24) (by omega) (Eq.trans (by rw [f_XM_spansP_L8_s]; rw [if_neg (Int.not_lt.mpr c9_), if_pos c16_]; rw [← hwb10]; try dsimp only; rw [← hwb18]; try dsimp only; rw [← hwb29]; try dsimp only; rw [← hwb39]; try dsimp only; try rfl) hF) (by first | assumption | omega | exact jset_b (by assumption) (by omega) | exact jset_l (by assumption) (by omega) | exact jset_l (fun _ _ => rfl) (by omega) | exact fun _ _ => rfl | exact l_trans (by assumption) (by assumption)) (by first | assumption | omega | exact jset_b (by assumption) (by omega) | exact jset_l (by assumption) (by omega) | exact jset_l (fun _ _ => rfl) (by omega) | exact fun _ _ => rfl | exact l_trans (by assumption) (by assumption)) (by first | assumption | omega | exact jset_b (by assumption) (by omega) | exact jset_l (by assumption) (by omega) | exact jset_l (fun _ _ => rfl) (by omega) | exact fun _ _ => rfl | exact l_trans (by assumption) (by assumption)) (by first | assumption | omega | exact jset_b (by assumption) (by omega) | exact jset_l (by assumption) (by omega) | exact jset_l (fun _ _ => rfl) (by omega) | exact fun _ _ => rfl | exact l_trans (by assumption) (by assumption)) (by first | assumption | omega | exact jset_b (by assumption) (by omega) | exact jset_l (by assumption) (by omega) | exact jset_l (fun _ _ => rfl) (by omega) | exact fun _ _ => rfl | exact l_trans (by assumption) (by assumption)) (by first | assumption | omega | exact jset_b (by assumption) (by omega) | exact jset_l (by assumption) (by omega) | exact jset_l (fun _ _ => rfl) (by omega) | exact fun _ _ => rfl | exact l_trans (by assumption) (by assumption)) (by first | assumption | omega | exact jset_b (by assumption) (by omega) | exact jset_l (by assumption) (by omega) | exact jset_l (fun _ _ => rfl) (by omega) | exact fun _ _ => rfl | exact l_trans (by assumption) (by assumption)) (by first | assumption | omega | exact jset_b (by assumption) (by omega) | exact jset_l (by assumption) (by omega) | exact jset_l (fun _ _ => rfl) (by omega) | exact fun _ _ => rfl | exact l_trans (by assumption) (by assumption)) (by first | assumption | omega | exact jset_b (by assumption) (by omega) | exact jset_l (by assumption) (by omega) | exact jset_l (fun _ _ => rfl) (by omega) | exact fun _ _ => rfl | exact l_trans (by assumption) (by assumption)) (by first | assumption | omega | exact jset_b (by assumption) (by omega) | exact jset_l (by assumption) (by omega) | exact jset_l (fun _ _ => rfl) (by omega) | exact fun _ _ => rfl | exact l_trans (by assumption) (by assumption)) _ _ hP hD hS ls (lv_sub hl [0, 2, 3, 4] rfl)
  exact loop8 (Int.toNat (mn - mp1' - mw1' + 400) + 1) 0 r mp1' mw1' y3 y4 y5 (by omega) (Eq.trans (by rw [f_XM_spansP_s]; rw [← hwb]; try dsimp only; try rfl) rfl) (by first | assumption | omega | exact jset_b (by assumption) (by omega) | exact jset_l (by assumption) (by omega) | exact jset_l (fun _ _ => rfl) (by omega) | exact fun _ _ => rfl | exact l_trans (by assumption) (by assumption)) (by first | assumption | omega | exact jset_b (by assumption) (by omega) | exact jset_l (by assumption) (by omega) | exact jset_l (fun _ _ => rfl) (by omega) | exact fun _ _ => rfl | exact l_trans (by assumption) (by assumption)) (by first | assumption | omega | exact jset_b (by assumption) (by omega) | exact jset_l (by assumption) (by omega) | exact jset_l (fun _ _ => rfl) (by omega) | exact fun _ _ => rfl | exact l_trans (by assumption) (by assumption)) (by first | assumption | omega | exact jset_b (by assumption) (by omega) | exact jset_l (by assumption) (by omega) | exact jset_l (fun _ _ => rfl) (by omega) | exact fun _ _ => rfl | exact l_trans (by assumption) (by assumption)) (by first | assumption | omega | exact jset_b (by assumption) (by omega) | exact jset_l (by assumption) (by omega) | exact jset_l (fun _ _ => rfl) (by omega) | exact fun _ _ => rfl | exact l_trans (by assumption) (by assumption)) (by first | assumption | omega | exact jset_b (by assumption) (by omega) | exact jset_l (by assumption) (by omega) | exact jset_l (fun _ _ => rfl) (by omega) | exact fun _ _ => rfl | exact l_trans (by assumption) (by assumption)) (by first | assumption | omega | exact jset_b (by assumption) (by omega) | exact jset_l (by assumption) (by omega) | exact jset_l (fun _ _ => rfl) (by omega) | exact fun _ _ => rfl | exact l_trans (by assumption) (by assumption)) (by first | assumption | omega | exact jset_b (by assumption) (by omega) | exact jset_l (by assumption) (by omega) | exact jset_l (fun _ _ => rfl) (by omega) | exact fun _ _ => rfl | exact l_trans (by assumption) (by assumption)) (by first | assumption | omega | exact jset_b (by assumption) (by omega) | exact jset_l (by assumption) (by omega) | exact jset_l (fun _ _ => rfl) (by omega) | exact fun _ _ => rfl | exact l_trans (by assumption) (by assumption)) (by first | assumption | omega | exact jset_b (by assumption) (by omega) | exact jset_l (by assumption) (by omega) | exact jset_l (fun _ _ => rfl) (by omega) | exact fun _ _ => rfl | exact l_trans (by assumption) (by assumption)) _ _ hP hD hS ls (lv_sub hl [0, 1, 2, 3] rfl)
noncomputable def g_XM_routeRowP_L9 (mth : Int) (mn : Int) (mp : Int) (mw : Int) (mu : Int) (md : Int) (mo : Int) (y0 : Int → Int) : Nat → Int → Int → Int → Int → Int → Int → Int × Int × Int
  | 0, _, _, _, _, _, _ => (0, 0, 0)
  | n9 + 1, bt9, la, n9r, mo9, k, w =>
    if mo9 = 0 then
      (bt9, k, w)
    else
      if w < 0 then
        match f_XM_seeP mth mn k w mu md mo y0 with
        | (r, mp1') =>
          if (f_XM_in ((f_XM_here mth mn mp1' w mu md mo y0) - 48) 0 7) = 0 then
            if (f_XM_failP mth mn mp1' w mu md mo mp1') < 0 then
              match f_XM_seeP mth mn (mp1' + 1) (f_XM_failP mth mn mp1' w mu md mo mp1') mu md mo y0 with
              | (r9, mp1'10) =>
                g_XM_routeRowP_L9 mth mn mp mw mu md mo y0 n9 ((jI bt9 ||| jI ((jI 1 <<< (jI ((f_XM_here mth mn mp1' w mu md mo y0) - 48) &&& 31)).toInt)).toInt) ((f_XM_here mth mn mp1' w mu md mo y0) - 48) (n9r + 1) (f_XM_isDigit mth mn mp1'10 (f_XM_failP mth mn mp1' w mu md mo mp1') mu md mo y0) mp1'10 (f_XM_failP mth mn mp1' w mu md mo mp1')
            else
              (bt9, mp1', f_XM_failP mth mn mp1' w mu md mo mp1')
          else
            if la < ((f_XM_here mth mn mp1' w mu md mo y0) - 48) then
              if n9r = 4 then
                if (f_XM_failP mth mn mp1' w mu md mo mp1') < 0 then
                  match f_XM_seeP mth mn (mp1' + 1) (f_XM_failP mth mn mp1' w mu md mo mp1') mu md mo y0 with
                  | (r49, mp1'50) =>
                    g_XM_routeRowP_L9 mth mn mp mw mu md mo y0 n9 ((jI bt9 ||| jI ((jI 1 <<< (jI ((f_XM_here mth mn mp1' w mu md mo y0) - 48) &&& 31)).toInt)).toInt) ((f_XM_here mth mn mp1' w mu md mo y0) - 48) (n9r + 1) (f_XM_isDigit mth mn mp1'50 (f_XM_failP mth mn mp1' w mu md mo mp1') mu md mo y0) mp1'50 (f_XM_failP mth mn mp1' w mu md mo mp1')
                else
                  (bt9, mp1', f_XM_failP mth mn mp1' w mu md mo mp1')
              else
                if w < 0 then
                  match f_XM_seeP mth mn (mp1' + 1) w mu md mo y0 with
                  | (r35, mp1'36) =>
                    g_XM_routeRowP_L9 mth mn mp mw mu md mo y0 n9 ((jI bt9 ||| jI ((jI 1 <<< (jI ((f_XM_here mth mn mp1' w mu md mo y0) - 48) &&& 31)).toInt)).toInt) ((f_XM_here mth mn mp1' w mu md mo y0) - 48) (n9r + 1) (f_XM_isDigit mth mn mp1'36 w mu md mo y0) mp1'36 w
                else
                  (bt9, mp1', w)
            else
              if (f_XM_failP mth mn mp1' w mu md mo mp1') < 0 then
                match f_XM_seeP mth mn (mp1' + 1) (f_XM_failP mth mn mp1' w mu md mo mp1') mu md mo y0 with
                | (r23, mp1'24) =>
                  g_XM_routeRowP_L9 mth mn mp mw mu md mo y0 n9 ((jI bt9 ||| jI ((jI 1 <<< (jI ((f_XM_here mth mn mp1' w mu md mo y0) - 48) &&& 31)).toInt)).toInt) ((f_XM_here mth mn mp1' w mu md mo y0) - 48) (n9r + 1) (f_XM_isDigit mth mn mp1'24 (f_XM_failP mth mn mp1' w mu md mo mp1') mu md mo y0) mp1'24 (f_XM_failP mth mn mp1' w mu md mo mp1')
              else
                (bt9, mp1', f_XM_failP mth mn mp1' w mu md mo mp1')
      else
        (bt9, k, w)
noncomputable def f_XM_routeRowP_L9 : Int → Int → Int → Int → Int → Int → Int → (Int → Int) → Nat → Int → Int → Int → Int → Int → Int → Int × Int × Int := jopq g_XM_routeRowP_L9
theorem f_XM_routeRowP_L9_q : f_XM_routeRowP_L9 = g_XM_routeRowP_L9 := jopq_eq _
theorem f_XM_routeRowP_L9_s (mth : Int) (mn : Int) (mp : Int) (mw : Int) (mu : Int) (md : Int) (mo : Int) (y0 : Int → Int) (n9 : Nat) (bt9 : Int) (la : Int) (n9r : Int) (mo9 : Int) (k : Int) (w : Int) : f_XM_routeRowP_L9 mth mn mp mw mu md mo y0 (n9 + 1) bt9 la n9r mo9 k w = (
    if mo9 = 0 then
      (bt9, k, w)
    else
      if w < 0 then
        match f_XM_seeP mth mn k w mu md mo y0 with
        | (r, mp1') =>
          if (f_XM_in ((f_XM_here mth mn mp1' w mu md mo y0) - 48) 0 7) = 0 then
            if (f_XM_failP mth mn mp1' w mu md mo mp1') < 0 then
              match f_XM_seeP mth mn (mp1' + 1) (f_XM_failP mth mn mp1' w mu md mo mp1') mu md mo y0 with
              | (r9, mp1'10) =>
                f_XM_routeRowP_L9 mth mn mp mw mu md mo y0 n9 ((jI bt9 ||| jI ((jI 1 <<< (jI ((f_XM_here mth mn mp1' w mu md mo y0) - 48) &&& 31)).toInt)).toInt) ((f_XM_here mth mn mp1' w mu md mo y0) - 48) (n9r + 1) (f_XM_isDigit mth mn mp1'10 (f_XM_failP mth mn mp1' w mu md mo mp1') mu md mo y0) mp1'10 (f_XM_failP mth mn mp1' w mu md mo mp1')
            else
              (bt9, mp1', f_XM_failP mth mn mp1' w mu md mo mp1')
          else
            if la < ((f_XM_here mth mn mp1' w mu md mo y0) - 48) then
              if n9r = 4 then
                if (f_XM_failP mth mn mp1' w mu md mo mp1') < 0 then
                  match f_XM_seeP mth mn (mp1' + 1) (f_XM_failP mth mn mp1' w mu md mo mp1') mu md mo y0 with
                  | (r49, mp1'50) =>
                    f_XM_routeRowP_L9 mth mn mp mw mu md mo y0 n9 ((jI bt9 ||| jI ((jI 1 <<< (jI ((f_XM_here mth mn mp1' w mu md mo y0) - 48) &&& 31)).toInt)).toInt) ((f_XM_here mth mn mp1' w mu md mo y0) - 48) (n9r + 1) (f_XM_isDigit mth mn mp1'50 (f_XM_failP mth mn mp1' w mu md mo mp1') mu md mo y0) mp1'50 (f_XM_failP mth mn mp1' w mu md mo mp1')
                else
                  (bt9, mp1', f_XM_failP mth mn mp1' w mu md mo mp1')
              else
                if w < 0 then
                  match f_XM_seeP mth mn (mp1' + 1) w mu md mo y0 with
                  | (r35, mp1'36) =>
                    f_XM_routeRowP_L9 mth mn mp mw mu md mo y0 n9 ((jI bt9 ||| jI ((jI 1 <<< (jI ((f_XM_here mth mn mp1' w mu md mo y0) - 48) &&& 31)).toInt)).toInt) ((f_XM_here mth mn mp1' w mu md mo y0) - 48) (n9r + 1) (f_XM_isDigit mth mn mp1'36 w mu md mo y0) mp1'36 w
                else
                  (bt9, mp1', w)
            else
              if (f_XM_failP mth mn mp1' w mu md mo mp1') < 0 then
                match f_XM_seeP mth mn (mp1' + 1) (f_XM_failP mth mn mp1' w mu md mo mp1') mu md mo y0 with
                | (r23, mp1'24) =>
                  f_XM_routeRowP_L9 mth mn mp mw mu md mo y0 n9 ((jI bt9 ||| jI ((jI 1 <<< (jI ((f_XM_here mth mn mp1' w mu md mo y0) - 48) &&& 31)).toInt)).toInt) ((f_XM_here mth mn mp1' w mu md mo y0) - 48) (n9r + 1) (f_XM_isDigit mth mn mp1'24 (f_XM_failP mth mn mp1' w mu md mo mp1') mu md mo y0) mp1'24 (f_XM_failP mth mn mp1' w mu md mo mp1')
              else
                (bt9, mp1', f_XM_failP mth mn mp1' w mu md mo mp1')
      else
        (bt9, k, w)
  : Int × Int × Int) := by rw [f_XM_routeRowP_L9_q]; rfl
theorem f_XM_routeRowP_L9_z (mth : Int) (mn : Int) (mp : Int) (mw : Int) (mu : Int) (md : Int) (mo : Int) (y0 : Int → Int) (bt9 : Int) (la : Int) (n9r : Int) (mo9 : Int) (k : Int) (w : Int) : f_XM_routeRowP_L9 mth mn mp mw mu md mo y0 0 bt9 la n9r mo9 k w = (0, 0, 0) := by rw [f_XM_routeRowP_L9_q]; rfl
noncomputable def g_XM_routeRowP (mth : Int) (mn : Int) (mp : Int) (mw : Int) (mu : Int) (md : Int) (mo : Int) (y0 : Int → Int) : Int × Int × Int :=
  f_XM_routeRowP_L9 mth mn mp mw mu md mo y0 (Int.toNat (mn - mp) + 1) 0 (-1) 0 1 mp mw
noncomputable def f_XM_routeRowP : Int → Int → Int → Int → Int → Int → Int → (Int → Int) → Int × Int × Int := jopq g_XM_routeRowP
theorem f_XM_routeRowP_q : f_XM_routeRowP = g_XM_routeRowP := jopq_eq _
theorem f_XM_routeRowP_s (mth : Int) (mn : Int) (mp : Int) (mw : Int) (mu : Int) (md : Int) (mo : Int) (y0 : Int → Int) : f_XM_routeRowP mth mn mp mw mu md mo y0 = (
    f_XM_routeRowP_L9 mth mn mp mw mu md mo y0 (Int.toNat (mn - mp) + 1) 0 (-1) 0 1 mp mw
  : Int × Int × Int) := by rw [f_XM_routeRowP_q]; rfl
set_option maxHeartbeats 4000000 in
set_option maxRecDepth 100000 in
theorem c_XM_routeRowP (l : Launch) (dC : Nat → ClassId) (dI : Nat → Nat → Nat) (cA cZ : ClassId) (sz : Nat) (ma : Nat) (a0 : Nat) (a1 : Nat) (a2 : Nat) (a3 : Nat) (a4 : Nat) (a5 : Nat) (a6 : Nat) (a7 : Nat) (a8 : Nat) (a9 : Nat) (a10 : Nat) (a11 : Nat) (mth : Int) (mn : Int) (mp : Int) (mw : Int) (mu : Int) (md : Int) (mo : Int) (y0 : Int → Int) (hy0 : ∀ i, 0 ≤ y0 i ∧ y0 i ≤ 255) (hmn : 0 ≤ mn ∧ mn ≤ 400) (hmp : 0 ≤ mp ∧ mp ≤ mn) (hmw : -1 ≤ mw ∧ mw ≤ 400) : Met l yXM_routeRow (Cond.code yXM_routeRow cXM_routeRow 6 (some .int) :: TBL) ({ frames := 2, cells := 0, slots := 0, locals := 42 } : Room) (va_Pc [.ref ma] (jBw (dC, dI) [(cA, .int), (cZ, .boolean)] [(ma, .inr (5, [.int (jI mth), .int (jI mn), .ref a0, .int (jI mp), .int (jI mw), .ref a1, .ref a2, .ref a3, .ref a4, .ref a5, .ref a6, .ref a7, .ref a8, .ref a9, .ref a10, .long (jL mu), .long (jL md), .int (jI mo), .ref a11])), (a0, .inl (cA, 400, .inl (jA y0)))] sz)) (va_Qi (fun (r : Int32) (u : Int × Int × Int) => r = jI u.1 ∧ u = f_XM_routeRowP mth mn mp mw mu md mo y0 ∧ (i32 u.1) ∧ (mp ≤ u.2.1 ∧ u.2.1 ≤ mn) ∧ (-1 ≤ u.2.2 ∧ u.2.2 ≤ 400 ∧ mw ≤ u.2.2)) (fun u t => jE (dC, dI) [(cA, .int), (cZ, .boolean)] [(ma, .inr (5, [.int (jI mth), .int (jI mn), .ref a0, .int (jI mp), .int (jI mw), .ref a1, .ref a2, .ref a3, .ref a4, .ref a5, .ref a6, .ref a7, .ref a8, .ref a9, .ref a10, .long (jL mu), .long (jL md), .int (jI mo), .ref a11])), (a0, .inl (cA, 400, .inl (jA y0)))] sz [(ma, .inr (5, [.int (jI mth), .int (jI mn), .ref a0, .int (jI u.2.1), .int (jI u.2.2), .ref a1, .ref a2, .ref a3, .ref a4, .ref a5, .ref a6, .ref a7, .ref a8, .ref a9, .ref a10, .long (jL mu), .long (jL md), .int (jI mo), .ref a11])), (a0, .inl (cA, 400, .inl (jA y0)))] t) (va_A [(ma, .inr (5, [.int (jI mth), .int (jI mn), .ref a0, .int (jI mp), .int (jI mw), .ref a1, .ref a2, .ref a3, .ref a4, .ref a5, .ref a6, .ref a7, .ref a8, .ref a9, .ref a10, .long (jL mu), .long (jL md), .int (jI mo), .ref a11])), (a0, .inl (cA, 400, .inl (jA y0)))] sz)) 0 0 (va_A [(ma, .inr (5, [.int (jI mth), .int (jI mn), .ref a0, .int (jI mp), .int (jI mw), .ref a1, .ref a2, .ref a3, .ref a4, .ref a5, .ref a6, .ref a7, .ref a8, .ref a9, .ref a10, .long (jL mu), .long (jL md), .int (jI mo), .ref a11])), (a0, .inl (cA, 400, .inl (jA y0)))] sz) := by
  refine jMet (cc := cXM_routeRow) (maxL := 6) (ret := some .int) (by decide) rfl ?_
  intro p e s m args below meth c s₁ R Q hR hQ B hml hv
  obtain ⟨rfl, hsz, hP, hK, hD0, hN⟩ := hv
  have hx := B.exec
  have hb := B.bytes
  have hr := B.returns
  have hts := atoms_spec (ws := Cond.code yXM_routeRow cXM_routeRow 6 (some .int) :: TBL) B.pre
  have hown : s.vm.findClass RXM = some m.cls := findClass_of_methodNamed B.named
  have hlocks := B.notSynchronized
  subst hsz
  obtain ⟨A, hAe⟩ : ∃ A, A = va_A [(ma, .inr (5, [.int (jI mth), .int (jI mn), .ref a0, .int (jI mp), .int (jI mw), .ref a1, .ref a2, .ref a3, .ref a4, .ref a5, .ref a6, .ref a7, .ref a8, .ref a9, .ref a10, .long (jL mu), .long (jL md), .int (jI mo), .ref a11])), (a0, .inl (cA, 400, .inl (jA y0)))] s.heap.size := ⟨_, rfl⟩
  have hD : va_D A [(ma, .inr (5, [.int (jI mth), .int (jI mn), .ref a0, .int (jI mp), .int (jI mw), .ref a1, .ref a2, .ref a3, .ref a4, .ref a5, .ref a6, .ref a7, .ref a8, .ref a9, .ref a10, .long (jL mu), .long (jL md), .int (jI mo), .ref a11])), (a0, .inl (cA, 400, .inl (jA y0)))] := by rw [hAe]; exact hD0.self
  have hA : ∀ q : Nat, s.heap.size ≤ q → A q := fun q h => by rw [hAe]; exact Or.inr h
  have hS : va_S A s.heap s.heap [] := va_S.rf
  have hP : va_P (dC, dI) vwCl [(ma, .inr (5, [.int (jI mth), .int (jI mn), .ref a0, .int (jI mp), .int (jI mw), .ref a1, .ref a2, .ref a3, .ref a4, .ref a5, .ref a6, .ref a7, .ref a8, .ref a9, .ref a10, .long (jL mu), .long (jL md), .int (jI mo), .ref a11])), (a0, .inl (cA, 400, .inl (jA y0)))] s.heap := hP
  have hl := lv_entry ([.ref ma]) (n := 6) (Nat.le_of_ble_eq_true rfl)
  rw [lg_entry_eq]
  generalize (lg_sl ([.ref ma]) ++ List.replicate (6 - (lg_sl ([.ref ma])).length) Slot.unset).toArray = ls at hl ⊢
  have hl : lv_has ls 6 [(0, .ref ma)] := hl
  refine ji_iconst hx hb dXM_routeRow_0 ?_
  refine lv_istore_n (lv' := [(1, .int (jI 0)), (0, .ref ma)]) hx hb dXM_routeRow_1 rfl hl (by decide) rfl (fun ls hl => ?_)
  refine ji_iconst hx hb dXM_routeRow_2 ?_
  refine lv_istore_n (lv' := [(2, .int (jI (-1))), (1, .int (jI 0)), (0, .ref ma)]) hx hb dXM_routeRow_3 rfl hl (by decide) rfl (fun ls hl => ?_)
  refine ji_iconst hx hb dXM_routeRow_4 ?_
  refine lv_istore_n (lv' := [(3, .int (jI 0)), (2, .int (jI (-1))), (1, .int (jI 0)), (0, .ref ma)]) hx hb dXM_routeRow_5 rfl hl (by decide) rfl (fun ls hl => ?_)
  refine ji_iconst hx hb dXM_routeRow_6 ?_
  refine lv_istore (lv' := [(4, .int (jI 1)), (3, .int (jI 0)), (2, .int (jI (-1))), (1, .int (jI 0)), (0, .ref ma)]) hx hb dXM_routeRow_7 hl (by decide) rfl (fun ls hl => ?_)
  have loop9 : ∀ (n9 : Nat) (bt9 : Int) (la : Int) (n9r : Int) (mo9 : Int) (k : Int) (w : Int) , mn - k < (n9 : Int) → f_XM_routeRowP_L9 mth mn mp mw mu md mo y0 n9 bt9 la n9r mo9 k w = f_XM_routeRowP mth mn mp mw mu md mo y0 → (i32 bt9) → (-1 ≤ la ∧ la ≤ 7) → (0 ≤ n9r ∧ n9r ≤ 4) → (0 ≤ mo9 ∧ mo9 ≤ 1) → (mp ≤ k ∧ k ≤ mn) → (-1 ≤ w ∧ w ≤ 400 ∧ mw ≤ w) → ∀ (H : Heap) (locs : List Loc), va_P (dC, dI) vwCl [(ma, .inr (5, [.int (jI mth), .int (jI mn), .ref a0, .int (jI k), .int (jI w), .ref a1, .ref a2, .ref a3, .ref a4, .ref a5, .ref a6, .ref a7, .ref a8, .ref a9, .ref a10, .long (jL mu), .long (jL md), .int (jI mo), .ref a11])), (a0, .inl (cA, 400, .inl (jA y0)))] H → va_D A [(ma, .inr (5, [.int (jI mth), .int (jI mn), .ref a0, .int (jI k), .int (jI w), .ref a1, .ref a2, .ref a3, .ref a4, .ref a5, .ref a6, .ref a7, .ref a8, .ref a9, .ref a10, .long (jL mu), .long (jL md), .int (jI mo), .ref a11])), (a0, .inl (cA, 400, .inl (jA y0)))] → va_S A s.heap H locs → ∀ ls : Array Slot, lv_has ls 6 [(4, .int (jI mo9)), (3, .int (jI n9r)), (2, .int (jI la)), (1, .int (jI bt9)), (0, .ref ma)] → W p l e R s m ([.ref ma] : List Value).toArray below meth c H locs 0 0 Q (F0 m 9 ls []) := by
    intro n9
    induction n9 with
    | zero =>
      intro bt9 la n9r mo9 k w hm hF hbt hla hn9 hmo9 hk hw
      exact absurd hm (by omega)
    | succ n9 ih9 =>
      intro bt9 la n9r mo9 k w hm hF hbt hla hn9 hmo9 hk hw H locs hP hD hS ls hl
      refine lv_iload hx hb dXM_routeRow_9 (lv_at hl 0 rfl) ?_
      refine ji_if_eq (tgt := 111) hx hb dXM_routeRow_11 (by decide) (by omega) (fun c11_ => ?_) (fun c11_ => ?_)
      · refine lv_iload_n hx hb dXM_routeRow_111 rfl (lv_at hl 3 rfl) ?_
        have hP9 := hP.sub (ws' := [(ma, .inr (5, [.int (jI mth), .int (jI mn), .ref a0, .int (jI k), .int (jI w), .ref a1, .ref a2, .ref a3, .ref a4, .ref a5, .ref a6, .ref a7, .ref a8, .ref a9, .ref a10, .long (jL mu), .long (jL md), .int (jI mo), .ref a11])), (a0, .inl (cA, 400, .inl (jA y0)))]) [0, 1] rfl
        have hD9 := hD.sub (ws' := [(ma, .inr (5, [.int (jI mth), .int (jI mn), .ref a0, .int (jI k), .int (jI w), .ref a1, .ref a2, .ref a3, .ref a4, .ref a5, .ref a6, .ref a7, .ref a8, .ref a9, .ref a10, .long (jL mu), .long (jL md), .int (jI mo), .ref a11])), (a0, .inl (cA, 400, .inl (jA y0)))]) [0, 1] (by decide) rfl
        subst hAe
        subst hQ
        exact W.iret (v := jI bt9) hx hb hr (fun t ht hW => ⟨⟨_, (bt9, k, w), rfl, ⟨rfl, Eq.trans (by rw [f_XM_routeRowP_L9_s]; rw [if_pos c11_]; try rfl) hF, show i32 bt9 from by first | assumption | omega | exact jset_b (by assumption) (by omega) | exact jset_l (by assumption) (by omega) | exact jset_l (fun _ _ => rfl) (by omega) | exact fun _ _ => rfl | exact l_trans (by assumption) (by assumption), show mp ≤ k ∧ k ≤ mn from by first | assumption | omega | exact jset_b (by assumption) (by omega) | exact jset_l (by assumption) (by omega) | exact jset_l (fun _ _ => rfl) (by omega) | exact fun _ _ => rfl | exact l_trans (by assumption) (by assumption), show -1 ≤ w ∧ w ≤ 400 ∧ mw ≤ w from by first | assumption | omega | exact jset_b (by assumption) (by omega) | exact jset_l (by assumption) (by omega) | exact jset_l (fun _ _ => rfl) (by omega) | exact fun _ _ => rfl | exact l_trans (by assumption) (by assumption)⟩, ⟨by rw [ht]; exact hP9, va_K.moved hW.alike hK, hD9⟩⟩, hS.F ht⟩) hS.2.2 dXM_routeRow_112
      · refine lv_aload_n hx hb dXM_routeRow_14 rfl (lv_at hl 4 rfl) ?_
        refine va_get (D := (dC, dI)) (ci := 5) (v := .int (jI w)) (C := RXM) (T := TXM) (N := 19) hx hb hts (fun w h => jmem (inXM w h)) hown hK hP 0 rfl rfl 4 (by decide) (hts _ (jmem tw_632)) (fun _ h9 => h9) rfl dXM_routeRow_15 ?_
        refine ji_if_ge (tgt := 111) hx hb dXM_routeRow_18 (by decide) (by omega) (fun c18_ => ?_) (fun c18_ => ?_)
        · refine lv_iload_n hx hb dXM_routeRow_111 rfl (lv_at hl 3 rfl) ?_
          have hP9 := hP.sub (ws' := [(ma, .inr (5, [.int (jI mth), .int (jI mn), .ref a0, .int (jI k), .int (jI w), .ref a1, .ref a2, .ref a3, .ref a4, .ref a5, .ref a6, .ref a7, .ref a8, .ref a9, .ref a10, .long (jL mu), .long (jL md), .int (jI mo), .ref a11])), (a0, .inl (cA, 400, .inl (jA y0)))]) [0, 1] rfl
          have hD9 := hD.sub (ws' := [(ma, .inr (5, [.int (jI mth), .int (jI mn), .ref a0, .int (jI k), .int (jI w), .ref a1, .ref a2, .ref a3, .ref a4, .ref a5, .ref a6, .ref a7, .ref a8, .ref a9, .ref a10, .long (jL mu), .long (jL md), .int (jI mo), .ref a11])), (a0, .inl (cA, 400, .inl (jA y0)))]) [0, 1] (by decide) rfl
          subst hAe
          subst hQ
          exact W.iret (v := jI bt9) hx hb hr (fun t ht hW => ⟨⟨_, (bt9, k, w), rfl, ⟨rfl, Eq.trans (by rw [f_XM_routeRowP_L9_s]; rw [if_neg c11_, if_neg (Int.not_lt.mpr c18_)]; try rfl) hF, show i32 bt9 from by first | assumption | omega | exact jset_b (by assumption) (by omega) | exact jset_l (by assumption) (by omega) | exact jset_l (fun _ _ => rfl) (by omega) | exact fun _ _ => rfl | exact l_trans (by assumption) (by assumption), show mp ≤ k ∧ k ≤ mn from by first | assumption | omega | exact jset_b (by assumption) (by omega) | exact jset_l (by assumption) (by omega) | exact jset_l (fun _ _ => rfl) (by omega) | exact fun _ _ => rfl | exact l_trans (by assumption) (by assumption), show -1 ≤ w ∧ w ≤ 400 ∧ mw ≤ w from by first | assumption | omega | exact jset_b (by assumption) (by omega) | exact jset_l (by assumption) (by omega) | exact jset_l (fun _ _ => rfl) (by omega) | exact fun _ _ => rfl | exact l_trans (by assumption) (by assumption)⟩, ⟨by rw [ht]; exact hP9, va_K.moved hW.alike hK, hD9⟩⟩, hS.F ht⟩) hS.2.2 dXM_routeRow_112
        · refine lv_aload_n hx hb dXM_routeRow_21 rfl (lv_at hl 4 rfl) ?_
          refine jwVi (rest := []) (wr := []) ⟨hx, hb, hml, hown, hts⟩ (c_XM_seeP l dC dI cA cZ _ ma a0 a1 a2 a3 a4 a5 a6 a7 a8 a9 a10 a11 mth mn k w mu md mo y0 (by first | assumption | omega) (by first | assumption | omega) (by first | assumption | omega)) (cwV 0 hts (jG_V tw_710 tw_712 ts_16 tw_6 tw_713) rfl rfl rfl (by decide +kernel) (by rw [hR]; exact ⟨Nat.le_of_ble_eq_true rfl, Nat.le_of_ble_eq_true rfl⟩)) hK hP hD hS hA hN [0, 1] [] rfl rfl (by decide) (by decide) (by decide) 0 5 rfl rfl rfl rfl hl.1 rfl (Nat.le_of_ble_eq_true rfl) dXM_routeRow_22 (by rw [hR]; exact ⟨Nat.le_of_ble_eq_true rfl, Nat.le_of_ble_eq_true rfl⟩) (fun v u H locs hwb hP hD hS => ?_)
          obtain ⟨r, mp1'⟩ := u
          try dsimp only at hwb
          obtain ⟨er, hwb, f, f1, f2⟩ := hwb
          subst er
          have f : -1 ≤ r ∧ r ≤ 255 ∧ (0 ≤ r → mp1' < mn) := f
          have f1 : k ≤ mp1' ∧ mp1' ≤ mn := f1
          have f2 : (mp1' < mn ∧ r = y0 mp1') ∨ (mp1' = mn ∧ r = -1) := f2
          have hP : va_P (dC, dI) vwCl [(ma, .inr (5, [.int (jI mth), .int (jI mn), .ref a0, .int (jI mp1'), .int (jI w), .ref a1, .ref a2, .ref a3, .ref a4, .ref a5, .ref a6, .ref a7, .ref a8, .ref a9, .ref a10, .long (jL mu), .long (jL md), .int (jI mo), .ref a11])), (a0, .inl (cA, 400, .inl (jA y0)))] H := hP
          have hD : va_D A [(ma, .inr (5, [.int (jI mth), .int (jI mn), .ref a0, .int (jI mp1'), .int (jI w), .ref a1, .ref a2, .ref a3, .ref a4, .ref a5, .ref a6, .ref a7, .ref a8, .ref a9, .ref a10, .long (jL mu), .long (jL md), .int (jI mo), .ref a11])), (a0, .inl (cA, 400, .inl (jA y0)))] := hD
          refine lv_pop hx hb dXM_routeRow_25 rfl ?_
          refine lv_aload_n hx hb dXM_routeRow_26 rfl (lv_at hl 4 rfl) ?_
          refine jrVi (rest := []) ⟨hx, hb, hml, hown, hts⟩ (c_XM_here l dC dI cA cZ ma a0 a1 a2 a3 a4 a5 a6 a7 a8 a9 a10 a11 mth mn mp1' w mu md mo y0 (by first | assumption | omega) (by first | assumption | omega) (by first | assumption | omega)) (cwV 0 hts (jG_V tw_714 tw_716 ts_17 tw_6 tw_717) rfl rfl rfl (by decide +kernel) (by rw [hR]; exact ⟨Nat.le_of_ble_eq_true rfl, Nat.le_of_ble_eq_true rfl⟩)) hK hP hN [0, 1] rfl 0 5 rfl rfl rfl rfl hl.1 rfl (Nat.le_of_ble_eq_true rfl) dXM_routeRow_27 (by rw [hR]; exact ⟨Nat.le_of_ble_eq_true rfl, Nat.le_of_ble_eq_true rfl⟩) ?_
          have f3 := f_XM_here_b mth mn mp1' w mu md mo y0 (by first | assumption | omega) (by first | assumption | omega) (by first | assumption | omega)
          have f4 := f_XM_here_v mth mn mp1' w mu md mo y0 (by first | assumption | omega) (by first | assumption | omega) (by first | assumption | omega)
          refine ji_bipush hx hb dXM_routeRow_30 (by decide) ?_
          refine ji_isub hx hb dXM_routeRow_32 ?_
          refine lv_istore (lv' := [(5, .int (jI ((f_XM_here mth mn mp1' w mu md mo y0) - 48))), (4, .int (jI mo9)), (3, .int (jI n9r)), (2, .int (jI la)), (1, .int (jI bt9)), (0, .ref ma)]) hx hb dXM_routeRow_33 hl (by decide) rfl (fun ls hl => ?_)
          refine lv_iload hx hb dXM_routeRow_35 (lv_at hl 0 rfl) ?_
          refine ji_iconst hx hb dXM_routeRow_37 ?_
          refine ji_bipush hx hb dXM_routeRow_38 (by decide) ?_
          refine jrSi (rest := []) ⟨hx, hb, hml, hown, hts⟩ (c_XM_in l dC dI cA cZ ((f_XM_here mth mn mp1' w mu md mo y0) - 48) 0 7 (by first | assumption | omega) (by first | assumption | omega) (by first | assumption | omega)) (cwS 3 hts (jG_S tw_695 tw_696 tw_6 tw_697) rfl rfl rfl (by decide +kernel) (by rw [hR]; exact ⟨Nat.le_of_ble_eq_true rfl, Nat.le_of_ble_eq_true rfl⟩)) hK hP hN [] rfl rfl hl.1 rfl (Nat.le_of_ble_eq_true rfl) dXM_routeRow_40 (by rw [hR]; exact ⟨Nat.le_of_ble_eq_true rfl, Nat.le_of_ble_eq_true rfl⟩) ?_
          have f5 := f_XM_in_b ((f_XM_here mth mn mp1' w mu md mo y0) - 48) 0 7 (by first | assumption | omega) (by first | assumption | omega) (by first | assumption | omega)
          refine ji_if_eq (tgt := 57) hx hb dXM_routeRow_43 (by decide) (by omega) (fun c43_ => ?_) (fun c43_ => ?_)
          · refine lv_aload_n hx hb dXM_routeRow_57 rfl (lv_at hl 5 rfl) ?_
            refine lv_aload_n hx hb dXM_routeRow_58 rfl (lv_at hl 5 rfl) ?_
            refine va_get (D := (dC, dI)) (ci := 5) (v := .int (jI mp1')) (C := RXM) (T := TXM) (N := 19) hx hb hts (fun w h => jmem (inXM w h)) hown hK hP 0 rfl rfl 3 (by decide) (hts _ (jmem tw_631)) (fun _ h9 => h9) rfl dXM_routeRow_59 ?_
            refine jwVv (rest := []) (wr := [(a0, .inl (cA, 400, .inl (jA y0)))]) ⟨hx, hb, hml, hown, hts⟩ (c_XM_failP l dC dI cA cZ _ ma a0 a1 a2 a3 a4 a5 a6 a7 a8 a9 a10 a11 mth mn mp1' w mu md mo mp1' (by first | assumption | omega) (by first | assumption | omega)) (cwV 1 hts (jG_V tw_734 tw_736 ts_22 tw_6 tw_737) rfl rfl rfl (by decide +kernel) (by rw [hR]; exact ⟨Nat.le_of_ble_eq_true rfl, Nat.le_of_ble_eq_true rfl⟩)) hK hP hD hS hA hN [0] [1] rfl rfl (by decide) (by decide) (by decide) 0 5 rfl rfl rfl rfl hl.1 rfl (Nat.le_of_ble_eq_true rfl) dXM_routeRow_62 (by rw [hR]; exact ⟨Nat.le_of_ble_eq_true rfl, Nat.le_of_ble_eq_true rfl⟩) (fun u6 H locs hw hP hD hS => ?_)
            obtain ⟨hw, f7⟩ := hw
            subst hw
            have f7 : (0 ≤ w ∧ (f_XM_failP mth mn mp1' w mu md mo mp1') = w) ∨ (w < 0 ∧ (f_XM_failP mth mn mp1' w mu md mo mp1') = mp1') := f7
            have hP : va_P (dC, dI) vwCl [(a0, .inl (cA, 400, .inl (jA y0))), (ma, .inr (5, [.int (jI mth), .int (jI mn), .ref a0, .int (jI mp1'), .int (jI (f_XM_failP mth mn mp1' w mu md mo mp1')), .ref a1, .ref a2, .ref a3, .ref a4, .ref a5, .ref a6, .ref a7, .ref a8, .ref a9, .ref a10, .long (jL mu), .long (jL md), .int (jI mo), .ref a11]))] H := hP
            have hD : va_D A [(a0, .inl (cA, 400, .inl (jA y0))), (ma, .inr (5, [.int (jI mth), .int (jI mn), .ref a0, .int (jI mp1'), .int (jI (f_XM_failP mth mn mp1' w mu md mo mp1')), .ref a1, .ref a2, .ref a3, .ref a4, .ref a5, .ref a6, .ref a7, .ref a8, .ref a9, .ref a10, .long (jL mu), .long (jL md), .int (jI mo), .ref a11]))] := hD
            refine lv_aload_n hx hb dXM_routeRow_65 rfl (lv_at hl 5 rfl) ?_
            refine va_get (D := (dC, dI)) (ci := 5) (v := .int (jI (f_XM_failP mth mn mp1' w mu md mo mp1'))) (C := RXM) (T := TXM) (N := 19) hx hb hts (fun w h => jmem (inXM w h)) hown hK hP 1 rfl rfl 4 (by decide) (hts _ (jmem tw_632)) (fun _ h9 => h9) rfl dXM_routeRow_66 ?_
            refine ji_if_lt (tgt := 74) hx hb dXM_routeRow_69 (by decide) (by omega) (fun c69_ => ?_) (fun c69_ => ?_)
            · refine lv_iload_n hx hb dXM_routeRow_74 rfl (lv_at hl 4 rfl) ?_
              refine ji_iconst hx hb dXM_routeRow_75 ?_
              refine lv_iload hx hb dXM_routeRow_76 (lv_at hl 0 rfl) ?_
              refine lv_ishl hx hb dXM_routeRow_78 ?_
              refine ji_rev ?_
              have rb := jti32 (jI 1 <<< (jI ((f_XM_here mth mn mp1' w mu md mo y0) - 48) &&& 31))
              refine lv_ior hx hb dXM_routeRow_79 ?_
              refine ji_rev ?_
              have rb8 := jti32 (jI bt9 ||| jI ((jI 1 <<< (jI ((f_XM_here mth mn mp1' w mu md mo y0) - 48) &&& 31)).toInt))
              refine lv_istore_n (lv' := [(1, .int (jI ((jI bt9 ||| jI ((jI 1 <<< (jI ((f_XM_here mth mn mp1' w mu md mo y0) - 48) &&& 31)).toInt)).toInt))), (5, .int (jI ((f_XM_here mth mn mp1' w mu md mo y0) - 48))), (4, .int (jI mo9)), (3, .int (jI n9r)), (2, .int (jI la)), (0, .ref ma)]) hx hb dXM_routeRow_80 rfl hl (by decide) rfl (fun ls hl => ?_)
              refine lv_iload hx hb dXM_routeRow_81 (lv_at hl 1 rfl) ?_
              refine lv_istore_n (lv' := [(2, .int (jI ((f_XM_here mth mn mp1' w mu md mo y0) - 48))), (1, .int (jI ((jI bt9 ||| jI ((jI 1 <<< (jI ((f_XM_here mth mn mp1' w mu md mo y0) - 48) &&& 31)).toInt)).toInt))), (5, .int (jI ((f_XM_here mth mn mp1' w mu md mo y0) - 48))), (4, .int (jI mo9)), (3, .int (jI n9r)), (0, .ref ma)]) hx hb dXM_routeRow_83 rfl hl (by decide) rfl (fun ls hl => ?_)
              refine ji_iinc (k := 4) (lv' := [(3, .int (jI (n9r + 1))), (2, .int (jI ((f_XM_here mth mn mp1' w mu md mo y0) - 48))), (1, .int (jI ((jI bt9 ||| jI ((jI 1 <<< (jI ((f_XM_here mth mn mp1' w mu md mo y0) - 48) &&& 31)).toInt)).toInt))), (5, .int (jI ((f_XM_here mth mn mp1' w mu md mo y0) - 48))), (4, .int (jI mo9)), (0, .ref ma)]) hx hb dXM_routeRow_84 hl rfl (by decide) rfl (fun ls hl => ?_)
              refine lv_aload_n hx hb dXM_routeRow_87 rfl (lv_at hl 5 rfl) ?_
              refine lv_dup hx hb dXM_routeRow_88 rfl ?_
              refine va_get (D := (dC, dI)) (ci := 5) (v := .int (jI mp1')) (C := RXM) (T := TXM) (N := 19) hx hb hts (fun w h => jmem (inXM w h)) hown hK hP 1 rfl rfl 3 (by decide) (hts _ (jmem tw_631)) (fun _ h9 => h9) rfl dXM_routeRow_89 ?_
              refine ji_iconst hx hb dXM_routeRow_92 ?_
              refine ji_iadd hx hb dXM_routeRow_93 ?_
              refine va_put (D := (dC, dI)) (ci := 5) (v := .int (jI (mp1' + 1))) (ty := (.int)) (C := RXM) (T := TXM) (N := 19) hx hb hts (fun w h => jmem (inXM w h)) tyXM tyXM_ok nXM hown hK hP hD hS 1 rfl rfl 3 (by decide) (hts _ (jmem tw_631)) (fun _ h9 => h9) rfl (by decide +kernel) rfl rfl (Nat.le_of_ble_eq_true rfl) dXM_routeRow_94 (fun H locs hP hD hS => ?_)
              have hP : va_P (dC, dI) vwCl [(a0, .inl (cA, 400, .inl (jA y0))), (ma, .inr (5, [.int (jI mth), .int (jI mn), .ref a0, .int (jI (mp1' + 1)), .int (jI (f_XM_failP mth mn mp1' w mu md mo mp1')), .ref a1, .ref a2, .ref a3, .ref a4, .ref a5, .ref a6, .ref a7, .ref a8, .ref a9, .ref a10, .long (jL mu), .long (jL md), .int (jI mo), .ref a11]))] H := hP
              have hD : va_D A [(a0, .inl (cA, 400, .inl (jA y0))), (ma, .inr (5, [.int (jI mth), .int (jI mn), .ref a0, .int (jI (mp1' + 1)), .int (jI (f_XM_failP mth mn mp1' w mu md mo mp1')), .ref a1, .ref a2, .ref a3, .ref a4, .ref a5, .ref a6, .ref a7, .ref a8, .ref a9, .ref a10, .long (jL mu), .long (jL md), .int (jI mo), .ref a11]))] := hD
              refine lv_aload_n hx hb dXM_routeRow_97 rfl (lv_at hl 5 rfl) ?_
              refine jwVi (rest := []) (wr := []) ⟨hx, hb, hml, hown, hts⟩ (c_XM_seeP l dC dI cA cZ _ ma a0 a1 a2 a3 a4 a5 a6 a7 a8 a9 a10 a11 mth mn (mp1' + 1) (f_XM_failP mth mn mp1' w mu md mo mp1') mu md mo y0 (by first | assumption | omega) (by first | assumption | omega) (by first | assumption | omega)) (cwV 0 hts (jG_V tw_710 tw_712 ts_16 tw_6 tw_713) rfl rfl rfl (by decide +kernel) (by rw [hR]; exact ⟨Nat.le_of_ble_eq_true rfl, Nat.le_of_ble_eq_true rfl⟩)) hK hP hD hS hA hN [1, 0] [] rfl rfl (by decide) (by decide) (by decide) 1 5 rfl rfl rfl rfl hl.1 rfl (Nat.le_of_ble_eq_true rfl) dXM_routeRow_98 (by rw [hR]; exact ⟨Nat.le_of_ble_eq_true rfl, Nat.le_of_ble_eq_true rfl⟩) (fun v12 u11 H locs hwb13 hP hD hS => ?_)
              obtain ⟨r9, mp1'10⟩ := u11
              try dsimp only at hwb13
              obtain ⟨er, hwb13, f14, f15, f16⟩ := hwb13
              subst er
              have f14 : -1 ≤ r9 ∧ r9 ≤ 255 ∧ (0 ≤ r9 → mp1'10 < mn) := f14
              have f15 : (mp1' + 1) ≤ mp1'10 ∧ mp1'10 ≤ mn := f15
              have f16 : (mp1'10 < mn ∧ r9 = y0 mp1'10) ∨ (mp1'10 = mn ∧ r9 = -1) := f16
              have hP : va_P (dC, dI) vwCl [(ma, .inr (5, [.int (jI mth), .int (jI mn), .ref a0, .int (jI mp1'10), .int (jI (f_XM_failP mth mn mp1' w mu md mo mp1')), .ref a1, .ref a2, .ref a3, .ref a4, .ref a5, .ref a6, .ref a7, .ref a8, .ref a9, .ref a10, .long (jL mu), .long (jL md), .int (jI mo), .ref a11])), (a0, .inl (cA, 400, .inl (jA y0)))] H := hP
              have hD : va_D A [(ma, .inr (5, [.int (jI mth), .int (jI mn), .ref a0, .int (jI mp1'10), .int (jI (f_XM_failP mth mn mp1' w mu md mo mp1')), .ref a1, .ref a2, .ref a3, .ref a4, .ref a5, .ref a6, .ref a7, .ref a8, .ref a9, .ref a10, .long (jL mu), .long (jL md), .int (jI mo), .ref a11])), (a0, .inl (cA, 400, .inl (jA y0)))] := hD
              refine lv_pop hx hb dXM_routeRow_101 rfl ?_
              refine lv_aload_n hx hb dXM_routeRow_102 rfl (lv_at hl 5 rfl) ?_
              refine jrVi (rest := []) ⟨hx, hb, hml, hown, hts⟩ (c_XM_isDigit l dC dI cA cZ ma a0 a1 a2 a3 a4 a5 a6 a7 a8 a9 a10 a11 mth mn mp1'10 (f_XM_failP mth mn mp1' w mu md mo mp1') mu md mo y0 (by first | assumption | omega) (by first | assumption | omega) (by first | assumption | omega)) (cwV 0 hts (jG_V tw_730 tw_732 ts_21 tw_6 tw_733) rfl rfl rfl (by decide +kernel) (by rw [hR]; exact ⟨Nat.le_of_ble_eq_true rfl, Nat.le_of_ble_eq_true rfl⟩)) hK hP hN [0, 1] rfl 0 5 rfl rfl rfl rfl hl.1 rfl (Nat.le_of_ble_eq_true rfl) dXM_routeRow_103 (by rw [hR]; exact ⟨Nat.le_of_ble_eq_true rfl, Nat.le_of_ble_eq_true rfl⟩) ?_
              have f17 := f_XM_isDigit_b mth mn mp1'10 (f_XM_failP mth mn mp1' w mu md mo mp1') mu md mo y0 (by first | assumption | omega) (by first | assumption | omega) (by first | assumption | omega)
              refine lv_istore (lv' := [(4, .int (jI (f_XM_isDigit mth mn mp1'10 (f_XM_failP mth mn mp1' w mu md mo mp1') mu md mo y0))), (3, .int (jI (n9r + 1))), (2, .int (jI ((f_XM_here mth mn mp1' w mu md mo y0) - 48))), (1, .int (jI ((jI bt9 ||| jI ((jI 1 <<< (jI ((f_XM_here mth mn mp1' w mu md mo y0) - 48) &&& 31)).toInt)).toInt))), (5, .int (jI ((f_XM_here mth mn mp1' w mu md mo y0) - 48))), (0, .ref ma)]) hx hb dXM_routeRow_106 hl (by decide) rfl (fun ls hl => ?_)
              refine lv_goto (tgt := 9) hx hb dXM_routeRow_108 (by decide) ?_
              exact ih9 ((jI bt9 ||| jI ((jI 1 <<< (jI ((f_XM_here mth mn mp1' w mu md mo y0) - 48) &&& 31)).toInt)).toInt) ((f_XM_here mth mn mp1' w mu md mo y0) - 48) (n9r + 1) (f_XM_isDigit mth mn mp1'10 (f_XM_failP mth mn mp1' w mu md mo mp1') mu md mo y0) mp1'10 (f_XM_failP mth mn mp1' w mu md mo mp1') (by omega) (Eq.trans (by rw [f_XM_routeRowP_L9_s]; rw [if_neg c11_, if_pos c18_]; rw [← hwb]; try dsimp only; rw [if_pos c43_, if_pos c69_]; rw [← hwb13]; try dsimp only; try rfl) hF) (by first | assumption | omega) (by first | assumption | omega) (by first | assumption | omega) (by first | assumption | omega) (by first | assumption | omega) (by first | assumption | omega) _ _ hP hD hS ls (lv_sub hl [0, 1, 2, 3, 5] rfl)
            · refine lv_iload_n hx hb dXM_routeRow_72 rfl (lv_at hl 4 rfl) ?_
              have hP9 := hP.sub (ws' := [(ma, .inr (5, [.int (jI mth), .int (jI mn), .ref a0, .int (jI mp1'), .int (jI (f_XM_failP mth mn mp1' w mu md mo mp1')), .ref a1, .ref a2, .ref a3, .ref a4, .ref a5, .ref a6, .ref a7, .ref a8, .ref a9, .ref a10, .long (jL mu), .long (jL md), .int (jI mo), .ref a11])), (a0, .inl (cA, 400, .inl (jA y0)))]) [1, 0] rfl
              have hD9 := hD.sub (ws' := [(ma, .inr (5, [.int (jI mth), .int (jI mn), .ref a0, .int (jI mp1'), .int (jI (f_XM_failP mth mn mp1' w mu md mo mp1')), .ref a1, .ref a2, .ref a3, .ref a4, .ref a5, .ref a6, .ref a7, .ref a8, .ref a9, .ref a10, .long (jL mu), .long (jL md), .int (jI mo), .ref a11])), (a0, .inl (cA, 400, .inl (jA y0)))]) [1, 0] (by decide) rfl
              subst hAe
              subst hQ
              exact W.iret (v := jI bt9) hx hb hr (fun t ht hW => ⟨⟨_, (bt9, mp1', f_XM_failP mth mn mp1' w mu md mo mp1'), rfl, ⟨rfl, Eq.trans (by rw [f_XM_routeRowP_L9_s]; rw [if_neg c11_, if_pos c18_]; rw [← hwb]; try dsimp only; rw [if_pos c43_, if_neg (Int.not_lt.mpr c69_)]; try rfl) hF, show i32 bt9 from by first | assumption | omega | exact jset_b (by assumption) (by omega) | exact jset_l (by assumption) (by omega) | exact jset_l (fun _ _ => rfl) (by omega) | exact fun _ _ => rfl | exact l_trans (by assumption) (by assumption), show mp ≤ mp1' ∧ mp1' ≤ mn from by first | assumption | omega | exact jset_b (by assumption) (by omega) | exact jset_l (by assumption) (by omega) | exact jset_l (fun _ _ => rfl) (by omega) | exact fun _ _ => rfl | exact l_trans (by assumption) (by assumption), show -1 ≤ (f_XM_failP mth mn mp1' w mu md mo mp1') ∧ (f_XM_failP mth mn mp1' w mu md mo mp1') ≤ 400 ∧ mw ≤ (f_XM_failP mth mn mp1' w mu md mo mp1') from by first | assumption | omega | exact jset_b (by assumption) (by omega) | exact jset_l (by assumption) (by omega) | exact jset_l (fun _ _ => rfl) (by omega) | exact fun _ _ => rfl | exact l_trans (by assumption) (by assumption)⟩, ⟨by rw [ht]; exact hP9, va_K.moved hW.alike hK, hD9⟩⟩, hS.F ht⟩) hS.2.2 dXM_routeRow_73
          · refine lv_iload hx hb dXM_routeRow_46 (lv_at hl 0 rfl) ?_
            refine lv_iload_n hx hb dXM_routeRow_48 rfl (lv_at hl 3 rfl) ?_
            refine ji_icmp_le (tgt := 57) hx hb dXM_routeRow_49 (by decide) (by omega) (by omega) (fun c49_ => ?_) (fun c49_ => ?_)
            · refine lv_aload_n hx hb dXM_routeRow_57 rfl (lv_at hl 5 rfl) ?_
              refine lv_aload_n hx hb dXM_routeRow_58 rfl (lv_at hl 5 rfl) ?_
              refine va_get (D := (dC, dI)) (ci := 5) (v := .int (jI mp1')) (C := RXM) (T := TXM) (N := 19) hx hb hts (fun w h => jmem (inXM w h)) hown hK hP 0 rfl rfl 3 (by decide) (hts _ (jmem tw_631)) (fun _ h9 => h9) rfl dXM_routeRow_59 ?_
              refine jwVv (rest := []) (wr := [(a0, .inl (cA, 400, .inl (jA y0)))]) ⟨hx, hb, hml, hown, hts⟩ (c_XM_failP l dC dI cA cZ _ ma a0 a1 a2 a3 a4 a5 a6 a7 a8 a9 a10 a11 mth mn mp1' w mu md mo mp1' (by first | assumption | omega) (by first | assumption | omega)) (cwV 1 hts (jG_V tw_734 tw_736 ts_22 tw_6 tw_737) rfl rfl rfl (by decide +kernel) (by rw [hR]; exact ⟨Nat.le_of_ble_eq_true rfl, Nat.le_of_ble_eq_true rfl⟩)) hK hP hD hS hA hN [0] [1] rfl rfl (by decide) (by decide) (by decide) 0 5 rfl rfl rfl rfl hl.1 rfl (Nat.le_of_ble_eq_true rfl) dXM_routeRow_62 (by rw [hR]; exact ⟨Nat.le_of_ble_eq_true rfl, Nat.le_of_ble_eq_true rfl⟩) (fun u18 H locs hw hP hD hS => ?_)
              obtain ⟨hw, f19⟩ := hw
              subst hw
              have f19 : (0 ≤ w ∧ (f_XM_failP mth mn mp1' w mu md mo mp1') = w) ∨ (w < 0 ∧ (f_XM_failP mth mn mp1' w mu md mo mp1') = mp1') := f19
              have hP : va_P (dC, dI) vwCl [(a0, .inl (cA, 400, .inl (jA y0))), (ma, .inr (5, [.int (jI mth), .int (jI mn), .ref a0, .int (jI mp1'), .int (jI (f_XM_failP mth mn mp1' w mu md mo mp1')), .ref a1, .ref a2, .ref a3, .ref a4, .ref a5, .ref a6, .ref a7, .ref a8, .ref a9, .ref a10, .long (jL mu), .long (jL md), .int (jI mo), .ref a11]))] H := hP
              have hD : va_D A [(a0, .inl (cA, 400, .inl (jA y0))), (ma, .inr (5, [.int (jI mth), .int (jI mn), .ref a0, .int (jI mp1'), .int (jI (f_XM_failP mth mn mp1' w mu md mo mp1')), .ref a1, .ref a2, .ref a3, .ref a4, .ref a5, .ref a6, .ref a7, .ref a8, .ref a9, .ref a10, .long (jL mu), .long (jL md), .int (jI mo), .ref a11]))] := hD
              refine lv_aload_n hx hb dXM_routeRow_65 rfl (lv_at hl 5 rfl) ?_
              refine va_get (D := (dC, dI)) (ci := 5) (v := .int (jI (f_XM_failP mth mn mp1' w mu md mo mp1'))) (C := RXM) (T := TXM) (N := 19) hx hb hts (fun w h => jmem (inXM w h)) hown hK hP 1 rfl rfl 4 (by decide) (hts _ (jmem tw_632)) (fun _ h9 => h9) rfl dXM_routeRow_66 ?_
              refine ji_if_lt (tgt := 74) hx hb dXM_routeRow_69 (by decide) (by omega) (fun c69_20 => ?_) (fun c69_20 => ?_)
              · refine lv_iload_n hx hb dXM_routeRow_74 rfl (lv_at hl 4 rfl) ?_
                refine ji_iconst hx hb dXM_routeRow_75 ?_
                refine lv_iload hx hb dXM_routeRow_76 (lv_at hl 0 rfl) ?_
                refine lv_ishl hx hb dXM_routeRow_78 ?_
                refine ji_rev ?_
                have rb21 := jti32 (jI 1 <<< (jI ((f_XM_here mth mn mp1' w mu md mo y0) - 48) &&& 31))
                refine lv_ior hx hb dXM_routeRow_79 ?_
                refine ji_rev ?_
                have rb22 := jti32 (jI bt9 ||| jI ((jI 1 <<< (jI ((f_XM_here mth mn mp1' w mu md mo y0) - 48) &&& 31)).toInt))
                refine lv_istore_n (lv' := [(1, .int (jI ((jI bt9 ||| jI ((jI 1 <<< (jI ((f_XM_here mth mn mp1' w mu md mo y0) - 48) &&& 31)).toInt)).toInt))), (5, .int (jI ((f_XM_here mth mn mp1' w mu md mo y0) - 48))), (4, .int (jI mo9)), (3, .int (jI n9r)), (2, .int (jI la)), (0, .ref ma)]) hx hb dXM_routeRow_80 rfl hl (by decide) rfl (fun ls hl => ?_)
                refine lv_iload hx hb dXM_routeRow_81 (lv_at hl 1 rfl) ?_
                refine lv_istore_n (lv' := [(2, .int (jI ((f_XM_here mth mn mp1' w mu md mo y0) - 48))), (1, .int (jI ((jI bt9 ||| jI ((jI 1 <<< (jI ((f_XM_here mth mn mp1' w mu md mo y0) - 48) &&& 31)).toInt)).toInt))), (5, .int (jI ((f_XM_here mth mn mp1' w mu md mo y0) - 48))), (4, .int (jI mo9)), (3, .int (jI n9r)), (0, .ref ma)]) hx hb dXM_routeRow_83 rfl hl (by decide) rfl (fun ls hl => ?_)
                refine ji_iinc (k := 4) (lv' := [(3, .int (jI (n9r + 1))), (2, .int (jI ((f_XM_here mth mn mp1' w mu md mo y0) - 48))), (1, .int (jI ((jI bt9 ||| jI ((jI 1 <<< (jI ((f_XM_here mth mn mp1' w mu md mo y0) - 48) &&& 31)).toInt)).toInt))), (5, .int (jI ((f_XM_here mth mn mp1' w mu md mo y0) - 48))), (4, .int (jI mo9)), (0, .ref ma)]) hx hb dXM_routeRow_84 hl rfl (by decide) rfl (fun ls hl => ?_)
                refine lv_aload_n hx hb dXM_routeRow_87 rfl (lv_at hl 5 rfl) ?_
                refine lv_dup hx hb dXM_routeRow_88 rfl ?_
                refine va_get (D := (dC, dI)) (ci := 5) (v := .int (jI mp1')) (C := RXM) (T := TXM) (N := 19) hx hb hts (fun w h => jmem (inXM w h)) hown hK hP 1 rfl rfl 3 (by decide) (hts _ (jmem tw_631)) (fun _ h9 => h9) rfl dXM_routeRow_89 ?_
                refine ji_iconst hx hb dXM_routeRow_92 ?_
                refine ji_iadd hx hb dXM_routeRow_93 ?_
                refine va_put (D := (dC, dI)) (ci := 5) (v := .int (jI (mp1' + 1))) (ty := (.int)) (C := RXM) (T := TXM) (N := 19) hx hb hts (fun w h => jmem (inXM w h)) tyXM tyXM_ok nXM hown hK hP hD hS 1 rfl rfl 3 (by decide) (hts _ (jmem tw_631)) (fun _ h9 => h9) rfl (by decide +kernel) rfl rfl (Nat.le_of_ble_eq_true rfl) dXM_routeRow_94 (fun H locs hP hD hS => ?_)
                have hP : va_P (dC, dI) vwCl [(a0, .inl (cA, 400, .inl (jA y0))), (ma, .inr (5, [.int (jI mth), .int (jI mn), .ref a0, .int (jI (mp1' + 1)), .int (jI (f_XM_failP mth mn mp1' w mu md mo mp1')), .ref a1, .ref a2, .ref a3, .ref a4, .ref a5, .ref a6, .ref a7, .ref a8, .ref a9, .ref a10, .long (jL mu), .long (jL md), .int (jI mo), .ref a11]))] H := hP
                have hD : va_D A [(a0, .inl (cA, 400, .inl (jA y0))), (ma, .inr (5, [.int (jI mth), .int (jI mn), .ref a0, .int (jI (mp1' + 1)), .int (jI (f_XM_failP mth mn mp1' w mu md mo mp1')), .ref a1, .ref a2, .ref a3, .ref a4, .ref a5, .ref a6, .ref a7, .ref a8, .ref a9, .ref a10, .long (jL mu), .long (jL md), .int (jI mo), .ref a11]))] := hD
                refine lv_aload_n hx hb dXM_routeRow_97 rfl (lv_at hl 5 rfl) ?_
                refine jwVi (rest := []) (wr := []) ⟨hx, hb, hml, hown, hts⟩ (c_XM_seeP l dC dI cA cZ _ ma a0 a1 a2 a3 a4 a5 a6 a7 a8 a9 a10 a11 mth mn (mp1' + 1) (f_XM_failP mth mn mp1' w mu md mo mp1') mu md mo y0 (by first | assumption | omega) (by first | assumption | omega) (by first | assumption | omega)) (cwV 0 hts (jG_V tw_710 tw_712 ts_16 tw_6 tw_713) rfl rfl rfl (by decide +kernel) (by rw [hR]; exact ⟨Nat.le_of_ble_eq_true rfl, Nat.le_of_ble_eq_true rfl⟩)) hK hP hD hS hA hN [1, 0] [] rfl rfl (by decide) (by decide) (by decide) 1 5 rfl rfl rfl rfl hl.1 rfl (Nat.le_of_ble_eq_true rfl) dXM_routeRow_98 (by rw [hR]; exact ⟨Nat.le_of_ble_eq_true rfl, Nat.le_of_ble_eq_true rfl⟩) (fun v26 u25 H locs hwb27 hP hD hS => ?_)
                obtain ⟨r23, mp1'24⟩ := u25
                try dsimp only at hwb27
                obtain ⟨er, hwb27, f28, f29, f30⟩ := hwb27
                subst er
                have f28 : -1 ≤ r23 ∧ r23 ≤ 255 ∧ (0 ≤ r23 → mp1'24 < mn) := f28
                have f29 : (mp1' + 1) ≤ mp1'24 ∧ mp1'24 ≤ mn := f29
                have f30 : (mp1'24 < mn ∧ r23 = y0 mp1'24) ∨ (mp1'24 = mn ∧ r23 = -1) := f30
                have hP : va_P (dC, dI) vwCl [(ma, .inr (5, [.int (jI mth), .int (jI mn), .ref a0, .int (jI mp1'24), .int (jI (f_XM_failP mth mn mp1' w mu md mo mp1')), .ref a1, .ref a2, .ref a3, .ref a4, .ref a5, .ref a6, .ref a7, .ref a8, .ref a9, .ref a10, .long (jL mu), .long (jL md), .int (jI mo), .ref a11])), (a0, .inl (cA, 400, .inl (jA y0)))] H := hP
                have hD : va_D A [(ma, .inr (5, [.int (jI mth), .int (jI mn), .ref a0, .int (jI mp1'24), .int (jI (f_XM_failP mth mn mp1' w mu md mo mp1')), .ref a1, .ref a2, .ref a3, .ref a4, .ref a5, .ref a6, .ref a7, .ref a8, .ref a9, .ref a10, .long (jL mu), .long (jL md), .int (jI mo), .ref a11])), (a0, .inl (cA, 400, .inl (jA y0)))] := hD
                refine lv_pop hx hb dXM_routeRow_101 rfl ?_
                refine lv_aload_n hx hb dXM_routeRow_102 rfl (lv_at hl 5 rfl) ?_
                refine jrVi (rest := []) ⟨hx, hb, hml, hown, hts⟩ (c_XM_isDigit l dC dI cA cZ ma a0 a1 a2 a3 a4 a5 a6 a7 a8 a9 a10 a11 mth mn mp1'24 (f_XM_failP mth mn mp1' w mu md mo mp1') mu md mo y0 (by first | assumption | omega) (by first | assumption | omega) (by first | assumption | omega)) (cwV 0 hts (jG_V tw_730 tw_732 ts_21 tw_6 tw_733) rfl rfl rfl (by decide +kernel) (by rw [hR]; exact ⟨Nat.le_of_ble_eq_true rfl, Nat.le_of_ble_eq_true rfl⟩)) hK hP hN [0, 1] rfl 0 5 rfl rfl rfl rfl hl.1 rfl (Nat.le_of_ble_eq_true rfl) dXM_routeRow_103 (by rw [hR]; exact ⟨Nat.le_of_ble_eq_true rfl, Nat.le_of_ble_eq_true rfl⟩) ?_
                have f31 := f_XM_isDigit_b mth mn mp1'24 (f_XM_failP mth mn mp1' w mu md mo mp1') mu md mo y0 (by first | assumption | omega) (by first | assumption | omega) (by first | assumption | omega)
                refine lv_istore (lv' := [(4, .int (jI (f_XM_isDigit mth mn mp1'24 (f_XM_failP mth mn mp1' w mu md mo mp1') mu md mo y0))), (3, .int (jI (n9r + 1))), (2, .int (jI ((f_XM_here mth mn mp1' w mu md mo y0) - 48))), (1, .int (jI ((jI bt9 ||| jI ((jI 1 <<< (jI ((f_XM_here mth mn mp1' w mu md mo y0) - 48) &&& 31)).toInt)).toInt))), (5, .int (jI ((f_XM_here mth mn mp1' w mu md mo y0) - 48))), (0, .ref ma)]) hx hb dXM_routeRow_106 hl (by decide) rfl (fun ls hl => ?_)
                refine lv_goto (tgt := 9) hx hb dXM_routeRow_108 (by decide) ?_
                exact ih9 ((jI bt9 ||| jI ((jI 1 <<< (jI ((f_XM_here mth mn mp1' w mu md mo y0) - 48) &&& 31)).toInt)).toInt) ((f_XM_here mth mn mp1' w mu md mo y0) - 48) (n9r + 1) (f_XM_isDigit mth mn mp1'24 (f_XM_failP mth mn mp1' w mu md mo mp1') mu md mo y0) mp1'24 (f_XM_failP mth mn mp1' w mu md mo mp1') (by omega) (Eq.trans (by rw [f_XM_routeRowP_L9_s]; rw [if_neg c11_, if_pos c18_]; rw [← hwb]; try dsimp only; rw [if_neg c43_, if_neg (Int.not_lt.mpr c49_), if_pos c69_20]; rw [← hwb27]; try dsimp only; try rfl) hF) (by first | assumption | omega) (by first | assumption | omega) (by first | assumption | omega) (by first | assumption | omega) (by first | assumption | omega) (by first | assumption | omega) _ _ hP hD hS ls (lv_sub hl [0, 1, 2, 3, 5] rfl)
              · refine lv_iload_n hx hb dXM_routeRow_72 rfl (lv_at hl 4 rfl) ?_
                have hP9 := hP.sub (ws' := [(ma, .inr (5, [.int (jI mth), .int (jI mn), .ref a0, .int (jI mp1'), .int (jI (f_XM_failP mth mn mp1' w mu md mo mp1')), .ref a1, .ref a2, .ref a3, .ref a4, .ref a5, .ref a6, .ref a7, .ref a8, .ref a9, .ref a10, .long (jL mu), .long (jL md), .int (jI mo), .ref a11])), (a0, .inl (cA, 400, .inl (jA y0)))]) [1, 0] rfl
                have hD9 := hD.sub (ws' := [(ma, .inr (5, [.int (jI mth), .int (jI mn), .ref a0, .int (jI mp1'), .int (jI (f_XM_failP mth mn mp1' w mu md mo mp1')), .ref a1, .ref a2, .ref a3, .ref a4, .ref a5, .ref a6, .ref a7, .ref a8, .ref a9, .ref a10, .long (jL mu), .long (jL md), .int (jI mo), .ref a11])), (a0, .inl (cA, 400, .inl (jA y0)))]) [1, 0] (by decide) rfl
                subst hAe
                subst hQ
                exact W.iret (v := jI bt9) hx hb hr (fun t ht hW => ⟨⟨_, (bt9, mp1', f_XM_failP mth mn mp1' w mu md mo mp1'), rfl, ⟨rfl, Eq.trans (by rw [f_XM_routeRowP_L9_s]; rw [if_neg c11_, if_pos c18_]; rw [← hwb]; try dsimp only; rw [if_neg c43_, if_neg (Int.not_lt.mpr c49_), if_neg (Int.not_lt.mpr c69_20)]; try rfl) hF, show i32 bt9 from by first | assumption | omega | exact jset_b (by assumption) (by omega) | exact jset_l (by assumption) (by omega) | exact jset_l (fun _ _ => rfl) (by omega) | exact fun _ _ => rfl | exact l_trans (by assumption) (by assumption), show mp ≤ mp1' ∧ mp1' ≤ mn from by first | assumption | omega | exact jset_b (by assumption) (by omega) | exact jset_l (by assumption) (by omega) | exact jset_l (fun _ _ => rfl) (by omega) | exact fun _ _ => rfl | exact l_trans (by assumption) (by assumption), show -1 ≤ (f_XM_failP mth mn mp1' w mu md mo mp1') ∧ (f_XM_failP mth mn mp1' w mu md mo mp1') ≤ 400 ∧ mw ≤ (f_XM_failP mth mn mp1' w mu md mo mp1') from by first | assumption | omega | exact jset_b (by assumption) (by omega) | exact jset_l (by assumption) (by omega) | exact jset_l (fun _ _ => rfl) (by omega) | exact fun _ _ => rfl | exact l_trans (by assumption) (by assumption)⟩, ⟨by rw [ht]; exact hP9, va_K.moved hW.alike hK, hD9⟩⟩, hS.F ht⟩) hS.2.2 dXM_routeRow_73
            · refine lv_iload_n hx hb dXM_routeRow_52 rfl (lv_at hl 2 rfl) ?_
              refine ji_iconst hx hb dXM_routeRow_53 ?_
              refine ji_icmp_ne (tgt := 65) hx hb dXM_routeRow_54 (by decide) (by omega) (by omega) (fun c54_ => ?_) (fun c54_ => ?_)
              · refine lv_aload_n hx hb dXM_routeRow_65 rfl (lv_at hl 5 rfl) ?_
                refine va_get (D := (dC, dI)) (ci := 5) (v := .int (jI w)) (C := RXM) (T := TXM) (N := 19) hx hb hts (fun w h => jmem (inXM w h)) hown hK hP 0 rfl rfl 4 (by decide) (hts _ (jmem tw_632)) (fun _ h9 => h9) rfl dXM_routeRow_66 ?_
                refine ji_if_lt (tgt := 74) hx hb dXM_routeRow_69 (by decide) (by omega) (fun c69_32 => ?_) (fun c69_32 => ?_)
                · refine lv_iload_n hx hb dXM_routeRow_74 rfl (lv_at hl 4 rfl) ?_
                  refine ji_iconst hx hb dXM_routeRow_75 ?_
                  refine lv_iload hx hb dXM_routeRow_76 (lv_at hl 0 rfl) ?_
                  refine lv_ishl hx hb dXM_routeRow_78 ?_
                  refine ji_rev ?_
                  have rb33 := jti32 (jI 1 <<< (jI ((f_XM_here mth mn mp1' w mu md mo y0) - 48) &&& 31))
                  refine lv_ior hx hb dXM_routeRow_79 ?_
                  refine ji_rev ?_
                  have rb34 := jti32 (jI bt9 ||| jI ((jI 1 <<< (jI ((f_XM_here mth mn mp1' w mu md mo y0) - 48) &&& 31)).toInt))
                  refine lv_istore_n (lv' := [(1, .int (jI ((jI bt9 ||| jI ((jI 1 <<< (jI ((f_XM_here mth mn mp1' w mu md mo y0) - 48) &&& 31)).toInt)).toInt))), (5, .int (jI ((f_XM_here mth mn mp1' w mu md mo y0) - 48))), (4, .int (jI mo9)), (3, .int (jI n9r)), (2, .int (jI la)), (0, .ref ma)]) hx hb dXM_routeRow_80 rfl hl (by decide) rfl (fun ls hl => ?_)
                  refine lv_iload hx hb dXM_routeRow_81 (lv_at hl 1 rfl) ?_
                  refine lv_istore_n (lv' := [(2, .int (jI ((f_XM_here mth mn mp1' w mu md mo y0) - 48))), (1, .int (jI ((jI bt9 ||| jI ((jI 1 <<< (jI ((f_XM_here mth mn mp1' w mu md mo y0) - 48) &&& 31)).toInt)).toInt))), (5, .int (jI ((f_XM_here mth mn mp1' w mu md mo y0) - 48))), (4, .int (jI mo9)), (3, .int (jI n9r)), (0, .ref ma)]) hx hb dXM_routeRow_83 rfl hl (by decide) rfl (fun ls hl => ?_)
                  refine ji_iinc (k := 4) (lv' := [(3, .int (jI (n9r + 1))), (2, .int (jI ((f_XM_here mth mn mp1' w mu md mo y0) - 48))), (1, .int (jI ((jI bt9 ||| jI ((jI 1 <<< (jI ((f_XM_here mth mn mp1' w mu md mo y0) - 48) &&& 31)).toInt)).toInt))), (5, .int (jI ((f_XM_here mth mn mp1' w mu md mo y0) - 48))), (4, .int (jI mo9)), (0, .ref ma)]) hx hb dXM_routeRow_84 hl rfl (by decide) rfl (fun ls hl => ?_)
                  refine lv_aload_n hx hb dXM_routeRow_87 rfl (lv_at hl 5 rfl) ?_
                  refine lv_dup hx hb dXM_routeRow_88 rfl ?_
                  refine va_get (D := (dC, dI)) (ci := 5) (v := .int (jI mp1')) (C := RXM) (T := TXM) (N := 19) hx hb hts (fun w h => jmem (inXM w h)) hown hK hP 0 rfl rfl 3 (by decide) (hts _ (jmem tw_631)) (fun _ h9 => h9) rfl dXM_routeRow_89 ?_
                  refine ji_iconst hx hb dXM_routeRow_92 ?_
                  refine ji_iadd hx hb dXM_routeRow_93 ?_
                  refine va_put (D := (dC, dI)) (ci := 5) (v := .int (jI (mp1' + 1))) (ty := (.int)) (C := RXM) (T := TXM) (N := 19) hx hb hts (fun w h => jmem (inXM w h)) tyXM tyXM_ok nXM hown hK hP hD hS 0 rfl rfl 3 (by decide) (hts _ (jmem tw_631)) (fun _ h9 => h9) rfl (by decide +kernel) rfl rfl (Nat.le_of_ble_eq_true rfl) dXM_routeRow_94 (fun H locs hP hD hS => ?_)
                  have hP : va_P (dC, dI) vwCl [(ma, .inr (5, [.int (jI mth), .int (jI mn), .ref a0, .int (jI (mp1' + 1)), .int (jI w), .ref a1, .ref a2, .ref a3, .ref a4, .ref a5, .ref a6, .ref a7, .ref a8, .ref a9, .ref a10, .long (jL mu), .long (jL md), .int (jI mo), .ref a11])), (a0, .inl (cA, 400, .inl (jA y0)))] H := hP
                  have hD : va_D A [(ma, .inr (5, [.int (jI mth), .int (jI mn), .ref a0, .int (jI (mp1' + 1)), .int (jI w), .ref a1, .ref a2, .ref a3, .ref a4, .ref a5, .ref a6, .ref a7, .ref a8, .ref a9, .ref a10, .long (jL mu), .long (jL md), .int (jI mo), .ref a11])), (a0, .inl (cA, 400, .inl (jA y0)))] := hD
                  refine lv_aload_n hx hb dXM_routeRow_97 rfl (lv_at hl 5 rfl) ?_
                  refine jwVi (rest := []) (wr := []) ⟨hx, hb, hml, hown, hts⟩ (c_XM_seeP l dC dI cA cZ _ ma a0 a1 a2 a3 a4 a5 a6 a7 a8 a9 a10 a11 mth mn (mp1' + 1) w mu md mo y0 (by first | assumption | omega) (by first | assumption | omega) (by first | assumption | omega)) (cwV 0 hts (jG_V tw_710 tw_712 ts_16 tw_6 tw_713) rfl rfl rfl (by decide +kernel) (by rw [hR]; exact ⟨Nat.le_of_ble_eq_true rfl, Nat.le_of_ble_eq_true rfl⟩)) hK hP hD hS hA hN [0, 1] [] rfl rfl (by decide) (by decide) (by decide) 0 5 rfl rfl rfl rfl hl.1 rfl (Nat.le_of_ble_eq_true rfl) dXM_routeRow_98 (by rw [hR]; exact ⟨Nat.le_of_ble_eq_true rfl, Nat.le_of_ble_eq_true rfl⟩) (fun v38 u37 H locs hwb39 hP hD hS => ?_)
                  obtain ⟨r35, mp1'36⟩ := u37
                  try dsimp only at hwb39
                  obtain ⟨er, hwb39, f40, f41, f42⟩ := hwb39
                  subst er
                  have f40 : -1 ≤ r35 ∧ r35 ≤ 255 ∧ (0 ≤ r35 → mp1'36 < mn) := f40
                  have f41 : (mp1' + 1) ≤ mp1'36 ∧ mp1'36 ≤ mn := f41
                  have f42 : (mp1'36 < mn ∧ r35 = y0 mp1'36) ∨ (mp1'36 = mn ∧ r35 = -1) := f42
                  have hP : va_P (dC, dI) vwCl [(ma, .inr (5, [.int (jI mth), .int (jI mn), .ref a0, .int (jI mp1'36), .int (jI w), .ref a1, .ref a2, .ref a3, .ref a4, .ref a5, .ref a6, .ref a7, .ref a8, .ref a9, .ref a10, .long (jL mu), .long (jL md), .int (jI mo), .ref a11])), (a0, .inl (cA, 400, .inl (jA y0)))] H := hP
                  have hD : va_D A [(ma, .inr (5, [.int (jI mth), .int (jI mn), .ref a0, .int (jI mp1'36), .int (jI w), .ref a1, .ref a2, .ref a3, .ref a4, .ref a5, .ref a6, .ref a7, .ref a8, .ref a9, .ref a10, .long (jL mu), .long (jL md), .int (jI mo), .ref a11])), (a0, .inl (cA, 400, .inl (jA y0)))] := hD
                  refine lv_pop hx hb dXM_routeRow_101 rfl ?_
                  refine lv_aload_n hx hb dXM_routeRow_102 rfl (lv_at hl 5 rfl) ?_
                  refine jrVi (rest := []) ⟨hx, hb, hml, hown, hts⟩ (c_XM_isDigit l dC dI cA cZ ma a0 a1 a2 a3 a4 a5 a6 a7 a8 a9 a10 a11 mth mn mp1'36 w mu md mo y0 (by first | assumption | omega) (by first | assumption | omega) (by first | assumption | omega)) (cwV 0 hts (jG_V tw_730 tw_732 ts_21 tw_6 tw_733) rfl rfl rfl (by decide +kernel) (by rw [hR]; exact ⟨Nat.le_of_ble_eq_true rfl, Nat.le_of_ble_eq_true rfl⟩)) hK hP hN [0, 1] rfl 0 5 rfl rfl rfl rfl hl.1 rfl (Nat.le_of_ble_eq_true rfl) dXM_routeRow_103 (by rw [hR]; exact ⟨Nat.le_of_ble_eq_true rfl, Nat.le_of_ble_eq_true rfl⟩) ?_
                  have f43 := f_XM_isDigit_b mth mn mp1'36 w mu md mo y0 (by first | assumption | omega) (by first | assumption | omega) (by first | assumption | omega)
                  refine lv_istore (lv' := [(4, .int (jI (f_XM_isDigit mth mn mp1'36 w mu md mo y0))), (3, .int (jI (n9r + 1))), (2, .int (jI ((f_XM_here mth mn mp1' w mu md mo y0) - 48))), (1, .int (jI ((jI bt9 ||| jI ((jI 1 <<< (jI ((f_XM_here mth mn mp1' w mu md mo y0) - 48) &&& 31)).toInt)).toInt))), (5, .int (jI ((f_XM_here mth mn mp1' w mu md mo y0) - 48))), (0, .ref ma)]) hx hb dXM_routeRow_106 hl (by decide) rfl (fun ls hl => ?_)
                  refine lv_goto (tgt := 9) hx hb dXM_routeRow_108 (by decide) ?_
                  exact ih9 ((jI bt9 ||| jI ((jI 1 <<< (jI ((f_XM_here mth mn mp1' w mu md mo y0) - 48) &&& 31)).toInt)).toInt) ((f_XM_here mth mn mp1' w mu md mo y0) - 48) (n9r + 1) (f_XM_isDigit mth mn mp1'36 w mu md mo y0) mp1'36 w (by omega) (Eq.trans (by rw [f_XM_routeRowP_L9_s]; rw [if_neg c11_, if_pos c18_]; rw [← hwb]; try dsimp only; rw [if_neg c43_, if_pos c49_, if_neg c54_, if_pos c69_32]; rw [← hwb39]; try dsimp only; try rfl) hF) (by first | assumption | omega) (by first | assumption | omega) (by first | assumption | omega) (by first | assumption | omega) (by first | assumption | omega) (by first | assumption | omega) _ _ hP hD hS ls (lv_sub hl [0, 1, 2, 3, 5] rfl)
                · refine lv_iload_n hx hb dXM_routeRow_72 rfl (lv_at hl 4 rfl) ?_
                  have hP9 := hP.sub (ws' := [(ma, .inr (5, [.int (jI mth), .int (jI mn), .ref a0, .int (jI mp1'), .int (jI w), .ref a1, .ref a2, .ref a3, .ref a4, .ref a5, .ref a6, .ref a7, .ref a8, .ref a9, .ref a10, .long (jL mu), .long (jL md), .int (jI mo), .ref a11])), (a0, .inl (cA, 400, .inl (jA y0)))]) [0, 1] rfl
                  have hD9 := hD.sub (ws' := [(ma, .inr (5, [.int (jI mth), .int (jI mn), .ref a0, .int (jI mp1'), .int (jI w), .ref a1, .ref a2, .ref a3, .ref a4, .ref a5, .ref a6, .ref a7, .ref a8, .ref a9, .ref a10, .long (jL mu), .long (jL md), .int (jI mo), .ref a11])), (a0, .inl (cA, 400, .inl (jA y0)))]) [0, 1] (by decide) rfl
                  subst hAe
                  subst hQ
                  exact W.iret (v := jI bt9) hx hb hr (fun t ht hW => ⟨⟨_, (bt9, mp1', w), rfl, ⟨rfl, Eq.trans (by rw [f_XM_routeRowP_L9_s]; rw [if_neg c11_, if_pos c18_]; rw [← hwb]; try dsimp only; rw [if_neg c43_, if_pos c49_, if_neg c54_, if_neg (Int.not_lt.mpr c69_32)]; try rfl) hF, show i32 bt9 from by first | assumption | omega | exact jset_b (by assumption) (by omega) | exact jset_l (by assumption) (by omega) | exact jset_l (fun _ _ => rfl) (by omega) | exact fun _ _ => rfl | exact l_trans (by assumption) (by assumption), show mp ≤ mp1' ∧ mp1' ≤ mn from by first | assumption | omega | exact jset_b (by assumption) (by omega) | exact jset_l (by assumption) (by omega) | exact jset_l (fun _ _ => rfl) (by omega) | exact fun _ _ => rfl | exact l_trans (by assumption) (by assumption), show -1 ≤ w ∧ w ≤ 400 ∧ mw ≤ w from by first | assumption | omega | exact jset_b (by assumption) (by omega) | exact jset_l (by assumption) (by omega) | exact jset_l (fun _ _ => rfl) (by omega) | exact fun _ _ => rfl | exact l_trans (by assumption) (by assumption)⟩, ⟨by rw [ht]; exact hP9, va_K.moved hW.alike hK, hD9⟩⟩, hS.F ht⟩) hS.2.2 dXM_routeRow_73
              · refine lv_aload_n hx hb dXM_routeRow_57 rfl (lv_at hl 5 rfl) ?_
                refine lv_aload_n hx hb dXM_routeRow_58 rfl (lv_at hl 5 rfl) ?_
                refine va_get (D := (dC, dI)) (ci := 5) (v := .int (jI mp1')) (C := RXM) (T := TXM) (N := 19) hx hb hts (fun w h => jmem (inXM w h)) hown hK hP 0 rfl rfl 3 (by decide) (hts _ (jmem tw_631)) (fun _ h9 => h9) rfl dXM_routeRow_59 ?_
                refine jwVv (rest := []) (wr := [(a0, .inl (cA, 400, .inl (jA y0)))]) ⟨hx, hb, hml, hown, hts⟩ (c_XM_failP l dC dI cA cZ _ ma a0 a1 a2 a3 a4 a5 a6 a7 a8 a9 a10 a11 mth mn mp1' w mu md mo mp1' (by first | assumption | omega) (by first | assumption | omega)) (cwV 1 hts (jG_V tw_734 tw_736 ts_22 tw_6 tw_737) rfl rfl rfl (by decide +kernel) (by rw [hR]; exact ⟨Nat.le_of_ble_eq_true rfl, Nat.le_of_ble_eq_true rfl⟩)) hK hP hD hS hA hN [0] [1] rfl rfl (by decide) (by decide) (by decide) 0 5 rfl rfl rfl rfl hl.1 rfl (Nat.le_of_ble_eq_true rfl) dXM_routeRow_62 (by rw [hR]; exact ⟨Nat.le_of_ble_eq_true rfl, Nat.le_of_ble_eq_true rfl⟩) (fun u44 H locs hw hP hD hS => ?_)
                obtain ⟨hw, f45⟩ := hw
                subst hw
                have f45 : (0 ≤ w ∧ (f_XM_failP mth mn mp1' w mu md mo mp1') = w) ∨ (w < 0 ∧ (f_XM_failP mth mn mp1' w mu md mo mp1') = mp1') := f45
                have hP : va_P (dC, dI) vwCl [(a0, .inl (cA, 400, .inl (jA y0))), (ma, .inr (5, [.int (jI mth), .int (jI mn), .ref a0, .int (jI mp1'), .int (jI (f_XM_failP mth mn mp1' w mu md mo mp1')), .ref a1, .ref a2, .ref a3, .ref a4, .ref a5, .ref a6, .ref a7, .ref a8, .ref a9, .ref a10, .long (jL mu), .long (jL md), .int (jI mo), .ref a11]))] H := hP
                have hD : va_D A [(a0, .inl (cA, 400, .inl (jA y0))), (ma, .inr (5, [.int (jI mth), .int (jI mn), .ref a0, .int (jI mp1'), .int (jI (f_XM_failP mth mn mp1' w mu md mo mp1')), .ref a1, .ref a2, .ref a3, .ref a4, .ref a5, .ref a6, .ref a7, .ref a8, .ref a9, .ref a10, .long (jL mu), .long (jL md), .int (jI mo), .ref a11]))] := hD
                refine lv_aload_n hx hb dXM_routeRow_65 rfl (lv_at hl 5 rfl) ?_
                refine va_get (D := (dC, dI)) (ci := 5) (v := .int (jI (f_XM_failP mth mn mp1' w mu md mo mp1'))) (C := RXM) (T := TXM) (N := 19) hx hb hts (fun w h => jmem (inXM w h)) hown hK hP 1 rfl rfl 4 (by decide) (hts _ (jmem tw_632)) (fun _ h9 => h9) rfl dXM_routeRow_66 ?_
                refine ji_if_lt (tgt := 74) hx hb dXM_routeRow_69 (by decide) (by omega) (fun c69_46 => ?_) (fun c69_46 => ?_)
                · refine lv_iload_n hx hb dXM_routeRow_74 rfl (lv_at hl 4 rfl) ?_
                  refine ji_iconst hx hb dXM_routeRow_75 ?_
                  refine lv_iload hx hb dXM_routeRow_76 (lv_at hl 0 rfl) ?_
                  refine lv_ishl hx hb dXM_routeRow_78 ?_
                  refine ji_rev ?_
                  have rb47 := jti32 (jI 1 <<< (jI ((f_XM_here mth mn mp1' w mu md mo y0) - 48) &&& 31))
                  refine lv_ior hx hb dXM_routeRow_79 ?_
                  refine ji_rev ?_
                  have rb48 := jti32 (jI bt9 ||| jI ((jI 1 <<< (jI ((f_XM_here mth mn mp1' w mu md mo y0) - 48) &&& 31)).toInt))
                  refine lv_istore_n (lv' := [(1, .int (jI ((jI bt9 ||| jI ((jI 1 <<< (jI ((f_XM_here mth mn mp1' w mu md mo y0) - 48) &&& 31)).toInt)).toInt))), (5, .int (jI ((f_XM_here mth mn mp1' w mu md mo y0) - 48))), (4, .int (jI mo9)), (3, .int (jI n9r)), (2, .int (jI la)), (0, .ref ma)]) hx hb dXM_routeRow_80 rfl hl (by decide) rfl (fun ls hl => ?_)
                  refine lv_iload hx hb dXM_routeRow_81 (lv_at hl 1 rfl) ?_
                  refine lv_istore_n (lv' := [(2, .int (jI ((f_XM_here mth mn mp1' w mu md mo y0) - 48))), (1, .int (jI ((jI bt9 ||| jI ((jI 1 <<< (jI ((f_XM_here mth mn mp1' w mu md mo y0) - 48) &&& 31)).toInt)).toInt))), (5, .int (jI ((f_XM_here mth mn mp1' w mu md mo y0) - 48))), (4, .int (jI mo9)), (3, .int (jI n9r)), (0, .ref ma)]) hx hb dXM_routeRow_83 rfl hl (by decide) rfl (fun ls hl => ?_)
                  refine ji_iinc (k := 4) (lv' := [(3, .int (jI (n9r + 1))), (2, .int (jI ((f_XM_here mth mn mp1' w mu md mo y0) - 48))), (1, .int (jI ((jI bt9 ||| jI ((jI 1 <<< (jI ((f_XM_here mth mn mp1' w mu md mo y0) - 48) &&& 31)).toInt)).toInt))), (5, .int (jI ((f_XM_here mth mn mp1' w mu md mo y0) - 48))), (4, .int (jI mo9)), (0, .ref ma)]) hx hb dXM_routeRow_84 hl rfl (by decide) rfl (fun ls hl => ?_)
                  refine lv_aload_n hx hb dXM_routeRow_87 rfl (lv_at hl 5 rfl) ?_
                  refine lv_dup hx hb dXM_routeRow_88 rfl ?_
                  refine va_get (D := (dC, dI)) (ci := 5) (v := .int (jI mp1')) (C := RXM) (T := TXM) (N := 19) hx hb hts (fun w h => jmem (inXM w h)) hown hK hP 1 rfl rfl 3 (by decide) (hts _ (jmem tw_631)) (fun _ h9 => h9) rfl dXM_routeRow_89 ?_
                  refine ji_iconst hx hb dXM_routeRow_92 ?_
                  refine ji_iadd hx hb dXM_routeRow_93 ?_
                  refine va_put (D := (dC, dI)) (ci := 5) (v := .int (jI (mp1' + 1))) (ty := (.int)) (C := RXM) (T := TXM) (N := 19) hx hb hts (fun w h => jmem (inXM w h)) tyXM tyXM_ok nXM hown hK hP hD hS 1 rfl rfl 3 (by decide) (hts _ (jmem tw_631)) (fun _ h9 => h9) rfl (by decide +kernel) rfl rfl (Nat.le_of_ble_eq_true rfl) dXM_routeRow_94 (fun H locs hP hD hS => ?_)
                  have hP : va_P (dC, dI) vwCl [(a0, .inl (cA, 400, .inl (jA y0))), (ma, .inr (5, [.int (jI mth), .int (jI mn), .ref a0, .int (jI (mp1' + 1)), .int (jI (f_XM_failP mth mn mp1' w mu md mo mp1')), .ref a1, .ref a2, .ref a3, .ref a4, .ref a5, .ref a6, .ref a7, .ref a8, .ref a9, .ref a10, .long (jL mu), .long (jL md), .int (jI mo), .ref a11]))] H := hP
                  have hD : va_D A [(a0, .inl (cA, 400, .inl (jA y0))), (ma, .inr (5, [.int (jI mth), .int (jI mn), .ref a0, .int (jI (mp1' + 1)), .int (jI (f_XM_failP mth mn mp1' w mu md mo mp1')), .ref a1, .ref a2, .ref a3, .ref a4, .ref a5, .ref a6, .ref a7, .ref a8, .ref a9, .ref a10, .long (jL mu), .long (jL md), .int (jI mo), .ref a11]))] := hD
                  refine lv_aload_n hx hb dXM_routeRow_97 rfl (lv_at hl 5 rfl) ?_
                  refine jwVi (rest := []) (wr := []) ⟨hx, hb, hml, hown, hts⟩ (c_XM_seeP l dC dI cA cZ _ ma a0 a1 a2 a3 a4 a5 a6 a7 a8 a9 a10 a11 mth mn (mp1' + 1) (f_XM_failP mth mn mp1' w mu md mo mp1') mu md mo y0 (by first | assumption | omega) (by first | assumption | omega) (by first | assumption | omega)) (cwV 0 hts (jG_V tw_710 tw_712 ts_16 tw_6 tw_713) rfl rfl rfl (by decide +kernel) (by rw [hR]; exact ⟨Nat.le_of_ble_eq_true rfl, Nat.le_of_ble_eq_true rfl⟩)) hK hP hD hS hA hN [1, 0] [] rfl rfl (by decide) (by decide) (by decide) 1 5 rfl rfl rfl rfl hl.1 rfl (Nat.le_of_ble_eq_true rfl) dXM_routeRow_98 (by rw [hR]; exact ⟨Nat.le_of_ble_eq_true rfl, Nat.le_of_ble_eq_true rfl⟩) (fun v52 u51 H locs hwb53 hP hD hS => ?_)
                  obtain ⟨r49, mp1'50⟩ := u51
                  try dsimp only at hwb53
                  obtain ⟨er, hwb53, f54, f55, f56⟩ := hwb53
                  subst er
                  have f54 : -1 ≤ r49 ∧ r49 ≤ 255 ∧ (0 ≤ r49 → mp1'50 < mn) := f54
                  have f55 : (mp1' + 1) ≤ mp1'50 ∧ mp1'50 ≤ mn := f55
                  have f56 : (mp1'50 < mn ∧ r49 = y0 mp1'50) ∨ (mp1'50 = mn ∧ r49 = -1) := f56
                  have hP : va_P (dC, dI) vwCl [(ma, .inr (5, [.int (jI mth), .int (jI mn), .ref a0, .int (jI mp1'50), .int (jI (f_XM_failP mth mn mp1' w mu md mo mp1')), .ref a1, .ref a2, .ref a3, .ref a4, .ref a5, .ref a6, .ref a7, .ref a8, .ref a9, .ref a10, .long (jL mu), .long (jL md), .int (jI mo), .ref a11])), (a0, .inl (cA, 400, .inl (jA y0)))] H := hP
                  have hD : va_D A [(ma, .inr (5, [.int (jI mth), .int (jI mn), .ref a0, .int (jI mp1'50), .int (jI (f_XM_failP mth mn mp1' w mu md mo mp1')), .ref a1, .ref a2, .ref a3, .ref a4, .ref a5, .ref a6, .ref a7, .ref a8, .ref a9, .ref a10, .long (jL mu), .long (jL md), .int (jI mo), .ref a11])), (a0, .inl (cA, 400, .inl (jA y0)))] := hD
                  refine lv_pop hx hb dXM_routeRow_101 rfl ?_
                  refine lv_aload_n hx hb dXM_routeRow_102 rfl (lv_at hl 5 rfl) ?_
                  refine jrVi (rest := []) ⟨hx, hb, hml, hown, hts⟩ (c_XM_isDigit l dC dI cA cZ ma a0 a1 a2 a3 a4 a5 a6 a7 a8 a9 a10 a11 mth mn mp1'50 (f_XM_failP mth mn mp1' w mu md mo mp1') mu md mo y0 (by first | assumption | omega) (by first | assumption | omega) (by first | assumption | omega)) (cwV 0 hts (jG_V tw_730 tw_732 ts_21 tw_6 tw_733) rfl rfl rfl (by decide +kernel) (by rw [hR]; exact ⟨Nat.le_of_ble_eq_true rfl, Nat.le_of_ble_eq_true rfl⟩)) hK hP hN [0, 1] rfl 0 5 rfl rfl rfl rfl hl.1 rfl (Nat.le_of_ble_eq_true rfl) dXM_routeRow_103 (by rw [hR]; exact ⟨Nat.le_of_ble_eq_true rfl, Nat.le_of_ble_eq_true rfl⟩) ?_
                  have f57 := f_XM_isDigit_b mth mn mp1'50 (f_XM_failP mth mn mp1' w mu md mo mp1') mu md mo y0 (by first | assumption | omega) (by first | assumption | omega) (by first | assumption | omega)
                  refine lv_istore (lv' := [(4, .int (jI (f_XM_isDigit mth mn mp1'50 (f_XM_failP mth mn mp1' w mu md mo mp1') mu md mo y0))), (3, .int (jI (n9r + 1))), (2, .int (jI ((f_XM_here mth mn mp1' w mu md mo y0) - 48))), (1, .int (jI ((jI bt9 ||| jI ((jI 1 <<< (jI ((f_XM_here mth mn mp1' w mu md mo y0) - 48) &&& 31)).toInt)).toInt))), (5, .int (jI ((f_XM_here mth mn mp1' w mu md mo y0) - 48))), (0, .ref ma)]) hx hb dXM_routeRow_106 hl (by decide) rfl (fun ls hl => ?_)
                  refine lv_goto (tgt := 9) hx hb dXM_routeRow_108 (by decide) ?_
                  exact ih9 ((jI bt9 ||| jI ((jI 1 <<< (jI ((f_XM_here mth mn mp1' w mu md mo y0) - 48) &&& 31)).toInt)).toInt) ((f_XM_here mth mn mp1' w mu md mo y0) - 48) (n9r + 1) (f_XM_isDigit mth mn mp1'50 (f_XM_failP mth mn mp1' w mu md mo mp1') mu md mo y0) mp1'50 (f_XM_failP mth mn mp1' w mu md mo mp1') (by omega) (Eq.trans (by rw [f_XM_routeRowP_L9_s]; rw [if_neg c11_, if_pos c18_]; rw [← hwb]; try dsimp only; rw [if_neg c43_, if_pos c49_, if_pos c54_, if_pos c69_46]; rw [← hwb53]; try dsimp only; try rfl) hF) (by first | assumption | omega) (by first | assumption | omega) (by first | assumption | omega) (by first | assumption | omega) (by first | assumption | omega) (by first | assumption | omega) _ _ hP hD hS ls (lv_sub hl [0, 1, 2, 3, 5] rfl)
                · refine lv_iload_n hx hb dXM_routeRow_72 rfl (lv_at hl 4 rfl) ?_
                  have hP9 := hP.sub (ws' := [(ma, .inr (5, [.int (jI mth), .int (jI mn), .ref a0, .int (jI mp1'), .int (jI (f_XM_failP mth mn mp1' w mu md mo mp1')), .ref a1, .ref a2, .ref a3, .ref a4, .ref a5, .ref a6, .ref a7, .ref a8, .ref a9, .ref a10, .long (jL mu), .long (jL md), .int (jI mo), .ref a11])), (a0, .inl (cA, 400, .inl (jA y0)))]) [1, 0] rfl
                  have hD9 := hD.sub (ws' := [(ma, .inr (5, [.int (jI mth), .int (jI mn), .ref a0, .int (jI mp1'), .int (jI (f_XM_failP mth mn mp1' w mu md mo mp1')), .ref a1, .ref a2, .ref a3, .ref a4, .ref a5, .ref a6, .ref a7, .ref a8, .ref a9, .ref a10, .long (jL mu), .long (jL md), .int (jI mo), .ref a11])), (a0, .inl (cA, 400, .inl (jA y0)))]) [1, 0] (by decide) rfl
                  subst hAe
                  subst hQ
                  exact W.iret (v := jI bt9) hx hb hr (fun t ht hW => ⟨⟨_, (bt9, mp1', f_XM_failP mth mn mp1' w mu md mo mp1'), rfl, ⟨rfl, Eq.trans (by rw [f_XM_routeRowP_L9_s]; rw [if_neg c11_, if_pos c18_]; rw [← hwb]; try dsimp only; rw [if_neg c43_, if_pos c49_, if_pos c54_, if_neg (Int.not_lt.mpr c69_46)]; try rfl) hF, show i32 bt9 from by first | assumption | omega | exact jset_b (by assumption) (by omega) | exact jset_l (by assumption) (by omega) | exact jset_l (fun _ _ => rfl) (by omega) | exact fun _ _ => rfl | exact l_trans (by assumption) (by assumption), show mp ≤ mp1' ∧ mp1' ≤ mn from by first | assumption | omega | exact jset_b (by assumption) (by omega) | exact jset_l (by assumption) (by omega) | exact jset_l (fun _ _ => rfl) (by omega) | exact fun _ _ => rfl | exact l_trans (by assumption) (by assumption), show -1 ≤ (f_XM_failP mth mn mp1' w mu md mo mp1') ∧ (f_XM_failP mth mn mp1' w mu md mo mp1') ≤ 400 ∧ mw ≤ (f_XM_failP mth mn mp1' w mu md mo mp1') from by first | assumption | omega | exact jset_b (by assumption) (by omega) | exact jset_l (by assumption) (by omega) | exact jset_l (fun _ _ => rfl) (by omega) | exact fun _ _ => rfl | exact l_trans (by assumption) (by assumption)⟩, ⟨by rw [ht]; exact hP9, va_K.moved hW.alike hK, hD9⟩⟩, hS.F ht⟩) hS.2.2 dXM_routeRow_73
  exact loop9 (Int.toNat (mn - mp) + 1) 0 (-1) 0 1 mp mw (by omega) (Eq.trans (by rw [f_XM_routeRowP_s]; try rfl) rfl) (by first | assumption | omega) (by first | assumption | omega) (by first | assumption | omega) (by first | assumption | omega) (by first | assumption | omega) (by first | assumption | omega) _ _ hP hD hS ls (lv_sub hl [0, 1, 2, 3, 4] rfl)
