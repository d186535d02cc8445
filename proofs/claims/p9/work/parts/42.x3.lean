noncomputable def g_XM_spanP_J30 (mth : Int) (mn : Int) (mp : Int) (mw : Int) (mu : Int) (md : Int) (mo : Int) (y1 : Int → Int) (y2 : Int → Int) (y3 : Int → Int) (y4 : Int → Int) (y5 : Int → Int) (z1 : Int) (z2 : Int) (z3 : Int) (jc : Int) : Int × Int :=
  match f_XM_goesP mth mn mp mw mu md mo jc 1 with
  | (r, mth1') =>
    if r = 0 then
      (0, mth1')
    else
      if z3 = 0 then
        (f_XM_lowOfP mth1' mn mp mw mu md mo y1 y2 y3 y4 z1 z2, mth1')
      else
        (f_XM_highOfP mth1' mn mp mw mu md mo y1 y2 y3 y5 z1 z2, mth1')
noncomputable def f_XM_spanP_J30 : Int → Int → Int → Int → Int → Int → Int → (Int → Int) → (Int → Int) → (Int → Int) → (Int → Int) → (Int → Int) → Int → Int → Int → Int → Int × Int := jopq g_XM_spanP_J30
theorem f_XM_spanP_J30_q : f_XM_spanP_J30 = g_XM_spanP_J30 := jopq_eq _
theorem f_XM_spanP_J30_s (mth : Int) (mn : Int) (mp : Int) (mw : Int) (mu : Int) (md : Int) (mo : Int) (y1 : Int → Int) (y2 : Int → Int) (y3 : Int → Int) (y4 : Int → Int) (y5 : Int → Int) (z1 : Int) (z2 : Int) (z3 : Int) (jc : Int) : f_XM_spanP_J30 mth mn mp mw mu md mo y1 y2 y3 y4 y5 z1 z2 z3 jc = (
    match f_XM_goesP mth mn mp mw mu md mo jc 1 with
    | (r, mth1') =>
      if r = 0 then
        (0, mth1')
      else
        if z3 = 0 then
          (f_XM_lowOfP mth1' mn mp mw mu md mo y1 y2 y3 y4 z1 z2, mth1')
        else
          (f_XM_highOfP mth1' mn mp mw mu md mo y1 y2 y3 y5 z1 z2, mth1')
  : Int × Int) := by rw [f_XM_spanP_J30_q]; rfl
noncomputable def g_XM_spanP (mth : Int) (mn : Int) (mp : Int) (mw : Int) (mu : Int) (md : Int) (mo : Int) (y1 : Int → Int) (y2 : Int → Int) (y3 : Int → Int) (y4 : Int → Int) (y5 : Int → Int) (z1 : Int) (z2 : Int) (z3 : Int) : Int × Int :=
  if (f_XM_isTold mth mn mp mw mu md mo y1 z1) = 0 then
    f_XM_spanP_J30 mth mn mp mw mu md mo y1 y2 y3 y4 y5 z1 z2 z3 0
  else
    if (f_XM_isElement z2) = 0 then
      f_XM_spanP_J30 mth mn mp mw mu md mo y1 y2 y3 y4 y5 z1 z2 z3 0
    else
      if (f_XM_in z3 0 1) = 0 then
        f_XM_spanP_J30 mth mn mp mw mu md mo y1 y2 y3 y4 y5 z1 z2 z3 0
      else
        f_XM_spanP_J30 mth mn mp mw mu md mo y1 y2 y3 y4 y5 z1 z2 z3 1
noncomputable def f_XM_spanP : Int → Int → Int → Int → Int → Int → Int → (Int → Int) → (Int → Int) → (Int → Int) → (Int → Int) → (Int → Int) → Int → Int → Int → Int × Int := jopq g_XM_spanP
theorem f_XM_spanP_q : f_XM_spanP = g_XM_spanP := jopq_eq _
theorem f_XM_spanP_s (mth : Int) (mn : Int) (mp : Int) (mw : Int) (mu : Int) (md : Int) (mo : Int) (y1 : Int → Int) (y2 : Int → Int) (y3 : Int → Int) (y4 : Int → Int) (y5 : Int → Int) (z1 : Int) (z2 : Int) (z3 : Int) : f_XM_spanP mth mn mp mw mu md mo y1 y2 y3 y4 y5 z1 z2 z3 = (
    if (f_XM_isTold mth mn mp mw mu md mo y1 z1) = 0 then
      f_XM_spanP_J30 mth mn mp mw mu md mo y1 y2 y3 y4 y5 z1 z2 z3 0
    else
      if (f_XM_isElement z2) = 0 then
        f_XM_spanP_J30 mth mn mp mw mu md mo y1 y2 y3 y4 y5 z1 z2 z3 0
      else
        if (f_XM_in z3 0 1) = 0 then
          f_XM_spanP_J30 mth mn mp mw mu md mo y1 y2 y3 y4 y5 z1 z2 z3 0
        else
          f_XM_spanP_J30 mth mn mp mw mu md mo y1 y2 y3 y4 y5 z1 z2 z3 1
  : Int × Int) := by rw [f_XM_spanP_q]; rfl
set_option maxHeartbeats 4000000 in
set_option maxRecDepth 100000 in
theorem c_XM_spanP (l : Launch) (dC : Nat → ClassId) (dI : Nat → Nat → Nat) (cA cZ : ClassId) (sz : Nat) (ma : Nat) (a0 : Nat) (a1 : Nat) (a2 : Nat) (a3 : Nat) (a4 : Nat) (a5 : Nat) (a6 : Nat) (a7 : Nat) (a8 : Nat) (a9 : Nat) (a10 : Nat) (a11 : Nat) (mth : Int) (mn : Int) (mp : Int) (mw : Int) (mu : Int) (md : Int) (mo : Int) (y1 : Int → Int) (y2 : Int → Int) (y3 : Int → Int) (y4 : Int → Int) (y5 : Int → Int) (z1 : Int) (z2 : Int) (z3 : Int) (hy1 : ∀ i, 0 ≤ y1 i ∧ y1 i ≤ 1) (hy2 : ∀ i, 0 ≤ y2 i ∧ y2 i ≤ 30) (hy3 : ∀ i, 0 ≤ y3 i ∧ y3 i ≤ 1) (hy4 : ∀ i, 0 ≤ y4 i ∧ y4 i ≤ 100000) (hy5 : ∀ i, 0 ≤ y5 i ∧ y5 i ≤ 100000) (hiz1 : i32 z1) (hiz2 : i32 z2) (hiz3 : i32 z3) : Met l yXM_span (Cond.code yXM_span cXM_span 4 (some .int) :: TBL) ({ frames := 5, cells := 0, slots := 0, locals := 110 } : Room) (va_Pc [.ref ma, .int (jI z1), .int (jI z2), .int (jI z3)] (jBw (dC, dI) [(cA, .int), (cZ, .boolean)] [(ma, .inr (5, [.int (jI mth), .int (jI mn), .ref a0, .int (jI mp), .int (jI mw), .ref a1, .ref a2, .ref a3, .ref a4, .ref a5, .ref a6, .ref a7, .ref a8, .ref a9, .ref a10, .long (jL mu), .long (jL md), .int (jI mo), .ref a11])), (a1, .inl (cZ, 62, .inl (jA y1))), (a2, .inl (cA, 62, .inl (jA y2))), (a3, .inl (cZ, 496, .inl (jA y3))), (a4, .inl (cA, 496, .inl (jA y4))), (a5, .inl (cA, 496, .inl (jA y5)))] sz)) (va_Qi (fun (r : Int32) (u : Int × Int) => r = jI u.1 ∧ u = f_XM_spanP mth mn mp mw mu md mo y1 y2 y3 y4 y5 z1 z2 z3 ∧ (0 ≤ u.1 ∧ u.1 ≤ 100000)) (fun u t => jE (dC, dI) [(cA, .int), (cZ, .boolean)] [(ma, .inr (5, [.int (jI mth), .int (jI mn), .ref a0, .int (jI mp), .int (jI mw), .ref a1, .ref a2, .ref a3, .ref a4, .ref a5, .ref a6, .ref a7, .ref a8, .ref a9, .ref a10, .long (jL mu), .long (jL md), .int (jI mo), .ref a11])), (a1, .inl (cZ, 62, .inl (jA y1))), (a2, .inl (cA, 62, .inl (jA y2))), (a3, .inl (cZ, 496, .inl (jA y3))), (a4, .inl (cA, 496, .inl (jA y4))), (a5, .inl (cA, 496, .inl (jA y5)))] sz [(ma, .inr (5, [.int (jI u.2), .int (jI mn), .ref a0, .int (jI mp), .int (jI mw), .ref a1, .ref a2, .ref a3, .ref a4, .ref a5, .ref a6, .ref a7, .ref a8, .ref a9, .ref a10, .long (jL mu), .long (jL md), .int (jI mo), .ref a11])), (a1, .inl (cZ, 62, .inl (jA y1))), (a2, .inl (cA, 62, .inl (jA y2))), (a3, .inl (cZ, 496, .inl (jA y3))), (a4, .inl (cA, 496, .inl (jA y4))), (a5, .inl (cA, 496, .inl (jA y5)))] t) (va_A [(ma, .inr (5, [.int (jI mth), .int (jI mn), .ref a0, .int (jI mp), .int (jI mw), .ref a1, .ref a2, .ref a3, .ref a4, .ref a5, .ref a6, .ref a7, .ref a8, .ref a9, .ref a10, .long (jL mu), .long (jL md), .int (jI mo), .ref a11])), (a1, .inl (cZ, 62, .inl (jA y1))), (a2, .inl (cA, 62, .inl (jA y2))), (a3, .inl (cZ, 496, .inl (jA y3))), (a4, .inl (cA, 496, .inl (jA y4))), (a5, .inl (cA, 496, .inl (jA y5)))] sz)) 0 0 (va_A [(ma, .inr (5, [.int (jI mth), .int (jI mn), .ref a0, .int (jI mp), .int (jI mw), .ref a1, .ref a2, .ref a3, .ref a4, .ref a5, .ref a6, .ref a7, .ref a8, .ref a9, .ref a10, .long (jL mu), .long (jL md), .int (jI mo), .ref a11])), (a1, .inl (cZ, 62, .inl (jA y1))), (a2, .inl (cA, 62, .inl (jA y2))), (a3, .inl (cZ, 496, .inl (jA y3))), (a4, .inl (cA, 496, .inl (jA y4))), (a5, .inl (cA, 496, .inl (jA y5)))] sz) := by
  refine jMet (cc := cXM_span) (maxL := 4) (ret := some .int) (by decide) rfl ?_
  intro p e s m args below meth c s₁ R Q hR hQ B hml hv
  obtain ⟨rfl, hsz, hP, hK, hD0, hN⟩ := hv
  have hx := B.exec
  have hb := B.bytes
  have hr := B.returns
  have hts := atoms_spec (ws := Cond.code yXM_span cXM_span 4 (some .int) :: TBL) B.pre
  have hown : s.vm.findClass RXM = some m.cls := findClass_of_methodNamed B.named
  have hlocks := B.notSynchronized
  subst hsz
  obtain ⟨A, hAe⟩ : ∃ A, A = va_A [(ma, .inr (5, [.int (jI mth), .int (jI mn), .ref a0, .int (jI mp), .int (jI mw), .ref a1, .ref a2, .ref a3, .ref a4, .ref a5, .ref a6, .ref a7, .ref a8, .ref a9, .ref a10, .long (jL mu), .long (jL md), .int (jI mo), .ref a11])), (a1, .inl (cZ, 62, .inl (jA y1))), (a2, .inl (cA, 62, .inl (jA y2))), (a3, .inl (cZ, 496, .inl (jA y3))), (a4, .inl (cA, 496, .inl (jA y4))), (a5, .inl (cA, 496, .inl (jA y5)))] s.heap.size := ⟨_, rfl⟩
  have hD : va_D A [(ma, .inr (5, [.int (jI mth), .int (jI mn), .ref a0, .int (jI mp), .int (jI mw), .ref a1, .ref a2, .ref a3, .ref a4, .ref a5, .ref a6, .ref a7, .ref a8, .ref a9, .ref a10, .long (jL mu), .long (jL md), .int (jI mo), .ref a11])), (a1, .inl (cZ, 62, .inl (jA y1))), (a2, .inl (cA, 62, .inl (jA y2))), (a3, .inl (cZ, 496, .inl (jA y3))), (a4, .inl (cA, 496, .inl (jA y4))), (a5, .inl (cA, 496, .inl (jA y5)))] := by rw [hAe]; exact hD0.self
  have hA : ∀ q : Nat, s.heap.size ≤ q → A q := fun q h => by rw [hAe]; exact Or.inr h
  have hS : va_S A s.heap s.heap [] := va_S.rf
  have hP : va_P (dC, dI) vwCl [(ma, .inr (5, [.int (jI mth), .int (jI mn), .ref a0, .int (jI mp), .int (jI mw), .ref a1, .ref a2, .ref a3, .ref a4, .ref a5, .ref a6, .ref a7, .ref a8, .ref a9, .ref a10, .long (jL mu), .long (jL md), .int (jI mo), .ref a11])), (a1, .inl (cZ, 62, .inl (jA y1))), (a2, .inl (cA, 62, .inl (jA y2))), (a3, .inl (cZ, 496, .inl (jA y3))), (a4, .inl (cA, 496, .inl (jA y4))), (a5, .inl (cA, 496, .inl (jA y5)))] s.heap := hP
  have hl := lv_entry ([.ref ma, .int (jI z1), .int (jI z2), .int (jI z3)]) (n := 4) (Nat.le_of_ble_eq_true rfl)
  rw [lg_entry_eq]
  generalize (lg_sl ([.ref ma, .int (jI z1), .int (jI z2), .int (jI z3)]) ++ List.replicate (4 - (lg_sl ([.ref ma, .int (jI z1), .int (jI z2), .int (jI z3)])).length) Slot.unset).toArray = ls at hl ⊢
  have hl : lv_has ls 4 [(0, .ref ma), (1, .int (jI z1)), (2, .int (jI z2)), (3, .int (jI z3))] := hl
  refine lv_aload_n hx hb dXM_span_0 rfl (lv_at hl 0 rfl) ?_
  have join30 : ∀ (jc : Int) , f_XM_spanP_J30 mth mn mp mw mu md mo y1 y2 y3 y4 y5 z1 z2 z3 jc = f_XM_spanP mth mn mp mw mu md mo y1 y2 y3 y4 y5 z1 z2 z3 → ((jc = 0) ∨ (jc = 1 ∧ 1 ≤ z1 ∧ z1 ≤ 30 ∧ 0 ≤ z2 ∧ z2 ≤ 7 ∧ 0 ≤ z3 ∧ z3 ≤ 1)) → ∀ (H : Heap) (locs : List Loc), va_P (dC, dI) vwCl [(ma, .inr (5, [.int (jI mth), .int (jI mn), .ref a0, .int (jI mp), .int (jI mw), .ref a1, .ref a2, .ref a3, .ref a4, .ref a5, .ref a6, .ref a7, .ref a8, .ref a9, .ref a10, .long (jL mu), .long (jL md), .int (jI mo), .ref a11])), (a1, .inl (cZ, 62, .inl (jA y1))), (a2, .inl (cA, 62, .inl (jA y2))), (a3, .inl (cZ, 496, .inl (jA y3))), (a4, .inl (cA, 496, .inl (jA y4))), (a5, .inl (cA, 496, .inl (jA y5)))] H → va_D A [(ma, .inr (5, [.int (jI mth), .int (jI mn), .ref a0, .int (jI mp), .int (jI mw), .ref a1, .ref a2, .ref a3, .ref a4, .ref a5, .ref a6, .ref a7, .ref a8, .ref a9, .ref a10, .long (jL mu), .long (jL md), .int (jI mo), .ref a11])), (a1, .inl (cZ, 62, .inl (jA y1))), (a2, .inl (cA, 62, .inl (jA y2))), (a3, .inl (cZ, 496, .inl (jA y3))), (a4, .inl (cA, 496, .inl (jA y4))), (a5, .inl (cA, 496, .inl (jA y5)))] → va_S A s.heap H locs → ∀ ls : Array Slot, lv_has ls 4 [(0, .ref ma), (1, .int (jI z1)), (2, .int (jI z2)), (3, .int (jI z3))] → W p l e R s m ([.ref ma, .int (jI z1), .int (jI z2), .int (jI z3)] : List Value).toArray below meth c H locs 0 0 Q (F0 m 30 ls [.int (jI jc), .ref ma]) := by
    intro jc hF hjc H locs hP hD hS ls hl
    refine ji_iconst hx hb dXM_span_30 ?_
    refine jwVi (rest := []) (wr := [(a1, .inl (cZ, 62, .inl (jA y1))), (a2, .inl (cA, 62, .inl (jA y2))), (a3, .inl (cZ, 496, .inl (jA y3))), (a4, .inl (cA, 496, .inl (jA y4))), (a5, .inl (cA, 496, .inl (jA y5)))]) ⟨hx, hb, hml, hown, hts⟩ (c_XM_goesP l dC dI cA cZ _ ma a0 a1 a2 a3 a4 a5 a6 a7 a8 a9 a10 a11 mth mn mp mw mu md mo jc 1 (by first | assumption | omega) (by first | assumption | omega)) (cwV 2 hts (jG_V tw_698 tw_700 ts_14 tw_6 tw_701) rfl rfl rfl (by decide +kernel) (by rw [hR]; exact ⟨Nat.le_of_ble_eq_true rfl, Nat.le_of_ble_eq_true rfl⟩)) hK hP hD hS hA hN [0] [1, 2, 3, 4, 5] rfl rfl (by decide) (by decide) (by decide) 0 5 rfl rfl rfl rfl hl.1 rfl (Nat.le_of_ble_eq_true rfl) dXM_span_31 (by rw [hR]; exact ⟨Nat.le_of_ble_eq_true rfl, Nat.le_of_ble_eq_true rfl⟩) (fun v u H locs hwb hP hD hS => ?_)
    obtain ⟨r, mth1'⟩ := u
    try dsimp only at hwb
    obtain ⟨er, hwb, f⟩ := hwb
    subst er
    have f : (r = 0 ∧ mth1' = 1 ∧ jc = 0) ∨ (r = 0 ∧ mth1' = 2 ∧ jc = 1 ∧ (1 : Int) = 0) ∨ (r = 1 ∧ mth1' = 0 ∧ jc = 1 ∧ (1 : Int) = 1) := f
    have hP : va_P (dC, dI) vwCl [(a1, .inl (cZ, 62, .inl (jA y1))), (a2, .inl (cA, 62, .inl (jA y2))), (a3, .inl (cZ, 496, .inl (jA y3))), (a4, .inl (cA, 496, .inl (jA y4))), (a5, .inl (cA, 496, .inl (jA y5))), (ma, .inr (5, [.int (jI mth1'), .int (jI mn), .ref a0, .int (jI mp), .int (jI mw), .ref a1, .ref a2, .ref a3, .ref a4, .ref a5, .ref a6, .ref a7, .ref a8, .ref a9, .ref a10, .long (jL mu), .long (jL md), .int (jI mo), .ref a11]))] H := hP
    have hD : va_D A [(a1, .inl (cZ, 62, .inl (jA y1))), (a2, .inl (cA, 62, .inl (jA y2))), (a3, .inl (cZ, 496, .inl (jA y3))), (a4, .inl (cA, 496, .inl (jA y4))), (a5, .inl (cA, 496, .inl (jA y5))), (ma, .inr (5, [.int (jI mth1'), .int (jI mn), .ref a0, .int (jI mp), .int (jI mw), .ref a1, .ref a2, .ref a3, .ref a4, .ref a5, .ref a6, .ref a7, .ref a8, .ref a9, .ref a10, .long (jL mu), .long (jL md), .int (jI mo), .ref a11]))] := hD
    refine ji_if_ne (tgt := 39) hx hb dXM_span_34 (by decide) (by omega) (fun c34_ => ?_) (fun c34_ => ?_)
    · refine lv_iload_n hx hb dXM_span_39 rfl (lv_at hl 3 rfl) ?_
      refine ji_if_ne (tgt := 52) hx hb dXM_span_40 (by decide) (by omega) (fun c40_ => ?_) (fun c40_ => ?_)
      · refine lv_aload_n hx hb dXM_span_52 rfl (lv_at hl 0 rfl) ?_
        refine lv_iload_n hx hb dXM_span_53 rfl (lv_at hl 1 rfl) ?_
        refine lv_iload_n hx hb dXM_span_54 rfl (lv_at hl 2 rfl) ?_
        refine jrVi (rest := []) ⟨hx, hb, hml, hown, hts⟩ (c_XM_highOfP l dC dI cA cZ ma a0 a1 a2 a3 a4 a5 a6 a7 a8 a9 a10 a11 mth1' mn mp mw mu md mo y1 y2 y3 y5 z1 z2 (by first | assumption | omega) (by first | assumption | omega) (by first | assumption | omega) (by first | assumption | omega) (by first | assumption | omega) (by first | assumption | omega)) (cwV 2 hts (jG_V tw_787 tw_789 ts_33 tw_6 tw_790) rfl rfl rfl (by decide +kernel) (by rw [hR]; exact ⟨Nat.le_of_ble_eq_true rfl, Nat.le_of_ble_eq_true rfl⟩)) hK hP hN [5, 0, 1, 2, 4] rfl 5 5 rfl rfl rfl rfl hl.1 rfl (Nat.le_of_ble_eq_true rfl) dXM_span_55 (by rw [hR]; exact ⟨Nat.le_of_ble_eq_true rfl, Nat.le_of_ble_eq_true rfl⟩) ?_
        have f1 := f_XM_highOfP_b mth1' mn mp mw mu md mo y1 y2 y3 y5 z1 z2 (by first | assumption | omega) (by first | assumption | omega) (by first | assumption | omega) (by first | assumption | omega) (by first | assumption | omega) (by first | assumption | omega)
        have hP9 := hP.sub (ws' := [(ma, .inr (5, [.int (jI mth1'), .int (jI mn), .ref a0, .int (jI mp), .int (jI mw), .ref a1, .ref a2, .ref a3, .ref a4, .ref a5, .ref a6, .ref a7, .ref a8, .ref a9, .ref a10, .long (jL mu), .long (jL md), .int (jI mo), .ref a11])), (a1, .inl (cZ, 62, .inl (jA y1))), (a2, .inl (cA, 62, .inl (jA y2))), (a3, .inl (cZ, 496, .inl (jA y3))), (a4, .inl (cA, 496, .inl (jA y4))), (a5, .inl (cA, 496, .inl (jA y5)))]) [5, 0, 1, 2, 3, 4] rfl
        have hD9 := hD.sub (ws' := [(ma, .inr (5, [.int (jI mth1'), .int (jI mn), .ref a0, .int (jI mp), .int (jI mw), .ref a1, .ref a2, .ref a3, .ref a4, .ref a5, .ref a6, .ref a7, .ref a8, .ref a9, .ref a10, .long (jL mu), .long (jL md), .int (jI mo), .ref a11])), (a1, .inl (cZ, 62, .inl (jA y1))), (a2, .inl (cA, 62, .inl (jA y2))), (a3, .inl (cZ, 496, .inl (jA y3))), (a4, .inl (cA, 496, .inl (jA y4))), (a5, .inl (cA, 496, .inl (jA y5)))]) [5, 0, 1, 2, 3, 4] (by decide) rfl
        subst hAe
        subst hQ
        exact W.iret (v := jI (f_XM_highOfP mth1' mn mp mw mu md mo y1 y2 y3 y5 z1 z2)) hx hb hr (fun t ht hW => ⟨⟨_, (f_XM_highOfP mth1' mn mp mw mu md mo y1 y2 y3 y5 z1 z2, mth1'), rfl, ⟨rfl, Eq.trans (by rw [f_XM_spanP_J30_s]; rw [← hwb]; try dsimp only; rw [if_neg c34_, if_neg c40_]; try rfl) hF, show 0 ≤ (f_XM_highOfP mth1' mn mp mw mu md mo y1 y2 y3 y5 z1 z2) ∧ (f_XM_highOfP mth1' mn mp mw mu md mo y1 y2 y3 y5 z1 z2) ≤ 100000 from by first | assumption | omega | exact jset_b (by assumption) (by omega) | exact jset_l (by assumption) (by omega) | exact jset_l (fun _ _ => rfl) (by omega) | exact fun _ _ => rfl | exact l_trans (by assumption) (by assumption)⟩, ⟨by rw [ht]; exact hP9, va_K.moved hW.alike hK, hD9⟩⟩, hS.F ht⟩) hS.2.2 dXM_span_58
      · refine lv_aload_n hx hb dXM_span_43 rfl (lv_at hl 0 rfl) ?_
        refine lv_iload_n hx hb dXM_span_44 rfl (lv_at hl 1 rfl) ?_
        refine lv_iload_n hx hb dXM_span_45 rfl (lv_at hl 2 rfl) ?_
        refine jrVi (rest := []) ⟨hx, hb, hml, hown, hts⟩ (c_XM_lowOfP l dC dI cA cZ ma a0 a1 a2 a3 a4 a5 a6 a7 a8 a9 a10 a11 mth1' mn mp mw mu md mo y1 y2 y3 y4 z1 z2 (by first | assumption | omega) (by first | assumption | omega) (by first | assumption | omega) (by first | assumption | omega) (by first | assumption | omega) (by first | assumption | omega)) (cwV 2 hts (jG_V tw_775 tw_777 ts_30 tw_6 tw_778) rfl rfl rfl (by decide +kernel) (by rw [hR]; exact ⟨Nat.le_of_ble_eq_true rfl, Nat.le_of_ble_eq_true rfl⟩)) hK hP hN [5, 0, 1, 2, 3] rfl 5 5 rfl rfl rfl rfl hl.1 rfl (Nat.le_of_ble_eq_true rfl) dXM_span_46 (by rw [hR]; exact ⟨Nat.le_of_ble_eq_true rfl, Nat.le_of_ble_eq_true rfl⟩) ?_
        have f2 := f_XM_lowOfP_b mth1' mn mp mw mu md mo y1 y2 y3 y4 z1 z2 (by first | assumption | omega) (by first | assumption | omega) (by first | assumption | omega) (by first | assumption | omega) (by first | assumption | omega) (by first | assumption | omega)
        refine lv_goto (tgt := 58) hx hb dXM_span_49 (by decide) ?_
        have hP9 := hP.sub (ws' := [(ma, .inr (5, [.int (jI mth1'), .int (jI mn), .ref a0, .int (jI mp), .int (jI mw), .ref a1, .ref a2, .ref a3, .ref a4, .ref a5, .ref a6, .ref a7, .ref a8, .ref a9, .ref a10, .long (jL mu), .long (jL md), .int (jI mo), .ref a11])), (a1, .inl (cZ, 62, .inl (jA y1))), (a2, .inl (cA, 62, .inl (jA y2))), (a3, .inl (cZ, 496, .inl (jA y3))), (a4, .inl (cA, 496, .inl (jA y4))), (a5, .inl (cA, 496, .inl (jA y5)))]) [5, 0, 1, 2, 3, 4] rfl
        have hD9 := hD.sub (ws' := [(ma, .inr (5, [.int (jI mth1'), .int (jI mn), .ref a0, .int (jI mp), .int (jI mw), .ref a1, .ref a2, .ref a3, .ref a4, .ref a5, .ref a6, .ref a7, .ref a8, .ref a9, .ref a10, .long (jL mu), .long (jL md), .int (jI mo), .ref a11])), (a1, .inl (cZ, 62, .inl (jA y1))), (a2, .inl (cA, 62, .inl (jA y2))), (a3, .inl (cZ, 496, .inl (jA y3))), (a4, .inl (cA, 496, .inl (jA y4))), (a5, .inl (cA, 496, .inl (jA y5)))]) [5, 0, 1, 2, 3, 4] (by decide) rfl
        subst hAe
        subst hQ
        exact W.iret (v := jI (f_XM_lowOfP mth1' mn mp mw mu md mo y1 y2 y3 y4 z1 z2)) hx hb hr (fun t ht hW => ⟨⟨_, (f_XM_lowOfP mth1' mn mp mw mu md mo y1 y2 y3 y4 z1 z2, mth1'), rfl, ⟨rfl, Eq.trans (by rw [f_XM_spanP_J30_s]; rw [← hwb]; try dsimp only; rw [if_neg c34_, if_pos c40_]; try rfl) hF, show 0 ≤ (f_XM_lowOfP mth1' mn mp mw mu md mo y1 y2 y3 y4 z1 z2) ∧ (f_XM_lowOfP mth1' mn mp mw mu md mo y1 y2 y3 y4 z1 z2) ≤ 100000 from by first | assumption | omega | exact jset_b (by assumption) (by omega) | exact jset_l (by assumption) (by omega) | exact jset_l (fun _ _ => rfl) (by omega) | exact fun _ _ => rfl | exact l_trans (by assumption) (by assumption)⟩, ⟨by rw [ht]; exact hP9, va_K.moved hW.alike hK, hD9⟩⟩, hS.F ht⟩) hS.2.2 dXM_span_58
    · refine ji_iconst hx hb dXM_span_37 ?_
      have hP9 := hP.sub (ws' := [(ma, .inr (5, [.int (jI mth1'), .int (jI mn), .ref a0, .int (jI mp), .int (jI mw), .ref a1, .ref a2, .ref a3, .ref a4, .ref a5, .ref a6, .ref a7, .ref a8, .ref a9, .ref a10, .long (jL mu), .long (jL md), .int (jI mo), .ref a11])), (a1, .inl (cZ, 62, .inl (jA y1))), (a2, .inl (cA, 62, .inl (jA y2))), (a3, .inl (cZ, 496, .inl (jA y3))), (a4, .inl (cA, 496, .inl (jA y4))), (a5, .inl (cA, 496, .inl (jA y5)))]) [5, 0, 1, 2, 3, 4] rfl
      have hD9 := hD.sub (ws' := [(ma, .inr (5, [.int (jI mth1'), .int (jI mn), .ref a0, .int (jI mp), .int (jI mw), .ref a1, .ref a2, .ref a3, .ref a4, .ref a5, .ref a6, .ref a7, .ref a8, .ref a9, .ref a10, .long (jL mu), .long (jL md), .int (jI mo), .ref a11])), (a1, .inl (cZ, 62, .inl (jA y1))), (a2, .inl (cA, 62, .inl (jA y2))), (a3, .inl (cZ, 496, .inl (jA y3))), (a4, .inl (cA, 496, .inl (jA y4))), (a5, .inl (cA, 496, .inl (jA y5)))]) [5, 0, 1, 2, 3, 4] (by decide) rfl
      subst hAe
      subst hQ
      exact W.iret (v := jI 0) hx hb hr (fun t ht hW => ⟨⟨_, (0, mth1'), rfl, ⟨rfl, Eq.trans (by rw [f_XM_spanP_J30_s]; rw [← hwb]; try dsimp only; rw [if_pos c34_]; try rfl) hF, show 0 ≤ 0 ∧ 0 ≤ 100000 from by first | assumption | omega | exact jset_b (by assumption) (by omega) | exact jset_l (by assumption) (by omega) | exact jset_l (fun _ _ => rfl) (by omega) | exact fun _ _ => rfl | exact l_trans (by assumption) (by assumption)⟩, ⟨by rw [ht]; exact hP9, va_K.moved hW.alike hK, hD9⟩⟩, hS.F ht⟩) hS.2.2 dXM_span_38
  refine lv_aload_n hx hb dXM_span_1 rfl (lv_at hl 0 rfl) ?_
  refine lv_iload_n hx hb dXM_span_2 rfl (lv_at hl 1 rfl) ?_
  refine jrVi (rest := [.ref ma]) ⟨hx, hb, hml, hown, hts⟩ (c_XM_isTold l dC dI cA cZ ma a0 a1 a2 a3 a4 a5 a6 a7 a8 a9 a10 a11 mth mn mp mw mu md mo y1 z1 (by first | assumption | omega) (by first | assumption | omega)) (cwV 1 hts (jG_V tw_768 tw_770 ts_29 tw_6 tw_771) rfl rfl rfl (by decide +kernel) (by rw [hR]; exact ⟨Nat.le_of_ble_eq_true rfl, Nat.le_of_ble_eq_true rfl⟩)) hK hP hN [0, 1] rfl 0 5 rfl rfl rfl rfl hl.1 rfl (Nat.le_of_ble_eq_true rfl) dXM_span_3 (by rw [hR]; exact ⟨Nat.le_of_ble_eq_true rfl, Nat.le_of_ble_eq_true rfl⟩) ?_
  have f3 := f_XM_isTold_b mth mn mp mw mu md mo y1 z1 (by first | assumption | omega) (by first | assumption | omega)
  refine ji_if_eq (tgt := 29) hx hb dXM_span_6 (by decide) (by omega) (fun c6_ => ?_) (fun c6_ => ?_)
  · refine ji_iconst hx hb dXM_span_29 ?_
    exact join30 0 (Eq.trans (by rw [f_XM_spanP_s]; rw [if_pos c6_]; try rfl) rfl) (by first | assumption | omega | exact jset_b (by assumption) (by omega)) _ _ hP hD hS ls (lv_sub hl [0, 1, 2, 3] rfl)
  · refine lv_iload_n hx hb dXM_span_9 rfl (lv_at hl 2 rfl) ?_
    refine jrSi (rest := [.ref ma]) ⟨hx, hb, hml, hown, hts⟩ (c_XM_isElement l dC dI cA cZ z2 (by first | assumption | omega)) (cwS 1 hts (jG_S tw_772 tw_773 tw_6 tw_774) rfl rfl rfl (by decide +kernel) (by rw [hR]; exact ⟨Nat.le_of_ble_eq_true rfl, Nat.le_of_ble_eq_true rfl⟩)) hK hP hN [] rfl rfl hl.1 rfl (Nat.le_of_ble_eq_true rfl) dXM_span_10 (by rw [hR]; exact ⟨Nat.le_of_ble_eq_true rfl, Nat.le_of_ble_eq_true rfl⟩) ?_
    have f4 := f_XM_isElement_b z2 (by first | assumption | omega)
    refine ji_if_eq (tgt := 29) hx hb dXM_span_13 (by decide) (by omega) (fun c13_ => ?_) (fun c13_ => ?_)
    · refine ji_iconst hx hb dXM_span_29 ?_
      exact join30 0 (Eq.trans (by rw [f_XM_spanP_s]; rw [if_neg c6_, if_pos c13_]; try rfl) rfl) (by first | assumption | omega | exact jset_b (by assumption) (by omega)) _ _ hP hD hS ls (lv_sub hl [0, 1, 2, 3] rfl)
    · refine lv_iload_n hx hb dXM_span_16 rfl (lv_at hl 3 rfl) ?_
      refine ji_iconst hx hb dXM_span_17 ?_
      refine ji_iconst hx hb dXM_span_18 ?_
      refine jrSi (rest := [.ref ma]) ⟨hx, hb, hml, hown, hts⟩ (c_XM_in l dC dI cA cZ z3 0 1 (by first | assumption | omega) (by first | assumption | omega) (by first | assumption | omega)) (cwS 3 hts (jG_S tw_695 tw_696 tw_6 tw_697) rfl rfl rfl (by decide +kernel) (by rw [hR]; exact ⟨Nat.le_of_ble_eq_true rfl, Nat.le_of_ble_eq_true rfl⟩)) hK hP hN [] rfl rfl hl.1 rfl (Nat.le_of_ble_eq_true rfl) dXM_span_19 (by rw [hR]; exact ⟨Nat.le_of_ble_eq_true rfl, Nat.le_of_ble_eq_true rfl⟩) ?_
      have f5 := f_XM_in_b z3 0 1 (by first | assumption | omega) (by first | assumption | omega) (by first | assumption | omega)
      refine ji_if_eq (tgt := 29) hx hb dXM_span_22 (by decide) (by omega) (fun c22_ => ?_) (fun c22_ => ?_)
      · refine ji_iconst hx hb dXM_span_29 ?_
        exact join30 0 (Eq.trans (by rw [f_XM_spanP_s]; rw [if_neg c6_, if_neg c13_, if_pos c22_]; try rfl) rfl) (by first | assumption | omega | exact jset_b (by assumption) (by omega)) _ _ hP hD hS ls (lv_sub hl [0, 1, 2, 3] rfl)
      · refine ji_iconst hx hb dXM_span_25 ?_
        refine lv_goto (tgt := 30) hx hb dXM_span_26 (by decide) ?_
        exact join30 1 (Eq.trans (by rw [f_XM_spanP_s]; rw [if_neg c6_, if_neg c13_, if_neg c22_]; try rfl) rfl) (by first | assumption | omega | exact jset_b (by assumption) (by omega)) _ _ hP hD hS ls (lv_sub hl [0, 1, 2, 3] rfl)
noncomputable def g_XM_limitP_J21 (mth : Int) (mn : Int) (mp : Int) (mw : Int) (mu : Int) (md : Int) (mo : Int) (y1 : Int → Int) (y2 : Int → Int) (y7 : Int → Int) (z1 : Int) (z2 : Int) (jc : Int) : Int × Int :=
  match f_XM_goesP mth mn mp mw mu md mo jc 1 with
  | (r, mth1') =>
    if r = 0 then
      (0, mth1')
    else
      (f_XM_limitOfP mth1' mn mp mw mu md mo y1 y2 y7 z1 z2, mth1')
noncomputable def f_XM_limitP_J21 : Int → Int → Int → Int → Int → Int → Int → (Int → Int) → (Int → Int) → (Int → Int) → Int → Int → Int → Int × Int := jopq g_XM_limitP_J21
theorem f_XM_limitP_J21_q : f_XM_limitP_J21 = g_XM_limitP_J21 := jopq_eq _
theorem f_XM_limitP_J21_s (mth : Int) (mn : Int) (mp : Int) (mw : Int) (mu : Int) (md : Int) (mo : Int) (y1 : Int → Int) (y2 : Int → Int) (y7 : Int → Int) (z1 : Int) (z2 : Int) (jc : Int) : f_XM_limitP_J21 mth mn mp mw mu md mo y1 y2 y7 z1 z2 jc = (
    match f_XM_goesP mth mn mp mw mu md mo jc 1 with
    | (r, mth1') =>
      if r = 0 then
        (0, mth1')
      else
        (f_XM_limitOfP mth1' mn mp mw mu md mo y1 y2 y7 z1 z2, mth1')
  : Int × Int) := by rw [f_XM_limitP_J21_q]; rfl
noncomputable def g_XM_limitP (mth : Int) (mn : Int) (mp : Int) (mw : Int) (mu : Int) (md : Int) (mo : Int) (y1 : Int → Int) (y2 : Int → Int) (y7 : Int → Int) (z1 : Int) (z2 : Int) : Int × Int :=
  if (f_XM_isTold mth mn mp mw mu md mo y1 z1) = 0 then
    f_XM_limitP_J21 mth mn mp mw mu md mo y1 y2 y7 z1 z2 0
  else
    if (f_XM_isKind z2) = 0 then
      f_XM_limitP_J21 mth mn mp mw mu md mo y1 y2 y7 z1 z2 0
    else
      f_XM_limitP_J21 mth mn mp mw mu md mo y1 y2 y7 z1 z2 1
noncomputable def f_XM_limitP : Int → Int → Int → Int → Int → Int → Int → (Int → Int) → (Int → Int) → (Int → Int) → Int → Int → Int × Int := jopq g_XM_limitP
theorem f_XM_limitP_q : f_XM_limitP = g_XM_limitP := jopq_eq _
theorem f_XM_limitP_s (mth : Int) (mn : Int) (mp : Int) (mw : Int) (mu : Int) (md : Int) (mo : Int) (y1 : Int → Int) (y2 : Int → Int) (y7 : Int → Int) (z1 : Int) (z2 : Int) : f_XM_limitP mth mn mp mw mu md mo y1 y2 y7 z1 z2 = (
    if (f_XM_isTold mth mn mp mw mu md mo y1 z1) = 0 then
      f_XM_limitP_J21 mth mn mp mw mu md mo y1 y2 y7 z1 z2 0
    else
      if (f_XM_isKind z2) = 0 then
        f_XM_limitP_J21 mth mn mp mw mu md mo y1 y2 y7 z1 z2 0
      else
        f_XM_limitP_J21 mth mn mp mw mu md mo y1 y2 y7 z1 z2 1
  : Int × Int) := by rw [f_XM_limitP_q]; rfl
set_option maxHeartbeats 4000000 in
set_option maxRecDepth 100000 in
theorem c_XM_limitP (l : Launch) (dC : Nat → ClassId) (dI : Nat → Nat → Nat) (cA cZ : ClassId) (sz : Nat) (ma : Nat) (a0 : Nat) (a1 : Nat) (a2 : Nat) (a3 : Nat) (a4 : Nat) (a5 : Nat) (a6 : Nat) (a7 : Nat) (a8 : Nat) (a9 : Nat) (a10 : Nat) (a11 : Nat) (mth : Int) (mn : Int) (mp : Int) (mw : Int) (mu : Int) (md : Int) (mo : Int) (y1 : Int → Int) (y2 : Int → Int) (y7 : Int → Int) (z1 : Int) (z2 : Int) (hy1 : ∀ i, 0 ≤ y1 i ∧ y1 i ≤ 1) (hy2 : ∀ i, 0 ≤ y2 i ∧ y2 i ≤ 30) (hy7 : ∀ i, -1 ≤ y7 i ∧ y7 i ≤ 999999) (hiz1 : i32 z1) (hiz2 : i32 z2) : Met l yXM_limit (Cond.code yXM_limit cXM_limit 3 (some .int) :: TBL) ({ frames := 5, cells := 0, slots := 0, locals := 110 } : Room) (va_Pc [.ref ma, .int (jI z1), .int (jI z2)] (jBw (dC, dI) [(cA, .int), (cZ, .boolean)] [(ma, .inr (5, [.int (jI mth), .int (jI mn), .ref a0, .int (jI mp), .int (jI mw), .ref a1, .ref a2, .ref a3, .ref a4, .ref a5, .ref a6, .ref a7, .ref a8, .ref a9, .ref a10, .long (jL mu), .long (jL md), .int (jI mo), .ref a11])), (a1, .inl (cZ, 62, .inl (jA y1))), (a2, .inl (cA, 62, .inl (jA y2))), (a7, .inl (cA, 248, .inl (jA y7)))] sz)) (va_Qi (fun (r : Int32) (u : Int × Int) => r = jI u.1 ∧ u = f_XM_limitP mth mn mp mw mu md mo y1 y2 y7 z1 z2 ∧ (-1 ≤ u.1 ∧ u.1 ≤ 999999)) (fun u t => jE (dC, dI) [(cA, .int), (cZ, .boolean)] [(ma, .inr (5, [.int (jI mth), .int (jI mn), .ref a0, .int (jI mp), .int (jI mw), .ref a1, .ref a2, .ref a3, .ref a4, .ref a5, .ref a6, .ref a7, .ref a8, .ref a9, .ref a10, .long (jL mu), .long (jL md), .int (jI mo), .ref a11])), (a1, .inl (cZ, 62, .inl (jA y1))), (a2, .inl (cA, 62, .inl (jA y2))), (a7, .inl (cA, 248, .inl (jA y7)))] sz [(ma, .inr (5, [.int (jI u.2), .int (jI mn), .ref a0, .int (jI mp), .int (jI mw), .ref a1, .ref a2, .ref a3, .ref a4, .ref a5, .ref a6, .ref a7, .ref a8, .ref a9, .ref a10, .long (jL mu), .long (jL md), .int (jI mo), .ref a11])), (a1, .inl (cZ, 62, .inl (jA y1))), (a2, .inl (cA, 62, .inl (jA y2))), (a7, .inl (cA, 248, .inl (jA y7)))] t) (va_A [(ma, .inr (5, [.int (jI mth), .int (jI mn), .ref a0, .int (jI mp), .int (jI mw), .ref a1, .ref a2, .ref a3, .ref a4, .ref a5, .ref a6, .ref a7, .ref a8, .ref a9, .ref a10, .long (jL mu), .long (jL md), .int (jI mo), .ref a11])), (a1, .inl (cZ, 62, .inl (jA y1))), (a2, .inl (cA, 62, .inl (jA y2))), (a7, .inl (cA, 248, .inl (jA y7)))] sz)) 0 0 (va_A [(ma, .inr (5, [.int (jI mth), .int (jI mn), .ref a0, .int (jI mp), .int (jI mw), .ref a1, .ref a2, .ref a3, .ref a4, .ref a5, .ref a6, .ref a7, .ref a8, .ref a9, .ref a10, .long (jL mu), .long (jL md), .int (jI mo), .ref a11])), (a1, .inl (cZ, 62, .inl (jA y1))), (a2, .inl (cA, 62, .inl (jA y2))), (a7, .inl (cA, 248, .inl (jA y7)))] sz) := by
  refine jMet (cc := cXM_limit) (maxL := 3) (ret := some .int) (by decide) rfl ?_
  intro p e s m args below meth c s₁ R Q hR hQ B hml hv
  obtain ⟨rfl, hsz, hP, hK, hD0, hN⟩ := hv
  have hx := B.exec
  have hb := B.bytes
  have hr := B.returns
  have hts := atoms_spec (ws := Cond.code yXM_limit cXM_limit 3 (some .int) :: TBL) B.pre
  have hown : s.vm.findClass RXM = some m.cls := findClass_of_methodNamed B.named
  have hlocks := B.notSynchronized
  subst hsz
  obtain ⟨A, hAe⟩ : ∃ A, A = va_A [(ma, .inr (5, [.int (jI mth), .int (jI mn), .ref a0, .int (jI mp), .int (jI mw), .ref a1, .ref a2, .ref a3, .ref a4, .ref a5, .ref a6, .ref a7, .ref a8, .ref a9, .ref a10, .long (jL mu), .long (jL md), .int (jI mo), .ref a11])), (a1, .inl (cZ, 62, .inl (jA y1))), (a2, .inl (cA, 62, .inl (jA y2))), (a7, .inl (cA, 248, .inl (jA y7)))] s.heap.size := ⟨_, rfl⟩
  have hD : va_D A [(ma, .inr (5, [.int (jI mth), .int (jI mn), .ref a0, .int (jI mp), .int (jI mw), .ref a1, .ref a2, .ref a3, .ref a4, .ref a5, .ref a6, .ref a7, .ref a8, .ref a9, .ref a10, .long (jL mu), .long (jL md), .int (jI mo), .ref a11])), (a1, .inl (cZ, 62, .inl (jA y1))), (a2, .inl (cA, 62, .inl (jA y2))), (a7, .inl (cA, 248, .inl (jA y7)))] := by rw [hAe]; exact hD0.self
  have hA : ∀ q : Nat, s.heap.size ≤ q → A q := fun q h => by rw [hAe]; exact Or.inr h
  have hS : va_S A s.heap s.heap [] := va_S.rf
  have hP : va_P (dC, dI) vwCl [(ma, .inr (5, [.int (jI mth), .int (jI mn), .ref a0, .int (jI mp), .int (jI mw), .ref a1, .ref a2, .ref a3, .ref a4, .ref a5, .ref a6, .ref a7, .ref a8, .ref a9, .ref a10, .long (jL mu), .long (jL md), .int (jI mo), .ref a11])), (a1, .inl (cZ, 62, .inl (jA y1))), (a2, .inl (cA, 62, .inl (jA y2))), (a7, .inl (cA, 248, .inl (jA y7)))] s.heap := hP
  have hl := lv_entry ([.ref ma, .int (jI z1), .int (jI z2)]) (n := 3) (Nat.le_of_ble_eq_true rfl)
  rw [lg_entry_eq]
  generalize (lg_sl ([.ref ma, .int (jI z1), .int (jI z2)]) ++ List.replicate (3 - (lg_sl ([.ref ma, .int (jI z1), .int (jI z2)])).length) Slot.unset).toArray = ls at hl ⊢
  have hl : lv_has ls 3 [(0, .ref ma), (1, .int (jI z1)), (2, .int (jI z2))] := hl
  refine lv_aload_n hx hb dXM_limit_0 rfl (lv_at hl 0 rfl) ?_
  have join21 : ∀ (jc : Int) , f_XM_limitP_J21 mth mn mp mw mu md mo y1 y2 y7 z1 z2 jc = f_XM_limitP mth mn mp mw mu md mo y1 y2 y7 z1 z2 → ((jc = 0) ∨ (jc = 1 ∧ 1 ≤ z1 ∧ z1 ≤ 30 ∧ 0 ≤ z2 ∧ z2 ≤ 3)) → ∀ (H : Heap) (locs : List Loc), va_P (dC, dI) vwCl [(ma, .inr (5, [.int (jI mth), .int (jI mn), .ref a0, .int (jI mp), .int (jI mw), .ref a1, .ref a2, .ref a3, .ref a4, .ref a5, .ref a6, .ref a7, .ref a8, .ref a9, .ref a10, .long (jL mu), .long (jL md), .int (jI mo), .ref a11])), (a1, .inl (cZ, 62, .inl (jA y1))), (a2, .inl (cA, 62, .inl (jA y2))), (a7, .inl (cA, 248, .inl (jA y7)))] H → va_D A [(ma, .inr (5, [.int (jI mth), .int (jI mn), .ref a0, .int (jI mp), .int (jI mw), .ref a1, .ref a2, .ref a3, .ref a4, .ref a5, .ref a6, .ref a7, .ref a8, .ref a9, .ref a10, .long (jL mu), .long (jL md), .int (jI mo), .ref a11])), (a1, .inl (cZ, 62, .inl (jA y1))), (a2, .inl (cA, 62, .inl (jA y2))), (a7, .inl (cA, 248, .inl (jA y7)))] → va_S A s.heap H locs → ∀ ls : Array Slot, lv_has ls 3 [(0, .ref ma), (1, .int (jI z1)), (2, .int (jI z2))] → W p l e R s m ([.ref ma, .int (jI z1), .int (jI z2)] : List Value).toArray below meth c H locs 0 0 Q (F0 m 21 ls [.int (jI jc), .ref ma]) := by
    intro jc hF hjc H locs hP hD hS ls hl
    refine ji_iconst hx hb dXM_limit_21 ?_
    refine jwVi (rest := []) (wr := [(a1, .inl (cZ, 62, .inl (jA y1))), (a2, .inl (cA, 62, .inl (jA y2))), (a7, .inl (cA, 248, .inl (jA y7)))]) ⟨hx, hb, hml, hown, hts⟩ (c_XM_goesP l dC dI cA cZ _ ma a0 a1 a2 a3 a4 a5 a6 a7 a8 a9 a10 a11 mth mn mp mw mu md mo jc 1 (by first | assumption | omega) (by first | assumption | omega)) (cwV 2 hts (jG_V tw_698 tw_700 ts_14 tw_6 tw_701) rfl rfl rfl (by decide +kernel) (by rw [hR]; exact ⟨Nat.le_of_ble_eq_true rfl, Nat.le_of_ble_eq_true rfl⟩)) hK hP hD hS hA hN [0] [1, 2, 3] rfl rfl (by decide) (by decide) (by decide) 0 5 rfl rfl rfl rfl hl.1 rfl (Nat.le_of_ble_eq_true rfl) dXM_limit_22 (by rw [hR]; exact ⟨Nat.le_of_ble_eq_true rfl, Nat.le_of_ble_eq_true rfl⟩) (fun v u H locs hwb hP hD hS => ?_)
    obtain ⟨r, mth1'⟩ := u
    try dsimp only at hwb
    obtain ⟨er, hwb, f⟩ := hwb
    subst er
    have f : (r = 0 ∧ mth1' = 1 ∧ jc = 0) ∨ (r = 0 ∧ mth1' = 2 ∧ jc = 1 ∧ (1 : Int) = 0) ∨ (r = 1 ∧ mth1' = 0 ∧ jc = 1 ∧ (1 : Int) = 1) := f
    have hP : va_P (dC, dI) vwCl [(a1, .inl (cZ, 62, .inl (jA y1))), (a2, .inl (cA, 62, .inl (jA y2))), (a7, .inl (cA, 248, .inl (jA y7))), (ma, .inr (5, [.int (jI mth1'), .int (jI mn), .ref a0, .int (jI mp), .int (jI mw), .ref a1, .ref a2, .ref a3, .ref a4, .ref a5, .ref a6, .ref a7, .ref a8, .ref a9, .ref a10, .long (jL mu), .long (jL md), .int (jI mo), .ref a11]))] H := hP
    have hD : va_D A [(a1, .inl (cZ, 62, .inl (jA y1))), (a2, .inl (cA, 62, .inl (jA y2))), (a7, .inl (cA, 248, .inl (jA y7))), (ma, .inr (5, [.int (jI mth1'), .int (jI mn), .ref a0, .int (jI mp), .int (jI mw), .ref a1, .ref a2, .ref a3, .ref a4, .ref a5, .ref a6, .ref a7, .ref a8, .ref a9, .ref a10, .long (jL mu), .long (jL md), .int (jI mo), .ref a11]))] := hD
    refine ji_if_ne (tgt := 30) hx hb dXM_limit_25 (by decide) (by omega) (fun c25_ => ?_) (fun c25_ => ?_)
    · refine lv_aload_n hx hb dXM_limit_30 rfl (lv_at hl 0 rfl) ?_
      refine lv_iload_n hx hb dXM_limit_31 rfl (lv_at hl 1 rfl) ?_
      refine lv_iload_n hx hb dXM_limit_32 rfl (lv_at hl 2 rfl) ?_
      refine jrVi (rest := []) ⟨hx, hb, hml, hown, hts⟩ (c_XM_limitOfP l dC dI cA cZ ma a0 a1 a2 a3 a4 a5 a6 a7 a8 a9 a10 a11 mth1' mn mp mw mu md mo y1 y2 y7 z1 z2 (by first | assumption | omega) (by first | assumption | omega) (by first | assumption | omega) (by first | assumption | omega) (by first | assumption | omega)) (cwV 2 hts (jG_V tw_798 tw_800 ts_34 tw_6 tw_801) rfl rfl rfl (by decide +kernel) (by rw [hR]; exact ⟨Nat.le_of_ble_eq_true rfl, Nat.le_of_ble_eq_true rfl⟩)) hK hP hN [3, 0, 1, 2] rfl 3 5 rfl rfl rfl rfl hl.1 rfl (Nat.le_of_ble_eq_true rfl) dXM_limit_33 (by rw [hR]; exact ⟨Nat.le_of_ble_eq_true rfl, Nat.le_of_ble_eq_true rfl⟩) ?_
      have f1 := f_XM_limitOfP_b mth1' mn mp mw mu md mo y1 y2 y7 z1 z2 (by first | assumption | omega) (by first | assumption | omega) (by first | assumption | omega) (by first | assumption | omega) (by first | assumption | omega)
      have hP9 := hP.sub (ws' := [(ma, .inr (5, [.int (jI mth1'), .int (jI mn), .ref a0, .int (jI mp), .int (jI mw), .ref a1, .ref a2, .ref a3, .ref a4, .ref a5, .ref a6, .ref a7, .ref a8, .ref a9, .ref a10, .long (jL mu), .long (jL md), .int (jI mo), .ref a11])), (a1, .inl (cZ, 62, .inl (jA y1))), (a2, .inl (cA, 62, .inl (jA y2))), (a7, .inl (cA, 248, .inl (jA y7)))]) [3, 0, 1, 2] rfl
      have hD9 := hD.sub (ws' := [(ma, .inr (5, [.int (jI mth1'), .int (jI mn), .ref a0, .int (jI mp), .int (jI mw), .ref a1, .ref a2, .ref a3, .ref a4, .ref a5, .ref a6, .ref a7, .ref a8, .ref a9, .ref a10, .long (jL mu), .long (jL md), .int (jI mo), .ref a11])), (a1, .inl (cZ, 62, .inl (jA y1))), (a2, .inl (cA, 62, .inl (jA y2))), (a7, .inl (cA, 248, .inl (jA y7)))]) [3, 0, 1, 2] (by decide) rfl
      subst hAe
      subst hQ
      exact W.iret (v := jI (f_XM_limitOfP mth1' mn mp mw mu md mo y1 y2 y7 z1 z2)) hx hb hr (fun t ht hW => ⟨⟨_, (f_XM_limitOfP mth1' mn mp mw mu md mo y1 y2 y7 z1 z2, mth1'), rfl, ⟨rfl, Eq.trans (by rw [f_XM_limitP_J21_s]; rw [← hwb]; try dsimp only; rw [if_neg c25_]; try rfl) hF, show -1 ≤ (f_XM_limitOfP mth1' mn mp mw mu md mo y1 y2 y7 z1 z2) ∧ (f_XM_limitOfP mth1' mn mp mw mu md mo y1 y2 y7 z1 z2) ≤ 999999 from by first | assumption | omega | exact jset_b (by assumption) (by omega) | exact jset_l (by assumption) (by omega) | exact jset_l (fun _ _ => rfl) (by omega) | exact fun _ _ => rfl | exact l_trans (by assumption) (by assumption)⟩, ⟨by rw [ht]; exact hP9, va_K.moved hW.alike hK, hD9⟩⟩, hS.F ht⟩) hS.2.2 dXM_limit_36
    · refine ji_iconst hx hb dXM_limit_28 ?_
      have hP9 := hP.sub (ws' := [(ma, .inr (5, [.int (jI mth1'), .int (jI mn), .ref a0, .int (jI mp), .int (jI mw), .ref a1, .ref a2, .ref a3, .ref a4, .ref a5, .ref a6, .ref a7, .ref a8, .ref a9, .ref a10, .long (jL mu), .long (jL md), .int (jI mo), .ref a11])), (a1, .inl (cZ, 62, .inl (jA y1))), (a2, .inl (cA, 62, .inl (jA y2))), (a7, .inl (cA, 248, .inl (jA y7)))]) [3, 0, 1, 2] rfl
      have hD9 := hD.sub (ws' := [(ma, .inr (5, [.int (jI mth1'), .int (jI mn), .ref a0, .int (jI mp), .int (jI mw), .ref a1, .ref a2, .ref a3, .ref a4, .ref a5, .ref a6, .ref a7, .ref a8, .ref a9, .ref a10, .long (jL mu), .long (jL md), .int (jI mo), .ref a11])), (a1, .inl (cZ, 62, .inl (jA y1))), (a2, .inl (cA, 62, .inl (jA y2))), (a7, .inl (cA, 248, .inl (jA y7)))]) [3, 0, 1, 2] (by decide) rfl
      subst hAe
      subst hQ
      exact W.iret (v := jI 0) hx hb hr (fun t ht hW => ⟨⟨_, (0, mth1'), rfl, ⟨rfl, Eq.trans (by rw [f_XM_limitP_J21_s]; rw [← hwb]; try dsimp only; rw [if_pos c25_]; try rfl) hF, show -1 ≤ 0 ∧ 0 ≤ 999999 from by first | assumption | omega | exact jset_b (by assumption) (by omega) | exact jset_l (by assumption) (by omega) | exact jset_l (fun _ _ => rfl) (by omega) | exact fun _ _ => rfl | exact l_trans (by assumption) (by assumption)⟩, ⟨by rw [ht]; exact hP9, va_K.moved hW.alike hK, hD9⟩⟩, hS.F ht⟩) hS.2.2 dXM_limit_29
  refine lv_aload_n hx hb dXM_limit_1 rfl (lv_at hl 0 rfl) ?_
  refine lv_iload_n hx hb dXM_limit_2 rfl (lv_at hl 1 rfl) ?_
  refine jrVi (rest := [.ref ma]) ⟨hx, hb, hml, hown, hts⟩ (c_XM_isTold l dC dI cA cZ ma a0 a1 a2 a3 a4 a5 a6 a7 a8 a9 a10 a11 mth mn mp mw mu md mo y1 z1 (by first | assumption | omega) (by first | assumption | omega)) (cwV 1 hts (jG_V tw_768 tw_770 ts_29 tw_6 tw_771) rfl rfl rfl (by decide +kernel) (by rw [hR]; exact ⟨Nat.le_of_ble_eq_true rfl, Nat.le_of_ble_eq_true rfl⟩)) hK hP hN [0, 1] rfl 0 5 rfl rfl rfl rfl hl.1 rfl (Nat.le_of_ble_eq_true rfl) dXM_limit_3 (by rw [hR]; exact ⟨Nat.le_of_ble_eq_true rfl, Nat.le_of_ble_eq_true rfl⟩) ?_
  have f2 := f_XM_isTold_b mth mn mp mw mu md mo y1 z1 (by first | assumption | omega) (by first | assumption | omega)
  refine ji_if_eq (tgt := 20) hx hb dXM_limit_6 (by decide) (by omega) (fun c6_ => ?_) (fun c6_ => ?_)
  · refine ji_iconst hx hb dXM_limit_20 ?_
    exact join21 0 (Eq.trans (by rw [f_XM_limitP_s]; rw [if_pos c6_]; try rfl) rfl) (by first | assumption | omega | exact jset_b (by assumption) (by omega)) _ _ hP hD hS ls (lv_sub hl [0, 1, 2] rfl)
  · refine lv_iload_n hx hb dXM_limit_9 rfl (lv_at hl 2 rfl) ?_
    refine jrSi (rest := [.ref ma]) ⟨hx, hb, hml, hown, hts⟩ (c_XM_isKind l dC dI cA cZ z2 (by first | assumption | omega)) (cwS 1 hts (jG_S tw_795 tw_796 tw_6 tw_797) rfl rfl rfl (by decide +kernel) (by rw [hR]; exact ⟨Nat.le_of_ble_eq_true rfl, Nat.le_of_ble_eq_true rfl⟩)) hK hP hN [] rfl rfl hl.1 rfl (Nat.le_of_ble_eq_true rfl) dXM_limit_10 (by rw [hR]; exact ⟨Nat.le_of_ble_eq_true rfl, Nat.le_of_ble_eq_true rfl⟩) ?_
    have f3 := f_XM_isKind_b z2 (by first | assumption | omega)
    refine ji_if_eq (tgt := 20) hx hb dXM_limit_13 (by decide) (by omega) (fun c13_ => ?_) (fun c13_ => ?_)
    · refine ji_iconst hx hb dXM_limit_20 ?_
      exact join21 0 (Eq.trans (by rw [f_XM_limitP_s]; rw [if_neg c6_, if_pos c13_]; try rfl) rfl) (by first | assumption | omega | exact jset_b (by assumption) (by omega)) _ _ hP hD hS ls (lv_sub hl [0, 1, 2] rfl)
    · refine ji_iconst hx hb dXM_limit_16 ?_
      refine lv_goto (tgt := 21) hx hb dXM_limit_17 (by decide) ?_
      exact join21 1 (Eq.trans (by rw [f_XM_limitP_s]; rw [if_neg c6_, if_neg c13_]; try rfl) rfl) (by first | assumption | omega | exact jset_b (by assumption) (by omega)) _ _ hP hD hS ls (lv_sub hl [0, 1, 2] rfl)
noncomputable def g_XM_routeP_L66 (mth : Int) (mn : Int) (mp : Int) (mw : Int) (mu : Int) (md : Int) (mo : Int) (y1 : Int → Int) (y2 : Int → Int) (y6 : Int → Int) (z1 : Int) (z2 : Int) (mth1' : Int) (bx : Int) : Nat → Int → Int → Int × Int
  | 0, _, _ => (0, 0)
  | n9 + 1, lf, k2 =>
    if k2 < 8 then
      if ((jI ((jI bx >>> (jI k2 &&& 31)).toInt) &&& jI 1).toInt) = 0 then
        g_XM_routeP_L66 mth mn mp mw mu md mo y1 y2 y6 z1 z2 mth1' bx n9 lf (k2 + 1)
      else
        if lf = 0 then
          (k2, mth1')
        else
          g_XM_routeP_L66 mth mn mp mw mu md mo y1 y2 y6 z1 z2 mth1' bx n9 (lf + (-1)) (k2 + 1)
    else
      (-1, mth1')
noncomputable def f_XM_routeP_L66 : Int → Int → Int → Int → Int → Int → Int → (Int → Int) → (Int → Int) → (Int → Int) → Int → Int → Int → Int → Nat → Int → Int → Int × Int := jopq g_XM_routeP_L66
theorem f_XM_routeP_L66_q : f_XM_routeP_L66 = g_XM_routeP_L66 := jopq_eq _
theorem f_XM_routeP_L66_s (mth : Int) (mn : Int) (mp : Int) (mw : Int) (mu : Int) (md : Int) (mo : Int) (y1 : Int → Int) (y2 : Int → Int) (y6 : Int → Int) (z1 : Int) (z2 : Int) (mth1' : Int) (bx : Int) (n9 : Nat) (lf : Int) (k2 : Int) : f_XM_routeP_L66 mth mn mp mw mu md mo y1 y2 y6 z1 z2 mth1' bx (n9 + 1) lf k2 = (
    if k2 < 8 then
      if ((jI ((jI bx >>> (jI k2 &&& 31)).toInt) &&& jI 1).toInt) = 0 then
        f_XM_routeP_L66 mth mn mp mw mu md mo y1 y2 y6 z1 z2 mth1' bx n9 lf (k2 + 1)
      else
        if lf = 0 then
          (k2, mth1')
        else
          f_XM_routeP_L66 mth mn mp mw mu md mo y1 y2 y6 z1 z2 mth1' bx n9 (lf + (-1)) (k2 + 1)
    else
      (-1, mth1')
  : Int × Int) := by rw [f_XM_routeP_L66_q]; rfl
theorem f_XM_routeP_L66_z (mth : Int) (mn : Int) (mp : Int) (mw : Int) (mu : Int) (md : Int) (mo : Int) (y1 : Int → Int) (y2 : Int → Int) (y6 : Int → Int) (z1 : Int) (z2 : Int) (mth1' : Int) (bx : Int) (lf : Int) (k2 : Int) : f_XM_routeP_L66 mth mn mp mw mu md mo y1 y2 y6 z1 z2 mth1' bx 0 lf k2 = (0, 0) := by rw [f_XM_routeP_L66_q]; rfl
noncomputable def g_XM_routeP_J60 (mth : Int) (mn : Int) (mp : Int) (mw : Int) (mu : Int) (md : Int) (mo : Int) (y1 : Int → Int) (y2 : Int → Int) (y6 : Int → Int) (z1 : Int) (z2 : Int) (mth1' : Int) (bx : Int) (kx : Int) : Int × Int :=
  f_XM_routeP_L66 mth mn mp mw mu md mo y1 y2 y6 z1 z2 mth1' bx (Int.toNat (8 - 0) + 1) z2 0
noncomputable def f_XM_routeP_J60 : Int → Int → Int → Int → Int → Int → Int → (Int → Int) → (Int → Int) → (Int → Int) → Int → Int → Int → Int → Int → Int × Int := jopq g_XM_routeP_J60
theorem f_XM_routeP_J60_q : f_XM_routeP_J60 = g_XM_routeP_J60 := jopq_eq _
theorem f_XM_routeP_J60_s (mth : Int) (mn : Int) (mp : Int) (mw : Int) (mu : Int) (md : Int) (mo : Int) (y1 : Int → Int) (y2 : Int → Int) (y6 : Int → Int) (z1 : Int) (z2 : Int) (mth1' : Int) (bx : Int) (kx : Int) : f_XM_routeP_J60 mth mn mp mw mu md mo y1 y2 y6 z1 z2 mth1' bx kx = (
    f_XM_routeP_L66 mth mn mp mw mu md mo y1 y2 y6 z1 z2 mth1' bx (Int.toNat (8 - 0) + 1) z2 0
  : Int × Int) := by rw [f_XM_routeP_J60_q]; rfl
noncomputable def g_XM_routeP_L32 (mth : Int) (mn : Int) (mp : Int) (mw : Int) (mu : Int) (md : Int) (mo : Int) (y1 : Int → Int) (y2 : Int → Int) (y6 : Int → Int) (z1 : Int) (z2 : Int) (mth1' : Int) : Nat → Int → Int → Int × Int
  | 0, _, _ => (0, 0)
  | n9 + 1, bt9, k =>
    if 0 < k then
      if bt9 = 0 then
        g_XM_routeP_L32 mth mn mp mw mu md mo y1 y2 y6 z1 z2 mth1' n9 (y6 k) (f_XM_from mth1' mn mp mw mu md mo y1 y2 k)
      else
        f_XM_routeP_J60 mth mn mp mw mu md mo y1 y2 y6 z1 z2 mth1' bt9 k
    else
      f_XM_routeP_J60 mth mn mp mw mu md mo y1 y2 y6 z1 z2 mth1' bt9 k
noncomputable def f_XM_routeP_L32 : Int → Int → Int → Int → Int → Int → Int → (Int → Int) → (Int → Int) → (Int → Int) → Int → Int → Int → Nat → Int → Int → Int × Int := jopq g_XM_routeP_L32
theorem f_XM_routeP_L32_q : f_XM_routeP_L32 = g_XM_routeP_L32 := jopq_eq _
theorem f_XM_routeP_L32_s (mth : Int) (mn : Int) (mp : Int) (mw : Int) (mu : Int) (md : Int) (mo : Int) (y1 : Int → Int) (y2 : Int → Int) (y6 : Int → Int) (z1 : Int) (z2 : Int) (mth1' : Int) (n9 : Nat) (bt9 : Int) (k : Int) : f_XM_routeP_L32 mth mn mp mw mu md mo y1 y2 y6 z1 z2 mth1' (n9 + 1) bt9 k = (
    if 0 < k then
      if bt9 = 0 then
        f_XM_routeP_L32 mth mn mp mw mu md mo y1 y2 y6 z1 z2 mth1' n9 (y6 k) (f_XM_from mth1' mn mp mw mu md mo y1 y2 k)
      else
        f_XM_routeP_J60 mth mn mp mw mu md mo y1 y2 y6 z1 z2 mth1' bt9 k
    else
      f_XM_routeP_J60 mth mn mp mw mu md mo y1 y2 y6 z1 z2 mth1' bt9 k
  : Int × Int) := by rw [f_XM_routeP_L32_q]; rfl
theorem f_XM_routeP_L32_z (mth : Int) (mn : Int) (mp : Int) (mw : Int) (mu : Int) (md : Int) (mo : Int) (y1 : Int → Int) (y2 : Int → Int) (y6 : Int → Int) (z1 : Int) (z2 : Int) (mth1' : Int) (bt9 : Int) (k : Int) : f_XM_routeP_L32 mth mn mp mw mu md mo y1 y2 y6 z1 z2 mth1' 0 bt9 k = (0, 0) := by rw [f_XM_routeP_L32_q]; rfl
noncomputable def g_XM_routeP_J18 (mth : Int) (mn : Int) (mp : Int) (mw : Int) (mu : Int) (md : Int) (mo : Int) (y1 : Int → Int) (y2 : Int → Int) (y6 : Int → Int) (z1 : Int) (z2 : Int) (jc : Int) : Int × Int :=
  match f_XM_goesP mth mn mp mw mu md mo jc 1 with
  | (r, mth1') =>
    if r = 0 then
      (0, mth1')
    else
      f_XM_routeP_L32 mth mn mp mw mu md mo y1 y2 y6 z1 z2 mth1' (Int.toNat (jdp (fun x => f_XM_from mth1' mn mp mw mu md mo y1 y2 x) 41 z1) + 1) 0 z1
noncomputable def f_XM_routeP_J18 : Int → Int → Int → Int → Int → Int → Int → (Int → Int) → (Int → Int) → (Int → Int) → Int → Int → Int → Int × Int := jopq g_XM_routeP_J18
theorem f_XM_routeP_J18_q : f_XM_routeP_J18 = g_XM_routeP_J18 := jopq_eq _
theorem f_XM_routeP_J18_s (mth : Int) (mn : Int) (mp : Int) (mw : Int) (mu : Int) (md : Int) (mo : Int) (y1 : Int → Int) (y2 : Int → Int) (y6 : Int → Int) (z1 : Int) (z2 : Int) (jc : Int) : f_XM_routeP_J18 mth mn mp mw mu md mo y1 y2 y6 z1 z2 jc = (
    match f_XM_goesP mth mn mp mw mu md mo jc 1 with
    | (r, mth1') =>
      if r = 0 then
        (0, mth1')
      else
        f_XM_routeP_L32 mth mn mp mw mu md mo y1 y2 y6 z1 z2 mth1' (Int.toNat (jdp (fun x => f_XM_from mth1' mn mp mw mu md mo y1 y2 x) 41 z1) + 1) 0 z1
  : Int × Int) := by rw [f_XM_routeP_J18_q]; rfl
noncomputable def g_XM_routeP (mth : Int) (mn : Int) (mp : Int) (mw : Int) (mu : Int) (md : Int) (mo : Int) (y1 : Int → Int) (y2 : Int → Int) (y6 : Int → Int) (z1 : Int) (z2 : Int) : Int × Int :=
  if (f_XM_isTold mth mn mp mw mu md mo y1 z1) = 0 then
    f_XM_routeP_J18 mth mn mp mw mu md mo y1 y2 y6 z1 z2 0
  else
    if z2 < 0 then
      f_XM_routeP_J18 mth mn mp mw mu md mo y1 y2 y6 z1 z2 0
    else
      f_XM_routeP_J18 mth mn mp mw mu md mo y1 y2 y6 z1 z2 1
noncomputable def f_XM_routeP : Int → Int → Int → Int → Int → Int → Int → (Int → Int) → (Int → Int) → (Int → Int) → Int → Int → Int × Int := jopq g_XM_routeP
theorem f_XM_routeP_q : f_XM_routeP = g_XM_routeP := jopq_eq _
theorem f_XM_routeP_s (mth : Int) (mn : Int) (mp : Int) (mw : Int) (mu : Int) (md : Int) (mo : Int) (y1 : Int → Int) (y2 : Int → Int) (y6 : Int → Int) (z1 : Int) (z2 : Int) : f_XM_routeP mth mn mp mw mu md mo y1 y2 y6 z1 z2 = (
    if (f_XM_isTold mth mn mp mw mu md mo y1 z1) = 0 then
      f_XM_routeP_J18 mth mn mp mw mu md mo y1 y2 y6 z1 z2 0
    else
      if z2 < 0 then
        f_XM_routeP_J18 mth mn mp mw mu md mo y1 y2 y6 z1 z2 0
      else
        f_XM_routeP_J18 mth mn mp mw mu md mo y1 y2 y6 z1 z2 1
  : Int × Int) := by rw [f_XM_routeP_q]; rfl
set_option maxHeartbeats 4000000 in
set_option maxRecDepth 100000 in
theorem c_XM_routeP (l : Launch) (dC : Nat → ClassId) (dI : Nat → Nat → Nat) (cA cZ : ClassId) (sz : Nat) (ma : Nat) (a0 : Nat) (a1 : Nat) (a2 : Nat) (a3 : Nat) (a4 : Nat) (a5 : Nat) (a6 : Nat) (a7 : Nat) (a8 : Nat) (a9 : Nat) (a10 : Nat) (a11 : Nat) (mth : Int) (mn : Int) (mp : Int) (mw : Int) (mu : Int) (md : Int) (mo : Int) (y1 : Int → Int) (y2 : Int → Int) (y6 : Int → Int) (z1 : Int) (z2 : Int) (hy1 : ∀ i, 0 ≤ y1 i ∧ y1 i ≤ 1) (hy2 : ∀ i, 0 ≤ y2 i ∧ y2 i ≤ 30) (hy6 : ∀ i, -2147483648 ≤ y6 i ∧ y6 i ≤ 2147483647) (hiz1 : i32 z1) (hiz2 : i32 z2) : Met l yXM_route (Cond.code yXM_route cXM_route 6 (some .int) :: TBL) ({ frames := 4, cells := 0, slots := 0, locals := 87 } : Room) (va_Pc [.ref ma, .int (jI z1), .int (jI z2)] (jBw (dC, dI) [(cA, .int), (cZ, .boolean)] [(ma, .inr (5, [.int (jI mth), .int (jI mn), .ref a0, .int (jI mp), .int (jI mw), .ref a1, .ref a2, .ref a3, .ref a4, .ref a5, .ref a6, .ref a7, .ref a8, .ref a9, .ref a10, .long (jL mu), .long (jL md), .int (jI mo), .ref a11])), (a1, .inl (cZ, 62, .inl (jA y1))), (a2, .inl (cA, 62, .inl (jA y2))), (a6, .inl (cA, 62, .inl (jA y6)))] sz)) (va_Qi (fun (r : Int32) (u : Int × Int) => r = jI u.1 ∧ u = f_XM_routeP mth mn mp mw mu md mo y1 y2 y6 z1 z2 ∧ (-1 ≤ u.1 ∧ u.1 ≤ 7)) (fun u t => jE (dC, dI) [(cA, .int), (cZ, .boolean)] [(ma, .inr (5, [.int (jI mth), .int (jI mn), .ref a0, .int (jI mp), .int (jI mw), .ref a1, .ref a2, .ref a3, .ref a4, .ref a5, .ref a6, .ref a7, .ref a8, .ref a9, .ref a10, .long (jL mu), .long (jL md), .int (jI mo), .ref a11])), (a1, .inl (cZ, 62, .inl (jA y1))), (a2, .inl (cA, 62, .inl (jA y2))), (a6, .inl (cA, 62, .inl (jA y6)))] sz [(ma, .inr (5, [.int (jI u.2), .int (jI mn), .ref a0, .int (jI mp), .int (jI mw), .ref a1, .ref a2, .ref a3, .ref a4, .ref a5, .ref a6, .ref a7, .ref a8, .ref a9, .ref a10, .long (jL mu), .long (jL md), .int (jI mo), .ref a11])), (a1, .inl (cZ, 62, .inl (jA y1))), (a2, .inl (cA, 62, .inl (jA y2))), (a6, .inl (cA, 62, .inl (jA y6)))] t) (va_A [(ma, .inr (5, [.int (jI mth), .int (jI mn), .ref a0, .int (jI mp), .int (jI mw), .ref a1, .ref a2, .ref a3, .ref a4, .ref a5, .ref a6, .ref a7, .ref a8, .ref a9, .ref a10, .long (jL mu), .long (jL md), .int (jI mo), .ref a11])), (a1, .inl (cZ, 62, .inl (jA y1))), (a2, .inl (cA, 62, .inl (jA y2))), (a6, .inl (cA, 62, .inl (jA y6)))] sz)) 0 0 (va_A [(ma, .inr (5, [.int (jI mth), .int (jI mn), .ref a0, .int (jI mp), .int (jI mw), .ref a1, .ref a2, .ref a3, .ref a4, .ref a5, .ref a6, .ref a7, .ref a8, .ref a9, .ref a10, .long (jL mu), .long (jL md), .int (jI mo), .ref a11])), (a1, .inl (cZ, 62, .inl (jA y1))), (a2, .inl (cA, 62, .inl (jA y2))), (a6, .inl (cA, 62, .inl (jA y6)))] sz) := by
  refine jMet (cc := cXM_route) (maxL := 6) (ret := some .int) (by decide) rfl ?_
  intro p e s m args below meth c s₁ R Q hR hQ B hml hv
  obtain ⟨rfl, hsz, hP, hK, hD0, hN⟩ := hv
  have hx := B.exec
  have hb := B.bytes
  have hr := B.returns
  have hts := atoms_spec (ws := Cond.code yXM_route cXM_route 6 (some .int) :: TBL) B.pre
  have hown : s.vm.findClass RXM = some m.cls := findClass_of_methodNamed B.named
  have hlocks := B.notSynchronized
  subst hsz
  obtain ⟨A, hAe⟩ : ∃ A, A = va_A [(ma, .inr (5, [.int (jI mth), .int (jI mn), .ref a0, .int (jI mp), .int (jI mw), .ref a1, .ref a2, .ref a3, .ref a4, .ref a5, .ref a6, .ref a7, .ref a8, .ref a9, .ref a10, .long (jL mu), .long (jL md), .int (jI mo), .ref a11])), (a1, .inl (cZ, 62, .inl (jA y1))), (a2, .inl (cA, 62, .inl (jA y2))), (a6, .inl (cA, 62, .inl (jA y6)))] s.heap.size := ⟨_, rfl⟩
  have hD : va_D A [(ma, .inr (5, [.int (jI mth), .int (jI mn), .ref a0, .int (jI mp), .int (jI mw), .ref a1, .ref a2, .ref a3, .ref a4, .ref a5, .ref a6, .ref a7, .ref a8, .ref a9, .ref a10, .long (jL mu), .long (jL md), .int (jI mo), .ref a11])), (a1, .inl (cZ, 62, .inl (jA y1))), (a2, .inl (cA, 62, .inl (jA y2))), (a6, .inl (cA, 62, .inl (jA y6)))] := by rw [hAe]; exact hD0.self
  have hA : ∀ q : Nat, s.heap.size ≤ q → A q := fun q h => by rw [hAe]; exact Or.inr h
  have hS : va_S A s.heap s.heap [] := va_S.rf
  have hP : va_P (dC, dI) vwCl [(ma, .inr (5, [.int (jI mth), .int (jI mn), .ref a0, .int (jI mp), .int (jI mw), .ref a1, .ref a2, .ref a3, .ref a4, .ref a5, .ref a6, .ref a7, .ref a8, .ref a9, .ref a10, .long (jL mu), .long (jL md), .int (jI mo), .ref a11])), (a1, .inl (cZ, 62, .inl (jA y1))), (a2, .inl (cA, 62, .inl (jA y2))), (a6, .inl (cA, 62, .inl (jA y6)))] s.heap := hP
  have hl := lv_entry ([.ref ma, .int (jI z1), .int (jI z2)]) (n := 6) (Nat.le_of_ble_eq_true rfl)
  rw [lg_entry_eq]
  generalize (lg_sl ([.ref ma, .int (jI z1), .int (jI z2)]) ++ List.replicate (6 - (lg_sl ([.ref ma, .int (jI z1), .int (jI z2)])).length) Slot.unset).toArray = ls at hl ⊢
  have hl : lv_has ls 6 [(0, .ref ma), (1, .int (jI z1)), (2, .int (jI z2))] := hl
  refine lv_aload_n hx hb dXM_route_0 rfl (lv_at hl 0 rfl) ?_
  have join18 : ∀ (jc : Int) , f_XM_routeP_J18 mth mn mp mw mu md mo y1 y2 y6 z1 z2 jc = f_XM_routeP mth mn mp mw mu md mo y1 y2 y6 z1 z2 → ((jc = 0) ∨ (jc = 1 ∧ 1 ≤ z1 ∧ z1 ≤ 30 ∧ 0 ≤ z2)) → ∀ (H : Heap) (locs : List Loc), va_P (dC, dI) vwCl [(ma, .inr (5, [.int (jI mth), .int (jI mn), .ref a0, .int (jI mp), .int (jI mw), .ref a1, .ref a2, .ref a3, .ref a4, .ref a5, .ref a6, .ref a7, .ref a8, .ref a9, .ref a10, .long (jL mu), .long (jL md), .int (jI mo), .ref a11])), (a1, .inl (cZ, 62, .inl (jA y1))), (a2, .inl (cA, 62, .inl (jA y2))), (a6, .inl (cA, 62, .inl (jA y6)))] H → va_D A [(ma, .inr (5, [.int (jI mth), .int (jI mn), .ref a0, .int (jI mp), .int (jI mw), .ref a1, .ref a2, .ref a3, .ref a4, .ref a5, .ref a6, .ref a7, .ref a8, .ref a9, .ref a10, .long (jL mu), .long (jL md), .int (jI mo), .ref a11])), (a1, .inl (cZ, 62, .inl (jA y1))), (a2, .inl (cA, 62, .inl (jA y2))), (a6, .inl (cA, 62, .inl (jA y6)))] → va_S A s.heap H locs → ∀ ls : Array Slot, lv_has ls 6 [(0, .ref ma), (1, .int (jI z1)), (2, .int (jI z2))] → W p l e R s m ([.ref ma, .int (jI z1), .int (jI z2)] : List Value).toArray below meth c H locs 0 0 Q (F0 m 18 ls [.int (jI jc), .ref ma]) := by
    intro jc hF hjc H locs hP hD hS ls hl
    refine ji_iconst hx hb dXM_route_18 ?_
    refine jwVi (rest := []) (wr := [(a1, .inl (cZ, 62, .inl (jA y1))), (a2, .inl (cA, 62, .inl (jA y2))), (a6, .inl (cA, 62, .inl (jA y6)))]) ⟨hx, hb, hml, hown, hts⟩ (c_XM_goesP l dC dI cA cZ _ ma a0 a1 a2 a3 a4 a5 a6 a7 a8 a9 a10 a11 mth mn mp mw mu md mo jc 1 (by first | assumption | omega) (by first | assumption | omega)) (cwV 2 hts (jG_V tw_698 tw_700 ts_14 tw_6 tw_701) rfl rfl rfl (by decide +kernel) (by rw [hR]; exact ⟨Nat.le_of_ble_eq_true rfl, Nat.le_of_ble_eq_true rfl⟩)) hK hP hD hS hA hN [0] [1, 2, 3] rfl rfl (by decide) (by decide) (by decide) 0 5 rfl rfl rfl rfl hl.1 rfl (Nat.le_of_ble_eq_true rfl) dXM_route_19 (by rw [hR]; exact ⟨Nat.le_of_ble_eq_true rfl, Nat.le_of_ble_eq_true rfl⟩) (fun v u H locs hwb hP hD hS => ?_)
    obtain ⟨r, mth1'⟩ := u
    try dsimp only at hwb
    obtain ⟨er, hwb, f⟩ := hwb
    subst er
    have f : (r = 0 ∧ mth1' = 1 ∧ jc = 0) ∨ (r = 0 ∧ mth1' = 2 ∧ jc = 1 ∧ (1 : Int) = 0) ∨ (r = 1 ∧ mth1' = 0 ∧ jc = 1 ∧ (1 : Int) = 1) := f
    have hP : va_P (dC, dI) vwCl [(a1, .inl (cZ, 62, .inl (jA y1))), (a2, .inl (cA, 62, .inl (jA y2))), (a6, .inl (cA, 62, .inl (jA y6))), (ma, .inr (5, [.int (jI mth1'), .int (jI mn), .ref a0, .int (jI mp), .int (jI mw), .ref a1, .ref a2, .ref a3, .ref a4, .ref a5, .ref a6, .ref a7, .ref a8, .ref a9, .ref a10, .long (jL mu), .long (jL md), .int (jI mo), .ref a11]))] H := hP
    have hD : va_D A [(a1, .inl (cZ, 62, .inl (jA y1))), (a2, .inl (cA, 62, .inl (jA y2))), (a6, .inl (cA, 62, .inl (jA y6))), (ma, .inr (5, [.int (jI mth1'), .int (jI mn), .ref a0, .int (jI mp), .int (jI mw), .ref a1, .ref a2, .ref a3, .ref a4, .ref a5, .ref a6, .ref a7, .ref a8, .ref a9, .ref a10, .long (jL mu), .long (jL md), .int (jI mo), .ref a11]))] := hD
    refine ji_if_ne (tgt := 27) hx hb dXM_route_22 (by decide) (by omega) (fun c22_ => ?_) (fun c22_ => ?_)
    · refine ji_iconst hx hb dXM_route_27 ?_
      refine lv_istore_n (lv' := [(3, .int (jI 0)), (0, .ref ma), (1, .int (jI z1)), (2, .int (jI z2))]) hx hb dXM_route_28 rfl hl (by decide) rfl (fun ls hl => ?_)
      have join60 : ∀ (bx : Int) (kx : Int) , f_XM_routeP_J60 mth mn mp mw mu md mo y1 y2 y6 z1 z2 mth1' bx kx = f_XM_routeP mth mn mp mw mu md mo y1 y2 y6 z1 z2 → (i32 bx) → ∀ (H : Heap) (locs : List Loc), va_P (dC, dI) vwCl [(a1, .inl (cZ, 62, .inl (jA y1))), (a2, .inl (cA, 62, .inl (jA y2))), (a6, .inl (cA, 62, .inl (jA y6))), (ma, .inr (5, [.int (jI mth1'), .int (jI mn), .ref a0, .int (jI mp), .int (jI mw), .ref a1, .ref a2, .ref a3, .ref a4, .ref a5, .ref a6, .ref a7, .ref a8, .ref a9, .ref a10, .long (jL mu), .long (jL md), .int (jI mo), .ref a11]))] H → va_D A [(a1, .inl (cZ, 62, .inl (jA y1))), (a2, .inl (cA, 62, .inl (jA y2))), (a6, .inl (cA, 62, .inl (jA y6))), (ma, .inr (5, [.int (jI mth1'), .int (jI mn), .ref a0, .int (jI mp), .int (jI mw), .ref a1, .ref a2, .ref a3, .ref a4, .ref a5, .ref a6, .ref a7, .ref a8, .ref a9, .ref a10, .long (jL mu), .long (jL md), .int (jI mo), .ref a11]))] → va_S A s.heap H locs → ∀ ls : Array Slot, lv_has ls 6 [(3, .int (jI bx)), (0, .ref ma), (1, .int (jI z1)), (2, .int (jI z2)), (4, .int (jI kx))] → W p l e R s m ([.ref ma, .int (jI z1), .int (jI z2)] : List Value).toArray below meth c H locs 0 0 Q (F0 m 60 ls []) := by
        intro bx kx hF hbx H locs hP hD hS ls hl
        refine lv_iload_n hx hb dXM_route_60 rfl (lv_at hl 3 rfl) ?_
        refine lv_istore (lv' := [(4, .int (jI z2)), (3, .int (jI bx)), (0, .ref ma), (1, .int (jI z1)), (2, .int (jI z2))]) hx hb dXM_route_61 hl (by decide) rfl (fun ls hl => ?_)
        refine ji_iconst hx hb dXM_route_63 ?_
        refine lv_istore (lv' := [(5, .int (jI 0)), (4, .int (jI z2)), (3, .int (jI bx)), (0, .ref ma), (1, .int (jI z1)), (2, .int (jI z2))]) hx hb dXM_route_64 hl (by decide) rfl (fun ls hl => ?_)
        have loop66 : ∀ (n9 : Nat) (lf : Int) (k2 : Int) , 8 - k2 < (n9 : Int) → f_XM_routeP_L66 mth mn mp mw mu md mo y1 y2 y6 z1 z2 mth1' bx n9 lf k2 = f_XM_routeP mth mn mp mw mu md mo y1 y2 y6 z1 z2 → (0 ≤ k2 ∧ k2 ≤ 8) → (0 ≤ lf ∧ lf < 2147483648) → ∀ (H : Heap) (locs : List Loc), va_P (dC, dI) vwCl [(a1, .inl (cZ, 62, .inl (jA y1))), (a2, .inl (cA, 62, .inl (jA y2))), (a6, .inl (cA, 62, .inl (jA y6))), (ma, .inr (5, [.int (jI mth1'), .int (jI mn), .ref a0, .int (jI mp), .int (jI mw), .ref a1, .ref a2, .ref a3, .ref a4, .ref a5, .ref a6, .ref a7, .ref a8, .ref a9, .ref a10, .long (jL mu), .long (jL md), .int (jI mo), .ref a11]))] H → va_D A [(a1, .inl (cZ, 62, .inl (jA y1))), (a2, .inl (cA, 62, .inl (jA y2))), (a6, .inl (cA, 62, .inl (jA y6))), (ma, .inr (5, [.int (jI mth1'), .int (jI mn), .ref a0, .int (jI mp), .int (jI mw), .ref a1, .ref a2, .ref a3, .ref a4, .ref a5, .ref a6, .ref a7, .ref a8, .ref a9, .ref a10, .long (jL mu), .long (jL md), .int (jI mo), .ref a11]))] → va_S A s.heap H locs → ∀ ls : Array Slot, lv_has ls 6 [(5, .int (jI k2)), (4, .int (jI lf)), (3, .int (jI bx)), (0, .ref ma)] → W p l e R s m ([.ref ma, .int (jI z1), .int (jI z2)] : List Value).toArray below meth c H locs 0 0 Q (F0 m 66 ls []) := by
          intro n9
          induction n9 with
          | zero =>
            intro lf k2 hm hF hk2 hlf
            exact absurd hm (by omega)
          | succ n9 ih66 =>
            intro lf k2 hm hF hk2 hlf H locs hP hD hS ls hl
            refine lv_iload hx hb dXM_route_66 (lv_at hl 0 rfl) ?_
            refine ji_bipush hx hb dXM_route_68 (by decide) ?_
            refine ji_icmp_ge (tgt := 102) hx hb dXM_route_70 (by decide) (by omega) (by omega) (fun c70_ => ?_) (fun c70_ => ?_)
            · refine ji_iconst hx hb dXM_route_102 ?_
              have hP9 := hP.sub (ws' := [(ma, .inr (5, [.int (jI mth1'), .int (jI mn), .ref a0, .int (jI mp), .int (jI mw), .ref a1, .ref a2, .ref a3, .ref a4, .ref a5, .ref a6, .ref a7, .ref a8, .ref a9, .ref a10, .long (jL mu), .long (jL md), .int (jI mo), .ref a11])), (a1, .inl (cZ, 62, .inl (jA y1))), (a2, .inl (cA, 62, .inl (jA y2))), (a6, .inl (cA, 62, .inl (jA y6)))]) [3, 0, 1, 2] rfl
              have hD9 := hD.sub (ws' := [(ma, .inr (5, [.int (jI mth1'), .int (jI mn), .ref a0, .int (jI mp), .int (jI mw), .ref a1, .ref a2, .ref a3, .ref a4, .ref a5, .ref a6, .ref a7, .ref a8, .ref a9, .ref a10, .long (jL mu), .long (jL md), .int (jI mo), .ref a11])), (a1, .inl (cZ, 62, .inl (jA y1))), (a2, .inl (cA, 62, .inl (jA y2))), (a6, .inl (cA, 62, .inl (jA y6)))]) [3, 0, 1, 2] (by decide) rfl
              subst hAe
              subst hQ
              exact W.iret (v := jI (-1)) hx hb hr (fun t ht hW => ⟨⟨_, (-1, mth1'), rfl, ⟨rfl, Eq.trans (by rw [f_XM_routeP_L66_s]; rw [if_neg (Int.not_lt.mpr c70_)]; try rfl) hF, show -1 ≤ (-1) ∧ (-1) ≤ 7 from by first | assumption | omega | exact jset_b (by assumption) (by omega) | exact jset_l (by assumption) (by omega) | exact jset_l (fun _ _ => rfl) (by omega) | exact fun _ _ => rfl | exact l_trans (by assumption) (by assumption)⟩, ⟨by rw [ht]; exact hP9, va_K.moved hW.alike hK, hD9⟩⟩, hS.F ht⟩) hS.2.2 dXM_route_103
            · refine lv_iload_n hx hb dXM_route_73 rfl (lv_at hl 2 rfl) ?_
              refine lv_iload hx hb dXM_route_74 (lv_at hl 0 rfl) ?_
              refine lv_ishr hx hb dXM_route_76 ?_
              refine ji_rev ?_
              have rb := jti32 (jI bx >>> (jI k2 &&& 31))
              refine ji_iconst hx hb dXM_route_77 ?_
              refine lv_iand hx hb dXM_route_78 ?_
              refine ji_rev ?_
              have rb1 := jti32 (jI ((jI bx >>> (jI k2 &&& 31)).toInt) &&& jI 1)
              refine ji_if_ne (tgt := 85) hx hb dXM_route_79 (by decide) (by omega) (fun c79_ => ?_) (fun c79_ => ?_)
              · refine lv_iload hx hb dXM_route_85 (lv_at hl 1 rfl) ?_
                refine ji_if_ne (tgt := 93) hx hb dXM_route_87 (by decide) (by omega) (fun c87_ => ?_) (fun c87_ => ?_)
                · refine ji_iinc (k := 1) (lv' := [(4, .int (jI (lf + (-1)))), (5, .int (jI k2)), (3, .int (jI bx)), (0, .ref ma)]) hx hb dXM_route_93 hl rfl (by decide) rfl (fun ls hl => ?_)
                  refine ji_iinc (k := 1) (lv' := [(5, .int (jI (k2 + 1))), (4, .int (jI (lf + (-1)))), (3, .int (jI bx)), (0, .ref ma)]) hx hb dXM_route_96 hl rfl (by decide) rfl (fun ls hl => ?_)
                  refine lv_goto (tgt := 66) hx hb dXM_route_99 (by decide) ?_
                  exact ih66 (lf + (-1)) (k2 + 1) (by omega) (Eq.trans (by rw [f_XM_routeP_L66_s]; rw [if_pos c70_, if_neg c79_, if_neg c87_]; try rfl) hF) (by first | assumption | omega) (by first | assumption | omega) _ _ hP hD hS ls (lv_sub hl [0, 1, 2, 3] rfl)
                · refine lv_iload hx hb dXM_route_90 (lv_at hl 0 rfl) ?_
                  have hP9 := hP.sub (ws' := [(ma, .inr (5, [.int (jI mth1'), .int (jI mn), .ref a0, .int (jI mp), .int (jI mw), .ref a1, .ref a2, .ref a3, .ref a4, .ref a5, .ref a6, .ref a7, .ref a8, .ref a9, .ref a10, .long (jL mu), .long (jL md), .int (jI mo), .ref a11])), (a1, .inl (cZ, 62, .inl (jA y1))), (a2, .inl (cA, 62, .inl (jA y2))), (a6, .inl (cA, 62, .inl (jA y6)))]) [3, 0, 1, 2] rfl
                  have hD9 := hD.sub (ws' := [(ma, .inr (5, [.int (jI mth1'), .int (jI mn), .ref a0, .int (jI mp), .int (jI mw), .ref a1, .ref a2, .ref a3, .ref a4, .ref a5, .ref a6, .ref a7, .ref a8, .ref a9, .ref a10, .long (jL mu), .long (jL md), .int (jI mo), .ref a11])), (a1, .inl (cZ, 62, .inl (jA y1))), (a2, .inl (cA, 62, .inl (jA y2))), (a6, .inl (cA, 62, .inl (jA y6)))]) [3, 0, 1, 2] (by decide) rfl
                  subst hAe
                  subst hQ
                  exact W.iret (v := jI k2) hx hb hr (fun t ht hW => ⟨⟨_, (k2, mth1'), rfl, ⟨rfl, Eq.trans (by rw [f_XM_routeP_L66_s]; rw [if_pos c70_, if_neg c79_, if_pos c87_]; try rfl) hF, show -1 ≤ k2 ∧ k2 ≤ 7 from by first | assumption | omega | exact jset_b (by assumption) (by omega) | exact jset_l (by assumption) (by omega) | exact jset_l (fun _ _ => rfl) (by omega) | exact fun _ _ => rfl | exact l_trans (by assumption) (by assumption)⟩, ⟨by rw [ht]; exact hP9, va_K.moved hW.alike hK, hD9⟩⟩, hS.F ht⟩) hS.2.2 dXM_route_92
              · refine lv_goto (tgt := 96) hx hb dXM_route_82 (by decide) ?_
                refine ji_iinc (k := 0) (lv' := [(5, .int (jI (k2 + 1))), (4, .int (jI lf)), (3, .int (jI bx)), (0, .ref ma)]) hx hb dXM_route_96 hl rfl (by decide) rfl (fun ls hl => ?_)
                refine lv_goto (tgt := 66) hx hb dXM_route_99 (by decide) ?_
                exact ih66 lf (k2 + 1) (by omega) (Eq.trans (by rw [f_XM_routeP_L66_s]; rw [if_pos c70_, if_pos c79_]; try rfl) hF) (by first | assumption | omega) (by first | assumption | omega) _ _ hP hD hS ls (lv_sub hl [0, 1, 2, 3] rfl)
        exact loop66 (Int.toNat (8 - 0) + 1) z2 0 (by omega) (Eq.trans (by rw [f_XM_routeP_J60_s]; try rfl) hF) (by first | assumption | omega) (by first | assumption | omega) _ _ hP hD hS ls (lv_sub hl [0, 1, 2, 3] rfl)
      refine lv_iload_n hx hb dXM_route_29 rfl (lv_at hl 2 rfl) ?_
      refine lv_istore (lv' := [(4, .int (jI z1)), (3, .int (jI 0)), (0, .ref ma), (1, .int (jI z1)), (2, .int (jI z2))]) hx hb dXM_route_30 hl (by decide) rfl (fun ls hl => ?_)
      have loop32 : ∀ (n9 : Nat) (bt9 : Int) (k : Int) , jdp (fun x => f_XM_from mth1' mn mp mw mu md mo y1 y2 x) 41 k < (n9 : Int) → f_XM_routeP_L32 mth mn mp mw mu md mo y1 y2 y6 z1 z2 mth1' n9 bt9 k = f_XM_routeP mth mn mp mw mu md mo y1 y2 y6 z1 z2 → (0 ≤ k ∧ k ≤ 30) → (i32 bt9) → ∀ (H : Heap) (locs : List Loc), va_P (dC, dI) vwCl [(a1, .inl (cZ, 62, .inl (jA y1))), (a2, .inl (cA, 62, .inl (jA y2))), (a6, .inl (cA, 62, .inl (jA y6))), (ma, .inr (5, [.int (jI mth1'), .int (jI mn), .ref a0, .int (jI mp), .int (jI mw), .ref a1, .ref a2, .ref a3, .ref a4, .ref a5, .ref a6, .ref a7, .ref a8, .ref a9, .ref a10, .long (jL mu), .long (jL md), .int (jI mo), .ref a11]))] H → va_D A [(a1, .inl (cZ, 62, .inl (jA y1))), (a2, .inl (cA, 62, .inl (jA y2))), (a6, .inl (cA, 62, .inl (jA y6))), (ma, .inr (5, [.int (jI mth1'), .int (jI mn), .ref a0, .int (jI mp), .int (jI mw), .ref a1, .ref a2, .ref a3, .ref a4, .ref a5, .ref a6, .ref a7, .ref a8, .ref a9, .ref a10, .long (jL mu), .long (jL md), .int (jI mo), .ref a11]))] → va_S A s.heap H locs → ∀ ls : Array Slot, lv_has ls 6 [(4, .int (jI k)), (3, .int (jI bt9)), (0, .ref ma), (1, .int (jI z1)), (2, .int (jI z2))] → W p l e R s m ([.ref ma, .int (jI z1), .int (jI z2)] : List Value).toArray below meth c H locs 0 0 Q (F0 m 32 ls []) := by
        intro n9
        induction n9 with
        | zero =>
          intro bt9 k hm hF hk hbt
          exact absurd hm (by have h8 := jdp_nn (fun x => f_XM_from mth1' mn mp mw mu md mo y1 y2 x) 41 k; omega)
        | succ n9 ih32 =>
          intro bt9 k hm hF hk hbt H locs hP hD hS ls hl
          refine lv_iload hx hb dXM_route_32 (lv_at hl 0 rfl) ?_
          refine ji_if_le (tgt := 60) hx hb dXM_route_34 (by decide) (by omega) (fun c34_ => ?_) (fun c34_ => ?_)
          · exact join60 bt9 k (Eq.trans (by rw [f_XM_routeP_L32_s]; rw [if_neg (Int.not_lt.mpr c34_)]; try rfl) hF) (by first | assumption | omega | exact jset_b (by assumption) (by omega)) _ _ hP hD hS ls (lv_sub hl [1, 2, 3, 4, 0] rfl)
          · refine lv_iload_n hx hb dXM_route_37 rfl (lv_at hl 1 rfl) ?_
            refine ji_if_ne (tgt := 60) hx hb dXM_route_38 (by decide) (by omega) (fun c38_ => ?_) (fun c38_ => ?_)
            · exact join60 bt9 k (Eq.trans (by rw [f_XM_routeP_L32_s]; rw [if_pos c34_, if_neg c38_]; try rfl) hF) (by first | assumption | omega | exact jset_b (by assumption) (by omega)) _ _ hP hD hS ls (lv_sub hl [1, 2, 3, 4, 0] rfl)
            · refine lv_aload_n hx hb dXM_route_41 rfl (lv_at hl 2 rfl) ?_
              refine va_get (D := (dC, dI)) (ci := 5) (v := .ref a6) (C := RXM) (T := TXM) (N := 19) hx hb hts (fun w h => jmem (inXM w h)) hown hK hP 3 rfl rfl 10 (by decide) (hts _ (jmem tw_638)) (fun _ h9 => h9) rfl dXM_route_42 ?_
              refine lv_iload hx hb dXM_route_45 (lv_at hl 0 rfl) ?_
              refine ji_iald hx hb hK hP 2 0 rfl rfl ⟨by omega, by omega⟩ (by decide) dXM_route_47 ?_
              have rb2 := hy6 k
              refine lv_istore_n (lv' := [(3, .int (jI (y6 k))), (4, .int (jI k)), (0, .ref ma), (1, .int (jI z1)), (2, .int (jI z2))]) hx hb dXM_route_48 rfl hl (by decide) rfl (fun ls hl => ?_)
              refine lv_aload_n hx hb dXM_route_49 rfl (lv_at hl 2 rfl) ?_
              refine lv_iload hx hb dXM_route_50 (lv_at hl 1 rfl) ?_
              refine jrVi (rest := []) ⟨hx, hb, hml, hown, hts⟩ (c_XM_from l dC dI cA cZ ma a0 a1 a2 a3 a4 a5 a6 a7 a8 a9 a10 a11 mth1' mn mp mw mu md mo y1 y2 k (by first | assumption | omega) (by first | assumption | omega) (by first | assumption | omega)) (cwV 1 hts (jG_V tw_779 tw_781 ts_31 tw_6 tw_782) rfl rfl rfl (by decide +kernel) (by rw [hR]; exact ⟨Nat.le_of_ble_eq_true rfl, Nat.le_of_ble_eq_true rfl⟩)) hK hP hN [3, 0, 1] rfl 3 5 rfl rfl rfl rfl hl.1 rfl (Nat.le_of_ble_eq_true rfl) dXM_route_52 (by rw [hR]; exact ⟨Nat.le_of_ble_eq_true rfl, Nat.le_of_ble_eq_true rfl⟩) ?_
              have f3 := f_XM_from_b mth1' mn mp mw mu md mo y1 y2 k (by first | assumption | omega) (by first | assumption | omega) (by first | assumption | omega)
              refine lv_istore (lv' := [(4, .int (jI (f_XM_from mth1' mn mp mw mu md mo y1 y2 k))), (3, .int (jI (y6 k))), (0, .ref ma), (1, .int (jI z1)), (2, .int (jI z2))]) hx hb dXM_route_55 hl (by decide) rfl (fun ls hl => ?_)
              refine lv_goto (tgt := 32) hx hb dXM_route_57 (by decide) ?_
              exact ih32 (y6 k) (f_XM_from mth1' mn mp mw mu md mo y1 y2 k) (by have h8 := from_dec mth1' mn mp mw mu md mo y1 y2 hy1 hy2 k (by omega); omega) (Eq.trans (by rw [f_XM_routeP_L32_s]; rw [if_pos c34_, if_pos c38_]; try rfl) hF) (by first | assumption | omega) (by first | assumption | omega) _ _ hP hD hS ls (lv_sub hl [0, 1, 2, 3, 4] rfl)
      exact loop32 (Int.toNat (jdp (fun x => f_XM_from mth1' mn mp mw mu md mo y1 y2 x) 41 z1) + 1) 0 z1 (by omega) (Eq.trans (by rw [f_XM_routeP_J18_s]; rw [← hwb]; try dsimp only; rw [if_neg c22_]; try rfl) hF) (by first | assumption | omega) (by first | assumption | omega) _ _ hP hD hS ls (lv_sub hl [0, 1, 2, 3, 4] rfl)
    · refine ji_iconst hx hb dXM_route_25 ?_
      have hP9 := hP.sub (ws' := [(ma, .inr (5, [.int (jI mth1'), .int (jI mn), .ref a0, .int (jI mp), .int (jI mw), .ref a1, .ref a2, .ref a3, .ref a4, .ref a5, .ref a6, .ref a7, .ref a8, .ref a9, .ref a10, .long (jL mu), .long (jL md), .int (jI mo), .ref a11])), (a1, .inl (cZ, 62, .inl (jA y1))), (a2, .inl (cA, 62, .inl (jA y2))), (a6, .inl (cA, 62, .inl (jA y6)))]) [3, 0, 1, 2] rfl
      have hD9 := hD.sub (ws' := [(ma, .inr (5, [.int (jI mth1'), .int (jI mn), .ref a0, .int (jI mp), .int (jI mw), .ref a1, .ref a2, .ref a3, .ref a4, .ref a5, .ref a6, .ref a7, .ref a8, .ref a9, .ref a10, .long (jL mu), .long (jL md), .int (jI mo), .ref a11])), (a1, .inl (cZ, 62, .inl (jA y1))), (a2, .inl (cA, 62, .inl (jA y2))), (a6, .inl (cA, 62, .inl (jA y6)))]) [3, 0, 1, 2] (by decide) rfl
      subst hAe
      subst hQ
      exact W.iret (v := jI 0) hx hb hr (fun t ht hW => ⟨⟨_, (0, mth1'), rfl, ⟨rfl, Eq.trans (by rw [f_XM_routeP_J18_s]; rw [← hwb]; try dsimp only; rw [if_pos c22_]; try rfl) hF, show -1 ≤ 0 ∧ 0 ≤ 7 from by first | assumption | omega | exact jset_b (by assumption) (by omega) | exact jset_l (by assumption) (by omega) | exact jset_l (fun _ _ => rfl) (by omega) | exact fun _ _ => rfl | exact l_trans (by assumption) (by assumption)⟩, ⟨by rw [ht]; exact hP9, va_K.moved hW.alike hK, hD9⟩⟩, hS.F ht⟩) hS.2.2 dXM_route_26
  refine lv_aload_n hx hb dXM_route_1 rfl (lv_at hl 0 rfl) ?_
  refine lv_iload_n hx hb dXM_route_2 rfl (lv_at hl 1 rfl) ?_
  refine jrVi (rest := [.ref ma]) ⟨hx, hb, hml, hown, hts⟩ (c_XM_isTold l dC dI cA cZ ma a0 a1 a2 a3 a4 a5 a6 a7 a8 a9 a10 a11 mth mn mp mw mu md mo y1 z1 (by first | assumption | omega) (by first | assumption | omega)) (cwV 1 hts (jG_V tw_768 tw_770 ts_29 tw_6 tw_771) rfl rfl rfl (by decide +kernel) (by rw [hR]; exact ⟨Nat.le_of_ble_eq_true rfl, Nat.le_of_ble_eq_true rfl⟩)) hK hP hN [0, 1] rfl 0 5 rfl rfl rfl rfl hl.1 rfl (Nat.le_of_ble_eq_true rfl) dXM_route_3 (by rw [hR]; exact ⟨Nat.le_of_ble_eq_true rfl, Nat.le_of_ble_eq_true rfl⟩) ?_
  have f4 := f_XM_isTold_b mth mn mp mw mu md mo y1 z1 (by first | assumption | omega) (by first | assumption | omega)
  refine ji_if_eq (tgt := 17) hx hb dXM_route_6 (by decide) (by omega) (fun c6_ => ?_) (fun c6_ => ?_)
  · refine ji_iconst hx hb dXM_route_17 ?_
    exact join18 0 (Eq.trans (by rw [f_XM_routeP_s]; rw [if_pos c6_]; try rfl) rfl) (by first | assumption | omega | exact jset_b (by assumption) (by omega)) _ _ hP hD hS ls (lv_sub hl [0, 1, 2] rfl)
  · refine lv_iload_n hx hb dXM_route_9 rfl (lv_at hl 2 rfl) ?_
    refine ji_if_lt (tgt := 17) hx hb dXM_route_10 (by decide) (by omega) (fun c10_ => ?_) (fun c10_ => ?_)
    · refine ji_iconst hx hb dXM_route_17 ?_
      exact join18 0 (Eq.trans (by rw [f_XM_routeP_s]; rw [if_neg c6_, if_pos c10_]; try rfl) rfl) (by first | assumption | omega | exact jset_b (by assumption) (by omega)) _ _ hP hD hS ls (lv_sub hl [0, 1, 2] rfl)
    · refine ji_iconst hx hb dXM_route_13 ?_
      refine lv_goto (tgt := 18) hx hb dXM_route_14 (by decide) ?_
      exact join18 1 (Eq.trans (by rw [f_XM_routeP_s]; rw [if_neg c6_, if_neg (Int.not_lt.mpr c10_)]; try rfl) rfl) (by first | assumption | omega | exact jset_b (by assumption) (by omega)) _ _ hP hD hS ls (lv_sub hl [0, 1, 2] rfl)
noncomputable def g_XM_differenceP_L41 (mth : Int) (mn : Int) (mp : Int) (mw : Int) (mu : Int) (md : Int) (mo : Int) (y1 : Int → Int) (y2 : Int → Int) (y3 : Int → Int) (y4 : Int → Int) (y5 : Int → Int) (z1 : Int) (z2 : Int) (z3 : Int) (mth1' : Int) : Nat → Int → Int → Int × Int
  | 0, _, _ => (0, 0)
  | n9 + 1, lf, k =>
    if k < 8 then
      if (f_XM_lowOfP mth1' mn mp mw mu md mo y1 y2 y3 y4 z1 k) = (f_XM_lowOfP mth1' mn mp mw mu md mo y1 y2 y3 y4 z2 k) then
        if (f_XM_highOfP mth1' mn mp mw mu md mo y1 y2 y3 y5 z1 k) = (f_XM_highOfP mth1' mn mp mw mu md mo y1 y2 y3 y5 z2 k) then
          g_XM_differenceP_L41 mth mn mp mw mu md mo y1 y2 y3 y4 y5 z1 z2 z3 mth1' n9 lf (k + 1)
        else
          if lf = 0 then
            (k, mth1')
          else
            g_XM_differenceP_L41 mth mn mp mw mu md mo y1 y2 y3 y4 y5 z1 z2 z3 mth1' n9 (lf + (-1)) (k + 1)
      else
        if lf = 0 then
          (k, mth1')
        else
          g_XM_differenceP_L41 mth mn mp mw mu md mo y1 y2 y3 y4 y5 z1 z2 z3 mth1' n9 (lf + (-1)) (k + 1)
    else
      (-1, mth1')
noncomputable def f_XM_differenceP_L41 : Int → Int → Int → Int → Int → Int → Int → (Int → Int) → (Int → Int) → (Int → Int) → (Int → Int) → (Int → Int) → Int → Int → Int → Int → Nat → Int → Int → Int × Int := jopq g_XM_differenceP_L41
theorem f_XM_differenceP_L41_q : f_XM_differenceP_L41 = g_XM_differenceP_L41 := jopq_eq _
theorem f_XM_differenceP_L41_s (mth : Int) (mn : Int) (mp : Int) (mw : Int) (mu : Int) (md : Int) (mo : Int) (y1 : Int → Int) (y2 : Int → Int) (y3 : Int → Int) (y4 : Int → Int) (y5 : Int → Int) (z1 : Int) (z2 : Int) (z3 : Int) (mth1' : Int) (n9 : Nat) (lf : Int) (k : Int) : f_XM_differenceP_L41 mth mn mp mw mu md mo y1 y2 y3 y4 y5 z1 z2 z3 mth1' (n9 + 1) lf k = (
    if k < 8 then
      if (f_XM_lowOfP mth1' mn mp mw mu md mo y1 y2 y3 y4 z1 k) = (f_XM_lowOfP mth1' mn mp mw mu md mo y1 y2 y3 y4 z2 k) then
        if (f_XM_highOfP mth1' mn mp mw mu md mo y1 y2 y3 y5 z1 k) = (f_XM_highOfP mth1' mn mp mw mu md mo y1 y2 y3 y5 z2 k) then
          f_XM_differenceP_L41 mth mn mp mw mu md mo y1 y2 y3 y4 y5 z1 z2 z3 mth1' n9 lf (k + 1)
        else
          if lf = 0 then
            (k, mth1')
          else
            f_XM_differenceP_L41 mth mn mp mw mu md mo y1 y2 y3 y4 y5 z1 z2 z3 mth1' n9 (lf + (-1)) (k + 1)
      else
        if lf = 0 then
          (k, mth1')
        else
          f_XM_differenceP_L41 mth mn mp mw mu md mo y1 y2 y3 y4 y5 z1 z2 z3 mth1' n9 (lf + (-1)) (k + 1)
    else
      (-1, mth1')
  : Int × Int) := by rw [f_XM_differenceP_L41_q]; rfl
theorem f_XM_differenceP_L41_z (mth : Int) (mn : Int) (mp : Int) (mw : Int) (mu : Int) (md : Int) (mo : Int) (y1 : Int → Int) (y2 : Int → Int) (y3 : Int → Int) (y4 : Int → Int) (y5 : Int → Int) (z1 : Int) (z2 : Int) (z3 : Int) (mth1' : Int) (lf : Int) (k : Int) : f_XM_differenceP_L41 mth mn mp mw mu md mo y1 y2 y3 y4 y5 z1 z2 z3 mth1' 0 lf k = (0, 0) := by rw [f_XM_differenceP_L41_q]; rfl
noncomputable def g_XM_differenceP_J26 (mth : Int) (mn : Int) (mp : Int) (mw : Int) (mu : Int) (md : Int) (mo : Int) (y1 : Int → Int) (y2 : Int → Int) (y3 : Int → Int) (y4 : Int → Int) (y5 : Int → Int) (z1 : Int) (z2 : Int) (z3 : Int) (jc : Int) : Int × Int :=
  match f_XM_goesP mth mn mp mw mu md mo jc 1 with
  | (r, mth1') =>
    if r = 0 then
      (0, mth1')
    else
      f_XM_differenceP_L41 mth mn mp mw mu md mo y1 y2 y3 y4 y5 z1 z2 z3 mth1' (Int.toNat (8 - 0) + 1) z3 0
noncomputable def f_XM_differenceP_J26 : Int → Int → Int → Int → Int → Int → Int → (Int → Int) → (Int → Int) → (Int → Int) → (Int → Int) → (Int → Int) → Int → Int → Int → Int → Int × Int := jopq g_XM_differenceP_J26
theorem f_XM_differenceP_J26_q : f_XM_differenceP_J26 = g_XM_differenceP_J26 := jopq_eq _
theorem f_XM_differenceP_J26_s (mth : Int) (mn : Int) (mp : Int) (mw : Int) (mu : Int) (md : Int) (mo : Int) (y1 : Int → Int) (y2 : Int → Int) (y3 : Int → Int) (y4 : Int → Int) (y5 : Int → Int) (z1 : Int) (z2 : Int) (z3 : Int) (jc : Int) : f_XM_differenceP_J26 mth mn mp mw mu md mo y1 y2 y3 y4 y5 z1 z2 z3 jc = (
    match f_XM_goesP mth mn mp mw mu md mo jc 1 with
    | (r, mth1') =>
      if r = 0 then
        (0, mth1')
      else
        f_XM_differenceP_L41 mth mn mp mw mu md mo y1 y2 y3 y4 y5 z1 z2 z3 mth1' (Int.toNat (8 - 0) + 1) z3 0
  : Int × Int) := by rw [f_XM_differenceP_J26_q]; rfl
noncomputable def g_XM_differenceP (mth : Int) (mn : Int) (mp : Int) (mw : Int) (mu : Int) (md : Int) (mo : Int) (y1 : Int → Int) (y2 : Int → Int) (y3 : Int → Int) (y4 : Int → Int) (y5 : Int → Int) (z1 : Int) (z2 : Int) (z3 : Int) : Int × Int :=
  if (f_XM_isTold mth mn mp mw mu md mo y1 z1) = 0 then
    f_XM_differenceP_J26 mth mn mp mw mu md mo y1 y2 y3 y4 y5 z1 z2 z3 0
  else
    if (f_XM_isTold mth mn mp mw mu md mo y1 z2) = 0 then
      f_XM_differenceP_J26 mth mn mp mw mu md mo y1 y2 y3 y4 y5 z1 z2 z3 0
    else
      if z3 < 0 then
        f_XM_differenceP_J26 mth mn mp mw mu md mo y1 y2 y3 y4 y5 z1 z2 z3 0
      else
        f_XM_differenceP_J26 mth mn mp mw mu md mo y1 y2 y3 y4 y5 z1 z2 z3 1
noncomputable def f_XM_differenceP : Int → Int → Int → Int → Int → Int → Int → (Int → Int) → (Int → Int) → (Int → Int) → (Int → Int) → (Int → Int) → Int → Int → Int → Int × Int := jopq g_XM_differenceP
theorem f_XM_differenceP_q : f_XM_differenceP = g_XM_differenceP := jopq_eq _
theorem f_XM_differenceP_s (mth : Int) (mn : Int) (mp : Int) (mw : Int) (mu : Int) (md : Int) (mo : Int) (y1 : Int → Int) (y2 : Int → Int) (y3 : Int → Int) (y4 : Int → Int) (y5 : Int → Int) (z1 : Int) (z2 : Int) (z3 : Int) : f_XM_differenceP mth mn mp mw mu md mo y1 y2 y3 y4 y5 z1 z2 z3 = (
    if (f_XM_isTold mth mn mp mw mu md mo y1 z1) = 0 then
      f_XM_differenceP_J26 mth mn mp mw mu md mo y1 y2 y3 y4 y5 z1 z2 z3 0
    else
      if (f_XM_isTold mth mn mp mw mu md mo y1 z2) = 0 then
        f_XM_differenceP_J26 mth mn mp mw mu md mo y1 y2 y3 y4 y5 z1 z2 z3 0
      else
        if z3 < 0 then
          f_XM_differenceP_J26 mth mn mp mw mu md mo y1 y2 y3 y4 y5 z1 z2 z3 0
        else
          f_XM_differenceP_J26 mth mn mp mw mu md mo y1 y2 y3 y4 y5 z1 z2 z3 1
  : Int × Int) := by rw [f_XM_differenceP_q]; rfl
set_option maxHeartbeats 4000000 in
set_option maxRecDepth 100000 in
theorem c_XM_differenceP (l : Launch) (dC : Nat → ClassId) (dI : Nat → Nat → Nat) (cA cZ : ClassId) (sz : Nat) (ma : Nat) (a0 : Nat) (a1 : Nat) (a2 : Nat) (a3 : Nat) (a4 : Nat) (a5 : Nat) (a6 : Nat) (a7 : Nat) (a8 : Nat) (a9 : Nat) (a10 : Nat) (a11 : Nat) (mth : Int) (mn : Int) (mp : Int) (mw : Int) (mu : Int) (md : Int) (mo : Int) (y1 : Int → Int) (y2 : Int → Int) (y3 : Int → Int) (y4 : Int → Int) (y5 : Int → Int) (z1 : Int) (z2 : Int) (z3 : Int) (hy1 : ∀ i, 0 ≤ y1 i ∧ y1 i ≤ 1) (hy2 : ∀ i, 0 ≤ y2 i ∧ y2 i ≤ 30) (hy3 : ∀ i, 0 ≤ y3 i ∧ y3 i ≤ 1) (hy4 : ∀ i, 0 ≤ y4 i ∧ y4 i ≤ 100000) (hy5 : ∀ i, 0 ≤ y5 i ∧ y5 i ≤ 100000) (hiz1 : i32 z1) (hiz2 : i32 z2) (hiz3 : i32 z3) : Met l yXM_difference (Cond.code yXM_difference cXM_difference 6 (some .int) :: TBL) ({ frames := 5, cells := 0, slots := 0, locals := 110 } : Room) (va_Pc [.ref ma, .int (jI z1), .int (jI z2), .int (jI z3)] (jBw (dC, dI) [(cA, .int), (cZ, .boolean)] [(ma, .inr (5, [.int (jI mth), .int (jI mn), .ref a0, .int (jI mp), .int (jI mw), .ref a1, .ref a2, .ref a3, .ref a4, .ref a5, .ref a6, .ref a7, .ref a8, .ref a9, .ref a10, .long (jL mu), .long (jL md), .int (jI mo), .ref a11])), (a1, .inl (cZ, 62, .inl (jA y1))), (a2, .inl (cA, 62, .inl (jA y2))), (a3, .inl (cZ, 496, .inl (jA y3))), (a4, .inl (cA, 496, .inl (jA y4))), (a5, .inl (cA, 496, .inl (jA y5)))] sz)) (va_Qi (fun (r : Int32) (u : Int × Int) => r = jI u.1 ∧ u = f_XM_differenceP mth mn mp mw mu md mo y1 y2 y3 y4 y5 z1 z2 z3 ∧ (-1 ≤ u.1 ∧ u.1 ≤ 7)) (fun u t => jE (dC, dI) [(cA, .int), (cZ, .boolean)] [(ma, .inr (5, [.int (jI mth), .int (jI mn), .ref a0, .int (jI mp), .int (jI mw), .ref a1, .ref a2, .ref a3, .ref a4, .ref a5, .ref a6, .ref a7, .ref a8, .ref a9, .ref a10, .long (jL mu), .long (jL md), .int (jI mo), .ref a11])), (a1, .inl (cZ, 62, .inl (jA y1))), (a2, .inl (cA, 62, .inl (jA y2))), (a3, .inl (cZ, 496, .inl (jA y3))), (a4, .inl (cA, 496, .inl (jA y4))), (a5, .inl (cA, 496, .inl (jA y5)))] sz [(ma, .inr (5, [.int (jI u.2), .int (jI mn), .ref a0, .int (jI mp), .int (jI mw), .ref a1, .ref a2, .ref a3, .ref a4, .ref a5, .ref a6, .ref a7, .ref a8, .ref a9, .ref a10, .long (jL mu), .long (jL md), .int (jI mo), .ref a11])), (a1, .inl (cZ, 62, .inl (jA y1))), (a2, .inl (cA, 62, .inl (jA y2))), (a3, .inl (cZ, 496, .inl (jA y3))), (a4, .inl (cA, 496, .inl (jA y4))), (a5, .inl (cA, 496, .inl (jA y5)))] t) (va_A [(ma, .inr (5, [.int (jI mth), .int (jI mn), .ref a0, .int (jI mp), .int (jI mw), .ref a1, .ref a2, .ref a3, .ref a4, .ref a5, .ref a6, .ref a7, .ref a8, .ref a9, .ref a10, .long (jL mu), .long (jL md), .int (jI mo), .ref a11])), (a1, .inl (cZ, 62, .inl (jA y1))), (a2, .inl (cA, 62, .inl (jA y2))), (a3, .inl (cZ, 496, .inl (jA y3))), (a4, .inl (cA, 496, .inl (jA y4))), (a5, .inl (cA, 496, .inl (jA y5)))] sz)) 0 0 (va_A [(ma, .inr (5, [.int (jI mth), .int (jI mn), .ref a0, .int (jI mp), .int (jI mw), .ref a1, .ref a2, .ref a3, .ref a4, .ref a5, .ref a6, .ref a7, .ref a8, .ref a9, .ref a10, .long (jL mu), .long (jL md), .int (jI mo), .ref a11])), (a1, .inl (cZ, 62, .inl (jA y1))), (a2, .inl (cA, 62, .inl (jA y2))), (a3, .inl (cZ, 496, .inl (jA y3))), (a4, .inl (cA, 496, .inl (jA y4))), (a5, .inl (cA, 496, .inl (jA y5)))] sz) := by
  refine jMet (cc := cXM_difference) (maxL := 6) (ret := some .int) (by decide) rfl ?_
  intro p e s m args below meth c s₁ R Q hR hQ B hml hv
  obtain ⟨rfl, hsz, hP, hK, hD0, hN⟩ := hv
  have hx := B.exec
  have hb := B.bytes
  have hr := B.returns
  have hts := atoms_spec (ws := Cond.code yXM_difference cXM_difference 6 (some .int) :: TBL) B.pre
  have hown : s.vm.findClass RXM = some m.cls := findClass_of_methodNamed B.named
  have hlocks := B.notSynchronized
  subst hsz
  obtain ⟨A, hAe⟩ : ∃ A, A = va_A [(ma, .inr (5, [.int (jI mth), .int (jI mn), .ref a0, .int (jI mp), .int (jI mw), .ref a1, .ref a2, .ref a3, .ref a4, .ref a5, .ref a6, .ref a7, .ref a8, .ref a9, .ref a10, .long (jL mu), .long (jL md), .int (jI mo), .ref a11])), (a1, .inl (cZ, 62, .inl (jA y1))), (a2, .inl (cA, 62, .inl (jA y2))), (a3, .inl (cZ, 496, .inl (jA y3))), (a4, .inl (cA, 496, .inl (jA y4))), (a5, .inl (cA, 496, .inl (jA y5)))] s.heap.size := ⟨_, rfl⟩
  have hD : va_D A [(ma, .inr (5, [.int (jI mth), .int (jI mn), .ref a0, .int (jI mp), .int (jI mw), .ref a1, .ref a2, .ref a3, .ref a4, .ref a5, .ref a6, .ref a7, .ref a8, .ref a9, .ref a10, .long (jL mu), .long (jL md), .int (jI mo), .ref a11])), (a1, .inl (cZ, 62, .inl (jA y1))), (a2, .inl (cA, 62, .inl (jA y2))), (a3, .inl (cZ, 496, .inl (jA y3))), (a4, .inl (cA, 496, .inl (jA y4))), (a5, .inl (cA, 496, .inl (jA y5)))] := by rw [hAe]; exact hD0.self
  have hA : ∀ q : Nat, s.heap.size ≤ q → A q := fun q h => by rw [hAe]; exact Or.inr h
  have hS : va_S A s.heap s.heap [] := va_S.rf
  have hP : va_P (dC, dI) vwCl [(ma, .inr (5, [.int (jI mth), .int (jI mn), .ref a0, .int (jI mp), .int (jI mw), .ref a1, .ref a2, .ref a3, .ref a4, .ref a5, .ref a6, .ref a7, .ref a8, .ref a9, .ref a10, .long (jL mu), .long (jL md), .int (jI mo), .ref a11])), (a1, .inl (cZ, 62, .inl (jA y1))), (a2, .inl (cA, 62, .inl (jA y2))), (a3, .inl (cZ, 496, .inl (jA y3))), (a4, .inl (cA, 496, .inl (jA y4))), (a5, .inl (cA, 496, .inl (jA y5)))] s.heap := hP
  have hl := lv_entry ([.ref ma, .int (jI z1), .int (jI z2), .int (jI z3)]) (n := 6) (Nat.le_of_ble_eq_true rfl)
  rw [lg_entry_eq]
  generalize (lg_sl ([.ref ma, .int (jI z1), .int (jI z2), .int (jI z3)]) ++ List.replicate (6 - (lg_sl ([.ref ma, .int (jI z1), .int (jI z2), .int (jI z3)])).length) Slot.unset).toArray = ls at hl ⊢
  have hl : lv_has ls 6 [(0, .ref ma), (1, .int (jI z1)), (2, .int (jI z2)), (3, .int (jI z3))] := hl
  refine lv_aload_n hx hb dXM_difference_0 rfl (lv_at hl 0 rfl) ?_
  have join26 : ∀ (jc : Int) , f_XM_differenceP_J26 mth mn mp mw mu md mo y1 y2 y3 y4 y5 z1 z2 z3 jc = f_XM_differenceP mth mn mp mw mu md mo y1 y2 y3 y4 y5 z1 z2 z3 → ((jc = 0) ∨ (jc = 1 ∧ 1 ≤ z1 ∧ z1 ≤ 30 ∧ 1 ≤ z2 ∧ z2 ≤ 30 ∧ 0 ≤ z3)) → ∀ (H : Heap) (locs : List Loc), va_P (dC, dI) vwCl [(ma, .inr (5, [.int (jI mth), .int (jI mn), .ref a0, .int (jI mp), .int (jI mw), .ref a1, .ref a2, .ref a3, .ref a4, .ref a5, .ref a6, .ref a7, .ref a8, .ref a9, .ref a10, .long (jL mu), .long (jL md), .int (jI mo), .ref a11])), (a1, .inl (cZ, 62, .inl (jA y1))), (a2, .inl (cA, 62, .inl (jA y2))), (a3, .inl (cZ, 496, .inl (jA y3))), (a4, .inl (cA, 496, .inl (jA y4))), (a5, .inl (cA, 496, .inl (jA y5)))] H → va_D A [(ma, .inr (5, [.int (jI mth), .int (jI mn), .ref a0, .int (jI mp), .int (jI mw), .ref a1, .ref a2, .ref a3, .ref a4, .ref a5, .ref a6, .ref a7, .ref a8, .ref a9, .ref a10, .long (jL mu), .long (jL md), .int (jI mo), .ref a11])), (a1, .inl (cZ, 62, .inl (jA y1))), (a2, .inl (cA, 62, .inl (jA y2))), (a3, .inl (cZ, 496, .inl (jA y3))), (a4, .inl (cA, 496, .inl (jA y4))), (a5, .inl (cA, 496, .inl (jA y5)))] → va_S A s.heap H locs → ∀ ls : Array Slot, lv_has ls 6 [(0, .ref ma), (1, .int (jI z1)), (2, .int (jI z2)), (3, .int (jI z3))] → W p l e R s m ([.ref ma, .int (jI z1), .int (jI z2), .int (jI z3)] : List Value).toArray below meth c H locs 0 0 Q (F0 m 26 ls [.int (jI jc), .ref ma]) := by
    intro jc hF hjc H locs hP hD hS ls hl
    refine ji_iconst hx hb dXM_difference_26 ?_
    refine jwVi (rest := []) (wr := [(a1, .inl (cZ, 62, .inl (jA y1))), (a2, .inl (cA, 62, .inl (jA y2))), (a3, .inl (cZ, 496, .inl (jA y3))), (a4, .inl (cA, 496, .inl (jA y4))), (a5, .inl (cA, 496, .inl (jA y5)))]) ⟨hx, hb, hml, hown, hts⟩ (c_XM_goesP l dC dI cA cZ _ ma a0 a1 a2 a3 a4 a5 a6 a7 a8 a9 a10 a11 mth mn mp mw mu md mo jc 1 (by first | assumption | omega) (by first | assumption | omega)) (cwV 2 hts (jG_V tw_698 tw_700 ts_14 tw_6 tw_701) rfl rfl rfl (by decide +kernel) (by rw [hR]; exact ⟨Nat.le_of_ble_eq_true rfl, Nat.le_of_ble_eq_true rfl⟩)) hK hP hD hS hA hN [0] [1, 2, 3, 4, 5] rfl rfl (by decide) (by decide) (by decide) 0 5 rfl rfl rfl rfl hl.1 rfl (Nat.le_of_ble_eq_true rfl) dXM_difference_27 (by rw [hR]; exact ⟨Nat.le_of_ble_eq_true rfl, Nat.le_of_ble_eq_true rfl⟩) (fun v u H locs hwb hP hD hS => ?_)
    obtain ⟨r, mth1'⟩ := u
    try dsimp only at hwb
    obtain ⟨er, hwb, f⟩ := hwb
    subst er
    have f : (r = 0 ∧ mth1' = 1 ∧ jc = 0) ∨ (r = 0 ∧ mth1' = 2 ∧ jc = 1 ∧ (1 : Int) = 0) ∨ (r = 1 ∧ mth1' = 0 ∧ jc = 1 ∧ (1 : Int) = 1) := f
    have hP : va_P (dC, dI) vwCl [(a1, .inl (cZ, 62, .inl (jA y1))), (a2, .inl (cA, 62, .inl (jA y2))), (a3, .inl (cZ, 496, .inl (jA y3))), (a4, .inl (cA, 496, .inl (jA y4))), (a5, .inl (cA, 496, .inl (jA y5))), (ma, .inr (5, [.int (jI mth1'), .int (jI mn), .ref a0, .int (jI mp), .int (jI mw), .ref a1, .ref a2, .ref a3, .ref a4, .ref a5, .ref a6, .ref a7, .ref a8, .ref a9, .ref a10, .long (jL mu), .long (jL md), .int (jI mo), .ref a11]))] H := hP
    have hD : va_D A [(a1, .inl (cZ, 62, .inl (jA y1))), (a2, .inl (cA, 62, .inl (jA y2))), (a3, .inl (cZ, 496, .inl (jA y3))), (a4, .inl (cA, 496, .inl (jA y4))), (a5, .inl (cA, 496, .inl (jA y5))), (ma, .inr (5, [.int (jI mth1'), .int (jI mn), .ref a0, .int (jI mp), .int (jI mw), .ref a1, .ref a2, .ref a3, .ref a4, .ref a5, .ref a6, .ref a7, .ref a8, .ref a9, .ref a10, .long (jL mu), .long (jL md), .int (jI mo), .ref a11]))] := hD
    refine ji_if_ne (tgt := 35) hx hb dXM_difference_30 (by decide) (by omega) (fun c30_ => ?_) (fun c30_ => ?_)
    · refine lv_iload_n hx hb dXM_difference_35 rfl (lv_at hl 3 rfl) ?_
      refine lv_istore (lv' := [(4, .int (jI z3)), (0, .ref ma), (1, .int (jI z1)), (2, .int (jI z2)), (3, .int (jI z3))]) hx hb dXM_difference_36 hl (by decide) rfl (fun ls hl => ?_)
      refine ji_iconst hx hb dXM_difference_38 ?_
      refine lv_istore (lv' := [(5, .int (jI 0)), (4, .int (jI z3)), (0, .ref ma), (1, .int (jI z1)), (2, .int (jI z2)), (3, .int (jI z3))]) hx hb dXM_difference_39 hl (by decide) rfl (fun ls hl => ?_)
      have loop41 : ∀ (n9 : Nat) (lf : Int) (k : Int) , 8 - k < (n9 : Int) → f_XM_differenceP_L41 mth mn mp mw mu md mo y1 y2 y3 y4 y5 z1 z2 z3 mth1' n9 lf k = f_XM_differenceP mth mn mp mw mu md mo y1 y2 y3 y4 y5 z1 z2 z3 → (0 ≤ k ∧ k ≤ 8) → (0 ≤ lf ∧ lf < 2147483648) → ∀ (H : Heap) (locs : List Loc), va_P (dC, dI) vwCl [(a1, .inl (cZ, 62, .inl (jA y1))), (a2, .inl (cA, 62, .inl (jA y2))), (a3, .inl (cZ, 496, .inl (jA y3))), (a4, .inl (cA, 496, .inl (jA y4))), (a5, .inl (cA, 496, .inl (jA y5))), (ma, .inr (5, [.int (jI mth1'), .int (jI mn), .ref a0, .int (jI mp), .int (jI mw), .ref a1, .ref a2, .ref a3, .ref a4, .ref a5, .ref a6, .ref a7, .ref a8, .ref a9, .ref a10, .long (jL mu), .long (jL md), .int (jI mo), .ref a11]))] H → va_D A [(a1, .inl (cZ, 62, .inl (jA y1))), (a2, .inl (cA, 62, .inl (jA y2))), (a3, .inl (cZ, 496, .inl (jA y3))), (a4, .inl (cA, 496, .inl (jA y4))), (a5, .inl (cA, 496, .inl (jA y5))), (ma, .inr (5, [.int (jI mth1'), .int (jI mn), .ref a0, .int (jI mp), .int (jI mw), .ref a1, .ref a2, .ref a3, .ref a4, .ref a5, .ref a6, .ref a7, .ref a8, .ref a9, .ref a10, .long (jL mu), .long (jL md), .int (jI mo), .ref a11]))] → va_S A s.heap H locs → ∀ ls : Array Slot, lv_has ls 6 [(5, .int (jI k)), (4, .int (jI lf)), (0, .ref ma), (1, .int (jI z1)), (2, .int (jI z2)), (3, .int (jI z3))] → W p l e R s m ([.ref ma, .int (jI z1), .int (jI z2), .int (jI z3)] : List Value).toArray below meth c H locs 0 0 Q (F0 m 41 ls []) := by
        intro n9
        induction n9 with
        | zero =>
          intro lf k hm hF hk hlf
          exact absurd hm (by omega)
        | succ n9 ih41 =>
          intro lf k hm hF hk hlf H locs hP hD hS ls hl
          refine lv_iload hx hb dXM_difference_41 (lv_at hl 0 rfl) ?_
          refine ji_bipush hx hb dXM_difference_43 (by decide) ?_
          refine ji_icmp_ge (tgt := 102) hx hb dXM_difference_45 (by decide) (by omega) (by omega) (fun c45_ => ?_) (fun c45_ => ?_)
          · refine ji_iconst hx hb dXM_difference_102 ?_
            have hP9 := hP.sub (ws' := [(ma, .inr (5, [.int (jI mth1'), .int (jI mn), .ref a0, .int (jI mp), .int (jI mw), .ref a1, .ref a2, .ref a3, .ref a4, .ref a5, .ref a6, .ref a7, .ref a8, .ref a9, .ref a10, .long (jL mu), .long (jL md), .int (jI mo), .ref a11])), (a1, .inl (cZ, 62, .inl (jA y1))), (a2, .inl (cA, 62, .inl (jA y2))), (a3, .inl (cZ, 496, .inl (jA y3))), (a4, .inl (cA, 496, .inl (jA y4))), (a5, .inl (cA, 496, .inl (jA y5)))]) [5, 0, 1, 2, 3, 4] rfl
            have hD9 := hD.sub (ws' := [(ma, .inr (5, [.int (jI mth1'), .int (jI mn), .ref a0, .int (jI mp), .int (jI mw), .ref a1, .ref a2, .ref a3, .ref a4, .ref a5, .ref a6, .ref a7, .ref a8, .ref a9, .ref a10, .long (jL mu), .long (jL md), .int (jI mo), .ref a11])), (a1, .inl (cZ, 62, .inl (jA y1))), (a2, .inl (cA, 62, .inl (jA y2))), (a3, .inl (cZ, 496, .inl (jA y3))), (a4, .inl (cA, 496, .inl (jA y4))), (a5, .inl (cA, 496, .inl (jA y5)))]) [5, 0, 1, 2, 3, 4] (by decide) rfl
            subst hAe
            subst hQ
            exact W.iret (v := jI (-1)) hx hb hr (fun t ht hW => ⟨⟨_, (-1, mth1'), rfl, ⟨rfl, Eq.trans (by rw [f_XM_differenceP_L41_s]; rw [if_neg (Int.not_lt.mpr c45_)]; try rfl) hF, show -1 ≤ (-1) ∧ (-1) ≤ 7 from by first | assumption | omega | exact jset_b (by assumption) (by omega) | exact jset_l (by assumption) (by omega) | exact jset_l (fun _ _ => rfl) (by omega) | exact fun _ _ => rfl | exact l_trans (by assumption) (by assumption)⟩, ⟨by rw [ht]; exact hP9, va_K.moved hW.alike hK, hD9⟩⟩, hS.F ht⟩) hS.2.2 dXM_difference_103
          · refine lv_aload_n hx hb dXM_difference_48 rfl (lv_at hl 2 rfl) ?_
            refine lv_iload_n hx hb dXM_difference_49 rfl (lv_at hl 3 rfl) ?_
            refine lv_iload hx hb dXM_difference_50 (lv_at hl 0 rfl) ?_
            refine jrVi (rest := []) ⟨hx, hb, hml, hown, hts⟩ (c_XM_lowOfP l dC dI cA cZ ma a0 a1 a2 a3 a4 a5 a6 a7 a8 a9 a10 a11 mth1' mn mp mw mu md mo y1 y2 y3 y4 z1 k (by first | assumption | omega) (by first | assumption | omega) (by first | assumption | omega) (by first | assumption | omega) (by first | assumption | omega) (by first | assumption | omega)) (cwV 2 hts (jG_V tw_775 tw_777 ts_30 tw_6 tw_778) rfl rfl rfl (by decide +kernel) (by rw [hR]; exact ⟨Nat.le_of_ble_eq_true rfl, Nat.le_of_ble_eq_true rfl⟩)) hK hP hN [5, 0, 1, 2, 3] rfl 5 5 rfl rfl rfl rfl hl.1 rfl (Nat.le_of_ble_eq_true rfl) dXM_difference_52 (by rw [hR]; exact ⟨Nat.le_of_ble_eq_true rfl, Nat.le_of_ble_eq_true rfl⟩) ?_
            have f1 := f_XM_lowOfP_b mth1' mn mp mw mu md mo y1 y2 y3 y4 z1 k (by first | assumption | omega) (by first | assumption | omega) (by first | assumption | omega) (by first | assumption | omega) (by first | assumption | omega) (by first | assumption | omega)
            refine lv_aload_n hx hb dXM_difference_55 rfl (lv_at hl 2 rfl) ?_
            refine lv_iload_n hx hb dXM_difference_56 rfl (lv_at hl 4 rfl) ?_
            refine lv_iload hx hb dXM_difference_57 (lv_at hl 0 rfl) ?_
            refine jrVi (rest := [.int (jI (f_XM_lowOfP mth1' mn mp mw mu md mo y1 y2 y3 y4 z1 k))]) ⟨hx, hb, hml, hown, hts⟩ (c_XM_lowOfP l dC dI cA cZ ma a0 a1 a2 a3 a4 a5 a6 a7 a8 a9 a10 a11 mth1' mn mp mw mu md mo y1 y2 y3 y4 z2 k (by first | assumption | omega) (by first | assumption | omega) (by first | assumption | omega) (by first | assumption | omega) (by first | assumption | omega) (by first | assumption | omega)) (cwV 2 hts (jG_V tw_775 tw_777 ts_30 tw_6 tw_778) rfl rfl rfl (by decide +kernel) (by rw [hR]; exact ⟨Nat.le_of_ble_eq_true rfl, Nat.le_of_ble_eq_true rfl⟩)) hK hP hN [5, 0, 1, 2, 3] rfl 5 5 rfl rfl rfl rfl hl.1 rfl (Nat.le_of_ble_eq_true rfl) dXM_difference_59 (by rw [hR]; exact ⟨Nat.le_of_ble_eq_true rfl, Nat.le_of_ble_eq_true rfl⟩) ?_
            have f2 := f_XM_lowOfP_b mth1' mn mp mw mu md mo y1 y2 y3 y4 z2 k (by first | assumption | omega) (by first | assumption | omega) (by first | assumption | omega) (by first | assumption | omega) (by first | assumption | omega) (by first | assumption | omega)
            refine ji_icmp_ne (tgt := 85) hx hb dXM_difference_62 (by decide) (by omega) (by omega) (fun c62_ => ?_) (fun c62_ => ?_)
            · refine lv_iload hx hb dXM_difference_85 (lv_at hl 1 rfl) ?_
              refine ji_if_ne (tgt := 93) hx hb dXM_difference_87 (by decide) (by omega) (fun c87_ => ?_) (fun c87_ => ?_)
              · refine ji_iinc (k := 1) (lv' := [(4, .int (jI (lf + (-1)))), (5, .int (jI k)), (0, .ref ma), (1, .int (jI z1)), (2, .int (jI z2)), (3, .int (jI z3))]) hx hb dXM_difference_93 hl rfl (by decide) rfl (fun ls hl => ?_)
                refine ji_iinc (k := 1) (lv' := [(5, .int (jI (k + 1))), (4, .int (jI (lf + (-1)))), (0, .ref ma), (1, .int (jI z1)), (2, .int (jI z2)), (3, .int (jI z3))]) hx hb dXM_difference_96 hl rfl (by decide) rfl (fun ls hl => ?_)
                refine lv_goto (tgt := 41) hx hb dXM_difference_99 (by decide) ?_
                exact ih41 (lf + (-1)) (k + 1) (by omega) (Eq.trans (by rw [f_XM_differenceP_L41_s]; rw [if_pos c45_, if_neg c62_, if_neg c87_]; try rfl) hF) (by first | assumption | omega) (by first | assumption | omega) _ _ hP hD hS ls (lv_sub hl [0, 1, 2, 3, 4, 5] rfl)
              · refine lv_iload hx hb dXM_difference_90 (lv_at hl 0 rfl) ?_
                have hP9 := hP.sub (ws' := [(ma, .inr (5, [.int (jI mth1'), .int (jI mn), .ref a0, .int (jI mp), .int (jI mw), .ref a1, .ref a2, .ref a3, .ref a4, .ref a5, .ref a6, .ref a7, .ref a8, .ref a9, .ref a10, .long (jL mu), .long (jL md), .int (jI mo), .ref a11])), (a1, .inl (cZ, 62, .inl (jA y1))), (a2, .inl (cA, 62, .inl (jA y2))), (a3, .inl (cZ, 496, .inl (jA y3))), (a4, .inl (cA, 496, .inl (jA y4))), (a5, .inl (cA, 496, .inl (jA y5)))]) [5, 0, 1, 2, 3, 4] rfl
                have hD9 := hD.sub (ws' := [(ma, .inr (5, [.int (jI mth1'), .int (jI mn), .ref a0, .int (jI mp), .int (jI mw), .ref a1, .ref a2, .ref a3, .ref a4, .ref a5, .ref a6, .ref a7, .ref a8, .ref a9, .ref a10, .long (jL mu), .long (jL md), .int (jI mo), .ref a11])), (a1, .inl (cZ, 62, .inl (jA y1))), (a2, .inl (cA, 62, .inl (jA y2))), (a3, .inl (cZ, 496, .inl (jA y3))), (a4, .inl (cA, 496, .inl (jA y4))), (a5, .inl (cA, 496, .inl (jA y5)))]) [5, 0, 1, 2, 3, 4] (by decide) rfl
                subst hAe
                subst hQ
                exact W.iret (v := jI k) hx hb hr (fun t ht hW => ⟨⟨_, (k, mth1'), rfl, ⟨rfl, Eq.trans (by rw [f_XM_differenceP_L41_s]; rw [if_pos c45_, if_neg c62_, if_pos c87_]; try rfl) hF, show -1 ≤ k ∧ k ≤ 7 from by first | assumption | omega | exact jset_b (by assumption) (by omega) | exact jset_l (by assumption) (by omega) | exact jset_l (fun _ _ => rfl) (by omega) | exact fun _ _ => rfl | exact l_trans (by assumption) (by assumption)⟩, ⟨by rw [ht]; exact hP9, va_K.moved hW.alike hK, hD9⟩⟩, hS.F ht⟩) hS.2.2 dXM_difference_92
            · refine lv_aload_n hx hb dXM_difference_65 rfl (lv_at hl 2 rfl) ?_
              refine lv_iload_n hx hb dXM_difference_66 rfl (lv_at hl 3 rfl) ?_
              refine lv_iload hx hb dXM_difference_67 (lv_at hl 0 rfl) ?_
              refine jrVi (rest := []) ⟨hx, hb, hml, hown, hts⟩ (c_XM_highOfP l dC dI cA cZ ma a0 a1 a2 a3 a4 a5 a6 a7 a8 a9 a10 a11 mth1' mn mp mw mu md mo y1 y2 y3 y5 z1 k (by first | assumption | omega) (by first | assumption | omega) (by first | assumption | omega) (by first | assumption | omega) (by first | assumption | omega) (by first | assumption | omega)) (cwV 2 hts (jG_V tw_787 tw_789 ts_33 tw_6 tw_790) rfl rfl rfl (by decide +kernel) (by rw [hR]; exact ⟨Nat.le_of_ble_eq_true rfl, Nat.le_of_ble_eq_true rfl⟩)) hK hP hN [5, 0, 1, 2, 4] rfl 5 5 rfl rfl rfl rfl hl.1 rfl (Nat.le_of_ble_eq_true rfl) dXM_difference_69 (by rw [hR]; exact ⟨Nat.le_of_ble_eq_true rfl, Nat.le_of_ble_eq_true rfl⟩) ?_
              have f3 := f_XM_highOfP_b mth1' mn mp mw mu md mo y1 y2 y3 y5 z1 k (by first | assumption | omega) (by first | assumption | omega) (by first | assumption | omega) (by first | assumption | omega) (by first | assumption | omega) (by first | assumption | omega)
              refine lv_aload_n hx hb dXM_difference_72 rfl (lv_at hl 2 rfl) ?_
              refine lv_iload_n hx hb dXM_difference_73 rfl (lv_at hl 4 rfl) ?_
              refine lv_iload hx hb dXM_difference_74 (lv_at hl 0 rfl) ?_
              refine jrVi (rest := [.int (jI (f_XM_highOfP mth1' mn mp mw mu md mo y1 y2 y3 y5 z1 k))]) ⟨hx, hb, hml, hown, hts⟩ (c_XM_highOfP l dC dI cA cZ ma a0 a1 a2 a3 a4 a5 a6 a7 a8 a9 a10 a11 mth1' mn mp mw mu md mo y1 y2 y3 y5 z2 k (by first | assumption | omega) (by first | assumption | omega) (by first | assumption | omega) (by first | assumption | omega) (by first | assumption | omega) (by first | assumption | omega)) (cwV 2 hts (jG_V tw_787 tw_789 ts_33 tw_6 tw_790) rfl rfl rfl (by decide +kernel) (by rw [hR]; exact ⟨Nat.le_of_ble_eq_true rfl, Nat.le_of_ble_eq_true rfl⟩)) hK hP hN [5, 0, 1, 2, 4] rfl 5 5 rfl rfl rfl rfl hl.1 rfl (Nat.le_of_ble_eq_true rfl) dXM_difference_76 (by rw [hR]; exact ⟨Nat.le_of_ble_eq_true rfl, Nat.le_of_ble_eq_true rfl⟩) ?_
              have f4 := f_XM_highOfP_b mth1' mn mp mw mu md mo y1 y2 y3 y5 z2 k (by first | assumption | omega) (by first | assumption | omega) (by first | assumption | omega) (by first | assumption | omega) (by first | assumption | omega) (by first | assumption | omega)
              refine ji_icmp_ne (tgt := 85) hx hb dXM_difference_79 (by decide) (by omega) (by omega) (fun c79_ => ?_) (fun c79_ => ?_)
              · refine lv_iload hx hb dXM_difference_85 (lv_at hl 1 rfl) ?_
                refine ji_if_ne (tgt := 93) hx hb dXM_difference_87 (by decide) (by omega) (fun c87_5 => ?_) (fun c87_5 => ?_)
                · refine ji_iinc (k := 1) (lv' := [(4, .int (jI (lf + (-1)))), (5, .int (jI k)), (0, .ref ma), (1, .int (jI z1)), (2, .int (jI z2)), (3, .int (jI z3))]) hx hb dXM_difference_93 hl rfl (by decide) rfl (fun ls hl => ?_)
                  refine ji_iinc (k := 1) (lv' := [(5, .int (jI (k + 1))), (4, .int (jI (lf + (-1)))), (0, .ref ma), (1, .int (jI z1)), (2, .int (jI z2)), (3, .int (jI z3))]) hx hb dXM_difference_96 hl rfl (by decide) rfl (fun ls hl => ?_)
                  refine lv_goto (tgt := 41) hx hb dXM_difference_99 (by decide) ?_
                  exact ih41 (lf + (-1)) (k + 1) (by omega) (Eq.trans (by rw [f_XM_differenceP_L41_s]; rw [if_pos c45_, if_pos c62_, if_neg c79_, if_neg c87_5]; try rfl) hF) (by first | assumption | omega) (by first | assumption | omega) _ _ hP hD hS ls (lv_sub hl [0, 1, 2, 3, 4, 5] rfl)
                · refine lv_iload hx hb dXM_difference_90 (lv_at hl 0 rfl) ?_
                  have hP9 := hP.sub (ws' := [(ma, .inr (5, [.int (jI mth1'), .int (jI mn), .ref a0, .int (jI mp), .int (jI mw), .ref a1, .ref a2, .ref a3, .ref a4, .ref a5, .ref a6, .ref a7, .ref a8, .ref a9, .ref a10, .long (jL mu), .long (jL md), .int (jI mo), .ref a11])), (a1, .inl (cZ, 62, .inl (jA y1))), (a2, .inl (cA, 62, .inl (jA y2))), (a3, .inl (cZ, 496, .inl (jA y3))), (a4, .inl (cA, 496, .inl (jA y4))), (a5, .inl (cA, 496, .inl (jA y5)))]) [5, 0, 1, 2, 3, 4] rfl
                  have hD9 := hD.sub (ws' := [(ma, .inr (5, [.int (jI mth1'), .int (jI mn), .ref a0, .int (jI mp), .int (jI mw), .ref a1, .ref a2, .ref a3, .ref a4, .ref a5, .ref a6, .ref a7, .ref a8, .ref a9, .ref a10, .long (jL mu), .long (jL md), .int (jI mo), .ref a11])), (a1, .inl (cZ, 62, .inl (jA y1))), (a2, .inl (cA, 62, .inl (jA y2))), (a3, .inl (cZ, 496, .inl (jA y3))), (a4, .inl (cA, 496, .inl (jA y4))), (a5, .inl (cA, 496, .inl (jA y5)))]) [5, 0, 1, 2, 3, 4] (by decide) rfl
                  subst hAe
                  subst hQ
                  exact W.iret (v := jI k) hx hb hr (fun t ht hW => ⟨⟨_, (k, mth1'), rfl, ⟨rfl, Eq.trans (by rw [f_XM_differenceP_L41_s]; rw [if_pos c45_, if_pos c62_, if_neg c79_, if_pos c87_5]; try rfl) hF, show -1 ≤ k ∧ k ≤ 7 from by first | assumption | omega | exact jset_b (by assumption) (by omega) | exact jset_l (by assumption) (by omega) | exact jset_l (fun _ _ => rfl) (by omega) | exact fun _ _ => rfl | exact l_trans (by assumption) (by assumption)⟩, ⟨by rw [ht]; exact hP9, va_K.moved hW.alike hK, hD9⟩⟩, hS.F ht⟩) hS.2.2 dXM_difference_92
              · refine lv_goto (tgt := 96) hx hb dXM_difference_82 (by decide) ?_
                refine ji_iinc (k := 0) (lv' := [(5, .int (jI (k + 1))), (4, .int (jI lf)), (0, .ref ma), (1, .int (jI z1)), (2, .int (jI z2)), (3, .int (jI z3))]) hx hb dXM_difference_96 hl rfl (by decide) rfl (fun ls hl => ?_)
                refine lv_goto (tgt := 41) hx hb dXM_difference_99 (by decide) ?_
                exact ih41 lf (k + 1) (by omega) (Eq.trans (by rw [f_XM_differenceP_L41_s]; rw [if_pos c45_, if_pos c62_, if_pos c79_]; try rfl) hF) (by first | assumption | omega) (by first | assumption | omega) _ _ hP hD hS ls (lv_sub hl [0, 1, 2, 3, 4, 5] rfl)
      exact loop41 (Int.toNat (8 - 0) + 1) z3 0 (by omega) (Eq.trans (by rw [f_XM_differenceP_J26_s]; rw [← hwb]; try dsimp only; rw [if_neg c30_]; try rfl) hF) (by first | assumption | omega) (by first | assumption | omega) _ _ hP hD hS ls (lv_sub hl [0, 1, 2, 3, 4, 5] rfl)
    · refine ji_iconst hx hb dXM_difference_33 ?_
      have hP9 := hP.sub (ws' := [(ma, .inr (5, [.int (jI mth1'), .int (jI mn), .ref a0, .int (jI mp), .int (jI mw), .ref a1, .ref a2, .ref a3, .ref a4, .ref a5, .ref a6, .ref a7, .ref a8, .ref a9, .ref a10, .long (jL mu), .long (jL md), .int (jI mo), .ref a11])), (a1, .inl (cZ, 62, .inl (jA y1))), (a2, .inl (cA, 62, .inl (jA y2))), (a3, .inl (cZ, 496, .inl (jA y3))), (a4, .inl (cA, 496, .inl (jA y4))), (a5, .inl (cA, 496, .inl (jA y5)))]) [5, 0, 1, 2, 3, 4] rfl
      have hD9 := hD.sub (ws' := [(ma, .inr (5, [.int (jI mth1'), .int (jI mn), .ref a0, .int (jI mp), .int (jI mw), .ref a1, .ref a2, .ref a3, .ref a4, .ref a5, .ref a6, .ref a7, .ref a8, .ref a9, .ref a10, .long (jL mu), .long (jL md), .int (jI mo), .ref a11])), (a1, .inl (cZ, 62, .inl (jA y1))), (a2, .inl (cA, 62, .inl (jA y2))), (a3, .inl (cZ, 496, .inl (jA y3))), (a4, .inl (cA, 496, .inl (jA y4))), (a5, .inl (cA, 496, .inl (jA y5)))]) [5, 0, 1, 2, 3, 4] (by decide) rfl
      subst hAe
      subst hQ
      exact W.iret (v := jI 0) hx hb hr (fun t ht hW => ⟨⟨_, (0, mth1'), rfl, ⟨rfl, Eq.trans (by rw [f_XM_differenceP_J26_s]; rw [← hwb]; try dsimp only; rw [if_pos c30_]; try rfl) hF, show -1 ≤ 0 ∧ 0 ≤ 7 from by first | assumption | omega | exact jset_b (by assumption) (by omega) | exact jset_l (by assumption) (by omega) | exact jset_l (fun _ _ => rfl) (by omega) | exact fun _ _ => rfl | exact l_trans (by assumption) (by assumption)⟩, ⟨by rw [ht]; exact hP9, va_K.moved hW.alike hK, hD9⟩⟩, hS.F ht⟩) hS.2.2 dXM_difference_34
  refine lv_aload_n hx hb dXM_difference_1 rfl (lv_at hl 0 rfl) ?_
  refine lv_iload_n hx hb dXM_difference_2 rfl (lv_at hl 1 rfl) ?_
  refine jrVi (rest := [.ref ma]) ⟨hx, hb, hml, hown, hts⟩ (c_XM_isTold l dC dI cA cZ ma a0 a1 a2 a3 a4 a5 a6 a7 a8 a9 a10 a11 mth mn mp mw mu md mo y1 z1 (by first | assumption | omega) (by first | assumption | omega)) (cwV 1 hts (jG_V tw_768 tw_770 ts_29 tw_6 tw_771) rfl rfl rfl (by decide +kernel) (by rw [hR]; exact ⟨Nat.le_of_ble_eq_true rfl, Nat.le_of_ble_eq_true rfl⟩)) hK hP hN [0, 1] rfl 0 5 rfl rfl rfl rfl hl.1 rfl (Nat.le_of_ble_eq_true rfl) dXM_difference_3 (by rw [hR]; exact ⟨Nat.le_of_ble_eq_true rfl, Nat.le_of_ble_eq_true rfl⟩) ?_
  have f6 := f_XM_isTold_b mth mn mp mw mu md mo y1 z1 (by first | assumption | omega) (by first | assumption | omega)
  refine ji_if_eq (tgt := 25) hx hb dXM_difference_6 (by decide) (by omega) (fun c6_ => ?_) (fun c6_ => ?_)
  · refine ji_iconst hx hb dXM_difference_25 ?_
    exact join26 0 (Eq.trans (by rw [f_XM_differenceP_s]; rw [if_pos c6_]; try rfl) rfl) (by first | assumption | omega | exact jset_b (by assumption) (by omega)) _ _ hP hD hS ls (lv_sub hl [0, 1, 2, 3] rfl)
  · refine lv_aload_n hx hb dXM_difference_9 rfl (lv_at hl 0 rfl) ?_
    refine lv_iload_n hx hb dXM_difference_10 rfl (lv_at hl 2 rfl) ?_
    refine jrVi (rest := [.ref ma]) ⟨hx, hb, hml, hown, hts⟩ (c_XM_isTold l dC dI cA cZ ma a0 a1 a2 a3 a4 a5 a6 a7 a8 a9 a10 a11 mth mn mp mw mu md mo y1 z2 (by first | assumption | omega) (by first | assumption | omega)) (cwV 1 hts (jG_V tw_768 tw_770 ts_29 tw_6 tw_771) rfl rfl rfl (by decide +kernel) (by rw [hR]; exact ⟨Nat.le_of_ble_eq_true rfl, Nat.le_of_ble_eq_true rfl⟩)) hK hP hN [0, 1] rfl 0 5 rfl rfl rfl rfl hl.1 rfl (Nat.le_of_ble_eq_true rfl) dXM_difference_11 (by rw [hR]; exact ⟨Nat.le_of_ble_eq_true rfl, Nat.le_of_ble_eq_true rfl⟩) ?_
    have f7 := f_XM_isTold_b mth mn mp mw mu md mo y1 z2 (by first | assumption | omega) (by first | assumption | omega)
    refine ji_if_eq (tgt := 25) hx hb dXM_difference_14 (by decide) (by omega) (fun c14_ => ?_) (fun c14_ => ?_)
    · refine ji_iconst hx hb dXM_difference_25 ?_
      exact join26 0 (Eq.trans (by rw [f_XM_differenceP_s]; rw [if_neg c6_, if_pos c14_]; try rfl) rfl) (by first | assumption | omega | exact jset_b (by assumption) (by omega)) _ _ hP hD hS ls (lv_sub hl [0, 1, 2, 3] rfl)
    · refine lv_iload_n hx hb dXM_difference_17 rfl (lv_at hl 3 rfl) ?_
      refine ji_if_lt (tgt := 25) hx hb dXM_difference_18 (by decide) (by omega) (fun c18_ => ?_) (fun c18_ => ?_)
      · refine ji_iconst hx hb dXM_difference_25 ?_
        exact join26 0 (Eq.trans (by rw [f_XM_differenceP_s]; rw [if_neg c6_, if_neg c14_, if_pos c18_]; try rfl) rfl) (by first | assumption | omega | exact jset_b (by assumption) (by omega)) _ _ hP hD hS ls (lv_sub hl [0, 1, 2, 3] rfl)
      · refine ji_iconst hx hb dXM_difference_21 ?_
        refine lv_goto (tgt := 26) hx hb dXM_difference_22 (by decide) ?_
        exact join26 1 (Eq.trans (by rw [f_XM_differenceP_s]; rw [if_neg c6_, if_neg c14_, if_neg (Int.not_lt.mpr c18_)]; try rfl) rfl) (by first | assumption | omega | exact jset_b (by assumption) (by omega)) _ _ hP hD hS ls (lv_sub hl [0, 1, 2, 3] rfl)
