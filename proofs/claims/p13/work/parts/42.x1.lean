section
noncomputable def g_XM_goesP (mth : Int) (mn : Int) (mp : Int) (mw : Int) (mu : Int) (md : Int) (mo : Int) (z1 : Int) (z2 : Int) : Int × Int :=
  if z1 = 0 then
    (0, 1)
  else
    if z2 = 0 then
      (0, 2)
    else
      (1, 0)
noncomputable def f_XM_goesP : Int → Int → Int → Int → Int → Int → Int → Int → Int → Int × Int := jopq g_XM_goesP
theorem f_XM_goesP_q : f_XM_goesP = g_XM_goesP := jopq_eq _
theorem f_XM_goesP_s (mth : Int) (mn : Int) (mp : Int) (mw : Int) (mu : Int) (md : Int) (mo : Int) (z1 : Int) (z2 : Int) : f_XM_goesP mth mn mp mw mu md mo z1 z2 = (
    if z1 = 0 then
      (0, 1)
    else
      if z2 = 0 then
        (0, 2)
      else
        (1, 0)
  : Int × Int) := by rw [f_XM_goesP_q]; rfl
set_option maxHeartbeats 4000000 in
set_option maxRecDepth 100000 in
theorem c_XM_goesP (l : Launch) (dC : Nat → ClassId) (dI : Nat → Nat → Nat) (cA cZ : ClassId) (sz : Nat) (ma : Nat) (a0 : Nat) (a1 : Nat) (a2 : Nat) (a3 : Nat) (a4 : Nat) (a5 : Nat) (a6 : Nat) (a7 : Nat) (a8 : Nat) (a9 : Nat) (a10 : Nat) (a11 : Nat) (mth : Int) (mn : Int) (mp : Int) (mw : Int) (mu : Int) (md : Int) (mo : Int) (z1 : Int) (z2 : Int) (h1 : 0 ≤ z1 ∧ z1 ≤ 1) (h2 : 0 ≤ z2 ∧ z2 ≤ 1) : Met l yXM_goes (Cond.code yXM_goes cXM_goes 3 (some .boolean) :: TBL) ({ frames := 0, cells := 0, slots := 0, locals := 0 } : Room) (va_Pc [.ref ma, .int (jI z1), .int (jI z2)] (jBw (dC, dI) [(cA, .int), (cZ, .boolean)] [(ma, .inr (5, [.int (jI mth), .int (jI mn), .ref a0, .int (jI mp), .int (jI mw), .ref a1, .ref a2, .ref a3, .ref a4, .ref a5, .ref a6, .ref a7, .ref a8, .ref a9, .ref a10, .long (jL mu), .long (jL md), .int (jI mo), .ref a11]))] sz)) (va_Qi (fun (r : Int32) (u : Int × Int) => r = jI u.1 ∧ u = f_XM_goesP mth mn mp mw mu md mo z1 z2 ∧ ((u.1 = 0 ∧ u.2 = 1 ∧ z1 = 0) ∨ (u.1 = 0 ∧ u.2 = 2 ∧ z1 = 1 ∧ z2 = 0) ∨ (u.1 = 1 ∧ u.2 = 0 ∧ z1 = 1 ∧ z2 = 1))) (fun u t => jE (dC, dI) [(cA, .int), (cZ, .boolean)] [(ma, .inr (5, [.int (jI mth), .int (jI mn), .ref a0, .int (jI mp), .int (jI mw), .ref a1, .ref a2, .ref a3, .ref a4, .ref a5, .ref a6, .ref a7, .ref a8, .ref a9, .ref a10, .long (jL mu), .long (jL md), .int (jI mo), .ref a11]))] sz [(ma, .inr (5, [.int (jI u.2), .int (jI mn), .ref a0, .int (jI mp), .int (jI mw), .ref a1, .ref a2, .ref a3, .ref a4, .ref a5, .ref a6, .ref a7, .ref a8, .ref a9, .ref a10, .long (jL mu), .long (jL md), .int (jI mo), .ref a11]))] t) (va_A [(ma, .inr (5, [.int (jI mth), .int (jI mn), .ref a0, .int (jI mp), .int (jI mw), .ref a1, .ref a2, .ref a3, .ref a4, .ref a5, .ref a6, .ref a7, .ref a8, .ref a9, .ref a10, .long (jL mu), .long (jL md), .int (jI mo), .ref a11]))] sz)) 0 0 (va_A [(ma, .inr (5, [.int (jI mth), .int (jI mn), .ref a0, .int (jI mp), .int (jI mw), .ref a1, .ref a2, .ref a3, .ref a4, .ref a5, .ref a6, .ref a7, .ref a8, .ref a9, .ref a10, .long (jL mu), .long (jL md), .int (jI mo), .ref a11]))] sz) := by
  refine jMet (cc := cXM_goes) (maxL := 3) (ret := some .boolean) (by decide) rfl ?_
  intro p e s m args below meth c s₁ R Q hR hQ B hml hv
  obtain ⟨rfl, hsz, hP, hK, hD0, hN⟩ := hv
  have hx := B.exec
  have hb := B.bytes
  have hr := B.returns
  have hts := atoms_spec (ws := Cond.code yXM_goes cXM_goes 3 (some .boolean) :: TBL) B.pre
  have hown : s.vm.findClass RXM = some m.cls := findClass_of_methodNamed B.named
  have hlocks := B.notSynchronized
  subst hsz
  obtain ⟨A, hAe⟩ : ∃ A, A = va_A [(ma, .inr (5, [.int (jI mth), .int (jI mn), .ref a0, .int (jI mp), .int (jI mw), .ref a1, .ref a2, .ref a3, .ref a4, .ref a5, .ref a6, .ref a7, .ref a8, .ref a9, .ref a10, .long (jL mu), .long (jL md), .int (jI mo), .ref a11]))] s.heap.size := ⟨_, rfl⟩
  have hD : va_D A [(ma, .inr (5, [.int (jI mth), .int (jI mn), .ref a0, .int (jI mp), .int (jI mw), .ref a1, .ref a2, .ref a3, .ref a4, .ref a5, .ref a6, .ref a7, .ref a8, .ref a9, .ref a10, .long (jL mu), .long (jL md), .int (jI mo), .ref a11]))] := by rw [hAe]; exact hD0.self
  have hA : ∀ q : Nat, s.heap.size ≤ q → A q := fun q h => by rw [hAe]; exact Or.inr h
  have hS : va_S A s.heap s.heap [] := va_S.rf
  have hP : va_P (dC, dI) vwCl [(ma, .inr (5, [.int (jI mth), .int (jI mn), .ref a0, .int (jI mp), .int (jI mw), .ref a1, .ref a2, .ref a3, .ref a4, .ref a5, .ref a6, .ref a7, .ref a8, .ref a9, .ref a10, .long (jL mu), .long (jL md), .int (jI mo), .ref a11]))] s.heap := hP
  have hl := lv_entry ([.ref ma, .int (jI z1), .int (jI z2)]) (n := 3) (Nat.le_of_ble_eq_true rfl)
  rw [lg_entry_eq]
  generalize (lg_sl ([.ref ma, .int (jI z1), .int (jI z2)]) ++ List.replicate (3 - (lg_sl ([.ref ma, .int (jI z1), .int (jI z2)])).length) Slot.unset).toArray = ls at hl ⊢
  have hl : lv_has ls 3 [(0, .ref ma), (1, .int (jI z1)), (2, .int (jI z2))] := hl
  refine lv_aload_n hx hb dXM_goes_0 rfl (lv_at hl 0 rfl) ?_
  refine lv_iload_n hx hb dXM_goes_1 rfl (lv_at hl 1 rfl) ?_
  refine ji_if_ne (tgt := 9) hx hb dXM_goes_2 (by decide) (by omega) (fun c2_ => ?_) (fun c2_ => ?_)
  · refine lv_iload_n hx hb dXM_goes_9 rfl (lv_at hl 2 rfl) ?_
    refine ji_if_ne (tgt := 17) hx hb dXM_goes_10 (by decide) (by omega) (fun c10_ => ?_) (fun c10_ => ?_)
    · refine ji_iconst hx hb dXM_goes_17 ?_
      refine va_put (D := (dC, dI)) (ci := 5) (v := .int (jI 0)) (ty := (.int)) (C := RXM) (T := TXM) (N := 19) hx hb hts (fun w h => jmem (inXM w h)) tyXM tyXM_ok nXM hown hK hP hD hS 0 rfl rfl 0 (by decide) (hts _ (jmem tw_628)) (fun _ h9 => h9) rfl (by decide +kernel) rfl rfl (Nat.le_of_ble_eq_true rfl) dXM_goes_18 (fun H locs hP hD hS => ?_)
      have hP : va_P (dC, dI) vwCl [(ma, .inr (5, [.int (jI 0), .int (jI mn), .ref a0, .int (jI mp), .int (jI mw), .ref a1, .ref a2, .ref a3, .ref a4, .ref a5, .ref a6, .ref a7, .ref a8, .ref a9, .ref a10, .long (jL mu), .long (jL md), .int (jI mo), .ref a11]))] H := hP
      have hD : va_D A [(ma, .inr (5, [.int (jI 0), .int (jI mn), .ref a0, .int (jI mp), .int (jI mw), .ref a1, .ref a2, .ref a3, .ref a4, .ref a5, .ref a6, .ref a7, .ref a8, .ref a9, .ref a10, .long (jL mu), .long (jL md), .int (jI mo), .ref a11]))] := hD
      refine lv_aload_n hx hb dXM_goes_21 rfl (lv_at hl 0 rfl) ?_
      refine va_get (D := (dC, dI)) (ci := 5) (v := .int (jI 0)) (C := RXM) (T := TXM) (N := 19) hx hb hts (fun w h => jmem (inXM w h)) hown hK hP 0 rfl rfl 0 (by decide) (hts _ (jmem tw_628)) (fun _ h9 => h9) rfl dXM_goes_22 ?_
      refine ji_if_ne (tgt := 32) hx hb dXM_goes_25 (by decide) (by first | omega | decide) (fun c25_ => absurd c25_ (by decide)) (fun c25_ => ?_)
      refine ji_iconst hx hb dXM_goes_28 ?_
      refine lv_goto (tgt := 33) hx hb dXM_goes_29 (by decide) ?_
      have hP9 := hP.sub (ws' := [(ma, .inr (5, [.int (jI 0), .int (jI mn), .ref a0, .int (jI mp), .int (jI mw), .ref a1, .ref a2, .ref a3, .ref a4, .ref a5, .ref a6, .ref a7, .ref a8, .ref a9, .ref a10, .long (jL mu), .long (jL md), .int (jI mo), .ref a11]))]) [0] rfl
      have hD9 := hD.sub (ws' := [(ma, .inr (5, [.int (jI 0), .int (jI mn), .ref a0, .int (jI mp), .int (jI mw), .ref a1, .ref a2, .ref a3, .ref a4, .ref a5, .ref a6, .ref a7, .ref a8, .ref a9, .ref a10, .long (jL mu), .long (jL md), .int (jI mo), .ref a11]))]) [0] (by decide) rfl
      subst hAe
      subst hQ
      exact W.zret (v := jI 1) hx hb hr (by first | decide | exact jz (by omega)) (fun t ht hW => ⟨⟨_, (1, 0), rfl, ⟨rfl, Eq.trans (by rw [f_XM_goesP_s]; rw [if_neg c2_, if_neg c10_]; try rfl) rfl, show (1 = 0 ∧ 0 = 1 ∧ z1 = 0) ∨ (1 = 0 ∧ 0 = 2 ∧ z1 = 1 ∧ z2 = 0) ∨ (1 = 1 ∧ 0 = 0 ∧ z1 = 1 ∧ z2 = 1) from by first | assumption | omega | exact jset_b (by assumption) (by omega) | exact jset_l (by assumption) (by omega) | exact jset_l (fun _ _ => rfl) (by omega) | exact fun _ _ => rfl | exact l_trans (by assumption) (by assumption)⟩, ⟨by rw [ht]; exact hP9, va_K.moved hW.alike hK, hD9⟩⟩, hS.F ht⟩) hS.2.2 dXM_goes_33
    · refine ji_iconst hx hb dXM_goes_13 ?_
      refine lv_goto (tgt := 18) hx hb dXM_goes_14 (by decide) ?_
      refine va_put (D := (dC, dI)) (ci := 5) (v := .int (jI 2)) (ty := (.int)) (C := RXM) (T := TXM) (N := 19) hx hb hts (fun w h => jmem (inXM w h)) tyXM tyXM_ok nXM hown hK hP hD hS 0 rfl rfl 0 (by decide) (hts _ (jmem tw_628)) (fun _ h9 => h9) rfl (by decide +kernel) rfl rfl (Nat.le_of_ble_eq_true rfl) dXM_goes_18 (fun H locs hP hD hS => ?_)
      have hP : va_P (dC, dI) vwCl [(ma, .inr (5, [.int (jI 2), .int (jI mn), .ref a0, .int (jI mp), .int (jI mw), .ref a1, .ref a2, .ref a3, .ref a4, .ref a5, .ref a6, .ref a7, .ref a8, .ref a9, .ref a10, .long (jL mu), .long (jL md), .int (jI mo), .ref a11]))] H := hP
      have hD : va_D A [(ma, .inr (5, [.int (jI 2), .int (jI mn), .ref a0, .int (jI mp), .int (jI mw), .ref a1, .ref a2, .ref a3, .ref a4, .ref a5, .ref a6, .ref a7, .ref a8, .ref a9, .ref a10, .long (jL mu), .long (jL md), .int (jI mo), .ref a11]))] := hD
      refine lv_aload_n hx hb dXM_goes_21 rfl (lv_at hl 0 rfl) ?_
      refine va_get (D := (dC, dI)) (ci := 5) (v := .int (jI 2)) (C := RXM) (T := TXM) (N := 19) hx hb hts (fun w h => jmem (inXM w h)) hown hK hP 0 rfl rfl 0 (by decide) (hts _ (jmem tw_628)) (fun _ h9 => h9) rfl dXM_goes_22 ?_
      refine ji_if_ne (tgt := 32) hx hb dXM_goes_25 (by decide) (by first | omega | decide) (fun c25_1 => ?_) (fun c25_1 => absurd c25_1 (by decide))
      refine ji_iconst hx hb dXM_goes_32 ?_
      have hP9 := hP.sub (ws' := [(ma, .inr (5, [.int (jI 2), .int (jI mn), .ref a0, .int (jI mp), .int (jI mw), .ref a1, .ref a2, .ref a3, .ref a4, .ref a5, .ref a6, .ref a7, .ref a8, .ref a9, .ref a10, .long (jL mu), .long (jL md), .int (jI mo), .ref a11]))]) [0] rfl
      have hD9 := hD.sub (ws' := [(ma, .inr (5, [.int (jI 2), .int (jI mn), .ref a0, .int (jI mp), .int (jI mw), .ref a1, .ref a2, .ref a3, .ref a4, .ref a5, .ref a6, .ref a7, .ref a8, .ref a9, .ref a10, .long (jL mu), .long (jL md), .int (jI mo), .ref a11]))]) [0] (by decide) rfl
      subst hAe
      subst hQ
      exact W.zret (v := jI 0) hx hb hr (by first | decide | exact jz (by omega)) (fun t ht hW => ⟨⟨_, (0, 2), rfl, ⟨rfl, Eq.trans (by rw [f_XM_goesP_s]; rw [if_neg c2_, if_pos c10_]; try rfl) rfl, show (0 = 0 ∧ 2 = 1 ∧ z1 = 0) ∨ (0 = 0 ∧ 2 = 2 ∧ z1 = 1 ∧ z2 = 0) ∨ (0 = 1 ∧ 2 = 0 ∧ z1 = 1 ∧ z2 = 1) from by first | assumption | omega | exact jset_b (by assumption) (by omega) | exact jset_l (by assumption) (by omega) | exact jset_l (fun _ _ => rfl) (by omega) | exact fun _ _ => rfl | exact l_trans (by assumption) (by assumption)⟩, ⟨by rw [ht]; exact hP9, va_K.moved hW.alike hK, hD9⟩⟩, hS.F ht⟩) hS.2.2 dXM_goes_33
  · refine ji_iconst hx hb dXM_goes_5 ?_
    refine lv_goto (tgt := 18) hx hb dXM_goes_6 (by decide) ?_
    refine va_put (D := (dC, dI)) (ci := 5) (v := .int (jI 1)) (ty := (.int)) (C := RXM) (T := TXM) (N := 19) hx hb hts (fun w h => jmem (inXM w h)) tyXM tyXM_ok nXM hown hK hP hD hS 0 rfl rfl 0 (by decide) (hts _ (jmem tw_628)) (fun _ h9 => h9) rfl (by decide +kernel) rfl rfl (Nat.le_of_ble_eq_true rfl) dXM_goes_18 (fun H locs hP hD hS => ?_)
    have hP : va_P (dC, dI) vwCl [(ma, .inr (5, [.int (jI 1), .int (jI mn), .ref a0, .int (jI mp), .int (jI mw), .ref a1, .ref a2, .ref a3, .ref a4, .ref a5, .ref a6, .ref a7, .ref a8, .ref a9, .ref a10, .long (jL mu), .long (jL md), .int (jI mo), .ref a11]))] H := hP
    have hD : va_D A [(ma, .inr (5, [.int (jI 1), .int (jI mn), .ref a0, .int (jI mp), .int (jI mw), .ref a1, .ref a2, .ref a3, .ref a4, .ref a5, .ref a6, .ref a7, .ref a8, .ref a9, .ref a10, .long (jL mu), .long (jL md), .int (jI mo), .ref a11]))] := hD
    refine lv_aload_n hx hb dXM_goes_21 rfl (lv_at hl 0 rfl) ?_
    refine va_get (D := (dC, dI)) (ci := 5) (v := .int (jI 1)) (C := RXM) (T := TXM) (N := 19) hx hb hts (fun w h => jmem (inXM w h)) hown hK hP 0 rfl rfl 0 (by decide) (hts _ (jmem tw_628)) (fun _ h9 => h9) rfl dXM_goes_22 ?_
    refine ji_if_ne (tgt := 32) hx hb dXM_goes_25 (by decide) (by first | omega | decide) (fun c25_2 => ?_) (fun c25_2 => absurd c25_2 (by decide))
    refine ji_iconst hx hb dXM_goes_32 ?_
    have hP9 := hP.sub (ws' := [(ma, .inr (5, [.int (jI 1), .int (jI mn), .ref a0, .int (jI mp), .int (jI mw), .ref a1, .ref a2, .ref a3, .ref a4, .ref a5, .ref a6, .ref a7, .ref a8, .ref a9, .ref a10, .long (jL mu), .long (jL md), .int (jI mo), .ref a11]))]) [0] rfl
    have hD9 := hD.sub (ws' := [(ma, .inr (5, [.int (jI 1), .int (jI mn), .ref a0, .int (jI mp), .int (jI mw), .ref a1, .ref a2, .ref a3, .ref a4, .ref a5, .ref a6, .ref a7, .ref a8, .ref a9, .ref a10, .long (jL mu), .long (jL md), .int (jI mo), .ref a11]))]) [0] (by decide) rfl
    subst hAe
    subst hQ
    exact W.zret (v := jI 0) hx hb hr (by first | decide | exact jz (by omega)) (fun t ht hW => ⟨⟨_, (0, 1), rfl, ⟨rfl, Eq.trans (by rw [f_XM_goesP_s]; rw [if_pos c2_]; try rfl) rfl, show (0 = 0 ∧ 1 = 1 ∧ z1 = 0) ∨ (0 = 0 ∧ 1 = 2 ∧ z1 = 1 ∧ z2 = 0) ∨ (0 = 1 ∧ 1 = 0 ∧ z1 = 1 ∧ z2 = 1) from by first | assumption | omega | exact jset_b (by assumption) (by omega) | exact jset_l (by assumption) (by omega) | exact jset_l (fun _ _ => rfl) (by omega) | exact fun _ _ => rfl | exact l_trans (by assumption) (by assumption)⟩, ⟨by rw [ht]; exact hP9, va_K.moved hW.alike hK, hD9⟩⟩, hS.F ht⟩) hS.2.2 dXM_goes_33
noncomputable def g_XM_ringP_L23 (mth : Int) (mn : Int) (mp : Int) (mw : Int) (mu : Int) (md : Int) (mo : Int) (y1 : Int → Int) (y2 : Int → Int) (z1 : Int) (mth1' : Int) : Nat → Int → Int → Int × Int
  | 0, _, _ => (0, 0)
  | n9 + 1, lf, k =>
    if k < 31 then
      if (y1 k) = 0 then
        g_XM_ringP_L23 mth mn mp mw mu md mo y1 y2 z1 mth1' n9 lf (k + 1)
      else
        if (f_XM_isRing mth1' mn mp mw mu md mo y1 y2 k) = 0 then
          g_XM_ringP_L23 mth mn mp mw mu md mo y1 y2 z1 mth1' n9 lf (k + 1)
        else
          if lf = 0 then
            (k, mth1')
          else
            g_XM_ringP_L23 mth mn mp mw mu md mo y1 y2 z1 mth1' n9 (lf + (-1)) (k + 1)
    else
      (-1, mth1')
noncomputable def f_XM_ringP_L23 : Int → Int → Int → Int → Int → Int → Int → (Int → Int) → (Int → Int) → Int → Int → Nat → Int → Int → Int × Int := jopq g_XM_ringP_L23
theorem f_XM_ringP_L23_q : f_XM_ringP_L23 = g_XM_ringP_L23 := jopq_eq _
theorem f_XM_ringP_L23_s (mth : Int) (mn : Int) (mp : Int) (mw : Int) (mu : Int) (md : Int) (mo : Int) (y1 : Int → Int) (y2 : Int → Int) (z1 : Int) (mth1' : Int) (n9 : Nat) (lf : Int) (k : Int) : f_XM_ringP_L23 mth mn mp mw mu md mo y1 y2 z1 mth1' (n9 + 1) lf k = (
    if k < 31 then
      if (y1 k) = 0 then
        f_XM_ringP_L23 mth mn mp mw mu md mo y1 y2 z1 mth1' n9 lf (k + 1)
      else
        if (f_XM_isRing mth1' mn mp mw mu md mo y1 y2 k) = 0 then
          f_XM_ringP_L23 mth mn mp mw mu md mo y1 y2 z1 mth1' n9 lf (k + 1)
        else
          if lf = 0 then
            (k, mth1')
          else
            f_XM_ringP_L23 mth mn mp mw mu md mo y1 y2 z1 mth1' n9 (lf + (-1)) (k + 1)
    else
      (-1, mth1')
  : Int × Int) := by rw [f_XM_ringP_L23_q]; rfl
noncomputable def g_XM_ringP_J10 (mth : Int) (mn : Int) (mp : Int) (mw : Int) (mu : Int) (md : Int) (mo : Int) (y1 : Int → Int) (y2 : Int → Int) (z1 : Int) (jz : Int) : Int × Int :=
  match f_XM_goesP mth mn mp mw mu md mo jz 1 with
  | (r, mth1') =>
    if r = 0 then
      (0, mth1')
    else
      f_XM_ringP_L23 mth mn mp mw mu md mo y1 y2 z1 mth1' (Int.toNat (31 - 1) + 1) z1 1
noncomputable def f_XM_ringP_J10 : Int → Int → Int → Int → Int → Int → Int → (Int → Int) → (Int → Int) → Int → Int → Int × Int := jopq g_XM_ringP_J10
theorem f_XM_ringP_J10_q : f_XM_ringP_J10 = g_XM_ringP_J10 := jopq_eq _
theorem f_XM_ringP_J10_s (mth : Int) (mn : Int) (mp : Int) (mw : Int) (mu : Int) (md : Int) (mo : Int) (y1 : Int → Int) (y2 : Int → Int) (z1 : Int) (jz : Int) : f_XM_ringP_J10 mth mn mp mw mu md mo y1 y2 z1 jz = (
    match f_XM_goesP mth mn mp mw mu md mo jz 1 with
    | (r, mth1') =>
      if r = 0 then
        (0, mth1')
      else
        f_XM_ringP_L23 mth mn mp mw mu md mo y1 y2 z1 mth1' (Int.toNat (31 - 1) + 1) z1 1
  : Int × Int) := by rw [f_XM_ringP_J10_q]; rfl
noncomputable def g_XM_ringP (mth : Int) (mn : Int) (mp : Int) (mw : Int) (mu : Int) (md : Int) (mo : Int) (y1 : Int → Int) (y2 : Int → Int) (z1 : Int) : Int × Int :=
  if z1 < 0 then
    f_XM_ringP_J10 mth mn mp mw mu md mo y1 y2 z1 0
  else
    f_XM_ringP_J10 mth mn mp mw mu md mo y1 y2 z1 1
noncomputable def f_XM_ringP : Int → Int → Int → Int → Int → Int → Int → (Int → Int) → (Int → Int) → Int → Int × Int := jopq g_XM_ringP
theorem f_XM_ringP_q : f_XM_ringP = g_XM_ringP := jopq_eq _
theorem f_XM_ringP_s (mth : Int) (mn : Int) (mp : Int) (mw : Int) (mu : Int) (md : Int) (mo : Int) (y1 : Int → Int) (y2 : Int → Int) (z1 : Int) : f_XM_ringP mth mn mp mw mu md mo y1 y2 z1 = (
    if z1 < 0 then
      f_XM_ringP_J10 mth mn mp mw mu md mo y1 y2 z1 0
    else
      f_XM_ringP_J10 mth mn mp mw mu md mo y1 y2 z1 1
  : Int × Int) := by rw [f_XM_ringP_q]; rfl
set_option maxHeartbeats 4000000 in
set_option maxRecDepth 100000 in
theorem c_XM_ringP (l : Launch) (dC : Nat → ClassId) (dI : Nat → Nat → Nat) (cA cZ : ClassId) (sz : Nat) (ma : Nat) (a0 : Nat) (a1 : Nat) (a2 : Nat) (a3 : Nat) (a4 : Nat) (a5 : Nat) (a6 : Nat) (a7 : Nat) (a8 : Nat) (a9 : Nat) (a10 : Nat) (a11 : Nat) (mth : Int) (mn : Int) (mp : Int) (mw : Int) (mu : Int) (md : Int) (mo : Int) (y1 : Int → Int) (y2 : Int → Int) (z1 : Int) (hy1 : ∀ i, 0 ≤ y1 i ∧ y1 i ≤ 1) (hy2 : ∀ i, 0 ≤ y2 i ∧ y2 i ≤ 30) (hiz1 : i32 z1) : Met l yXM_ring (Cond.code yXM_ring cXM_ring 4 (some .int) :: TBL) ({ frames := 3, cells := 0, slots := 0, locals := 66 } : Room) (va_Pc [.ref ma, .int (jI z1)] (jBw (dC, dI) [(cA, .int), (cZ, .boolean)] [(ma, .inr (5, [.int (jI mth), .int (jI mn), .ref a0, .int (jI mp), .int (jI mw), .ref a1, .ref a2, .ref a3, .ref a4, .ref a5, .ref a6, .ref a7, .ref a8, .ref a9, .ref a10, .long (jL mu), .long (jL md), .int (jI mo), .ref a11])), (a1, .inl (cZ, 62, .inl (jA y1))), (a2, .inl (cA, 62, .inl (jA y2)))] sz)) (va_Qi (fun (r : Int32) (u : Int × Int) => r = jI u.1 ∧ u = f_XM_ringP mth mn mp mw mu md mo y1 y2 z1 ∧ (-1 ≤ u.1 ∧ u.1 ≤ 30) ∧ ((u.2 = 1 ∧ z1 < 0) ∨ (u.2 = 0 ∧ 0 ≤ z1))) (fun u t => jE (dC, dI) [(cA, .int), (cZ, .boolean)] [(ma, .inr (5, [.int (jI mth), .int (jI mn), .ref a0, .int (jI mp), .int (jI mw), .ref a1, .ref a2, .ref a3, .ref a4, .ref a5, .ref a6, .ref a7, .ref a8, .ref a9, .ref a10, .long (jL mu), .long (jL md), .int (jI mo), .ref a11])), (a1, .inl (cZ, 62, .inl (jA y1))), (a2, .inl (cA, 62, .inl (jA y2)))] sz [(ma, .inr (5, [.int (jI u.2), .int (jI mn), .ref a0, .int (jI mp), .int (jI mw), .ref a1, .ref a2, .ref a3, .ref a4, .ref a5, .ref a6, .ref a7, .ref a8, .ref a9, .ref a10, .long (jL mu), .long (jL md), .int (jI mo), .ref a11])), (a1, .inl (cZ, 62, .inl (jA y1))), (a2, .inl (cA, 62, .inl (jA y2)))] t) (va_A [(ma, .inr (5, [.int (jI mth), .int (jI mn), .ref a0, .int (jI mp), .int (jI mw), .ref a1, .ref a2, .ref a3, .ref a4, .ref a5, .ref a6, .ref a7, .ref a8, .ref a9, .ref a10, .long (jL mu), .long (jL md), .int (jI mo), .ref a11])), (a1, .inl (cZ, 62, .inl (jA y1))), (a2, .inl (cA, 62, .inl (jA y2)))] sz)) 0 0 (va_A [(ma, .inr (5, [.int (jI mth), .int (jI mn), .ref a0, .int (jI mp), .int (jI mw), .ref a1, .ref a2, .ref a3, .ref a4, .ref a5, .ref a6, .ref a7, .ref a8, .ref a9, .ref a10, .long (jL mu), .long (jL md), .int (jI mo), .ref a11])), (a1, .inl (cZ, 62, .inl (jA y1))), (a2, .inl (cA, 62, .inl (jA y2)))] sz) := by
  refine jMet (cc := cXM_ring) (maxL := 4) (ret := some .int) (by decide) rfl ?_
  intro p e s m args below meth c s₁ R Q hR hQ B hml hv
  obtain ⟨rfl, hsz, hP, hK, hD0, hN⟩ := hv
  have hx := B.exec
  have hb := B.bytes
  have hr := B.returns
  have hts := atoms_spec (ws := Cond.code yXM_ring cXM_ring 4 (some .int) :: TBL) B.pre
  have hown : s.vm.findClass RXM = some m.cls := findClass_of_methodNamed B.named
  have hlocks := B.notSynchronized
  subst hsz
  obtain ⟨A, hAe⟩ : ∃ A, A = va_A [(ma, .inr (5, [.int (jI mth), .int (jI mn), .ref a0, .int (jI mp), .int (jI mw), .ref a1, .ref a2, .ref a3, .ref a4, .ref a5, .ref a6, .ref a7, .ref a8, .ref a9, .ref a10, .long (jL mu), .long (jL md), .int (jI mo), .ref a11])), (a1, .inl (cZ, 62, .inl (jA y1))), (a2, .inl (cA, 62, .inl (jA y2)))] s.heap.size := ⟨_, rfl⟩
  have hD : va_D A [(ma, .inr (5, [.int (jI mth), .int (jI mn), .ref a0, .int (jI mp), .int (jI mw), .ref a1, .ref a2, .ref a3, .ref a4, .ref a5, .ref a6, .ref a7, .ref a8, .ref a9, .ref a10, .long (jL mu), .long (jL md), .int (jI mo), .ref a11])), (a1, .inl (cZ, 62, .inl (jA y1))), (a2, .inl (cA, 62, .inl (jA y2)))] := by rw [hAe]; exact hD0.self
  have hA : ∀ q : Nat, s.heap.size ≤ q → A q := fun q h => by rw [hAe]; exact Or.inr h
  have hS : va_S A s.heap s.heap [] := va_S.rf
  have hP : va_P (dC, dI) vwCl [(ma, .inr (5, [.int (jI mth), .int (jI mn), .ref a0, .int (jI mp), .int (jI mw), .ref a1, .ref a2, .ref a3, .ref a4, .ref a5, .ref a6, .ref a7, .ref a8, .ref a9, .ref a10, .long (jL mu), .long (jL md), .int (jI mo), .ref a11])), (a1, .inl (cZ, 62, .inl (jA y1))), (a2, .inl (cA, 62, .inl (jA y2)))] s.heap := hP
  have hl := lv_entry ([.ref ma, .int (jI z1)]) (n := 4) (Nat.le_of_ble_eq_true rfl)
  rw [lg_entry_eq]
  generalize (lg_sl ([.ref ma, .int (jI z1)]) ++ List.replicate (4 - (lg_sl ([.ref ma, .int (jI z1)])).length) Slot.unset).toArray = ls at hl ⊢
  have hl : lv_has ls 4 [(0, .ref ma), (1, .int (jI z1))] := hl
  refine lv_aload_n hx hb dXM_ring_0 rfl (lv_at hl 0 rfl) ?_
  refine lv_iload_n hx hb dXM_ring_1 rfl (lv_at hl 1 rfl) ?_
  have join10 : ∀ (jz : Int) , f_XM_ringP_J10 mth mn mp mw mu md mo y1 y2 z1 jz = f_XM_ringP mth mn mp mw mu md mo y1 y2 z1 → ((jz = 1 ∧ 0 ≤ z1) ∨ (jz = 0 ∧ z1 < 0)) → ∀ (H : Heap) (locs : List Loc), va_P (dC, dI) vwCl [(ma, .inr (5, [.int (jI mth), .int (jI mn), .ref a0, .int (jI mp), .int (jI mw), .ref a1, .ref a2, .ref a3, .ref a4, .ref a5, .ref a6, .ref a7, .ref a8, .ref a9, .ref a10, .long (jL mu), .long (jL md), .int (jI mo), .ref a11])), (a1, .inl (cZ, 62, .inl (jA y1))), (a2, .inl (cA, 62, .inl (jA y2)))] H → va_D A [(ma, .inr (5, [.int (jI mth), .int (jI mn), .ref a0, .int (jI mp), .int (jI mw), .ref a1, .ref a2, .ref a3, .ref a4, .ref a5, .ref a6, .ref a7, .ref a8, .ref a9, .ref a10, .long (jL mu), .long (jL md), .int (jI mo), .ref a11])), (a1, .inl (cZ, 62, .inl (jA y1))), (a2, .inl (cA, 62, .inl (jA y2)))] → va_S A s.heap H locs → ∀ ls : Array Slot, lv_has ls 4 [(0, .ref ma), (1, .int (jI z1))] → W p l e R s m ([.ref ma, .int (jI z1)] : List Value).toArray below meth c H locs 0 0 Q (F0 m 10 ls [.int (jI jz), .ref ma]) := by
    intro jz hF hjz H locs hP hD hS ls hl
    refine ji_iconst hx hb dXM_ring_10 ?_
    refine jwVi (rest := []) (wr := [(a1, .inl (cZ, 62, .inl (jA y1))), (a2, .inl (cA, 62, .inl (jA y2)))]) ⟨hx, hb, hml, hown, hts⟩ (c_XM_goesP l dC dI cA cZ _ ma a0 a1 a2 a3 a4 a5 a6 a7 a8 a9 a10 a11 mth mn mp mw mu md mo jz 1 (by first | assumption | omega) (by first | assumption | omega)) (cwV 2 hts (jG_V tw_698 tw_700 ts_14 tw_6 tw_701) rfl rfl rfl (by decide +kernel) (by rw [hR]; exact ⟨Nat.le_of_ble_eq_true rfl, Nat.le_of_ble_eq_true rfl⟩)) hK hP hD hS hA hN [0] [1, 2] rfl rfl (by decide) (by decide) (by decide) 0 5 rfl rfl rfl rfl hl.1 rfl (Nat.le_of_ble_eq_true rfl) dXM_ring_11 (by rw [hR]; exact ⟨Nat.le_of_ble_eq_true rfl, Nat.le_of_ble_eq_true rfl⟩) (fun v u H locs hwb hP hD hS => ?_)
    obtain ⟨r, mth1'⟩ := u
    try dsimp only at hwb
    obtain ⟨er, hwb, f⟩ := hwb
    subst er
    have f : (r = 0 ∧ mth1' = 1 ∧ jz = 0) ∨ (r = 0 ∧ mth1' = 2 ∧ jz = 1 ∧ (1 : Int) = 0) ∨ (r = 1 ∧ mth1' = 0 ∧ jz = 1 ∧ (1 : Int) = 1) := f
    have hP : va_P (dC, dI) vwCl [(a1, .inl (cZ, 62, .inl (jA y1))), (a2, .inl (cA, 62, .inl (jA y2))), (ma, .inr (5, [.int (jI mth1'), .int (jI mn), .ref a0, .int (jI mp), .int (jI mw), .ref a1, .ref a2, .ref a3, .ref a4, .ref a5, .ref a6, .ref a7, .ref a8, .ref a9, .ref a10, .long (jL mu), .long (jL md), .int (jI mo), .ref a11]))] H := hP
    have hD : va_D A [(a1, .inl (cZ, 62, .inl (jA y1))), (a2, .inl (cA, 62, .inl (jA y2))), (ma, .inr (5, [.int (jI mth1'), .int (jI mn), .ref a0, .int (jI mp), .int (jI mw), .ref a1, .ref a2, .ref a3, .ref a4, .ref a5, .ref a6, .ref a7, .ref a8, .ref a9, .ref a10, .long (jL mu), .long (jL md), .int (jI mo), .ref a11]))] := hD
    refine ji_if_ne (tgt := 19) hx hb dXM_ring_14 (by decide) (by omega) (fun c14_ => ?_) (fun c14_ => ?_)
    · refine lv_iload_n hx hb dXM_ring_19 rfl (lv_at hl 1 rfl) ?_
      refine lv_istore_n (lv' := [(2, .int (jI z1)), (0, .ref ma), (1, .int (jI z1))]) hx hb dXM_ring_20 rfl hl (by decide) rfl (fun ls hl => ?_)
      refine ji_iconst hx hb dXM_ring_21 ?_
      refine lv_istore_n (lv' := [(3, .int (jI 1)), (2, .int (jI z1)), (0, .ref ma), (1, .int (jI z1))]) hx hb dXM_ring_22 rfl hl (by decide) rfl (fun ls hl => ?_)
      have loop23 : ∀ (n9 : Nat) (lf : Int) (k : Int) , 31 - k < (n9 : Int) → f_XM_ringP_L23 mth mn mp mw mu md mo y1 y2 z1 mth1' n9 lf k = f_XM_ringP mth mn mp mw mu md mo y1 y2 z1 → (1 ≤ k ∧ k ≤ 31) → (0 ≤ lf ∧ lf < 2147483648) → (mth1' = 0 ∧ 0 ≤ z1) → ∀ (H : Heap) (locs : List Loc), va_P (dC, dI) vwCl [(a1, .inl (cZ, 62, .inl (jA y1))), (a2, .inl (cA, 62, .inl (jA y2))), (ma, .inr (5, [.int (jI mth1'), .int (jI mn), .ref a0, .int (jI mp), .int (jI mw), .ref a1, .ref a2, .ref a3, .ref a4, .ref a5, .ref a6, .ref a7, .ref a8, .ref a9, .ref a10, .long (jL mu), .long (jL md), .int (jI mo), .ref a11]))] H → va_D A [(a1, .inl (cZ, 62, .inl (jA y1))), (a2, .inl (cA, 62, .inl (jA y2))), (ma, .inr (5, [.int (jI mth1'), .int (jI mn), .ref a0, .int (jI mp), .int (jI mw), .ref a1, .ref a2, .ref a3, .ref a4, .ref a5, .ref a6, .ref a7, .ref a8, .ref a9, .ref a10, .long (jL mu), .long (jL md), .int (jI mo), .ref a11]))] → va_S A s.heap H locs → ∀ ls : Array Slot, lv_has ls 4 [(3, .int (jI k)), (2, .int (jI lf)), (0, .ref ma), (1, .int (jI z1))] → W p l e R s m ([.ref ma, .int (jI z1)] : List Value).toArray below meth c H locs 0 0 Q (F0 m 23 ls []) := by
        intro n9
        induction n9 with
        | zero =>
          intro lf k hm hF hk hlf hmt0
          exact absurd hm (by omega)
        | succ n9 ih23 =>
          intro lf k hm hF hk hlf hmt0 H locs hP hD hS ls hl
          refine lv_iload_n hx hb dXM_ring_23 rfl (lv_at hl 0 rfl) ?_
          refine ji_bipush hx hb dXM_ring_24 (by decide) ?_
          refine ji_icmp_ge (tgt := 64) hx hb dXM_ring_26 (by decide) (by omega) (by omega) (fun c26_ => ?_) (fun c26_ => ?_)
          · refine ji_iconst hx hb dXM_ring_64 ?_
            have hP9 := hP.sub (ws' := [(ma, .inr (5, [.int (jI mth1'), .int (jI mn), .ref a0, .int (jI mp), .int (jI mw), .ref a1, .ref a2, .ref a3, .ref a4, .ref a5, .ref a6, .ref a7, .ref a8, .ref a9, .ref a10, .long (jL mu), .long (jL md), .int (jI mo), .ref a11])), (a1, .inl (cZ, 62, .inl (jA y1))), (a2, .inl (cA, 62, .inl (jA y2)))]) [2, 0, 1] rfl
            have hD9 := hD.sub (ws' := [(ma, .inr (5, [.int (jI mth1'), .int (jI mn), .ref a0, .int (jI mp), .int (jI mw), .ref a1, .ref a2, .ref a3, .ref a4, .ref a5, .ref a6, .ref a7, .ref a8, .ref a9, .ref a10, .long (jL mu), .long (jL md), .int (jI mo), .ref a11])), (a1, .inl (cZ, 62, .inl (jA y1))), (a2, .inl (cA, 62, .inl (jA y2)))]) [2, 0, 1] (by decide) rfl
            subst hAe
            subst hQ
            exact W.iret (v := jI (-1)) hx hb hr (fun t ht hW => ⟨⟨_, (-1, mth1'), rfl, ⟨rfl, Eq.trans (by rw [f_XM_ringP_L23_s]; rw [if_neg (Int.not_lt.mpr c26_)]; try rfl) hF, show -1 ≤ (-1) ∧ (-1) ≤ 30 from by first | assumption | omega | exact jset_b (by assumption) (by omega) | exact jset_l (by assumption) (by omega) | exact jset_l (fun _ _ => rfl) (by omega) | exact fun _ _ => rfl | exact l_trans (by assumption) (by assumption), show (mth1' = 1 ∧ z1 < 0) ∨ (mth1' = 0 ∧ 0 ≤ z1) from by first | assumption | omega | exact jset_b (by assumption) (by omega) | exact jset_l (by assumption) (by omega) | exact jset_l (fun _ _ => rfl) (by omega) | exact fun _ _ => rfl | exact l_trans (by assumption) (by assumption)⟩, ⟨by rw [ht]; exact hP9, va_K.moved hW.alike hK, hD9⟩⟩, hS.F ht⟩) hS.2.2 dXM_ring_65
          · refine lv_aload_n hx hb dXM_ring_29 rfl (lv_at hl 2 rfl) ?_
            refine va_get (D := (dC, dI)) (ci := 5) (v := .ref a1) (C := RXM) (T := TXM) (N := 19) hx hb hts (fun w h => jmem (inXM w h)) hown hK hP 2 rfl rfl 5 (by decide) (hts _ (jmem tw_633)) (fun _ h9 => h9) rfl dXM_ring_30 ?_
            refine lv_iload_n hx hb dXM_ring_33 rfl (lv_at hl 0 rfl) ?_
            refine ji_zald hx hb hK hP 0 1 rfl rfl ⟨by omega, by omega⟩ (by decide) dXM_ring_34 ?_
            have rb := hy1 k
            refine ji_if_eq (tgt := 58) hx hb dXM_ring_35 (by decide) (by omega) (fun c35_ => ?_) (fun c35_ => ?_)
            · refine ji_iinc (k := 0) (lv' := [(3, .int (jI (k + 1))), (2, .int (jI lf)), (0, .ref ma), (1, .int (jI z1))]) hx hb dXM_ring_58 hl rfl (by decide) rfl (fun ls hl => ?_)
              refine lv_goto (tgt := 23) hx hb dXM_ring_61 (by decide) ?_
              exact ih23 lf (k + 1) (by omega) (Eq.trans (by rw [f_XM_ringP_L23_s]; rw [if_pos c26_, if_pos c35_]; try rfl) hF) (by first | assumption | omega) (by first | assumption | omega) (by first | assumption | omega) _ _ hP hD hS ls (lv_sub hl [0, 1, 2, 3] rfl)
            · refine lv_aload_n hx hb dXM_ring_38 rfl (lv_at hl 2 rfl) ?_
              refine lv_iload_n hx hb dXM_ring_39 rfl (lv_at hl 0 rfl) ?_
              refine jrVi (rest := []) ⟨hx, hb, hml, hown, hts⟩ (c_XM_isRing l dC dI cA cZ ma a0 a1 a2 a3 a4 a5 a6 a7 a8 a9 a10 a11 mth1' mn mp mw mu md mo y1 y2 k (by first | assumption | omega) (by first | assumption | omega) (by first | assumption | omega)) (cwV 1 hts (jG_V tw_783 tw_785 ts_32 tw_6 tw_786) rfl rfl rfl (by decide +kernel) (by rw [hR]; exact ⟨Nat.le_of_ble_eq_true rfl, Nat.le_of_ble_eq_true rfl⟩)) hK hP hN [2, 0, 1] rfl 2 5 rfl rfl rfl rfl hl.1 rfl (Nat.le_of_ble_eq_true rfl) dXM_ring_40 (by rw [hR]; exact ⟨Nat.le_of_ble_eq_true rfl, Nat.le_of_ble_eq_true rfl⟩) ?_
              have f1 := f_XM_isRing_b mth1' mn mp mw mu md mo y1 y2 k (by first | assumption | omega) (by first | assumption | omega) (by first | assumption | omega)
              refine ji_if_ne (tgt := 49) hx hb dXM_ring_43 (by decide) (by omega) (fun c43_ => ?_) (fun c43_ => ?_)
              · refine lv_iload_n hx hb dXM_ring_49 rfl (lv_at hl 1 rfl) ?_
                refine ji_if_ne (tgt := 55) hx hb dXM_ring_50 (by decide) (by omega) (fun c50_ => ?_) (fun c50_ => ?_)
                · refine ji_iinc (k := 1) (lv' := [(2, .int (jI (lf + (-1)))), (3, .int (jI k)), (0, .ref ma), (1, .int (jI z1))]) hx hb dXM_ring_55 hl rfl (by decide) rfl (fun ls hl => ?_)
                  refine ji_iinc (k := 1) (lv' := [(3, .int (jI (k + 1))), (2, .int (jI (lf + (-1)))), (0, .ref ma), (1, .int (jI z1))]) hx hb dXM_ring_58 hl rfl (by decide) rfl (fun ls hl => ?_)
                  refine lv_goto (tgt := 23) hx hb dXM_ring_61 (by decide) ?_
                  exact ih23 (lf + (-1)) (k + 1) (by omega) (Eq.trans (by rw [f_XM_ringP_L23_s]; rw [if_pos c26_, if_neg c35_, if_neg c43_, if_neg c50_]; try rfl) hF) (by first | assumption | omega) (by first | assumption | omega) (by first | assumption | omega) _ _ hP hD hS ls (lv_sub hl [0, 1, 2, 3] rfl)
                · refine lv_iload_n hx hb dXM_ring_53 rfl (lv_at hl 0 rfl) ?_
                  have hP9 := hP.sub (ws' := [(ma, .inr (5, [.int (jI mth1'), .int (jI mn), .ref a0, .int (jI mp), .int (jI mw), .ref a1, .ref a2, .ref a3, .ref a4, .ref a5, .ref a6, .ref a7, .ref a8, .ref a9, .ref a10, .long (jL mu), .long (jL md), .int (jI mo), .ref a11])), (a1, .inl (cZ, 62, .inl (jA y1))), (a2, .inl (cA, 62, .inl (jA y2)))]) [2, 0, 1] rfl
                  have hD9 := hD.sub (ws' := [(ma, .inr (5, [.int (jI mth1'), .int (jI mn), .ref a0, .int (jI mp), .int (jI mw), .ref a1, .ref a2, .ref a3, .ref a4, .ref a5, .ref a6, .ref a7, .ref a8, .ref a9, .ref a10, .long (jL mu), .long (jL md), .int (jI mo), .ref a11])), (a1, .inl (cZ, 62, .inl (jA y1))), (a2, .inl (cA, 62, .inl (jA y2)))]) [2, 0, 1] (by decide) rfl
                  subst hAe
                  subst hQ
                  exact W.iret (v := jI k) hx hb hr (fun t ht hW => ⟨⟨_, (k, mth1'), rfl, ⟨rfl, Eq.trans (by rw [f_XM_ringP_L23_s]; rw [if_pos c26_, if_neg c35_, if_neg c43_, if_pos c50_]; try rfl) hF, show -1 ≤ k ∧ k ≤ 30 from by first | assumption | omega | exact jset_b (by assumption) (by omega) | exact jset_l (by assumption) (by omega) | exact jset_l (fun _ _ => rfl) (by omega) | exact fun _ _ => rfl | exact l_trans (by assumption) (by assumption), show (mth1' = 1 ∧ z1 < 0) ∨ (mth1' = 0 ∧ 0 ≤ z1) from by first | assumption | omega | exact jset_b (by assumption) (by omega) | exact jset_l (by assumption) (by omega) | exact jset_l (fun _ _ => rfl) (by omega) | exact fun _ _ => rfl | exact l_trans (by assumption) (by assumption)⟩, ⟨by rw [ht]; exact hP9, va_K.moved hW.alike hK, hD9⟩⟩, hS.F ht⟩) hS.2.2 dXM_ring_54
              · refine lv_goto (tgt := 58) hx hb dXM_ring_46 (by decide) ?_
                refine ji_iinc (k := 0) (lv' := [(3, .int (jI (k + 1))), (2, .int (jI lf)), (0, .ref ma), (1, .int (jI z1))]) hx hb dXM_ring_58 hl rfl (by decide) rfl (fun ls hl => ?_)
                refine lv_goto (tgt := 23) hx hb dXM_ring_61 (by decide) ?_
                exact ih23 lf (k + 1) (by omega) (Eq.trans (by rw [f_XM_ringP_L23_s]; rw [if_pos c26_, if_neg c35_, if_pos c43_]; try rfl) hF) (by first | assumption | omega) (by first | assumption | omega) (by first | assumption | omega) _ _ hP hD hS ls (lv_sub hl [0, 1, 2, 3] rfl)
      exact loop23 (Int.toNat (31 - 1) + 1) z1 1 (by omega) (Eq.trans (by rw [f_XM_ringP_J10_s]; rw [← hwb]; try dsimp only; rw [if_neg c14_]; try rfl) hF) (by first | assumption | omega) (by first | assumption | omega) (by first | assumption | omega) _ _ hP hD hS ls (lv_sub hl [0, 1, 2, 3] rfl)
    · refine ji_iconst hx hb dXM_ring_17 ?_
      have hP9 := hP.sub (ws' := [(ma, .inr (5, [.int (jI mth1'), .int (jI mn), .ref a0, .int (jI mp), .int (jI mw), .ref a1, .ref a2, .ref a3, .ref a4, .ref a5, .ref a6, .ref a7, .ref a8, .ref a9, .ref a10, .long (jL mu), .long (jL md), .int (jI mo), .ref a11])), (a1, .inl (cZ, 62, .inl (jA y1))), (a2, .inl (cA, 62, .inl (jA y2)))]) [2, 0, 1] rfl
      have hD9 := hD.sub (ws' := [(ma, .inr (5, [.int (jI mth1'), .int (jI mn), .ref a0, .int (jI mp), .int (jI mw), .ref a1, .ref a2, .ref a3, .ref a4, .ref a5, .ref a6, .ref a7, .ref a8, .ref a9, .ref a10, .long (jL mu), .long (jL md), .int (jI mo), .ref a11])), (a1, .inl (cZ, 62, .inl (jA y1))), (a2, .inl (cA, 62, .inl (jA y2)))]) [2, 0, 1] (by decide) rfl
      subst hAe
      subst hQ
      exact W.iret (v := jI 0) hx hb hr (fun t ht hW => ⟨⟨_, (0, mth1'), rfl, ⟨rfl, Eq.trans (by rw [f_XM_ringP_J10_s]; rw [← hwb]; try dsimp only; rw [if_pos c14_]; try rfl) hF, show -1 ≤ 0 ∧ 0 ≤ 30 from by first | assumption | omega | exact jset_b (by assumption) (by omega) | exact jset_l (by assumption) (by omega) | exact jset_l (fun _ _ => rfl) (by omega) | exact fun _ _ => rfl | exact l_trans (by assumption) (by assumption), show (mth1' = 1 ∧ z1 < 0) ∨ (mth1' = 0 ∧ 0 ≤ z1) from by first | assumption | omega | exact jset_b (by assumption) (by omega) | exact jset_l (by assumption) (by omega) | exact jset_l (fun _ _ => rfl) (by omega) | exact fun _ _ => rfl | exact l_trans (by assumption) (by assumption)⟩, ⟨by rw [ht]; exact hP9, va_K.moved hW.alike hK, hD9⟩⟩, hS.F ht⟩) hS.2.2 dXM_ring_18
  refine ji_if_lt (tgt := 9) hx hb dXM_ring_2 (by decide) (by omega) (fun c2_ => ?_) (fun c2_ => ?_)
  · refine ji_iconst hx hb dXM_ring_9 ?_
    exact join10 0 (Eq.trans (by rw [f_XM_ringP_s]; rw [if_pos c2_]; try rfl) rfl) (by first | assumption | omega | exact jset_b (by assumption) (by omega)) _ _ hP hD hS ls (lv_sub hl [0, 1] rfl)
  · refine ji_iconst hx hb dXM_ring_5 ?_
    refine lv_goto (tgt := 10) hx hb dXM_ring_6 (by decide) ?_
    exact join10 1 (Eq.trans (by rw [f_XM_ringP_s]; rw [if_neg (Int.not_lt.mpr c2_)]; try rfl) rfl) (by first | assumption | omega | exact jset_b (by assumption) (by omega)) _ _ hP hD hS ls (lv_sub hl [0, 1] rfl)
noncomputable def g_XM_signP_L38 (mth : Int) (mn : Int) (mp : Int) (mw : Int) (mu : Int) (md : Int) (mo : Int) (y0 : Int → Int) (zy : Int) (z1 : Int) (mth1' : Int) : Nat → Int → Int → (Int → Int) → Int × Int × Int × (Int → Int)
  | 0, _, _, _ => (0, 0, 0, fun _ => 0)
  | n9 + 1, k, mn9, w0 =>
    if k < 0 then
      (mn9, mth1', mn9, w0)
    else
      g_XM_signP_L38 mth mn mp mw mu md mo y0 zy z1 mth1' n9 (k + (-1)) (mn9 + 1) (jset w0 mn9 ((jI ((jL zy >>> ((jI (8 * k)).toInt64 &&& 63)).toInt) &&& jI 255).toInt))
noncomputable def f_XM_signP_L38 : Int → Int → Int → Int → Int → Int → Int → (Int → Int) → Int → Int → Int → Nat → Int → Int → (Int → Int) → Int × Int × Int × (Int → Int) := jopq g_XM_signP_L38
theorem f_XM_signP_L38_q : f_XM_signP_L38 = g_XM_signP_L38 := jopq_eq _
theorem f_XM_signP_L38_s (mth : Int) (mn : Int) (mp : Int) (mw : Int) (mu : Int) (md : Int) (mo : Int) (y0 : Int → Int) (zy : Int) (z1 : Int) (mth1' : Int) (n9 : Nat) (k : Int) (mn9 : Int) (w0 : Int → Int) : f_XM_signP_L38 mth mn mp mw mu md mo y0 zy z1 mth1' (n9 + 1) k mn9 w0 = (
    if k < 0 then
      (mn9, mth1', mn9, w0)
    else
      f_XM_signP_L38 mth mn mp mw mu md mo y0 zy z1 mth1' n9 (k + (-1)) (mn9 + 1) (jset w0 mn9 ((jI ((jL zy >>> ((jI (8 * k)).toInt64 &&& 63)).toInt) &&& jI 255).toInt))
  : Int × Int × Int × (Int → Int)) := by rw [f_XM_signP_L38_q]; rfl
noncomputable def g_XM_signP_J25 (mth : Int) (mn : Int) (mp : Int) (mw : Int) (mu : Int) (md : Int) (mo : Int) (y0 : Int → Int) (zy : Int) (z1 : Int) (jz : Int) : Int × Int × Int × (Int → Int) :=
  match f_XM_goesP mth mn mp mw mu md mo (f_XM_in z1 1 8) jz with
  | (r, mth1') =>
    if r = 0 then
      (0, mth1', mn, y0)
    else
      f_XM_signP_L38 mth mn mp mw mu md mo y0 zy z1 mth1' (Int.toNat ((z1 - 1) + 1) + 1) (z1 - 1) mn y0
noncomputable def f_XM_signP_J25 : Int → Int → Int → Int → Int → Int → Int → (Int → Int) → Int → Int → Int → Int × Int × Int × (Int → Int) := jopq g_XM_signP_J25
theorem f_XM_signP_J25_q : f_XM_signP_J25 = g_XM_signP_J25 := jopq_eq _
theorem f_XM_signP_J25_s (mth : Int) (mn : Int) (mp : Int) (mw : Int) (mu : Int) (md : Int) (mo : Int) (y0 : Int → Int) (zy : Int) (z1 : Int) (jz : Int) : f_XM_signP_J25 mth mn mp mw mu md mo y0 zy z1 jz = (
    match f_XM_goesP mth mn mp mw mu md mo (f_XM_in z1 1 8) jz with
    | (r, mth1') =>
      if r = 0 then
        (0, mth1', mn, y0)
      else
        f_XM_signP_L38 mth mn mp mw mu md mo y0 zy z1 mth1' (Int.toNat ((z1 - 1) + 1) + 1) (z1 - 1) mn y0
  : Int × Int × Int × (Int → Int)) := by rw [f_XM_signP_J25_q]; rfl
noncomputable def g_XM_signP (mth : Int) (mn : Int) (mp : Int) (mw : Int) (mu : Int) (md : Int) (mo : Int) (y0 : Int → Int) (zy : Int) (z1 : Int) : Int × Int × Int × (Int → Int) :=
  if 400 < (jw (mn + z1)) then
    f_XM_signP_J25 mth mn mp mw mu md mo y0 zy z1 0
  else
    f_XM_signP_J25 mth mn mp mw mu md mo y0 zy z1 1
noncomputable def f_XM_signP : Int → Int → Int → Int → Int → Int → Int → (Int → Int) → Int → Int → Int × Int × Int × (Int → Int) := jopq g_XM_signP
theorem f_XM_signP_q : f_XM_signP = g_XM_signP := jopq_eq _
theorem f_XM_signP_s (mth : Int) (mn : Int) (mp : Int) (mw : Int) (mu : Int) (md : Int) (mo : Int) (y0 : Int → Int) (zy : Int) (z1 : Int) : f_XM_signP mth mn mp mw mu md mo y0 zy z1 = (
    if 400 < (jw (mn + z1)) then
      f_XM_signP_J25 mth mn mp mw mu md mo y0 zy z1 0
    else
      f_XM_signP_J25 mth mn mp mw mu md mo y0 zy z1 1
  : Int × Int × Int × (Int → Int)) := by rw [f_XM_signP_q]; rfl
set_option maxHeartbeats 4000000 in
set_option maxRecDepth 100000 in
theorem c_XM_signP (l : Launch) (dC : Nat → ClassId) (dI : Nat → Nat → Nat) (cA cZ : ClassId) (sz : Nat) (ma : Nat) (a0 : Nat) (a1 : Nat) (a2 : Nat) (a3 : Nat) (a4 : Nat) (a5 : Nat) (a6 : Nat) (a7 : Nat) (a8 : Nat) (a9 : Nat) (a10 : Nat) (a11 : Nat) (mth : Int) (mn : Int) (mp : Int) (mw : Int) (mu : Int) (md : Int) (mo : Int) (y0 : Int → Int) (zy : Int) (z1 : Int) (hy0 : ∀ i, 0 ≤ y0 i ∧ y0 i ≤ 255) (hmn : 0 ≤ mn ∧ mn ≤ 400) (hi1 : i32 z1) : Met l yXM_sign (Cond.code yXM_sign cXM_sign 5 (some .int) :: TBL) ({ frames := 1, cells := 0, slots := 0, locals := 22 } : Room) (va_Pc [.ref ma, .long (jL zy), .int (jI z1)] (jBw (dC, dI) [(cA, .int), (cZ, .boolean)] [(ma, .inr (5, [.int (jI mth), .int (jI mn), .ref a0, .int (jI mp), .int (jI mw), .ref a1, .ref a2, .ref a3, .ref a4, .ref a5, .ref a6, .ref a7, .ref a8, .ref a9, .ref a10, .long (jL mu), .long (jL md), .int (jI mo), .ref a11])), (a0, .inl (cA, 400, .inl (jA y0)))] sz)) (va_Qi (fun (r : Int32) (u : Int × Int × Int × (Int → Int)) => r = jI u.1 ∧ u = f_XM_signP mth mn mp mw mu md mo y0 zy z1 ∧ ((u.2.1 = 1 ∧ (z1 < 1 ∨ 8 < z1) ∧ u.2.2.1 = mn ∧ u.2.2.2 = y0) ∨ (u.2.1 = 2 ∧ 1 ≤ z1 ∧ z1 ≤ 8 ∧ 400 < mn + z1 ∧ u.2.2.1 = mn ∧ u.2.2.2 = y0) ∨ (u.2.1 = 0 ∧ 1 ≤ z1 ∧ z1 ≤ 8 ∧ mn + z1 ≤ 400 ∧ u.2.2.1 = mn + z1 ∧ u.1 = mn + z1)) ∧ (0 ≤ u.2.2.1 ∧ u.2.2.1 ≤ 400) ∧ (∀ i, 0 ≤ u.2.2.2 i ∧ u.2.2.2 i ≤ 255)) (fun u t => jE (dC, dI) [(cA, .int), (cZ, .boolean)] [(ma, .inr (5, [.int (jI mth), .int (jI mn), .ref a0, .int (jI mp), .int (jI mw), .ref a1, .ref a2, .ref a3, .ref a4, .ref a5, .ref a6, .ref a7, .ref a8, .ref a9, .ref a10, .long (jL mu), .long (jL md), .int (jI mo), .ref a11])), (a0, .inl (cA, 400, .inl (jA y0)))] sz [(ma, .inr (5, [.int (jI u.2.1), .int (jI u.2.2.1), .ref a0, .int (jI mp), .int (jI mw), .ref a1, .ref a2, .ref a3, .ref a4, .ref a5, .ref a6, .ref a7, .ref a8, .ref a9, .ref a10, .long (jL mu), .long (jL md), .int (jI mo), .ref a11])), (a0, .inl (cA, 400, .inl (jA u.2.2.2)))] t) (va_A [(ma, .inr (5, [.int (jI mth), .int (jI mn), .ref a0, .int (jI mp), .int (jI mw), .ref a1, .ref a2, .ref a3, .ref a4, .ref a5, .ref a6, .ref a7, .ref a8, .ref a9, .ref a10, .long (jL mu), .long (jL md), .int (jI mo), .ref a11])), (a0, .inl (cA, 400, .inl (jA y0)))] sz)) 0 0 (va_A [(ma, .inr (5, [.int (jI mth), .int (jI mn), .ref a0, .int (jI mp), .int (jI mw), .ref a1, .ref a2, .ref a3, .ref a4, .ref a5, .ref a6, .ref a7, .ref a8, .ref a9, .ref a10, .long (jL mu), .long (jL md), .int (jI mo), .ref a11])), (a0, .inl (cA, 400, .inl (jA y0)))] sz) := by
  refine jMet (cc := cXM_sign) (maxL := 5) (ret := some .int) (by decide) rfl ?_
  intro p e s m args below meth c s₁ R Q hR hQ B hml hv
  obtain ⟨rfl, hsz, hP, hK, hD0, hN⟩ := hv
  have hx := B.exec
  have hb := B.bytes
  have hr := B.returns
  have hts := atoms_spec (ws := Cond.code yXM_sign cXM_sign 5 (some .int) :: TBL) B.pre
  have hown : s.vm.findClass RXM = some m.cls := findClass_of_methodNamed B.named
  have hlocks := B.notSynchronized
  subst hsz
  obtain ⟨A, hAe⟩ : ∃ A, A = va_A [(ma, .inr (5, [.int (jI mth), .int (jI mn), .ref a0, .int (jI mp), .int (jI mw), .ref a1, .ref a2, .ref a3, .ref a4, .ref a5, .ref a6, .ref a7, .ref a8, .ref a9, .ref a10, .long (jL mu), .long (jL md), .int (jI mo), .ref a11])), (a0, .inl (cA, 400, .inl (jA y0)))] s.heap.size := ⟨_, rfl⟩
  have hD : va_D A [(ma, .inr (5, [.int (jI mth), .int (jI mn), .ref a0, .int (jI mp), .int (jI mw), .ref a1, .ref a2, .ref a3, .ref a4, .ref a5, .ref a6, .ref a7, .ref a8, .ref a9, .ref a10, .long (jL mu), .long (jL md), .int (jI mo), .ref a11])), (a0, .inl (cA, 400, .inl (jA y0)))] := by rw [hAe]; exact hD0.self
  have hA : ∀ q : Nat, s.heap.size ≤ q → A q := fun q h => by rw [hAe]; exact Or.inr h
  have hS : va_S A s.heap s.heap [] := va_S.rf
  have hP : va_P (dC, dI) vwCl [(ma, .inr (5, [.int (jI mth), .int (jI mn), .ref a0, .int (jI mp), .int (jI mw), .ref a1, .ref a2, .ref a3, .ref a4, .ref a5, .ref a6, .ref a7, .ref a8, .ref a9, .ref a10, .long (jL mu), .long (jL md), .int (jI mo), .ref a11])), (a0, .inl (cA, 400, .inl (jA y0)))] s.heap := hP
  have hl := lv_entry ([.ref ma, .long (jL zy), .int (jI z1)]) (n := 5) (Nat.le_of_ble_eq_true rfl)
  rw [lg_entry_eq]
  generalize (lg_sl ([.ref ma, .long (jL zy), .int (jI z1)]) ++ List.replicate (5 - (lg_sl ([.ref ma, .long (jL zy), .int (jI z1)])).length) Slot.unset).toArray = ls at hl ⊢
  have hl : lv_has ls 5 [(0, .ref ma), (1, .long (jL zy)), (3, .int (jI z1))] := hl
  refine lv_aload_n hx hb dXM_sign_0 rfl (lv_at hl 0 rfl) ?_
  refine lv_iload_n hx hb dXM_sign_1 rfl (lv_at hl 2 rfl) ?_
  refine ji_iconst hx hb dXM_sign_2 ?_
  refine ji_bipush hx hb dXM_sign_3 (by decide) ?_
  refine jrSi (rest := [.ref ma]) ⟨hx, hb, hml, hown, hts⟩ (c_XM_in l dC dI cA cZ z1 1 8 (by first | assumption | omega) (by first | assumption | omega) (by first | assumption | omega)) (cwS 3 hts (jG_S tw_695 tw_696 tw_6 tw_697) rfl rfl rfl (by decide +kernel) (by rw [hR]; exact ⟨Nat.le_of_ble_eq_true rfl, Nat.le_of_ble_eq_true rfl⟩)) hK hP hN [] rfl rfl hl.1 rfl (Nat.le_of_ble_eq_true rfl) dXM_sign_5 (by rw [hR]; exact ⟨Nat.le_of_ble_eq_true rfl, Nat.le_of_ble_eq_true rfl⟩) ?_
  have f := f_XM_in_b z1 1 8 (by first | assumption | omega) (by first | assumption | omega) (by first | assumption | omega)
  refine lv_aload_n hx hb dXM_sign_8 rfl (lv_at hl 0 rfl) ?_
  refine va_get (D := (dC, dI)) (ci := 5) (v := .int (jI mn)) (C := RXM) (T := TXM) (N := 19) hx hb hts (fun w h => jmem (inXM w h)) hown hK hP 0 rfl rfl 1 (by decide) (hts _ (jmem tw_629)) (fun _ h9 => h9) rfl dXM_sign_9 ?_
  refine lv_iload_n hx hb dXM_sign_12 rfl (lv_at hl 2 rfl) ?_
  refine ji_iadd hx hb dXM_sign_13 ?_
  refine ji_re (y := jw (mn + z1)) (jI_jw _).symm ?_
  have rb := jw_or (mn + z1)
  refine ji_sipush hx hb dXM_sign_14 (by decide) ?_
  have join25 : ∀ (jz : Int) , f_XM_signP_J25 mth mn mp mw mu md mo y0 zy z1 jz = f_XM_signP mth mn mp mw mu md mo y0 zy z1 → ((jz = 1 ∧ jw (mn + z1) ≤ 400) ∨ (jz = 0 ∧ 400 < jw (mn + z1))) → ∀ (H : Heap) (locs : List Loc), va_P (dC, dI) vwCl [(ma, .inr (5, [.int (jI mth), .int (jI mn), .ref a0, .int (jI mp), .int (jI mw), .ref a1, .ref a2, .ref a3, .ref a4, .ref a5, .ref a6, .ref a7, .ref a8, .ref a9, .ref a10, .long (jL mu), .long (jL md), .int (jI mo), .ref a11])), (a0, .inl (cA, 400, .inl (jA y0)))] H → va_D A [(ma, .inr (5, [.int (jI mth), .int (jI mn), .ref a0, .int (jI mp), .int (jI mw), .ref a1, .ref a2, .ref a3, .ref a4, .ref a5, .ref a6, .ref a7, .ref a8, .ref a9, .ref a10, .long (jL mu), .long (jL md), .int (jI mo), .ref a11])), (a0, .inl (cA, 400, .inl (jA y0)))] → va_S A s.heap H locs → ∀ ls : Array Slot, lv_has ls 5 [(0, .ref ma), (1, .long (jL zy)), (3, .int (jI z1))] → W p l e R s m ([.ref ma, .long (jL zy), .int (jI z1)] : List Value).toArray below meth c H locs 0 0 Q (F0 m 25 ls [.int (jI jz), .int (jI (f_XM_in z1 1 8)), .ref ma]) := by
    intro jz hF hjz H locs hP hD hS ls hl
    refine jwVi (rest := []) (wr := [(a0, .inl (cA, 400, .inl (jA y0)))]) ⟨hx, hb, hml, hown, hts⟩ (c_XM_goesP l dC dI cA cZ _ ma a0 a1 a2 a3 a4 a5 a6 a7 a8 a9 a10 a11 mth mn mp mw mu md mo (f_XM_in z1 1 8) jz (by first | assumption | omega) (by first | assumption | omega)) (cwV 2 hts (jG_V tw_698 tw_700 ts_14 tw_6 tw_701) rfl rfl rfl (by decide +kernel) (by rw [hR]; exact ⟨Nat.le_of_ble_eq_true rfl, Nat.le_of_ble_eq_true rfl⟩)) hK hP hD hS hA hN [0] [1] rfl rfl (by decide) (by decide) (by decide) 0 5 rfl rfl rfl rfl hl.1 rfl (Nat.le_of_ble_eq_true rfl) dXM_sign_25 (by rw [hR]; exact ⟨Nat.le_of_ble_eq_true rfl, Nat.le_of_ble_eq_true rfl⟩) (fun v u H locs hwb hP hD hS => ?_)
    obtain ⟨r, mth1'⟩ := u
    try dsimp only at hwb
    obtain ⟨er, hwb, f1⟩ := hwb
    subst er
    have f1 : (r = 0 ∧ mth1' = 1 ∧ (f_XM_in z1 1 8) = 0) ∨ (r = 0 ∧ mth1' = 2 ∧ (f_XM_in z1 1 8) = 1 ∧ jz = 0) ∨ (r = 1 ∧ mth1' = 0 ∧ (f_XM_in z1 1 8) = 1 ∧ jz = 1) := f1
    have hP : va_P (dC, dI) vwCl [(a0, .inl (cA, 400, .inl (jA y0))), (ma, .inr (5, [.int (jI mth1'), .int (jI mn), .ref a0, .int (jI mp), .int (jI mw), .ref a1, .ref a2, .ref a3, .ref a4, .ref a5, .ref a6, .ref a7, .ref a8, .ref a9, .ref a10, .long (jL mu), .long (jL md), .int (jI mo), .ref a11]))] H := hP
    have hD : va_D A [(a0, .inl (cA, 400, .inl (jA y0))), (ma, .inr (5, [.int (jI mth1'), .int (jI mn), .ref a0, .int (jI mp), .int (jI mw), .ref a1, .ref a2, .ref a3, .ref a4, .ref a5, .ref a6, .ref a7, .ref a8, .ref a9, .ref a10, .long (jL mu), .long (jL md), .int (jI mo), .ref a11]))] := hD
    refine ji_if_ne (tgt := 33) hx hb dXM_sign_28 (by decide) (by omega) (fun c28_ => ?_) (fun c28_ => ?_)
    · refine lv_iload_n hx hb dXM_sign_33 rfl (lv_at hl 2 rfl) ?_
      refine ji_iconst hx hb dXM_sign_34 ?_
      refine ji_isub hx hb dXM_sign_35 ?_
      refine lv_istore (lv' := [(4, .int (jI (z1 - 1))), (0, .ref ma), (1, .long (jL zy)), (3, .int (jI z1))]) hx hb dXM_sign_36 hl (by decide) rfl (fun ls hl => ?_)
      have loop38 : ∀ (n9 : Nat) (k : Int) (mn9 : Int) (w0 : Int → Int) , k + 1 < (n9 : Int) → f_XM_signP_L38 mth mn mp mw mu md mo y0 zy z1 mth1' n9 k mn9 w0 = f_XM_signP mth mn mp mw mu md mo y0 zy z1 → (-1 ≤ k ∧ k < 8) → (mn9 + k + 1 = mn + z1) → (∀ i, 0 ≤ w0 i ∧ w0 i ≤ 255) → (0 ≤ mn9 ∧ mn + z1 ≤ 400) → (mth1' = 0 ∧ 1 ≤ z1 ∧ z1 ≤ 8) → ∀ (H : Heap) (locs : List Loc), va_P (dC, dI) vwCl [(a0, .inl (cA, 400, .inl (jA w0))), (ma, .inr (5, [.int (jI mth1'), .int (jI mn9), .ref a0, .int (jI mp), .int (jI mw), .ref a1, .ref a2, .ref a3, .ref a4, .ref a5, .ref a6, .ref a7, .ref a8, .ref a9, .ref a10, .long (jL mu), .long (jL md), .int (jI mo), .ref a11]))] H → va_D A [(a0, .inl (cA, 400, .inl (jA w0))), (ma, .inr (5, [.int (jI mth1'), .int (jI mn9), .ref a0, .int (jI mp), .int (jI mw), .ref a1, .ref a2, .ref a3, .ref a4, .ref a5, .ref a6, .ref a7, .ref a8, .ref a9, .ref a10, .long (jL mu), .long (jL md), .int (jI mo), .ref a11]))] → va_S A s.heap H locs → ∀ ls : Array Slot, lv_has ls 5 [(4, .int (jI k)), (0, .ref ma), (1, .long (jL zy)), (3, .int (jI z1))] → W p l e R s m ([.ref ma, .long (jL zy), .int (jI z1)] : List Value).toArray below meth c H locs 0 0 Q (F0 m 38 ls []) := by
        intro n9
        induction n9 with
        | zero =>
          intro k mn9 w0 hm hF hk hs9 hw0 hn9 hmt0
          exact absurd hm (by omega)
        | succ n9 ih38 =>
          intro k mn9 w0 hm hF hk hs9 hw0 hn9 hmt0 H locs hP hD hS ls hl
          refine lv_iload hx hb dXM_sign_38 (lv_at hl 0 rfl) ?_
          refine ji_if_lt (tgt := 80) hx hb dXM_sign_40 (by decide) (by omega) (fun c40_ => ?_) (fun c40_ => ?_)
          · refine lv_aload_n hx hb dXM_sign_80 rfl (lv_at hl 1 rfl) ?_
            refine va_get (D := (dC, dI)) (ci := 5) (v := .int (jI mn9)) (C := RXM) (T := TXM) (N := 19) hx hb hts (fun w h => jmem (inXM w h)) hown hK hP 1 rfl rfl 1 (by decide) (hts _ (jmem tw_629)) (fun _ h9 => h9) rfl dXM_sign_81 ?_
            have hP9 := hP.sub (ws' := [(ma, .inr (5, [.int (jI mth1'), .int (jI mn9), .ref a0, .int (jI mp), .int (jI mw), .ref a1, .ref a2, .ref a3, .ref a4, .ref a5, .ref a6, .ref a7, .ref a8, .ref a9, .ref a10, .long (jL mu), .long (jL md), .int (jI mo), .ref a11])), (a0, .inl (cA, 400, .inl (jA w0)))]) [1, 0] rfl
            have hD9 := hD.sub (ws' := [(ma, .inr (5, [.int (jI mth1'), .int (jI mn9), .ref a0, .int (jI mp), .int (jI mw), .ref a1, .ref a2, .ref a3, .ref a4, .ref a5, .ref a6, .ref a7, .ref a8, .ref a9, .ref a10, .long (jL mu), .long (jL md), .int (jI mo), .ref a11])), (a0, .inl (cA, 400, .inl (jA w0)))]) [1, 0] (by decide) rfl
            subst hAe
            subst hQ
            exact W.iret (v := jI mn9) hx hb hr (fun t ht hW => ⟨⟨_, (mn9, mth1', mn9, w0), rfl, ⟨rfl, Eq.trans (by rw [f_XM_signP_L38_s]; rw [if_pos c40_]; try rfl) hF, show (mth1' = 1 ∧ (z1 < 1 ∨ 8 < z1) ∧ mn9 = mn ∧ w0 = y0) ∨ (mth1' = 2 ∧ 1 ≤ z1 ∧ z1 ≤ 8 ∧ 400 < mn + z1 ∧ mn9 = mn ∧ w0 = y0) ∨ (mth1' = 0 ∧ 1 ≤ z1 ∧ z1 ≤ 8 ∧ mn + z1 ≤ 400 ∧ mn9 = mn + z1 ∧ mn9 = mn + z1) from by first | assumption | omega | exact jset_b (by assumption) (by omega) | exact jset_l (by assumption) (by omega) | exact jset_l (fun _ _ => rfl) (by omega) | exact fun _ _ => rfl | exact l_trans (by assumption) (by assumption), show 0 ≤ mn9 ∧ mn9 ≤ 400 from by first | assumption | omega | exact jset_b (by assumption) (by omega) | exact jset_l (by assumption) (by omega) | exact jset_l (fun _ _ => rfl) (by omega) | exact fun _ _ => rfl | exact l_trans (by assumption) (by assumption), show ∀ i, 0 ≤ w0 i ∧ w0 i ≤ 255 from by first | assumption | omega | exact jset_b (by assumption) (by omega) | exact jset_l (by assumption) (by omega) | exact jset_l (fun _ _ => rfl) (by omega) | exact fun _ _ => rfl | exact l_trans (by assumption) (by assumption)⟩, ⟨by rw [ht]; exact hP9, va_K.moved hW.alike hK, hD9⟩⟩, hS.F ht⟩) hS.2.2 dXM_sign_84
          · refine lv_aload_n hx hb dXM_sign_43 rfl (lv_at hl 1 rfl) ?_
            refine va_get (D := (dC, dI)) (ci := 5) (v := .ref a0) (C := RXM) (T := TXM) (N := 19) hx hb hts (fun w h => jmem (inXM w h)) hown hK hP 1 rfl rfl 2 (by decide) (hts _ (jmem tw_630)) (fun _ h9 => h9) rfl dXM_sign_44 ?_
            refine lv_aload_n hx hb dXM_sign_47 rfl (lv_at hl 1 rfl) ?_
            refine va_get (D := (dC, dI)) (ci := 5) (v := .int (jI mn9)) (C := RXM) (T := TXM) (N := 19) hx hb hts (fun w h => jmem (inXM w h)) hown hK hP 1 rfl rfl 1 (by decide) (hts _ (jmem tw_629)) (fun _ h9 => h9) rfl dXM_sign_48 ?_
            refine lv_lload_n hx hb dXM_sign_51 rfl (lv_at hl 2 rfl) ?_
            refine ji_bipush hx hb dXM_sign_52 (by decide) ?_
            refine lv_iload hx hb dXM_sign_54 (lv_at hl 0 rfl) ?_
            refine ji_imul hx hb dXM_sign_56 ?_
            refine lv_lshr (v := (jL zy >>> ((jI (8 * k)).toInt64 &&& 63))) hx hb dXM_sign_57 rfl ?_
            refine ji_revl ?_
            refine ji_l2i hx hb dXM_sign_58 ?_
            refine ji_sipush hx hb dXM_sign_59 (by decide) ?_
            refine lv_iand hx hb dXM_sign_62 ?_
            refine ji_rev ?_
            have rb2 := jti32 (jI ((jL zy >>> ((jI (8 * k)).toInt64 &&& 63)).toInt) &&& jI 255)
            have rb3 := jand255 (jI ((jL zy >>> ((jI (8 * k)).toInt64 &&& 63)).toInt))
            refine ji_iast hx hb hK hP hD hS 0 0 rfl rfl ⟨by omega, by omega⟩ (by decide) dXM_sign_63 (fun H locs hP hD hS => ?_)
            have hP : va_P (dC, dI) vwCl [(a0, .inl (cA, 400, .inl (jA (jset w0 mn9 ((jI ((jL zy >>> ((jI (8 * k)).toInt64 &&& 63)).toInt) &&& jI 255).toInt))))), (ma, .inr (5, [.int (jI mth1'), .int (jI mn9), .ref a0, .int (jI mp), .int (jI mw), .ref a1, .ref a2, .ref a3, .ref a4, .ref a5, .ref a6, .ref a7, .ref a8, .ref a9, .ref a10, .long (jL mu), .long (jL md), .int (jI mo), .ref a11]))] H := hP
            have hD : va_D A [(a0, .inl (cA, 400, .inl (jA (jset w0 mn9 ((jI ((jL zy >>> ((jI (8 * k)).toInt64 &&& 63)).toInt) &&& jI 255).toInt))))), (ma, .inr (5, [.int (jI mth1'), .int (jI mn9), .ref a0, .int (jI mp), .int (jI mw), .ref a1, .ref a2, .ref a3, .ref a4, .ref a5, .ref a6, .ref a7, .ref a8, .ref a9, .ref a10, .long (jL mu), .long (jL md), .int (jI mo), .ref a11]))] := hD
            refine lv_aload_n hx hb dXM_sign_64 rfl (lv_at hl 1 rfl) ?_
            refine lv_dup hx hb dXM_sign_65 rfl ?_
            refine va_get (D := (dC, dI)) (ci := 5) (v := .int (jI mn9)) (C := RXM) (T := TXM) (N := 19) hx hb hts (fun w h => jmem (inXM w h)) hown hK hP 1 rfl rfl 1 (by decide) (hts _ (jmem tw_629)) (fun _ h9 => h9) rfl dXM_sign_66 ?_
            refine ji_iconst hx hb dXM_sign_69 ?_
            refine ji_iadd hx hb dXM_sign_70 ?_
            refine va_put (D := (dC, dI)) (ci := 5) (v := .int (jI (mn9 + 1))) (ty := (.int)) (C := RXM) (T := TXM) (N := 19) hx hb hts (fun w h => jmem (inXM w h)) tyXM tyXM_ok nXM hown hK hP hD hS 1 rfl rfl 1 (by decide) (hts _ (jmem tw_629)) (fun _ h9 => h9) rfl (by decide +kernel) rfl rfl (Nat.le_of_ble_eq_true rfl) dXM_sign_71 (fun H locs hP hD hS => ?_)
            have hP : va_P (dC, dI) vwCl [(a0, .inl (cA, 400, .inl (jA (jset w0 mn9 ((jI ((jL zy >>> ((jI (8 * k)).toInt64 &&& 63)).toInt) &&& jI 255).toInt))))), (ma, .inr (5, [.int (jI mth1'), .int (jI (mn9 + 1)), .ref a0, .int (jI mp), .int (jI mw), .ref a1, .ref a2, .ref a3, .ref a4, .ref a5, .ref a6, .ref a7, .ref a8, .ref a9, .ref a10, .long (jL mu), .long (jL md), .int (jI mo), .ref a11]))] H := hP
            have hD : va_D A [(a0, .inl (cA, 400, .inl (jA (jset w0 mn9 ((jI ((jL zy >>> ((jI (8 * k)).toInt64 &&& 63)).toInt) &&& jI 255).toInt))))), (ma, .inr (5, [.int (jI mth1'), .int (jI (mn9 + 1)), .ref a0, .int (jI mp), .int (jI mw), .ref a1, .ref a2, .ref a3, .ref a4, .ref a5, .ref a6, .ref a7, .ref a8, .ref a9, .ref a10, .long (jL mu), .long (jL md), .int (jI mo), .ref a11]))] := hD
            refine ji_iinc (k := 0) (lv' := [(4, .int (jI (k + (-1)))), (0, .ref ma), (1, .long (jL zy)), (3, .int (jI z1))]) hx hb dXM_sign_74 hl rfl (by decide) rfl (fun ls hl => ?_)
            refine lv_goto (tgt := 38) hx hb dXM_sign_77 (by decide) ?_
            exact ih38 (k + (-1)) (mn9 + 1) (jset w0 mn9 ((jI ((jL zy >>> ((jI (8 * k)).toInt64 &&& 63)).toInt) &&& jI 255).toInt)) (by omega) (Eq.trans (by rw [f_XM_signP_L38_s]; rw [if_neg (Int.not_lt.mpr c40_)]; try rfl) hF) (by first | assumption | omega | exact jset_b (by assumption) (by omega) | exact jset_l (by assumption) (by omega) | exact jset_l (fun _ _ => rfl) (by omega) | exact fun _ _ => rfl | exact l_trans (by assumption) (by assumption)) (by first | assumption | omega | exact jset_b (by assumption) (by omega) | exact jset_l (by assumption) (by omega) | exact jset_l (fun _ _ => rfl) (by omega) | exact fun _ _ => rfl | exact l_trans (by assumption) (by assumption)) (by first | assumption | omega | exact jset_b (by assumption) (by omega) | exact jset_l (by assumption) (by omega) | exact jset_l (fun _ _ => rfl) (by omega) | exact fun _ _ => rfl | exact l_trans (by assumption) (by assumption)) (by first | assumption | omega | exact jset_b (by assumption) (by omega) | exact jset_l (by assumption) (by omega) | exact jset_l (fun _ _ => rfl) (by omega) | exact fun _ _ => rfl | exact l_trans (by assumption) (by assumption)) (by first | assumption | omega | exact jset_b (by assumption) (by omega) | exact jset_l (by assumption) (by omega) | exact jset_l (fun _ _ => rfl) (by omega) | exact fun _ _ => rfl | exact l_trans (by assumption) (by assumption)) _ _ hP hD hS ls (lv_sub hl [0, 1, 2, 3] rfl)
      exact loop38 (Int.toNat ((z1 - 1) + 1) + 1) (z1 - 1) mn y0 (by omega) (Eq.trans (by rw [f_XM_signP_J25_s]; rw [← hwb]; try dsimp only; rw [if_neg c28_]; try rfl) hF) (by first | assumption | omega | exact jset_b (by assumption) (by omega) | exact jset_l (by assumption) (by omega) | exact jset_l (fun _ _ => rfl) (by omega) | exact fun _ _ => rfl | exact l_trans (by assumption) (by assumption)) (by first | assumption | omega | exact jset_b (by assumption) (by omega) | exact jset_l (by assumption) (by omega) | exact jset_l (fun _ _ => rfl) (by omega) | exact fun _ _ => rfl | exact l_trans (by assumption) (by assumption)) (by first | assumption | omega | exact jset_b (by assumption) (by omega) | exact jset_l (by assumption) (by omega) | exact jset_l (fun _ _ => rfl) (by omega) | exact fun _ _ => rfl | exact l_trans (by assumption) (by assumption)) (by first | assumption | omega | exact jset_b (by assumption) (by omega) | exact jset_l (by assumption) (by omega) | exact jset_l (fun _ _ => rfl) (by omega) | exact fun _ _ => rfl | exact l_trans (by assumption) (by assumption)) (by first | assumption | omega | exact jset_b (by assumption) (by omega) | exact jset_l (by assumption) (by omega) | exact jset_l (fun _ _ => rfl) (by omega) | exact fun _ _ => rfl | exact l_trans (by assumption) (by assumption)) _ _ hP hD hS ls (lv_sub hl [0, 1, 2, 3] rfl)
    · refine ji_iconst hx hb dXM_sign_31 ?_
      have hP9 := hP.sub (ws' := [(ma, .inr (5, [.int (jI mth1'), .int (jI mn), .ref a0, .int (jI mp), .int (jI mw), .ref a1, .ref a2, .ref a3, .ref a4, .ref a5, .ref a6, .ref a7, .ref a8, .ref a9, .ref a10, .long (jL mu), .long (jL md), .int (jI mo), .ref a11])), (a0, .inl (cA, 400, .inl (jA y0)))]) [1, 0] rfl
      have hD9 := hD.sub (ws' := [(ma, .inr (5, [.int (jI mth1'), .int (jI mn), .ref a0, .int (jI mp), .int (jI mw), .ref a1, .ref a2, .ref a3, .ref a4, .ref a5, .ref a6, .ref a7, .ref a8, .ref a9, .ref a10, .long (jL mu), .long (jL md), .int (jI mo), .ref a11])), (a0, .inl (cA, 400, .inl (jA y0)))]) [1, 0] (by decide) rfl
      subst hAe
      subst hQ
      exact W.iret (v := jI 0) hx hb hr (fun t ht hW => ⟨⟨_, (0, mth1', mn, y0), rfl, ⟨rfl, Eq.trans (by rw [f_XM_signP_J25_s]; rw [← hwb]; try dsimp only; rw [if_pos c28_]; try rfl) hF, show (mth1' = 1 ∧ (z1 < 1 ∨ 8 < z1) ∧ mn = mn ∧ y0 = y0) ∨ (mth1' = 2 ∧ 1 ≤ z1 ∧ z1 ≤ 8 ∧ 400 < mn + z1 ∧ mn = mn ∧ y0 = y0) ∨ (mth1' = 0 ∧ 1 ≤ z1 ∧ z1 ≤ 8 ∧ mn + z1 ≤ 400 ∧ mn = mn + z1 ∧ 0 = mn + z1) from by first | assumption | omega | (rcases (by assumption : (_ ∧ _ ∧ _) ∨ (_ ∧ _ ∧ _ ∧ _) ∨ _) with h | h | h <;> first | exact Or.inl ⟨by omega, by omega, rfl, rfl⟩ | exact Or.inr (Or.inl ⟨by omega, by omega, by omega, by omega, rfl, rfl⟩) | omega), show 0 ≤ mn ∧ mn ≤ 400 from by first | assumption | omega | (rcases (by assumption : (_ ∧ _ ∧ _) ∨ (_ ∧ _ ∧ _ ∧ _) ∨ _) with h | h | h <;> first | exact Or.inl ⟨by omega, by omega, rfl, rfl⟩ | exact Or.inr (Or.inl ⟨by omega, by omega, by omega, by omega, rfl, rfl⟩) | omega), show ∀ i, 0 ≤ y0 i ∧ y0 i ≤ 255 from by first | assumption | omega | (rcases (by assumption : (_ ∧ _ ∧ _) ∨ (_ ∧ _ ∧ _ ∧ _) ∨ _) with h | h | h <;> first | exact Or.inl ⟨by omega, by omega, rfl, rfl⟩ | exact Or.inr (Or.inl ⟨by omega, by omega, by omega, by omega, rfl, rfl⟩) | omega)⟩, ⟨by rw [ht]; exact hP9, va_K.moved hW.alike hK, hD9⟩⟩, hS.F ht⟩) hS.2.2 dXM_sign_32
  refine ji_icmp_gt (tgt := 24) hx hb dXM_sign_17 (by decide) (by omega) (by omega) (fun c17_ => ?_) (fun c17_ => ?_)
  · refine ji_iconst hx hb dXM_sign_24 ?_
    exact join25 0 (Eq.trans (by rw [f_XM_signP_s]; rw [if_pos c17_]; try rfl) rfl) (by first | assumption | omega | exact jset_b (by assumption) (by omega)) _ _ hP hD hS ls (lv_sub hl [0, 1, 2] rfl)
  · refine ji_iconst hx hb dXM_sign_20 ?_
    refine lv_goto (tgt := 25) hx hb dXM_sign_21 (by decide) ?_
    exact join25 1 (Eq.trans (by rw [f_XM_signP_s]; rw [if_neg (Int.not_lt.mpr c17_)]; try rfl) rfl) (by first | assumption | omega | exact jset_b (by assumption) (by omega)) _ _ hP hD hS ls (lv_sub hl [0, 1, 2] rfl)
noncomputable def g_XM_shareP (mth : Int) (mn : Int) (mp : Int) (mw : Int) (mu : Int) (md : Int) (mo : Int) (y10 : Int → Int) (z1 : Int) (z2 : Int) : Int × (Int → Int) :=
  match f_XM_goesP mth mn mp mw mu md mo (f_XM_isElement z1) (f_XM_in z2 0 100000) with
  | (r, mth1') =>
    if r = 0 then
      (mth1', y10)
    else
      (mth1', jset y10 z1 z2)
noncomputable def f_XM_shareP : Int → Int → Int → Int → Int → Int → Int → (Int → Int) → Int → Int → Int × (Int → Int) := jopq g_XM_shareP
theorem f_XM_shareP_q : f_XM_shareP = g_XM_shareP := jopq_eq _
theorem f_XM_shareP_s (mth : Int) (mn : Int) (mp : Int) (mw : Int) (mu : Int) (md : Int) (mo : Int) (y10 : Int → Int) (z1 : Int) (z2 : Int) : f_XM_shareP mth mn mp mw mu md mo y10 z1 z2 = (
    match f_XM_goesP mth mn mp mw mu md mo (f_XM_isElement z1) (f_XM_in z2 0 100000) with
    | (r, mth1') =>
      if r = 0 then
        (mth1', y10)
      else
        (mth1', jset y10 z1 z2)
  : Int × (Int → Int)) := by rw [f_XM_shareP_q]; rfl
set_option maxHeartbeats 4000000 in
set_option maxRecDepth 100000 in
theorem c_XM_shareP (l : Launch) (dC : Nat → ClassId) (dI : Nat → Nat → Nat) (cA cZ : ClassId) (sz : Nat) (ma : Nat) (a0 : Nat) (a1 : Nat) (a2 : Nat) (a3 : Nat) (a4 : Nat) (a5 : Nat) (a6 : Nat) (a7 : Nat) (a8 : Nat) (a9 : Nat) (a10 : Nat) (a11 : Nat) (mth : Int) (mn : Int) (mp : Int) (mw : Int) (mu : Int) (md : Int) (mo : Int) (y10 : Int → Int) (z1 : Int) (z2 : Int) (hy10 : ∀ i, 0 ≤ y10 i ∧ y10 i ≤ 100000) (hiz1 : i32 z1) (hiz2 : i32 z2) : Met l yXM_share (Cond.code yXM_share cXM_share 3 none :: TBL) ({ frames := 2, cells := 0, slots := 0, locals := 42 } : Room) (va_Pc [.ref ma, .int (jI z1), .int (jI z2)] (jBw (dC, dI) [(cA, .int), (cZ, .boolean)] [(ma, .inr (5, [.int (jI mth), .int (jI mn), .ref a0, .int (jI mp), .int (jI mw), .ref a1, .ref a2, .ref a3, .ref a4, .ref a5, .ref a6, .ref a7, .ref a8, .ref a9, .ref a10, .long (jL mu), .long (jL md), .int (jI mo), .ref a11])), (a10, .inl (cA, 8, .inl (jA y10)))] sz)) (va_Qv (fun (u : Int × (Int → Int)) => u = f_XM_shareP mth mn mp mw mu md mo y10 z1 z2 ∧ ((u.1 = 1 ∧ (z1 < 0 ∨ 7 < z1) ∧ u.2 = y10) ∨ (u.1 = 2 ∧ 0 ≤ z1 ∧ z1 ≤ 7 ∧ (z2 < 0 ∨ 100000 < z2) ∧ u.2 = y10) ∨ (u.1 = 0 ∧ 0 ≤ z1 ∧ z1 ≤ 7 ∧ 0 ≤ z2 ∧ z2 ≤ 100000 ∧ u.2 = jset y10 z1 z2)) ∧ (∀ i, 0 ≤ u.2 i ∧ u.2 i ≤ 100000)) (fun u t => jE (dC, dI) [(cA, .int), (cZ, .boolean)] [(ma, .inr (5, [.int (jI mth), .int (jI mn), .ref a0, .int (jI mp), .int (jI mw), .ref a1, .ref a2, .ref a3, .ref a4, .ref a5, .ref a6, .ref a7, .ref a8, .ref a9, .ref a10, .long (jL mu), .long (jL md), .int (jI mo), .ref a11])), (a10, .inl (cA, 8, .inl (jA y10)))] sz [(ma, .inr (5, [.int (jI u.1), .int (jI mn), .ref a0, .int (jI mp), .int (jI mw), .ref a1, .ref a2, .ref a3, .ref a4, .ref a5, .ref a6, .ref a7, .ref a8, .ref a9, .ref a10, .long (jL mu), .long (jL md), .int (jI mo), .ref a11])), (a10, .inl (cA, 8, .inl (jA u.2)))] t) (va_A [(ma, .inr (5, [.int (jI mth), .int (jI mn), .ref a0, .int (jI mp), .int (jI mw), .ref a1, .ref a2, .ref a3, .ref a4, .ref a5, .ref a6, .ref a7, .ref a8, .ref a9, .ref a10, .long (jL mu), .long (jL md), .int (jI mo), .ref a11])), (a10, .inl (cA, 8, .inl (jA y10)))] sz)) 0 0 (va_A [(ma, .inr (5, [.int (jI mth), .int (jI mn), .ref a0, .int (jI mp), .int (jI mw), .ref a1, .ref a2, .ref a3, .ref a4, .ref a5, .ref a6, .ref a7, .ref a8, .ref a9, .ref a10, .long (jL mu), .long (jL md), .int (jI mo), .ref a11])), (a10, .inl (cA, 8, .inl (jA y10)))] sz) := by
  refine jMet (cc := cXM_share) (maxL := 3) (ret := none) (by decide) rfl ?_
  intro p e s m args below meth c s₁ R Q hR hQ B hml hv
  obtain ⟨rfl, hsz, hP, hK, hD0, hN⟩ := hv
  have hx := B.exec
  have hb := B.bytes
  have hr := B.returns
  have hts := atoms_spec (ws := Cond.code yXM_share cXM_share 3 none :: TBL) B.pre
  have hown : s.vm.findClass RXM = some m.cls := findClass_of_methodNamed B.named
  have hlocks := B.notSynchronized
  subst hsz
  obtain ⟨A, hAe⟩ : ∃ A, A = va_A [(ma, .inr (5, [.int (jI mth), .int (jI mn), .ref a0, .int (jI mp), .int (jI mw), .ref a1, .ref a2, .ref a3, .ref a4, .ref a5, .ref a6, .ref a7, .ref a8, .ref a9, .ref a10, .long (jL mu), .long (jL md), .int (jI mo), .ref a11])), (a10, .inl (cA, 8, .inl (jA y10)))] s.heap.size := ⟨_, rfl⟩
  have hD : va_D A [(ma, .inr (5, [.int (jI mth), .int (jI mn), .ref a0, .int (jI mp), .int (jI mw), .ref a1, .ref a2, .ref a3, .ref a4, .ref a5, .ref a6, .ref a7, .ref a8, .ref a9, .ref a10, .long (jL mu), .long (jL md), .int (jI mo), .ref a11])), (a10, .inl (cA, 8, .inl (jA y10)))] := by rw [hAe]; exact hD0.self
  have hA : ∀ q : Nat, s.heap.size ≤ q → A q := fun q h => by rw [hAe]; exact Or.inr h
  have hS : va_S A s.heap s.heap [] := va_S.rf
  have hP : va_P (dC, dI) vwCl [(ma, .inr (5, [.int (jI mth), .int (jI mn), .ref a0, .int (jI mp), .int (jI mw), .ref a1, .ref a2, .ref a3, .ref a4, .ref a5, .ref a6, .ref a7, .ref a8, .ref a9, .ref a10, .long (jL mu), .long (jL md), .int (jI mo), .ref a11])), (a10, .inl (cA, 8, .inl (jA y10)))] s.heap := hP
  have hl := lv_entry ([.ref ma, .int (jI z1), .int (jI z2)]) (n := 3) (Nat.le_of_ble_eq_true rfl)
  rw [lg_entry_eq]
  generalize (lg_sl ([.ref ma, .int (jI z1), .int (jI z2)]) ++ List.replicate (3 - (lg_sl ([.ref ma, .int (jI z1), .int (jI z2)])).length) Slot.unset).toArray = ls at hl ⊢
  have hl : lv_has ls 3 [(0, .ref ma), (1, .int (jI z1)), (2, .int (jI z2))] := hl
  refine lv_aload_n hx hb dXM_share_0 rfl (lv_at hl 0 rfl) ?_
  refine lv_iload_n hx hb dXM_share_1 rfl (lv_at hl 1 rfl) ?_
  refine jrSi (rest := [.ref ma]) ⟨hx, hb, hml, hown, hts⟩ (c_XM_isElement l dC dI cA cZ z1 (by first | assumption | omega)) (cwS 1 hts (jG_S tw_772 tw_773 tw_6 tw_774) rfl rfl rfl (by decide +kernel) (by rw [hR]; exact ⟨Nat.le_of_ble_eq_true rfl, Nat.le_of_ble_eq_true rfl⟩)) hK hP hN [] rfl rfl hl.1 rfl (Nat.le_of_ble_eq_true rfl) dXM_share_2 (by rw [hR]; exact ⟨Nat.le_of_ble_eq_true rfl, Nat.le_of_ble_eq_true rfl⟩) ?_
  have f := f_XM_isElement_b z1 (by first | assumption | omega)
  refine lv_iload_n hx hb dXM_share_5 rfl (lv_at hl 2 rfl) ?_
  refine ji_iconst hx hb dXM_share_6 ?_
  refine lv_ldc hx hb hown (hts _ (jmem tw_754)) dXM_share_7 ?_
  refine ji_re (y := 100000) (by decide) ?_
  refine jrSi (rest := [.int (jI (f_XM_isElement z1)), .ref ma]) ⟨hx, hb, hml, hown, hts⟩ (c_XM_in l dC dI cA cZ z2 0 100000 (by first | assumption | omega) (by first | assumption | omega) (by first | assumption | omega)) (cwS 3 hts (jG_S tw_695 tw_696 tw_6 tw_697) rfl rfl rfl (by decide +kernel) (by rw [hR]; exact ⟨Nat.le_of_ble_eq_true rfl, Nat.le_of_ble_eq_true rfl⟩)) hK hP hN [] rfl rfl hl.1 rfl (Nat.le_of_ble_eq_true rfl) dXM_share_9 (by rw [hR]; exact ⟨Nat.le_of_ble_eq_true rfl, Nat.le_of_ble_eq_true rfl⟩) ?_
  have f1 := f_XM_in_b z2 0 100000 (by first | assumption | omega) (by first | assumption | omega) (by first | assumption | omega)
  refine jwVi (rest := []) (wr := [(a10, .inl (cA, 8, .inl (jA y10)))]) ⟨hx, hb, hml, hown, hts⟩ (c_XM_goesP l dC dI cA cZ _ ma a0 a1 a2 a3 a4 a5 a6 a7 a8 a9 a10 a11 mth mn mp mw mu md mo (f_XM_isElement z1) (f_XM_in z2 0 100000) (by first | assumption | omega) (by first | assumption | omega)) (cwV 2 hts (jG_V tw_698 tw_700 ts_14 tw_6 tw_701) rfl rfl rfl (by decide +kernel) (by rw [hR]; exact ⟨Nat.le_of_ble_eq_true rfl, Nat.le_of_ble_eq_true rfl⟩)) hK hP hD hS hA hN [0] [1] rfl rfl (by decide) (by decide) (by decide) 0 5 rfl rfl rfl rfl hl.1 rfl (Nat.le_of_ble_eq_true rfl) dXM_share_12 (by rw [hR]; exact ⟨Nat.le_of_ble_eq_true rfl, Nat.le_of_ble_eq_true rfl⟩) (fun v u H locs hwb hP hD hS => ?_)
  obtain ⟨r, mth1'⟩ := u
  try dsimp only at hwb
  obtain ⟨er, hwb, f2⟩ := hwb
  subst er
  have f2 : (r = 0 ∧ mth1' = 1 ∧ (f_XM_isElement z1) = 0) ∨ (r = 0 ∧ mth1' = 2 ∧ (f_XM_isElement z1) = 1 ∧ (f_XM_in z2 0 100000) = 0) ∨ (r = 1 ∧ mth1' = 0 ∧ (f_XM_isElement z1) = 1 ∧ (f_XM_in z2 0 100000) = 1) := f2
  have hP : va_P (dC, dI) vwCl [(a10, .inl (cA, 8, .inl (jA y10))), (ma, .inr (5, [.int (jI mth1'), .int (jI mn), .ref a0, .int (jI mp), .int (jI mw), .ref a1, .ref a2, .ref a3, .ref a4, .ref a5, .ref a6, .ref a7, .ref a8, .ref a9, .ref a10, .long (jL mu), .long (jL md), .int (jI mo), .ref a11]))] H := hP
  have hD : va_D A [(a10, .inl (cA, 8, .inl (jA y10))), (ma, .inr (5, [.int (jI mth1'), .int (jI mn), .ref a0, .int (jI mp), .int (jI mw), .ref a1, .ref a2, .ref a3, .ref a4, .ref a5, .ref a6, .ref a7, .ref a8, .ref a9, .ref a10, .long (jL mu), .long (jL md), .int (jI mo), .ref a11]))] := hD
  refine ji_if_eq (tgt := 25) hx hb dXM_share_15 (by decide) (by omega) (fun c15_ => ?_) (fun c15_ => ?_)
  · have hP9 := hP.sub (ws' := [(ma, .inr (5, [.int (jI mth1'), .int (jI mn), .ref a0, .int (jI mp), .int (jI mw), .ref a1, .ref a2, .ref a3, .ref a4, .ref a5, .ref a6, .ref a7, .ref a8, .ref a9, .ref a10, .long (jL mu), .long (jL md), .int (jI mo), .ref a11])), (a10, .inl (cA, 8, .inl (jA y10)))]) [1, 0] rfl
    have hD9 := hD.sub (ws' := [(ma, .inr (5, [.int (jI mth1'), .int (jI mn), .ref a0, .int (jI mp), .int (jI mw), .ref a1, .ref a2, .ref a3, .ref a4, .ref a5, .ref a6, .ref a7, .ref a8, .ref a9, .ref a10, .long (jL mu), .long (jL md), .int (jI mo), .ref a11])), (a10, .inl (cA, 8, .inl (jA y10)))]) [1, 0] (by decide) rfl
    subst hAe
    subst hQ
    exact W.vret hx hb hr (fun t ht hW => ⟨⟨(mth1', y10), rfl, ⟨Eq.trans (by rw [f_XM_shareP_s]; rw [← hwb]; try dsimp only; rw [if_pos c15_]; try rfl) rfl, show (mth1' = 1 ∧ (z1 < 0 ∨ 7 < z1) ∧ y10 = y10) ∨ (mth1' = 2 ∧ 0 ≤ z1 ∧ z1 ≤ 7 ∧ (z2 < 0 ∨ 100000 < z2) ∧ y10 = y10) ∨ (mth1' = 0 ∧ 0 ≤ z1 ∧ z1 ≤ 7 ∧ 0 ≤ z2 ∧ z2 ≤ 100000 ∧ y10 = jset y10 z1 z2) from by first | assumption | exact jset_b (by assumption) (by omega) | exact Or.inr (Or.inr ⟨by omega, by omega, by omega, by omega, by omega, rfl⟩) | (rcases (by assumption : (_ ∧ _ ∧ _) ∨ (_ ∧ _ ∧ _ ∧ _) ∨ (_ ∧ _ ∧ _ ∧ _)) with h | h | h <;> first | exact Or.inl ⟨by omega, by omega, rfl⟩ | exact Or.inr (Or.inl ⟨by omega, by omega, by omega, by omega, rfl⟩) | omega), show ∀ i, 0 ≤ y10 i ∧ y10 i ≤ 100000 from by first | assumption | exact jset_b (by assumption) (by omega) | exact Or.inr (Or.inr ⟨by omega, by omega, by omega, by omega, by omega, rfl⟩) | (rcases (by assumption : (_ ∧ _ ∧ _) ∨ (_ ∧ _ ∧ _ ∧ _) ∨ (_ ∧ _ ∧ _ ∧ _)) with h | h | h <;> first | exact Or.inl ⟨by omega, by omega, rfl⟩ | exact Or.inr (Or.inl ⟨by omega, by omega, by omega, by omega, rfl⟩) | omega)⟩, ⟨by rw [ht]; exact hP9, va_K.moved hW.alike hK, hD9⟩⟩, hS.F ht⟩) hS.2.2 dXM_share_25
  · refine lv_aload_n hx hb dXM_share_18 rfl (lv_at hl 0 rfl) ?_
    refine va_get (D := (dC, dI)) (ci := 5) (v := .ref a10) (C := RXM) (T := TXM) (N := 19) hx hb hts (fun w h => jmem (inXM w h)) hown hK hP 1 rfl rfl 14 (by decide) (hts _ (jmem tw_642)) (fun _ h9 => h9) rfl dXM_share_19 ?_
    refine lv_iload_n hx hb dXM_share_22 rfl (lv_at hl 1 rfl) ?_
    refine lv_iload_n hx hb dXM_share_23 rfl (lv_at hl 2 rfl) ?_
    refine ji_iast hx hb hK hP hD hS 0 0 rfl rfl ⟨by omega, by omega⟩ (by decide) dXM_share_24 (fun H locs hP hD hS => ?_)
    have hP : va_P (dC, dI) vwCl [(a10, .inl (cA, 8, .inl (jA (jset y10 z1 z2)))), (ma, .inr (5, [.int (jI mth1'), .int (jI mn), .ref a0, .int (jI mp), .int (jI mw), .ref a1, .ref a2, .ref a3, .ref a4, .ref a5, .ref a6, .ref a7, .ref a8, .ref a9, .ref a10, .long (jL mu), .long (jL md), .int (jI mo), .ref a11]))] H := hP
    have hD : va_D A [(a10, .inl (cA, 8, .inl (jA (jset y10 z1 z2)))), (ma, .inr (5, [.int (jI mth1'), .int (jI mn), .ref a0, .int (jI mp), .int (jI mw), .ref a1, .ref a2, .ref a3, .ref a4, .ref a5, .ref a6, .ref a7, .ref a8, .ref a9, .ref a10, .long (jL mu), .long (jL md), .int (jI mo), .ref a11]))] := hD
    have hP9 := hP.sub (ws' := [(ma, .inr (5, [.int (jI mth1'), .int (jI mn), .ref a0, .int (jI mp), .int (jI mw), .ref a1, .ref a2, .ref a3, .ref a4, .ref a5, .ref a6, .ref a7, .ref a8, .ref a9, .ref a10, .long (jL mu), .long (jL md), .int (jI mo), .ref a11])), (a10, .inl (cA, 8, .inl (jA (jset y10 z1 z2))))]) [1, 0] rfl
    have hD9 := hD.sub (ws' := [(ma, .inr (5, [.int (jI mth1'), .int (jI mn), .ref a0, .int (jI mp), .int (jI mw), .ref a1, .ref a2, .ref a3, .ref a4, .ref a5, .ref a6, .ref a7, .ref a8, .ref a9, .ref a10, .long (jL mu), .long (jL md), .int (jI mo), .ref a11])), (a10, .inl (cA, 8, .inl (jA (jset y10 z1 z2))))]) [1, 0] (by decide) rfl
    subst hAe
    subst hQ
    exact W.vret hx hb hr (fun t ht hW => ⟨⟨(mth1', jset y10 z1 z2), rfl, ⟨Eq.trans (by rw [f_XM_shareP_s]; rw [← hwb]; try dsimp only; rw [if_neg c15_]; try rfl) rfl, show (mth1' = 1 ∧ (z1 < 0 ∨ 7 < z1) ∧ (jset y10 z1 z2) = y10) ∨ (mth1' = 2 ∧ 0 ≤ z1 ∧ z1 ≤ 7 ∧ (z2 < 0 ∨ 100000 < z2) ∧ (jset y10 z1 z2) = y10) ∨ (mth1' = 0 ∧ 0 ≤ z1 ∧ z1 ≤ 7 ∧ 0 ≤ z2 ∧ z2 ≤ 100000 ∧ (jset y10 z1 z2) = jset y10 z1 z2) from by first | assumption | exact jset_b (by assumption) (by omega) | exact Or.inr (Or.inr ⟨by omega, by omega, by omega, by omega, by omega, rfl⟩) | (rcases (by assumption : (_ ∧ _ ∧ _) ∨ (_ ∧ _ ∧ _ ∧ _) ∨ (_ ∧ _ ∧ _ ∧ _)) with h | h | h <;> first | exact Or.inl ⟨by omega, by omega, rfl⟩ | exact Or.inr (Or.inl ⟨by omega, by omega, by omega, by omega, rfl⟩) | omega), show ∀ i, 0 ≤ (jset y10 z1 z2) i ∧ (jset y10 z1 z2) i ≤ 100000 from by first | assumption | exact jset_b (by assumption) (by omega) | exact Or.inr (Or.inr ⟨by omega, by omega, by omega, by omega, by omega, rfl⟩) | (rcases (by assumption : (_ ∧ _ ∧ _) ∨ (_ ∧ _ ∧ _ ∧ _) ∨ (_ ∧ _ ∧ _ ∧ _)) with h | h | h <;> first | exact Or.inl ⟨by omega, by omega, rfl⟩ | exact Or.inr (Or.inl ⟨by omega, by omega, by omega, by omega, rfl⟩) | omega)⟩, ⟨by rw [ht]; exact hP9, va_K.moved hW.alike hK, hD9⟩⟩, hS.F ht⟩) hS.2.2 dXM_share_25
set_option maxHeartbeats 4000000 in
set_option maxRecDepth 100000 in
theorem c_XM_clearC (l : Launch) (dC : Nat → ClassId) (dI : Nat → Nat → Nat) (cA cZ : ClassId) (sz : Nat) (ma : Nat) (a0 : Nat) (a1 : Nat) (a2 : Nat) (a3 : Nat) (a4 : Nat) (a5 : Nat) (a6 : Nat) (a7 : Nat) (a8 : Nat) (a9 : Nat) (a10 : Nat) (a11 : Nat) (mth : Int) (mn : Int) (mp : Int) (mw : Int) (mu : Int) (md : Int) (mo : Int) (y1 : Int → Int) (y2 : Int → Int) (y3 : Int → Int) (y6 : Int → Int) (y7 : Int → Int) (y8 : Int → Int) (y9 : Int → Int) (y10 : Int → Int) (hy1 : ∀ i, 0 ≤ y1 i ∧ y1 i ≤ 1) (hy2 : ∀ i, 0 ≤ y2 i ∧ y2 i ≤ 30) (hy3 : ∀ i, 0 ≤ y3 i ∧ y3 i ≤ 1) (hy6 : ∀ i, -2147483648 ≤ y6 i ∧ y6 i ≤ 2147483647) (hy7 : ∀ i, -1 ≤ y7 i ∧ y7 i ≤ 999999) (hy8 : ∀ i, 0 ≤ y8 i ∧ y8 i ≤ 1) (hy9 : ∀ i, 0 ≤ y9 i ∧ y9 i ≤ 20) (hy10 : ∀ i, 0 ≤ y10 i ∧ y10 i ≤ 100000) : Met l yXM_clear (Cond.code yXM_clear cXM_clear 2 none :: TBL) ({ frames := 1, cells := 0, slots := 0, locals := 23 } : Room) (va_Pc [.ref ma] (jBw (dC, dI) [(cA, .int), (cZ, .boolean)] [(ma, .inr (5, [.int (jI mth), .int (jI mn), .ref a0, .int (jI mp), .int (jI mw), .ref a1, .ref a2, .ref a3, .ref a4, .ref a5, .ref a6, .ref a7, .ref a8, .ref a9, .ref a10, .long (jL mu), .long (jL md), .int (jI mo), .ref a11])), (a1, .inl (cZ, 62, .inl (jA y1))), (a2, .inl (cA, 62, .inl (jA y2))), (a3, .inl (cZ, 496, .inl (jA y3))), (a6, .inl (cA, 62, .inl (jA y6))), (a7, .inl (cA, 248, .inl (jA y7))), (a8, .inl (cZ, 8, .inl (jA y8))), (a9, .inl (cA, 64, .inl (jA y9))), (a10, .inl (cA, 8, .inl (jA y10)))] sz)) (va_Qv (fun (u : Int × Int × (Int → Int) × (Int → Int) × (Int → Int) × (Int → Int) × (Int → Int) × (Int → Int) × (Int → Int) × (Int → Int)) => (u.2.1 = 0) ∧ (∀ i, 0 ≤ u.2.2.1 i ∧ u.2.2.1 i ≤ 1) ∧ (∀ i, 0 ≤ u.2.2.2.1 i ∧ u.2.2.2.1 i ≤ 30) ∧ (∀ i, 0 ≤ u.2.2.2.2.1 i ∧ u.2.2.2.2.1 i ≤ 1) ∧ (∀ i, -2147483648 ≤ u.2.2.2.2.2.1 i ∧ u.2.2.2.2.2.1 i ≤ 2147483647) ∧ (∀ i, -1 ≤ u.2.2.2.2.2.2.1 i ∧ u.2.2.2.2.2.2.1 i ≤ 999999) ∧ (∀ i, 0 ≤ u.2.2.2.2.2.2.2.1 i ∧ u.2.2.2.2.2.2.2.1 i ≤ 1) ∧ (∀ i, 0 ≤ u.2.2.2.2.2.2.2.2.1 i ∧ u.2.2.2.2.2.2.2.2.1 i ≤ 20) ∧ (∀ i, 0 ≤ u.2.2.2.2.2.2.2.2.2 i ∧ u.2.2.2.2.2.2.2.2.2 i ≤ 100000) ∧ (u.2.2.1 = kfill y1 (31 * (0 : Int)) (31 * (0 : Int) + 31) 0) ∧ (u.2.2.2.1 = kfill y2 (31 * (0 : Int)) (31 * (0 : Int) + 31) 0) ∧ (u.2.2.2.2.1 = kfill y3 (248 * (0 : Int)) (248 * (0 : Int) + 248) 0) ∧ (u.2.2.2.2.2.1 = kfill y6 (31 * (0 : Int)) (31 * (0 : Int) + 31) 0) ∧ (u.2.2.2.2.2.2.1 = kfill y7 (124 * (0 : Int)) (124 * (0 : Int) + 124) (-1)) ∧ (u.2.2.2.2.2.2.2.1 = kfill y8 (4 * (0 : Int)) (4 * (0 : Int) + 4) 0) ∧ (u.2.2.2.2.2.2.2.2.1 = kfill y9 (32 * (0 : Int)) (32 * (0 : Int) + 32) 0) ∧ (u.2.2.2.2.2.2.2.2.2 = kfill y10 0 8 0)) (fun u t => jE (dC, dI) [(cA, .int), (cZ, .boolean)] [(ma, .inr (5, [.int (jI mth), .int (jI mn), .ref a0, .int (jI mp), .int (jI mw), .ref a1, .ref a2, .ref a3, .ref a4, .ref a5, .ref a6, .ref a7, .ref a8, .ref a9, .ref a10, .long (jL mu), .long (jL md), .int (jI mo), .ref a11])), (a1, .inl (cZ, 62, .inl (jA y1))), (a2, .inl (cA, 62, .inl (jA y2))), (a3, .inl (cZ, 496, .inl (jA y3))), (a6, .inl (cA, 62, .inl (jA y6))), (a7, .inl (cA, 248, .inl (jA y7))), (a8, .inl (cZ, 8, .inl (jA y8))), (a9, .inl (cA, 64, .inl (jA y9))), (a10, .inl (cA, 8, .inl (jA y10)))] sz [(ma, .inr (5, [.int (jI u.1), .int (jI u.2.1), .ref a0, .int (jI mp), .int (jI mw), .ref a1, .ref a2, .ref a3, .ref a4, .ref a5, .ref a6, .ref a7, .ref a8, .ref a9, .ref a10, .long (jL mu), .long (jL md), .int (jI mo), .ref a11])), (a1, .inl (cZ, 62, .inl (jA u.2.2.1))), (a2, .inl (cA, 62, .inl (jA u.2.2.2.1))), (a3, .inl (cZ, 496, .inl (jA u.2.2.2.2.1))), (a6, .inl (cA, 62, .inl (jA u.2.2.2.2.2.1))), (a7, .inl (cA, 248, .inl (jA u.2.2.2.2.2.2.1))), (a8, .inl (cZ, 8, .inl (jA u.2.2.2.2.2.2.2.1))), (a9, .inl (cA, 64, .inl (jA u.2.2.2.2.2.2.2.2.1))), (a10, .inl (cA, 8, .inl (jA u.2.2.2.2.2.2.2.2.2)))] t) (va_A [(ma, .inr (5, [.int (jI mth), .int (jI mn), .ref a0, .int (jI mp), .int (jI mw), .ref a1, .ref a2, .ref a3, .ref a4, .ref a5, .ref a6, .ref a7, .ref a8, .ref a9, .ref a10, .long (jL mu), .long (jL md), .int (jI mo), .ref a11])), (a1, .inl (cZ, 62, .inl (jA y1))), (a2, .inl (cA, 62, .inl (jA y2))), (a3, .inl (cZ, 496, .inl (jA y3))), (a6, .inl (cA, 62, .inl (jA y6))), (a7, .inl (cA, 248, .inl (jA y7))), (a8, .inl (cZ, 8, .inl (jA y8))), (a9, .inl (cA, 64, .inl (jA y9))), (a10, .inl (cA, 8, .inl (jA y10)))] sz)) 0 0 (va_A [(ma, .inr (5, [.int (jI mth), .int (jI mn), .ref a0, .int (jI mp), .int (jI mw), .ref a1, .ref a2, .ref a3, .ref a4, .ref a5, .ref a6, .ref a7, .ref a8, .ref a9, .ref a10, .long (jL mu), .long (jL md), .int (jI mo), .ref a11])), (a1, .inl (cZ, 62, .inl (jA y1))), (a2, .inl (cA, 62, .inl (jA y2))), (a3, .inl (cZ, 496, .inl (jA y3))), (a6, .inl (cA, 62, .inl (jA y6))), (a7, .inl (cA, 248, .inl (jA y7))), (a8, .inl (cZ, 8, .inl (jA y8))), (a9, .inl (cA, 64, .inl (jA y9))), (a10, .inl (cA, 8, .inl (jA y10)))] sz) := by
  refine jMet (cc := cXM_clear) (maxL := 2) (ret := none) (by decide) rfl ?_
  intro p e s m args below meth c s₁ R Q hR hQ B hml hv
  obtain ⟨rfl, hsz, hP, hK, hD0, hN⟩ := hv
  have hx := B.exec
  have hb := B.bytes
  have hr := B.returns
  have hts := atoms_spec (ws := Cond.code yXM_clear cXM_clear 2 none :: TBL) B.pre
  have hown : s.vm.findClass RXM = some m.cls := findClass_of_methodNamed B.named
  have hlocks := B.notSynchronized
  subst hsz
  obtain ⟨A, hAe⟩ : ∃ A, A = va_A [(ma, .inr (5, [.int (jI mth), .int (jI mn), .ref a0, .int (jI mp), .int (jI mw), .ref a1, .ref a2, .ref a3, .ref a4, .ref a5, .ref a6, .ref a7, .ref a8, .ref a9, .ref a10, .long (jL mu), .long (jL md), .int (jI mo), .ref a11])), (a1, .inl (cZ, 62, .inl (jA y1))), (a2, .inl (cA, 62, .inl (jA y2))), (a3, .inl (cZ, 496, .inl (jA y3))), (a6, .inl (cA, 62, .inl (jA y6))), (a7, .inl (cA, 248, .inl (jA y7))), (a8, .inl (cZ, 8, .inl (jA y8))), (a9, .inl (cA, 64, .inl (jA y9))), (a10, .inl (cA, 8, .inl (jA y10)))] s.heap.size := ⟨_, rfl⟩
  have hD : va_D A [(ma, .inr (5, [.int (jI mth), .int (jI mn), .ref a0, .int (jI mp), .int (jI mw), .ref a1, .ref a2, .ref a3, .ref a4, .ref a5, .ref a6, .ref a7, .ref a8, .ref a9, .ref a10, .long (jL mu), .long (jL md), .int (jI mo), .ref a11])), (a1, .inl (cZ, 62, .inl (jA y1))), (a2, .inl (cA, 62, .inl (jA y2))), (a3, .inl (cZ, 496, .inl (jA y3))), (a6, .inl (cA, 62, .inl (jA y6))), (a7, .inl (cA, 248, .inl (jA y7))), (a8, .inl (cZ, 8, .inl (jA y8))), (a9, .inl (cA, 64, .inl (jA y9))), (a10, .inl (cA, 8, .inl (jA y10)))] := by rw [hAe]; exact hD0.self
  have hA : ∀ q : Nat, s.heap.size ≤ q → A q := fun q h => by rw [hAe]; exact Or.inr h
  have hS : va_S A s.heap s.heap [] := va_S.rf
  have hP : va_P (dC, dI) vwCl [(ma, .inr (5, [.int (jI mth), .int (jI mn), .ref a0, .int (jI mp), .int (jI mw), .ref a1, .ref a2, .ref a3, .ref a4, .ref a5, .ref a6, .ref a7, .ref a8, .ref a9, .ref a10, .long (jL mu), .long (jL md), .int (jI mo), .ref a11])), (a1, .inl (cZ, 62, .inl (jA y1))), (a2, .inl (cA, 62, .inl (jA y2))), (a3, .inl (cZ, 496, .inl (jA y3))), (a6, .inl (cA, 62, .inl (jA y6))), (a7, .inl (cA, 248, .inl (jA y7))), (a8, .inl (cZ, 8, .inl (jA y8))), (a9, .inl (cA, 64, .inl (jA y9))), (a10, .inl (cA, 8, .inl (jA y10)))] s.heap := hP
  have hl := lv_entry ([.ref ma]) (n := 2) (Nat.le_of_ble_eq_true rfl)
  rw [lg_entry_eq]
  generalize (lg_sl ([.ref ma]) ++ List.replicate (2 - (lg_sl ([.ref ma])).length) Slot.unset).toArray = ls at hl ⊢
  have hl : lv_has ls 2 [(0, .ref ma)] := hl
  refine lv_aload_n hx hb dXM_clear_0 rfl (lv_at hl 0 rfl) ?_
  refine ji_iconst hx hb dXM_clear_1 ?_
  refine va_put (D := (dC, dI)) (ci := 5) (v := .int (jI 0)) (ty := (.int)) (C := RXM) (T := TXM) (N := 19) hx hb hts (fun w h => jmem (inXM w h)) tyXM tyXM_ok nXM hown hK hP hD hS 0 rfl rfl 0 (by decide) (hts _ (jmem tw_628)) (fun _ h9 => h9) rfl (by decide +kernel) rfl rfl (Nat.le_of_ble_eq_true rfl) dXM_clear_2 (fun H locs hP hD hS => ?_)
  have hP : va_P (dC, dI) vwCl [(ma, .inr (5, [.int (jI 0), .int (jI mn), .ref a0, .int (jI mp), .int (jI mw), .ref a1, .ref a2, .ref a3, .ref a4, .ref a5, .ref a6, .ref a7, .ref a8, .ref a9, .ref a10, .long (jL mu), .long (jL md), .int (jI mo), .ref a11])), (a1, .inl (cZ, 62, .inl (jA y1))), (a2, .inl (cA, 62, .inl (jA y2))), (a3, .inl (cZ, 496, .inl (jA y3))), (a6, .inl (cA, 62, .inl (jA y6))), (a7, .inl (cA, 248, .inl (jA y7))), (a8, .inl (cZ, 8, .inl (jA y8))), (a9, .inl (cA, 64, .inl (jA y9))), (a10, .inl (cA, 8, .inl (jA y10)))] H := hP
  have hD : va_D A [(ma, .inr (5, [.int (jI 0), .int (jI mn), .ref a0, .int (jI mp), .int (jI mw), .ref a1, .ref a2, .ref a3, .ref a4, .ref a5, .ref a6, .ref a7, .ref a8, .ref a9, .ref a10, .long (jL mu), .long (jL md), .int (jI mo), .ref a11])), (a1, .inl (cZ, 62, .inl (jA y1))), (a2, .inl (cA, 62, .inl (jA y2))), (a3, .inl (cZ, 496, .inl (jA y3))), (a6, .inl (cA, 62, .inl (jA y6))), (a7, .inl (cA, 248, .inl (jA y7))), (a8, .inl (cZ, 8, .inl (jA y8))), (a9, .inl (cA, 64, .inl (jA y9))), (a10, .inl (cA, 8, .inl (jA y10)))] := hD
  refine lv_aload_n hx hb dXM_clear_5 rfl (lv_at hl 0 rfl) ?_
  refine ji_iconst hx hb dXM_clear_6 ?_
  refine va_put (D := (dC, dI)) (ci := 5) (v := .int (jI 0)) (ty := (.int)) (C := RXM) (T := TXM) (N := 19) hx hb hts (fun w h => jmem (inXM w h)) tyXM tyXM_ok nXM hown hK hP hD hS 0 rfl rfl 1 (by decide) (hts _ (jmem tw_629)) (fun _ h9 => h9) rfl (by decide +kernel) rfl rfl (Nat.le_of_ble_eq_true rfl) dXM_clear_7 (fun H locs hP hD hS => ?_)
  have hP : va_P (dC, dI) vwCl [(ma, .inr (5, [.int (jI 0), .int (jI 0), .ref a0, .int (jI mp), .int (jI mw), .ref a1, .ref a2, .ref a3, .ref a4, .ref a5, .ref a6, .ref a7, .ref a8, .ref a9, .ref a10, .long (jL mu), .long (jL md), .int (jI mo), .ref a11])), (a1, .inl (cZ, 62, .inl (jA y1))), (a2, .inl (cA, 62, .inl (jA y2))), (a3, .inl (cZ, 496, .inl (jA y3))), (a6, .inl (cA, 62, .inl (jA y6))), (a7, .inl (cA, 248, .inl (jA y7))), (a8, .inl (cZ, 8, .inl (jA y8))), (a9, .inl (cA, 64, .inl (jA y9))), (a10, .inl (cA, 8, .inl (jA y10)))] H := hP
  have hD : va_D A [(ma, .inr (5, [.int (jI 0), .int (jI 0), .ref a0, .int (jI mp), .int (jI mw), .ref a1, .ref a2, .ref a3, .ref a4, .ref a5, .ref a6, .ref a7, .ref a8, .ref a9, .ref a10, .long (jL mu), .long (jL md), .int (jI mo), .ref a11])), (a1, .inl (cZ, 62, .inl (jA y1))), (a2, .inl (cA, 62, .inl (jA y2))), (a3, .inl (cZ, 496, .inl (jA y3))), (a6, .inl (cA, 62, .inl (jA y6))), (a7, .inl (cA, 248, .inl (jA y7))), (a8, .inl (cZ, 8, .inl (jA y8))), (a9, .inl (cA, 64, .inl (jA y9))), (a10, .inl (cA, 8, .inl (jA y10)))] := hD
  refine lv_aload_n hx hb dXM_clear_10 rfl (lv_at hl 0 rfl) ?_
  refine ji_iconst hx hb dXM_clear_11 ?_
  refine jwVv (rest := []) (wr := [(a10, .inl (cA, 8, .inl (jA y10)))]) ⟨hx, hb, hml, hown, hts⟩ (c_XM_forgetC l dC dI cA cZ _ ma a0 a1 a2 a3 a4 a5 a6 a7 a8 a9 a10 a11 0 0 mp mw mu md mo y1 y2 y3 y6 y7 y8 y9 0 (by first | assumption | omega | exact jset_b (by assumption) (by omega))) (cwV 1 hts (jG_V tw_706 tw_708 ts_15 tw_6 tw_709) rfl rfl rfl (by decide +kernel) (by rw [hR]; exact ⟨Nat.le_of_ble_eq_true rfl, Nat.le_of_ble_eq_true rfl⟩)) hK hP hD hS hA hN [0, 1, 2, 3, 4, 5, 6, 7] [8] rfl rfl (by decide) (by decide) (by decide) 0 5 rfl rfl rfl rfl hl.1 rfl (Nat.le_of_ble_eq_true rfl) dXM_clear_12 (by rw [hR]; exact ⟨Nat.le_of_ble_eq_true rfl, Nat.le_of_ble_eq_true rfl⟩) (fun u H locs hwb hP hD hS => ?_)
  obtain ⟨y1n', y2n', y3n', y6n', y7n', y8n', y9n'⟩ := u
  try dsimp only at hwb
  obtain ⟨f, f1, f2, f3, f4, f5, f6⟩ := hwb
  have f : y1n' = kfill y1 (31 * (0 : Int)) (31 * (0 : Int) + 31) 0 := f
  have f1 : y2n' = kfill y2 (31 * (0 : Int)) (31 * (0 : Int) + 31) 0 := f1
  have f2 : y3n' = kfill y3 (248 * (0 : Int)) (248 * (0 : Int) + 248) 0 := f2
  have f3 : y6n' = kfill y6 (31 * (0 : Int)) (31 * (0 : Int) + 31) 0 := f3
  have f4 : y7n' = kfill y7 (124 * (0 : Int)) (124 * (0 : Int) + 124) (-1) := f4
  have f5 : y8n' = kfill y8 (4 * (0 : Int)) (4 * (0 : Int) + 4) 0 := f5
  have f6 : y9n' = kfill y9 (32 * (0 : Int)) (32 * (0 : Int) + 32) 0 := f6
  have hP : va_P (dC, dI) vwCl [(a10, .inl (cA, 8, .inl (jA y10))), (ma, .inr (5, [.int (jI 0), .int (jI 0), .ref a0, .int (jI mp), .int (jI mw), .ref a1, .ref a2, .ref a3, .ref a4, .ref a5, .ref a6, .ref a7, .ref a8, .ref a9, .ref a10, .long (jL mu), .long (jL md), .int (jI mo), .ref a11])), (a1, .inl (cZ, 62, .inl (jA y1n'))), (a2, .inl (cA, 62, .inl (jA y2n'))), (a3, .inl (cZ, 496, .inl (jA y3n'))), (a6, .inl (cA, 62, .inl (jA y6n'))), (a7, .inl (cA, 248, .inl (jA y7n'))), (a8, .inl (cZ, 8, .inl (jA y8n'))), (a9, .inl (cA, 64, .inl (jA y9n')))] H := hP
  have hD : va_D A [(a10, .inl (cA, 8, .inl (jA y10))), (ma, .inr (5, [.int (jI 0), .int (jI 0), .ref a0, .int (jI mp), .int (jI mw), .ref a1, .ref a2, .ref a3, .ref a4, .ref a5, .ref a6, .ref a7, .ref a8, .ref a9, .ref a10, .long (jL mu), .long (jL md), .int (jI mo), .ref a11])), (a1, .inl (cZ, 62, .inl (jA y1n'))), (a2, .inl (cA, 62, .inl (jA y2n'))), (a3, .inl (cZ, 496, .inl (jA y3n'))), (a6, .inl (cA, 62, .inl (jA y6n'))), (a7, .inl (cA, 248, .inl (jA y7n'))), (a8, .inl (cZ, 8, .inl (jA y8n'))), (a9, .inl (cA, 64, .inl (jA y9n')))] := hD
  refine ji_iconst hx hb dXM_clear_15 ?_
  refine lv_istore_n (lv' := [(1, .int (jI 0)), (0, .ref ma)]) hx hb dXM_clear_16 rfl hl (by decide) rfl (fun ls hl => ?_)
  have loop17 : ∀ (n9 : Nat) (k : Int) (w10 : Int → Int) , 8 - k < (n9 : Int) → (0 ≤ k ∧ k ≤ 8) → (w10 = kfill y10 0 k 0) → ∀ (H : Heap) (locs : List Loc), va_P (dC, dI) vwCl [(a10, .inl (cA, 8, .inl (jA w10))), (ma, .inr (5, [.int (jI 0), .int (jI 0), .ref a0, .int (jI mp), .int (jI mw), .ref a1, .ref a2, .ref a3, .ref a4, .ref a5, .ref a6, .ref a7, .ref a8, .ref a9, .ref a10, .long (jL mu), .long (jL md), .int (jI mo), .ref a11])), (a1, .inl (cZ, 62, .inl (jA y1n'))), (a2, .inl (cA, 62, .inl (jA y2n'))), (a3, .inl (cZ, 496, .inl (jA y3n'))), (a6, .inl (cA, 62, .inl (jA y6n'))), (a7, .inl (cA, 248, .inl (jA y7n'))), (a8, .inl (cZ, 8, .inl (jA y8n'))), (a9, .inl (cA, 64, .inl (jA y9n')))] H → va_D A [(a10, .inl (cA, 8, .inl (jA w10))), (ma, .inr (5, [.int (jI 0), .int (jI 0), .ref a0, .int (jI mp), .int (jI mw), .ref a1, .ref a2, .ref a3, .ref a4, .ref a5, .ref a6, .ref a7, .ref a8, .ref a9, .ref a10, .long (jL mu), .long (jL md), .int (jI mo), .ref a11])), (a1, .inl (cZ, 62, .inl (jA y1n'))), (a2, .inl (cA, 62, .inl (jA y2n'))), (a3, .inl (cZ, 496, .inl (jA y3n'))), (a6, .inl (cA, 62, .inl (jA y6n'))), (a7, .inl (cA, 248, .inl (jA y7n'))), (a8, .inl (cZ, 8, .inl (jA y8n'))), (a9, .inl (cA, 64, .inl (jA y9n')))] → va_S A s.heap H locs → ∀ ls : Array Slot, lv_has ls 2 [(1, .int (jI k)), (0, .ref ma)] → W p l e R s m ([.ref ma] : List Value).toArray below meth c H locs 0 0 Q (F0 m 17 ls []) := by
    intro n9
    induction n9 with
    | zero =>
      intro k w10 hm hk e10
      exact absurd hm (by omega)
    | succ n9 ih17 =>
      intro k w10 hm hk e10 H locs hP hD hS ls hl
      refine lv_iload_n hx hb dXM_clear_17 rfl (lv_at hl 0 rfl) ?_
      refine ji_bipush hx hb dXM_clear_18 (by decide) ?_
      refine ji_icmp_ge (tgt := 36) hx hb dXM_clear_20 (by decide) (by first | omega | decide) (by first | omega | decide) (fun c20_ => ?_) (fun c20_ => ?_)
      · have hP9 := hP.sub (ws' := [(ma, .inr (5, [.int (jI 0), .int (jI 0), .ref a0, .int (jI mp), .int (jI mw), .ref a1, .ref a2, .ref a3, .ref a4, .ref a5, .ref a6, .ref a7, .ref a8, .ref a9, .ref a10, .long (jL mu), .long (jL md), .int (jI mo), .ref a11])), (a1, .inl (cZ, 62, .inl (jA y1n'))), (a2, .inl (cA, 62, .inl (jA y2n'))), (a3, .inl (cZ, 496, .inl (jA y3n'))), (a6, .inl (cA, 62, .inl (jA y6n'))), (a7, .inl (cA, 248, .inl (jA y7n'))), (a8, .inl (cZ, 8, .inl (jA y8n'))), (a9, .inl (cA, 64, .inl (jA y9n'))), (a10, .inl (cA, 8, .inl (jA w10)))]) [1, 2, 3, 4, 5, 6, 7, 8, 0] rfl
        have hD9 := hD.sub (ws' := [(ma, .inr (5, [.int (jI 0), .int (jI 0), .ref a0, .int (jI mp), .int (jI mw), .ref a1, .ref a2, .ref a3, .ref a4, .ref a5, .ref a6, .ref a7, .ref a8, .ref a9, .ref a10, .long (jL mu), .long (jL md), .int (jI mo), .ref a11])), (a1, .inl (cZ, 62, .inl (jA y1n'))), (a2, .inl (cA, 62, .inl (jA y2n'))), (a3, .inl (cZ, 496, .inl (jA y3n'))), (a6, .inl (cA, 62, .inl (jA y6n'))), (a7, .inl (cA, 248, .inl (jA y7n'))), (a8, .inl (cZ, 8, .inl (jA y8n'))), (a9, .inl (cA, 64, .inl (jA y9n'))), (a10, .inl (cA, 8, .inl (jA w10)))]) [1, 2, 3, 4, 5, 6, 7, 8, 0] (by decide) rfl
        subst hAe
        subst hQ
        exact W.vret hx hb hr (fun t ht hW => ⟨⟨(0, 0, y1n', y2n', y3n', y6n', y7n', y8n', y9n', w10), rfl, ⟨(show (0 : Int) = 0 from by first | assumption | rfl | omega | (subst_vars; exact kfill_b _ _ _ _ _ _ (by assumption) (by decide))), (show ∀ i, 0 ≤ y1n' i ∧ y1n' i ≤ 1 from by first | assumption | rfl | omega | (subst_vars; exact kfill_b _ _ _ _ _ _ (by assumption) (by decide))), (show ∀ i, 0 ≤ y2n' i ∧ y2n' i ≤ 30 from by first | assumption | rfl | omega | (subst_vars; exact kfill_b _ _ _ _ _ _ (by assumption) (by decide))), (show ∀ i, 0 ≤ y3n' i ∧ y3n' i ≤ 1 from by first | assumption | rfl | omega | (subst_vars; exact kfill_b _ _ _ _ _ _ (by assumption) (by decide))), (show ∀ i, -2147483648 ≤ y6n' i ∧ y6n' i ≤ 2147483647 from by first | assumption | rfl | omega | (subst_vars; exact kfill_b _ _ _ _ _ _ (by assumption) (by decide))), (show ∀ i, -1 ≤ y7n' i ∧ y7n' i ≤ 999999 from by first | assumption | rfl | omega | (subst_vars; exact kfill_b _ _ _ _ _ _ (by assumption) (by decide))), (show ∀ i, 0 ≤ y8n' i ∧ y8n' i ≤ 1 from by first | assumption | rfl | omega | (subst_vars; exact kfill_b _ _ _ _ _ _ (by assumption) (by decide))), (show ∀ i, 0 ≤ y9n' i ∧ y9n' i ≤ 20 from by first | assumption | rfl | omega | (subst_vars; exact kfill_b _ _ _ _ _ _ (by assumption) (by decide))), (show ∀ i, 0 ≤ w10 i ∧ w10 i ≤ 100000 from by first | assumption | rfl | omega | (subst_vars; exact kfill_b _ _ _ _ _ _ (by assumption) (by decide))), (show y1n' = kfill y1 (31 * (0 : Int)) (31 * (0 : Int) + 31) 0 from by first | assumption | rfl | omega | (subst_vars; exact kfill_b _ _ _ _ _ _ (by assumption) (by decide))), (show y2n' = kfill y2 (31 * (0 : Int)) (31 * (0 : Int) + 31) 0 from by first | assumption | rfl | omega | (subst_vars; exact kfill_b _ _ _ _ _ _ (by assumption) (by decide))), (show y3n' = kfill y3 (248 * (0 : Int)) (248 * (0 : Int) + 248) 0 from by first | assumption | rfl | omega | (subst_vars; exact kfill_b _ _ _ _ _ _ (by assumption) (by decide))), (show y6n' = kfill y6 (31 * (0 : Int)) (31 * (0 : Int) + 31) 0 from by first | assumption | rfl | omega | (subst_vars; exact kfill_b _ _ _ _ _ _ (by assumption) (by decide))), (show y7n' = kfill y7 (124 * (0 : Int)) (124 * (0 : Int) + 124) (-1) from by first | assumption | rfl | omega | (subst_vars; exact kfill_b _ _ _ _ _ _ (by assumption) (by decide))), (show y8n' = kfill y8 (4 * (0 : Int)) (4 * (0 : Int) + 4) 0 from by first | assumption | rfl | omega | (subst_vars; exact kfill_b _ _ _ _ _ _ (by assumption) (by decide))), (show y9n' = kfill y9 (32 * (0 : Int)) (32 * (0 : Int) + 32) 0 from by first | assumption | rfl | omega | (subst_vars; exact kfill_b _ _ _ _ _ _ (by assumption) (by decide))), (show w10 = kfill y10 0 8 0 from by rw [e10, show k = 8 by omega])⟩, ⟨by rw [ht]; exact hP9, va_K.moved hW.alike hK, hD9⟩⟩, hS.F ht⟩) hS.2.2 dXM_clear_36
      · refine lv_aload_n hx hb dXM_clear_23 rfl (lv_at hl 1 rfl) ?_
        refine va_get (D := (dC, dI)) (ci := 5) (v := .ref a10) (C := RXM) (T := TXM) (N := 19) hx hb hts (fun w h => jmem (inXM w h)) hown hK hP 1 rfl rfl 14 (by decide) (hts _ (jmem tw_642)) (fun _ h9 => h9) rfl dXM_clear_24 ?_
        refine lv_iload_n hx hb dXM_clear_27 rfl (lv_at hl 0 rfl) ?_
        refine ji_iconst hx hb dXM_clear_28 ?_
        refine ji_iast hx hb hK hP hD hS 0 0 rfl rfl ⟨by omega, by omega⟩ (by decide) dXM_clear_29 (fun H locs hP hD hS => ?_)
        have hP : va_P (dC, dI) vwCl [(a10, .inl (cA, 8, .inl (jA (jset w10 k 0)))), (ma, .inr (5, [.int (jI 0), .int (jI 0), .ref a0, .int (jI mp), .int (jI mw), .ref a1, .ref a2, .ref a3, .ref a4, .ref a5, .ref a6, .ref a7, .ref a8, .ref a9, .ref a10, .long (jL mu), .long (jL md), .int (jI mo), .ref a11])), (a1, .inl (cZ, 62, .inl (jA y1n'))), (a2, .inl (cA, 62, .inl (jA y2n'))), (a3, .inl (cZ, 496, .inl (jA y3n'))), (a6, .inl (cA, 62, .inl (jA y6n'))), (a7, .inl (cA, 248, .inl (jA y7n'))), (a8, .inl (cZ, 8, .inl (jA y8n'))), (a9, .inl (cA, 64, .inl (jA y9n')))] H := hP
        have hD : va_D A [(a10, .inl (cA, 8, .inl (jA (jset w10 k 0)))), (ma, .inr (5, [.int (jI 0), .int (jI 0), .ref a0, .int (jI mp), .int (jI mw), .ref a1, .ref a2, .ref a3, .ref a4, .ref a5, .ref a6, .ref a7, .ref a8, .ref a9, .ref a10, .long (jL mu), .long (jL md), .int (jI mo), .ref a11])), (a1, .inl (cZ, 62, .inl (jA y1n'))), (a2, .inl (cA, 62, .inl (jA y2n'))), (a3, .inl (cZ, 496, .inl (jA y3n'))), (a6, .inl (cA, 62, .inl (jA y6n'))), (a7, .inl (cA, 248, .inl (jA y7n'))), (a8, .inl (cZ, 8, .inl (jA y8n'))), (a9, .inl (cA, 64, .inl (jA y9n')))] := hD
        refine ji_iinc (k := 0) (lv' := [(1, .int (jI (k + 1))), (0, .ref ma)]) hx hb dXM_clear_30 hl rfl (by decide) rfl (fun ls hl => ?_)
        refine lv_goto (tgt := 17) hx hb dXM_clear_33 (by decide) ?_
        exact ih17 (k + 1) (jset w10 k 0) (by omega) (by first | assumption | omega | exact jset_b (by assumption) (by omega)) (by rw [e10]; exact kfill_step _ _ _ _ (by omega)) _ _ hP hD hS ls (lv_sub hl [0, 1] rfl)
  exact loop17 (Int.toNat (8 - 0) + 1) 0 y10 (by omega) (by first | assumption | omega | exact jset_b (by assumption) (by omega)) ((kfill_zero _ _ _).symm) _ _ hP hD hS ls (lv_sub hl [0, 1] rfl)

end
section
noncomputable def g_XM_lowOfP_L2 (mth : Int) (mn : Int) (mp : Int) (mw : Int) (mu : Int) (md : Int) (mo : Int) (y1 : Int → Int) (y2 : Int → Int) (y3 : Int → Int) (y4 : Int → Int) (z1 : Int) (z2 : Int) : Nat → Int → Int
  | 0, _ => 0
  | n9 + 1, k =>
    if 0 < k then
      if (y3 ((8 * k) + z2)) = 0 then
        g_XM_lowOfP_L2 mth mn mp mw mu md mo y1 y2 y3 y4 z1 z2 n9 (f_XM_from mth mn mp mw mu md mo y1 y2 k)
      else
        y4 ((8 * k) + z2)
    else
      0
noncomputable def f_XM_lowOfP_L2 : Int → Int → Int → Int → Int → Int → Int → (Int → Int) → (Int → Int) → (Int → Int) → (Int → Int) → Int → Int → Nat → Int → Int := jopq g_XM_lowOfP_L2
theorem f_XM_lowOfP_L2_q : f_XM_lowOfP_L2 = g_XM_lowOfP_L2 := jopq_eq _
theorem f_XM_lowOfP_L2_s (mth : Int) (mn : Int) (mp : Int) (mw : Int) (mu : Int) (md : Int) (mo : Int) (y1 : Int → Int) (y2 : Int → Int) (y3 : Int → Int) (y4 : Int → Int) (z1 : Int) (z2 : Int) (n9 : Nat) (k : Int) : f_XM_lowOfP_L2 mth mn mp mw mu md mo y1 y2 y3 y4 z1 z2 (n9 + 1) k = (
    if 0 < k then
      if (y3 ((8 * k) + z2)) = 0 then
        f_XM_lowOfP_L2 mth mn mp mw mu md mo y1 y2 y3 y4 z1 z2 n9 (f_XM_from mth mn mp mw mu md mo y1 y2 k)
      else
        y4 ((8 * k) + z2)
    else
      0
  : Int) := by rw [f_XM_lowOfP_L2_q]; rfl
theorem f_XM_lowOfP_L2_z (mth : Int) (mn : Int) (mp : Int) (mw : Int) (mu : Int) (md : Int) (mo : Int) (y1 : Int → Int) (y2 : Int → Int) (y3 : Int → Int) (y4 : Int → Int) (z1 : Int) (z2 : Int) (k : Int) : f_XM_lowOfP_L2 mth mn mp mw mu md mo y1 y2 y3 y4 z1 z2 0 k = 0 := by rw [f_XM_lowOfP_L2_q]; rfl
noncomputable def g_XM_lowOfP (mth : Int) (mn : Int) (mp : Int) (mw : Int) (mu : Int) (md : Int) (mo : Int) (y1 : Int → Int) (y2 : Int → Int) (y3 : Int → Int) (y4 : Int → Int) (z1 : Int) (z2 : Int) : Int :=
  f_XM_lowOfP_L2 mth mn mp mw mu md mo y1 y2 y3 y4 z1 z2 (Int.toNat (jdp (fun x => f_XM_from mth mn mp mw mu md mo y1 y2 x) 41 z1) + 1) z1
noncomputable def f_XM_lowOfP : Int → Int → Int → Int → Int → Int → Int → (Int → Int) → (Int → Int) → (Int → Int) → (Int → Int) → Int → Int → Int := jopq g_XM_lowOfP
theorem f_XM_lowOfP_q : f_XM_lowOfP = g_XM_lowOfP := jopq_eq _
theorem f_XM_lowOfP_s (mth : Int) (mn : Int) (mp : Int) (mw : Int) (mu : Int) (md : Int) (mo : Int) (y1 : Int → Int) (y2 : Int → Int) (y3 : Int → Int) (y4 : Int → Int) (z1 : Int) (z2 : Int) : f_XM_lowOfP mth mn mp mw mu md mo y1 y2 y3 y4 z1 z2 = (
    f_XM_lowOfP_L2 mth mn mp mw mu md mo y1 y2 y3 y4 z1 z2 (Int.toNat (jdp (fun x => f_XM_from mth mn mp mw mu md mo y1 y2 x) 41 z1) + 1) z1
  : Int) := by rw [f_XM_lowOfP_q]; rfl
theorem f_XM_lowOfP_Lb (mth mn mp mw mu md mo : Int) (y1 y2 y3 y4 : Int → Int) (hq : ∀ i, 0 ≤ y4 i ∧ y4 i ≤ 100000) (z1 z2 : Int) : ∀ (n : Nat) (k : Int), 0 ≤ f_XM_lowOfP_L2 mth mn mp mw mu md mo y1 y2 y3 y4 z1 z2 n k ∧ f_XM_lowOfP_L2 mth mn mp mw mu md mo y1 y2 y3 y4 z1 z2 n k ≤ 100000 := by
  intro n
  induction n with
  | zero => intro k; rw [f_XM_lowOfP_L2_z]; decide
  | succ n ih =>
    intro k
    rw [f_XM_lowOfP_L2_s]
    (repeat' split) <;> first | decide | exact hq _ | exact ih _
theorem f_XM_lowOfP_b (mth : Int) (mn : Int) (mp : Int) (mw : Int) (mu : Int) (md : Int) (mo : Int) (y1 : Int → Int) (y2 : Int → Int) (y3 : Int → Int) (y4 : Int → Int) (z1 : Int) (z2 : Int) (hy1 : ∀ i, 0 ≤ y1 i ∧ y1 i ≤ 1) (hy2 : ∀ i, 0 ≤ y2 i ∧ y2 i ≤ 30) (hy3 : ∀ i, 0 ≤ y3 i ∧ y3 i ≤ 1) (hy4 : ∀ i, 0 ≤ y4 i ∧ y4 i ≤ 100000) (hz1 : 1 ≤ z1 ∧ z1 ≤ 30) (hz2 : 0 ≤ z2 ∧ z2 ≤ 7) : 0 ≤ (f_XM_lowOfP mth mn mp mw mu md mo y1 y2 y3 y4 z1 z2) ∧ (f_XM_lowOfP mth mn mp mw mu md mo y1 y2 y3 y4 z1 z2) ≤ 100000 := by rw [f_XM_lowOfP_s]; exact f_XM_lowOfP_Lb mth mn mp mw mu md mo y1 y2 y3 y4 hy4 z1 z2 _ _
set_option maxHeartbeats 4000000 in
set_option maxRecDepth 100000 in
theorem c_XM_lowOfP (l : Launch) (dC : Nat → ClassId) (dI : Nat → Nat → Nat) (cA cZ : ClassId) (ma : Nat) (a0 : Nat) (a1 : Nat) (a2 : Nat) (a3 : Nat) (a4 : Nat) (a5 : Nat) (a6 : Nat) (a7 : Nat) (a8 : Nat) (a9 : Nat) (a10 : Nat) (a11 : Nat) (mth : Int) (mn : Int) (mp : Int) (mw : Int) (mu : Int) (md : Int) (mo : Int) (y1 : Int → Int) (y2 : Int → Int) (y3 : Int → Int) (y4 : Int → Int) (z1 : Int) (z2 : Int) (hy1 : ∀ i, 0 ≤ y1 i ∧ y1 i ≤ 1) (hy2 : ∀ i, 0 ≤ y2 i ∧ y2 i ≤ 30) (hy3 : ∀ i, 0 ≤ y3 i ∧ y3 i ≤ 1) (hy4 : ∀ i, 0 ≤ y4 i ∧ y4 i ≤ 100000) (hz1 : 1 ≤ z1 ∧ z1 ≤ 30) (hz2 : 0 ≤ z2 ∧ z2 ≤ 7) : Met l yXM_lowOf (Cond.code yXM_lowOf cXM_lowOf 4 (some .int) :: TBL) ({ frames := 4, cells := 0, slots := 0, locals := 87 } : Room) (va_Pc [.ref ma, .int (jI z1), .int (jI z2)] (jB (dC, dI) [(cA, .int), (cZ, .boolean)] [(ma, .inr (5, [.int (jI mth), .int (jI mn), .ref a0, .int (jI mp), .int (jI mw), .ref a1, .ref a2, .ref a3, .ref a4, .ref a5, .ref a6, .ref a7, .ref a8, .ref a9, .ref a10, .long (jL mu), .long (jL md), .int (jI mo), .ref a11])), (a1, .inl (cZ, 62, .inl (jA y1))), (a2, .inl (cA, 62, .inl (jA y2))), (a3, .inl (cZ, 496, .inl (jA y3))), (a4, .inl (cA, 496, .inl (jA y4)))])) (vp_Si (fun r => r = jI (f_XM_lowOfP mth mn mp mw mu md mo y1 y2 y3 y4 z1 z2))) 0 0 (fun _ => False) := by
  refine jMet (cc := cXM_lowOf) (maxL := 4) (ret := some .int) (by decide) rfl ?_
  intro p e s m args below meth c s₁ R Q hR hQ B hml hv
  obtain ⟨rfl, hP, hK, hN⟩ := hv
  have hx := B.exec
  have hb := B.bytes
  have hr := B.returns
  have hts := atoms_spec (ws := Cond.code yXM_lowOf cXM_lowOf 4 (some .int) :: TBL) B.pre
  have hown : s.vm.findClass RXM = some m.cls := findClass_of_methodNamed B.named
  have hlocks := B.notSynchronized
  have hP : va_P (dC, dI) vwCl [(ma, .inr (5, [.int (jI mth), .int (jI mn), .ref a0, .int (jI mp), .int (jI mw), .ref a1, .ref a2, .ref a3, .ref a4, .ref a5, .ref a6, .ref a7, .ref a8, .ref a9, .ref a10, .long (jL mu), .long (jL md), .int (jI mo), .ref a11])), (a1, .inl (cZ, 62, .inl (jA y1))), (a2, .inl (cA, 62, .inl (jA y2))), (a3, .inl (cZ, 496, .inl (jA y3))), (a4, .inl (cA, 496, .inl (jA y4)))] s.heap := hP
  have hl := lv_entry ([.ref ma, .int (jI z1), .int (jI z2)]) (n := 4) (Nat.le_of_ble_eq_true rfl)
  rw [lg_entry_eq]
  generalize (lg_sl ([.ref ma, .int (jI z1), .int (jI z2)]) ++ List.replicate (4 - (lg_sl ([.ref ma, .int (jI z1), .int (jI z2)])).length) Slot.unset).toArray = ls at hl ⊢
  have hl : lv_has ls 4 [(0, .ref ma), (1, .int (jI z1)), (2, .int (jI z2))] := hl
  refine lv_iload_n hx hb dXM_lowOf_0 rfl (lv_at hl 1 rfl) ?_
  refine lv_istore_n (lv' := [(3, .int (jI z1)), (0, .ref ma), (1, .int (jI z1)), (2, .int (jI z2))]) hx hb dXM_lowOf_1 rfl hl (by decide) rfl (fun ls hl => ?_)
  have loop2 : ∀ (n9 : Nat) (k : Int) , jdp (fun x => f_XM_from mth mn mp mw mu md mo y1 y2 x) 41 k < (n9 : Int) → f_XM_lowOfP_L2 mth mn mp mw mu md mo y1 y2 y3 y4 z1 z2 n9 k = f_XM_lowOfP mth mn mp mw mu md mo y1 y2 y3 y4 z1 z2 → (0 ≤ k ∧ k ≤ 30) → ∀ ls : Array Slot, lv_has ls 4 [(3, .int (jI k)), (0, .ref ma), (1, .int (jI z1)), (2, .int (jI z2))] → W p l e R s m ([.ref ma, .int (jI z1), .int (jI z2)] : List Value).toArray below meth c s.heap [] 0 0 Q (F0 m 2 ls []) := by
    intro n9
    induction n9 with
    | zero =>
      intro k hm hF hk
      exact absurd hm (by have h8 := jdp_nn (fun x => f_XM_from mth mn mp mw mu md mo y1 y2 x) 41 k; omega)
    | succ n9 ih2 =>
      intro k hm hF hk ls hl
      refine lv_iload_n hx hb dXM_lowOf_2 rfl (lv_at hl 0 rfl) ?_
      refine ji_if_le (tgt := 41) hx hb dXM_lowOf_3 (by decide) (by omega) (fun c3_ => ?_) (fun c3_ => ?_)
      · refine ji_iconst hx hb dXM_lowOf_41 ?_
        subst hQ
        exact W.iret (v := jI 0) hx hb hr (fun t ht hW => ⟨_, rfl, congrArg jI (Eq.trans (by rw [f_XM_lowOfP_L2_s]; rw [if_neg (Int.not_lt.mpr c3_)]; try rfl) hF), ht⟩) (fun _ h => nomatch h) dXM_lowOf_42
      · refine lv_aload_n hx hb dXM_lowOf_6 rfl (lv_at hl 1 rfl) ?_
        refine va_get (D := (dC, dI)) (ci := 5) (v := .ref a3) (C := RXM) (T := TXM) (N := 19) hx hb hts (fun w h => jmem (inXM w h)) hown hK hP 0 rfl rfl 7 (by decide) (hts _ (jmem tw_635)) (fun _ h9 => h9) rfl dXM_lowOf_7 ?_
        refine ji_bipush hx hb dXM_lowOf_10 (by decide) ?_
        refine lv_iload_n hx hb dXM_lowOf_12 rfl (lv_at hl 0 rfl) ?_
        refine ji_imul hx hb dXM_lowOf_13 ?_
        refine lv_iload_n hx hb dXM_lowOf_14 rfl (lv_at hl 3 rfl) ?_
        refine ji_iadd hx hb dXM_lowOf_15 ?_
        refine ji_zald hx hb hK hP 3 1 rfl rfl ⟨by omega, by omega⟩ (by decide) dXM_lowOf_16 ?_
        have rb := hy3 ((8 * k) + z2)
        refine ji_if_eq (tgt := 32) hx hb dXM_lowOf_17 (by decide) (by omega) (fun c17_ => ?_) (fun c17_ => ?_)
        · refine lv_aload_n hx hb dXM_lowOf_32 rfl (lv_at hl 1 rfl) ?_
          refine lv_iload_n hx hb dXM_lowOf_33 rfl (lv_at hl 0 rfl) ?_
          refine jrVi (rest := []) ⟨hx, hb, hml, hown, hts⟩ (c_XM_from l dC dI cA cZ ma a0 a1 a2 a3 a4 a5 a6 a7 a8 a9 a10 a11 mth mn mp mw mu md mo y1 y2 k (by first | assumption | omega) (by first | assumption | omega) (by first | assumption | omega)) (cwV 1 hts (jG_V tw_779 tw_781 ts_31 tw_6 tw_782) rfl rfl rfl (by decide +kernel) (by rw [hR]; exact ⟨Nat.le_of_ble_eq_true rfl, Nat.le_of_ble_eq_true rfl⟩)) hK hP hN [0, 1, 2] rfl 0 5 rfl rfl rfl rfl hl.1 rfl (Nat.le_of_ble_eq_true rfl) dXM_lowOf_34 (by rw [hR]; exact ⟨Nat.le_of_ble_eq_true rfl, Nat.le_of_ble_eq_true rfl⟩) ?_
          have f := f_XM_from_b mth mn mp mw mu md mo y1 y2 k (by first | assumption | omega) (by first | assumption | omega) (by first | assumption | omega)
          refine lv_istore_n (lv' := [(3, .int (jI (f_XM_from mth mn mp mw mu md mo y1 y2 k))), (0, .ref ma), (1, .int (jI z1)), (2, .int (jI z2))]) hx hb dXM_lowOf_37 rfl hl (by decide) rfl (fun ls hl => ?_)
          refine lv_goto (tgt := 2) hx hb dXM_lowOf_38 (by decide) ?_
          exact ih2 (f_XM_from mth mn mp mw mu md mo y1 y2 k) (by have h8 := from_dec mth mn mp mw mu md mo y1 y2 hy1 hy2 k (by omega); omega) (Eq.trans (by rw [f_XM_lowOfP_L2_s]; rw [if_pos c3_, if_pos c17_]; try rfl) hF) (by first | assumption | omega) ls (lv_sub hl [0, 1, 2, 3] rfl)
        · refine lv_aload_n hx hb dXM_lowOf_20 rfl (lv_at hl 1 rfl) ?_
          refine va_get (D := (dC, dI)) (ci := 5) (v := .ref a4) (C := RXM) (T := TXM) (N := 19) hx hb hts (fun w h => jmem (inXM w h)) hown hK hP 0 rfl rfl 8 (by decide) (hts _ (jmem tw_636)) (fun _ h9 => h9) rfl dXM_lowOf_21 ?_
          refine ji_bipush hx hb dXM_lowOf_24 (by decide) ?_
          refine lv_iload_n hx hb dXM_lowOf_26 rfl (lv_at hl 0 rfl) ?_
          refine ji_imul hx hb dXM_lowOf_27 ?_
          refine lv_iload_n hx hb dXM_lowOf_28 rfl (lv_at hl 3 rfl) ?_
          refine ji_iadd hx hb dXM_lowOf_29 ?_
          refine ji_iald hx hb hK hP 4 0 rfl rfl ⟨by omega, by omega⟩ (by decide) dXM_lowOf_30 ?_
          have rb1 := hy4 ((8 * k) + z2)
          subst hQ
          exact W.iret (v := jI (y4 ((8 * k) + z2))) hx hb hr (fun t ht hW => ⟨_, rfl, congrArg jI (Eq.trans (by rw [f_XM_lowOfP_L2_s]; rw [if_pos c3_, if_neg c17_]; try rfl) hF), ht⟩) (fun _ h => nomatch h) dXM_lowOf_31
  exact loop2 (Int.toNat (jdp (fun x => f_XM_from mth mn mp mw mu md mo y1 y2 x) 41 z1) + 1) z1 (by omega) (Eq.trans (by rw [f_XM_lowOfP_s]; try rfl) rfl) (by first | assumption | omega) ls (lv_sub hl [0, 1, 2, 3] rfl)
noncomputable def g_XM_highOfP_L2 (mth : Int) (mn : Int) (mp : Int) (mw : Int) (mu : Int) (md : Int) (mo : Int) (y1 : Int → Int) (y2 : Int → Int) (y3 : Int → Int) (y5 : Int → Int) (z1 : Int) (z2 : Int) : Nat → Int → Int
  | 0, _ => 0
  | n9 + 1, k =>
    if 0 < k then
      if (y3 ((8 * k) + z2)) = 0 then
        g_XM_highOfP_L2 mth mn mp mw mu md mo y1 y2 y3 y5 z1 z2 n9 (f_XM_from mth mn mp mw mu md mo y1 y2 k)
      else
        y5 ((8 * k) + z2)
    else
      100000
noncomputable def f_XM_highOfP_L2 : Int → Int → Int → Int → Int → Int → Int → (Int → Int) → (Int → Int) → (Int → Int) → (Int → Int) → Int → Int → Nat → Int → Int := jopq g_XM_highOfP_L2
theorem f_XM_highOfP_L2_q : f_XM_highOfP_L2 = g_XM_highOfP_L2 := jopq_eq _
theorem f_XM_highOfP_L2_s (mth : Int) (mn : Int) (mp : Int) (mw : Int) (mu : Int) (md : Int) (mo : Int) (y1 : Int → Int) (y2 : Int → Int) (y3 : Int → Int) (y5 : Int → Int) (z1 : Int) (z2 : Int) (n9 : Nat) (k : Int) : f_XM_highOfP_L2 mth mn mp mw mu md mo y1 y2 y3 y5 z1 z2 (n9 + 1) k = (
    if 0 < k then
      if (y3 ((8 * k) + z2)) = 0 then
        f_XM_highOfP_L2 mth mn mp mw mu md mo y1 y2 y3 y5 z1 z2 n9 (f_XM_from mth mn mp mw mu md mo y1 y2 k)
      else
        y5 ((8 * k) + z2)
    else
      100000
  : Int) := by rw [f_XM_highOfP_L2_q]; rfl
theorem f_XM_highOfP_L2_z (mth : Int) (mn : Int) (mp : Int) (mw : Int) (mu : Int) (md : Int) (mo : Int) (y1 : Int → Int) (y2 : Int → Int) (y3 : Int → Int) (y5 : Int → Int) (z1 : Int) (z2 : Int) (k : Int) : f_XM_highOfP_L2 mth mn mp mw mu md mo y1 y2 y3 y5 z1 z2 0 k = 0 := by rw [f_XM_highOfP_L2_q]; rfl
noncomputable def g_XM_highOfP (mth : Int) (mn : Int) (mp : Int) (mw : Int) (mu : Int) (md : Int) (mo : Int) (y1 : Int → Int) (y2 : Int → Int) (y3 : Int → Int) (y5 : Int → Int) (z1 : Int) (z2 : Int) : Int :=
  f_XM_highOfP_L2 mth mn mp mw mu md mo y1 y2 y3 y5 z1 z2 (Int.toNat (jdp (fun x => f_XM_from mth mn mp mw mu md mo y1 y2 x) 41 z1) + 1) z1
noncomputable def f_XM_highOfP : Int → Int → Int → Int → Int → Int → Int → (Int → Int) → (Int → Int) → (Int → Int) → (Int → Int) → Int → Int → Int := jopq g_XM_highOfP
theorem f_XM_highOfP_q : f_XM_highOfP = g_XM_highOfP := jopq_eq _
theorem f_XM_highOfP_s (mth : Int) (mn : Int) (mp : Int) (mw : Int) (mu : Int) (md : Int) (mo : Int) (y1 : Int → Int) (y2 : Int → Int) (y3 : Int → Int) (y5 : Int → Int) (z1 : Int) (z2 : Int) : f_XM_highOfP mth mn mp mw mu md mo y1 y2 y3 y5 z1 z2 = (
    f_XM_highOfP_L2 mth mn mp mw mu md mo y1 y2 y3 y5 z1 z2 (Int.toNat (jdp (fun x => f_XM_from mth mn mp mw mu md mo y1 y2 x) 41 z1) + 1) z1
  : Int) := by rw [f_XM_highOfP_q]; rfl
theorem f_XM_highOfP_Lb (mth mn mp mw mu md mo : Int) (y1 y2 y3 y5 : Int → Int) (hq : ∀ i, 0 ≤ y5 i ∧ y5 i ≤ 100000) (z1 z2 : Int) : ∀ (n : Nat) (k : Int), 0 ≤ f_XM_highOfP_L2 mth mn mp mw mu md mo y1 y2 y3 y5 z1 z2 n k ∧ f_XM_highOfP_L2 mth mn mp mw mu md mo y1 y2 y3 y5 z1 z2 n k ≤ 100000 := by
  intro n
  induction n with
  | zero => intro k; rw [f_XM_highOfP_L2_z]; decide
  | succ n ih =>
    intro k
    rw [f_XM_highOfP_L2_s]
    (repeat' split) <;> first | decide | exact hq _ | exact ih _
theorem f_XM_highOfP_b (mth : Int) (mn : Int) (mp : Int) (mw : Int) (mu : Int) (md : Int) (mo : Int) (y1 : Int → Int) (y2 : Int → Int) (y3 : Int → Int) (y5 : Int → Int) (z1 : Int) (z2 : Int) (hy1 : ∀ i, 0 ≤ y1 i ∧ y1 i ≤ 1) (hy2 : ∀ i, 0 ≤ y2 i ∧ y2 i ≤ 30) (hy3 : ∀ i, 0 ≤ y3 i ∧ y3 i ≤ 1) (hy5 : ∀ i, 0 ≤ y5 i ∧ y5 i ≤ 100000) (hz1 : 1 ≤ z1 ∧ z1 ≤ 30) (hz2 : 0 ≤ z2 ∧ z2 ≤ 7) : 0 ≤ (f_XM_highOfP mth mn mp mw mu md mo y1 y2 y3 y5 z1 z2) ∧ (f_XM_highOfP mth mn mp mw mu md mo y1 y2 y3 y5 z1 z2) ≤ 100000 := by rw [f_XM_highOfP_s]; exact f_XM_highOfP_Lb mth mn mp mw mu md mo y1 y2 y3 y5 hy5 z1 z2 _ _
set_option maxHeartbeats 4000000 in
set_option maxRecDepth 100000 in
theorem c_XM_highOfP (l : Launch) (dC : Nat → ClassId) (dI : Nat → Nat → Nat) (cA cZ : ClassId) (ma : Nat) (a0 : Nat) (a1 : Nat) (a2 : Nat) (a3 : Nat) (a4 : Nat) (a5 : Nat) (a6 : Nat) (a7 : Nat) (a8 : Nat) (a9 : Nat) (a10 : Nat) (a11 : Nat) (mth : Int) (mn : Int) (mp : Int) (mw : Int) (mu : Int) (md : Int) (mo : Int) (y1 : Int → Int) (y2 : Int → Int) (y3 : Int → Int) (y5 : Int → Int) (z1 : Int) (z2 : Int) (hy1 : ∀ i, 0 ≤ y1 i ∧ y1 i ≤ 1) (hy2 : ∀ i, 0 ≤ y2 i ∧ y2 i ≤ 30) (hy3 : ∀ i, 0 ≤ y3 i ∧ y3 i ≤ 1) (hy5 : ∀ i, 0 ≤ y5 i ∧ y5 i ≤ 100000) (hz1 : 1 ≤ z1 ∧ z1 ≤ 30) (hz2 : 0 ≤ z2 ∧ z2 ≤ 7) : Met l yXM_highOf (Cond.code yXM_highOf cXM_highOf 4 (some .int) :: TBL) ({ frames := 4, cells := 0, slots := 0, locals := 87 } : Room) (va_Pc [.ref ma, .int (jI z1), .int (jI z2)] (jB (dC, dI) [(cA, .int), (cZ, .boolean)] [(ma, .inr (5, [.int (jI mth), .int (jI mn), .ref a0, .int (jI mp), .int (jI mw), .ref a1, .ref a2, .ref a3, .ref a4, .ref a5, .ref a6, .ref a7, .ref a8, .ref a9, .ref a10, .long (jL mu), .long (jL md), .int (jI mo), .ref a11])), (a1, .inl (cZ, 62, .inl (jA y1))), (a2, .inl (cA, 62, .inl (jA y2))), (a3, .inl (cZ, 496, .inl (jA y3))), (a5, .inl (cA, 496, .inl (jA y5)))])) (vp_Si (fun r => r = jI (f_XM_highOfP mth mn mp mw mu md mo y1 y2 y3 y5 z1 z2))) 0 0 (fun _ => False) := by
  refine jMet (cc := cXM_highOf) (maxL := 4) (ret := some .int) (by decide) rfl ?_
  intro p e s m args below meth c s₁ R Q hR hQ B hml hv
  obtain ⟨rfl, hP, hK, hN⟩ := hv
  have hx := B.exec
  have hb := B.bytes
  have hr := B.returns
  have hts := atoms_spec (ws := Cond.code yXM_highOf cXM_highOf 4 (some .int) :: TBL) B.pre
  have hown : s.vm.findClass RXM = some m.cls := findClass_of_methodNamed B.named
  have hlocks := B.notSynchronized
  have hP : va_P (dC, dI) vwCl [(ma, .inr (5, [.int (jI mth), .int (jI mn), .ref a0, .int (jI mp), .int (jI mw), .ref a1, .ref a2, .ref a3, .ref a4, .ref a5, .ref a6, .ref a7, .ref a8, .ref a9, .ref a10, .long (jL mu), .long (jL md), .int (jI mo), .ref a11])), (a1, .inl (cZ, 62, .inl (jA y1))), (a2, .inl (cA, 62, .inl (jA y2))), (a3, .inl (cZ, 496, .inl (jA y3))), (a5, .inl (cA, 496, .inl (jA y5)))] s.heap := hP
  have hl := lv_entry ([.ref ma, .int (jI z1), .int (jI z2)]) (n := 4) (Nat.le_of_ble_eq_true rfl)
  rw [lg_entry_eq]
  generalize (lg_sl ([.ref ma, .int (jI z1), .int (jI z2)]) ++ List.replicate (4 - (lg_sl ([.ref ma, .int (jI z1), .int (jI z2)])).length) Slot.unset).toArray = ls at hl ⊢
  have hl : lv_has ls 4 [(0, .ref ma), (1, .int (jI z1)), (2, .int (jI z2))] := hl
  refine lv_iload_n hx hb dXM_highOf_0 rfl (lv_at hl 1 rfl) ?_
  refine lv_istore_n (lv' := [(3, .int (jI z1)), (0, .ref ma), (1, .int (jI z1)), (2, .int (jI z2))]) hx hb dXM_highOf_1 rfl hl (by decide) rfl (fun ls hl => ?_)
  have loop2 : ∀ (n9 : Nat) (k : Int) , jdp (fun x => f_XM_from mth mn mp mw mu md mo y1 y2 x) 41 k < (n9 : Int) → f_XM_highOfP_L2 mth mn mp mw mu md mo y1 y2 y3 y5 z1 z2 n9 k = f_XM_highOfP mth mn mp mw mu md mo y1 y2 y3 y5 z1 z2 → (0 ≤ k ∧ k ≤ 30) → ∀ ls : Array Slot, lv_has ls 4 [(3, .int (jI k)), (0, .ref ma), (1, .int (jI z1)), (2, .int (jI z2))] → W p l e R s m ([.ref ma, .int (jI z1), .int (jI z2)] : List Value).toArray below meth c s.heap [] 0 0 Q (F0 m 2 ls []) := by
    intro n9
    induction n9 with
    | zero =>
      intro k hm hF hk
      exact absurd hm (by have h8 := jdp_nn (fun x => f_XM_from mth mn mp mw mu md mo y1 y2 x) 41 k; omega)
    | succ n9 ih2 =>
      intro k hm hF hk ls hl
      refine lv_iload_n hx hb dXM_highOf_2 rfl (lv_at hl 0 rfl) ?_
      refine ji_if_le (tgt := 41) hx hb dXM_highOf_3 (by decide) (by omega) (fun c3_ => ?_) (fun c3_ => ?_)
      · refine lv_ldc hx hb hown (hts _ (jmem tw_754)) dXM_highOf_41 ?_
        refine ji_re (y := 100000) (by decide) ?_
        subst hQ
        exact W.iret (v := jI 100000) hx hb hr (fun t ht hW => ⟨_, rfl, congrArg jI (Eq.trans (by rw [f_XM_highOfP_L2_s]; rw [if_neg (Int.not_lt.mpr c3_)]; try rfl) hF), ht⟩) (fun _ h => nomatch h) dXM_highOf_43
      · refine lv_aload_n hx hb dXM_highOf_6 rfl (lv_at hl 1 rfl) ?_
        refine va_get (D := (dC, dI)) (ci := 5) (v := .ref a3) (C := RXM) (T := TXM) (N := 19) hx hb hts (fun w h => jmem (inXM w h)) hown hK hP 0 rfl rfl 7 (by decide) (hts _ (jmem tw_635)) (fun _ h9 => h9) rfl dXM_highOf_7 ?_
        refine ji_bipush hx hb dXM_highOf_10 (by decide) ?_
        refine lv_iload_n hx hb dXM_highOf_12 rfl (lv_at hl 0 rfl) ?_
        refine ji_imul hx hb dXM_highOf_13 ?_
        refine lv_iload_n hx hb dXM_highOf_14 rfl (lv_at hl 3 rfl) ?_
        refine ji_iadd hx hb dXM_highOf_15 ?_
        refine ji_zald hx hb hK hP 3 1 rfl rfl ⟨by omega, by omega⟩ (by decide) dXM_highOf_16 ?_
        have rb := hy3 ((8 * k) + z2)
        refine ji_if_eq (tgt := 32) hx hb dXM_highOf_17 (by decide) (by omega) (fun c17_ => ?_) (fun c17_ => ?_)
        · refine lv_aload_n hx hb dXM_highOf_32 rfl (lv_at hl 1 rfl) ?_
          refine lv_iload_n hx hb dXM_highOf_33 rfl (lv_at hl 0 rfl) ?_
          refine jrVi (rest := []) ⟨hx, hb, hml, hown, hts⟩ (c_XM_from l dC dI cA cZ ma a0 a1 a2 a3 a4 a5 a6 a7 a8 a9 a10 a11 mth mn mp mw mu md mo y1 y2 k (by first | assumption | omega) (by first | assumption | omega) (by first | assumption | omega)) (cwV 1 hts (jG_V tw_779 tw_781 ts_31 tw_6 tw_782) rfl rfl rfl (by decide +kernel) (by rw [hR]; exact ⟨Nat.le_of_ble_eq_true rfl, Nat.le_of_ble_eq_true rfl⟩)) hK hP hN [0, 1, 2] rfl 0 5 rfl rfl rfl rfl hl.1 rfl (Nat.le_of_ble_eq_true rfl) dXM_highOf_34 (by rw [hR]; exact ⟨Nat.le_of_ble_eq_true rfl, Nat.le_of_ble_eq_true rfl⟩) ?_
          have f := f_XM_from_b mth mn mp mw mu md mo y1 y2 k (by first | assumption | omega) (by first | assumption | omega) (by first | assumption | omega)
          refine lv_istore_n (lv' := [(3, .int (jI (f_XM_from mth mn mp mw mu md mo y1 y2 k))), (0, .ref ma), (1, .int (jI z1)), (2, .int (jI z2))]) hx hb dXM_highOf_37 rfl hl (by decide) rfl (fun ls hl => ?_)
          refine lv_goto (tgt := 2) hx hb dXM_highOf_38 (by decide) ?_
          exact ih2 (f_XM_from mth mn mp mw mu md mo y1 y2 k) (by have h8 := from_dec mth mn mp mw mu md mo y1 y2 hy1 hy2 k (by omega); omega) (Eq.trans (by rw [f_XM_highOfP_L2_s]; rw [if_pos c3_, if_pos c17_]; try rfl) hF) (by first | assumption | omega) ls (lv_sub hl [0, 1, 2, 3] rfl)
        · refine lv_aload_n hx hb dXM_highOf_20 rfl (lv_at hl 1 rfl) ?_
          refine va_get (D := (dC, dI)) (ci := 5) (v := .ref a5) (C := RXM) (T := TXM) (N := 19) hx hb hts (fun w h => jmem (inXM w h)) hown hK hP 0 rfl rfl 9 (by decide) (hts _ (jmem tw_637)) (fun _ h9 => h9) rfl dXM_highOf_21 ?_
          refine ji_bipush hx hb dXM_highOf_24 (by decide) ?_
          refine lv_iload_n hx hb dXM_highOf_26 rfl (lv_at hl 0 rfl) ?_
          refine ji_imul hx hb dXM_highOf_27 ?_
          refine lv_iload_n hx hb dXM_highOf_28 rfl (lv_at hl 3 rfl) ?_
          refine ji_iadd hx hb dXM_highOf_29 ?_
          refine ji_iald hx hb hK hP 4 0 rfl rfl ⟨by omega, by omega⟩ (by decide) dXM_highOf_30 ?_
          have rb1 := hy5 ((8 * k) + z2)
          subst hQ
          exact W.iret (v := jI (y5 ((8 * k) + z2))) hx hb hr (fun t ht hW => ⟨_, rfl, congrArg jI (Eq.trans (by rw [f_XM_highOfP_L2_s]; rw [if_pos c3_, if_neg c17_]; try rfl) hF), ht⟩) (fun _ h => nomatch h) dXM_highOf_31
  exact loop2 (Int.toNat (jdp (fun x => f_XM_from mth mn mp mw mu md mo y1 y2 x) 41 z1) + 1) z1 (by omega) (Eq.trans (by rw [f_XM_highOfP_s]; try rfl) rfl) (by first | assumption | omega) ls (lv_sub hl [0, 1, 2, 3] rfl)
noncomputable def g_XM_limitOfP_L2 (mth : Int) (mn : Int) (mp : Int) (mw : Int) (mu : Int) (md : Int) (mo : Int) (y1 : Int → Int) (y2 : Int → Int) (y7 : Int → Int) (z1 : Int) (z2 : Int) : Nat → Int → Int
  | 0, _ => 0
  | n9 + 1, k =>
    if 0 < k then
      if (y7 ((4 * k) + z2)) < 0 then
        g_XM_limitOfP_L2 mth mn mp mw mu md mo y1 y2 y7 z1 z2 n9 (f_XM_from mth mn mp mw mu md mo y1 y2 k)
      else
        y7 ((4 * k) + z2)
    else
      -1
noncomputable def f_XM_limitOfP_L2 : Int → Int → Int → Int → Int → Int → Int → (Int → Int) → (Int → Int) → (Int → Int) → Int → Int → Nat → Int → Int := jopq g_XM_limitOfP_L2
theorem f_XM_limitOfP_L2_q : f_XM_limitOfP_L2 = g_XM_limitOfP_L2 := jopq_eq _
theorem f_XM_limitOfP_L2_s (mth : Int) (mn : Int) (mp : Int) (mw : Int) (mu : Int) (md : Int) (mo : Int) (y1 : Int → Int) (y2 : Int → Int) (y7 : Int → Int) (z1 : Int) (z2 : Int) (n9 : Nat) (k : Int) : f_XM_limitOfP_L2 mth mn mp mw mu md mo y1 y2 y7 z1 z2 (n9 + 1) k = (
    if 0 < k then
      if (y7 ((4 * k) + z2)) < 0 then
        f_XM_limitOfP_L2 mth mn mp mw mu md mo y1 y2 y7 z1 z2 n9 (f_XM_from mth mn mp mw mu md mo y1 y2 k)
      else
        y7 ((4 * k) + z2)
    else
      -1
  : Int) := by rw [f_XM_limitOfP_L2_q]; rfl
theorem f_XM_limitOfP_L2_z (mth : Int) (mn : Int) (mp : Int) (mw : Int) (mu : Int) (md : Int) (mo : Int) (y1 : Int → Int) (y2 : Int → Int) (y7 : Int → Int) (z1 : Int) (z2 : Int) (k : Int) : f_XM_limitOfP_L2 mth mn mp mw mu md mo y1 y2 y7 z1 z2 0 k = 0 := by rw [f_XM_limitOfP_L2_q]; rfl
noncomputable def g_XM_limitOfP (mth : Int) (mn : Int) (mp : Int) (mw : Int) (mu : Int) (md : Int) (mo : Int) (y1 : Int → Int) (y2 : Int → Int) (y7 : Int → Int) (z1 : Int) (z2 : Int) : Int :=
  f_XM_limitOfP_L2 mth mn mp mw mu md mo y1 y2 y7 z1 z2 (Int.toNat (jdp (fun x => f_XM_from mth mn mp mw mu md mo y1 y2 x) 41 z1) + 1) z1
noncomputable def f_XM_limitOfP : Int → Int → Int → Int → Int → Int → Int → (Int → Int) → (Int → Int) → (Int → Int) → Int → Int → Int := jopq g_XM_limitOfP
theorem f_XM_limitOfP_q : f_XM_limitOfP = g_XM_limitOfP := jopq_eq _
theorem f_XM_limitOfP_s (mth : Int) (mn : Int) (mp : Int) (mw : Int) (mu : Int) (md : Int) (mo : Int) (y1 : Int → Int) (y2 : Int → Int) (y7 : Int → Int) (z1 : Int) (z2 : Int) : f_XM_limitOfP mth mn mp mw mu md mo y1 y2 y7 z1 z2 = (
    f_XM_limitOfP_L2 mth mn mp mw mu md mo y1 y2 y7 z1 z2 (Int.toNat (jdp (fun x => f_XM_from mth mn mp mw mu md mo y1 y2 x) 41 z1) + 1) z1
  : Int) := by rw [f_XM_limitOfP_q]; rfl
theorem f_XM_limitOfP_Lb (mth mn mp mw mu md mo : Int) (y1 y2 y7 : Int → Int) (hq : ∀ i, -1 ≤ y7 i ∧ y7 i ≤ 999999) (z1 z2 : Int) : ∀ (n : Nat) (k : Int), -1 ≤ f_XM_limitOfP_L2 mth mn mp mw mu md mo y1 y2 y7 z1 z2 n k ∧ f_XM_limitOfP_L2 mth mn mp mw mu md mo y1 y2 y7 z1 z2 n k ≤ 999999 := by
  intro n
  induction n with
  | zero => intro k; rw [f_XM_limitOfP_L2_z]; decide
  | succ n ih =>
    intro k
    rw [f_XM_limitOfP_L2_s]
    (repeat' split) <;> first | decide | exact hq _ | exact ih _
theorem f_XM_limitOfP_b (mth : Int) (mn : Int) (mp : Int) (mw : Int) (mu : Int) (md : Int) (mo : Int) (y1 : Int → Int) (y2 : Int → Int) (y7 : Int → Int) (z1 : Int) (z2 : Int) (hy1 : ∀ i, 0 ≤ y1 i ∧ y1 i ≤ 1) (hy2 : ∀ i, 0 ≤ y2 i ∧ y2 i ≤ 30) (hy7 : ∀ i, -1 ≤ y7 i ∧ y7 i ≤ 999999) (hz1 : 1 ≤ z1 ∧ z1 ≤ 30) (hz2 : 0 ≤ z2 ∧ z2 ≤ 3) : -1 ≤ (f_XM_limitOfP mth mn mp mw mu md mo y1 y2 y7 z1 z2) ∧ (f_XM_limitOfP mth mn mp mw mu md mo y1 y2 y7 z1 z2) ≤ 999999 := by rw [f_XM_limitOfP_s]; exact f_XM_limitOfP_Lb mth mn mp mw mu md mo y1 y2 y7 hy7 z1 z2 _ _
set_option maxHeartbeats 4000000 in
set_option maxRecDepth 100000 in
theorem c_XM_limitOfP (l : Launch) (dC : Nat → ClassId) (dI : Nat → Nat → Nat) (cA cZ : ClassId) (ma : Nat) (a0 : Nat) (a1 : Nat) (a2 : Nat) (a3 : Nat) (a4 : Nat) (a5 : Nat) (a6 : Nat) (a7 : Nat) (a8 : Nat) (a9 : Nat) (a10 : Nat) (a11 : Nat) (mth : Int) (mn : Int) (mp : Int) (mw : Int) (mu : Int) (md : Int) (mo : Int) (y1 : Int → Int) (y2 : Int → Int) (y7 : Int → Int) (z1 : Int) (z2 : Int) (hy1 : ∀ i, 0 ≤ y1 i ∧ y1 i ≤ 1) (hy2 : ∀ i, 0 ≤ y2 i ∧ y2 i ≤ 30) (hy7 : ∀ i, -1 ≤ y7 i ∧ y7 i ≤ 999999) (hz1 : 1 ≤ z1 ∧ z1 ≤ 30) (hz2 : 0 ≤ z2 ∧ z2 ≤ 3) : Met l yXM_limitOf (Cond.code yXM_limitOf cXM_limitOf 4 (some .int) :: TBL) ({ frames := 4, cells := 0, slots := 0, locals := 87 } : Room) (va_Pc [.ref ma, .int (jI z1), .int (jI z2)] (jB (dC, dI) [(cA, .int), (cZ, .boolean)] [(ma, .inr (5, [.int (jI mth), .int (jI mn), .ref a0, .int (jI mp), .int (jI mw), .ref a1, .ref a2, .ref a3, .ref a4, .ref a5, .ref a6, .ref a7, .ref a8, .ref a9, .ref a10, .long (jL mu), .long (jL md), .int (jI mo), .ref a11])), (a1, .inl (cZ, 62, .inl (jA y1))), (a2, .inl (cA, 62, .inl (jA y2))), (a7, .inl (cA, 248, .inl (jA y7)))])) (vp_Si (fun r => r = jI (f_XM_limitOfP mth mn mp mw mu md mo y1 y2 y7 z1 z2))) 0 0 (fun _ => False) := by
  refine jMet (cc := cXM_limitOf) (maxL := 4) (ret := some .int) (by decide) rfl ?_
  intro p e s m args below meth c s₁ R Q hR hQ B hml hv
  obtain ⟨rfl, hP, hK, hN⟩ := hv
  have hx := B.exec
  have hb := B.bytes
  have hr := B.returns
  have hts := atoms_spec (ws := Cond.code yXM_limitOf cXM_limitOf 4 (some .int) :: TBL) B.pre
  have hown : s.vm.findClass RXM = some m.cls := findClass_of_methodNamed B.named
  have hlocks := B.notSynchronized
  have hP : va_P (dC, dI) vwCl [(ma, .inr (5, [.int (jI mth), .int (jI mn), .ref a0, .int (jI mp), .int (jI mw), .ref a1, .ref a2, .ref a3, .ref a4, .ref a5, .ref a6, .ref a7, .ref a8, .ref a9, .ref a10, .long (jL mu), .long (jL md), .int (jI mo), .ref a11])), (a1, .inl (cZ, 62, .inl (jA y1))), (a2, .inl (cA, 62, .inl (jA y2))), (a7, .inl (cA, 248, .inl (jA y7)))] s.heap := hP
  have hl := lv_entry ([.ref ma, .int (jI z1), .int (jI z2)]) (n := 4) (Nat.le_of_ble_eq_true rfl)
  rw [lg_entry_eq]
  generalize (lg_sl ([.ref ma, .int (jI z1), .int (jI z2)]) ++ List.replicate (4 - (lg_sl ([.ref ma, .int (jI z1), .int (jI z2)])).length) Slot.unset).toArray = ls at hl ⊢
  have hl : lv_has ls 4 [(0, .ref ma), (1, .int (jI z1)), (2, .int (jI z2))] := hl
  refine lv_iload_n hx hb dXM_limitOf_0 rfl (lv_at hl 1 rfl) ?_
  refine lv_istore_n (lv' := [(3, .int (jI z1)), (0, .ref ma), (1, .int (jI z1)), (2, .int (jI z2))]) hx hb dXM_limitOf_1 rfl hl (by decide) rfl (fun ls hl => ?_)
  have loop2 : ∀ (n9 : Nat) (k : Int) , jdp (fun x => f_XM_from mth mn mp mw mu md mo y1 y2 x) 41 k < (n9 : Int) → f_XM_limitOfP_L2 mth mn mp mw mu md mo y1 y2 y7 z1 z2 n9 k = f_XM_limitOfP mth mn mp mw mu md mo y1 y2 y7 z1 z2 → (0 ≤ k ∧ k ≤ 30) → ∀ ls : Array Slot, lv_has ls 4 [(3, .int (jI k)), (0, .ref ma), (1, .int (jI z1)), (2, .int (jI z2))] → W p l e R s m ([.ref ma, .int (jI z1), .int (jI z2)] : List Value).toArray below meth c s.heap [] 0 0 Q (F0 m 2 ls []) := by
    intro n9
    induction n9 with
    | zero =>
      intro k hm hF hk
      exact absurd hm (by have h8 := jdp_nn (fun x => f_XM_from mth mn mp mw mu md mo y1 y2 x) 41 k; omega)
    | succ n9 ih2 =>
      intro k hm hF hk ls hl
      refine lv_iload_n hx hb dXM_limitOf_2 rfl (lv_at hl 0 rfl) ?_
      refine ji_if_le (tgt := 39) hx hb dXM_limitOf_3 (by decide) (by omega) (fun c3_ => ?_) (fun c3_ => ?_)
      · refine ji_iconst hx hb dXM_limitOf_39 ?_
        subst hQ
        exact W.iret (v := jI (-1)) hx hb hr (fun t ht hW => ⟨_, rfl, congrArg jI (Eq.trans (by rw [f_XM_limitOfP_L2_s]; rw [if_neg (Int.not_lt.mpr c3_)]; try rfl) hF), ht⟩) (fun _ h => nomatch h) dXM_limitOf_40
      · refine lv_aload_n hx hb dXM_limitOf_6 rfl (lv_at hl 1 rfl) ?_
        refine va_get (D := (dC, dI)) (ci := 5) (v := .ref a7) (C := RXM) (T := TXM) (N := 19) hx hb hts (fun w h => jmem (inXM w h)) hown hK hP 0 rfl rfl 11 (by decide) (hts _ (jmem tw_639)) (fun _ h9 => h9) rfl dXM_limitOf_7 ?_
        refine ji_iconst hx hb dXM_limitOf_10 ?_
        refine lv_iload_n hx hb dXM_limitOf_11 rfl (lv_at hl 0 rfl) ?_
        refine ji_imul hx hb dXM_limitOf_12 ?_
        refine lv_iload_n hx hb dXM_limitOf_13 rfl (lv_at hl 3 rfl) ?_
        refine ji_iadd hx hb dXM_limitOf_14 ?_
        refine ji_iald hx hb hK hP 3 0 rfl rfl ⟨by omega, by omega⟩ (by decide) dXM_limitOf_15 ?_
        have rb := hy7 ((4 * k) + z2)
        refine ji_if_lt (tgt := 30) hx hb dXM_limitOf_16 (by decide) (by omega) (fun c16_ => ?_) (fun c16_ => ?_)
        · refine lv_aload_n hx hb dXM_limitOf_30 rfl (lv_at hl 1 rfl) ?_
          refine lv_iload_n hx hb dXM_limitOf_31 rfl (lv_at hl 0 rfl) ?_
          refine jrVi (rest := []) ⟨hx, hb, hml, hown, hts⟩ (c_XM_from l dC dI cA cZ ma a0 a1 a2 a3 a4 a5 a6 a7 a8 a9 a10 a11 mth mn mp mw mu md mo y1 y2 k (by first | assumption | omega) (by first | assumption | omega) (by first | assumption | omega)) (cwV 1 hts (jG_V tw_779 tw_781 ts_31 tw_6 tw_782) rfl rfl rfl (by decide +kernel) (by rw [hR]; exact ⟨Nat.le_of_ble_eq_true rfl, Nat.le_of_ble_eq_true rfl⟩)) hK hP hN [0, 1, 2] rfl 0 5 rfl rfl rfl rfl hl.1 rfl (Nat.le_of_ble_eq_true rfl) dXM_limitOf_32 (by rw [hR]; exact ⟨Nat.le_of_ble_eq_true rfl, Nat.le_of_ble_eq_true rfl⟩) ?_
          have f := f_XM_from_b mth mn mp mw mu md mo y1 y2 k (by first | assumption | omega) (by first | assumption | omega) (by first | assumption | omega)
          refine lv_istore_n (lv' := [(3, .int (jI (f_XM_from mth mn mp mw mu md mo y1 y2 k))), (0, .ref ma), (1, .int (jI z1)), (2, .int (jI z2))]) hx hb dXM_limitOf_35 rfl hl (by decide) rfl (fun ls hl => ?_)
          refine lv_goto (tgt := 2) hx hb dXM_limitOf_36 (by decide) ?_
          exact ih2 (f_XM_from mth mn mp mw mu md mo y1 y2 k) (by have h8 := from_dec mth mn mp mw mu md mo y1 y2 hy1 hy2 k (by omega); omega) (Eq.trans (by rw [f_XM_limitOfP_L2_s]; rw [if_pos c3_, if_pos c16_]; try rfl) hF) (by first | assumption | omega) ls (lv_sub hl [0, 1, 2, 3] rfl)
        · refine lv_aload_n hx hb dXM_limitOf_19 rfl (lv_at hl 1 rfl) ?_
          refine va_get (D := (dC, dI)) (ci := 5) (v := .ref a7) (C := RXM) (T := TXM) (N := 19) hx hb hts (fun w h => jmem (inXM w h)) hown hK hP 0 rfl rfl 11 (by decide) (hts _ (jmem tw_639)) (fun _ h9 => h9) rfl dXM_limitOf_20 ?_
          refine ji_iconst hx hb dXM_limitOf_23 ?_
          refine lv_iload_n hx hb dXM_limitOf_24 rfl (lv_at hl 0 rfl) ?_
          refine ji_imul hx hb dXM_limitOf_25 ?_
          refine lv_iload_n hx hb dXM_limitOf_26 rfl (lv_at hl 3 rfl) ?_
          refine ji_iadd hx hb dXM_limitOf_27 ?_
          refine ji_iald hx hb hK hP 3 0 rfl rfl ⟨by omega, by omega⟩ (by decide) dXM_limitOf_28 ?_
          have rb1 := hy7 ((4 * k) + z2)
          subst hQ
          exact W.iret (v := jI (y7 ((4 * k) + z2))) hx hb hr (fun t ht hW => ⟨_, rfl, congrArg jI (Eq.trans (by rw [f_XM_limitOfP_L2_s]; rw [if_pos c3_, if_neg (Int.not_lt.mpr c16_)]; try rfl) hF), ht⟩) (fun _ h => nomatch h) dXM_limitOf_29
  exact loop2 (Int.toNat (jdp (fun x => f_XM_from mth mn mp mw mu md mo y1 y2 x) 41 z1) + 1) z1 (by omega) (Eq.trans (by rw [f_XM_limitOfP_s]; try rfl) rfl) (by first | assumption | omega) ls (lv_sub hl [0, 1, 2, 3] rfl)

end
section
noncomputable def g_XM_spanP_J30 (mth : Int) (mn : Int) (mp : Int) (mw : Int) (mu : Int) (md : Int) (mo : Int) (y1 : Int → Int) (y2 : Int → Int) (y3 : Int → Int) (y4 : Int → Int) (y5 : Int → Int) (z1 : Int) (z2 : Int) (z3 : Int) (jc : Int) : Int × Int :=
  match f_XM_goesP mth mn mp mw mu md mo jc 1 with
  | (r, mth1') =>
    if r = 0 then
      (0, mth1')
    else
      if z3 = 0 then
        (f_XM_lowOfP mth1' mn mp mw mu md mo y1 y2 y3 y4 z1 z2, mth1')
      else
        (f_XM_highOfP mth1' mn mp mw mu md mo y1 y2 y3 y5 z1 z2, mth1')
noncomputable def f_XM_spanP_J30 : Int → Int → Int → Int → Int → Int → Int → (Int → Int) → (Int → Int) → (Int → Int) → (Int → Int) → (Int → Int) → Int → Int → Int → Int → Int × Int := jopq g_XM_spanP_J30
theorem f_XM_spanP_J30_q : f_XM_spanP_J30 = g_XM_spanP_J30 := jopq_eq _
theorem f_XM_spanP_J30_s (mth : Int) (mn : Int) (mp : Int) (mw : Int) (mu : Int) (md : Int) (mo : Int) (y1 : Int → Int) (y2 : Int → Int) (y3 : Int → Int) (y4 : Int → Int) (y5 : Int → Int) (z1 : Int) (z2 : Int) (z3 : Int) (jc : Int) : f_XM_spanP_J30 mth mn mp mw mu md mo y1 y2 y3 y4 y5 z1 z2 z3 jc = (
    match f_XM_goesP mth mn mp mw mu md mo jc 1 with
    | (r, mth1') =>
      if r = 0 then
        (0, mth1')
      else
        if z3 = 0 then
          (f_XM_lowOfP mth1' mn mp mw mu md mo y1 y2 y3 y4 z1 z2, mth1')
        else
          (f_XM_highOfP mth1' mn mp mw mu md mo y1 y2 y3 y5 z1 z2, mth1')
  : Int × Int) := by rw [f_XM_spanP_J30_q]; rfl
noncomputable def g_XM_spanP (mth : Int) (mn : Int) (mp : Int) (mw : Int) (mu : Int) (md : Int) (mo : Int) (y1 : Int → Int) (y2 : Int → Int) (y3 : Int → Int) (y4 : Int → Int) (y5 : Int → Int) (z1 : Int) (z2 : Int) (z3 : Int) : Int × Int :=
  if (f_XM_isTold mth mn mp mw mu md mo y1 z1) = 0 then
    f_XM_spanP_J30 mth mn mp mw mu md mo y1 y2 y3 y4 y5 z1 z2 z3 0
  else
    if (f_XM_isElement z2) = 0 then
      f_XM_spanP_J30 mth mn mp mw mu md mo y1 y2 y3 y4 y5 z1 z2 z3 0
    else
      if (f_XM_in z3 0 1) = 0 then
        f_XM_spanP_J30 mth mn mp mw mu md mo y1 y2 y3 y4 y5 z1 z2 z3 0
      else
        f_XM_spanP_J30 mth mn mp mw mu md mo y1 y2 y3 y4 y5 z1 z2 z3 1
noncomputable def f_XM_spanP : Int → Int → Int → Int → Int → Int → Int → (Int → Int) → (Int → Int) → (Int → Int) → (Int → Int) → (Int → Int) → Int → Int → Int → Int × Int := jopq g_XM_spanP
theorem f_XM_spanP_q : f_XM_spanP = g_XM_spanP := jopq_eq _
theorem f_XM_spanP_s (mth : Int) (mn : Int) (mp : Int) (mw : Int) (mu : Int) (md : Int) (mo : Int) (y1 : Int → Int) (y2 : Int → Int) (y3 : Int → Int) (y4 : Int → Int) (y5 : Int → Int) (z1 : Int) (z2 : Int) (z3 : Int) : f_XM_spanP mth mn mp mw mu md mo y1 y2 y3 y4 y5 z1 z2 z3 = (
    if (f_XM_isTold mth mn mp mw mu md mo y1 z1) = 0 then
      f_XM_spanP_J30 mth mn mp mw mu md mo y1 y2 y3 y4 y5 z1 z2 z3 0
    else
      if (f_XM_isElement z2) = 0 then
        f_XM_spanP_J30 mth mn mp mw mu md mo y1 y2 y3 y4 y5 z1 z2 z3 0
      else
        if (f_XM_in z3 0 1) = 0 then
          f_XM_spanP_J30 mth mn mp mw mu md mo y1 y2 y3 y4 y5 z1 z2 z3 0
        else
          f_XM_spanP_J30 mth mn mp mw mu md mo y1 y2 y3 y4 y5 z1 z2 z3 1
  : Int × Int) := by rw [f_XM_spanP_q]; rfl
set_option maxHeartbeats 4000000 in
set_option maxRecDepth 100000 in
theorem c_XM_spanP (l : Launch) (dC : Nat → ClassId) (dI : Nat → Nat → Nat) (cA cZ : ClassId) (sz : Nat) (ma : Nat) (a0 : Nat) (a1 : Nat) (a2 : Nat) (a3 : Nat) (a4 : Nat) (a5 : Nat) (a6 : Nat) (a7 : Nat) (a8 : Nat) (a9 : Nat) (a10 : Nat) (a11 : Nat) (mth : Int) (mn : Int) (mp : Int) (mw : Int) (mu : Int) (md : Int) (mo : Int) (y1 : Int → Int) (y2 : Int → Int) (y3 : Int → Int) (y4 : Int → Int) (y5 : Int → Int) (z1 : Int) (z2 : Int) (z3 : Int) (hy1 : ∀ i, 0 ≤ y1 i ∧ y1 i ≤ 1) (hy2 : ∀ i, 0 ≤ y2 i ∧ y2 i ≤ 30) (hy3 : ∀ i, 0 ≤ y3 i ∧ y3 i ≤ 1) (hy4 : ∀ i, 0 ≤ y4 i ∧ y4 i ≤ 100000) (hy5 : ∀ i, 0 ≤ y5 i ∧ y5 i ≤ 100000) (hiz1 : i32 z1) (hiz2 : i32 z2) (hiz3 : i32 z3) : Met l yXM_span (Cond.code yXM_span cXM_span 4 (some .int) :: TBL) ({ frames := 5, cells := 0, slots := 0, locals := 110 } : Room) (va_Pc [.ref ma, .int (jI z1), .int (jI z2), .int (jI z3)] (jBw (dC, dI) [(cA, .int), (cZ, .boolean)] [(ma, .inr (5, [.int (jI mth), .int (jI mn), .ref a0, .int (jI mp), .int (jI mw), .ref a1, .ref a2, .ref a3, .ref a4, .ref a5, .ref a6, .ref a7, .ref a8, .ref a9, .ref a10, .long (jL mu), .long (jL md), .int (jI mo), .ref a11])), (a1, .inl (cZ, 62, .inl (jA y1))), (a2, .inl (cA, 62, .inl (jA y2))), (a3, .inl (cZ, 496, .inl (jA y3))), (a4, .inl (cA, 496, .inl (jA y4))), (a5, .inl (cA, 496, .inl (jA y5)))] sz)) (va_Qi (fun (r : Int32) (u : Int × Int) => r = jI u.1 ∧ u = f_XM_spanP mth mn mp mw mu md mo y1 y2 y3 y4 y5 z1 z2 z3 ∧ (0 ≤ u.1 ∧ u.1 ≤ 100000) ∧ (0 ≤ u.2 ∧ u.2 ≤ 2)) (fun u t => jE (dC, dI) [(cA, .int), (cZ, .boolean)] [(ma, .inr (5, [.int (jI mth), .int (jI mn), .ref a0, .int (jI mp), .int (jI mw), .ref a1, .ref a2, .ref a3, .ref a4, .ref a5, .ref a6, .ref a7, .ref a8, .ref a9, .ref a10, .long (jL mu), .long (jL md), .int (jI mo), .ref a11])), (a1, .inl (cZ, 62, .inl (jA y1))), (a2, .inl (cA, 62, .inl (jA y2))), (a3, .inl (cZ, 496, .inl (jA y3))), (a4, .inl (cA, 496, .inl (jA y4))), (a5, .inl (cA, 496, .inl (jA y5)))] sz [(ma, .inr (5, [.int (jI u.2), .int (jI mn), .ref a0, .int (jI mp), .int (jI mw), .ref a1, .ref a2, .ref a3, .ref a4, .ref a5, .ref a6, .ref a7, .ref a8, .ref a9, .ref a10, .long (jL mu), .long (jL md), .int (jI mo), .ref a11])), (a1, .inl (cZ, 62, .inl (jA y1))), (a2, .inl (cA, 62, .inl (jA y2))), (a3, .inl (cZ, 496, .inl (jA y3))), (a4, .inl (cA, 496, .inl (jA y4))), (a5, .inl (cA, 496, .inl (jA y5)))] t) (va_A [(ma, .inr (5, [.int (jI mth), .int (jI mn), .ref a0, .int (jI mp), .int (jI mw), .ref a1, .ref a2, .ref a3, .ref a4, .ref a5, .ref a6, .ref a7, .ref a8, .ref a9, .ref a10, .long (jL mu), .long (jL md), .int (jI mo), .ref a11])), (a1, .inl (cZ, 62, .inl (jA y1))), (a2, .inl (cA, 62, .inl (jA y2))), (a3, .inl (cZ, 496, .inl (jA y3))), (a4, .inl (cA, 496, .inl (jA y4))), (a5, .inl (cA, 496, .inl (jA y5)))] sz)) 0 0 (va_A [(ma, .inr (5, [.int (jI mth), .int (jI mn), .ref a0, .int (jI mp), .int (jI mw), .ref a1, .ref a2, .ref a3, .ref a4, .ref a5, .ref a6, .ref a7, .ref a8, .ref a9, .ref a10, .long (jL mu), .long (jL md), .int (jI mo), .ref a11])), (a1, .inl (cZ, 62, .inl (jA y1))), (a2, .inl (cA, 62, .inl (jA y2))), (a3, .inl (cZ, 496, .inl (jA y3))), (a4, .inl (cA, 496, .inl (jA y4))), (a5, .inl (cA, 496, .inl (jA y5)))] sz) := by
  refine jMet (cc := cXM_span) (maxL := 4) (ret := some .int) (by decide) rfl ?_
  intro p e s m args below meth c s₁ R Q hR hQ B hml hv
  obtain ⟨rfl, hsz, hP, hK, hD0, hN⟩ := hv
  have hx := B.exec
  have hb := B.bytes
  have hr := B.returns
  have hts := atoms_spec (ws := Cond.code yXM_span cXM_span 4 (some .int) :: TBL) B.pre
  have hown : s.vm.findClass RXM = some m.cls := findClass_of_methodNamed B.named
  have hlocks := B.notSynchronized
  subst hsz
  obtain ⟨A, hAe⟩ : ∃ A, A = va_A [(ma, .inr (5, [.int (jI mth), .int (jI mn), .ref a0, .int (jI mp), .int (jI mw), .ref a1, .ref a2, .ref a3, .ref a4, .ref a5, .ref a6, .ref a7, .ref a8, .ref a9, .ref a10, .long (jL mu), .long (jL md), .int (jI mo), .ref a11])), (a1, .inl (cZ, 62, .inl (jA y1))), (a2, .inl (cA, 62, .inl (jA y2))), (a3, .inl (cZ, 496, .inl (jA y3))), (a4, .inl (cA, 496, .inl (jA y4))), (a5, .inl (cA, 496, .inl (jA y5)))] s.heap.size := ⟨_, rfl⟩
  have hD : va_D A [(ma, .inr (5, [.int (jI mth), .int (jI mn), .ref a0, .int (jI mp), .int (jI mw), .ref a1, .ref a2, .ref a3, .ref a4, .ref a5, .ref a6, .ref a7, .ref a8, .ref a9, .ref a10, .long (jL mu), .long (jL md), .int (jI mo), .ref a11])), (a1, .inl (cZ, 62, .inl (jA y1))), (a2, .inl (cA, 62, .inl (jA y2))), (a3, .inl (cZ, 496, .inl (jA y3))), (a4, .inl (cA, 496, .inl (jA y4))), (a5, .inl (cA, 496, .inl (jA y5)))] := by rw [hAe]; exact hD0.self
  have hA : ∀ q : Nat, s.heap.size ≤ q → A q := fun q h => by rw [hAe]; exact Or.inr h
  have hS : va_S A s.heap s.heap [] := va_S.rf
  have hP : va_P (dC, dI) vwCl [(ma, .inr (5, [.int (jI mth), .int (jI mn), .ref a0, .int (jI mp), .int (jI mw), .ref a1, .ref a2, .ref a3, .ref a4, .ref a5, .ref a6, .ref a7, .ref a8, .ref a9, .ref a10, .long (jL mu), .long (jL md), .int (jI mo), .ref a11])), (a1, .inl (cZ, 62, .inl (jA y1))), (a2, .inl (cA, 62, .inl (jA y2))), (a3, .inl (cZ, 496, .inl (jA y3))), (a4, .inl (cA, 496, .inl (jA y4))), (a5, .inl (cA, 496, .inl (jA y5)))] s.heap := hP
  have hl := lv_entry ([.ref ma, .int (jI z1), .int (jI z2), .int (jI z3)]) (n := 4) (Nat.le_of_ble_eq_true rfl)
  rw [lg_entry_eq]
  generalize (lg_sl ([.ref ma, .int (jI z1), .int (jI z2), .int (jI z3)]) ++ List.replicate (4 - (lg_sl ([.ref ma, .int (jI z1), .int (jI z2), .int (jI z3)])).length) Slot.unset).toArray = ls at hl ⊢
  have hl : lv_has ls 4 [(0, .ref ma), (1, .int (jI z1)), (2, .int (jI z2)), (3, .int (jI z3))] := hl
  refine lv_aload_n hx hb dXM_span_0 rfl (lv_at hl 0 rfl) ?_
  have join30 : ∀ (jc : Int) , f_XM_spanP_J30 mth mn mp mw mu md mo y1 y2 y3 y4 y5 z1 z2 z3 jc = f_XM_spanP mth mn mp mw mu md mo y1 y2 y3 y4 y5 z1 z2 z3 → ((jc = 0) ∨ (jc = 1 ∧ 1 ≤ z1 ∧ z1 ≤ 30 ∧ 0 ≤ z2 ∧ z2 ≤ 7 ∧ 0 ≤ z3 ∧ z3 ≤ 1)) → ∀ (H : Heap) (locs : List Loc), va_P (dC, dI) vwCl [(ma, .inr (5, [.int (jI mth), .int (jI mn), .ref a0, .int (jI mp), .int (jI mw), .ref a1, .ref a2, .ref a3, .ref a4, .ref a5, .ref a6, .ref a7, .ref a8, .ref a9, .ref a10, .long (jL mu), .long (jL md), .int (jI mo), .ref a11])), (a1, .inl (cZ, 62, .inl (jA y1))), (a2, .inl (cA, 62, .inl (jA y2))), (a3, .inl (cZ, 496, .inl (jA y3))), (a4, .inl (cA, 496, .inl (jA y4))), (a5, .inl (cA, 496, .inl (jA y5)))] H → va_D A [(ma, .inr (5, [.int (jI mth), .int (jI mn), .ref a0, .int (jI mp), .int (jI mw), .ref a1, .ref a2, .ref a3, .ref a4, .ref a5, .ref a6, .ref a7, .ref a8, .ref a9, .ref a10, .long (jL mu), .long (jL md), .int (jI mo), .ref a11])), (a1, .inl (cZ, 62, .inl (jA y1))), (a2, .inl (cA, 62, .inl (jA y2))), (a3, .inl (cZ, 496, .inl (jA y3))), (a4, .inl (cA, 496, .inl (jA y4))), (a5, .inl (cA, 496, .inl (jA y5)))] → va_S A s.heap H locs → ∀ ls : Array Slot, lv_has ls 4 [(0, .ref ma), (1, .int (jI z1)), (2, .int (jI z2)), (3, .int (jI z3))] → W p l e R s m ([.ref ma, .int (jI z1), .int (jI z2), .int (jI z3)] : List Value).toArray below meth c H locs 0 0 Q (F0 m 30 ls [.int (jI jc), .ref ma]) := by
    intro jc hF hjc H locs hP hD hS ls hl
    refine ji_iconst hx hb dXM_span_30 ?_
    refine jwVi (rest := []) (wr := [(a1, .inl (cZ, 62, .inl (jA y1))), (a2, .inl (cA, 62, .inl (jA y2))), (a3, .inl (cZ, 496, .inl (jA y3))), (a4, .inl (cA, 496, .inl (jA y4))), (a5, .inl (cA, 496, .inl (jA y5)))]) ⟨hx, hb, hml, hown, hts⟩ (c_XM_goesP l dC dI cA cZ _ ma a0 a1 a2 a3 a4 a5 a6 a7 a8 a9 a10 a11 mth mn mp mw mu md mo jc 1 (by first | assumption | omega) (by first | assumption | omega)) (cwV 2 hts (jG_V tw_698 tw_700 ts_14 tw_6 tw_701) rfl rfl rfl (by decide +kernel) (by rw [hR]; exact ⟨Nat.le_of_ble_eq_true rfl, Nat.le_of_ble_eq_true rfl⟩)) hK hP hD hS hA hN [0] [1, 2, 3, 4, 5] rfl rfl (by decide) (by decide) (by decide) 0 5 rfl rfl rfl rfl hl.1 rfl (Nat.le_of_ble_eq_true rfl) dXM_span_31 (by rw [hR]; exact ⟨Nat.le_of_ble_eq_true rfl, Nat.le_of_ble_eq_true rfl⟩) (fun v u H locs hwb hP hD hS => ?_)
    obtain ⟨r, mth1'⟩ := u
    try dsimp only at hwb
    obtain ⟨er, hwb, f⟩ := hwb
    subst er
    have f : (r = 0 ∧ mth1' = 1 ∧ jc = 0) ∨ (r = 0 ∧ mth1' = 2 ∧ jc = 1 ∧ (1 : Int) = 0) ∨ (r = 1 ∧ mth1' = 0 ∧ jc = 1 ∧ (1 : Int) = 1) := f
    have hP : va_P (dC, dI) vwCl [(a1, .inl (cZ, 62, .inl (jA y1))), (a2, .inl (cA, 62, .inl (jA y2))), (a3, .inl (cZ, 496, .inl (jA y3))), (a4, .inl (cA, 496, .inl (jA y4))), (a5, .inl (cA, 496, .inl (jA y5))), (ma, .inr (5, [.int (jI mth1'), .int (jI mn), .ref a0, .int (jI mp), .int (jI mw), .ref a1, .ref a2, .ref a3, .ref a4, .ref a5, .ref a6, .ref a7, .ref a8, .ref a9, .ref a10, .long (jL mu), .long (jL md), .int (jI mo), .ref a11]))] H := hP
    have hD : va_D A [(a1, .inl (cZ, 62, .inl (jA y1))), (a2, .inl (cA, 62, .inl (jA y2))), (a3, .inl (cZ, 496, .inl (jA y3))), (a4, .inl (cA, 496, .inl (jA y4))), (a5, .inl (cA, 496, .inl (jA y5))), (ma, .inr (5, [.int (jI mth1'), .int (jI mn), .ref a0, .int (jI mp), .int (jI mw), .ref a1, .ref a2, .ref a3, .ref a4, .ref a5, .ref a6, .ref a7, .ref a8, .ref a9, .ref a10, .long (jL mu), .long (jL md), .int (jI mo), .ref a11]))] := hD
    refine ji_if_ne (tgt := 39) hx hb dXM_span_34 (by decide) (by omega) (fun c34_ => ?_) (fun c34_ => ?_)
    · refine lv_iload_n hx hb dXM_span_39 rfl (lv_at hl 3 rfl) ?_
      refine ji_if_ne (tgt := 52) hx hb dXM_span_40 (by decide) (by omega) (fun c40_ => ?_) (fun c40_ => ?_)
      · refine lv_aload_n hx hb dXM_span_52 rfl (lv_at hl 0 rfl) ?_
        refine lv_iload_n hx hb dXM_span_53 rfl (lv_at hl 1 rfl) ?_
        refine lv_iload_n hx hb dXM_span_54 rfl (lv_at hl 2 rfl) ?_
        refine jrVi (rest := []) ⟨hx, hb, hml, hown, hts⟩ (c_XM_highOfP l dC dI cA cZ ma a0 a1 a2 a3 a4 a5 a6 a7 a8 a9 a10 a11 mth1' mn mp mw mu md mo y1 y2 y3 y5 z1 z2 (by first | assumption | omega) (by first | assumption | omega) (by first | assumption | omega) (by first | assumption | omega) (by first | assumption | omega) (by first | assumption | omega)) (cwV 2 hts (jG_V tw_787 tw_789 ts_33 tw_6 tw_790) rfl rfl rfl (by decide +kernel) (by rw [hR]; exact ⟨Nat.le_of_ble_eq_true rfl, Nat.le_of_ble_eq_true rfl⟩)) hK hP hN [5, 0, 1, 2, 4] rfl 5 5 rfl rfl rfl rfl hl.1 rfl (Nat.le_of_ble_eq_true rfl) dXM_span_55 (by rw [hR]; exact ⟨Nat.le_of_ble_eq_true rfl, Nat.le_of_ble_eq_true rfl⟩) ?_
        have f1 := f_XM_highOfP_b mth1' mn mp mw mu md mo y1 y2 y3 y5 z1 z2 (by first | assumption | omega) (by first | assumption | omega) (by first | assumption | omega) (by first | assumption | omega) (by first | assumption | omega) (by first | assumption | omega)
        have hP9 := hP.sub (ws' := [(ma, .inr (5, [.int (jI mth1'), .int (jI mn), .ref a0, .int (jI mp), .int (jI mw), .ref a1, .ref a2, .ref a3, .ref a4, .ref a5, .ref a6, .ref a7, .ref a8, .ref a9, .ref a10, .long (jL mu), .long (jL md), .int (jI mo), .ref a11])), (a1, .inl (cZ, 62, .inl (jA y1))), (a2, .inl (cA, 62, .inl (jA y2))), (a3, .inl (cZ, 496, .inl (jA y3))), (a4, .inl (cA, 496, .inl (jA y4))), (a5, .inl (cA, 496, .inl (jA y5)))]) [5, 0, 1, 2, 3, 4] rfl
        have hD9 := hD.sub (ws' := [(ma, .inr (5, [.int (jI mth1'), .int (jI mn), .ref a0, .int (jI mp), .int (jI mw), .ref a1, .ref a2, .ref a3, .ref a4, .ref a5, .ref a6, .ref a7, .ref a8, .ref a9, .ref a10, .long (jL mu), .long (jL md), .int (jI mo), .ref a11])), (a1, .inl (cZ, 62, .inl (jA y1))), (a2, .inl (cA, 62, .inl (jA y2))), (a3, .inl (cZ, 496, .inl (jA y3))), (a4, .inl (cA, 496, .inl (jA y4))), (a5, .inl (cA, 496, .inl (jA y5)))]) [5, 0, 1, 2, 3, 4] (by decide) rfl
        subst hAe
        subst hQ
        exact W.iret (v := jI (f_XM_highOfP mth1' mn mp mw mu md mo y1 y2 y3 y5 z1 z2)) hx hb hr (fun t ht hW => ⟨⟨_, (f_XM_highOfP mth1' mn mp mw mu md mo y1 y2 y3 y5 z1 z2, mth1'), rfl, ⟨rfl, Eq.trans (by rw [f_XM_spanP_J30_s]; rw [← hwb]; try dsimp only; rw [if_neg c34_, if_neg c40_]; try rfl) hF, show 0 ≤ (f_XM_highOfP mth1' mn mp mw mu md mo y1 y2 y3 y5 z1 z2) ∧ (f_XM_highOfP mth1' mn mp mw mu md mo y1 y2 y3 y5 z1 z2) ≤ 100000 from by first | assumption | omega | exact jset_b (by assumption) (by omega) | exact jset_l (by assumption) (by omega) | exact jset_l (fun _ _ => rfl) (by omega) | exact fun _ _ => rfl | exact l_trans (by assumption) (by assumption), show 0 ≤ mth1' ∧ mth1' ≤ 2 from by first | assumption | omega | exact jset_b (by assumption) (by omega) | exact jset_l (by assumption) (by omega) | exact jset_l (fun _ _ => rfl) (by omega) | exact fun _ _ => rfl | exact l_trans (by assumption) (by assumption)⟩, ⟨by rw [ht]; exact hP9, va_K.moved hW.alike hK, hD9⟩⟩, hS.F ht⟩) hS.2.2 dXM_span_58
      · refine lv_aload_n hx hb dXM_span_43 rfl (lv_at hl 0 rfl) ?_
        refine lv_iload_n hx hb dXM_span_44 rfl (lv_at hl 1 rfl) ?_
        refine lv_iload_n hx hb dXM_span_45 rfl (lv_at hl 2 rfl) ?_
        refine jrVi (rest := []) ⟨hx, hb, hml, hown, hts⟩ (c_XM_lowOfP l dC dI cA cZ ma a0 a1 a2 a3 a4 a5 a6 a7 a8 a9 a10 a11 mth1' mn mp mw mu md mo y1 y2 y3 y4 z1 z2 (by first | assumption | omega) (by first | assumption | omega) (by first | assumption | omega) (by first | assumption | omega) (by first | assumption | omega) (by first | assumption | omega)) (cwV 2 hts (jG_V tw_775 tw_777 ts_30 tw_6 tw_778) rfl rfl rfl (by decide +kernel) (by rw [hR]; exact ⟨Nat.le_of_ble_eq_true rfl, Nat.le_of_ble_eq_true rfl⟩)) hK hP hN [5, 0, 1, 2, 3] rfl 5 5 rfl rfl rfl rfl hl.1 rfl (Nat.le_of_ble_eq_true rfl) dXM_span_46 (by rw [hR]; exact ⟨Nat.le_of_ble_eq_true rfl, Nat.le_of_ble_eq_true rfl⟩) ?_
        have f2 := f_XM_lowOfP_b mth1' mn mp mw mu md mo y1 y2 y3 y4 z1 z2 (by first | assumption | omega) (by first | assumption | omega) (by first | assumption | omega) (by first | assumption | omega) (by first | assumption | omega) (by first | assumption | omega)
        refine lv_goto (tgt := 58) hx hb dXM_span_49 (by decide) ?_
        have hP9 := hP.sub (ws' := [(ma, .inr (5, [.int (jI mth1'), .int (jI mn), .ref a0, .int (jI mp), .int (jI mw), .ref a1, .ref a2, .ref a3, .ref a4, .ref a5, .ref a6, .ref a7, .ref a8, .ref a9, .ref a10, .long (jL mu), .long (jL md), .int (jI mo), .ref a11])), (a1, .inl (cZ, 62, .inl (jA y1))), (a2, .inl (cA, 62, .inl (jA y2))), (a3, .inl (cZ, 496, .inl (jA y3))), (a4, .inl (cA, 496, .inl (jA y4))), (a5, .inl (cA, 496, .inl (jA y5)))]) [5, 0, 1, 2, 3, 4] rfl
        have hD9 := hD.sub (ws' := [(ma, .inr (5, [.int (jI mth1'), .int (jI mn), .ref a0, .int (jI mp), .int (jI mw), .ref a1, .ref a2, .ref a3, .ref a4, .ref a5, .ref a6, .ref a7, .ref a8, .ref a9, .ref a10, .long (jL mu), .long (jL md), .int (jI mo), .ref a11])), (a1, .inl (cZ, 62, .inl (jA y1))), (a2, .inl (cA, 62, .inl (jA y2))), (a3, .inl (cZ, 496, .inl (jA y3))), (a4, .inl (cA, 496, .inl (jA y4))), (a5, .inl (cA, 496, .inl (jA y5)))]) [5, 0, 1, 2, 3, 4] (by decide) rfl
        subst hAe
        subst hQ
        exact W.iret (v := jI (f_XM_lowOfP mth1' mn mp mw mu md mo y1 y2 y3 y4 z1 z2)) hx hb hr (fun t ht hW => ⟨⟨_, (f_XM_lowOfP mth1' mn mp mw mu md mo y1 y2 y3 y4 z1 z2, mth1'), rfl, ⟨rfl, Eq.trans (by rw [f_XM_spanP_J30_s]; rw [← hwb]; try dsimp only; rw [if_neg c34_, if_pos c40_]; try rfl) hF, show 0 ≤ (f_XM_lowOfP mth1' mn mp mw mu md mo y1 y2 y3 y4 z1 z2) ∧ (f_XM_lowOfP mth1' mn mp mw mu md mo y1 y2 y3 y4 z1 z2) ≤ 100000 from by first | assumption | omega | exact jset_b (by assumption) (by omega) | exact jset_l (by assumption) (by omega) | exact jset_l (fun _ _ => rfl) (by omega) | exact fun _ _ => rfl | exact l_trans (by assumption) (by assumption), show 0 ≤ mth1' ∧ mth1' ≤ 2 from by first | assumption | omega | exact jset_b (by assumption) (by omega) | exact jset_l (by assumption) (by omega) | exact jset_l (fun _ _ => rfl) (by omega) | exact fun _ _ => rfl | exact l_trans (by assumption) (by assumption)⟩, ⟨by rw [ht]; exact hP9, va_K.moved hW.alike hK, hD9⟩⟩, hS.F ht⟩) hS.2.2 dXM_span_58
    · refine ji_iconst hx hb dXM_span_37 ?_
      have hP9 := hP.sub (ws' := [(ma, .inr (5, [.int (jI mth1'), .int (jI mn), .ref a0, .int (jI mp), .int (jI mw), .ref a1, .ref a2, .ref a3, .ref a4, .ref a5, .ref a6, .ref a7, .ref a8, .ref a9, .ref a10, .long (jL mu), .long (jL md), .int (jI mo), .ref a11])), (a1, .inl (cZ, 62, .inl (jA y1))), (a2, .inl (cA, 62, .inl (jA y2))), (a3, .inl (cZ, 496, .inl (jA y3))), (a4, .inl (cA, 496, .inl (jA y4))), (a5, .inl (cA, 496, .inl (jA y5)))]) [5, 0, 1, 2, 3, 4] rfl
      have hD9 := hD.sub (ws' := [(ma, .inr (5, [.int (jI mth1'), .int (jI mn), .ref a0, .int (jI mp), .int (jI mw), .ref a1, .ref a2, .ref a3, .ref a4, .ref a5, .ref a6, .ref a7, .ref a8, .ref a9, .ref a10, .long (jL mu), .long (jL md), .int (jI mo), .ref a11])), (a1, .inl (cZ, 62, .inl (jA y1))), (a2, .inl (cA, 62, .inl (jA y2))), (a3, .inl (cZ, 496, .inl (jA y3))), (a4, .inl (cA, 496, .inl (jA y4))), (a5, .inl (cA, 496, .inl (jA y5)))]) [5, 0, 1, 2, 3, 4] (by decide) rfl
      subst hAe
      subst hQ
      exact W.iret (v := jI 0) hx hb hr (fun t ht hW => ⟨⟨_, (0, mth1'), rfl, ⟨rfl, Eq.trans (by rw [f_XM_spanP_J30_s]; rw [← hwb]; try dsimp only; rw [if_pos c34_]; try rfl) hF, show 0 ≤ 0 ∧ 0 ≤ 100000 from by first | assumption | omega | exact jset_b (by assumption) (by omega) | exact jset_l (by assumption) (by omega) | exact jset_l (fun _ _ => rfl) (by omega) | exact fun _ _ => rfl | exact l_trans (by assumption) (by assumption), show 0 ≤ mth1' ∧ mth1' ≤ 2 from by first | assumption | omega | exact jset_b (by assumption) (by omega) | exact jset_l (by assumption) (by omega) | exact jset_l (fun _ _ => rfl) (by omega) | exact fun _ _ => rfl | exact l_trans (by assumption) (by assumption)⟩, ⟨by rw [ht]; exact hP9, va_K.moved hW.alike hK, hD9⟩⟩, hS.F ht⟩) hS.2.2 dXM_span_38
  refine lv_aload_n hx hb dXM_span_1 rfl (lv_at hl 0 rfl) ?_
  refine lv_iload_n hx hb dXM_span_2 rfl (lv_at hl 1 rfl) ?_
  refine jrVi (rest := [.ref ma]) ⟨hx, hb, hml, hown, hts⟩ (c_XM_isTold l dC dI cA cZ ma a0 a1 a2 a3 a4 a5 a6 a7 a8 a9 a10 a11 mth mn mp mw mu md mo y1 z1 (by first | assumption | omega) (by first | assumption | omega)) (cwV 1 hts (jG_V tw_768 tw_770 ts_29 tw_6 tw_771) rfl rfl rfl (by decide +kernel) (by rw [hR]; exact ⟨Nat.le_of_ble_eq_true rfl, Nat.le_of_ble_eq_true rfl⟩)) hK hP hN [0, 1] rfl 0 5 rfl rfl rfl rfl hl.1 rfl (Nat.le_of_ble_eq_true rfl) dXM_span_3 (by rw [hR]; exact ⟨Nat.le_of_ble_eq_true rfl, Nat.le_of_ble_eq_true rfl⟩) ?_
  have f3 := f_XM_isTold_b mth mn mp mw mu md mo y1 z1 (by first | assumption | omega) (by first | assumption | omega)
  refine ji_if_eq (tgt := 29) hx hb dXM_span_6 (by decide) (by omega) (fun c6_ => ?_) (fun c6_ => ?_)
  · refine ji_iconst hx hb dXM_span_29 ?_
    exact join30 0 (Eq.trans (by rw [f_XM_spanP_s]; rw [if_pos c6_]; try rfl) rfl) (by first | assumption | omega | exact jset_b (by assumption) (by omega)) _ _ hP hD hS ls (lv_sub hl [0, 1, 2, 3] rfl)
  · refine lv_iload_n hx hb dXM_span_9 rfl (lv_at hl 2 rfl) ?_
    refine jrSi (rest := [.ref ma]) ⟨hx, hb, hml, hown, hts⟩ (c_XM_isElement l dC dI cA cZ z2 (by first | assumption | omega)) (cwS 1 hts (jG_S tw_772 tw_773 tw_6 tw_774) rfl rfl rfl (by decide +kernel) (by rw [hR]; exact ⟨Nat.le_of_ble_eq_true rfl, Nat.le_of_ble_eq_true rfl⟩)) hK hP hN [] rfl rfl hl.1 rfl (Nat.le_of_ble_eq_true rfl) dXM_span_10 (by rw [hR]; exact ⟨Nat.le_of_ble_eq_true rfl, Nat.le_of_ble_eq_true rfl⟩) ?_
    have f4 := f_XM_isElement_b z2 (by first | assumption | omega)
    refine ji_if_eq (tgt := 29) hx hb dXM_span_13 (by decide) (by omega) (fun c13_ => ?_) (fun c13_ => ?_)
    · refine ji_iconst hx hb dXM_span_29 ?_
      exact join30 0 (Eq.trans (by rw [f_XM_spanP_s]; rw [if_neg c6_, if_pos c13_]; try rfl) rfl) (by first | assumption | omega | exact jset_b (by assumption) (by omega)) _ _ hP hD hS ls (lv_sub hl [0, 1, 2, 3] rfl)
    · refine lv_iload_n hx hb dXM_span_16 rfl (lv_at hl 3 rfl) ?_
      refine ji_iconst hx hb dXM_span_17 ?_
      refine ji_iconst hx hb dXM_span_18 ?_
      refine jrSi (rest := [.ref ma]) ⟨hx, hb, hml, hown, hts⟩ (c_XM_in l dC dI cA cZ z3 0 1 (by first | assumption | omega) (by first | assumption | omega) (by first | assumption | omega)) (cwS 3 hts (jG_S tw_695 tw_696 tw_6 tw_697) rfl rfl rfl (by decide +kernel) (by rw [hR]; exact ⟨Nat.le_of_ble_eq_true rfl, Nat.le_of_ble_eq_true rfl⟩)) hK hP hN [] rfl rfl hl.1 rfl (Nat.le_of_ble_eq_true rfl) dXM_span_19 (by rw [hR]; exact ⟨Nat.le_of_ble_eq_true rfl, Nat.le_of_ble_eq_true rfl⟩) ?_
      have f5 := f_XM_in_b z3 0 1 (by first | assumption | omega) (by first | assumption | omega) (by first | assumption | omega)
      refine ji_if_eq (tgt := 29) hx hb dXM_span_22 (by decide) (by omega) (fun c22_ => ?_) (fun c22_ => ?_)
      · refine ji_iconst hx hb dXM_span_29 ?_
        exact join30 0 (Eq.trans (by rw [f_XM_spanP_s]; rw [if_neg c6_, if_neg c13_, if_pos c22_]; try rfl) rfl) (by first | assumption | omega | exact jset_b (by assumption) (by omega)) _ _ hP hD hS ls (lv_sub hl [0, 1, 2, 3] rfl)
      · refine ji_iconst hx hb dXM_span_25 ?_
        refine lv_goto (tgt := 30) hx hb dXM_span_26 (by decide) ?_
        exact join30 1 (Eq.trans (by rw [f_XM_spanP_s]; rw [if_neg c6_, if_neg c13_, if_neg c22_]; try rfl) rfl) (by first | assumption | omega | exact jset_b (by assumption) (by omega)) _ _ hP hD hS ls (lv_sub hl [0, 1, 2, 3] rfl)
noncomputable def g_XM_limitP_J21 (mth : Int) (mn : Int) (mp : Int) (mw : Int) (mu : Int) (md : Int) (mo : Int) (y1 : Int → Int) (y2 : Int → Int) (y7 : Int → Int) (z1 : Int) (z2 : Int) (jc : Int) : Int × Int :=
  match f_XM_goesP mth mn mp mw mu md mo jc 1 with
  | (r, mth1') =>
    if r = 0 then
      (0, mth1')
    else
      (f_XM_limitOfP mth1' mn mp mw mu md mo y1 y2 y7 z1 z2, mth1')
noncomputable def f_XM_limitP_J21 : Int → Int → Int → Int → Int → Int → Int → (Int → Int) → (Int → Int) → (Int → Int) → Int → Int → Int → Int × Int := jopq g_XM_limitP_J21
theorem f_XM_limitP_J21_q : f_XM_limitP_J21 = g_XM_limitP_J21 := jopq_eq _
theorem f_XM_limitP_J21_s (mth : Int) (mn : Int) (mp : Int) (mw : Int) (mu : Int) (md : Int) (mo : Int) (y1 : Int → Int) (y2 : Int → Int) (y7 : Int → Int) (z1 : Int) (z2 : Int) (jc : Int) : f_XM_limitP_J21 mth mn mp mw mu md mo y1 y2 y7 z1 z2 jc = (
    match f_XM_goesP mth mn mp mw mu md mo jc 1 with
    | (r, mth1') =>
      if r = 0 then
        (0, mth1')
      else
        (f_XM_limitOfP mth1' mn mp mw mu md mo y1 y2 y7 z1 z2, mth1')
  : Int × Int) := by rw [f_XM_limitP_J21_q]; rfl
noncomputable def g_XM_limitP (mth : Int) (mn : Int) (mp : Int) (mw : Int) (mu : Int) (md : Int) (mo : Int) (y1 : Int → Int) (y2 : Int → Int) (y7 : Int → Int) (z1 : Int) (z2 : Int) : Int × Int :=
  if (f_XM_isTold mth mn mp mw mu md mo y1 z1) = 0 then
    f_XM_limitP_J21 mth mn mp mw mu md mo y1 y2 y7 z1 z2 0
  else
    if (f_XM_isKind z2) = 0 then
      f_XM_limitP_J21 mth mn mp mw mu md mo y1 y2 y7 z1 z2 0
    else
      f_XM_limitP_J21 mth mn mp mw mu md mo y1 y2 y7 z1 z2 1
noncomputable def f_XM_limitP : Int → Int → Int → Int → Int → Int → Int → (Int → Int) → (Int → Int) → (Int → Int) → Int → Int → Int × Int := jopq g_XM_limitP
theorem f_XM_limitP_q : f_XM_limitP = g_XM_limitP := jopq_eq _
theorem f_XM_limitP_s (mth : Int) (mn : Int) (mp : Int) (mw : Int) (mu : Int) (md : Int) (mo : Int) (y1 : Int → Int) (y2 : Int → Int) (y7 : Int → Int) (z1 : Int) (z2 : Int) : f_XM_limitP mth mn mp mw mu md mo y1 y2 y7 z1 z2 = (
    if (f_XM_isTold mth mn mp mw mu md mo y1 z1) = 0 then
      f_XM_limitP_J21 mth mn mp mw mu md mo y1 y2 y7 z1 z2 0
    else
      if (f_XM_isKind z2) = 0 then
        f_XM_limitP_J21 mth mn mp mw mu md mo y1 y2 y7 z1 z2 0
      else
        f_XM_limitP_J21 mth mn mp mw mu md mo y1 y2 y7 z1 z2 1
  : Int × Int) := by rw [f_XM_limitP_q]; rfl
set_option maxHeartbeats 4000000 in
set_option maxRecDepth 100000 in
theorem c_XM_limitP (l : Launch) (dC : Nat → ClassId) (dI : Nat → Nat → Nat) (cA cZ : ClassId) (sz : Nat) (ma : Nat) (a0 : Nat) (a1 : Nat) (a2 : Nat) (a3 : Nat) (a4 : Nat) (a5 : Nat) (a6 : Nat) (a7 : Nat) (a8 : Nat) (a9 : Nat) (a10 : Nat) (a11 : Nat) (mth : Int) (mn : Int) (mp : Int) (mw : Int) (mu : Int) (md : Int) (mo : Int) (y1 : Int → Int) (y2 : Int → Int) (y7 : Int → Int) (z1 : Int) (z2 : Int) (hy1 : ∀ i, 0 ≤ y1 i ∧ y1 i ≤ 1) (hy2 : ∀ i, 0 ≤ y2 i ∧ y2 i ≤ 30) (hy7 : ∀ i, -1 ≤ y7 i ∧ y7 i ≤ 999999) (hiz1 : i32 z1) (hiz2 : i32 z2) : Met l yXM_limit (Cond.code yXM_limit cXM_limit 3 (some .int) :: TBL) ({ frames := 5, cells := 0, slots := 0, locals := 110 } : Room) (va_Pc [.ref ma, .int (jI z1), .int (jI z2)] (jBw (dC, dI) [(cA, .int), (cZ, .boolean)] [(ma, .inr (5, [.int (jI mth), .int (jI mn), .ref a0, .int (jI mp), .int (jI mw), .ref a1, .ref a2, .ref a3, .ref a4, .ref a5, .ref a6, .ref a7, .ref a8, .ref a9, .ref a10, .long (jL mu), .long (jL md), .int (jI mo), .ref a11])), (a1, .inl (cZ, 62, .inl (jA y1))), (a2, .inl (cA, 62, .inl (jA y2))), (a7, .inl (cA, 248, .inl (jA y7)))] sz)) (va_Qi (fun (r : Int32) (u : Int × Int) => r = jI u.1 ∧ u = f_XM_limitP mth mn mp mw mu md mo y1 y2 y7 z1 z2 ∧ (-1 ≤ u.1 ∧ u.1 ≤ 999999) ∧ (0 ≤ u.2 ∧ u.2 ≤ 2)) (fun u t => jE (dC, dI) [(cA, .int), (cZ, .boolean)] [(ma, .inr (5, [.int (jI mth), .int (jI mn), .ref a0, .int (jI mp), .int (jI mw), .ref a1, .ref a2, .ref a3, .ref a4, .ref a5, .ref a6, .ref a7, .ref a8, .ref a9, .ref a10, .long (jL mu), .long (jL md), .int (jI mo), .ref a11])), (a1, .inl (cZ, 62, .inl (jA y1))), (a2, .inl (cA, 62, .inl (jA y2))), (a7, .inl (cA, 248, .inl (jA y7)))] sz [(ma, .inr (5, [.int (jI u.2), .int (jI mn), .ref a0, .int (jI mp), .int (jI mw), .ref a1, .ref a2, .ref a3, .ref a4, .ref a5, .ref a6, .ref a7, .ref a8, .ref a9, .ref a10, .long (jL mu), .long (jL md), .int (jI mo), .ref a11])), (a1, .inl (cZ, 62, .inl (jA y1))), (a2, .inl (cA, 62, .inl (jA y2))), (a7, .inl (cA, 248, .inl (jA y7)))] t) (va_A [(ma, .inr (5, [.int (jI mth), .int (jI mn), .ref a0, .int (jI mp), .int (jI mw), .ref a1, .ref a2, .ref a3, .ref a4, .ref a5, .ref a6, .ref a7, .ref a8, .ref a9, .ref a10, .long (jL mu), .long (jL md), .int (jI mo), .ref a11])), (a1, .inl (cZ, 62, .inl (jA y1))), (a2, .inl (cA, 62, .inl (jA y2))), (a7, .inl (cA, 248, .inl (jA y7)))] sz)) 0 0 (va_A [(ma, .inr (5, [.int (jI mth), .int (jI mn), .ref a0, .int (jI mp), .int (jI mw), .ref a1, .ref a2, .ref a3, .ref a4, .ref a5, .ref a6, .ref a7, .ref a8, .ref a9, .ref a10, .long (jL mu), .long (jL md), .int (jI mo), .ref a11])), (a1, .inl (cZ, 62, .inl (jA y1))), (a2, .inl (cA, 62, .inl (jA y2))), (a7, .inl (cA, 248, .inl (jA y7)))] sz) := by
  refine jMet (cc := cXM_limit) (maxL := 3) (ret := some .int) (by decide) rfl ?_
  intro p e s m args below meth c s₁ R Q hR hQ B hml hv
  obtain ⟨rfl, hsz, hP, hK, hD0, hN⟩ := hv
  have hx := B.exec
  have hb := B.bytes
  have hr := B.returns
  have hts := atoms_spec (ws := Cond.code yXM_limit cXM_limit 3 (some .int) :: TBL) B.pre
  have hown : s.vm.findClass RXM = some m.cls := findClass_of_methodNamed B.named
  have hlocks := B.notSynchronized
  subst hsz
  obtain ⟨A, hAe⟩ : ∃ A, A = va_A [(ma, .inr (5, [.int (jI mth), .int (jI mn), .ref a0, .int (jI mp), .int (jI mw), .ref a1, .ref a2, .ref a3, .ref a4, .ref a5, .ref a6, .ref a7, .ref a8, .ref a9, .ref a10, .long (jL mu), .long (jL md), .int (jI mo), .ref a11])), (a1, .inl (cZ, 62, .inl (jA y1))), (a2, .inl (cA, 62, .inl (jA y2))), (a7, .inl (cA, 248, .inl (jA y7)))] s.heap.size := ⟨_, rfl⟩
  have hD : va_D A [(ma, .inr (5, [.int (jI mth), .int (jI mn), .ref a0, .int (jI mp), .int (jI mw), .ref a1, .ref a2, .ref a3, .ref a4, .ref a5, .ref a6, .ref a7, .ref a8, .ref a9, .ref a10, .long (jL mu), .long (jL md), .int (jI mo), .ref a11])), (a1, .inl (cZ, 62, .inl (jA y1))), (a2, .inl (cA, 62, .inl (jA y2))), (a7, .inl (cA, 248, .inl (jA y7)))] := by rw [hAe]; exact hD0.self
  have hA : ∀ q : Nat, s.heap.size ≤ q → A q := fun q h => by rw [hAe]; exact Or.inr h
  have hS : va_S A s.heap s.heap [] := va_S.rf
  have hP : va_P (dC, dI) vwCl [(ma, .inr (5, [.int (jI mth), .int (jI mn), .ref a0, .int (jI mp), .int (jI mw), .ref a1, .ref a2, .ref a3, .ref a4, .ref a5, .ref a6, .ref a7, .ref a8, .ref a9, .ref a10, .long (jL mu), .long (jL md), .int (jI mo), .ref a11])), (a1, .inl (cZ, 62, .inl (jA y1))), (a2, .inl (cA, 62, .inl (jA y2))), (a7, .inl (cA, 248, .inl (jA y7)))] s.heap := hP
  have hl := lv_entry ([.ref ma, .int (jI z1), .int (jI z2)]) (n := 3) (Nat.le_of_ble_eq_true rfl)
  rw [lg_entry_eq]
  generalize (lg_sl ([.ref ma, .int (jI z1), .int (jI z2)]) ++ List.replicate (3 - (lg_sl ([.ref ma, .int (jI z1), .int (jI z2)])).length) Slot.unset).toArray = ls at hl ⊢
  have hl : lv_has ls 3 [(0, .ref ma), (1, .int (jI z1)), (2, .int (jI z2))] := hl
  refine lv_aload_n hx hb dXM_limit_0 rfl (lv_at hl 0 rfl) ?_
  have join21 : ∀ (jc : Int) , f_XM_limitP_J21 mth mn mp mw mu md mo y1 y2 y7 z1 z2 jc = f_XM_limitP mth mn mp mw mu md mo y1 y2 y7 z1 z2 → ((jc = 0) ∨ (jc = 1 ∧ 1 ≤ z1 ∧ z1 ≤ 30 ∧ 0 ≤ z2 ∧ z2 ≤ 3)) → ∀ (H : Heap) (locs : List Loc), va_P (dC, dI) vwCl [(ma, .inr (5, [.int (jI mth), .int (jI mn), .ref a0, .int (jI mp), .int (jI mw), .ref a1, .ref a2, .ref a3, .ref a4, .ref a5, .ref a6, .ref a7, .ref a8, .ref a9, .ref a10, .long (jL mu), .long (jL md), .int (jI mo), .ref a11])), (a1, .inl (cZ, 62, .inl (jA y1))), (a2, .inl (cA, 62, .inl (jA y2))), (a7, .inl (cA, 248, .inl (jA y7)))] H → va_D A [(ma, .inr (5, [.int (jI mth), .int (jI mn), .ref a0, .int (jI mp), .int (jI mw), .ref a1, .ref a2, .ref a3, .ref a4, .ref a5, .ref a6, .ref a7, .ref a8, .ref a9, .ref a10, .long (jL mu), .long (jL md), .int (jI mo), .ref a11])), (a1, .inl (cZ, 62, .inl (jA y1))), (a2, .inl (cA, 62, .inl (jA y2))), (a7, .inl (cA, 248, .inl (jA y7)))] → va_S A s.heap H locs → ∀ ls : Array Slot, lv_has ls 3 [(0, .ref ma), (1, .int (jI z1)), (2, .int (jI z2))] → W p l e R s m ([.ref ma, .int (jI z1), .int (jI z2)] : List Value).toArray below meth c H locs 0 0 Q (F0 m 21 ls [.int (jI jc), .ref ma]) := by
    intro jc hF hjc H locs hP hD hS ls hl
    refine ji_iconst hx hb dXM_limit_21 ?_
    refine jwVi (rest := []) (wr := [(a1, .inl (cZ, 62, .inl (jA y1))), (a2, .inl (cA, 62, .inl (jA y2))), (a7, .inl (cA, 248, .inl (jA y7)))]) ⟨hx, hb, hml, hown, hts⟩ (c_XM_goesP l dC dI cA cZ _ ma a0 a1 a2 a3 a4 a5 a6 a7 a8 a9 a10 a11 mth mn mp mw mu md mo jc 1 (by first | assumption | omega) (by first | assumption | omega)) (cwV 2 hts (jG_V tw_698 tw_700 ts_14 tw_6 tw_701) rfl rfl rfl (by decide +kernel) (by rw [hR]; exact ⟨Nat.le_of_ble_eq_true rfl, Nat.le_of_ble_eq_true rfl⟩)) hK hP hD hS hA hN [0] [1, 2, 3] rfl rfl (by decide) (by decide) (by decide) 0 5 rfl rfl rfl rfl hl.1 rfl (Nat.le_of_ble_eq_true rfl) dXM_limit_22 (by rw [hR]; exact ⟨Nat.le_of_ble_eq_true rfl, Nat.le_of_ble_eq_true rfl⟩) (fun v u H locs hwb hP hD hS => ?_)
    obtain ⟨r, mth1'⟩ := u
    try dsimp only at hwb
    obtain ⟨er, hwb, f⟩ := hwb
    subst er
    have f : (r = 0 ∧ mth1' = 1 ∧ jc = 0) ∨ (r = 0 ∧ mth1' = 2 ∧ jc = 1 ∧ (1 : Int) = 0) ∨ (r = 1 ∧ mth1' = 0 ∧ jc = 1 ∧ (1 : Int) = 1) := f
    have hP : va_P (dC, dI) vwCl [(a1, .inl (cZ, 62, .inl (jA y1))), (a2, .inl (cA, 62, .inl (jA y2))), (a7, .inl (cA, 248, .inl (jA y7))), (ma, .inr (5, [.int (jI mth1'), .int (jI mn), .ref a0, .int (jI mp), .int (jI mw), .ref a1, .ref a2, .ref a3, .ref a4, .ref a5, .ref a6, .ref a7, .ref a8, .ref a9, .ref a10, .long (jL mu), .long (jL md), .int (jI mo), .ref a11]))] H := hP
    have hD : va_D A [(a1, .inl (cZ, 62, .inl (jA y1))), (a2, .inl (cA, 62, .inl (jA y2))), (a7, .inl (cA, 248, .inl (jA y7))), (ma, .inr (5, [.int (jI mth1'), .int (jI mn), .ref a0, .int (jI mp), .int (jI mw), .ref a1, .ref a2, .ref a3, .ref a4, .ref a5, .ref a6, .ref a7, .ref a8, .ref a9, .ref a10, .long (jL mu), .long (jL md), .int (jI mo), .ref a11]))] := hD
    refine ji_if_ne (tgt := 30) hx hb dXM_limit_25 (by decide) (by omega) (fun c25_ => ?_) (fun c25_ => ?_)
    · refine lv_aload_n hx hb dXM_limit_30 rfl (lv_at hl 0 rfl) ?_
      refine lv_iload_n hx hb dXM_limit_31 rfl (lv_at hl 1 rfl) ?_
      refine lv_iload_n hx hb dXM_limit_32 rfl (lv_at hl 2 rfl) ?_
      refine jrVi (rest := []) ⟨hx, hb, hml, hown, hts⟩ (c_XM_limitOfP l dC dI cA cZ ma a0 a1 a2 a3 a4 a5 a6 a7 a8 a9 a10 a11 mth1' mn mp mw mu md mo y1 y2 y7 z1 z2 (by first | assumption | omega) (by first | assumption | omega) (by first | assumption | omega) (by first | assumption | omega) (by first | assumption | omega)) (cwV 2 hts (jG_V tw_798 tw_800 ts_34 tw_6 tw_801) rfl rfl rfl (by decide +kernel) (by rw [hR]; exact ⟨Nat.le_of_ble_eq_true rfl, Nat.le_of_ble_eq_true rfl⟩)) hK hP hN [3, 0, 1, 2] rfl 3 5 rfl rfl rfl rfl hl.1 rfl (Nat.le_of_ble_eq_true rfl) dXM_limit_33 (by rw [hR]; exact ⟨Nat.le_of_ble_eq_true rfl, Nat.le_of_ble_eq_true rfl⟩) ?_
      have f1 := f_XM_limitOfP_b mth1' mn mp mw mu md mo y1 y2 y7 z1 z2 (by first | assumption | omega) (by first | assumption | omega) (by first | assumption | omega) (by first | assumption | omega) (by first | assumption | omega)
      have hP9 := hP.sub (ws' := [(ma, .inr (5, [.int (jI mth1'), .int (jI mn), .ref a0, .int (jI mp), .int (jI mw), .ref a1, .ref a2, .ref a3, .ref a4, .ref a5, .ref a6, .ref a7, .ref a8, .ref a9, .ref a10, .long (jL mu), .long (jL md), .int (jI mo), .ref a11])), (a1, .inl (cZ, 62, .inl (jA y1))), (a2, .inl (cA, 62, .inl (jA y2))), (a7, .inl (cA, 248, .inl (jA y7)))]) [3, 0, 1, 2] rfl
      have hD9 := hD.sub (ws' := [(ma, .inr (5, [.int (jI mth1'), .int (jI mn), .ref a0, .int (jI mp), .int (jI mw), .ref a1, .ref a2, .ref a3, .ref a4, .ref a5, .ref a6, .ref a7, .ref a8, .ref a9, .ref a10, .long (jL mu), .long (jL md), .int (jI mo), .ref a11])), (a1, .inl (cZ, 62, .inl (jA y1))), (a2, .inl (cA, 62, .inl (jA y2))), (a7, .inl (cA, 248, .inl (jA y7)))]) [3, 0, 1, 2] (by decide) rfl
      subst hAe
      subst hQ
      exact W.iret (v := jI (f_XM_limitOfP mth1' mn mp mw mu md mo y1 y2 y7 z1 z2)) hx hb hr (fun t ht hW => ⟨⟨_, (f_XM_limitOfP mth1' mn mp mw mu md mo y1 y2 y7 z1 z2, mth1'), rfl, ⟨rfl, Eq.trans (by rw [f_XM_limitP_J21_s]; rw [← hwb]; try dsimp only; rw [if_neg c25_]; try rfl) hF, show -1 ≤ (f_XM_limitOfP mth1' mn mp mw mu md mo y1 y2 y7 z1 z2) ∧ (f_XM_limitOfP mth1' mn mp mw mu md mo y1 y2 y7 z1 z2) ≤ 999999 from by first | assumption | omega | exact jset_b (by assumption) (by omega) | exact jset_l (by assumption) (by omega) | exact jset_l (fun _ _ => rfl) (by omega) | exact fun _ _ => rfl | exact l_trans (by assumption) (by assumption), show 0 ≤ mth1' ∧ mth1' ≤ 2 from by first | assumption | omega | exact jset_b (by assumption) (by omega) | exact jset_l (by assumption) (by omega) | exact jset_l (fun _ _ => rfl) (by omega) | exact fun _ _ => rfl | exact l_trans (by assumption) (by assumption)⟩, ⟨by rw [ht]; exact hP9, va_K.moved hW.alike hK, hD9⟩⟩, hS.F ht⟩) hS.2.2 dXM_limit_36
    · refine ji_iconst hx hb dXM_limit_28 ?_
      have hP9 := hP.sub (ws' := [(ma, .inr (5, [.int (jI mth1'), .int (jI mn), .ref a0, .int (jI mp), .int (jI mw), .ref a1, .ref a2, .ref a3, .ref a4, .ref a5, .ref a6, .ref a7, .ref a8, .ref a9, .ref a10, .long (jL mu), .long (jL md), .int (jI mo), .ref a11])), (a1, .inl (cZ, 62, .inl (jA y1))), (a2, .inl (cA, 62, .inl (jA y2))), (a7, .inl (cA, 248, .inl (jA y7)))]) [3, 0, 1, 2] rfl
      have hD9 := hD.sub (ws' := [(ma, .inr (5, [.int (jI mth1'), .int (jI mn), .ref a0, .int (jI mp), .int (jI mw), .ref a1, .ref a2, .ref a3, .ref a4, .ref a5, .ref a6, .ref a7, .ref a8, .ref a9, .ref a10, .long (jL mu), .long (jL md), .int (jI mo), .ref a11])), (a1, .inl (cZ, 62, .inl (jA y1))), (a2, .inl (cA, 62, .inl (jA y2))), (a7, .inl (cA, 248, .inl (jA y7)))]) [3, 0, 1, 2] (by decide) rfl
      subst hAe
      subst hQ
      exact W.iret (v := jI 0) hx hb hr (fun t ht hW => ⟨⟨_, (0, mth1'), rfl, ⟨rfl, Eq.trans (by rw [f_XM_limitP_J21_s]; rw [← hwb]; try dsimp only; rw [if_pos c25_]; try rfl) hF, show -1 ≤ 0 ∧ 0 ≤ 999999 from by first | assumption | omega | exact jset_b (by assumption) (by omega) | exact jset_l (by assumption) (by omega) | exact jset_l (fun _ _ => rfl) (by omega) | exact fun _ _ => rfl | exact l_trans (by assumption) (by assumption), show 0 ≤ mth1' ∧ mth1' ≤ 2 from by first | assumption | omega | exact jset_b (by assumption) (by omega) | exact jset_l (by assumption) (by omega) | exact jset_l (fun _ _ => rfl) (by omega) | exact fun _ _ => rfl | exact l_trans (by assumption) (by assumption)⟩, ⟨by rw [ht]; exact hP9, va_K.moved hW.alike hK, hD9⟩⟩, hS.F ht⟩) hS.2.2 dXM_limit_29
  refine lv_aload_n hx hb dXM_limit_1 rfl (lv_at hl 0 rfl) ?_
  refine lv_iload_n hx hb dXM_limit_2 rfl (lv_at hl 1 rfl) ?_
  refine jrVi (rest := [.ref ma]) ⟨hx, hb, hml, hown, hts⟩ (c_XM_isTold l dC dI cA cZ ma a0 a1 a2 a3 a4 a5 a6 a7 a8 a9 a10 a11 mth mn mp mw mu md mo y1 z1 (by first | assumption | omega) (by first | assumption | omega)) (cwV 1 hts (jG_V tw_768 tw_770 ts_29 tw_6 tw_771) rfl rfl rfl (by decide +kernel) (by rw [hR]; exact ⟨Nat.le_of_ble_eq_true rfl, Nat.le_of_ble_eq_true rfl⟩)) hK hP hN [0, 1] rfl 0 5 rfl rfl rfl rfl hl.1 rfl (Nat.le_of_ble_eq_true rfl) dXM_limit_3 (by rw [hR]; exact ⟨Nat.le_of_ble_eq_true rfl, Nat.le_of_ble_eq_true rfl⟩) ?_
  have f2 := f_XM_isTold_b mth mn mp mw mu md mo y1 z1 (by first | assumption | omega) (by first | assumption | omega)
  refine ji_if_eq (tgt := 20) hx hb dXM_limit_6 (by decide) (by omega) (fun c6_ => ?_) (fun c6_ => ?_)
  · refine ji_iconst hx hb dXM_limit_20 ?_
    exact join21 0 (Eq.trans (by rw [f_XM_limitP_s]; rw [if_pos c6_]; try rfl) rfl) (by first | assumption | omega | exact jset_b (by assumption) (by omega)) _ _ hP hD hS ls (lv_sub hl [0, 1, 2] rfl)
  · refine lv_iload_n hx hb dXM_limit_9 rfl (lv_at hl 2 rfl) ?_
    refine jrSi (rest := [.ref ma]) ⟨hx, hb, hml, hown, hts⟩ (c_XM_isKind l dC dI cA cZ z2 (by first | assumption | omega)) (cwS 1 hts (jG_S tw_795 tw_796 tw_6 tw_797) rfl rfl rfl (by decide +kernel) (by rw [hR]; exact ⟨Nat.le_of_ble_eq_true rfl, Nat.le_of_ble_eq_true rfl⟩)) hK hP hN [] rfl rfl hl.1 rfl (Nat.le_of_ble_eq_true rfl) dXM_limit_10 (by rw [hR]; exact ⟨Nat.le_of_ble_eq_true rfl, Nat.le_of_ble_eq_true rfl⟩) ?_
    have f3 := f_XM_isKind_b z2 (by first | assumption | omega)
    refine ji_if_eq (tgt := 20) hx hb dXM_limit_13 (by decide) (by omega) (fun c13_ => ?_) (fun c13_ => ?_)
    · refine ji_iconst hx hb dXM_limit_20 ?_
      exact join21 0 (Eq.trans (by rw [f_XM_limitP_s]; rw [if_neg c6_, if_pos c13_]; try rfl) rfl) (by first | assumption | omega | exact jset_b (by assumption) (by omega)) _ _ hP hD hS ls (lv_sub hl [0, 1, 2] rfl)
    · refine ji_iconst hx hb dXM_limit_16 ?_
      refine lv_goto (tgt := 21) hx hb dXM_limit_17 (by decide) ?_
      exact join21 1 (Eq.trans (by rw [f_XM_limitP_s]; rw [if_neg c6_, if_neg c13_]; try rfl) rfl) (by first | assumption | omega | exact jset_b (by assumption) (by omega)) _ _ hP hD hS ls (lv_sub hl [0, 1, 2] rfl)
noncomputable def g_XM_routeP_L66 (mth : Int) (mn : Int) (mp : Int) (mw : Int) (mu : Int) (md : Int) (mo : Int) (y1 : Int → Int) (y2 : Int → Int) (y6 : Int → Int) (z1 : Int) (z2 : Int) (mth1' : Int) (bx : Int) : Nat → Int → Int → Int × Int
  | 0, _, _ => (0, 0)
  | n9 + 1, lf, k2 =>
    if k2 < 8 then
      if ((jI ((jI bx >>> (jI k2 &&& 31)).toInt) &&& jI 1).toInt) = 0 then
        g_XM_routeP_L66 mth mn mp mw mu md mo y1 y2 y6 z1 z2 mth1' bx n9 lf (k2 + 1)
      else
        if lf = 0 then
          (k2, mth1')
        else
          g_XM_routeP_L66 mth mn mp mw mu md mo y1 y2 y6 z1 z2 mth1' bx n9 (lf + (-1)) (k2 + 1)
    else
      (-1, mth1')
noncomputable def f_XM_routeP_L66 : Int → Int → Int → Int → Int → Int → Int → (Int → Int) → (Int → Int) → (Int → Int) → Int → Int → Int → Int → Nat → Int → Int → Int × Int := jopq g_XM_routeP_L66
theorem f_XM_routeP_L66_q : f_XM_routeP_L66 = g_XM_routeP_L66 := jopq_eq _
theorem f_XM_routeP_L66_s (mth : Int) (mn : Int) (mp : Int) (mw : Int) (mu : Int) (md : Int) (mo : Int) (y1 : Int → Int) (y2 : Int → Int) (y6 : Int → Int) (z1 : Int) (z2 : Int) (mth1' : Int) (bx : Int) (n9 : Nat) (lf : Int) (k2 : Int) : f_XM_routeP_L66 mth mn mp mw mu md mo y1 y2 y6 z1 z2 mth1' bx (n9 + 1) lf k2 = (
    if k2 < 8 then
      if ((jI ((jI bx >>> (jI k2 &&& 31)).toInt) &&& jI 1).toInt) = 0 then
        f_XM_routeP_L66 mth mn mp mw mu md mo y1 y2 y6 z1 z2 mth1' bx n9 lf (k2 + 1)
      else
        if lf = 0 then
          (k2, mth1')
        else
          f_XM_routeP_L66 mth mn mp mw mu md mo y1 y2 y6 z1 z2 mth1' bx n9 (lf + (-1)) (k2 + 1)
    else
      (-1, mth1')
  : Int × Int) := by rw [f_XM_routeP_L66_q]; rfl
noncomputable def g_XM_routeP_J60 (mth : Int) (mn : Int) (mp : Int) (mw : Int) (mu : Int) (md : Int) (mo : Int) (y1 : Int → Int) (y2 : Int → Int) (y6 : Int → Int) (z1 : Int) (z2 : Int) (mth1' : Int) (bx : Int) (kx : Int) : Int × Int :=
  f_XM_routeP_L66 mth mn mp mw mu md mo y1 y2 y6 z1 z2 mth1' bx (Int.toNat (8 - 0) + 1) z2 0
noncomputable def f_XM_routeP_J60 : Int → Int → Int → Int → Int → Int → Int → (Int → Int) → (Int → Int) → (Int → Int) → Int → Int → Int → Int → Int → Int × Int := jopq g_XM_routeP_J60
theorem f_XM_routeP_J60_q : f_XM_routeP_J60 = g_XM_routeP_J60 := jopq_eq _
theorem f_XM_routeP_J60_s (mth : Int) (mn : Int) (mp : Int) (mw : Int) (mu : Int) (md : Int) (mo : Int) (y1 : Int → Int) (y2 : Int → Int) (y6 : Int → Int) (z1 : Int) (z2 : Int) (mth1' : Int) (bx : Int) (kx : Int) : f_XM_routeP_J60 mth mn mp mw mu md mo y1 y2 y6 z1 z2 mth1' bx kx = (
    f_XM_routeP_L66 mth mn mp mw mu md mo y1 y2 y6 z1 z2 mth1' bx (Int.toNat (8 - 0) + 1) z2 0
  : Int × Int) := by rw [f_XM_routeP_J60_q]; rfl
noncomputable def g_XM_routeP_L32 (mth : Int) (mn : Int) (mp : Int) (mw : Int) (mu : Int) (md : Int) (mo : Int) (y1 : Int → Int) (y2 : Int → Int) (y6 : Int → Int) (z1 : Int) (z2 : Int) (mth1' : Int) : Nat → Int → Int → Int × Int
  | 0, _, _ => (0, 0)
  | n9 + 1, bt9, k =>
    if 0 < k then
      if bt9 = 0 then
        g_XM_routeP_L32 mth mn mp mw mu md mo y1 y2 y6 z1 z2 mth1' n9 (y6 k) (f_XM_from mth1' mn mp mw mu md mo y1 y2 k)
      else
        f_XM_routeP_J60 mth mn mp mw mu md mo y1 y2 y6 z1 z2 mth1' bt9 k
    else
      f_XM_routeP_J60 mth mn mp mw mu md mo y1 y2 y6 z1 z2 mth1' bt9 k
noncomputable def f_XM_routeP_L32 : Int → Int → Int → Int → Int → Int → Int → (Int → Int) → (Int → Int) → (Int → Int) → Int → Int → Int → Nat → Int → Int → Int × Int := jopq g_XM_routeP_L32
theorem f_XM_routeP_L32_q : f_XM_routeP_L32 = g_XM_routeP_L32 := jopq_eq _
theorem f_XM_routeP_L32_s (mth : Int) (mn : Int) (mp : Int) (mw : Int) (mu : Int) (md : Int) (mo : Int) (y1 : Int → Int) (y2 : Int → Int) (y6 : Int → Int) (z1 : Int) (z2 : Int) (mth1' : Int) (n9 : Nat) (bt9 : Int) (k : Int) : f_XM_routeP_L32 mth mn mp mw mu md mo y1 y2 y6 z1 z2 mth1' (n9 + 1) bt9 k = (
    if 0 < k then
      if bt9 = 0 then
        f_XM_routeP_L32 mth mn mp mw mu md mo y1 y2 y6 z1 z2 mth1' n9 (y6 k) (f_XM_from mth1' mn mp mw mu md mo y1 y2 k)
      else
        f_XM_routeP_J60 mth mn mp mw mu md mo y1 y2 y6 z1 z2 mth1' bt9 k
    else
      f_XM_routeP_J60 mth mn mp mw mu md mo y1 y2 y6 z1 z2 mth1' bt9 k
  : Int × Int) := by rw [f_XM_routeP_L32_q]; rfl
noncomputable def g_XM_routeP_J18 (mth : Int) (mn : Int) (mp : Int) (mw : Int) (mu : Int) (md : Int) (mo : Int) (y1 : Int → Int) (y2 : Int → Int) (y6 : Int → Int) (z1 : Int) (z2 : Int) (jc : Int) : Int × Int :=
  match f_XM_goesP mth mn mp mw mu md mo jc 1 with
  | (r, mth1') =>
    if r = 0 then
      (0, mth1')
    else
      f_XM_routeP_L32 mth mn mp mw mu md mo y1 y2 y6 z1 z2 mth1' (Int.toNat (jdp (fun x => f_XM_from mth1' mn mp mw mu md mo y1 y2 x) 41 z1) + 1) 0 z1
noncomputable def f_XM_routeP_J18 : Int → Int → Int → Int → Int → Int → Int → (Int → Int) → (Int → Int) → (Int → Int) → Int → Int → Int → Int × Int := jopq g_XM_routeP_J18
theorem f_XM_routeP_J18_q : f_XM_routeP_J18 = g_XM_routeP_J18 := jopq_eq _
theorem f_XM_routeP_J18_s (mth : Int) (mn : Int) (mp : Int) (mw : Int) (mu : Int) (md : Int) (mo : Int) (y1 : Int → Int) (y2 : Int → Int) (y6 : Int → Int) (z1 : Int) (z2 : Int) (jc : Int) : f_XM_routeP_J18 mth mn mp mw mu md mo y1 y2 y6 z1 z2 jc = (
    match f_XM_goesP mth mn mp mw mu md mo jc 1 with
    | (r, mth1') =>
      if r = 0 then
        (0, mth1')
      else
        f_XM_routeP_L32 mth mn mp mw mu md mo y1 y2 y6 z1 z2 mth1' (Int.toNat (jdp (fun x => f_XM_from mth1' mn mp mw mu md mo y1 y2 x) 41 z1) + 1) 0 z1
  : Int × Int) := by rw [f_XM_routeP_J18_q]; rfl
noncomputable def g_XM_routeP (mth : Int) (mn : Int) (mp : Int) (mw : Int) (mu : Int) (md : Int) (mo : Int) (y1 : Int → Int) (y2 : Int → Int) (y6 : Int → Int) (z1 : Int) (z2 : Int) : Int × Int :=
  if (f_XM_isTold mth mn mp mw mu md mo y1 z1) = 0 then
    f_XM_routeP_J18 mth mn mp mw mu md mo y1 y2 y6 z1 z2 0
  else
    if z2 < 0 then
      f_XM_routeP_J18 mth mn mp mw mu md mo y1 y2 y6 z1 z2 0
    else
      f_XM_routeP_J18 mth mn mp mw mu md mo y1 y2 y6 z1 z2 1
noncomputable def f_XM_routeP : Int → Int → Int → Int → Int → Int → Int → (Int → Int) → (Int → Int) → (Int → Int) → Int → Int → Int × Int := jopq g_XM_routeP
theorem f_XM_routeP_q : f_XM_routeP = g_XM_routeP := jopq_eq _
theorem f_XM_routeP_s (mth : Int) (mn : Int) (mp : Int) (mw : Int) (mu : Int) (md : Int) (mo : Int) (y1 : Int → Int) (y2 : Int → Int) (y6 : Int → Int) (z1 : Int) (z2 : Int) : f_XM_routeP mth mn mp mw mu md mo y1 y2 y6 z1 z2 = (
    if (f_XM_isTold mth mn mp mw mu md mo y1 z1) = 0 then
      f_XM_routeP_J18 mth mn mp mw mu md mo y1 y2 y6 z1 z2 0
    else
      if z2 < 0 then
        f_XM_routeP_J18 mth mn mp mw mu md mo y1 y2 y6 z1 z2 0
      else
        f_XM_routeP_J18 mth mn mp mw mu md mo y1 y2 y6 z1 z2 1
  : Int × Int) := by rw [f_XM_routeP_q]; rfl
set_option maxHeartbeats 4000000 in
set_option maxRecDepth 100000 in
theorem c_XM_routeP (l : Launch) (dC : Nat → ClassId) (dI : Nat → Nat → Nat) (cA cZ : ClassId) (sz : Nat) (ma : Nat) (a0 : Nat) (a1 : Nat) (a2 : Nat) (a3 : Nat) (a4 : Nat) (a5 : Nat) (a6 : Nat) (a7 : Nat) (a8 : Nat) (a9 : Nat) (a10 : Nat) (a11 : Nat) (mth : Int) (mn : Int) (mp : Int) (mw : Int) (mu : Int) (md : Int) (mo : Int) (y1 : Int → Int) (y2 : Int → Int) (y6 : Int → Int) (z1 : Int) (z2 : Int) (hy1 : ∀ i, 0 ≤ y1 i ∧ y1 i ≤ 1) (hy2 : ∀ i, 0 ≤ y2 i ∧ y2 i ≤ 30) (hy6 : ∀ i, -2147483648 ≤ y6 i ∧ y6 i ≤ 2147483647) (hiz1 : i32 z1) (hiz2 : i32 z2) : Met l yXM_route (Cond.code yXM_route cXM_route 6 (some .int) :: TBL) ({ frames := 4, cells := 0, slots := 0, locals := 87 } : Room) (va_Pc [.ref ma, .int (jI z1), .int (jI z2)] (jBw (dC, dI) [(cA, .int), (cZ, .boolean)] [(ma, .inr (5, [.int (jI mth), .int (jI mn), .ref a0, .int (jI mp), .int (jI mw), .ref a1, .ref a2, .ref a3, .ref a4, .ref a5, .ref a6, .ref a7, .ref a8, .ref a9, .ref a10, .long (jL mu), .long (jL md), .int (jI mo), .ref a11])), (a1, .inl (cZ, 62, .inl (jA y1))), (a2, .inl (cA, 62, .inl (jA y2))), (a6, .inl (cA, 62, .inl (jA y6)))] sz)) (va_Qi (fun (r : Int32) (u : Int × Int) => r = jI u.1 ∧ u = f_XM_routeP mth mn mp mw mu md mo y1 y2 y6 z1 z2 ∧ (-1 ≤ u.1 ∧ u.1 ≤ 7) ∧ (0 ≤ u.2 ∧ u.2 ≤ 2)) (fun u t => jE (dC, dI) [(cA, .int), (cZ, .boolean)] [(ma, .inr (5, [.int (jI mth), .int (jI mn), .ref a0, .int (jI mp), .int (jI mw), .ref a1, .ref a2, .ref a3, .ref a4, .ref a5, .ref a6, .ref a7, .ref a8, .ref a9, .ref a10, .long (jL mu), .long (jL md), .int (jI mo), .ref a11])), (a1, .inl (cZ, 62, .inl (jA y1))), (a2, .inl (cA, 62, .inl (jA y2))), (a6, .inl (cA, 62, .inl (jA y6)))] sz [(ma, .inr (5, [.int (jI u.2), .int (jI mn), .ref a0, .int (jI mp), .int (jI mw), .ref a1, .ref a2, .ref a3, .ref a4, .ref a5, .ref a6, .ref a7, .ref a8, .ref a9, .ref a10, .long (jL mu), .long (jL md), .int (jI mo), .ref a11])), (a1, .inl (cZ, 62, .inl (jA y1))), (a2, .inl (cA, 62, .inl (jA y2))), (a6, .inl (cA, 62, .inl (jA y6)))] t) (va_A [(ma, .inr (5, [.int (jI mth), .int (jI mn), .ref a0, .int (jI mp), .int (jI mw), .ref a1, .ref a2, .ref a3, .ref a4, .ref a5, .ref a6, .ref a7, .ref a8, .ref a9, .ref a10, .long (jL mu), .long (jL md), .int (jI mo), .ref a11])), (a1, .inl (cZ, 62, .inl (jA y1))), (a2, .inl (cA, 62, .inl (jA y2))), (a6, .inl (cA, 62, .inl (jA y6)))] sz)) 0 0 (va_A [(ma, .inr (5, [.int (jI mth), .int (jI mn), .ref a0, .int (jI mp), .int (jI mw), .ref a1, .ref a2, .ref a3, .ref a4, .ref a5, .ref a6, .ref a7, .ref a8, .ref a9, .ref a10, .long (jL mu), .long (jL md), .int (jI mo), .ref a11])), (a1, .inl (cZ, 62, .inl (jA y1))), (a2, .inl (cA, 62, .inl (jA y2))), (a6, .inl (cA, 62, .inl (jA y6)))] sz) := by
  refine jMet (cc := cXM_route) (maxL := 6) (ret := some .int) (by decide) rfl ?_
  intro p e s m args below meth c s₁ R Q hR hQ B hml hv
  obtain ⟨rfl, hsz, hP, hK, hD0, hN⟩ := hv
  have hx := B.exec
  have hb := B.bytes
  have hr := B.returns
  have hts := atoms_spec (ws := Cond.code yXM_route cXM_route 6 (some .int) :: TBL) B.pre
  have hown : s.vm.findClass RXM = some m.cls := findClass_of_methodNamed B.named
  have hlocks := B.notSynchronized
  subst hsz
  obtain ⟨A, hAe⟩ : ∃ A, A = va_A [(ma, .inr (5, [.int (jI mth), .int (jI mn), .ref a0, .int (jI mp), .int (jI mw), .ref a1, .ref a2, .ref a3, .ref a4, .ref a5, .ref a6, .ref a7, .ref a8, .ref a9, .ref a10, .long (jL mu), .long (jL md), .int (jI mo), .ref a11])), (a1, .inl (cZ, 62, .inl (jA y1))), (a2, .inl (cA, 62, .inl (jA y2))), (a6, .inl (cA, 62, .inl (jA y6)))] s.heap.size := ⟨_, rfl⟩
  have hD : va_D A [(ma, .inr (5, [.int (jI mth), .int (jI mn), .ref a0, .int (jI mp), .int (jI mw), .ref a1, .ref a2, .ref a3, .ref a4, .ref a5, .ref a6, .ref a7, .ref a8, .ref a9, .ref a10, .long (jL mu), .long (jL md), .int (jI mo), .ref a11])), (a1, .inl (cZ, 62, .inl (jA y1))), (a2, .inl (cA, 62, .inl (jA y2))), (a6, .inl (cA, 62, .inl (jA y6)))] := by rw [hAe]; exact hD0.self
  have hA : ∀ q : Nat, s.heap.size ≤ q → A q := fun q h => by rw [hAe]; exact Or.inr h
  have hS : va_S A s.heap s.heap [] := va_S.rf
  have hP : va_P (dC, dI) vwCl [(ma, .inr (5, [.int (jI mth), .int (jI mn), .ref a0, .int (jI mp), .int (jI mw), .ref a1, .ref a2, .ref a3, .ref a4, .ref a5, .ref a6, .ref a7, .ref a8, .ref a9, .ref a10, .long (jL mu), .long (jL md), .int (jI mo), .ref a11])), (a1, .inl (cZ, 62, .inl (jA y1))), (a2, .inl (cA, 62, .inl (jA y2))), (a6, .inl (cA, 62, .inl (jA y6)))] s.heap := hP
  have hl := lv_entry ([.ref ma, .int (jI z1), .int (jI z2)]) (n := 6) (Nat.le_of_ble_eq_true rfl)
  rw [lg_entry_eq]
  generalize (lg_sl ([.ref ma, .int (jI z1), .int (jI z2)]) ++ List.replicate (6 - (lg_sl ([.ref ma, .int (jI z1), .int (jI z2)])).length) Slot.unset).toArray = ls at hl ⊢
  have hl : lv_has ls 6 [(0, .ref ma), (1, .int (jI z1)), (2, .int (jI z2))] := hl
  refine lv_aload_n hx hb dXM_route_0 rfl (lv_at hl 0 rfl) ?_
  have join18 : ∀ (jc : Int) , f_XM_routeP_J18 mth mn mp mw mu md mo y1 y2 y6 z1 z2 jc = f_XM_routeP mth mn mp mw mu md mo y1 y2 y6 z1 z2 → ((jc = 0) ∨ (jc = 1 ∧ 1 ≤ z1 ∧ z1 ≤ 30 ∧ 0 ≤ z2)) → ∀ (H : Heap) (locs : List Loc), va_P (dC, dI) vwCl [(ma, .inr (5, [.int (jI mth), .int (jI mn), .ref a0, .int (jI mp), .int (jI mw), .ref a1, .ref a2, .ref a3, .ref a4, .ref a5, .ref a6, .ref a7, .ref a8, .ref a9, .ref a10, .long (jL mu), .long (jL md), .int (jI mo), .ref a11])), (a1, .inl (cZ, 62, .inl (jA y1))), (a2, .inl (cA, 62, .inl (jA y2))), (a6, .inl (cA, 62, .inl (jA y6)))] H → va_D A [(ma, .inr (5, [.int (jI mth), .int (jI mn), .ref a0, .int (jI mp), .int (jI mw), .ref a1, .ref a2, .ref a3, .ref a4, .ref a5, .ref a6, .ref a7, .ref a8, .ref a9, .ref a10, .long (jL mu), .long (jL md), .int (jI mo), .ref a11])), (a1, .inl (cZ, 62, .inl (jA y1))), (a2, .inl (cA, 62, .inl (jA y2))), (a6, .inl (cA, 62, .inl (jA y6)))] → va_S A s.heap H locs → ∀ ls : Array Slot, lv_has ls 6 [(0, .ref ma), (1, .int (jI z1)), (2, .int (jI z2))] → W p l e R s m ([.ref ma, .int (jI z1), .int (jI z2)] : List Value).toArray below meth c H locs 0 0 Q (F0 m 18 ls [.int (jI jc), .ref ma]) := by
    intro jc hF hjc H locs hP hD hS ls hl
    refine ji_iconst hx hb dXM_route_18 ?_
    refine jwVi (rest := []) (wr := [(a1, .inl (cZ, 62, .inl (jA y1))), (a2, .inl (cA, 62, .inl (jA y2))), (a6, .inl (cA, 62, .inl (jA y6)))]) ⟨hx, hb, hml, hown, hts⟩ (c_XM_goesP l dC dI cA cZ _ ma a0 a1 a2 a3 a4 a5 a6 a7 a8 a9 a10 a11 mth mn mp mw mu md mo jc 1 (by first | assumption | omega) (by first | assumption | omega)) (cwV 2 hts (jG_V tw_698 tw_700 ts_14 tw_6 tw_701) rfl rfl rfl (by decide +kernel) (by rw [hR]; exact ⟨Nat.le_of_ble_eq_true rfl, Nat.le_of_ble_eq_true rfl⟩)) hK hP hD hS hA hN [0] [1, 2, 3] rfl rfl (by decide) (by decide) (by decide) 0 5 rfl rfl rfl rfl hl.1 rfl (Nat.le_of_ble_eq_true rfl) dXM_route_19 (by rw [hR]; exact ⟨Nat.le_of_ble_eq_true rfl, Nat.le_of_ble_eq_true rfl⟩) (fun v u H locs hwb hP hD hS => ?_)
    obtain ⟨r, mth1'⟩ := u
    try dsimp only at hwb
    obtain ⟨er, hwb, f⟩ := hwb
    subst er
    have f : (r = 0 ∧ mth1' = 1 ∧ jc = 0) ∨ (r = 0 ∧ mth1' = 2 ∧ jc = 1 ∧ (1 : Int) = 0) ∨ (r = 1 ∧ mth1' = 0 ∧ jc = 1 ∧ (1 : Int) = 1) := f
    have hP : va_P (dC, dI) vwCl [(a1, .inl (cZ, 62, .inl (jA y1))), (a2, .inl (cA, 62, .inl (jA y2))), (a6, .inl (cA, 62, .inl (jA y6))), (ma, .inr (5, [.int (jI mth1'), .int (jI mn), .ref a0, .int (jI mp), .int (jI mw), .ref a1, .ref a2, .ref a3, .ref a4, .ref a5, .ref a6, .ref a7, .ref a8, .ref a9, .ref a10, .long (jL mu), .long (jL md), .int (jI mo), .ref a11]))] H := hP
    have hD : va_D A [(a1, .inl (cZ, 62, .inl (jA y1))), (a2, .inl (cA, 62, .inl (jA y2))), (a6, .inl (cA, 62, .inl (jA y6))), (ma, .inr (5, [.int (jI mth1'), .int (jI mn), .ref a0, .int (jI mp), .int (jI mw), .ref a1, .ref a2, .ref a3, .ref a4, .ref a5, .ref a6, .ref a7, .ref a8, .ref a9, .ref a10, .long (jL mu), .long (jL md), .int (jI mo), .ref a11]))] := hD
    refine ji_if_ne (tgt := 27) hx hb dXM_route_22 (by decide) (by omega) (fun c22_ => ?_) (fun c22_ => ?_)
    · refine ji_iconst hx hb dXM_route_27 ?_
      refine lv_istore_n (lv' := [(3, .int (jI 0)), (0, .ref ma), (1, .int (jI z1)), (2, .int (jI z2))]) hx hb dXM_route_28 rfl hl (by decide) rfl (fun ls hl => ?_)
      have join60 : ∀ (bx : Int) (kx : Int) , f_XM_routeP_J60 mth mn mp mw mu md mo y1 y2 y6 z1 z2 mth1' bx kx = f_XM_routeP mth mn mp mw mu md mo y1 y2 y6 z1 z2 → (i32 bx) → ∀ (H : Heap) (locs : List Loc), va_P (dC, dI) vwCl [(a1, .inl (cZ, 62, .inl (jA y1))), (a2, .inl (cA, 62, .inl (jA y2))), (a6, .inl (cA, 62, .inl (jA y6))), (ma, .inr (5, [.int (jI mth1'), .int (jI mn), .ref a0, .int (jI mp), .int (jI mw), .ref a1, .ref a2, .ref a3, .ref a4, .ref a5, .ref a6, .ref a7, .ref a8, .ref a9, .ref a10, .long (jL mu), .long (jL md), .int (jI mo), .ref a11]))] H → va_D A [(a1, .inl (cZ, 62, .inl (jA y1))), (a2, .inl (cA, 62, .inl (jA y2))), (a6, .inl (cA, 62, .inl (jA y6))), (ma, .inr (5, [.int (jI mth1'), .int (jI mn), .ref a0, .int (jI mp), .int (jI mw), .ref a1, .ref a2, .ref a3, .ref a4, .ref a5, .ref a6, .ref a7, .ref a8, .ref a9, .ref a10, .long (jL mu), .long (jL md), .int (jI mo), .ref a11]))] → va_S A s.heap H locs → ∀ ls : Array Slot, lv_has ls 6 [(3, .int (jI bx)), (0, .ref ma), (1, .int (jI z1)), (2, .int (jI z2)), (4, .int (jI kx))] → W p l e R s m ([.ref ma, .int (jI z1), .int (jI z2)] : List Value).toArray below meth c H locs 0 0 Q (F0 m 60 ls []) := by
        intro bx kx hF hbx H locs hP hD hS ls hl
        refine lv_iload_n hx hb dXM_route_60 rfl (lv_at hl 3 rfl) ?_
        refine lv_istore (lv' := [(4, .int (jI z2)), (3, .int (jI bx)), (0, .ref ma), (1, .int (jI z1)), (2, .int (jI z2))]) hx hb dXM_route_61 hl (by decide) rfl (fun ls hl => ?_)
        refine ji_iconst hx hb dXM_route_63 ?_
        refine lv_istore (lv' := [(5, .int (jI 0)), (4, .int (jI z2)), (3, .int (jI bx)), (0, .ref ma), (1, .int (jI z1)), (2, .int (jI z2))]) hx hb dXM_route_64 hl (by decide) rfl (fun ls hl => ?_)
        have loop66 : ∀ (n9 : Nat) (lf : Int) (k2 : Int) , 8 - k2 < (n9 : Int) → f_XM_routeP_L66 mth mn mp mw mu md mo y1 y2 y6 z1 z2 mth1' bx n9 lf k2 = f_XM_routeP mth mn mp mw mu md mo y1 y2 y6 z1 z2 → (0 ≤ k2 ∧ k2 ≤ 8) → (0 ≤ lf ∧ lf < 2147483648) → ∀ (H : Heap) (locs : List Loc), va_P (dC, dI) vwCl [(a1, .inl (cZ, 62, .inl (jA y1))), (a2, .inl (cA, 62, .inl (jA y2))), (a6, .inl (cA, 62, .inl (jA y6))), (ma, .inr (5, [.int (jI mth1'), .int (jI mn), .ref a0, .int (jI mp), .int (jI mw), .ref a1, .ref a2, .ref a3, .ref a4, .ref a5, .ref a6, .ref a7, .ref a8, .ref a9, .ref a10, .long (jL mu), .long (jL md), .int (jI mo), .ref a11]))] H → va_D A [(a1, .inl (cZ, 62, .inl (jA y1))), (a2, .inl (cA, 62, .inl (jA y2))), (a6, .inl (cA, 62, .inl (jA y6))), (ma, .inr (5, [.int (jI mth1'), .int (jI mn), .ref a0, .int (jI mp), .int (jI mw), .ref a1, .ref a2, .ref a3, .ref a4, .ref a5, .ref a6, .ref a7, .ref a8, .ref a9, .ref a10, .long (jL mu), .long (jL md), .int (jI mo), .ref a11]))] → va_S A s.heap H locs → ∀ ls : Array Slot, lv_has ls 6 [(5, .int (jI k2)), (4, .int (jI lf)), (3, .int (jI bx)), (0, .ref ma)] → W p l e R s m ([.ref ma, .int (jI z1), .int (jI z2)] : List Value).toArray below meth c H locs 0 0 Q (F0 m 66 ls []) := by
          intro n9
          induction n9 with
          | zero =>
            intro lf k2 hm hF hk2 hlf
            exact absurd hm (by omega)
          | succ n9 ih66 =>
            intro lf k2 hm hF hk2 hlf H locs hP hD hS ls hl
            refine lv_iload hx hb dXM_route_66 (lv_at hl 0 rfl) ?_
            refine ji_bipush hx hb dXM_route_68 (by decide) ?_
            refine ji_icmp_ge (tgt := 102) hx hb dXM_route_70 (by decide) (by omega) (by omega) (fun c70_ => ?_) (fun c70_ => ?_)
            · refine ji_iconst hx hb dXM_route_102 ?_
              have hP9 := hP.sub (ws' := [(ma, .inr (5, [.int (jI mth1'), .int (jI mn), .ref a0, .int (jI mp), .int (jI mw), .ref a1, .ref a2, .ref a3, .ref a4, .ref a5, .ref a6, .ref a7, .ref a8, .ref a9, .ref a10, .long (jL mu), .long (jL md), .int (jI mo), .ref a11])), (a1, .inl (cZ, 62, .inl (jA y1))), (a2, .inl (cA, 62, .inl (jA y2))), (a6, .inl (cA, 62, .inl (jA y6)))]) [3, 0, 1, 2] rfl
              have hD9 := hD.sub (ws' := [(ma, .inr (5, [.int (jI mth1'), .int (jI mn), .ref a0, .int (jI mp), .int (jI mw), .ref a1, .ref a2, .ref a3, .ref a4, .ref a5, .ref a6, .ref a7, .ref a8, .ref a9, .ref a10, .long (jL mu), .long (jL md), .int (jI mo), .ref a11])), (a1, .inl (cZ, 62, .inl (jA y1))), (a2, .inl (cA, 62, .inl (jA y2))), (a6, .inl (cA, 62, .inl (jA y6)))]) [3, 0, 1, 2] (by decide) rfl
              subst hAe
              subst hQ
              exact W.iret (v := jI (-1)) hx hb hr (fun t ht hW => ⟨⟨_, (-1, mth1'), rfl, ⟨rfl, Eq.trans (by rw [f_XM_routeP_L66_s]; rw [if_neg (Int.not_lt.mpr c70_)]; try rfl) hF, show -1 ≤ (-1) ∧ (-1) ≤ 7 from by first | assumption | omega | exact jset_b (by assumption) (by omega) | exact jset_l (by assumption) (by omega) | exact jset_l (fun _ _ => rfl) (by omega) | exact fun _ _ => rfl | exact l_trans (by assumption) (by assumption), show 0 ≤ mth1' ∧ mth1' ≤ 2 from by first | assumption | omega | exact jset_b (by assumption) (by omega) | exact jset_l (by assumption) (by omega) | exact jset_l (fun _ _ => rfl) (by omega) | exact fun _ _ => rfl | exact l_trans (by assumption) (by assumption)⟩, ⟨by rw [ht]; exact hP9, va_K.moved hW.alike hK, hD9⟩⟩, hS.F ht⟩) hS.2.2 dXM_route_103
            · refine lv_iload_n hx hb dXM_route_73 rfl (lv_at hl 2 rfl) ?_
              refine lv_iload hx hb dXM_route_74 (lv_at hl 0 rfl) ?_
              refine lv_ishr hx hb dXM_route_76 ?_
              refine ji_rev ?_
              have rb := jti32 (jI bx >>> (jI k2 &&& 31))
              refine ji_iconst hx hb dXM_route_77 ?_
              refine lv_iand hx hb dXM_route_78 ?_
              refine ji_rev ?_
              have rb1 := jti32 (jI ((jI bx >>> (jI k2 &&& 31)).toInt) &&& jI 1)
              refine ji_if_ne (tgt := 85) hx hb dXM_route_79 (by decide) (by omega) (fun c79_ => ?_) (fun c79_ => ?_)
              · refine lv_iload hx hb dXM_route_85 (lv_at hl 1 rfl) ?_
                refine ji_if_ne (tgt := 93) hx hb dXM_route_87 (by decide) (by omega) (fun c87_ => ?_) (fun c87_ => ?_)
                · refine ji_iinc (k := 1) (lv' := [(4, .int (jI (lf + (-1)))), (5, .int (jI k2)), (3, .int (jI bx)), (0, .ref ma)]) hx hb dXM_route_93 hl rfl (by decide) rfl (fun ls hl => ?_)
                  refine ji_iinc (k := 1) (lv' := [(5, .int (jI (k2 + 1))), (4, .int (jI (lf + (-1)))), (3, .int (jI bx)), (0, .ref ma)]) hx hb dXM_route_96 hl rfl (by decide) rfl (fun ls hl => ?_)
                  refine lv_goto (tgt := 66) hx hb dXM_route_99 (by decide) ?_
                  exact ih66 (lf + (-1)) (k2 + 1) (by omega) (Eq.trans (by rw [f_XM_routeP_L66_s]; rw [if_pos c70_, if_neg c79_, if_neg c87_]; try rfl) hF) (by first | assumption | omega) (by first | assumption | omega) _ _ hP hD hS ls (lv_sub hl [0, 1, 2, 3] rfl)
                · refine lv_iload hx hb dXM_route_90 (lv_at hl 0 rfl) ?_
                  have hP9 := hP.sub (ws' := [(ma, .inr (5, [.int (jI mth1'), .int (jI mn), .ref a0, .int (jI mp), .int (jI mw), .ref a1, .ref a2, .ref a3, .ref a4, .ref a5, .ref a6, .ref a7, .ref a8, .ref a9, .ref a10, .long (jL mu), .long (jL md), .int (jI mo), .ref a11])), (a1, .inl (cZ, 62, .inl (jA y1))), (a2, .inl (cA, 62, .inl (jA y2))), (a6, .inl (cA, 62, .inl (jA y6)))]) [3, 0, 1, 2] rfl
                  have hD9 := hD.sub (ws' := [(ma, .inr (5, [.int (jI mth1'), .int (jI mn), .ref a0, .int (jI mp), .int (jI mw), .ref a1, .ref a2, .ref a3, .ref a4, .ref a5, .ref a6, .ref a7, .ref a8, .ref a9, .ref a10, .long (jL mu), .long (jL md), .int (jI mo), .ref a11])), (a1, .inl (cZ, 62, .inl (jA y1))), (a2, .inl (cA, 62, .inl (jA y2))), (a6, .inl (cA, 62, .inl (jA y6)))]) [3, 0, 1, 2] (by decide) rfl
                  subst hAe
                  subst hQ
                  exact W.iret (v := jI k2) hx hb hr (fun t ht hW => ⟨⟨_, (k2, mth1'), rfl, ⟨rfl, Eq.trans (by rw [f_XM_routeP_L66_s]; rw [if_pos c70_, if_neg c79_, if_pos c87_]; try rfl) hF, show -1 ≤ k2 ∧ k2 ≤ 7 from by first | assumption | omega | exact jset_b (by assumption) (by omega) | exact jset_l (by assumption) (by omega) | exact jset_l (fun _ _ => rfl) (by omega) | exact fun _ _ => rfl | exact l_trans (by assumption) (by assumption), show 0 ≤ mth1' ∧ mth1' ≤ 2 from by first | assumption | omega | exact jset_b (by assumption) (by omega) | exact jset_l (by assumption) (by omega) | exact jset_l (fun _ _ => rfl) (by omega) | exact fun _ _ => rfl | exact l_trans (by assumption) (by assumption)⟩, ⟨by rw [ht]; exact hP9, va_K.moved hW.alike hK, hD9⟩⟩, hS.F ht⟩) hS.2.2 dXM_route_92
              · refine lv_goto (tgt := 96) hx hb dXM_route_82 (by decide) ?_
                refine ji_iinc (k := 0) (lv' := [(5, .int (jI (k2 + 1))), (4, .int (jI lf)), (3, .int (jI bx)), (0, .ref ma)]) hx hb dXM_route_96 hl rfl (by decide) rfl (fun ls hl => ?_)
                refine lv_goto (tgt := 66) hx hb dXM_route_99 (by decide) ?_
                exact ih66 lf (k2 + 1) (by omega) (Eq.trans (by rw [f_XM_routeP_L66_s]; rw [if_pos c70_, if_pos c79_]; try rfl) hF) (by first | assumption | omega) (by first | assumption | omega) _ _ hP hD hS ls (lv_sub hl [0, 1, 2, 3] rfl)
        exact loop66 (Int.toNat (8 - 0) + 1) z2 0 (by omega) (Eq.trans (by rw [f_XM_routeP_J60_s]; try rfl) hF) (by first | assumption | omega) (by first | assumption | omega) _ _ hP hD hS ls (lv_sub hl [0, 1, 2, 3] rfl)
      refine lv_iload_n hx hb dXM_route_29 rfl (lv_at hl 2 rfl) ?_
      refine lv_istore (lv' := [(4, .int (jI z1)), (3, .int (jI 0)), (0, .ref ma), (1, .int (jI z1)), (2, .int (jI z2))]) hx hb dXM_route_30 hl (by decide) rfl (fun ls hl => ?_)
      have loop32 : ∀ (n9 : Nat) (bt9 : Int) (k : Int) , jdp (fun x => f_XM_from mth1' mn mp mw mu md mo y1 y2 x) 41 k < (n9 : Int) → f_XM_routeP_L32 mth mn mp mw mu md mo y1 y2 y6 z1 z2 mth1' n9 bt9 k = f_XM_routeP mth mn mp mw mu md mo y1 y2 y6 z1 z2 → (0 ≤ k ∧ k ≤ 30) → (i32 bt9) → ∀ (H : Heap) (locs : List Loc), va_P (dC, dI) vwCl [(a1, .inl (cZ, 62, .inl (jA y1))), (a2, .inl (cA, 62, .inl (jA y2))), (a6, .inl (cA, 62, .inl (jA y6))), (ma, .inr (5, [.int (jI mth1'), .int (jI mn), .ref a0, .int (jI mp), .int (jI mw), .ref a1, .ref a2, .ref a3, .ref a4, .ref a5, .ref a6, .ref a7, .ref a8, .ref a9, .ref a10, .long (jL mu), .long (jL md), .int (jI mo), .ref a11]))] H → va_D A [(a1, .inl (cZ, 62, .inl (jA y1))), (a2, .inl (cA, 62, .inl (jA y2))), (a6, .inl (cA, 62, .inl (jA y6))), (ma, .inr (5, [.int (jI mth1'), .int (jI mn), .ref a0, .int (jI mp), .int (jI mw), .ref a1, .ref a2, .ref a3, .ref a4, .ref a5, .ref a6, .ref a7, .ref a8, .ref a9, .ref a10, .long (jL mu), .long (jL md), .int (jI mo), .ref a11]))] → va_S A s.heap H locs → ∀ ls : Array Slot, lv_has ls 6 [(4, .int (jI k)), (3, .int (jI bt9)), (0, .ref ma), (1, .int (jI z1)), (2, .int (jI z2))] → W p l e R s m ([.ref ma, .int (jI z1), .int (jI z2)] : List Value).toArray below meth c H locs 0 0 Q (F0 m 32 ls []) := by
        intro n9
        induction n9 with
        | zero =>
          intro bt9 k hm hF hk hbt
          exact absurd hm (by have h8 := jdp_nn (fun x => f_XM_from mth1' mn mp mw mu md mo y1 y2 x) 41 k; omega)
        | succ n9 ih32 =>
          intro bt9 k hm hF hk hbt H locs hP hD hS ls hl
          refine lv_iload hx hb dXM_route_32 (lv_at hl 0 rfl) ?_
          refine ji_if_le (tgt := 60) hx hb dXM_route_34 (by decide) (by omega) (fun c34_ => ?_) (fun c34_ => ?_)
          · exact join60 bt9 k (Eq.trans (by rw [f_XM_routeP_L32_s]; rw [if_neg (Int.not_lt.mpr c34_)]; try rfl) hF) (by first | assumption | omega | exact jset_b (by assumption) (by omega)) _ _ hP hD hS ls (lv_sub hl [1, 2, 3, 4, 0] rfl)
          · refine lv_iload_n hx hb dXM_route_37 rfl (lv_at hl 1 rfl) ?_
            refine ji_if_ne (tgt := 60) hx hb dXM_route_38 (by decide) (by omega) (fun c38_ => ?_) (fun c38_ => ?_)
            · exact join60 bt9 k (Eq.trans (by rw [f_XM_routeP_L32_s]; rw [if_pos c34_, if_neg c38_]; try rfl) hF) (by first | assumption | omega | exact jset_b (by assumption) (by omega)) _ _ hP hD hS ls (lv_sub hl [1, 2, 3, 4, 0] rfl)
            · refine lv_aload_n hx hb dXM_route_41 rfl (lv_at hl 2 rfl) ?_
              refine va_get (D := (dC, dI)) (ci := 5) (v := .ref a6) (C := RXM) (T := TXM) (N := 19) hx hb hts (fun w h => jmem (inXM w h)) hown hK hP 3 rfl rfl 10 (by decide) (hts _ (jmem tw_638)) (fun _ h9 => h9) rfl dXM_route_42 ?_
              refine lv_iload hx hb dXM_route_45 (lv_at hl 0 rfl) ?_
              refine ji_iald hx hb hK hP 2 0 rfl rfl ⟨by omega, by omega⟩ (by decide) dXM_route_47 ?_
              have rb2 := hy6 k
              refine lv_istore_n (lv' := [(3, .int (jI (y6 k))), (4, .int (jI k)), (0, .ref ma), (1, .int (jI z1)), (2, .int (jI z2))]) hx hb dXM_route_48 rfl hl (by decide) rfl (fun ls hl => ?_)
              refine lv_aload_n hx hb dXM_route_49 rfl (lv_at hl 2 rfl) ?_
              refine lv_iload hx hb dXM_route_50 (lv_at hl 1 rfl) ?_
              refine jrVi (rest := []) ⟨hx, hb, hml, hown, hts⟩ (c_XM_from l dC dI cA cZ ma a0 a1 a2 a3 a4 a5 a6 a7 a8 a9 a10 a11 mth1' mn mp mw mu md mo y1 y2 k (by first | assumption | omega) (by first | assumption | omega) (by first | assumption | omega)) (cwV 1 hts (jG_V tw_779 tw_781 ts_31 tw_6 tw_782) rfl rfl rfl (by decide +kernel) (by rw [hR]; exact ⟨Nat.le_of_ble_eq_true rfl, Nat.le_of_ble_eq_true rfl⟩)) hK hP hN [3, 0, 1] rfl 3 5 rfl rfl rfl rfl hl.1 rfl (Nat.le_of_ble_eq_true rfl) dXM_route_52 (by rw [hR]; exact ⟨Nat.le_of_ble_eq_true rfl, Nat.le_of_ble_eq_true rfl⟩) ?_
              have f3 := f_XM_from_b mth1' mn mp mw mu md mo y1 y2 k (by first | assumption | omega) (by first | assumption | omega) (by first | assumption | omega)
              refine lv_istore (lv' := [(4, .int (jI (f_XM_from mth1' mn mp mw mu md mo y1 y2 k))), (3, .int (jI (y6 k))), (0, .ref ma), (1, .int (jI z1)), (2, .int (jI z2))]) hx hb dXM_route_55 hl (by decide) rfl (fun ls hl => ?_)
              refine lv_goto (tgt := 32) hx hb dXM_route_57 (by decide) ?_
              exact ih32 (y6 k) (f_XM_from mth1' mn mp mw mu md mo y1 y2 k) (by have h8 := from_dec mth1' mn mp mw mu md mo y1 y2 hy1 hy2 k (by omega); omega) (Eq.trans (by rw [f_XM_routeP_L32_s]; rw [if_pos c34_, if_pos c38_]; try rfl) hF) (by first | assumption | omega) (by first | assumption | omega) _ _ hP hD hS ls (lv_sub hl [0, 1, 2, 3, 4] rfl)
      exact loop32 (Int.toNat (jdp (fun x => f_XM_from mth1' mn mp mw mu md mo y1 y2 x) 41 z1) + 1) 0 z1 (by omega) (Eq.trans (by rw [f_XM_routeP_J18_s]; rw [← hwb]; try dsimp only; rw [if_neg c22_]; try rfl) hF) (by first | assumption | omega) (by first | assumption | omega) _ _ hP hD hS ls (lv_sub hl [0, 1, 2, 3, 4] rfl)
    · refine ji_iconst hx hb dXM_route_25 ?_
      have hP9 := hP.sub (ws' := [(ma, .inr (5, [.int (jI mth1'), .int (jI mn), .ref a0, .int (jI mp), .int (jI mw), .ref a1, .ref a2, .ref a3, .ref a4, .ref a5, .ref a6, .ref a7, .ref a8, .ref a9, .ref a10, .long (jL mu), .long (jL md), .int (jI mo), .ref a11])), (a1, .inl (cZ, 62, .inl (jA y1))), (a2, .inl (cA, 62, .inl (jA y2))), (a6, .inl (cA, 62, .inl (jA y6)))]) [3, 0, 1, 2] rfl
      have hD9 := hD.sub (ws' := [(ma, .inr (5, [.int (jI mth1'), .int (jI mn), .ref a0, .int (jI mp), .int (jI mw), .ref a1, .ref a2, .ref a3, .ref a4, .ref a5, .ref a6, .ref a7, .ref a8, .ref a9, .ref a10, .long (jL mu), .long (jL md), .int (jI mo), .ref a11])), (a1, .inl (cZ, 62, .inl (jA y1))), (a2, .inl (cA, 62, .inl (jA y2))), (a6, .inl (cA, 62, .inl (jA y6)))]) [3, 0, 1, 2] (by decide) rfl
      subst hAe
      subst hQ
      exact W.iret (v := jI 0) hx hb hr (fun t ht hW => ⟨⟨_, (0, mth1'), rfl, ⟨rfl, Eq.trans (by rw [f_XM_routeP_J18_s]; rw [← hwb]; try dsimp only; rw [if_pos c22_]; try rfl) hF, show -1 ≤ 0 ∧ 0 ≤ 7 from by first | assumption | omega | exact jset_b (by assumption) (by omega) | exact jset_l (by assumption) (by omega) | exact jset_l (fun _ _ => rfl) (by omega) | exact fun _ _ => rfl | exact l_trans (by assumption) (by assumption), show 0 ≤ mth1' ∧ mth1' ≤ 2 from by first | assumption | omega | exact jset_b (by assumption) (by omega) | exact jset_l (by assumption) (by omega) | exact jset_l (fun _ _ => rfl) (by omega) | exact fun _ _ => rfl | exact l_trans (by assumption) (by assumption)⟩, ⟨by rw [ht]; exact hP9, va_K.moved hW.alike hK, hD9⟩⟩, hS.F ht⟩) hS.2.2 dXM_route_26
  refine lv_aload_n hx hb dXM_route_1 rfl (lv_at hl 0 rfl) ?_
  refine lv_iload_n hx hb dXM_route_2 rfl (lv_at hl 1 rfl) ?_
  refine jrVi (rest := [.ref ma]) ⟨hx, hb, hml, hown, hts⟩ (c_XM_isTold l dC dI cA cZ ma a0 a1 a2 a3 a4 a5 a6 a7 a8 a9 a10 a11 mth mn mp mw mu md mo y1 z1 (by first | assumption | omega) (by first | assumption | omega)) (cwV 1 hts (jG_V tw_768 tw_770 ts_29 tw_6 tw_771) rfl rfl rfl (by decide +kernel) (by rw [hR]; exact ⟨Nat.le_of_ble_eq_true rfl, Nat.le_of_ble_eq_true rfl⟩)) hK hP hN [0, 1] rfl 0 5 rfl rfl rfl rfl hl.1 rfl (Nat.le_of_ble_eq_true rfl) dXM_route_3 (by rw [hR]; exact ⟨Nat.le_of_ble_eq_true rfl, Nat.le_of_ble_eq_true rfl⟩) ?_
  have f4 := f_XM_isTold_b mth mn mp mw mu md mo y1 z1 (by first | assumption | omega) (by first | assumption | omega)
  refine ji_if_eq (tgt := 17) hx hb dXM_route_6 (by decide) (by omega) (fun c6_ => ?_) (fun c6_ => ?_)
  · refine ji_iconst hx hb dXM_route_17 ?_
    exact join18 0 (Eq.trans (by rw [f_XM_routeP_s]; rw [if_pos c6_]; try rfl) rfl) (by first | assumption | omega | exact jset_b (by assumption) (by omega)) _ _ hP hD hS ls (lv_sub hl [0, 1, 2] rfl)
  · refine lv_iload_n hx hb dXM_route_9 rfl (lv_at hl 2 rfl) ?_
    refine ji_if_lt (tgt := 17) hx hb dXM_route_10 (by decide) (by omega) (fun c10_ => ?_) (fun c10_ => ?_)
    · refine ji_iconst hx hb dXM_route_17 ?_
      exact join18 0 (Eq.trans (by rw [f_XM_routeP_s]; rw [if_neg c6_, if_pos c10_]; try rfl) rfl) (by first | assumption | omega | exact jset_b (by assumption) (by omega)) _ _ hP hD hS ls (lv_sub hl [0, 1, 2] rfl)
    · refine ji_iconst hx hb dXM_route_13 ?_
      refine lv_goto (tgt := 18) hx hb dXM_route_14 (by decide) ?_
      exact join18 1 (Eq.trans (by rw [f_XM_routeP_s]; rw [if_neg c6_, if_neg (Int.not_lt.mpr c10_)]; try rfl) rfl) (by first | assumption | omega | exact jset_b (by assumption) (by omega)) _ _ hP hD hS ls (lv_sub hl [0, 1, 2] rfl)
noncomputable def g_XM_differenceP_L41 (mth : Int) (mn : Int) (mp : Int) (mw : Int) (mu : Int) (md : Int) (mo : Int) (y1 : Int → Int) (y2 : Int → Int) (y3 : Int → Int) (y4 : Int → Int) (y5 : Int → Int) (z1 : Int) (z2 : Int) (z3 : Int) (mth1' : Int) : Nat → Int → Int → Int × Int
  | 0, _, _ => (0, 0)
  | n9 + 1, lf, k =>
    if k < 8 then
      if (f_XM_lowOfP mth1' mn mp mw mu md mo y1 y2 y3 y4 z1 k) = (f_XM_lowOfP mth1' mn mp mw mu md mo y1 y2 y3 y4 z2 k) then
        if (f_XM_highOfP mth1' mn mp mw mu md mo y1 y2 y3 y5 z1 k) = (f_XM_highOfP mth1' mn mp mw mu md mo y1 y2 y3 y5 z2 k) then
          g_XM_differenceP_L41 mth mn mp mw mu md mo y1 y2 y3 y4 y5 z1 z2 z3 mth1' n9 lf (k + 1)
        else
          if lf = 0 then
            (k, mth1')
          else
            g_XM_differenceP_L41 mth mn mp mw mu md mo y1 y2 y3 y4 y5 z1 z2 z3 mth1' n9 (lf + (-1)) (k + 1)
      else
        if lf = 0 then
          (k, mth1')
        else
          g_XM_differenceP_L41 mth mn mp mw mu md mo y1 y2 y3 y4 y5 z1 z2 z3 mth1' n9 (lf + (-1)) (k + 1)
    else
      (-1, mth1')
noncomputable def f_XM_differenceP_L41 : Int → Int → Int → Int → Int → Int → Int → (Int → Int) → (Int → Int) → (Int → Int) → (Int → Int) → (Int → Int) → Int → Int → Int → Int → Nat → Int → Int → Int × Int := jopq g_XM_differenceP_L41
theorem f_XM_differenceP_L41_q : f_XM_differenceP_L41 = g_XM_differenceP_L41 := jopq_eq _
theorem f_XM_differenceP_L41_s (mth : Int) (mn : Int) (mp : Int) (mw : Int) (mu : Int) (md : Int) (mo : Int) (y1 : Int → Int) (y2 : Int → Int) (y3 : Int → Int) (y4 : Int → Int) (y5 : Int → Int) (z1 : Int) (z2 : Int) (z3 : Int) (mth1' : Int) (n9 : Nat) (lf : Int) (k : Int) : f_XM_differenceP_L41 mth mn mp mw mu md mo y1 y2 y3 y4 y5 z1 z2 z3 mth1' (n9 + 1) lf k = (
    if k < 8 then
      if (f_XM_lowOfP mth1' mn mp mw mu md mo y1 y2 y3 y4 z1 k) = (f_XM_lowOfP mth1' mn mp mw mu md mo y1 y2 y3 y4 z2 k) then
        if (f_XM_highOfP mth1' mn mp mw mu md mo y1 y2 y3 y5 z1 k) = (f_XM_highOfP mth1' mn mp mw mu md mo y1 y2 y3 y5 z2 k) then
          f_XM_differenceP_L41 mth mn mp mw mu md mo y1 y2 y3 y4 y5 z1 z2 z3 mth1' n9 lf (k + 1)
        else
          if lf = 0 then
            (k, mth1')
          else
            f_XM_differenceP_L41 mth mn mp mw mu md mo y1 y2 y3 y4 y5 z1 z2 z3 mth1' n9 (lf + (-1)) (k + 1)
      else
        if lf = 0 then
          (k, mth1')
        else
          f_XM_differenceP_L41 mth mn mp mw mu md mo y1 y2 y3 y4 y5 z1 z2 z3 mth1' n9 (lf + (-1)) (k + 1)
    else
      (-1, mth1')
  : Int × Int) := by rw [f_XM_differenceP_L41_q]; rfl
noncomputable def g_XM_differenceP_J26 (mth : Int) (mn : Int) (mp : Int) (mw : Int) (mu : Int) (md : Int) (mo : Int) (y1 : Int → Int) (y2 : Int → Int) (y3 : Int → Int) (y4 : Int → Int) (y5 : Int → Int) (z1 : Int) (z2 : Int) (z3 : Int) (jc : Int) : Int × Int :=
  match f_XM_goesP mth mn mp mw mu md mo jc 1 with
  | (r, mth1') =>
    if r = 0 then
      (0, mth1')
    else
      f_XM_differenceP_L41 mth mn mp mw mu md mo y1 y2 y3 y4 y5 z1 z2 z3 mth1' (Int.toNat (8 - 0) + 1) z3 0
noncomputable def f_XM_differenceP_J26 : Int → Int → Int → Int → Int → Int → Int → (Int → Int) → (Int → Int) → (Int → Int) → (Int → Int) → (Int → Int) → Int → Int → Int → Int → Int × Int := jopq g_XM_differenceP_J26
theorem f_XM_differenceP_J26_q : f_XM_differenceP_J26 = g_XM_differenceP_J26 := jopq_eq _
theorem f_XM_differenceP_J26_s (mth : Int) (mn : Int) (mp : Int) (mw : Int) (mu : Int) (md : Int) (mo : Int) (y1 : Int → Int) (y2 : Int → Int) (y3 : Int → Int) (y4 : Int → Int) (y5 : Int → Int) (z1 : Int) (z2 : Int) (z3 : Int) (jc : Int) : f_XM_differenceP_J26 mth mn mp mw mu md mo y1 y2 y3 y4 y5 z1 z2 z3 jc = (
    match f_XM_goesP mth mn mp mw mu md mo jc 1 with
    | (r, mth1') =>
      if r = 0 then
        (0, mth1')
      else
        f_XM_differenceP_L41 mth mn mp mw mu md mo y1 y2 y3 y4 y5 z1 z2 z3 mth1' (Int.toNat (8 - 0) + 1) z3 0
  : Int × Int) := by rw [f_XM_differenceP_J26_q]; rfl
noncomputable def g_XM_differenceP (mth : Int) (mn : Int) (mp : Int) (mw : Int) (mu : Int) (md : Int) (mo : Int) (y1 : Int → Int) (y2 : Int → Int) (y3 : Int → Int) (y4 : Int → Int) (y5 : Int → Int) (z1 : Int) (z2 : Int) (z3 : Int) : Int × Int :=
  if (f_XM_isTold mth mn mp mw mu md mo y1 z1) = 0 then
    f_XM_differenceP_J26 mth mn mp mw mu md mo y1 y2 y3 y4 y5 z1 z2 z3 0
  else
    if (f_XM_isTold mth mn mp mw mu md mo y1 z2) = 0 then
      f_XM_differenceP_J26 mth mn mp mw mu md mo y1 y2 y3 y4 y5 z1 z2 z3 0
    else
      if z3 < 0 then
        f_XM_differenceP_J26 mth mn mp mw mu md mo y1 y2 y3 y4 y5 z1 z2 z3 0
      else
        f_XM_differenceP_J26 mth mn mp mw mu md mo y1 y2 y3 y4 y5 z1 z2 z3 1
noncomputable def f_XM_differenceP : Int → Int → Int → Int → Int → Int → Int → (Int → Int) → (Int → Int) → (Int → Int) → (Int → Int) → (Int → Int) → Int → Int → Int → Int × Int := jopq g_XM_differenceP
theorem f_XM_differenceP_q : f_XM_differenceP = g_XM_differenceP := jopq_eq _
theorem f_XM_differenceP_s (mth : Int) (mn : Int) (mp : Int) (mw : Int) (mu : Int) (md : Int) (mo : Int) (y1 : Int → Int) (y2 : Int → Int) (y3 : Int → Int) (y4 : Int → Int) (y5 : Int → Int) (z1 : Int) (z2 : Int) (z3 : Int) : f_XM_differenceP mth mn mp mw mu md mo y1 y2 y3 y4 y5 z1 z2 z3 = (
    if (f_XM_isTold mth mn mp mw mu md mo y1 z1) = 0 then
      f_XM_differenceP_J26 mth mn mp mw mu md mo y1 y2 y3 y4 y5 z1 z2 z3 0
    else
      if (f_XM_isTold mth mn mp mw mu md mo y1 z2) = 0 then
        f_XM_differenceP_J26 mth mn mp mw mu md mo y1 y2 y3 y4 y5 z1 z2 z3 0
      else
        if z3 < 0 then
          f_XM_differenceP_J26 mth mn mp mw mu md mo y1 y2 y3 y4 y5 z1 z2 z3 0
        else
          f_XM_differenceP_J26 mth mn mp mw mu md mo y1 y2 y3 y4 y5 z1 z2 z3 1
  : Int × Int) := by rw [f_XM_differenceP_q]; rfl
set_option maxHeartbeats 4000000 in
set_option maxRecDepth 100000 in
theorem c_XM_differenceP (l : Launch) (dC : Nat → ClassId) (dI : Nat → Nat → Nat) (cA cZ : ClassId) (sz : Nat) (ma : Nat) (a0 : Nat) (a1 : Nat) (a2 : Nat) (a3 : Nat) (a4 : Nat) (a5 : Nat) (a6 : Nat) (a7 : Nat) (a8 : Nat) (a9 : Nat) (a10 : Nat) (a11 : Nat) (mth : Int) (mn : Int) (mp : Int) (mw : Int) (mu : Int) (md : Int) (mo : Int) (y1 : Int → Int) (y2 : Int → Int) (y3 : Int → Int) (y4 : Int → Int) (y5 : Int → Int) (z1 : Int) (z2 : Int) (z3 : Int) (hy1 : ∀ i, 0 ≤ y1 i ∧ y1 i ≤ 1) (hy2 : ∀ i, 0 ≤ y2 i ∧ y2 i ≤ 30) (hy3 : ∀ i, 0 ≤ y3 i ∧ y3 i ≤ 1) (hy4 : ∀ i, 0 ≤ y4 i ∧ y4 i ≤ 100000) (hy5 : ∀ i, 0 ≤ y5 i ∧ y5 i ≤ 100000) (hiz1 : i32 z1) (hiz2 : i32 z2) (hiz3 : i32 z3) : Met l yXM_difference (Cond.code yXM_difference cXM_difference 6 (some .int) :: TBL) ({ frames := 5, cells := 0, slots := 0, locals := 110 } : Room) (va_Pc [.ref ma, .int (jI z1), .int (jI z2), .int (jI z3)] (jBw (dC, dI) [(cA, .int), (cZ, .boolean)] [(ma, .inr (5, [.int (jI mth), .int (jI mn), .ref a0, .int (jI mp), .int (jI mw), .ref a1, .ref a2, .ref a3, .ref a4, .ref a5, .ref a6, .ref a7, .ref a8, .ref a9, .ref a10, .long (jL mu), .long (jL md), .int (jI mo), .ref a11])), (a1, .inl (cZ, 62, .inl (jA y1))), (a2, .inl (cA, 62, .inl (jA y2))), (a3, .inl (cZ, 496, .inl (jA y3))), (a4, .inl (cA, 496, .inl (jA y4))), (a5, .inl (cA, 496, .inl (jA y5)))] sz)) (va_Qi (fun (r : Int32) (u : Int × Int) => r = jI u.1 ∧ u = f_XM_differenceP mth mn mp mw mu md mo y1 y2 y3 y4 y5 z1 z2 z3 ∧ (-1 ≤ u.1 ∧ u.1 ≤ 7) ∧ (0 ≤ u.2 ∧ u.2 ≤ 2)) (fun u t => jE (dC, dI) [(cA, .int), (cZ, .boolean)] [(ma, .inr (5, [.int (jI mth), .int (jI mn), .ref a0, .int (jI mp), .int (jI mw), .ref a1, .ref a2, .ref a3, .ref a4, .ref a5, .ref a6, .ref a7, .ref a8, .ref a9, .ref a10, .long (jL mu), .long (jL md), .int (jI mo), .ref a11])), (a1, .inl (cZ, 62, .inl (jA y1))), (a2, .inl (cA, 62, .inl (jA y2))), (a3, .inl (cZ, 496, .inl (jA y3))), (a4, .inl (cA, 496, .inl (jA y4))), (a5, .inl (cA, 496, .inl (jA y5)))] sz [(ma, .inr (5, [.int (jI u.2), .int (jI mn), .ref a0, .int (jI mp), .int (jI mw), .ref a1, .ref a2, .ref a3, .ref a4, .ref a5, .ref a6, .ref a7, .ref a8, .ref a9, .ref a10, .long (jL mu), .long (jL md), .int (jI mo), .ref a11])), (a1, .inl (cZ, 62, .inl (jA y1))), (a2, .inl (cA, 62, .inl (jA y2))), (a3, .inl (cZ, 496, .inl (jA y3))), (a4, .inl (cA, 496, .inl (jA y4))), (a5, .inl (cA, 496, .inl (jA y5)))] t) (va_A [(ma, .inr (5, [.int (jI mth), .int (jI mn), .ref a0, .int (jI mp), .int (jI mw), .ref a1, .ref a2, .ref a3, .ref a4, .ref a5, .ref a6, .ref a7, .ref a8, .ref a9, .ref a10, .long (jL mu), .long (jL md), .int (jI mo), .ref a11])), (a1, .inl (cZ, 62, .inl (jA y1))), (a2, .inl (cA, 62, .inl (jA y2))), (a3, .inl (cZ, 496, .inl (jA y3))), (a4, .inl (cA, 496, .inl (jA y4))), (a5, .inl (cA, 496, .inl (jA y5)))] sz)) 0 0 (va_A [(ma, .inr (5, [.int (jI mth), .int (jI mn), .ref a0, .int (jI mp), .int (jI mw), .ref a1, .ref a2, .ref a3, .ref a4, .ref a5, .ref a6, .ref a7, .ref a8, .ref a9, .ref a10, .long (jL mu), .long (jL md), .int (jI mo), .ref a11])), (a1, .inl (cZ, 62, .inl (jA y1))), (a2, .inl (cA, 62, .inl (jA y2))), (a3, .inl (cZ, 496, .inl (jA y3))), (a4, .inl (cA, 496, .inl (jA y4))), (a5, .inl (cA, 496, .inl (jA y5)))] sz) := by
  refine jMet (cc := cXM_difference) (maxL := 6) (ret := some .int) (by decide) rfl ?_
  intro p e s m args below meth c s₁ R Q hR hQ B hml hv
  obtain ⟨rfl, hsz, hP, hK, hD0, hN⟩ := hv
  have hx := B.exec
  have hb := B.bytes
  have hr := B.returns
  have hts := atoms_spec (ws := Cond.code yXM_difference cXM_difference 6 (some .int) :: TBL) B.pre
  have hown : s.vm.findClass RXM = some m.cls := findClass_of_methodNamed B.named
  have hlocks := B.notSynchronized
  subst hsz
  obtain ⟨A, hAe⟩ : ∃ A, A = va_A [(ma, .inr (5, [.int (jI mth), .int (jI mn), .ref a0, .int (jI mp), .int (jI mw), .ref a1, .ref a2, .ref a3, .ref a4, .ref a5, .ref a6, .ref a7, .ref a8, .ref a9, .ref a10, .long (jL mu), .long (jL md), .int (jI mo), .ref a11])), (a1, .inl (cZ, 62, .inl (jA y1))), (a2, .inl (cA, 62, .inl (jA y2))), (a3, .inl (cZ, 496, .inl (jA y3))), (a4, .inl (cA, 496, .inl (jA y4))), (a5, .inl (cA, 496, .inl (jA y5)))] s.heap.size := ⟨_, rfl⟩
  have hD : va_D A [(ma, .inr (5, [.int (jI mth), .int (jI mn), .ref a0, .int (jI mp), .int (jI mw), .ref a1, .ref a2, .ref a3, .ref a4, .ref a5, .ref a6, .ref a7, .ref a8, .ref a9, .ref a10, .long (jL mu), .long (jL md), .int (jI mo), .ref a11])), (a1, .inl (cZ, 62, .inl (jA y1))), (a2, .inl (cA, 62, .inl (jA y2))), (a3, .inl (cZ, 496, .inl (jA y3))), (a4, .inl (cA, 496, .inl (jA y4))), (a5, .inl (cA, 496, .inl (jA y5)))] := by rw [hAe]; exact hD0.self
  have hA : ∀ q : Nat, s.heap.size ≤ q → A q := fun q h => by rw [hAe]; exact Or.inr h
  have hS : va_S A s.heap s.heap [] := va_S.rf
  have hP : va_P (dC, dI) vwCl [(ma, .inr (5, [.int (jI mth), .int (jI mn), .ref a0, .int (jI mp), .int (jI mw), .ref a1, .ref a2, .ref a3, .ref a4, .ref a5, .ref a6, .ref a7, .ref a8, .ref a9, .ref a10, .long (jL mu), .long (jL md), .int (jI mo), .ref a11])), (a1, .inl (cZ, 62, .inl (jA y1))), (a2, .inl (cA, 62, .inl (jA y2))), (a3, .inl (cZ, 496, .inl (jA y3))), (a4, .inl (cA, 496, .inl (jA y4))), (a5, .inl (cA, 496, .inl (jA y5)))] s.heap := hP
  have hl := lv_entry ([.ref ma, .int (jI z1), .int (jI z2), .int (jI z3)]) (n := 6) (Nat.le_of_ble_eq_true rfl)
  rw [lg_entry_eq]
  generalize (lg_sl ([.ref ma, .int (jI z1), .int (jI z2), .int (jI z3)]) ++ List.replicate (6 - (lg_sl ([.ref ma, .int (jI z1), .int (jI z2), .int (jI z3)])).length) Slot.unset).toArray = ls at hl ⊢
  have hl : lv_has ls 6 [(0, .ref ma), (1, .int (jI z1)), (2, .int (jI z2)), (3, .int (jI z3))] := hl
  refine lv_aload_n hx hb dXM_difference_0 rfl (lv_at hl 0 rfl) ?_
  have join26 : ∀ (jc : Int) , f_XM_differenceP_J26 mth mn mp mw mu md mo y1 y2 y3 y4 y5 z1 z2 z3 jc = f_XM_differenceP mth mn mp mw mu md mo y1 y2 y3 y4 y5 z1 z2 z3 → ((jc = 0) ∨ (jc = 1 ∧ 1 ≤ z1 ∧ z1 ≤ 30 ∧ 1 ≤ z2 ∧ z2 ≤ 30 ∧ 0 ≤ z3)) → ∀ (H : Heap) (locs : List Loc), va_P (dC, dI) vwCl [(ma, .inr (5, [.int (jI mth), .int (jI mn), .ref a0, .int (jI mp), .int (jI mw), .ref a1, .ref a2, .ref a3, .ref a4, .ref a5, .ref a6, .ref a7, .ref a8, .ref a9, .ref a10, .long (jL mu), .long (jL md), .int (jI mo), .ref a11])), (a1, .inl (cZ, 62, .inl (jA y1))), (a2, .inl (cA, 62, .inl (jA y2))), (a3, .inl (cZ, 496, .inl (jA y3))), (a4, .inl (cA, 496, .inl (jA y4))), (a5, .inl (cA, 496, .inl (jA y5)))] H → va_D A [(ma, .inr (5, [.int (jI mth), .int (jI mn), .ref a0, .int (jI mp), .int (jI mw), .ref a1, .ref a2, .ref a3, .ref a4, .ref a5, .ref a6, .ref a7, .ref a8, .ref a9, .ref a10, .long (jL mu), .long (jL md), .int (jI mo), .ref a11])), (a1, .inl (cZ, 62, .inl (jA y1))), (a2, .inl (cA, 62, .inl (jA y2))), (a3, .inl (cZ, 496, .inl (jA y3))), (a4, .inl (cA, 496, .inl (jA y4))), (a5, .inl (cA, 496, .inl (jA y5)))] → va_S A s.heap H locs → ∀ ls : Array Slot, lv_has ls 6 [(0, .ref ma), (1, .int (jI z1)), (2, .int (jI z2)), (3, .int (jI z3))] → W p l e R s m ([.ref ma, .int (jI z1), .int (jI z2), .int (jI z3)] : List Value).toArray below meth c H locs 0 0 Q (F0 m 26 ls [.int (jI jc), .ref ma]) := by
    intro jc hF hjc H locs hP hD hS ls hl
    refine ji_iconst hx hb dXM_difference_26 ?_
    refine jwVi (rest := []) (wr := [(a1, .inl (cZ, 62, .inl (jA y1))), (a2, .inl (cA, 62, .inl (jA y2))), (a3, .inl (cZ, 496, .inl (jA y3))), (a4, .inl (cA, 496, .inl (jA y4))), (a5, .inl (cA, 496, .inl (jA y5)))]) ⟨hx, hb, hml, hown, hts⟩ (c_XM_goesP l dC dI cA cZ _ ma a0 a1 a2 a3 a4 a5 a6 a7 a8 a9 a10 a11 mth mn mp mw mu md mo jc 1 (by first | assumption | omega) (by first | assumption | omega)) (cwV 2 hts (jG_V tw_698 tw_700 ts_14 tw_6 tw_701) rfl rfl rfl (by decide +kernel) (by rw [hR]; exact ⟨Nat.le_of_ble_eq_true rfl, Nat.le_of_ble_eq_true rfl⟩)) hK hP hD hS hA hN [0] [1, 2, 3, 4, 5] rfl rfl (by decide) (by decide) (by decide) 0 5 rfl rfl rfl rfl hl.1 rfl (Nat.le_of_ble_eq_true rfl) dXM_difference_27 (by rw [hR]; exact ⟨Nat.le_of_ble_eq_true rfl, Nat.le_of_ble_eq_true rfl⟩) (fun v u H locs hwb hP hD hS => ?_)
    obtain ⟨r, mth1'⟩ := u
    try dsimp only at hwb
    obtain ⟨er, hwb, f⟩ := hwb
    subst er
    have f : (r = 0 ∧ mth1' = 1 ∧ jc = 0) ∨ (r = 0 ∧ mth1' = 2 ∧ jc = 1 ∧ (1 : Int) = 0) ∨ (r = 1 ∧ mth1' = 0 ∧ jc = 1 ∧ (1 : Int) = 1) := f
    have hP : va_P (dC, dI) vwCl [(a1, .inl (cZ, 62, .inl (jA y1))), (a2, .inl (cA, 62, .inl (jA y2))), (a3, .inl (cZ, 496, .inl (jA y3))), (a4, .inl (cA, 496, .inl (jA y4))), (a5, .inl (cA, 496, .inl (jA y5))), (ma, .inr (5, [.int (jI mth1'), .int (jI mn), .ref a0, .int (jI mp), .int (jI mw), .ref a1, .ref a2, .ref a3, .ref a4, .ref a5, .ref a6, .ref a7, .ref a8, .ref a9, .ref a10, .long (jL mu), .long (jL md), .int (jI mo), .ref a11]))] H := hP
    have hD : va_D A [(a1, .inl (cZ, 62, .inl (jA y1))), (a2, .inl (cA, 62, .inl (jA y2))), (a3, .inl (cZ, 496, .inl (jA y3))), (a4, .inl (cA, 496, .inl (jA y4))), (a5, .inl (cA, 496, .inl (jA y5))), (ma, .inr (5, [.int (jI mth1'), .int (jI mn), .ref a0, .int (jI mp), .int (jI mw), .ref a1, .ref a2, .ref a3, .ref a4, .ref a5, .ref a6, .ref a7, .ref a8, .ref a9, .ref a10, .long (jL mu), .long (jL md), .int (jI mo), .ref a11]))] := hD
    refine ji_if_ne (tgt := 35) hx hb dXM_difference_30 (by decide) (by omega) (fun c30_ => ?_) (fun c30_ => ?_)
    · refine lv_iload_n hx hb dXM_difference_35 rfl (lv_at hl 3 rfl) ?_
      refine lv_istore (lv' := [(4, .int (jI z3)), (0, .ref ma), (1, .int (jI z1)), (2, .int (jI z2)), (3, .int (jI z3))]) hx hb dXM_difference_36 hl (by decide) rfl (fun ls hl => ?_)
      refine ji_iconst hx hb dXM_difference_38 ?_
      refine lv_istore (lv' := [(5, .int (jI 0)), (4, .int (jI z3)), (0, .ref ma), (1, .int (jI z1)), (2, .int (jI z2)), (3, .int (jI z3))]) hx hb dXM_difference_39 hl (by decide) rfl (fun ls hl => ?_)
      have loop41 : ∀ (n9 : Nat) (lf : Int) (k : Int) , 8 - k < (n9 : Int) → f_XM_differenceP_L41 mth mn mp mw mu md mo y1 y2 y3 y4 y5 z1 z2 z3 mth1' n9 lf k = f_XM_differenceP mth mn mp mw mu md mo y1 y2 y3 y4 y5 z1 z2 z3 → (0 ≤ k ∧ k ≤ 8) → (0 ≤ lf ∧ lf < 2147483648) → ∀ (H : Heap) (locs : List Loc), va_P (dC, dI) vwCl [(a1, .inl (cZ, 62, .inl (jA y1))), (a2, .inl (cA, 62, .inl (jA y2))), (a3, .inl (cZ, 496, .inl (jA y3))), (a4, .inl (cA, 496, .inl (jA y4))), (a5, .inl (cA, 496, .inl (jA y5))), (ma, .inr (5, [.int (jI mth1'), .int (jI mn), .ref a0, .int (jI mp), .int (jI mw), .ref a1, .ref a2, .ref a3, .ref a4, .ref a5, .ref a6, .ref a7, .ref a8, .ref a9, .ref a10, .long (jL mu), .long (jL md), .int (jI mo), .ref a11]))] H → va_D A [(a1, .inl (cZ, 62, .inl (jA y1))), (a2, .inl (cA, 62, .inl (jA y2))), (a3, .inl (cZ, 496, .inl (jA y3))), (a4, .inl (cA, 496, .inl (jA y4))), (a5, .inl (cA, 496, .inl (jA y5))), (ma, .inr (5, [.int (jI mth1'), .int (jI mn), .ref a0, .int (jI mp), .int (jI mw), .ref a1, .ref a2, .ref a3, .ref a4, .ref a5, .ref a6, .ref a7, .ref a8, .ref a9, .ref a10, .long (jL mu), .long (jL md), .int (jI mo), .ref a11]))] → va_S A s.heap H locs → ∀ ls : Array Slot, lv_has ls 6 [(5, .int (jI k)), (4, .int (jI lf)), (0, .ref ma), (1, .int (jI z1)), (2, .int (jI z2)), (3, .int (jI z3))] → W p l e R s m ([.ref ma, .int (jI z1), .int (jI z2), .int (jI z3)] : List Value).toArray below meth c H locs 0 0 Q (F0 m 41 ls []) := by
        intro n9
        induction n9 with
        | zero =>
          intro lf k hm hF hk hlf
          exact absurd hm (by omega)
        | succ n9 ih41 =>
          intro lf k hm hF hk hlf H locs hP hD hS ls hl
          refine lv_iload hx hb dXM_difference_41 (lv_at hl 0 rfl) ?_
          refine ji_bipush hx hb dXM_difference_43 (by decide) ?_
          refine ji_icmp_ge (tgt := 102) hx hb dXM_difference_45 (by decide) (by omega) (by omega) (fun c45_ => ?_) (fun c45_ => ?_)
          · refine ji_iconst hx hb dXM_difference_102 ?_
            have hP9 := hP.sub (ws' := [(ma, .inr (5, [.int (jI mth1'), .int (jI mn), .ref a0, .int (jI mp), .int (jI mw), .ref a1, .ref a2, .ref a3, .ref a4, .ref a5, .ref a6, .ref a7, .ref a8, .ref a9, .ref a10, .long (jL mu), .long (jL md), .int (jI mo), .ref a11])), (a1, .inl (cZ, 62, .inl (jA y1))), (a2, .inl (cA, 62, .inl (jA y2))), (a3, .inl (cZ, 496, .inl (jA y3))), (a4, .inl (cA, 496, .inl (jA y4))), (a5, .inl (cA, 496, .inl (jA y5)))]) [5, 0, 1, 2, 3, 4] rfl
            have hD9 := hD.sub (ws' := [(ma, .inr (5, [.int (jI mth1'), .int (jI mn), .ref a0, .int (jI mp), .int (jI mw), .ref a1, .ref a2, .ref a3, .ref a4, .ref a5, .ref a6, .ref a7, .ref a8, .ref a9, .ref a10, .long (jL mu), .long (jL md), .int (jI mo), .ref a11])), (a1, .inl (cZ, 62, .inl (jA y1))), (a2, .inl (cA, 62, .inl (jA y2))), (a3, .inl (cZ, 496, .inl (jA y3))), (a4, .inl (cA, 496, .inl (jA y4))), (a5, .inl (cA, 496, .inl (jA y5)))]) [5, 0, 1, 2, 3, 4] (by decide) rfl
            subst hAe
            subst hQ
            exact W.iret (v := jI (-1)) hx hb hr (fun t ht hW => ⟨⟨_, (-1, mth1'), rfl, ⟨rfl, Eq.trans (by rw [f_XM_differenceP_L41_s]; rw [if_neg (Int.not_lt.mpr c45_)]; try rfl) hF, show -1 ≤ (-1) ∧ (-1) ≤ 7 from by first | assumption | omega | exact jset_b (by assumption) (by omega) | exact jset_l (by assumption) (by omega) | exact jset_l (fun _ _ => rfl) (by omega) | exact fun _ _ => rfl | exact l_trans (by assumption) (by assumption), show 0 ≤ mth1' ∧ mth1' ≤ 2 from by first | assumption | omega | exact jset_b (by assumption) (by omega) | exact jset_l (by assumption) (by omega) | exact jset_l (fun _ _ => rfl) (by omega) | exact fun _ _ => rfl | exact l_trans (by assumption) (by assumption)⟩, ⟨by rw [ht]; exact hP9, va_K.moved hW.alike hK, hD9⟩⟩, hS.F ht⟩) hS.2.2 dXM_difference_103
          · refine lv_aload_n hx hb dXM_difference_48 rfl (lv_at hl 2 rfl) ?_
            refine lv_iload_n hx hb dXM_difference_49 rfl (lv_at hl 3 rfl) ?_
            refine lv_iload hx hb dXM_difference_50 (lv_at hl 0 rfl) ?_
            refine jrVi (rest := []) ⟨hx, hb, hml, hown, hts⟩ (c_XM_lowOfP l dC dI cA cZ ma a0 a1 a2 a3 a4 a5 a6 a7 a8 a9 a10 a11 mth1' mn mp mw mu md mo y1 y2 y3 y4 z1 k (by first | assumption | omega) (by first | assumption | omega) (by first | assumption | omega) (by first | assumption | omega) (by first | assumption | omega) (by first | assumption | omega)) (cwV 2 hts (jG_V tw_775 tw_777 ts_30 tw_6 tw_778) rfl rfl rfl (by decide +kernel) (by rw [hR]; exact ⟨Nat.le_of_ble_eq_true rfl, Nat.le_of_ble_eq_true rfl⟩)) hK hP hN [5, 0, 1, 2, 3] rfl 5 5 rfl rfl rfl rfl hl.1 rfl (Nat.le_of_ble_eq_true rfl) dXM_difference_52 (by rw [hR]; exact ⟨Nat.le_of_ble_eq_true rfl, Nat.le_of_ble_eq_true rfl⟩) ?_
            have f1 := f_XM_lowOfP_b mth1' mn mp mw mu md mo y1 y2 y3 y4 z1 k (by first | assumption | omega) (by first | assumption | omega) (by first | assumption | omega) (by first | assumption | omega) (by first | assumption | omega) (by first | assumption | omega)
            refine lv_aload_n hx hb dXM_difference_55 rfl (lv_at hl 2 rfl) ?_
            refine lv_iload_n hx hb dXM_difference_56 rfl (lv_at hl 4 rfl) ?_
            refine lv_iload hx hb dXM_difference_57 (lv_at hl 0 rfl) ?_
            refine jrVi (rest := [.int (jI (f_XM_lowOfP mth1' mn mp mw mu md mo y1 y2 y3 y4 z1 k))]) ⟨hx, hb, hml, hown, hts⟩ (c_XM_lowOfP l dC dI cA cZ ma a0 a1 a2 a3 a4 a5 a6 a7 a8 a9 a10 a11 mth1' mn mp mw mu md mo y1 y2 y3 y4 z2 k (by first | assumption | omega) (by first | assumption | omega) (by first | assumption | omega) (by first | assumption | omega) (by first | assumption | omega) (by first | assumption | omega)) (cwV 2 hts (jG_V tw_775 tw_777 ts_30 tw_6 tw_778) rfl rfl rfl (by decide +kernel) (by rw [hR]; exact ⟨Nat.le_of_ble_eq_true rfl, Nat.le_of_ble_eq_true rfl⟩)) hK hP hN [5, 0, 1, 2, 3] rfl 5 5 rfl rfl rfl rfl hl.1 rfl (Nat.le_of_ble_eq_true rfl) dXM_difference_59 (by rw [hR]; exact ⟨Nat.le_of_ble_eq_true rfl, Nat.le_of_ble_eq_true rfl⟩) ?_
            have f2 := f_XM_lowOfP_b mth1' mn mp mw mu md mo y1 y2 y3 y4 z2 k (by first | assumption | omega) (by first | assumption | omega) (by first | assumption | omega) (by first | assumption | omega) (by first | assumption | omega) (by first | assumption | omega)
            refine ji_icmp_ne (tgt := 85) hx hb dXM_difference_62 (by decide) (by omega) (by omega) (fun c62_ => ?_) (fun c62_ => ?_)
            · refine lv_iload hx hb dXM_difference_85 (lv_at hl 1 rfl) ?_
              refine ji_if_ne (tgt := 93) hx hb dXM_difference_87 (by decide) (by omega) (fun c87_ => ?_) (fun c87_ => ?_)
              · refine ji_iinc (k := 1) (lv' := [(4, .int (jI (lf + (-1)))), (5, .int (jI k)), (0, .ref ma), (1, .int (jI z1)), (2, .int (jI z2)), (3, .int (jI z3))]) hx hb dXM_difference_93 hl rfl (by decide) rfl (fun ls hl => ?_)
                refine ji_iinc (k := 1) (lv' := [(5, .int (jI (k + 1))), (4, .int (jI (lf + (-1)))), (0, .ref ma), (1, .int (jI z1)), (2, .int (jI z2)), (3, .int (jI z3))]) hx hb dXM_difference_96 hl rfl (by decide) rfl (fun ls hl => ?_)
                refine lv_goto (tgt := 41) hx hb dXM_difference_99 (by decide) ?_
                exact ih41 (lf + (-1)) (k + 1) (by omega) (Eq.trans (by rw [f_XM_differenceP_L41_s]; rw [if_pos c45_, if_neg c62_, if_neg c87_]; try rfl) hF) (by first | assumption | omega) (by first | assumption | omega) _ _ hP hD hS ls (lv_sub hl [0, 1, 2, 3, 4, 5] rfl)
              · refine lv_iload hx hb dXM_difference_90 (lv_at hl 0 rfl) ?_
                have hP9 := hP.sub (ws' := [(ma, .inr (5, [.int (jI mth1'), .int (jI mn), .ref a0, .int (jI mp), .int (jI mw), .ref a1, .ref a2, .ref a3, .ref a4, .ref a5, .ref a6, .ref a7, .ref a8, .ref a9, .ref a10, .long (jL mu), .long (jL md), .int (jI mo), .ref a11])), (a1, .inl (cZ, 62, .inl (jA y1))), (a2, .inl (cA, 62, .inl (jA y2))), (a3, .inl (cZ, 496, .inl (jA y3))), (a4, .inl (cA, 496, .inl (jA y4))), (a5, .inl (cA, 496, .inl (jA y5)))]) [5, 0, 1, 2, 3, 4] rfl
                have hD9 := hD.sub (ws' := [(ma, .inr (5, [.int (jI mth1'), .int (jI mn), .ref a0, .int (jI mp), .int (jI mw), .ref a1, .ref a2, .ref a3, .ref a4, .ref a5, .ref a6, .ref a7, .ref a8, .ref a9, .ref a10, .long (jL mu), .long (jL md), .int (jI mo), .ref a11])), (a1, .inl (cZ, 62, .inl (jA y1))), (a2, .inl (cA, 62, .inl (jA y2))), (a3, .inl (cZ, 496, .inl (jA y3))), (a4, .inl (cA, 496, .inl (jA y4))), (a5, .inl (cA, 496, .inl (jA y5)))]) [5, 0, 1, 2, 3, 4] (by decide) rfl
                subst hAe
                subst hQ
                exact W.iret (v := jI k) hx hb hr (fun t ht hW => ⟨⟨_, (k, mth1'), rfl, ⟨rfl, Eq.trans (by rw [f_XM_differenceP_L41_s]; rw [if_pos c45_, if_neg c62_, if_pos c87_]; try rfl) hF, show -1 ≤ k ∧ k ≤ 7 from by first | assumption | omega | exact jset_b (by assumption) (by omega) | exact jset_l (by assumption) (by omega) | exact jset_l (fun _ _ => rfl) (by omega) | exact fun _ _ => rfl | exact l_trans (by assumption) (by assumption), show 0 ≤ mth1' ∧ mth1' ≤ 2 from by first | assumption | omega | exact jset_b (by assumption) (by omega) | exact jset_l (by assumption) (by omega) | exact jset_l (fun _ _ => rfl) (by omega) | exact fun _ _ => rfl | exact l_trans (by assumption) (by assumption)⟩, ⟨by rw [ht]; exact hP9, va_K.moved hW.alike hK, hD9⟩⟩, hS.F ht⟩) hS.2.2 dXM_difference_92
            · refine lv_aload_n hx hb dXM_difference_65 rfl (lv_at hl 2 rfl) ?_
              refine lv_iload_n hx hb dXM_difference_66 rfl (lv_at hl 3 rfl) ?_
              refine lv_iload hx hb dXM_difference_67 (lv_at hl 0 rfl) ?_
              refine jrVi (rest := []) ⟨hx, hb, hml, hown, hts⟩ (c_XM_highOfP l dC dI cA cZ ma a0 a1 a2 a3 a4 a5 a6 a7 a8 a9 a10 a11 mth1' mn mp mw mu md mo y1 y2 y3 y5 z1 k (by first | assumption | omega) (by first | assumption | omega) (by first | assumption | omega) (by first | assumption | omega) (by first | assumption | omega) (by first | assumption | omega)) (cwV 2 hts (jG_V tw_787 tw_789 ts_33 tw_6 tw_790) rfl rfl rfl (by decide +kernel) (by rw [hR]; exact ⟨Nat.le_of_ble_eq_true rfl, Nat.le_of_ble_eq_true rfl⟩)) hK hP hN [5, 0, 1, 2, 4] rfl 5 5 rfl rfl rfl rfl hl.1 rfl (Nat.le_of_ble_eq_true rfl) dXM_difference_69 (by rw [hR]; exact ⟨Nat.le_of_ble_eq_true rfl, Nat.le_of_ble_eq_true rfl⟩) ?_
              have f3 := f_XM_highOfP_b mth1' mn mp mw mu md mo y1 y2 y3 y5 z1 k (by first | assumption | omega) (by first | assumption | omega) (by first | assumption | omega) (by first | assumption | omega) (by first | assumption | omega) (by first | assumption | omega)
              refine lv_aload_n hx hb dXM_difference_72 rfl (lv_at hl 2 rfl) ?_
              refine lv_iload_n hx hb dXM_difference_73 rfl (lv_at hl 4 rfl) ?_
              refine lv_iload hx hb dXM_difference_74 (lv_at hl 0 rfl) ?_
              refine jrVi (rest := [.int (jI (f_XM_highOfP mth1' mn mp mw mu md mo y1 y2 y3 y5 z1 k))]) ⟨hx, hb, hml, hown, hts⟩ (c_XM_highOfP l dC dI cA cZ ma a0 a1 a2 a3 a4 a5 a6 a7 a8 a9 a10 a11 mth1' mn mp mw mu md mo y1 y2 y3 y5 z2 k (by first | assumption | omega) (by first | assumption | omega) (by first | assumption | omega) (by first | assumption | omega) (by first | assumption | omega) (by first | assumption | omega)) (cwV 2 hts (jG_V tw_787 tw_789 ts_33 tw_6 tw_790) rfl rfl rfl (by decide +kernel) (by rw [hR]; exact ⟨Nat.le_of_ble_eq_true rfl, Nat.le_of_ble_eq_true rfl⟩)) hK hP hN [5, 0, 1, 2, 4] rfl 5 5 rfl rfl rfl rfl hl.1 rfl (Nat.le_of_ble_eq_true rfl) dXM_difference_76 (by rw [hR]; exact ⟨Nat.le_of_ble_eq_true rfl, Nat.le_of_ble_eq_true rfl⟩) ?_
              have f4 := f_XM_highOfP_b mth1' mn mp mw mu md mo y1 y2 y3 y5 z2 k (by first | assumption | omega) (by first | assumption | omega) (by first | assumption | omega) (by first | assumption | omega) (by first | assumption | omega) (by first | assumption | omega)
              refine ji_icmp_ne (tgt := 85) hx hb dXM_difference_79 (by decide) (by omega) (by omega) (fun c79_ => ?_) (fun c79_ => ?_)
              · refine lv_iload hx hb dXM_difference_85 (lv_at hl 1 rfl) ?_
                refine ji_if_ne (tgt := 93) hx hb dXM_difference_87 (by decide) (by omega) (fun c87_5 => ?_) (fun c87_5 => ?_)
                · refine ji_iinc (k := 1) (lv' := [(4, .int (jI (lf + (-1)))), (5, .int (jI k)), (0, .ref ma), (1, .int (jI z1)), (2, .int (jI z2)), (3, .int (jI z3))]) hx hb dXM_difference_93 hl rfl (by decide) rfl (fun ls hl => ?_)
                  refine ji_iinc (k := 1) (lv' := [(5, .int (jI (k + 1))), (4, .int (jI (lf + (-1)))), (0, .ref ma), (1, .int (jI z1)), (2, .int (jI z2)), (3, .int (jI z3))]) hx hb dXM_difference_96 hl rfl (by decide) rfl (fun ls hl => ?_)
                  refine lv_goto (tgt := 41) hx hb dXM_difference_99 (by decide) ?_
                  exact ih41 (lf + (-1)) (k + 1) (by omega) (Eq.trans (by rw [f_XM_differenceP_L41_s]; rw [if_pos c45_, if_pos c62_, if_neg c79_, if_neg c87_5]; try rfl) hF) (by first | assumption | omega) (by first | assumption | omega) _ _ hP hD hS ls (lv_sub hl [0, 1, 2, 3, 4, 5] rfl)
                · refine lv_iload hx hb dXM_difference_90 (lv_at hl 0 rfl) ?_
                  have hP9 := hP.sub (ws' := [(ma, .inr (5, [.int (jI mth1'), .int (jI mn), .ref a0, .int (jI mp), .int (jI mw), .ref a1, .ref a2, .ref a3, .ref a4, .ref a5, .ref a6, .ref a7, .ref a8, .ref a9, .ref a10, .long (jL mu), .long (jL md), .int (jI mo), .ref a11])), (a1, .inl (cZ, 62, .inl (jA y1))), (a2, .inl (cA, 62, .inl (jA y2))), (a3, .inl (cZ, 496, .inl (jA y3))), (a4, .inl (cA, 496, .inl (jA y4))), (a5, .inl (cA, 496, .inl (jA y5)))]) [5, 0, 1, 2, 3, 4] rfl
                  have hD9 := hD.sub (ws' := [(ma, .inr (5, [.int (jI mth1'), .int (jI mn), .ref a0, .int (jI mp), .int (jI mw), .ref a1, .ref a2, .ref a3, .ref a4, .ref a5, .ref a6, .ref a7, .ref a8, .ref a9, .ref a10, .long (jL mu), .long (jL md), .int (jI mo), .ref a11])), (a1, .inl (cZ, 62, .inl (jA y1))), (a2, .inl (cA, 62, .inl (jA y2))), (a3, .inl (cZ, 496, .inl (jA y3))), (a4, .inl (cA, 496, .inl (jA y4))), (a5, .inl (cA, 496, .inl (jA y5)))]) [5, 0, 1, 2, 3, 4] (by decide) rfl
                  subst hAe
                  subst hQ
                  exact W.iret (v := jI k) hx hb hr (fun t ht hW => ⟨⟨_, (k, mth1'), rfl, ⟨rfl, Eq.trans (by rw [f_XM_differenceP_L41_s]; rw [if_pos c45_, if_pos c62_, if_neg c79_, if_pos c87_5]; try rfl) hF, show -1 ≤ k ∧ k ≤ 7 from by first | assumption | omega | exact jset_b (by assumption) (by omega) | exact jset_l (by assumption) (by omega) | exact jset_l (fun _ _ => rfl) (by omega) | exact fun _ _ => rfl | exact l_trans (by assumption) (by assumption), show 0 ≤ mth1' ∧ mth1' ≤ 2 from by first | assumption | omega | exact jset_b (by assumption) (by omega) | exact jset_l (by assumption) (by omega) | exact jset_l (fun _ _ => rfl) (by omega) | exact fun _ _ => rfl | exact l_trans (by assumption) (by assumption)⟩, ⟨by rw [ht]; exact hP9, va_K.moved hW.alike hK, hD9⟩⟩, hS.F ht⟩) hS.2.2 dXM_difference_92
              · refine lv_goto (tgt := 96) hx hb dXM_difference_82 (by decide) ?_
                refine ji_iinc (k := 0) (lv' := [(5, .int (jI (k + 1))), (4, .int (jI lf)), (0, .ref ma), (1, .int (jI z1)), (2, .int (jI z2)), (3, .int (jI z3))]) hx hb dXM_difference_96 hl rfl (by decide) rfl (fun ls hl => ?_)
                refine lv_goto (tgt := 41) hx hb dXM_difference_99 (by decide) ?_
                exact ih41 lf (k + 1) (by omega) (Eq.trans (by rw [f_XM_differenceP_L41_s]; rw [if_pos c45_, if_pos c62_, if_pos c79_]; try rfl) hF) (by first | assumption | omega) (by first | assumption | omega) _ _ hP hD hS ls (lv_sub hl [0, 1, 2, 3, 4, 5] rfl)
      exact loop41 (Int.toNat (8 - 0) + 1) z3 0 (by omega) (Eq.trans (by rw [f_XM_differenceP_J26_s]; rw [← hwb]; try dsimp only; rw [if_neg c30_]; try rfl) hF) (by first | assumption | omega) (by first | assumption | omega) _ _ hP hD hS ls (lv_sub hl [0, 1, 2, 3, 4, 5] rfl)
    · refine ji_iconst hx hb dXM_difference_33 ?_
      have hP9 := hP.sub (ws' := [(ma, .inr (5, [.int (jI mth1'), .int (jI mn), .ref a0, .int (jI mp), .int (jI mw), .ref a1, .ref a2, .ref a3, .ref a4, .ref a5, .ref a6, .ref a7, .ref a8, .ref a9, .ref a10, .long (jL mu), .long (jL md), .int (jI mo), .ref a11])), (a1, .inl (cZ, 62, .inl (jA y1))), (a2, .inl (cA, 62, .inl (jA y2))), (a3, .inl (cZ, 496, .inl (jA y3))), (a4, .inl (cA, 496, .inl (jA y4))), (a5, .inl (cA, 496, .inl (jA y5)))]) [5, 0, 1, 2, 3, 4] rfl
      have hD9 := hD.sub (ws' := [(ma, .inr (5, [.int (jI mth1'), .int (jI mn), .ref a0, .int (jI mp), .int (jI mw), .ref a1, .ref a2, .ref a3, .ref a4, .ref a5, .ref a6, .ref a7, .ref a8, .ref a9, .ref a10, .long (jL mu), .long (jL md), .int (jI mo), .ref a11])), (a1, .inl (cZ, 62, .inl (jA y1))), (a2, .inl (cA, 62, .inl (jA y2))), (a3, .inl (cZ, 496, .inl (jA y3))), (a4, .inl (cA, 496, .inl (jA y4))), (a5, .inl (cA, 496, .inl (jA y5)))]) [5, 0, 1, 2, 3, 4] (by decide) rfl
      subst hAe
      subst hQ
      exact W.iret (v := jI 0) hx hb hr (fun t ht hW => ⟨⟨_, (0, mth1'), rfl, ⟨rfl, Eq.trans (by rw [f_XM_differenceP_J26_s]; rw [← hwb]; try dsimp only; rw [if_pos c30_]; try rfl) hF, show -1 ≤ 0 ∧ 0 ≤ 7 from by first | assumption | omega | exact jset_b (by assumption) (by omega) | exact jset_l (by assumption) (by omega) | exact jset_l (fun _ _ => rfl) (by omega) | exact fun _ _ => rfl | exact l_trans (by assumption) (by assumption), show 0 ≤ mth1' ∧ mth1' ≤ 2 from by first | assumption | omega | exact jset_b (by assumption) (by omega) | exact jset_l (by assumption) (by omega) | exact jset_l (fun _ _ => rfl) (by omega) | exact fun _ _ => rfl | exact l_trans (by assumption) (by assumption)⟩, ⟨by rw [ht]; exact hP9, va_K.moved hW.alike hK, hD9⟩⟩, hS.F ht⟩) hS.2.2 dXM_difference_34
  refine lv_aload_n hx hb dXM_difference_1 rfl (lv_at hl 0 rfl) ?_
  refine lv_iload_n hx hb dXM_difference_2 rfl (lv_at hl 1 rfl) ?_
  refine jrVi (rest := [.ref ma]) ⟨hx, hb, hml, hown, hts⟩ (c_XM_isTold l dC dI cA cZ ma a0 a1 a2 a3 a4 a5 a6 a7 a8 a9 a10 a11 mth mn mp mw mu md mo y1 z1 (by first | assumption | omega) (by first | assumption | omega)) (cwV 1 hts (jG_V tw_768 tw_770 ts_29 tw_6 tw_771) rfl rfl rfl (by decide +kernel) (by rw [hR]; exact ⟨Nat.le_of_ble_eq_true rfl, Nat.le_of_ble_eq_true rfl⟩)) hK hP hN [0, 1] rfl 0 5 rfl rfl rfl rfl hl.1 rfl (Nat.le_of_ble_eq_true rfl) dXM_difference_3 (by rw [hR]; exact ⟨Nat.le_of_ble_eq_true rfl, Nat.le_of_ble_eq_true rfl⟩) ?_
  have f6 := f_XM_isTold_b mth mn mp mw mu md mo y1 z1 (by first | assumption | omega) (by first | assumption | omega)
  refine ji_if_eq (tgt := 25) hx hb dXM_difference_6 (by decide) (by omega) (fun c6_ => ?_) (fun c6_ => ?_)
  · refine ji_iconst hx hb dXM_difference_25 ?_
    exact join26 0 (Eq.trans (by rw [f_XM_differenceP_s]; rw [if_pos c6_]; try rfl) rfl) (by first | assumption | omega | exact jset_b (by assumption) (by omega)) _ _ hP hD hS ls (lv_sub hl [0, 1, 2, 3] rfl)
  · refine lv_aload_n hx hb dXM_difference_9 rfl (lv_at hl 0 rfl) ?_
    refine lv_iload_n hx hb dXM_difference_10 rfl (lv_at hl 2 rfl) ?_
    refine jrVi (rest := [.ref ma]) ⟨hx, hb, hml, hown, hts⟩ (c_XM_isTold l dC dI cA cZ ma a0 a1 a2 a3 a4 a5 a6 a7 a8 a9 a10 a11 mth mn mp mw mu md mo y1 z2 (by first | assumption | omega) (by first | assumption | omega)) (cwV 1 hts (jG_V tw_768 tw_770 ts_29 tw_6 tw_771) rfl rfl rfl (by decide +kernel) (by rw [hR]; exact ⟨Nat.le_of_ble_eq_true rfl, Nat.le_of_ble_eq_true rfl⟩)) hK hP hN [0, 1] rfl 0 5 rfl rfl rfl rfl hl.1 rfl (Nat.le_of_ble_eq_true rfl) dXM_difference_11 (by rw [hR]; exact ⟨Nat.le_of_ble_eq_true rfl, Nat.le_of_ble_eq_true rfl⟩) ?_
    have f7 := f_XM_isTold_b mth mn mp mw mu md mo y1 z2 (by first | assumption | omega) (by first | assumption | omega)
    refine ji_if_eq (tgt := 25) hx hb dXM_difference_14 (by decide) (by omega) (fun c14_ => ?_) (fun c14_ => ?_)
    · refine ji_iconst hx hb dXM_difference_25 ?_
      exact join26 0 (Eq.trans (by rw [f_XM_differenceP_s]; rw [if_neg c6_, if_pos c14_]; try rfl) rfl) (by first | assumption | omega | exact jset_b (by assumption) (by omega)) _ _ hP hD hS ls (lv_sub hl [0, 1, 2, 3] rfl)
    · refine lv_iload_n hx hb dXM_difference_17 rfl (lv_at hl 3 rfl) ?_
      refine ji_if_lt (tgt := 25) hx hb dXM_difference_18 (by decide) (by omega) (fun c18_ => ?_) (fun c18_ => ?_)
      · refine ji_iconst hx hb dXM_difference_25 ?_
        exact join26 0 (Eq.trans (by rw [f_XM_differenceP_s]; rw [if_neg c6_, if_neg c14_, if_pos c18_]; try rfl) rfl) (by first | assumption | omega | exact jset_b (by assumption) (by omega)) _ _ hP hD hS ls (lv_sub hl [0, 1, 2, 3] rfl)
      · refine ji_iconst hx hb dXM_difference_21 ?_
        refine lv_goto (tgt := 26) hx hb dXM_difference_22 (by decide) ?_
        exact join26 1 (Eq.trans (by rw [f_XM_differenceP_s]; rw [if_neg c6_, if_neg c14_, if_neg (Int.not_lt.mpr c18_)]; try rfl) rfl) (by first | assumption | omega | exact jset_b (by assumption) (by omega)) _ _ hP hD hS ls (lv_sub hl [0, 1, 2, 3] rfl)

end
