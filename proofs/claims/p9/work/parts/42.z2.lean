noncomputable def g_XM_isAboveP (mth : Int) (mn : Int) (mp : Int) (mw : Int) (mu : Int) (md : Int) (mo : Int) (y1 : Int → Int) (y2 : Int → Int) (y3 : Int → Int) (y4 : Int → Int) (y5 : Int → Int) (y7 : Int → Int) (y8 : Int → Int) (y9 : Int → Int) (y10 : Int → Int) (z1 : Int) (z2 : Int) (z3 : Int) (z4 : Int) : Int × Int × Int :=
  if (y8 z3) = 0 then
    (0, mu, md)
  else
    if (f_XM_limitOfP mth mn mp mw mu md mo y1 y2 y7 z1 z3) < 0 then
      (0, mu, md)
    else
      match f_XM_reckonP mth mn mp mw mu md mo y1 y2 y3 y4 y5 y9 y10 z2 z3 z4 with
      | (mu1', md1') =>
        if ((f_XM_limitOfP mth mn mp mw mu1' md1' mo y1 y2 y7 z1 z3) * md1') < mu1' then
          (1, mu1', md1')
        else
          (0, mu1', md1')
noncomputable def f_XM_isAboveP : Int → Int → Int → Int → Int → Int → Int → (Int → Int) → (Int → Int) → (Int → Int) → (Int → Int) → (Int → Int) → (Int → Int) → (Int → Int) → (Int → Int) → (Int → Int) → Int → Int → Int → Int → Int × Int × Int := jopq g_XM_isAboveP
theorem f_XM_isAboveP_q : f_XM_isAboveP = g_XM_isAboveP := jopq_eq _
theorem f_XM_isAboveP_s (mth : Int) (mn : Int) (mp : Int) (mw : Int) (mu : Int) (md : Int) (mo : Int) (y1 : Int → Int) (y2 : Int → Int) (y3 : Int → Int) (y4 : Int → Int) (y5 : Int → Int) (y7 : Int → Int) (y8 : Int → Int) (y9 : Int → Int) (y10 : Int → Int) (z1 : Int) (z2 : Int) (z3 : Int) (z4 : Int) : f_XM_isAboveP mth mn mp mw mu md mo y1 y2 y3 y4 y5 y7 y8 y9 y10 z1 z2 z3 z4 = (
    if (y8 z3) = 0 then
      (0, mu, md)
    else
      if (f_XM_limitOfP mth mn mp mw mu md mo y1 y2 y7 z1 z3) < 0 then
        (0, mu, md)
      else
        match f_XM_reckonP mth mn mp mw mu md mo y1 y2 y3 y4 y5 y9 y10 z2 z3 z4 with
        | (mu1', md1') =>
          if ((f_XM_limitOfP mth mn mp mw mu1' md1' mo y1 y2 y7 z1 z3) * md1') < mu1' then
            (1, mu1', md1')
          else
            (0, mu1', md1')
  : Int × Int × Int) := by rw [f_XM_isAboveP_q]; rfl
set_option maxHeartbeats 4000000 in
set_option maxRecDepth 100000 in
theorem c_XM_isAboveP (l : Launch) (dC : Nat → ClassId) (dI : Nat → Nat → Nat) (cA cZ : ClassId) (sz : Nat) (ma : Nat) (a0 : Nat) (a1 : Nat) (a2 : Nat) (a3 : Nat) (a4 : Nat) (a5 : Nat) (a6 : Nat) (a7 : Nat) (a8 : Nat) (a9 : Nat) (a10 : Nat) (a11 : Nat) (mth : Int) (mn : Int) (mp : Int) (mw : Int) (mu : Int) (md : Int) (mo : Int) (y1 : Int → Int) (y2 : Int → Int) (y3 : Int → Int) (y4 : Int → Int) (y5 : Int → Int) (y7 : Int → Int) (y8 : Int → Int) (y9 : Int → Int) (y10 : Int → Int) (z1 : Int) (z2 : Int) (z3 : Int) (z4 : Int) (hy1 : ∀ i, 0 ≤ y1 i ∧ y1 i ≤ 1) (hy2 : ∀ i, 0 ≤ y2 i ∧ y2 i ≤ 30) (hy3 : ∀ i, 0 ≤ y3 i ∧ y3 i ≤ 1) (hy4 : ∀ i, 0 ≤ y4 i ∧ y4 i ≤ 100000) (hy5 : ∀ i, 0 ≤ y5 i ∧ y5 i ≤ 100000) (hy7 : ∀ i, -1 ≤ y7 i ∧ y7 i ≤ 999999) (hy8 : ∀ i, 0 ≤ y8 i ∧ y8 i ≤ 1) (hy9 : ∀ i, 0 ≤ y9 i ∧ y9 i ≤ 20) (hy10 : ∀ i, 0 ≤ y10 i ∧ y10 i ≤ 100000) (hz1 : 1 ≤ z1 ∧ z1 ≤ 30) (hz3 : 0 ≤ z3 ∧ z3 ≤ 3) (hz4 : z4 = 2 ∨ (1 ≤ z2 ∧ z2 ≤ 30 ∧ 0 ≤ z4 ∧ z4 ≤ 1)) : Met l yXM_isAbove (Cond.code yXM_isAbove cXM_isAbove 5 (some .boolean) :: TBL) ({ frames := 6, cells := 0, slots := 0, locals := 134 } : Room) (va_Pc [.ref ma, .int (jI z1), .int (jI z2), .int (jI z3), .int (jI z4)] (jBw (dC, dI) [(cA, .int), (cZ, .boolean)] [(ma, .inr (5, [.int (jI mth), .int (jI mn), .ref a0, .int (jI mp), .int (jI mw), .ref a1, .ref a2, .ref a3, .ref a4, .ref a5, .ref a6, .ref a7, .ref a8, .ref a9, .ref a10, .long (jL mu), .long (jL md), .int (jI mo), .ref a11])), (a1, .inl (cZ, 62, .inl (jA y1))), (a2, .inl (cA, 62, .inl (jA y2))), (a3, .inl (cZ, 496, .inl (jA y3))), (a4, .inl (cA, 496, .inl (jA y4))), (a5, .inl (cA, 496, .inl (jA y5))), (a7, .inl (cA, 248, .inl (jA y7))), (a8, .inl (cZ, 8, .inl (jA y8))), (a9, .inl (cA, 64, .inl (jA y9))), (a10, .inl (cA, 8, .inl (jA y10)))] sz)) (va_Qi (fun (r : Int32) (u : Int × Int × Int) => r = jI u.1 ∧ u = f_XM_isAboveP mth mn mp mw mu md mo y1 y2 y3 y4 y5 y7 y8 y9 y10 z1 z2 z3 z4 ∧ (0 ≤ u.1 ∧ u.1 ≤ 1)) (fun u t => jE (dC, dI) [(cA, .int), (cZ, .boolean)] [(ma, .inr (5, [.int (jI mth), .int (jI mn), .ref a0, .int (jI mp), .int (jI mw), .ref a1, .ref a2, .ref a3, .ref a4, .ref a5, .ref a6, .ref a7, .ref a8, .ref a9, .ref a10, .long (jL mu), .long (jL md), .int (jI mo), .ref a11])), (a1, .inl (cZ, 62, .inl (jA y1))), (a2, .inl (cA, 62, .inl (jA y2))), (a3, .inl (cZ, 496, .inl (jA y3))), (a4, .inl (cA, 496, .inl (jA y4))), (a5, .inl (cA, 496, .inl (jA y5))), (a7, .inl (cA, 248, .inl (jA y7))), (a8, .inl (cZ, 8, .inl (jA y8))), (a9, .inl (cA, 64, .inl (jA y9))), (a10, .inl (cA, 8, .inl (jA y10)))] sz [(ma, .inr (5, [.int (jI mth), .int (jI mn), .ref a0, .int (jI mp), .int (jI mw), .ref a1, .ref a2, .ref a3, .ref a4, .ref a5, .ref a6, .ref a7, .ref a8, .ref a9, .ref a10, .long (jL u.2.1), .long (jL u.2.2), .int (jI mo), .ref a11])), (a1, .inl (cZ, 62, .inl (jA y1))), (a2, .inl (cA, 62, .inl (jA y2))), (a3, .inl (cZ, 496, .inl (jA y3))), (a4, .inl (cA, 496, .inl (jA y4))), (a5, .inl (cA, 496, .inl (jA y5))), (a7, .inl (cA, 248, .inl (jA y7))), (a8, .inl (cZ, 8, .inl (jA y8))), (a9, .inl (cA, 64, .inl (jA y9))), (a10, .inl (cA, 8, .inl (jA y10)))] t) (va_A [(ma, .inr (5, [.int (jI mth), .int (jI mn), .ref a0, .int (jI mp), .int (jI mw), .ref a1, .ref a2, .ref a3, .ref a4, .ref a5, .ref a6, .ref a7, .ref a8, .ref a9, .ref a10, .long (jL mu), .long (jL md), .int (jI mo), .ref a11])), (a1, .inl (cZ, 62, .inl (jA y1))), (a2, .inl (cA, 62, .inl (jA y2))), (a3, .inl (cZ, 496, .inl (jA y3))), (a4, .inl (cA, 496, .inl (jA y4))), (a5, .inl (cA, 496, .inl (jA y5))), (a7, .inl (cA, 248, .inl (jA y7))), (a8, .inl (cZ, 8, .inl (jA y8))), (a9, .inl (cA, 64, .inl (jA y9))), (a10, .inl (cA, 8, .inl (jA y10)))] sz)) 0 0 (va_A [(ma, .inr (5, [.int (jI mth), .int (jI mn), .ref a0, .int (jI mp), .int (jI mw), .ref a1, .ref a2, .ref a3, .ref a4, .ref a5, .ref a6, .ref a7, .ref a8, .ref a9, .ref a10, .long (jL mu), .long (jL md), .int (jI mo), .ref a11])), (a1, .inl (cZ, 62, .inl (jA y1))), (a2, .inl (cA, 62, .inl (jA y2))), (a3, .inl (cZ, 496, .inl (jA y3))), (a4, .inl (cA, 496, .inl (jA y4))), (a5, .inl (cA, 496, .inl (jA y5))), (a7, .inl (cA, 248, .inl (jA y7))), (a8, .inl (cZ, 8, .inl (jA y8))), (a9, .inl (cA, 64, .inl (jA y9))), (a10, .inl (cA, 8, .inl (jA y10)))] sz) := by
  refine jMet (cc := cXM_isAbove) (maxL := 5) (ret := some .boolean) (by decide) rfl ?_
  intro p e s m args below meth c s₁ R Q hR hQ B hml hv
  obtain ⟨rfl, hsz, hP, hK, hD0, hN⟩ := hv
  have hx := B.exec
  have hb := B.bytes
  have hr := B.returns
  have hts := atoms_spec (ws := Cond.code yXM_isAbove cXM_isAbove 5 (some .boolean) :: TBL) B.pre
  have hown : s.vm.findClass RXM = some m.cls := findClass_of_methodNamed B.named
  have hlocks := B.notSynchronized
  subst hsz
  obtain ⟨A, hAe⟩ : ∃ A, A = va_A [(ma, .inr (5, [.int (jI mth), .int (jI mn), .ref a0, .int (jI mp), .int (jI mw), .ref a1, .ref a2, .ref a3, .ref a4, .ref a5, .ref a6, .ref a7, .ref a8, .ref a9, .ref a10, .long (jL mu), .long (jL md), .int (jI mo), .ref a11])), (a1, .inl (cZ, 62, .inl (jA y1))), (a2, .inl (cA, 62, .inl (jA y2))), (a3, .inl (cZ, 496, .inl (jA y3))), (a4, .inl (cA, 496, .inl (jA y4))), (a5, .inl (cA, 496, .inl (jA y5))), (a7, .inl (cA, 248, .inl (jA y7))), (a8, .inl (cZ, 8, .inl (jA y8))), (a9, .inl (cA, 64, .inl (jA y9))), (a10, .inl (cA, 8, .inl (jA y10)))] s.heap.size := ⟨_, rfl⟩
  have hD : va_D A [(ma, .inr (5, [.int (jI mth), .int (jI mn), .ref a0, .int (jI mp), .int (jI mw), .ref a1, .ref a2, .ref a3, .ref a4, .ref a5, .ref a6, .ref a7, .ref a8, .ref a9, .ref a10, .long (jL mu), .long (jL md), .int (jI mo), .ref a11])), (a1, .inl (cZ, 62, .inl (jA y1))), (a2, .inl (cA, 62, .inl (jA y2))), (a3, .inl (cZ, 496, .inl (jA y3))), (a4, .inl (cA, 496, .inl (jA y4))), (a5, .inl (cA, 496, .inl (jA y5))), (a7, .inl (cA, 248, .inl (jA y7))), (a8, .inl (cZ, 8, .inl (jA y8))), (a9, .inl (cA, 64, .inl (jA y9))), (a10, .inl (cA, 8, .inl (jA y10)))] := by rw [hAe]; exact hD0.self
  have hA : ∀ q : Nat, s.heap.size ≤ q → A q := fun q h => by rw [hAe]; exact Or.inr h
  have hS : va_S A s.heap s.heap [] := va_S.rf
  have hP : va_P (dC, dI) vwCl [(ma, .inr (5, [.int (jI mth), .int (jI mn), .ref a0, .int (jI mp), .int (jI mw), .ref a1, .ref a2, .ref a3, .ref a4, .ref a5, .ref a6, .ref a7, .ref a8, .ref a9, .ref a10, .long (jL mu), .long (jL md), .int (jI mo), .ref a11])), (a1, .inl (cZ, 62, .inl (jA y1))), (a2, .inl (cA, 62, .inl (jA y2))), (a3, .inl (cZ, 496, .inl (jA y3))), (a4, .inl (cA, 496, .inl (jA y4))), (a5, .inl (cA, 496, .inl (jA y5))), (a7, .inl (cA, 248, .inl (jA y7))), (a8, .inl (cZ, 8, .inl (jA y8))), (a9, .inl (cA, 64, .inl (jA y9))), (a10, .inl (cA, 8, .inl (jA y10)))] s.heap := hP
  have hl := lv_entry ([.ref ma, .int (jI z1), .int (jI z2), .int (jI z3), .int (jI z4)]) (n := 5) (Nat.le_of_ble_eq_true rfl)
  rw [lg_entry_eq]
  generalize (lg_sl ([.ref ma, .int (jI z1), .int (jI z2), .int (jI z3), .int (jI z4)]) ++ List.replicate (5 - (lg_sl ([.ref ma, .int (jI z1), .int (jI z2), .int (jI z3), .int (jI z4)])).length) Slot.unset).toArray = ls at hl ⊢
  have hl : lv_has ls 5 [(0, .ref ma), (1, .int (jI z1)), (2, .int (jI z2)), (3, .int (jI z3)), (4, .int (jI z4))] := hl
  refine lv_aload_n hx hb dXM_isAbove_0 rfl (lv_at hl 0 rfl) ?_
  refine va_get (D := (dC, dI)) (ci := 5) (v := .ref a8) (C := RXM) (T := TXM) (N := 19) hx hb hts (fun w h => jmem (inXM w h)) hown hK hP 0 rfl rfl 12 (by decide) (hts _ (jmem tw_640)) (fun _ h9 => h9) rfl dXM_isAbove_1 ?_
  refine lv_iload_n hx hb dXM_isAbove_4 rfl (lv_at hl 3 rfl) ?_
  refine ji_zald hx hb hK hP 7 1 rfl rfl ⟨by omega, by omega⟩ (by decide) dXM_isAbove_5 ?_
  have rb := hy8 z3
  refine ji_if_eq (tgt := 18) hx hb dXM_isAbove_6 (by decide) (by omega) (fun c6_ => ?_) (fun c6_ => ?_)
  · refine ji_iconst hx hb dXM_isAbove_18 ?_
    have hP9 := hP.sub (ws' := [(ma, .inr (5, [.int (jI mth), .int (jI mn), .ref a0, .int (jI mp), .int (jI mw), .ref a1, .ref a2, .ref a3, .ref a4, .ref a5, .ref a6, .ref a7, .ref a8, .ref a9, .ref a10, .long (jL mu), .long (jL md), .int (jI mo), .ref a11])), (a1, .inl (cZ, 62, .inl (jA y1))), (a2, .inl (cA, 62, .inl (jA y2))), (a3, .inl (cZ, 496, .inl (jA y3))), (a4, .inl (cA, 496, .inl (jA y4))), (a5, .inl (cA, 496, .inl (jA y5))), (a7, .inl (cA, 248, .inl (jA y7))), (a8, .inl (cZ, 8, .inl (jA y8))), (a9, .inl (cA, 64, .inl (jA y9))), (a10, .inl (cA, 8, .inl (jA y10)))]) [0, 1, 2, 3, 4, 5, 6, 7, 8, 9] rfl
    have hD9 := hD.sub (ws' := [(ma, .inr (5, [.int (jI mth), .int (jI mn), .ref a0, .int (jI mp), .int (jI mw), .ref a1, .ref a2, .ref a3, .ref a4, .ref a5, .ref a6, .ref a7, .ref a8, .ref a9, .ref a10, .long (jL mu), .long (jL md), .int (jI mo), .ref a11])), (a1, .inl (cZ, 62, .inl (jA y1))), (a2, .inl (cA, 62, .inl (jA y2))), (a3, .inl (cZ, 496, .inl (jA y3))), (a4, .inl (cA, 496, .inl (jA y4))), (a5, .inl (cA, 496, .inl (jA y5))), (a7, .inl (cA, 248, .inl (jA y7))), (a8, .inl (cZ, 8, .inl (jA y8))), (a9, .inl (cA, 64, .inl (jA y9))), (a10, .inl (cA, 8, .inl (jA y10)))]) [0, 1, 2, 3, 4, 5, 6, 7, 8, 9] (by decide) rfl
    subst hAe
    subst hQ
    exact W.zret (v := jI 0) hx hb hr (by first | decide | exact jz (by omega)) (fun t ht hW => ⟨⟨_, (0, mu, md), rfl, ⟨rfl, Eq.trans (by rw [f_XM_isAboveP_s]; rw [if_pos c6_]; try rfl) rfl, show 0 ≤ 0 ∧ 0 ≤ 1 from by first | assumption | omega | exact jset_b (by assumption) (by omega) | exact jset_l (by assumption) (by omega) | exact jset_l (fun _ _ => rfl) (by omega) | exact fun _ _ => rfl | exact l_trans (by assumption) (by assumption)⟩, ⟨by rw [ht]; exact hP9, va_K.moved hW.alike hK, hD9⟩⟩, hS.F ht⟩) hS.2.2 dXM_isAbove_19
  · refine lv_aload_n hx hb dXM_isAbove_9 rfl (lv_at hl 0 rfl) ?_
    refine lv_iload_n hx hb dXM_isAbove_10 rfl (lv_at hl 1 rfl) ?_
    refine lv_iload_n hx hb dXM_isAbove_11 rfl (lv_at hl 3 rfl) ?_
    refine jrVi (rest := []) ⟨hx, hb, hml, hown, hts⟩ (c_XM_limitOfP l dC dI cA cZ ma a0 a1 a2 a3 a4 a5 a6 a7 a8 a9 a10 a11 mth mn mp mw mu md mo y1 y2 y7 z1 z3 (by first | assumption | omega) (by first | assumption | omega) (by first | assumption | omega) (by first | assumption | omega) (by first | assumption | omega)) (cwV 2 hts (jG_V tw_798 tw_800 ts_34 tw_6 tw_801) rfl rfl rfl (by decide +kernel) (by rw [hR]; exact ⟨Nat.le_of_ble_eq_true rfl, Nat.le_of_ble_eq_true rfl⟩)) hK hP hN [0, 1, 2, 6] rfl 0 5 rfl rfl rfl rfl hl.1 rfl (Nat.le_of_ble_eq_true rfl) dXM_isAbove_12 (by rw [hR]; exact ⟨Nat.le_of_ble_eq_true rfl, Nat.le_of_ble_eq_true rfl⟩) ?_
    have f := f_XM_limitOfP_b mth mn mp mw mu md mo y1 y2 y7 z1 z3 (by first | assumption | omega) (by first | assumption | omega) (by first | assumption | omega) (by first | assumption | omega) (by first | assumption | omega)
    refine ji_if_ge (tgt := 20) hx hb dXM_isAbove_15 (by decide) (by omega) (fun c15_ => ?_) (fun c15_ => ?_)
    · refine lv_aload_n hx hb dXM_isAbove_20 rfl (lv_at hl 0 rfl) ?_
      refine lv_iload_n hx hb dXM_isAbove_21 rfl (lv_at hl 2 rfl) ?_
      refine lv_iload_n hx hb dXM_isAbove_22 rfl (lv_at hl 3 rfl) ?_
      refine lv_iload hx hb dXM_isAbove_23 (lv_at hl 4 rfl) ?_
      refine jwVv (rest := []) (wr := [(a7, .inl (cA, 248, .inl (jA y7))), (a8, .inl (cZ, 8, .inl (jA y8)))]) ⟨hx, hb, hml, hown, hts⟩ (c_XM_reckonP l dC dI cA cZ _ ma a0 a1 a2 a3 a4 a5 a6 a7 a8 a9 a10 a11 mth mn mp mw mu md mo y1 y2 y3 y4 y5 y9 y10 z2 z3 z4 (by first | assumption | omega) (by first | assumption | omega) (by first | assumption | omega) (by first | assumption | omega) (by first | assumption | omega) (by first | assumption | omega) (by first | assumption | omega) (by first | assumption | omega) (by first | assumption | omega)) (cwV 3 hts (jG_V tw_806 tw_808 ts_35 tw_6 tw_809) rfl rfl rfl (by decide +kernel) (by rw [hR]; exact ⟨Nat.le_of_ble_eq_true rfl, Nat.le_of_ble_eq_true rfl⟩)) hK hP hD hS hA hN [0, 1, 2, 3, 4, 5, 8, 9] [6, 7] rfl rfl (by decide) (by decide) (by decide) 0 5 rfl rfl rfl rfl hl.1 rfl (Nat.le_of_ble_eq_true rfl) dXM_isAbove_25 (by rw [hR]; exact ⟨Nat.le_of_ble_eq_true rfl, Nat.le_of_ble_eq_true rfl⟩) (fun u H locs hwb hP hD hS => ?_)
      obtain ⟨mu1', md1'⟩ := u
      try dsimp only at hwb
      obtain ⟨hwb, f1, f2⟩ := hwb
      have f1 : 0 ≤ mu1' ∧ mu1' ≤ 1024000000000000 := f1
      have f2 : 1 ≤ md1' ∧ md1' ≤ 25600000000 := f2
      have hP : va_P (dC, dI) vwCl [(a7, .inl (cA, 248, .inl (jA y7))), (a8, .inl (cZ, 8, .inl (jA y8))), (ma, .inr (5, [.int (jI mth), .int (jI mn), .ref a0, .int (jI mp), .int (jI mw), .ref a1, .ref a2, .ref a3, .ref a4, .ref a5, .ref a6, .ref a7, .ref a8, .ref a9, .ref a10, .long (jL mu1'), .long (jL md1'), .int (jI mo), .ref a11])), (a1, .inl (cZ, 62, .inl (jA y1))), (a2, .inl (cA, 62, .inl (jA y2))), (a3, .inl (cZ, 496, .inl (jA y3))), (a4, .inl (cA, 496, .inl (jA y4))), (a5, .inl (cA, 496, .inl (jA y5))), (a9, .inl (cA, 64, .inl (jA y9))), (a10, .inl (cA, 8, .inl (jA y10)))] H := hP
      have hD : va_D A [(a7, .inl (cA, 248, .inl (jA y7))), (a8, .inl (cZ, 8, .inl (jA y8))), (ma, .inr (5, [.int (jI mth), .int (jI mn), .ref a0, .int (jI mp), .int (jI mw), .ref a1, .ref a2, .ref a3, .ref a4, .ref a5, .ref a6, .ref a7, .ref a8, .ref a9, .ref a10, .long (jL mu1'), .long (jL md1'), .int (jI mo), .ref a11])), (a1, .inl (cZ, 62, .inl (jA y1))), (a2, .inl (cA, 62, .inl (jA y2))), (a3, .inl (cZ, 496, .inl (jA y3))), (a4, .inl (cA, 496, .inl (jA y4))), (a5, .inl (cA, 496, .inl (jA y5))), (a9, .inl (cA, 64, .inl (jA y9))), (a10, .inl (cA, 8, .inl (jA y10)))] := hD
      refine lv_aload_n hx hb dXM_isAbove_28 rfl (lv_at hl 0 rfl) ?_
      refine va_get (D := (dC, dI)) (ci := 5) (v := .long (jL mu1')) (C := RXM) (T := TXM) (N := 19) hx hb hts (fun w h => jmem (inXM w h)) hown hK hP 2 rfl rfl 15 (by decide) (hts _ (jmem tw_643)) (fun _ h9 => h9) rfl dXM_isAbove_29 ?_
      refine lv_aload_n hx hb dXM_isAbove_32 rfl (lv_at hl 0 rfl) ?_
      refine lv_iload_n hx hb dXM_isAbove_33 rfl (lv_at hl 1 rfl) ?_
      refine lv_iload_n hx hb dXM_isAbove_34 rfl (lv_at hl 3 rfl) ?_
      refine jrVi (rest := [.long (jL mu1')]) ⟨hx, hb, hml, hown, hts⟩ (c_XM_limitOfP l dC dI cA cZ ma a0 a1 a2 a3 a4 a5 a6 a7 a8 a9 a10 a11 mth mn mp mw mu1' md1' mo y1 y2 y7 z1 z3 (by first | assumption | omega) (by first | assumption | omega) (by first | assumption | omega) (by first | assumption | omega) (by first | assumption | omega)) (cwV 2 hts (jG_V tw_798 tw_800 ts_34 tw_6 tw_801) rfl rfl rfl (by decide +kernel) (by rw [hR]; exact ⟨Nat.le_of_ble_eq_true rfl, Nat.le_of_ble_eq_true rfl⟩)) hK hP hN [2, 3, 4, 0] rfl 2 5 rfl rfl rfl rfl hl.1 rfl (Nat.le_of_ble_eq_true rfl) dXM_isAbove_35 (by rw [hR]; exact ⟨Nat.le_of_ble_eq_true rfl, Nat.le_of_ble_eq_true rfl⟩) ?_
      have f3 := f_XM_limitOfP_b mth mn mp mw mu1' md1' mo y1 y2 y7 z1 z3 (by first | assumption | omega) (by first | assumption | omega) (by first | assumption | omega) (by first | assumption | omega) (by first | assumption | omega)
      have q8 := muld (show -1 ≤ (f_XM_limitOfP mth mn mp mw mu1' md1' mo y1 y2 y7 z1 z3) ∧ (f_XM_limitOfP mth mn mp mw mu1' md1' mo y1 y2 y7 z1 z3) ≤ 999999 by omega) (show 1 ≤ md1' ∧ md1' ≤ 25600000000 by omega)
      refine ji_i2l hx hb dXM_isAbove_38 (by omega) ?_
      refine lv_aload_n hx hb dXM_isAbove_39 rfl (lv_at hl 0 rfl) ?_
      refine va_get (D := (dC, dI)) (ci := 5) (v := .long (jL md1')) (C := RXM) (T := TXM) (N := 19) hx hb hts (fun w h => jmem (inXM w h)) hown hK hP 2 rfl rfl 16 (by decide) (hts _ (jmem tw_644)) (fun _ h9 => h9) rfl dXM_isAbove_40 ?_
      refine ji_lmul hx hb dXM_isAbove_43 ?_
      refine ji_lcmp hx hb dXM_isAbove_44 (by omega) (by omega) ?_
      refine ji_if_le (tgt := 52) hx hb dXM_isAbove_45 (by decide) (jcmp_i _ _) (fun c45_ => ?_) (fun c45_ => ?_)
      · have c45_ := jcmp_ngt.mp c45_
        refine ji_iconst hx hb dXM_isAbove_52 ?_
        have hP9 := hP.sub (ws' := [(ma, .inr (5, [.int (jI mth), .int (jI mn), .ref a0, .int (jI mp), .int (jI mw), .ref a1, .ref a2, .ref a3, .ref a4, .ref a5, .ref a6, .ref a7, .ref a8, .ref a9, .ref a10, .long (jL mu1'), .long (jL md1'), .int (jI mo), .ref a11])), (a1, .inl (cZ, 62, .inl (jA y1))), (a2, .inl (cA, 62, .inl (jA y2))), (a3, .inl (cZ, 496, .inl (jA y3))), (a4, .inl (cA, 496, .inl (jA y4))), (a5, .inl (cA, 496, .inl (jA y5))), (a7, .inl (cA, 248, .inl (jA y7))), (a8, .inl (cZ, 8, .inl (jA y8))), (a9, .inl (cA, 64, .inl (jA y9))), (a10, .inl (cA, 8, .inl (jA y10)))]) [2, 3, 4, 5, 6, 7, 0, 1, 8, 9] rfl
        have hD9 := hD.sub (ws' := [(ma, .inr (5, [.int (jI mth), .int (jI mn), .ref a0, .int (jI mp), .int (jI mw), .ref a1, .ref a2, .ref a3, .ref a4, .ref a5, .ref a6, .ref a7, .ref a8, .ref a9, .ref a10, .long (jL mu1'), .long (jL md1'), .int (jI mo), .ref a11])), (a1, .inl (cZ, 62, .inl (jA y1))), (a2, .inl (cA, 62, .inl (jA y2))), (a3, .inl (cZ, 496, .inl (jA y3))), (a4, .inl (cA, 496, .inl (jA y4))), (a5, .inl (cA, 496, .inl (jA y5))), (a7, .inl (cA, 248, .inl (jA y7))), (a8, .inl (cZ, 8, .inl (jA y8))), (a9, .inl (cA, 64, .inl (jA y9))), (a10, .inl (cA, 8, .inl (jA y10)))]) [2, 3, 4, 5, 6, 7, 0, 1, 8, 9] (by decide) rfl
        subst hAe
        subst hQ
        exact W.zret (v := jI 0) hx hb hr (by first | decide | exact jz (by omega)) (fun t ht hW => ⟨⟨_, (0, mu1', md1'), rfl, ⟨rfl, Eq.trans (by rw [f_XM_isAboveP_s]; rw [if_neg c6_, if_neg (Int.not_lt.mpr c15_)]; rw [← hwb]; try dsimp only; rw [if_neg (Int.not_lt.mpr c45_)]; try rfl) rfl, show 0 ≤ 0 ∧ 0 ≤ 1 from by first | assumption | omega | exact jset_b (by assumption) (by omega) | exact jset_l (by assumption) (by omega) | exact jset_l (fun _ _ => rfl) (by omega) | exact fun _ _ => rfl | exact l_trans (by assumption) (by assumption)⟩, ⟨by rw [ht]; exact hP9, va_K.moved hW.alike hK, hD9⟩⟩, hS.F ht⟩) hS.2.2 dXM_isAbove_53
      · have c45_ := jcmp_gt.mp c45_
        refine ji_iconst hx hb dXM_isAbove_48 ?_
        refine lv_goto (tgt := 53) hx hb dXM_isAbove_49 (by decide) ?_
        have hP9 := hP.sub (ws' := [(ma, .inr (5, [.int (jI mth), .int (jI mn), .ref a0, .int (jI mp), .int (jI mw), .ref a1, .ref a2, .ref a3, .ref a4, .ref a5, .ref a6, .ref a7, .ref a8, .ref a9, .ref a10, .long (jL mu1'), .long (jL md1'), .int (jI mo), .ref a11])), (a1, .inl (cZ, 62, .inl (jA y1))), (a2, .inl (cA, 62, .inl (jA y2))), (a3, .inl (cZ, 496, .inl (jA y3))), (a4, .inl (cA, 496, .inl (jA y4))), (a5, .inl (cA, 496, .inl (jA y5))), (a7, .inl (cA, 248, .inl (jA y7))), (a8, .inl (cZ, 8, .inl (jA y8))), (a9, .inl (cA, 64, .inl (jA y9))), (a10, .inl (cA, 8, .inl (jA y10)))]) [2, 3, 4, 5, 6, 7, 0, 1, 8, 9] rfl
        have hD9 := hD.sub (ws' := [(ma, .inr (5, [.int (jI mth), .int (jI mn), .ref a0, .int (jI mp), .int (jI mw), .ref a1, .ref a2, .ref a3, .ref a4, .ref a5, .ref a6, .ref a7, .ref a8, .ref a9, .ref a10, .long (jL mu1'), .long (jL md1'), .int (jI mo), .ref a11])), (a1, .inl (cZ, 62, .inl (jA y1))), (a2, .inl (cA, 62, .inl (jA y2))), (a3, .inl (cZ, 496, .inl (jA y3))), (a4, .inl (cA, 496, .inl (jA y4))), (a5, .inl (cA, 496, .inl (jA y5))), (a7, .inl (cA, 248, .inl (jA y7))), (a8, .inl (cZ, 8, .inl (jA y8))), (a9, .inl (cA, 64, .inl (jA y9))), (a10, .inl (cA, 8, .inl (jA y10)))]) [2, 3, 4, 5, 6, 7, 0, 1, 8, 9] (by decide) rfl
        subst hAe
        subst hQ
        exact W.zret (v := jI 1) hx hb hr (by first | decide | exact jz (by omega)) (fun t ht hW => ⟨⟨_, (1, mu1', md1'), rfl, ⟨rfl, Eq.trans (by rw [f_XM_isAboveP_s]; rw [if_neg c6_, if_neg (Int.not_lt.mpr c15_)]; rw [← hwb]; try dsimp only; rw [if_pos c45_]; try rfl) rfl, show 0 ≤ 1 ∧ 1 ≤ 1 from by first | assumption | omega | exact jset_b (by assumption) (by omega) | exact jset_l (by assumption) (by omega) | exact jset_l (fun _ _ => rfl) (by omega) | exact fun _ _ => rfl | exact l_trans (by assumption) (by assumption)⟩, ⟨by rw [ht]; exact hP9, va_K.moved hW.alike hK, hD9⟩⟩, hS.F ht⟩) hS.2.2 dXM_isAbove_53
    · refine ji_iconst hx hb dXM_isAbove_18 ?_
      have hP9 := hP.sub (ws' := [(ma, .inr (5, [.int (jI mth), .int (jI mn), .ref a0, .int (jI mp), .int (jI mw), .ref a1, .ref a2, .ref a3, .ref a4, .ref a5, .ref a6, .ref a7, .ref a8, .ref a9, .ref a10, .long (jL mu), .long (jL md), .int (jI mo), .ref a11])), (a1, .inl (cZ, 62, .inl (jA y1))), (a2, .inl (cA, 62, .inl (jA y2))), (a3, .inl (cZ, 496, .inl (jA y3))), (a4, .inl (cA, 496, .inl (jA y4))), (a5, .inl (cA, 496, .inl (jA y5))), (a7, .inl (cA, 248, .inl (jA y7))), (a8, .inl (cZ, 8, .inl (jA y8))), (a9, .inl (cA, 64, .inl (jA y9))), (a10, .inl (cA, 8, .inl (jA y10)))]) [0, 1, 2, 3, 4, 5, 6, 7, 8, 9] rfl
      have hD9 := hD.sub (ws' := [(ma, .inr (5, [.int (jI mth), .int (jI mn), .ref a0, .int (jI mp), .int (jI mw), .ref a1, .ref a2, .ref a3, .ref a4, .ref a5, .ref a6, .ref a7, .ref a8, .ref a9, .ref a10, .long (jL mu), .long (jL md), .int (jI mo), .ref a11])), (a1, .inl (cZ, 62, .inl (jA y1))), (a2, .inl (cA, 62, .inl (jA y2))), (a3, .inl (cZ, 496, .inl (jA y3))), (a4, .inl (cA, 496, .inl (jA y4))), (a5, .inl (cA, 496, .inl (jA y5))), (a7, .inl (cA, 248, .inl (jA y7))), (a8, .inl (cZ, 8, .inl (jA y8))), (a9, .inl (cA, 64, .inl (jA y9))), (a10, .inl (cA, 8, .inl (jA y10)))]) [0, 1, 2, 3, 4, 5, 6, 7, 8, 9] (by decide) rfl
      subst hAe
      subst hQ
      exact W.zret (v := jI 0) hx hb hr (by first | decide | exact jz (by omega)) (fun t ht hW => ⟨⟨_, (0, mu, md), rfl, ⟨rfl, Eq.trans (by rw [f_XM_isAboveP_s]; rw [if_neg c6_, if_pos c15_]; try rfl) rfl, show 0 ≤ 0 ∧ 0 ≤ 1 from by first | assumption | omega | exact jset_b (by assumption) (by omega) | exact jset_l (by assumption) (by omega) | exact jset_l (fun _ _ => rfl) (by omega) | exact fun _ _ => rfl | exact l_trans (by assumption) (by assumption)⟩, ⟨by rw [ht]; exact hP9, va_K.moved hW.alike hK, hD9⟩⟩, hS.F ht⟩) hS.2.2 dXM_isAbove_19
noncomputable def g_XM_equivalentP_J63 (mth : Int) (mn : Int) (mp : Int) (mw : Int) (mu : Int) (md : Int) (mo : Int) (y1 : Int → Int) (y2 : Int → Int) (y3 : Int → Int) (y4 : Int → Int) (y5 : Int → Int) (y8 : Int → Int) (y9 : Int → Int) (y10 : Int → Int) (z1 : Int) (z2 : Int) (z3 : Int) (z4 : Int) (jc : Int) (jd : Int) : Int × Int × Int × Int :=
  match f_XM_goesP mth mn mp mw mu md mo jc jd with
  | (r, mth1') =>
    if r = 0 then
      (0, mth1', mu, md)
    else
      match f_XM_reckonP mth1' mn mp mw mu md mo y1 y2 y3 y4 y5 y9 y10 z1 z2 z3 with
      | (mu1', md1') =>
        if z4 = 0 then
          (mu1', mth1', mu1', md1')
        else
          (md1', mth1', mu1', md1')
noncomputable def f_XM_equivalentP_J63 : Int → Int → Int → Int → Int → Int → Int → (Int → Int) → (Int → Int) → (Int → Int) → (Int → Int) → (Int → Int) → (Int → Int) → (Int → Int) → (Int → Int) → Int → Int → Int → Int → Int → Int → Int × Int × Int × Int := jopq g_XM_equivalentP_J63
theorem f_XM_equivalentP_J63_q : f_XM_equivalentP_J63 = g_XM_equivalentP_J63 := jopq_eq _
theorem f_XM_equivalentP_J63_s (mth : Int) (mn : Int) (mp : Int) (mw : Int) (mu : Int) (md : Int) (mo : Int) (y1 : Int → Int) (y2 : Int → Int) (y3 : Int → Int) (y4 : Int → Int) (y5 : Int → Int) (y8 : Int → Int) (y9 : Int → Int) (y10 : Int → Int) (z1 : Int) (z2 : Int) (z3 : Int) (z4 : Int) (jc : Int) (jd : Int) : f_XM_equivalentP_J63 mth mn mp mw mu md mo y1 y2 y3 y4 y5 y8 y9 y10 z1 z2 z3 z4 jc jd = (
    match f_XM_goesP mth mn mp mw mu md mo jc jd with
    | (r, mth1') =>
      if r = 0 then
        (0, mth1', mu, md)
      else
        match f_XM_reckonP mth1' mn mp mw mu md mo y1 y2 y3 y4 y5 y9 y10 z1 z2 z3 with
        | (mu1', md1') =>
          if z4 = 0 then
            (mu1', mth1', mu1', md1')
          else
            (md1', mth1', mu1', md1')
  : Int × Int × Int × Int) := by rw [f_XM_equivalentP_J63_q]; rfl
noncomputable def g_XM_equivalentP_J39 (mth : Int) (mn : Int) (mp : Int) (mw : Int) (mu : Int) (md : Int) (mo : Int) (y1 : Int → Int) (y2 : Int → Int) (y3 : Int → Int) (y4 : Int → Int) (y5 : Int → Int) (y8 : Int → Int) (y9 : Int → Int) (y10 : Int → Int) (z1 : Int) (z2 : Int) (z3 : Int) (z4 : Int) (jc : Int) : Int × Int × Int × Int :=
  if jc = 0 then
    f_XM_equivalentP_J63 mth mn mp mw mu md mo y1 y2 y3 y4 y5 y8 y9 y10 z1 z2 z3 z4 jc 0
  else
    if (y8 z2) = 0 then
      f_XM_equivalentP_J63 mth mn mp mw mu md mo y1 y2 y3 y4 y5 y8 y9 y10 z1 z2 z3 z4 jc 0
    else
      f_XM_equivalentP_J63 mth mn mp mw mu md mo y1 y2 y3 y4 y5 y8 y9 y10 z1 z2 z3 z4 jc 1
noncomputable def f_XM_equivalentP_J39 : Int → Int → Int → Int → Int → Int → Int → (Int → Int) → (Int → Int) → (Int → Int) → (Int → Int) → (Int → Int) → (Int → Int) → (Int → Int) → (Int → Int) → Int → Int → Int → Int → Int → Int × Int × Int × Int := jopq g_XM_equivalentP_J39
theorem f_XM_equivalentP_J39_q : f_XM_equivalentP_J39 = g_XM_equivalentP_J39 := jopq_eq _
theorem f_XM_equivalentP_J39_s (mth : Int) (mn : Int) (mp : Int) (mw : Int) (mu : Int) (md : Int) (mo : Int) (y1 : Int → Int) (y2 : Int → Int) (y3 : Int → Int) (y4 : Int → Int) (y5 : Int → Int) (y8 : Int → Int) (y9 : Int → Int) (y10 : Int → Int) (z1 : Int) (z2 : Int) (z3 : Int) (z4 : Int) (jc : Int) : f_XM_equivalentP_J39 mth mn mp mw mu md mo y1 y2 y3 y4 y5 y8 y9 y10 z1 z2 z3 z4 jc = (
    if jc = 0 then
      f_XM_equivalentP_J63 mth mn mp mw mu md mo y1 y2 y3 y4 y5 y8 y9 y10 z1 z2 z3 z4 jc 0
    else
      if (y8 z2) = 0 then
        f_XM_equivalentP_J63 mth mn mp mw mu md mo y1 y2 y3 y4 y5 y8 y9 y10 z1 z2 z3 z4 jc 0
      else
        f_XM_equivalentP_J63 mth mn mp mw mu md mo y1 y2 y3 y4 y5 y8 y9 y10 z1 z2 z3 z4 jc 1
  : Int × Int × Int × Int) := by rw [f_XM_equivalentP_J39_q]; rfl
noncomputable def g_XM_equivalentP (mth : Int) (mn : Int) (mp : Int) (mw : Int) (mu : Int) (md : Int) (mo : Int) (y1 : Int → Int) (y2 : Int → Int) (y3 : Int → Int) (y4 : Int → Int) (y5 : Int → Int) (y8 : Int → Int) (y9 : Int → Int) (y10 : Int → Int) (z1 : Int) (z2 : Int) (z3 : Int) (z4 : Int) : Int × Int × Int × Int :=
  if (f_XM_isTold mth mn mp mw mu md mo y1 z1) = 0 then
    f_XM_equivalentP_J39 mth mn mp mw mu md mo y1 y2 y3 y4 y5 y8 y9 y10 z1 z2 z3 z4 0
  else
    if (f_XM_isKind z2) = 0 then
      f_XM_equivalentP_J39 mth mn mp mw mu md mo y1 y2 y3 y4 y5 y8 y9 y10 z1 z2 z3 z4 0
    else
      if (f_XM_in z3 0 1) = 0 then
        f_XM_equivalentP_J39 mth mn mp mw mu md mo y1 y2 y3 y4 y5 y8 y9 y10 z1 z2 z3 z4 0
      else
        if (f_XM_in z4 0 1) = 0 then
          f_XM_equivalentP_J39 mth mn mp mw mu md mo y1 y2 y3 y4 y5 y8 y9 y10 z1 z2 z3 z4 0
        else
          f_XM_equivalentP_J39 mth mn mp mw mu md mo y1 y2 y3 y4 y5 y8 y9 y10 z1 z2 z3 z4 1
noncomputable def f_XM_equivalentP : Int → Int → Int → Int → Int → Int → Int → (Int → Int) → (Int → Int) → (Int → Int) → (Int → Int) → (Int → Int) → (Int → Int) → (Int → Int) → (Int → Int) → Int → Int → Int → Int → Int × Int × Int × Int := jopq g_XM_equivalentP
theorem f_XM_equivalentP_q : f_XM_equivalentP = g_XM_equivalentP := jopq_eq _
theorem f_XM_equivalentP_s (mth : Int) (mn : Int) (mp : Int) (mw : Int) (mu : Int) (md : Int) (mo : Int) (y1 : Int → Int) (y2 : Int → Int) (y3 : Int → Int) (y4 : Int → Int) (y5 : Int → Int) (y8 : Int → Int) (y9 : Int → Int) (y10 : Int → Int) (z1 : Int) (z2 : Int) (z3 : Int) (z4 : Int) : f_XM_equivalentP mth mn mp mw mu md mo y1 y2 y3 y4 y5 y8 y9 y10 z1 z2 z3 z4 = (
    if (f_XM_isTold mth mn mp mw mu md mo y1 z1) = 0 then
      f_XM_equivalentP_J39 mth mn mp mw mu md mo y1 y2 y3 y4 y5 y8 y9 y10 z1 z2 z3 z4 0
    else
      if (f_XM_isKind z2) = 0 then
        f_XM_equivalentP_J39 mth mn mp mw mu md mo y1 y2 y3 y4 y5 y8 y9 y10 z1 z2 z3 z4 0
      else
        if (f_XM_in z3 0 1) = 0 then
          f_XM_equivalentP_J39 mth mn mp mw mu md mo y1 y2 y3 y4 y5 y8 y9 y10 z1 z2 z3 z4 0
        else
          if (f_XM_in z4 0 1) = 0 then
            f_XM_equivalentP_J39 mth mn mp mw mu md mo y1 y2 y3 y4 y5 y8 y9 y10 z1 z2 z3 z4 0
          else
            f_XM_equivalentP_J39 mth mn mp mw mu md mo y1 y2 y3 y4 y5 y8 y9 y10 z1 z2 z3 z4 1
  : Int × Int × Int × Int) := by rw [f_XM_equivalentP_q]; rfl
set_option maxHeartbeats 4000000 in
set_option maxRecDepth 100000 in
theorem c_XM_equivalentP (l : Launch) (dC : Nat → ClassId) (dI : Nat → Nat → Nat) (cA cZ : ClassId) (sz : Nat) (ma : Nat) (a0 : Nat) (a1 : Nat) (a2 : Nat) (a3 : Nat) (a4 : Nat) (a5 : Nat) (a6 : Nat) (a7 : Nat) (a8 : Nat) (a9 : Nat) (a10 : Nat) (a11 : Nat) (mth : Int) (mn : Int) (mp : Int) (mw : Int) (mu : Int) (md : Int) (mo : Int) (y1 : Int → Int) (y2 : Int → Int) (y3 : Int → Int) (y4 : Int → Int) (y5 : Int → Int) (y8 : Int → Int) (y9 : Int → Int) (y10 : Int → Int) (z1 : Int) (z2 : Int) (z3 : Int) (z4 : Int) (hy1 : ∀ i, 0 ≤ y1 i ∧ y1 i ≤ 1) (hy2 : ∀ i, 0 ≤ y2 i ∧ y2 i ≤ 30) (hy3 : ∀ i, 0 ≤ y3 i ∧ y3 i ≤ 1) (hy4 : ∀ i, 0 ≤ y4 i ∧ y4 i ≤ 100000) (hy5 : ∀ i, 0 ≤ y5 i ∧ y5 i ≤ 100000) (hy8 : ∀ i, 0 ≤ y8 i ∧ y8 i ≤ 1) (hy9 : ∀ i, 0 ≤ y9 i ∧ y9 i ≤ 20) (hy10 : ∀ i, 0 ≤ y10 i ∧ y10 i ≤ 100000) (hiz1 : i32 z1) (hiz2 : i32 z2) (hiz3 : i32 z3) (hiz4 : i32 z4) : Met l yXM_equivalent (Cond.code yXM_equivalent cXM_equivalent 6 (some .long) :: TBL) ({ frames := 6, cells := 0, slots := 0, locals := 134 } : Room) (va_Pc [.ref ma, .int (jI z1), .int (jI z2), .int (jI z3), .int (jI z4)] (jBw (dC, dI) [(cA, .int), (cZ, .boolean)] [(ma, .inr (5, [.int (jI mth), .int (jI mn), .ref a0, .int (jI mp), .int (jI mw), .ref a1, .ref a2, .ref a3, .ref a4, .ref a5, .ref a6, .ref a7, .ref a8, .ref a9, .ref a10, .long (jL mu), .long (jL md), .int (jI mo), .ref a11])), (a1, .inl (cZ, 62, .inl (jA y1))), (a2, .inl (cA, 62, .inl (jA y2))), (a3, .inl (cZ, 496, .inl (jA y3))), (a4, .inl (cA, 496, .inl (jA y4))), (a5, .inl (cA, 496, .inl (jA y5))), (a8, .inl (cZ, 8, .inl (jA y8))), (a9, .inl (cA, 64, .inl (jA y9))), (a10, .inl (cA, 8, .inl (jA y10)))] sz)) (va_Ql (fun (r : Int64) (u : Int × Int × Int × Int) => r = jL u.1 ∧ u = f_XM_equivalentP mth mn mp mw mu md mo y1 y2 y3 y4 y5 y8 y9 y10 z1 z2 z3 z4 ∧ (0 ≤ u.2.1 ∧ u.2.1 ≤ 2) ∧ (0 ≤ u.1 ∧ u.1 ≤ 1024000000000000)) (fun u t => jE (dC, dI) [(cA, .int), (cZ, .boolean)] [(ma, .inr (5, [.int (jI mth), .int (jI mn), .ref a0, .int (jI mp), .int (jI mw), .ref a1, .ref a2, .ref a3, .ref a4, .ref a5, .ref a6, .ref a7, .ref a8, .ref a9, .ref a10, .long (jL mu), .long (jL md), .int (jI mo), .ref a11])), (a1, .inl (cZ, 62, .inl (jA y1))), (a2, .inl (cA, 62, .inl (jA y2))), (a3, .inl (cZ, 496, .inl (jA y3))), (a4, .inl (cA, 496, .inl (jA y4))), (a5, .inl (cA, 496, .inl (jA y5))), (a8, .inl (cZ, 8, .inl (jA y8))), (a9, .inl (cA, 64, .inl (jA y9))), (a10, .inl (cA, 8, .inl (jA y10)))] sz [(ma, .inr (5, [.int (jI u.2.1), .int (jI mn), .ref a0, .int (jI mp), .int (jI mw), .ref a1, .ref a2, .ref a3, .ref a4, .ref a5, .ref a6, .ref a7, .ref a8, .ref a9, .ref a10, .long (jL u.2.2.1), .long (jL u.2.2.2), .int (jI mo), .ref a11])), (a1, .inl (cZ, 62, .inl (jA y1))), (a2, .inl (cA, 62, .inl (jA y2))), (a3, .inl (cZ, 496, .inl (jA y3))), (a4, .inl (cA, 496, .inl (jA y4))), (a5, .inl (cA, 496, .inl (jA y5))), (a8, .inl (cZ, 8, .inl (jA y8))), (a9, .inl (cA, 64, .inl (jA y9))), (a10, .inl (cA, 8, .inl (jA y10)))] t) (va_A [(ma, .inr (5, [.int (jI mth), .int (jI mn), .ref a0, .int (jI mp), .int (jI mw), .ref a1, .ref a2, .ref a3, .ref a4, .ref a5, .ref a6, .ref a7, .ref a8, .ref a9, .ref a10, .long (jL mu), .long (jL md), .int (jI mo), .ref a11])), (a1, .inl (cZ, 62, .inl (jA y1))), (a2, .inl (cA, 62, .inl (jA y2))), (a3, .inl (cZ, 496, .inl (jA y3))), (a4, .inl (cA, 496, .inl (jA y4))), (a5, .inl (cA, 496, .inl (jA y5))), (a8, .inl (cZ, 8, .inl (jA y8))), (a9, .inl (cA, 64, .inl (jA y9))), (a10, .inl (cA, 8, .inl (jA y10)))] sz)) 0 0 (va_A [(ma, .inr (5, [.int (jI mth), .int (jI mn), .ref a0, .int (jI mp), .int (jI mw), .ref a1, .ref a2, .ref a3, .ref a4, .ref a5, .ref a6, .ref a7, .ref a8, .ref a9, .ref a10, .long (jL mu), .long (jL md), .int (jI mo), .ref a11])), (a1, .inl (cZ, 62, .inl (jA y1))), (a2, .inl (cA, 62, .inl (jA y2))), (a3, .inl (cZ, 496, .inl (jA y3))), (a4, .inl (cA, 496, .inl (jA y4))), (a5, .inl (cA, 496, .inl (jA y5))), (a8, .inl (cZ, 8, .inl (jA y8))), (a9, .inl (cA, 64, .inl (jA y9))), (a10, .inl (cA, 8, .inl (jA y10)))] sz) := by
  refine jMet (cc := cXM_equivalent) (maxL := 6) (ret := some .long) (by decide) rfl ?_
  intro p e s m args below meth c s₁ R Q hR hQ B hml hv
  obtain ⟨rfl, hsz, hP, hK, hD0, hN⟩ := hv
  have hx := B.exec
  have hb := B.bytes
  have hr := B.returns
  have hts := atoms_spec (ws := Cond.code yXM_equivalent cXM_equivalent 6 (some .long) :: TBL) B.pre
  have hown : s.vm.findClass RXM = some m.cls := findClass_of_methodNamed B.named
  have hlocks := B.notSynchronized
  subst hsz
  obtain ⟨A, hAe⟩ : ∃ A, A = va_A [(ma, .inr (5, [.int (jI mth), .int (jI mn), .ref a0, .int (jI mp), .int (jI mw), .ref a1, .ref a2, .ref a3, .ref a4, .ref a5, .ref a6, .ref a7, .ref a8, .ref a9, .ref a10, .long (jL mu), .long (jL md), .int (jI mo), .ref a11])), (a1, .inl (cZ, 62, .inl (jA y1))), (a2, .inl (cA, 62, .inl (jA y2))), (a3, .inl (cZ, 496, .inl (jA y3))), (a4, .inl (cA, 496, .inl (jA y4))), (a5, .inl (cA, 496, .inl (jA y5))), (a8, .inl (cZ, 8, .inl (jA y8))), (a9, .inl (cA, 64, .inl (jA y9))), (a10, .inl (cA, 8, .inl (jA y10)))] s.heap.size := ⟨_, rfl⟩
  have hD : va_D A [(ma, .inr (5, [.int (jI mth), .int (jI mn), .ref a0, .int (jI mp), .int (jI mw), .ref a1, .ref a2, .ref a3, .ref a4, .ref a5, .ref a6, .ref a7, .ref a8, .ref a9, .ref a10, .long (jL mu), .long (jL md), .int (jI mo), .ref a11])), (a1, .inl (cZ, 62, .inl (jA y1))), (a2, .inl (cA, 62, .inl (jA y2))), (a3, .inl (cZ, 496, .inl (jA y3))), (a4, .inl (cA, 496, .inl (jA y4))), (a5, .inl (cA, 496, .inl (jA y5))), (a8, .inl (cZ, 8, .inl (jA y8))), (a9, .inl (cA, 64, .inl (jA y9))), (a10, .inl (cA, 8, .inl (jA y10)))] := by rw [hAe]; exact hD0.self
  have hA : ∀ q : Nat, s.heap.size ≤ q → A q := fun q h => by rw [hAe]; exact Or.inr h
  have hS : va_S A s.heap s.heap [] := va_S.rf
  have hP : va_P (dC, dI) vwCl [(ma, .inr (5, [.int (jI mth), .int (jI mn), .ref a0, .int (jI mp), .int (jI mw), .ref a1, .ref a2, .ref a3, .ref a4, .ref a5, .ref a6, .ref a7, .ref a8, .ref a9, .ref a10, .long (jL mu), .long (jL md), .int (jI mo), .ref a11])), (a1, .inl (cZ, 62, .inl (jA y1))), (a2, .inl (cA, 62, .inl (jA y2))), (a3, .inl (cZ, 496, .inl (jA y3))), (a4, .inl (cA, 496, .inl (jA y4))), (a5, .inl (cA, 496, .inl (jA y5))), (a8, .inl (cZ, 8, .inl (jA y8))), (a9, .inl (cA, 64, .inl (jA y9))), (a10, .inl (cA, 8, .inl (jA y10)))] s.heap := hP
  have hl := lv_entry ([.ref ma, .int (jI z1), .int (jI z2), .int (jI z3), .int (jI z4)]) (n := 6) (Nat.le_of_ble_eq_true rfl)
  rw [lg_entry_eq]
  generalize (lg_sl ([.ref ma, .int (jI z1), .int (jI z2), .int (jI z3), .int (jI z4)]) ++ List.replicate (6 - (lg_sl ([.ref ma, .int (jI z1), .int (jI z2), .int (jI z3), .int (jI z4)])).length) Slot.unset).toArray = ls at hl ⊢
  have hl : lv_has ls 6 [(0, .ref ma), (1, .int (jI z1)), (2, .int (jI z2)), (3, .int (jI z3)), (4, .int (jI z4))] := hl
  have join39 : ∀ (jc : Int) , f_XM_equivalentP_J39 mth mn mp mw mu md mo y1 y2 y3 y4 y5 y8 y9 y10 z1 z2 z3 z4 jc = f_XM_equivalentP mth mn mp mw mu md mo y1 y2 y3 y4 y5 y8 y9 y10 z1 z2 z3 z4 → ((jc = 0) ∨ (jc = 1 ∧ 1 ≤ z1 ∧ z1 ≤ 30 ∧ 0 ≤ z2 ∧ z2 ≤ 3 ∧ 0 ≤ z3 ∧ z3 ≤ 1 ∧ 0 ≤ z4 ∧ z4 ≤ 1)) → ∀ (H : Heap) (locs : List Loc), va_P (dC, dI) vwCl [(ma, .inr (5, [.int (jI mth), .int (jI mn), .ref a0, .int (jI mp), .int (jI mw), .ref a1, .ref a2, .ref a3, .ref a4, .ref a5, .ref a6, .ref a7, .ref a8, .ref a9, .ref a10, .long (jL mu), .long (jL md), .int (jI mo), .ref a11])), (a1, .inl (cZ, 62, .inl (jA y1))), (a2, .inl (cA, 62, .inl (jA y2))), (a3, .inl (cZ, 496, .inl (jA y3))), (a4, .inl (cA, 496, .inl (jA y4))), (a5, .inl (cA, 496, .inl (jA y5))), (a8, .inl (cZ, 8, .inl (jA y8))), (a9, .inl (cA, 64, .inl (jA y9))), (a10, .inl (cA, 8, .inl (jA y10)))] H → va_D A [(ma, .inr (5, [.int (jI mth), .int (jI mn), .ref a0, .int (jI mp), .int (jI mw), .ref a1, .ref a2, .ref a3, .ref a4, .ref a5, .ref a6, .ref a7, .ref a8, .ref a9, .ref a10, .long (jL mu), .long (jL md), .int (jI mo), .ref a11])), (a1, .inl (cZ, 62, .inl (jA y1))), (a2, .inl (cA, 62, .inl (jA y2))), (a3, .inl (cZ, 496, .inl (jA y3))), (a4, .inl (cA, 496, .inl (jA y4))), (a5, .inl (cA, 496, .inl (jA y5))), (a8, .inl (cZ, 8, .inl (jA y8))), (a9, .inl (cA, 64, .inl (jA y9))), (a10, .inl (cA, 8, .inl (jA y10)))] → va_S A s.heap H locs → ∀ ls : Array Slot, lv_has ls 6 [(0, .ref ma), (1, .int (jI z1)), (2, .int (jI z2)), (3, .int (jI z3)), (4, .int (jI z4))] → W p l e R s m ([.ref ma, .int (jI z1), .int (jI z2), .int (jI z3), .int (jI z4)] : List Value).toArray below meth c H locs 0 0 Q (F0 m 39 ls [.int (jI jc)]) := by
    intro jc hF hjc H locs hP hD hS ls hl
    refine lv_istore (lv' := [(5, .int (jI jc)), (0, .ref ma), (1, .int (jI z1)), (2, .int (jI z2)), (3, .int (jI z3)), (4, .int (jI z4))]) hx hb dXM_equivalent_39 hl (by decide) rfl (fun ls hl => ?_)
    refine lv_aload_n hx hb dXM_equivalent_41 rfl (lv_at hl 1 rfl) ?_
    refine lv_iload hx hb dXM_equivalent_42 (lv_at hl 0 rfl) ?_
    have join63 : ∀ (jd : Int) , f_XM_equivalentP_J63 mth mn mp mw mu md mo y1 y2 y3 y4 y5 y8 y9 y10 z1 z2 z3 z4 jc jd = f_XM_equivalentP mth mn mp mw mu md mo y1 y2 y3 y4 y5 y8 y9 y10 z1 z2 z3 z4 → ((jd = 0) ∨ (jd = 1 ∧ jc = 1)) → ∀ (H : Heap) (locs : List Loc), va_P (dC, dI) vwCl [(ma, .inr (5, [.int (jI mth), .int (jI mn), .ref a0, .int (jI mp), .int (jI mw), .ref a1, .ref a2, .ref a3, .ref a4, .ref a5, .ref a6, .ref a7, .ref a8, .ref a9, .ref a10, .long (jL mu), .long (jL md), .int (jI mo), .ref a11])), (a1, .inl (cZ, 62, .inl (jA y1))), (a2, .inl (cA, 62, .inl (jA y2))), (a3, .inl (cZ, 496, .inl (jA y3))), (a4, .inl (cA, 496, .inl (jA y4))), (a5, .inl (cA, 496, .inl (jA y5))), (a8, .inl (cZ, 8, .inl (jA y8))), (a9, .inl (cA, 64, .inl (jA y9))), (a10, .inl (cA, 8, .inl (jA y10)))] H → va_D A [(ma, .inr (5, [.int (jI mth), .int (jI mn), .ref a0, .int (jI mp), .int (jI mw), .ref a1, .ref a2, .ref a3, .ref a4, .ref a5, .ref a6, .ref a7, .ref a8, .ref a9, .ref a10, .long (jL mu), .long (jL md), .int (jI mo), .ref a11])), (a1, .inl (cZ, 62, .inl (jA y1))), (a2, .inl (cA, 62, .inl (jA y2))), (a3, .inl (cZ, 496, .inl (jA y3))), (a4, .inl (cA, 496, .inl (jA y4))), (a5, .inl (cA, 496, .inl (jA y5))), (a8, .inl (cZ, 8, .inl (jA y8))), (a9, .inl (cA, 64, .inl (jA y9))), (a10, .inl (cA, 8, .inl (jA y10)))] → va_S A s.heap H locs → ∀ ls : Array Slot, lv_has ls 6 [(5, .int (jI jc)), (0, .ref ma), (1, .int (jI z1)), (2, .int (jI z2)), (3, .int (jI z3)), (4, .int (jI z4))] → W p l e R s m ([.ref ma, .int (jI z1), .int (jI z2), .int (jI z3), .int (jI z4)] : List Value).toArray below meth c H locs 0 0 Q (F0 m 63 ls [.int (jI jd), .int (jI jc), .ref ma]) := by
      intro jd hF hjd H locs hP hD hS ls hl
      refine jwVi (rest := []) (wr := [(a1, .inl (cZ, 62, .inl (jA y1))), (a2, .inl (cA, 62, .inl (jA y2))), (a3, .inl (cZ, 496, .inl (jA y3))), (a4, .inl (cA, 496, .inl (jA y4))), (a5, .inl (cA, 496, .inl (jA y5))), (a8, .inl (cZ, 8, .inl (jA y8))), (a9, .inl (cA, 64, .inl (jA y9))), (a10, .inl (cA, 8, .inl (jA y10)))]) ⟨hx, hb, hml, hown, hts⟩ (c_XM_goesP l dC dI cA cZ _ ma a0 a1 a2 a3 a4 a5 a6 a7 a8 a9 a10 a11 mth mn mp mw mu md mo jc jd (by first | assumption | omega) (by first | assumption | omega)) (cwV 2 hts (jG_V tw_698 tw_700 ts_14 tw_6 tw_701) rfl rfl rfl (by decide +kernel) (by rw [hR]; exact ⟨Nat.le_of_ble_eq_true rfl, Nat.le_of_ble_eq_true rfl⟩)) hK hP hD hS hA hN [0] [1, 2, 3, 4, 5, 6, 7, 8] rfl rfl (by decide) (by decide) (by decide) 0 5 rfl rfl rfl rfl hl.1 rfl (Nat.le_of_ble_eq_true rfl) dXM_equivalent_63 (by rw [hR]; exact ⟨Nat.le_of_ble_eq_true rfl, Nat.le_of_ble_eq_true rfl⟩) (fun v u H locs hwb hP hD hS => ?_)
      obtain ⟨r, mth1'⟩ := u
      try dsimp only at hwb
      obtain ⟨er, hwb, f⟩ := hwb
      subst er
      have f : (r = 0 ∧ mth1' = 1 ∧ jc = 0) ∨ (r = 0 ∧ mth1' = 2 ∧ jc = 1 ∧ jd = 0) ∨ (r = 1 ∧ mth1' = 0 ∧ jc = 1 ∧ jd = 1) := f
      have hP : va_P (dC, dI) vwCl [(a1, .inl (cZ, 62, .inl (jA y1))), (a2, .inl (cA, 62, .inl (jA y2))), (a3, .inl (cZ, 496, .inl (jA y3))), (a4, .inl (cA, 496, .inl (jA y4))), (a5, .inl (cA, 496, .inl (jA y5))), (a8, .inl (cZ, 8, .inl (jA y8))), (a9, .inl (cA, 64, .inl (jA y9))), (a10, .inl (cA, 8, .inl (jA y10))), (ma, .inr (5, [.int (jI mth1'), .int (jI mn), .ref a0, .int (jI mp), .int (jI mw), .ref a1, .ref a2, .ref a3, .ref a4, .ref a5, .ref a6, .ref a7, .ref a8, .ref a9, .ref a10, .long (jL mu), .long (jL md), .int (jI mo), .ref a11]))] H := hP
      have hD : va_D A [(a1, .inl (cZ, 62, .inl (jA y1))), (a2, .inl (cA, 62, .inl (jA y2))), (a3, .inl (cZ, 496, .inl (jA y3))), (a4, .inl (cA, 496, .inl (jA y4))), (a5, .inl (cA, 496, .inl (jA y5))), (a8, .inl (cZ, 8, .inl (jA y8))), (a9, .inl (cA, 64, .inl (jA y9))), (a10, .inl (cA, 8, .inl (jA y10))), (ma, .inr (5, [.int (jI mth1'), .int (jI mn), .ref a0, .int (jI mp), .int (jI mw), .ref a1, .ref a2, .ref a3, .ref a4, .ref a5, .ref a6, .ref a7, .ref a8, .ref a9, .ref a10, .long (jL mu), .long (jL md), .int (jI mo), .ref a11]))] := hD
      refine ji_if_ne (tgt := 71) hx hb dXM_equivalent_66 (by decide) (by omega) (fun c66_ => ?_) (fun c66_ => ?_)
      · refine lv_aload_n hx hb dXM_equivalent_71 rfl (lv_at hl 1 rfl) ?_
        refine lv_iload_n hx hb dXM_equivalent_72 rfl (lv_at hl 2 rfl) ?_
        refine lv_iload_n hx hb dXM_equivalent_73 rfl (lv_at hl 3 rfl) ?_
        refine lv_iload_n hx hb dXM_equivalent_74 rfl (lv_at hl 4 rfl) ?_
        refine jwVv (rest := []) (wr := [(a8, .inl (cZ, 8, .inl (jA y8)))]) ⟨hx, hb, hml, hown, hts⟩ (c_XM_reckonP l dC dI cA cZ _ ma a0 a1 a2 a3 a4 a5 a6 a7 a8 a9 a10 a11 mth1' mn mp mw mu md mo y1 y2 y3 y4 y5 y9 y10 z1 z2 z3 (by first | assumption | omega) (by first | assumption | omega) (by first | assumption | omega) (by first | assumption | omega) (by first | assumption | omega) (by first | assumption | omega) (by first | assumption | omega) (by first | assumption | omega) (by first | assumption | omega)) (cwV 3 hts (jG_V tw_806 tw_808 ts_35 tw_6 tw_809) rfl rfl rfl (by decide +kernel) (by rw [hR]; exact ⟨Nat.le_of_ble_eq_true rfl, Nat.le_of_ble_eq_true rfl⟩)) hK hP hD hS hA hN [8, 0, 1, 2, 3, 4, 6, 7] [5] rfl rfl (by decide) (by decide) (by decide) 8 5 rfl rfl rfl rfl hl.1 rfl (Nat.le_of_ble_eq_true rfl) dXM_equivalent_75 (by rw [hR]; exact ⟨Nat.le_of_ble_eq_true rfl, Nat.le_of_ble_eq_true rfl⟩) (fun u1 H locs hwb2 hP hD hS => ?_)
        obtain ⟨mu1', md1'⟩ := u1
        try dsimp only at hwb2
        obtain ⟨hwb2, f3, f4⟩ := hwb2
        have f3 : 0 ≤ mu1' ∧ mu1' ≤ 1024000000000000 := f3
        have f4 : 1 ≤ md1' ∧ md1' ≤ 25600000000 := f4
        have hP : va_P (dC, dI) vwCl [(a8, .inl (cZ, 8, .inl (jA y8))), (ma, .inr (5, [.int (jI mth1'), .int (jI mn), .ref a0, .int (jI mp), .int (jI mw), .ref a1, .ref a2, .ref a3, .ref a4, .ref a5, .ref a6, .ref a7, .ref a8, .ref a9, .ref a10, .long (jL mu1'), .long (jL md1'), .int (jI mo), .ref a11])), (a1, .inl (cZ, 62, .inl (jA y1))), (a2, .inl (cA, 62, .inl (jA y2))), (a3, .inl (cZ, 496, .inl (jA y3))), (a4, .inl (cA, 496, .inl (jA y4))), (a5, .inl (cA, 496, .inl (jA y5))), (a9, .inl (cA, 64, .inl (jA y9))), (a10, .inl (cA, 8, .inl (jA y10)))] H := hP
        have hD : va_D A [(a8, .inl (cZ, 8, .inl (jA y8))), (ma, .inr (5, [.int (jI mth1'), .int (jI mn), .ref a0, .int (jI mp), .int (jI mw), .ref a1, .ref a2, .ref a3, .ref a4, .ref a5, .ref a6, .ref a7, .ref a8, .ref a9, .ref a10, .long (jL mu1'), .long (jL md1'), .int (jI mo), .ref a11])), (a1, .inl (cZ, 62, .inl (jA y1))), (a2, .inl (cA, 62, .inl (jA y2))), (a3, .inl (cZ, 496, .inl (jA y3))), (a4, .inl (cA, 496, .inl (jA y4))), (a5, .inl (cA, 496, .inl (jA y5))), (a9, .inl (cA, 64, .inl (jA y9))), (a10, .inl (cA, 8, .inl (jA y10)))] := hD
        refine lv_iload hx hb dXM_equivalent_78 (lv_at hl 5 rfl) ?_
        refine ji_if_ne (tgt := 90) hx hb dXM_equivalent_80 (by decide) (by omega) (fun c80_ => ?_) (fun c80_ => ?_)
        · refine lv_aload_n hx hb dXM_equivalent_90 rfl (lv_at hl 1 rfl) ?_
          refine va_get (D := (dC, dI)) (ci := 5) (v := .long (jL md1')) (C := RXM) (T := TXM) (N := 19) hx hb hts (fun w h => jmem (inXM w h)) hown hK hP 1 rfl rfl 16 (by decide) (hts _ (jmem tw_644)) (fun _ h9 => h9) rfl dXM_equivalent_91 ?_
          have hP9 := hP.sub (ws' := [(ma, .inr (5, [.int (jI mth1'), .int (jI mn), .ref a0, .int (jI mp), .int (jI mw), .ref a1, .ref a2, .ref a3, .ref a4, .ref a5, .ref a6, .ref a7, .ref a8, .ref a9, .ref a10, .long (jL mu1'), .long (jL md1'), .int (jI mo), .ref a11])), (a1, .inl (cZ, 62, .inl (jA y1))), (a2, .inl (cA, 62, .inl (jA y2))), (a3, .inl (cZ, 496, .inl (jA y3))), (a4, .inl (cA, 496, .inl (jA y4))), (a5, .inl (cA, 496, .inl (jA y5))), (a8, .inl (cZ, 8, .inl (jA y8))), (a9, .inl (cA, 64, .inl (jA y9))), (a10, .inl (cA, 8, .inl (jA y10)))]) [1, 2, 3, 4, 5, 6, 0, 7, 8] rfl
          have hD9 := hD.sub (ws' := [(ma, .inr (5, [.int (jI mth1'), .int (jI mn), .ref a0, .int (jI mp), .int (jI mw), .ref a1, .ref a2, .ref a3, .ref a4, .ref a5, .ref a6, .ref a7, .ref a8, .ref a9, .ref a10, .long (jL mu1'), .long (jL md1'), .int (jI mo), .ref a11])), (a1, .inl (cZ, 62, .inl (jA y1))), (a2, .inl (cA, 62, .inl (jA y2))), (a3, .inl (cZ, 496, .inl (jA y3))), (a4, .inl (cA, 496, .inl (jA y4))), (a5, .inl (cA, 496, .inl (jA y5))), (a8, .inl (cZ, 8, .inl (jA y8))), (a9, .inl (cA, 64, .inl (jA y9))), (a10, .inl (cA, 8, .inl (jA y10)))]) [1, 2, 3, 4, 5, 6, 0, 7, 8] (by decide) rfl
          subst hAe
          subst hQ
          exact W.lret (v := jL md1') hx hb hr (fun t ht hW => ⟨⟨_, (md1', mth1', mu1', md1'), rfl, ⟨rfl, Eq.trans (by rw [f_XM_equivalentP_J63_s]; rw [← hwb]; try dsimp only; rw [if_neg c66_]; rw [← hwb2]; try dsimp only; rw [if_neg c80_]; try rfl) hF, show 0 ≤ mth1' ∧ mth1' ≤ 2 from by first | assumption | omega | exact jset_b (by assumption) (by omega) | exact jset_l (by assumption) (by omega) | exact jset_l (fun _ _ => rfl) (by omega) | exact fun _ _ => rfl | exact l_trans (by assumption) (by assumption), show 0 ≤ md1' ∧ md1' ≤ 1024000000000000 from by first | assumption | omega | exact jset_b (by assumption) (by omega) | exact jset_l (by assumption) (by omega) | exact jset_l (fun _ _ => rfl) (by omega) | exact fun _ _ => rfl | exact l_trans (by assumption) (by assumption)⟩, ⟨by rw [ht]; exact hP9, va_K.moved hW.alike hK, hD9⟩⟩, hS.F ht⟩) hS.2.2 dXM_equivalent_94
        · refine lv_aload_n hx hb dXM_equivalent_83 rfl (lv_at hl 1 rfl) ?_
          refine va_get (D := (dC, dI)) (ci := 5) (v := .long (jL mu1')) (C := RXM) (T := TXM) (N := 19) hx hb hts (fun w h => jmem (inXM w h)) hown hK hP 1 rfl rfl 15 (by decide) (hts _ (jmem tw_643)) (fun _ h9 => h9) rfl dXM_equivalent_84 ?_
          refine lv_goto (tgt := 94) hx hb dXM_equivalent_87 (by decide) ?_
          have hP9 := hP.sub (ws' := [(ma, .inr (5, [.int (jI mth1'), .int (jI mn), .ref a0, .int (jI mp), .int (jI mw), .ref a1, .ref a2, .ref a3, .ref a4, .ref a5, .ref a6, .ref a7, .ref a8, .ref a9, .ref a10, .long (jL mu1'), .long (jL md1'), .int (jI mo), .ref a11])), (a1, .inl (cZ, 62, .inl (jA y1))), (a2, .inl (cA, 62, .inl (jA y2))), (a3, .inl (cZ, 496, .inl (jA y3))), (a4, .inl (cA, 496, .inl (jA y4))), (a5, .inl (cA, 496, .inl (jA y5))), (a8, .inl (cZ, 8, .inl (jA y8))), (a9, .inl (cA, 64, .inl (jA y9))), (a10, .inl (cA, 8, .inl (jA y10)))]) [1, 2, 3, 4, 5, 6, 0, 7, 8] rfl
          have hD9 := hD.sub (ws' := [(ma, .inr (5, [.int (jI mth1'), .int (jI mn), .ref a0, .int (jI mp), .int (jI mw), .ref a1, .ref a2, .ref a3, .ref a4, .ref a5, .ref a6, .ref a7, .ref a8, .ref a9, .ref a10, .long (jL mu1'), .long (jL md1'), .int (jI mo), .ref a11])), (a1, .inl (cZ, 62, .inl (jA y1))), (a2, .inl (cA, 62, .inl (jA y2))), (a3, .inl (cZ, 496, .inl (jA y3))), (a4, .inl (cA, 496, .inl (jA y4))), (a5, .inl (cA, 496, .inl (jA y5))), (a8, .inl (cZ, 8, .inl (jA y8))), (a9, .inl (cA, 64, .inl (jA y9))), (a10, .inl (cA, 8, .inl (jA y10)))]) [1, 2, 3, 4, 5, 6, 0, 7, 8] (by decide) rfl
          subst hAe
          subst hQ
          exact W.lret (v := jL mu1') hx hb hr (fun t ht hW => ⟨⟨_, (mu1', mth1', mu1', md1'), rfl, ⟨rfl, Eq.trans (by rw [f_XM_equivalentP_J63_s]; rw [← hwb]; try dsimp only; rw [if_neg c66_]; rw [← hwb2]; try dsimp only; rw [if_pos c80_]; try rfl) hF, show 0 ≤ mth1' ∧ mth1' ≤ 2 from by first | assumption | omega | exact jset_b (by assumption) (by omega) | exact jset_l (by assumption) (by omega) | exact jset_l (fun _ _ => rfl) (by omega) | exact fun _ _ => rfl | exact l_trans (by assumption) (by assumption), show 0 ≤ mu1' ∧ mu1' ≤ 1024000000000000 from by first | assumption | omega | exact jset_b (by assumption) (by omega) | exact jset_l (by assumption) (by omega) | exact jset_l (fun _ _ => rfl) (by omega) | exact fun _ _ => rfl | exact l_trans (by assumption) (by assumption)⟩, ⟨by rw [ht]; exact hP9, va_K.moved hW.alike hK, hD9⟩⟩, hS.F ht⟩) hS.2.2 dXM_equivalent_94
      · refine ji_lconst (z := 0) hx hb dXM_equivalent_69 rfl ?_
        have hP9 := hP.sub (ws' := [(ma, .inr (5, [.int (jI mth1'), .int (jI mn), .ref a0, .int (jI mp), .int (jI mw), .ref a1, .ref a2, .ref a3, .ref a4, .ref a5, .ref a6, .ref a7, .ref a8, .ref a9, .ref a10, .long (jL mu), .long (jL md), .int (jI mo), .ref a11])), (a1, .inl (cZ, 62, .inl (jA y1))), (a2, .inl (cA, 62, .inl (jA y2))), (a3, .inl (cZ, 496, .inl (jA y3))), (a4, .inl (cA, 496, .inl (jA y4))), (a5, .inl (cA, 496, .inl (jA y5))), (a8, .inl (cZ, 8, .inl (jA y8))), (a9, .inl (cA, 64, .inl (jA y9))), (a10, .inl (cA, 8, .inl (jA y10)))]) [8, 0, 1, 2, 3, 4, 5, 6, 7] rfl
        have hD9 := hD.sub (ws' := [(ma, .inr (5, [.int (jI mth1'), .int (jI mn), .ref a0, .int (jI mp), .int (jI mw), .ref a1, .ref a2, .ref a3, .ref a4, .ref a5, .ref a6, .ref a7, .ref a8, .ref a9, .ref a10, .long (jL mu), .long (jL md), .int (jI mo), .ref a11])), (a1, .inl (cZ, 62, .inl (jA y1))), (a2, .inl (cA, 62, .inl (jA y2))), (a3, .inl (cZ, 496, .inl (jA y3))), (a4, .inl (cA, 496, .inl (jA y4))), (a5, .inl (cA, 496, .inl (jA y5))), (a8, .inl (cZ, 8, .inl (jA y8))), (a9, .inl (cA, 64, .inl (jA y9))), (a10, .inl (cA, 8, .inl (jA y10)))]) [8, 0, 1, 2, 3, 4, 5, 6, 7] (by decide) rfl
        subst hAe
        subst hQ
        exact W.lret (v := jL 0) hx hb hr (fun t ht hW => ⟨⟨_, (0, mth1', mu, md), rfl, ⟨rfl, Eq.trans (by rw [f_XM_equivalentP_J63_s]; rw [← hwb]; try dsimp only; rw [if_pos c66_]; try rfl) hF, show 0 ≤ mth1' ∧ mth1' ≤ 2 from by first | assumption | omega | exact jset_b (by assumption) (by omega) | exact jset_l (by assumption) (by omega) | exact jset_l (fun _ _ => rfl) (by omega) | exact fun _ _ => rfl | exact l_trans (by assumption) (by assumption), show 0 ≤ 0 ∧ 0 ≤ 1024000000000000 from by first | assumption | omega | exact jset_b (by assumption) (by omega) | exact jset_l (by assumption) (by omega) | exact jset_l (fun _ _ => rfl) (by omega) | exact fun _ _ => rfl | exact l_trans (by assumption) (by assumption)⟩, ⟨by rw [ht]; exact hP9, va_K.moved hW.alike hK, hD9⟩⟩, hS.F ht⟩) hS.2.2 dXM_equivalent_70
    refine lv_iload hx hb dXM_equivalent_44 (lv_at hl 0 rfl) ?_
    refine ji_if_eq (tgt := 62) hx hb dXM_equivalent_46 (by decide) (by omega) (fun c46_ => ?_) (fun c46_ => ?_)
    · refine ji_iconst hx hb dXM_equivalent_62 ?_
      exact join63 0 (Eq.trans (by rw [f_XM_equivalentP_J39_s]; rw [if_pos c46_]; try rfl) hF) (by first | assumption | omega | exact jset_b (by assumption) (by omega)) _ _ hP hD hS ls (lv_sub hl [0, 1, 2, 3, 4, 5] rfl)
    · refine lv_aload_n hx hb dXM_equivalent_49 rfl (lv_at hl 1 rfl) ?_
      refine va_get (D := (dC, dI)) (ci := 5) (v := .ref a8) (C := RXM) (T := TXM) (N := 19) hx hb hts (fun w h => jmem (inXM w h)) hown hK hP 0 rfl rfl 12 (by decide) (hts _ (jmem tw_640)) (fun _ h9 => h9) rfl dXM_equivalent_50 ?_
      refine lv_iload_n hx hb dXM_equivalent_53 rfl (lv_at hl 3 rfl) ?_
      refine ji_zald hx hb hK hP 6 1 rfl rfl ⟨by omega, by omega⟩ (by decide) dXM_equivalent_54 ?_
      have rb := hy8 z2
      refine ji_if_eq (tgt := 62) hx hb dXM_equivalent_55 (by decide) (by omega) (fun c55_ => ?_) (fun c55_ => ?_)
      · refine ji_iconst hx hb dXM_equivalent_62 ?_
        exact join63 0 (Eq.trans (by rw [f_XM_equivalentP_J39_s]; rw [if_neg c46_, if_pos c55_]; try rfl) hF) (by first | assumption | omega | exact jset_b (by assumption) (by omega)) _ _ hP hD hS ls (lv_sub hl [0, 1, 2, 3, 4, 5] rfl)
      · refine ji_iconst hx hb dXM_equivalent_58 ?_
        refine lv_goto (tgt := 63) hx hb dXM_equivalent_59 (by decide) ?_
        exact join63 1 (Eq.trans (by rw [f_XM_equivalentP_J39_s]; rw [if_neg c46_, if_neg c55_]; try rfl) hF) (by first | assumption | omega | exact jset_b (by assumption) (by omega)) _ _ hP hD hS ls (lv_sub hl [0, 1, 2, 3, 4, 5] rfl)
  refine lv_aload_n hx hb dXM_equivalent_0 rfl (lv_at hl 0 rfl) ?_
  refine lv_iload_n hx hb dXM_equivalent_1 rfl (lv_at hl 1 rfl) ?_
  refine jrVi (rest := []) ⟨hx, hb, hml, hown, hts⟩ (c_XM_isTold l dC dI cA cZ ma a0 a1 a2 a3 a4 a5 a6 a7 a8 a9 a10 a11 mth mn mp mw mu md mo y1 z1 (by first | assumption | omega) (by first | assumption | omega)) (cwV 1 hts (jG_V tw_768 tw_770 ts_29 tw_6 tw_771) rfl rfl rfl (by decide +kernel) (by rw [hR]; exact ⟨Nat.le_of_ble_eq_true rfl, Nat.le_of_ble_eq_true rfl⟩)) hK hP hN [0, 1] rfl 0 5 rfl rfl rfl rfl hl.1 rfl (Nat.le_of_ble_eq_true rfl) dXM_equivalent_2 (by rw [hR]; exact ⟨Nat.le_of_ble_eq_true rfl, Nat.le_of_ble_eq_true rfl⟩) ?_
  have f5 := f_XM_isTold_b mth mn mp mw mu md mo y1 z1 (by first | assumption | omega) (by first | assumption | omega)
  refine ji_if_eq (tgt := 38) hx hb dXM_equivalent_5 (by decide) (by omega) (fun c5_ => ?_) (fun c5_ => ?_)
  · refine ji_iconst hx hb dXM_equivalent_38 ?_
    exact join39 0 (Eq.trans (by rw [f_XM_equivalentP_s]; rw [if_pos c5_]; try rfl) rfl) (by first | assumption | omega | exact jset_b (by assumption) (by omega)) _ _ hP hD hS ls (lv_sub hl [0, 1, 2, 3, 4] rfl)
  · refine lv_iload_n hx hb dXM_equivalent_8 rfl (lv_at hl 2 rfl) ?_
    refine jrSi (rest := []) ⟨hx, hb, hml, hown, hts⟩ (c_XM_isKind l dC dI cA cZ z2 (by first | assumption | omega)) (cwS 1 hts (jG_S tw_795 tw_796 tw_6 tw_797) rfl rfl rfl (by decide +kernel) (by rw [hR]; exact ⟨Nat.le_of_ble_eq_true rfl, Nat.le_of_ble_eq_true rfl⟩)) hK hP hN [] rfl rfl hl.1 rfl (Nat.le_of_ble_eq_true rfl) dXM_equivalent_9 (by rw [hR]; exact ⟨Nat.le_of_ble_eq_true rfl, Nat.le_of_ble_eq_true rfl⟩) ?_
    have f6 := f_XM_isKind_b z2 (by first | assumption | omega)
    refine ji_if_eq (tgt := 38) hx hb dXM_equivalent_12 (by decide) (by omega) (fun c12_ => ?_) (fun c12_ => ?_)
    · refine ji_iconst hx hb dXM_equivalent_38 ?_
      exact join39 0 (Eq.trans (by rw [f_XM_equivalentP_s]; rw [if_neg c5_, if_pos c12_]; try rfl) rfl) (by first | assumption | omega | exact jset_b (by assumption) (by omega)) _ _ hP hD hS ls (lv_sub hl [0, 1, 2, 3, 4] rfl)
    · refine lv_iload_n hx hb dXM_equivalent_15 rfl (lv_at hl 3 rfl) ?_
      refine ji_iconst hx hb dXM_equivalent_16 ?_
      refine ji_iconst hx hb dXM_equivalent_17 ?_
      refine jrSi (rest := []) ⟨hx, hb, hml, hown, hts⟩ (c_XM_in l dC dI cA cZ z3 0 1 (by first | assumption | omega) (by first | assumption | omega) (by first | assumption | omega)) (cwS 3 hts (jG_S tw_695 tw_696 tw_6 tw_697) rfl rfl rfl (by decide +kernel) (by rw [hR]; exact ⟨Nat.le_of_ble_eq_true rfl, Nat.le_of_ble_eq_true rfl⟩)) hK hP hN [] rfl rfl hl.1 rfl (Nat.le_of_ble_eq_true rfl) dXM_equivalent_18 (by rw [hR]; exact ⟨Nat.le_of_ble_eq_true rfl, Nat.le_of_ble_eq_true rfl⟩) ?_
      have f7 := f_XM_in_b z3 0 1 (by first | assumption | omega) (by first | assumption | omega) (by first | assumption | omega)
      refine ji_if_eq (tgt := 38) hx hb dXM_equivalent_21 (by decide) (by omega) (fun c21_ => ?_) (fun c21_ => ?_)
      · refine ji_iconst hx hb dXM_equivalent_38 ?_
        exact join39 0 (Eq.trans (by rw [f_XM_equivalentP_s]; rw [if_neg c5_, if_neg c12_, if_pos c21_]; try rfl) rfl) (by first | assumption | omega | exact jset_b (by assumption) (by omega)) _ _ hP hD hS ls (lv_sub hl [0, 1, 2, 3, 4] rfl)
      · refine lv_iload hx hb dXM_equivalent_24 (lv_at hl 4 rfl) ?_
        refine ji_iconst hx hb dXM_equivalent_26 ?_
        refine ji_iconst hx hb dXM_equivalent_27 ?_
        refine jrSi (rest := []) ⟨hx, hb, hml, hown, hts⟩ (c_XM_in l dC dI cA cZ z4 0 1 (by first | assumption | omega) (by first | assumption | omega) (by first | assumption | omega)) (cwS 3 hts (jG_S tw_695 tw_696 tw_6 tw_697) rfl rfl rfl (by decide +kernel) (by rw [hR]; exact ⟨Nat.le_of_ble_eq_true rfl, Nat.le_of_ble_eq_true rfl⟩)) hK hP hN [] rfl rfl hl.1 rfl (Nat.le_of_ble_eq_true rfl) dXM_equivalent_28 (by rw [hR]; exact ⟨Nat.le_of_ble_eq_true rfl, Nat.le_of_ble_eq_true rfl⟩) ?_
        have f8 := f_XM_in_b z4 0 1 (by first | assumption | omega) (by first | assumption | omega) (by first | assumption | omega)
        refine ji_if_eq (tgt := 38) hx hb dXM_equivalent_31 (by decide) (by omega) (fun c31_ => ?_) (fun c31_ => ?_)
        · refine ji_iconst hx hb dXM_equivalent_38 ?_
          exact join39 0 (Eq.trans (by rw [f_XM_equivalentP_s]; rw [if_neg c5_, if_neg c12_, if_neg c21_, if_pos c31_]; try rfl) rfl) (by first | assumption | omega | exact jset_b (by assumption) (by omega)) _ _ hP hD hS ls (lv_sub hl [0, 1, 2, 3, 4] rfl)
        · refine ji_iconst hx hb dXM_equivalent_34 ?_
          refine lv_goto (tgt := 39) hx hb dXM_equivalent_35 (by decide) ?_
          exact join39 1 (Eq.trans (by rw [f_XM_equivalentP_s]; rw [if_neg c5_, if_neg c12_, if_neg c21_, if_neg c31_]; try rfl) rfl) (by first | assumption | omega | exact jset_b (by assumption) (by omega)) _ _ hP hD hS ls (lv_sub hl [0, 1, 2, 3, 4] rfl)
noncomputable def g_XM_valueP_J42 (mth : Int) (mn : Int) (mp : Int) (mw : Int) (mu : Int) (md : Int) (mo : Int) (y1 : Int → Int) (y2 : Int → Int) (y3 : Int → Int) (y4 : Int → Int) (y5 : Int → Int) (y8 : Int → Int) (y9 : Int → Int) (y10 : Int → Int) (z1 : Int) (z2 : Int) (jc : Int) (jd : Int) : Int × Int × Int × Int :=
  match f_XM_goesP mth mn mp mw mu md mo jc jd with
  | (r, mth1') =>
    if r = 0 then
      (0, mth1', mu, md)
    else
      match f_XM_reckonP mth1' mn mp mw mu md mo y1 y2 y3 y4 y5 y9 y10 0 z1 2 with
      | (mu1', md1') =>
        if z2 = 0 then
          (mu1', mth1', mu1', md1')
        else
          (md1', mth1', mu1', md1')
noncomputable def f_XM_valueP_J42 : Int → Int → Int → Int → Int → Int → Int → (Int → Int) → (Int → Int) → (Int → Int) → (Int → Int) → (Int → Int) → (Int → Int) → (Int → Int) → (Int → Int) → Int → Int → Int → Int → Int × Int × Int × Int := jopq g_XM_valueP_J42
theorem f_XM_valueP_J42_q : f_XM_valueP_J42 = g_XM_valueP_J42 := jopq_eq _
theorem f_XM_valueP_J42_s (mth : Int) (mn : Int) (mp : Int) (mw : Int) (mu : Int) (md : Int) (mo : Int) (y1 : Int → Int) (y2 : Int → Int) (y3 : Int → Int) (y4 : Int → Int) (y5 : Int → Int) (y8 : Int → Int) (y9 : Int → Int) (y10 : Int → Int) (z1 : Int) (z2 : Int) (jc : Int) (jd : Int) : f_XM_valueP_J42 mth mn mp mw mu md mo y1 y2 y3 y4 y5 y8 y9 y10 z1 z2 jc jd = (
    match f_XM_goesP mth mn mp mw mu md mo jc jd with
    | (r, mth1') =>
      if r = 0 then
        (0, mth1', mu, md)
      else
        match f_XM_reckonP mth1' mn mp mw mu md mo y1 y2 y3 y4 y5 y9 y10 0 z1 2 with
        | (mu1', md1') =>
          if z2 = 0 then
            (mu1', mth1', mu1', md1')
          else
            (md1', mth1', mu1', md1')
  : Int × Int × Int × Int) := by rw [f_XM_valueP_J42_q]; rfl
noncomputable def g_XM_valueP_J21 (mth : Int) (mn : Int) (mp : Int) (mw : Int) (mu : Int) (md : Int) (mo : Int) (y1 : Int → Int) (y2 : Int → Int) (y3 : Int → Int) (y4 : Int → Int) (y5 : Int → Int) (y8 : Int → Int) (y9 : Int → Int) (y10 : Int → Int) (z1 : Int) (z2 : Int) (jc : Int) : Int × Int × Int × Int :=
  if jc = 0 then
    f_XM_valueP_J42 mth mn mp mw mu md mo y1 y2 y3 y4 y5 y8 y9 y10 z1 z2 jc 0
  else
    if (y8 z1) = 0 then
      f_XM_valueP_J42 mth mn mp mw mu md mo y1 y2 y3 y4 y5 y8 y9 y10 z1 z2 jc 0
    else
      f_XM_valueP_J42 mth mn mp mw mu md mo y1 y2 y3 y4 y5 y8 y9 y10 z1 z2 jc 1
noncomputable def f_XM_valueP_J21 : Int → Int → Int → Int → Int → Int → Int → (Int → Int) → (Int → Int) → (Int → Int) → (Int → Int) → (Int → Int) → (Int → Int) → (Int → Int) → (Int → Int) → Int → Int → Int → Int × Int × Int × Int := jopq g_XM_valueP_J21
theorem f_XM_valueP_J21_q : f_XM_valueP_J21 = g_XM_valueP_J21 := jopq_eq _
theorem f_XM_valueP_J21_s (mth : Int) (mn : Int) (mp : Int) (mw : Int) (mu : Int) (md : Int) (mo : Int) (y1 : Int → Int) (y2 : Int → Int) (y3 : Int → Int) (y4 : Int → Int) (y5 : Int → Int) (y8 : Int → Int) (y9 : Int → Int) (y10 : Int → Int) (z1 : Int) (z2 : Int) (jc : Int) : f_XM_valueP_J21 mth mn mp mw mu md mo y1 y2 y3 y4 y5 y8 y9 y10 z1 z2 jc = (
    if jc = 0 then
      f_XM_valueP_J42 mth mn mp mw mu md mo y1 y2 y3 y4 y5 y8 y9 y10 z1 z2 jc 0
    else
      if (y8 z1) = 0 then
        f_XM_valueP_J42 mth mn mp mw mu md mo y1 y2 y3 y4 y5 y8 y9 y10 z1 z2 jc 0
      else
        f_XM_valueP_J42 mth mn mp mw mu md mo y1 y2 y3 y4 y5 y8 y9 y10 z1 z2 jc 1
  : Int × Int × Int × Int) := by rw [f_XM_valueP_J21_q]; rfl
noncomputable def g_XM_valueP (mth : Int) (mn : Int) (mp : Int) (mw : Int) (mu : Int) (md : Int) (mo : Int) (y1 : Int → Int) (y2 : Int → Int) (y3 : Int → Int) (y4 : Int → Int) (y5 : Int → Int) (y8 : Int → Int) (y9 : Int → Int) (y10 : Int → Int) (z1 : Int) (z2 : Int) : Int × Int × Int × Int :=
  if (f_XM_isKind z1) = 0 then
    f_XM_valueP_J21 mth mn mp mw mu md mo y1 y2 y3 y4 y5 y8 y9 y10 z1 z2 0
  else
    if (f_XM_in z2 0 1) = 0 then
      f_XM_valueP_J21 mth mn mp mw mu md mo y1 y2 y3 y4 y5 y8 y9 y10 z1 z2 0
    else
      f_XM_valueP_J21 mth mn mp mw mu md mo y1 y2 y3 y4 y5 y8 y9 y10 z1 z2 1
noncomputable def f_XM_valueP : Int → Int → Int → Int → Int → Int → Int → (Int → Int) → (Int → Int) → (Int → Int) → (Int → Int) → (Int → Int) → (Int → Int) → (Int → Int) → (Int → Int) → Int → Int → Int × Int × Int × Int := jopq g_XM_valueP
theorem f_XM_valueP_q : f_XM_valueP = g_XM_valueP := jopq_eq _
theorem f_XM_valueP_s (mth : Int) (mn : Int) (mp : Int) (mw : Int) (mu : Int) (md : Int) (mo : Int) (y1 : Int → Int) (y2 : Int → Int) (y3 : Int → Int) (y4 : Int → Int) (y5 : Int → Int) (y8 : Int → Int) (y9 : Int → Int) (y10 : Int → Int) (z1 : Int) (z2 : Int) : f_XM_valueP mth mn mp mw mu md mo y1 y2 y3 y4 y5 y8 y9 y10 z1 z2 = (
    if (f_XM_isKind z1) = 0 then
      f_XM_valueP_J21 mth mn mp mw mu md mo y1 y2 y3 y4 y5 y8 y9 y10 z1 z2 0
    else
      if (f_XM_in z2 0 1) = 0 then
        f_XM_valueP_J21 mth mn mp mw mu md mo y1 y2 y3 y4 y5 y8 y9 y10 z1 z2 0
      else
        f_XM_valueP_J21 mth mn mp mw mu md mo y1 y2 y3 y4 y5 y8 y9 y10 z1 z2 1
  : Int × Int × Int × Int) := by rw [f_XM_valueP_q]; rfl
set_option maxHeartbeats 4000000 in
set_option maxRecDepth 100000 in
theorem c_XM_valueP (l : Launch) (dC : Nat → ClassId) (dI : Nat → Nat → Nat) (cA cZ : ClassId) (sz : Nat) (ma : Nat) (a0 : Nat) (a1 : Nat) (a2 : Nat) (a3 : Nat) (a4 : Nat) (a5 : Nat) (a6 : Nat) (a7 : Nat) (a8 : Nat) (a9 : Nat) (a10 : Nat) (a11 : Nat) (mth : Int) (mn : Int) (mp : Int) (mw : Int) (mu : Int) (md : Int) (mo : Int) (y1 : Int → Int) (y2 : Int → Int) (y3 : Int → Int) (y4 : Int → Int) (y5 : Int → Int) (y8 : Int → Int) (y9 : Int → Int) (y10 : Int → Int) (z1 : Int) (z2 : Int) (hy1 : ∀ i, 0 ≤ y1 i ∧ y1 i ≤ 1) (hy2 : ∀ i, 0 ≤ y2 i ∧ y2 i ≤ 30) (hy3 : ∀ i, 0 ≤ y3 i ∧ y3 i ≤ 1) (hy4 : ∀ i, 0 ≤ y4 i ∧ y4 i ≤ 100000) (hy5 : ∀ i, 0 ≤ y5 i ∧ y5 i ≤ 100000) (hy8 : ∀ i, 0 ≤ y8 i ∧ y8 i ≤ 1) (hy9 : ∀ i, 0 ≤ y9 i ∧ y9 i ≤ 20) (hy10 : ∀ i, 0 ≤ y10 i ∧ y10 i ≤ 100000) (hiz1 : i32 z1) (hiz2 : i32 z2) : Met l yXM_value (Cond.code yXM_value cXM_value 4 (some .long) :: TBL) ({ frames := 6, cells := 0, slots := 0, locals := 134 } : Room) (va_Pc [.ref ma, .int (jI z1), .int (jI z2)] (jBw (dC, dI) [(cA, .int), (cZ, .boolean)] [(ma, .inr (5, [.int (jI mth), .int (jI mn), .ref a0, .int (jI mp), .int (jI mw), .ref a1, .ref a2, .ref a3, .ref a4, .ref a5, .ref a6, .ref a7, .ref a8, .ref a9, .ref a10, .long (jL mu), .long (jL md), .int (jI mo), .ref a11])), (a1, .inl (cZ, 62, .inl (jA y1))), (a2, .inl (cA, 62, .inl (jA y2))), (a3, .inl (cZ, 496, .inl (jA y3))), (a4, .inl (cA, 496, .inl (jA y4))), (a5, .inl (cA, 496, .inl (jA y5))), (a8, .inl (cZ, 8, .inl (jA y8))), (a9, .inl (cA, 64, .inl (jA y9))), (a10, .inl (cA, 8, .inl (jA y10)))] sz)) (va_Ql (fun (r : Int64) (u : Int × Int × Int × Int) => r = jL u.1 ∧ u = f_XM_valueP mth mn mp mw mu md mo y1 y2 y3 y4 y5 y8 y9 y10 z1 z2 ∧ (0 ≤ u.2.1 ∧ u.2.1 ≤ 2) ∧ (0 ≤ u.1 ∧ u.1 ≤ 1024000000000000)) (fun u t => jE (dC, dI) [(cA, .int), (cZ, .boolean)] [(ma, .inr (5, [.int (jI mth), .int (jI mn), .ref a0, .int (jI mp), .int (jI mw), .ref a1, .ref a2, .ref a3, .ref a4, .ref a5, .ref a6, .ref a7, .ref a8, .ref a9, .ref a10, .long (jL mu), .long (jL md), .int (jI mo), .ref a11])), (a1, .inl (cZ, 62, .inl (jA y1))), (a2, .inl (cA, 62, .inl (jA y2))), (a3, .inl (cZ, 496, .inl (jA y3))), (a4, .inl (cA, 496, .inl (jA y4))), (a5, .inl (cA, 496, .inl (jA y5))), (a8, .inl (cZ, 8, .inl (jA y8))), (a9, .inl (cA, 64, .inl (jA y9))), (a10, .inl (cA, 8, .inl (jA y10)))] sz [(ma, .inr (5, [.int (jI u.2.1), .int (jI mn), .ref a0, .int (jI mp), .int (jI mw), .ref a1, .ref a2, .ref a3, .ref a4, .ref a5, .ref a6, .ref a7, .ref a8, .ref a9, .ref a10, .long (jL u.2.2.1), .long (jL u.2.2.2), .int (jI mo), .ref a11])), (a1, .inl (cZ, 62, .inl (jA y1))), (a2, .inl (cA, 62, .inl (jA y2))), (a3, .inl (cZ, 496, .inl (jA y3))), (a4, .inl (cA, 496, .inl (jA y4))), (a5, .inl (cA, 496, .inl (jA y5))), (a8, .inl (cZ, 8, .inl (jA y8))), (a9, .inl (cA, 64, .inl (jA y9))), (a10, .inl (cA, 8, .inl (jA y10)))] t) (va_A [(ma, .inr (5, [.int (jI mth), .int (jI mn), .ref a0, .int (jI mp), .int (jI mw), .ref a1, .ref a2, .ref a3, .ref a4, .ref a5, .ref a6, .ref a7, .ref a8, .ref a9, .ref a10, .long (jL mu), .long (jL md), .int (jI mo), .ref a11])), (a1, .inl (cZ, 62, .inl (jA y1))), (a2, .inl (cA, 62, .inl (jA y2))), (a3, .inl (cZ, 496, .inl (jA y3))), (a4, .inl (cA, 496, .inl (jA y4))), (a5, .inl (cA, 496, .inl (jA y5))), (a8, .inl (cZ, 8, .inl (jA y8))), (a9, .inl (cA, 64, .inl (jA y9))), (a10, .inl (cA, 8, .inl (jA y10)))] sz)) 0 0 (va_A [(ma, .inr (5, [.int (jI mth), .int (jI mn), .ref a0, .int (jI mp), .int (jI mw), .ref a1, .ref a2, .ref a3, .ref a4, .ref a5, .ref a6, .ref a7, .ref a8, .ref a9, .ref a10, .long (jL mu), .long (jL md), .int (jI mo), .ref a11])), (a1, .inl (cZ, 62, .inl (jA y1))), (a2, .inl (cA, 62, .inl (jA y2))), (a3, .inl (cZ, 496, .inl (jA y3))), (a4, .inl (cA, 496, .inl (jA y4))), (a5, .inl (cA, 496, .inl (jA y5))), (a8, .inl (cZ, 8, .inl (jA y8))), (a9, .inl (cA, 64, .inl (jA y9))), (a10, .inl (cA, 8, .inl (jA y10)))] sz) := by
  refine jMet (cc := cXM_value) (maxL := 4) (ret := some .long) (by decide) rfl ?_
  intro p e s m args below meth c s₁ R Q hR hQ B hml hv
  obtain ⟨rfl, hsz, hP, hK, hD0, hN⟩ := hv
  have hx := B.exec
  have hb := B.bytes
  have hr := B.returns
  have hts := atoms_spec (ws := Cond.code yXM_value cXM_value 4 (some .long) :: TBL) B.pre
  have hown : s.vm.findClass RXM = some m.cls := findClass_of_methodNamed B.named
  have hlocks := B.notSynchronized
  subst hsz
  obtain ⟨A, hAe⟩ : ∃ A, A = va_A [(ma, .inr (5, [.int (jI mth), .int (jI mn), .ref a0, .int (jI mp), .int (jI mw), .ref a1, .ref a2, .ref a3, .ref a4, .ref a5, .ref a6, .ref a7, .ref a8, .ref a9, .ref a10, .long (jL mu), .long (jL md), .int (jI mo), .ref a11])), (a1, .inl (cZ, 62, .inl (jA y1))), (a2, .inl (cA, 62, .inl (jA y2))), (a3, .inl (cZ, 496, .inl (jA y3))), (a4, .inl (cA, 496, .inl (jA y4))), (a5, .inl (cA, 496, .inl (jA y5))), (a8, .inl (cZ, 8, .inl (jA y8))), (a9, .inl (cA, 64, .inl (jA y9))), (a10, .inl (cA, 8, .inl (jA y10)))] s.heap.size := ⟨_, rfl⟩
  have hD : va_D A [(ma, .inr (5, [.int (jI mth), .int (jI mn), .ref a0, .int (jI mp), .int (jI mw), .ref a1, .ref a2, .ref a3, .ref a4, .ref a5, .ref a6, .ref a7, .ref a8, .ref a9, .ref a10, .long (jL mu), .long (jL md), .int (jI mo), .ref a11])), (a1, .inl (cZ, 62, .inl (jA y1))), (a2, .inl (cA, 62, .inl (jA y2))), (a3, .inl (cZ, 496, .inl (jA y3))), (a4, .inl (cA, 496, .inl (jA y4))), (a5, .inl (cA, 496, .inl (jA y5))), (a8, .inl (cZ, 8, .inl (jA y8))), (a9, .inl (cA, 64, .inl (jA y9))), (a10, .inl (cA, 8, .inl (jA y10)))] := by rw [hAe]; exact hD0.self
  have hA : ∀ q : Nat, s.heap.size ≤ q → A q := fun q h => by rw [hAe]; exact Or.inr h
  have hS : va_S A s.heap s.heap [] := va_S.rf
  have hP : va_P (dC, dI) vwCl [(ma, .inr (5, [.int (jI mth), .int (jI mn), .ref a0, .int (jI mp), .int (jI mw), .ref a1, .ref a2, .ref a3, .ref a4, .ref a5, .ref a6, .ref a7, .ref a8, .ref a9, .ref a10, .long (jL mu), .long (jL md), .int (jI mo), .ref a11])), (a1, .inl (cZ, 62, .inl (jA y1))), (a2, .inl (cA, 62, .inl (jA y2))), (a3, .inl (cZ, 496, .inl (jA y3))), (a4, .inl (cA, 496, .inl (jA y4))), (a5, .inl (cA, 496, .inl (jA y5))), (a8, .inl (cZ, 8, .inl (jA y8))), (a9, .inl (cA, 64, .inl (jA y9))), (a10, .inl (cA, 8, .inl (jA y10)))] s.heap := hP
  have hl := lv_entry ([.ref ma, .int (jI z1), .int (jI z2)]) (n := 4) (Nat.le_of_ble_eq_true rfl)
  rw [lg_entry_eq]
  generalize (lg_sl ([.ref ma, .int (jI z1), .int (jI z2)]) ++ List.replicate (4 - (lg_sl ([.ref ma, .int (jI z1), .int (jI z2)])).length) Slot.unset).toArray = ls at hl ⊢
  have hl : lv_has ls 4 [(0, .ref ma), (1, .int (jI z1)), (2, .int (jI z2))] := hl
  have join21 : ∀ (jc : Int) , f_XM_valueP_J21 mth mn mp mw mu md mo y1 y2 y3 y4 y5 y8 y9 y10 z1 z2 jc = f_XM_valueP mth mn mp mw mu md mo y1 y2 y3 y4 y5 y8 y9 y10 z1 z2 → ((jc = 0) ∨ (jc = 1 ∧ 0 ≤ z1 ∧ z1 ≤ 3 ∧ 0 ≤ z2 ∧ z2 ≤ 1)) → ∀ (H : Heap) (locs : List Loc), va_P (dC, dI) vwCl [(ma, .inr (5, [.int (jI mth), .int (jI mn), .ref a0, .int (jI mp), .int (jI mw), .ref a1, .ref a2, .ref a3, .ref a4, .ref a5, .ref a6, .ref a7, .ref a8, .ref a9, .ref a10, .long (jL mu), .long (jL md), .int (jI mo), .ref a11])), (a1, .inl (cZ, 62, .inl (jA y1))), (a2, .inl (cA, 62, .inl (jA y2))), (a3, .inl (cZ, 496, .inl (jA y3))), (a4, .inl (cA, 496, .inl (jA y4))), (a5, .inl (cA, 496, .inl (jA y5))), (a8, .inl (cZ, 8, .inl (jA y8))), (a9, .inl (cA, 64, .inl (jA y9))), (a10, .inl (cA, 8, .inl (jA y10)))] H → va_D A [(ma, .inr (5, [.int (jI mth), .int (jI mn), .ref a0, .int (jI mp), .int (jI mw), .ref a1, .ref a2, .ref a3, .ref a4, .ref a5, .ref a6, .ref a7, .ref a8, .ref a9, .ref a10, .long (jL mu), .long (jL md), .int (jI mo), .ref a11])), (a1, .inl (cZ, 62, .inl (jA y1))), (a2, .inl (cA, 62, .inl (jA y2))), (a3, .inl (cZ, 496, .inl (jA y3))), (a4, .inl (cA, 496, .inl (jA y4))), (a5, .inl (cA, 496, .inl (jA y5))), (a8, .inl (cZ, 8, .inl (jA y8))), (a9, .inl (cA, 64, .inl (jA y9))), (a10, .inl (cA, 8, .inl (jA y10)))] → va_S A s.heap H locs → ∀ ls : Array Slot, lv_has ls 4 [(0, .ref ma), (1, .int (jI z1)), (2, .int (jI z2))] → W p l e R s m ([.ref ma, .int (jI z1), .int (jI z2)] : List Value).toArray below meth c H locs 0 0 Q (F0 m 21 ls [.int (jI jc)]) := by
    intro jc hF hjc H locs hP hD hS ls hl
    refine lv_istore_n (lv' := [(3, .int (jI jc)), (0, .ref ma), (1, .int (jI z1)), (2, .int (jI z2))]) hx hb dXM_value_21 rfl hl (by decide) rfl (fun ls hl => ?_)
    refine lv_aload_n hx hb dXM_value_22 rfl (lv_at hl 1 rfl) ?_
    refine lv_iload_n hx hb dXM_value_23 rfl (lv_at hl 0 rfl) ?_
    have join42 : ∀ (jd : Int) , f_XM_valueP_J42 mth mn mp mw mu md mo y1 y2 y3 y4 y5 y8 y9 y10 z1 z2 jc jd = f_XM_valueP mth mn mp mw mu md mo y1 y2 y3 y4 y5 y8 y9 y10 z1 z2 → ((jd = 0) ∨ (jd = 1 ∧ jc = 1)) → ∀ (H : Heap) (locs : List Loc), va_P (dC, dI) vwCl [(ma, .inr (5, [.int (jI mth), .int (jI mn), .ref a0, .int (jI mp), .int (jI mw), .ref a1, .ref a2, .ref a3, .ref a4, .ref a5, .ref a6, .ref a7, .ref a8, .ref a9, .ref a10, .long (jL mu), .long (jL md), .int (jI mo), .ref a11])), (a1, .inl (cZ, 62, .inl (jA y1))), (a2, .inl (cA, 62, .inl (jA y2))), (a3, .inl (cZ, 496, .inl (jA y3))), (a4, .inl (cA, 496, .inl (jA y4))), (a5, .inl (cA, 496, .inl (jA y5))), (a8, .inl (cZ, 8, .inl (jA y8))), (a9, .inl (cA, 64, .inl (jA y9))), (a10, .inl (cA, 8, .inl (jA y10)))] H → va_D A [(ma, .inr (5, [.int (jI mth), .int (jI mn), .ref a0, .int (jI mp), .int (jI mw), .ref a1, .ref a2, .ref a3, .ref a4, .ref a5, .ref a6, .ref a7, .ref a8, .ref a9, .ref a10, .long (jL mu), .long (jL md), .int (jI mo), .ref a11])), (a1, .inl (cZ, 62, .inl (jA y1))), (a2, .inl (cA, 62, .inl (jA y2))), (a3, .inl (cZ, 496, .inl (jA y3))), (a4, .inl (cA, 496, .inl (jA y4))), (a5, .inl (cA, 496, .inl (jA y5))), (a8, .inl (cZ, 8, .inl (jA y8))), (a9, .inl (cA, 64, .inl (jA y9))), (a10, .inl (cA, 8, .inl (jA y10)))] → va_S A s.heap H locs → ∀ ls : Array Slot, lv_has ls 4 [(3, .int (jI jc)), (0, .ref ma), (1, .int (jI z1)), (2, .int (jI z2))] → W p l e R s m ([.ref ma, .int (jI z1), .int (jI z2)] : List Value).toArray below meth c H locs 0 0 Q (F0 m 42 ls [.int (jI jd), .int (jI jc), .ref ma]) := by
      intro jd hF hjd H locs hP hD hS ls hl
      refine jwVi (rest := []) (wr := [(a1, .inl (cZ, 62, .inl (jA y1))), (a2, .inl (cA, 62, .inl (jA y2))), (a3, .inl (cZ, 496, .inl (jA y3))), (a4, .inl (cA, 496, .inl (jA y4))), (a5, .inl (cA, 496, .inl (jA y5))), (a8, .inl (cZ, 8, .inl (jA y8))), (a9, .inl (cA, 64, .inl (jA y9))), (a10, .inl (cA, 8, .inl (jA y10)))]) ⟨hx, hb, hml, hown, hts⟩ (c_XM_goesP l dC dI cA cZ _ ma a0 a1 a2 a3 a4 a5 a6 a7 a8 a9 a10 a11 mth mn mp mw mu md mo jc jd (by first | assumption | omega) (by first | assumption | omega)) (cwV 2 hts (jG_V tw_698 tw_700 ts_14 tw_6 tw_701) rfl rfl rfl (by decide +kernel) (by rw [hR]; exact ⟨Nat.le_of_ble_eq_true rfl, Nat.le_of_ble_eq_true rfl⟩)) hK hP hD hS hA hN [0] [1, 2, 3, 4, 5, 6, 7, 8] rfl rfl (by decide) (by decide) (by decide) 0 5 rfl rfl rfl rfl hl.1 rfl (Nat.le_of_ble_eq_true rfl) dXM_value_42 (by rw [hR]; exact ⟨Nat.le_of_ble_eq_true rfl, Nat.le_of_ble_eq_true rfl⟩) (fun v u H locs hwb hP hD hS => ?_)
      obtain ⟨r, mth1'⟩ := u
      try dsimp only at hwb
      obtain ⟨er, hwb, f⟩ := hwb
      subst er
      have f : (r = 0 ∧ mth1' = 1 ∧ jc = 0) ∨ (r = 0 ∧ mth1' = 2 ∧ jc = 1 ∧ jd = 0) ∨ (r = 1 ∧ mth1' = 0 ∧ jc = 1 ∧ jd = 1) := f
      have hP : va_P (dC, dI) vwCl [(a1, .inl (cZ, 62, .inl (jA y1))), (a2, .inl (cA, 62, .inl (jA y2))), (a3, .inl (cZ, 496, .inl (jA y3))), (a4, .inl (cA, 496, .inl (jA y4))), (a5, .inl (cA, 496, .inl (jA y5))), (a8, .inl (cZ, 8, .inl (jA y8))), (a9, .inl (cA, 64, .inl (jA y9))), (a10, .inl (cA, 8, .inl (jA y10))), (ma, .inr (5, [.int (jI mth1'), .int (jI mn), .ref a0, .int (jI mp), .int (jI mw), .ref a1, .ref a2, .ref a3, .ref a4, .ref a5, .ref a6, .ref a7, .ref a8, .ref a9, .ref a10, .long (jL mu), .long (jL md), .int (jI mo), .ref a11]))] H := hP
      have hD : va_D A [(a1, .inl (cZ, 62, .inl (jA y1))), (a2, .inl (cA, 62, .inl (jA y2))), (a3, .inl (cZ, 496, .inl (jA y3))), (a4, .inl (cA, 496, .inl (jA y4))), (a5, .inl (cA, 496, .inl (jA y5))), (a8, .inl (cZ, 8, .inl (jA y8))), (a9, .inl (cA, 64, .inl (jA y9))), (a10, .inl (cA, 8, .inl (jA y10))), (ma, .inr (5, [.int (jI mth1'), .int (jI mn), .ref a0, .int (jI mp), .int (jI mw), .ref a1, .ref a2, .ref a3, .ref a4, .ref a5, .ref a6, .ref a7, .ref a8, .ref a9, .ref a10, .long (jL mu), .long (jL md), .int (jI mo), .ref a11]))] := hD
      refine ji_if_ne (tgt := 50) hx hb dXM_value_45 (by decide) (by omega) (fun c45_ => ?_) (fun c45_ => ?_)
      · refine lv_aload_n hx hb dXM_value_50 rfl (lv_at hl 1 rfl) ?_
        refine ji_iconst hx hb dXM_value_51 ?_
        refine lv_iload_n hx hb dXM_value_52 rfl (lv_at hl 2 rfl) ?_
        refine ji_iconst hx hb dXM_value_53 ?_
        refine jwVv (rest := []) (wr := [(a8, .inl (cZ, 8, .inl (jA y8)))]) ⟨hx, hb, hml, hown, hts⟩ (c_XM_reckonP l dC dI cA cZ _ ma a0 a1 a2 a3 a4 a5 a6 a7 a8 a9 a10 a11 mth1' mn mp mw mu md mo y1 y2 y3 y4 y5 y9 y10 0 z1 2 (by first | assumption | omega) (by first | assumption | omega) (by first | assumption | omega) (by first | assumption | omega) (by first | assumption | omega) (by first | assumption | omega) (by first | assumption | omega) (by first | assumption | omega) (by first | assumption | omega)) (cwV 3 hts (jG_V tw_806 tw_808 ts_35 tw_6 tw_809) rfl rfl rfl (by decide +kernel) (by rw [hR]; exact ⟨Nat.le_of_ble_eq_true rfl, Nat.le_of_ble_eq_true rfl⟩)) hK hP hD hS hA hN [8, 0, 1, 2, 3, 4, 6, 7] [5] rfl rfl (by decide) (by decide) (by decide) 8 5 rfl rfl rfl rfl hl.1 rfl (Nat.le_of_ble_eq_true rfl) dXM_value_54 (by rw [hR]; exact ⟨Nat.le_of_ble_eq_true rfl, Nat.le_of_ble_eq_true rfl⟩) (fun u1 H locs hwb2 hP hD hS => ?_)
        obtain ⟨mu1', md1'⟩ := u1
        try dsimp only at hwb2
        obtain ⟨hwb2, f3, f4⟩ := hwb2
        have f3 : 0 ≤ mu1' ∧ mu1' ≤ 1024000000000000 := f3
        have f4 : 1 ≤ md1' ∧ md1' ≤ 25600000000 := f4
        have hP : va_P (dC, dI) vwCl [(a8, .inl (cZ, 8, .inl (jA y8))), (ma, .inr (5, [.int (jI mth1'), .int (jI mn), .ref a0, .int (jI mp), .int (jI mw), .ref a1, .ref a2, .ref a3, .ref a4, .ref a5, .ref a6, .ref a7, .ref a8, .ref a9, .ref a10, .long (jL mu1'), .long (jL md1'), .int (jI mo), .ref a11])), (a1, .inl (cZ, 62, .inl (jA y1))), (a2, .inl (cA, 62, .inl (jA y2))), (a3, .inl (cZ, 496, .inl (jA y3))), (a4, .inl (cA, 496, .inl (jA y4))), (a5, .inl (cA, 496, .inl (jA y5))), (a9, .inl (cA, 64, .inl (jA y9))), (a10, .inl (cA, 8, .inl (jA y10)))] H := hP
        have hD : va_D A [(a8, .inl (cZ, 8, .inl (jA y8))), (ma, .inr (5, [.int (jI mth1'), .int (jI mn), .ref a0, .int (jI mp), .int (jI mw), .ref a1, .ref a2, .ref a3, .ref a4, .ref a5, .ref a6, .ref a7, .ref a8, .ref a9, .ref a10, .long (jL mu1'), .long (jL md1'), .int (jI mo), .ref a11])), (a1, .inl (cZ, 62, .inl (jA y1))), (a2, .inl (cA, 62, .inl (jA y2))), (a3, .inl (cZ, 496, .inl (jA y3))), (a4, .inl (cA, 496, .inl (jA y4))), (a5, .inl (cA, 496, .inl (jA y5))), (a9, .inl (cA, 64, .inl (jA y9))), (a10, .inl (cA, 8, .inl (jA y10)))] := hD
        refine lv_iload_n hx hb dXM_value_57 rfl (lv_at hl 3 rfl) ?_
        refine ji_if_ne (tgt := 68) hx hb dXM_value_58 (by decide) (by omega) (fun c58_ => ?_) (fun c58_ => ?_)
        · refine lv_aload_n hx hb dXM_value_68 rfl (lv_at hl 1 rfl) ?_
          refine va_get (D := (dC, dI)) (ci := 5) (v := .long (jL md1')) (C := RXM) (T := TXM) (N := 19) hx hb hts (fun w h => jmem (inXM w h)) hown hK hP 1 rfl rfl 16 (by decide) (hts _ (jmem tw_644)) (fun _ h9 => h9) rfl dXM_value_69 ?_
          have hP9 := hP.sub (ws' := [(ma, .inr (5, [.int (jI mth1'), .int (jI mn), .ref a0, .int (jI mp), .int (jI mw), .ref a1, .ref a2, .ref a3, .ref a4, .ref a5, .ref a6, .ref a7, .ref a8, .ref a9, .ref a10, .long (jL mu1'), .long (jL md1'), .int (jI mo), .ref a11])), (a1, .inl (cZ, 62, .inl (jA y1))), (a2, .inl (cA, 62, .inl (jA y2))), (a3, .inl (cZ, 496, .inl (jA y3))), (a4, .inl (cA, 496, .inl (jA y4))), (a5, .inl (cA, 496, .inl (jA y5))), (a8, .inl (cZ, 8, .inl (jA y8))), (a9, .inl (cA, 64, .inl (jA y9))), (a10, .inl (cA, 8, .inl (jA y10)))]) [1, 2, 3, 4, 5, 6, 0, 7, 8] rfl
          have hD9 := hD.sub (ws' := [(ma, .inr (5, [.int (jI mth1'), .int (jI mn), .ref a0, .int (jI mp), .int (jI mw), .ref a1, .ref a2, .ref a3, .ref a4, .ref a5, .ref a6, .ref a7, .ref a8, .ref a9, .ref a10, .long (jL mu1'), .long (jL md1'), .int (jI mo), .ref a11])), (a1, .inl (cZ, 62, .inl (jA y1))), (a2, .inl (cA, 62, .inl (jA y2))), (a3, .inl (cZ, 496, .inl (jA y3))), (a4, .inl (cA, 496, .inl (jA y4))), (a5, .inl (cA, 496, .inl (jA y5))), (a8, .inl (cZ, 8, .inl (jA y8))), (a9, .inl (cA, 64, .inl (jA y9))), (a10, .inl (cA, 8, .inl (jA y10)))]) [1, 2, 3, 4, 5, 6, 0, 7, 8] (by decide) rfl
          subst hAe
          subst hQ
          exact W.lret (v := jL md1') hx hb hr (fun t ht hW => ⟨⟨_, (md1', mth1', mu1', md1'), rfl, ⟨rfl, Eq.trans (by rw [f_XM_valueP_J42_s]; rw [← hwb]; try dsimp only; rw [if_neg c45_]; rw [← hwb2]; try dsimp only; rw [if_neg c58_]; try rfl) hF, show 0 ≤ mth1' ∧ mth1' ≤ 2 from by first | assumption | omega | exact jset_b (by assumption) (by omega) | exact jset_l (by assumption) (by omega) | exact jset_l (fun _ _ => rfl) (by omega) | exact fun _ _ => rfl | exact l_trans (by assumption) (by assumption), show 0 ≤ md1' ∧ md1' ≤ 1024000000000000 from by first | assumption | omega | exact jset_b (by assumption) (by omega) | exact jset_l (by assumption) (by omega) | exact jset_l (fun _ _ => rfl) (by omega) | exact fun _ _ => rfl | exact l_trans (by assumption) (by assumption)⟩, ⟨by rw [ht]; exact hP9, va_K.moved hW.alike hK, hD9⟩⟩, hS.F ht⟩) hS.2.2 dXM_value_72
        · refine lv_aload_n hx hb dXM_value_61 rfl (lv_at hl 1 rfl) ?_
          refine va_get (D := (dC, dI)) (ci := 5) (v := .long (jL mu1')) (C := RXM) (T := TXM) (N := 19) hx hb hts (fun w h => jmem (inXM w h)) hown hK hP 1 rfl rfl 15 (by decide) (hts _ (jmem tw_643)) (fun _ h9 => h9) rfl dXM_value_62 ?_
          refine lv_goto (tgt := 72) hx hb dXM_value_65 (by decide) ?_
          have hP9 := hP.sub (ws' := [(ma, .inr (5, [.int (jI mth1'), .int (jI mn), .ref a0, .int (jI mp), .int (jI mw), .ref a1, .ref a2, .ref a3, .ref a4, .ref a5, .ref a6, .ref a7, .ref a8, .ref a9, .ref a10, .long (jL mu1'), .long (jL md1'), .int (jI mo), .ref a11])), (a1, .inl (cZ, 62, .inl (jA y1))), (a2, .inl (cA, 62, .inl (jA y2))), (a3, .inl (cZ, 496, .inl (jA y3))), (a4, .inl (cA, 496, .inl (jA y4))), (a5, .inl (cA, 496, .inl (jA y5))), (a8, .inl (cZ, 8, .inl (jA y8))), (a9, .inl (cA, 64, .inl (jA y9))), (a10, .inl (cA, 8, .inl (jA y10)))]) [1, 2, 3, 4, 5, 6, 0, 7, 8] rfl
          have hD9 := hD.sub (ws' := [(ma, .inr (5, [.int (jI mth1'), .int (jI mn), .ref a0, .int (jI mp), .int (jI mw), .ref a1, .ref a2, .ref a3, .ref a4, .ref a5, .ref a6, .ref a7, .ref a8, .ref a9, .ref a10, .long (jL mu1'), .long (jL md1'), .int (jI mo), .ref a11])), (a1, .inl (cZ, 62, .inl (jA y1))), (a2, .inl (cA, 62, .inl (jA y2))), (a3, .inl (cZ, 496, .inl (jA y3))), (a4, .inl (cA, 496, .inl (jA y4))), (a5, .inl (cA, 496, .inl (jA y5))), (a8, .inl (cZ, 8, .inl (jA y8))), (a9, .inl (cA, 64, .inl (jA y9))), (a10, .inl (cA, 8, .inl (jA y10)))]) [1, 2, 3, 4, 5, 6, 0, 7, 8] (by decide) rfl
          subst hAe
          subst hQ
          exact W.lret (v := jL mu1') hx hb hr (fun t ht hW => ⟨⟨_, (mu1', mth1', mu1', md1'), rfl, ⟨rfl, Eq.trans (by rw [f_XM_valueP_J42_s]; rw [← hwb]; try dsimp only; rw [if_neg c45_]; rw [← hwb2]; try dsimp only; rw [if_pos c58_]; try rfl) hF, show 0 ≤ mth1' ∧ mth1' ≤ 2 from by first | assumption | omega | exact jset_b (by assumption) (by omega) | exact jset_l (by assumption) (by omega) | exact jset_l (fun _ _ => rfl) (by omega) | exact fun _ _ => rfl | exact l_trans (by assumption) (by assumption), show 0 ≤ mu1' ∧ mu1' ≤ 1024000000000000 from by first | assumption | omega | exact jset_b (by assumption) (by omega) | exact jset_l (by assumption) (by omega) | exact jset_l (fun _ _ => rfl) (by omega) | exact fun _ _ => rfl | exact l_trans (by assumption) (by assumption)⟩, ⟨by rw [ht]; exact hP9, va_K.moved hW.alike hK, hD9⟩⟩, hS.F ht⟩) hS.2.2 dXM_value_72
      · refine ji_lconst (z := 0) hx hb dXM_value_48 rfl ?_
        have hP9 := hP.sub (ws' := [(ma, .inr (5, [.int (jI mth1'), .int (jI mn), .ref a0, .int (jI mp), .int (jI mw), .ref a1, .ref a2, .ref a3, .ref a4, .ref a5, .ref a6, .ref a7, .ref a8, .ref a9, .ref a10, .long (jL mu), .long (jL md), .int (jI mo), .ref a11])), (a1, .inl (cZ, 62, .inl (jA y1))), (a2, .inl (cA, 62, .inl (jA y2))), (a3, .inl (cZ, 496, .inl (jA y3))), (a4, .inl (cA, 496, .inl (jA y4))), (a5, .inl (cA, 496, .inl (jA y5))), (a8, .inl (cZ, 8, .inl (jA y8))), (a9, .inl (cA, 64, .inl (jA y9))), (a10, .inl (cA, 8, .inl (jA y10)))]) [8, 0, 1, 2, 3, 4, 5, 6, 7] rfl
        have hD9 := hD.sub (ws' := [(ma, .inr (5, [.int (jI mth1'), .int (jI mn), .ref a0, .int (jI mp), .int (jI mw), .ref a1, .ref a2, .ref a3, .ref a4, .ref a5, .ref a6, .ref a7, .ref a8, .ref a9, .ref a10, .long (jL mu), .long (jL md), .int (jI mo), .ref a11])), (a1, .inl (cZ, 62, .inl (jA y1))), (a2, .inl (cA, 62, .inl (jA y2))), (a3, .inl (cZ, 496, .inl (jA y3))), (a4, .inl (cA, 496, .inl (jA y4))), (a5, .inl (cA, 496, .inl (jA y5))), (a8, .inl (cZ, 8, .inl (jA y8))), (a9, .inl (cA, 64, .inl (jA y9))), (a10, .inl (cA, 8, .inl (jA y10)))]) [8, 0, 1, 2, 3, 4, 5, 6, 7] (by decide) rfl
        subst hAe
        subst hQ
        exact W.lret (v := jL 0) hx hb hr (fun t ht hW => ⟨⟨_, (0, mth1', mu, md), rfl, ⟨rfl, Eq.trans (by rw [f_XM_valueP_J42_s]; rw [← hwb]; try dsimp only; rw [if_pos c45_]; try rfl) hF, show 0 ≤ mth1' ∧ mth1' ≤ 2 from by first | assumption | omega | exact jset_b (by assumption) (by omega) | exact jset_l (by assumption) (by omega) | exact jset_l (fun _ _ => rfl) (by omega) | exact fun _ _ => rfl | exact l_trans (by assumption) (by assumption), show 0 ≤ 0 ∧ 0 ≤ 1024000000000000 from by first | assumption | omega | exact jset_b (by assumption) (by omega) | exact jset_l (by assumption) (by omega) | exact jset_l (fun _ _ => rfl) (by omega) | exact fun _ _ => rfl | exact l_trans (by assumption) (by assumption)⟩, ⟨by rw [ht]; exact hP9, va_K.moved hW.alike hK, hD9⟩⟩, hS.F ht⟩) hS.2.2 dXM_value_49
    refine lv_iload_n hx hb dXM_value_24 rfl (lv_at hl 0 rfl) ?_
    refine ji_if_eq (tgt := 41) hx hb dXM_value_25 (by decide) (by omega) (fun c25_ => ?_) (fun c25_ => ?_)
    · refine ji_iconst hx hb dXM_value_41 ?_
      exact join42 0 (Eq.trans (by rw [f_XM_valueP_J21_s]; rw [if_pos c25_]; try rfl) hF) (by first | assumption | omega | exact jset_b (by assumption) (by omega)) _ _ hP hD hS ls (lv_sub hl [0, 1, 2, 3] rfl)
    · refine lv_aload_n hx hb dXM_value_28 rfl (lv_at hl 1 rfl) ?_
      refine va_get (D := (dC, dI)) (ci := 5) (v := .ref a8) (C := RXM) (T := TXM) (N := 19) hx hb hts (fun w h => jmem (inXM w h)) hown hK hP 0 rfl rfl 12 (by decide) (hts _ (jmem tw_640)) (fun _ h9 => h9) rfl dXM_value_29 ?_
      refine lv_iload_n hx hb dXM_value_32 rfl (lv_at hl 2 rfl) ?_
      refine ji_zald hx hb hK hP 6 1 rfl rfl ⟨by omega, by omega⟩ (by decide) dXM_value_33 ?_
      have rb := hy8 z1
      refine ji_if_eq (tgt := 41) hx hb dXM_value_34 (by decide) (by omega) (fun c34_ => ?_) (fun c34_ => ?_)
      · refine ji_iconst hx hb dXM_value_41 ?_
        exact join42 0 (Eq.trans (by rw [f_XM_valueP_J21_s]; rw [if_neg c25_, if_pos c34_]; try rfl) hF) (by first | assumption | omega | exact jset_b (by assumption) (by omega)) _ _ hP hD hS ls (lv_sub hl [0, 1, 2, 3] rfl)
      · refine ji_iconst hx hb dXM_value_37 ?_
        refine lv_goto (tgt := 42) hx hb dXM_value_38 (by decide) ?_
        exact join42 1 (Eq.trans (by rw [f_XM_valueP_J21_s]; rw [if_neg c25_, if_neg c34_]; try rfl) hF) (by first | assumption | omega | exact jset_b (by assumption) (by omega)) _ _ hP hD hS ls (lv_sub hl [0, 1, 2, 3] rfl)
  refine lv_iload_n hx hb dXM_value_0 rfl (lv_at hl 1 rfl) ?_
  refine jrSi (rest := []) ⟨hx, hb, hml, hown, hts⟩ (c_XM_isKind l dC dI cA cZ z1 (by first | assumption | omega)) (cwS 1 hts (jG_S tw_795 tw_796 tw_6 tw_797) rfl rfl rfl (by decide +kernel) (by rw [hR]; exact ⟨Nat.le_of_ble_eq_true rfl, Nat.le_of_ble_eq_true rfl⟩)) hK hP hN [] rfl rfl hl.1 rfl (Nat.le_of_ble_eq_true rfl) dXM_value_1 (by rw [hR]; exact ⟨Nat.le_of_ble_eq_true rfl, Nat.le_of_ble_eq_true rfl⟩) ?_
  have f5 := f_XM_isKind_b z1 (by first | assumption | omega)
  refine ji_if_eq (tgt := 20) hx hb dXM_value_4 (by decide) (by omega) (fun c4_ => ?_) (fun c4_ => ?_)
  · refine ji_iconst hx hb dXM_value_20 ?_
    exact join21 0 (Eq.trans (by rw [f_XM_valueP_s]; rw [if_pos c4_]; try rfl) rfl) (by first | assumption | omega | exact jset_b (by assumption) (by omega)) _ _ hP hD hS ls (lv_sub hl [0, 1, 2] rfl)
  · refine lv_iload_n hx hb dXM_value_7 rfl (lv_at hl 2 rfl) ?_
    refine ji_iconst hx hb dXM_value_8 ?_
    refine ji_iconst hx hb dXM_value_9 ?_
    refine jrSi (rest := []) ⟨hx, hb, hml, hown, hts⟩ (c_XM_in l dC dI cA cZ z2 0 1 (by first | assumption | omega) (by first | assumption | omega) (by first | assumption | omega)) (cwS 3 hts (jG_S tw_695 tw_696 tw_6 tw_697) rfl rfl rfl (by decide +kernel) (by rw [hR]; exact ⟨Nat.le_of_ble_eq_true rfl, Nat.le_of_ble_eq_true rfl⟩)) hK hP hN [] rfl rfl hl.1 rfl (Nat.le_of_ble_eq_true rfl) dXM_value_10 (by rw [hR]; exact ⟨Nat.le_of_ble_eq_true rfl, Nat.le_of_ble_eq_true rfl⟩) ?_
    have f6 := f_XM_in_b z2 0 1 (by first | assumption | omega) (by first | assumption | omega) (by first | assumption | omega)
    refine ji_if_eq (tgt := 20) hx hb dXM_value_13 (by decide) (by omega) (fun c13_ => ?_) (fun c13_ => ?_)
    · refine ji_iconst hx hb dXM_value_20 ?_
      exact join21 0 (Eq.trans (by rw [f_XM_valueP_s]; rw [if_neg c4_, if_pos c13_]; try rfl) rfl) (by first | assumption | omega | exact jset_b (by assumption) (by omega)) _ _ hP hD hS ls (lv_sub hl [0, 1, 2] rfl)
    · refine ji_iconst hx hb dXM_value_16 ?_
      refine lv_goto (tgt := 21) hx hb dXM_value_17 (by decide) ?_
      exact join21 1 (Eq.trans (by rw [f_XM_valueP_s]; rw [if_neg c4_, if_neg c13_]; try rfl) rfl) (by first | assumption | omega | exact jset_b (by assumption) (by omega)) _ _ hP hD hS ls (lv_sub hl [0, 1, 2] rfl)
