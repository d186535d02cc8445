noncomputable def g_XM_addsP_L46 (mth : Int) (mn : Int) (mp : Int) (mw : Int) (mu : Int) (md : Int) (mo : Int) (zs : Int) (z2 : Int) : Nat → Int → Int → Int × Int
  | 0, _, _ => (0, 0)
  | n9 + 1, x4, x6 =>
    if 0 < x6 then
      g_XM_addsP_L46 mth mn mp mw mu md mo zs z2 n9 x6 (Int.tmod x4 x6)
    else
      (Int.tdiv ((mu * z2) + (zs * md)) x4, Int.tdiv (md * z2) x4)
noncomputable def f_XM_addsP_L46 : Int → Int → Int → Int → Int → Int → Int → Int → Int → Nat → Int → Int → Int × Int := jopq g_XM_addsP_L46
theorem f_XM_addsP_L46_q : f_XM_addsP_L46 = g_XM_addsP_L46 := jopq_eq _
theorem f_XM_addsP_L46_s (mth : Int) (mn : Int) (mp : Int) (mw : Int) (mu : Int) (md : Int) (mo : Int) (zs : Int) (z2 : Int) (n9 : Nat) (x4 : Int) (x6 : Int) : f_XM_addsP_L46 mth mn mp mw mu md mo zs z2 (n9 + 1) x4 x6 = (
    if 0 < x6 then
      f_XM_addsP_L46 mth mn mp mw mu md mo zs z2 n9 x6 (Int.tmod x4 x6)
    else
      (Int.tdiv ((mu * z2) + (zs * md)) x4, Int.tdiv (md * z2) x4)
  : Int × Int) := by rw [f_XM_addsP_L46_q]; rfl
theorem f_XM_addsP_L46_z (mth : Int) (mn : Int) (mp : Int) (mw : Int) (mu : Int) (md : Int) (mo : Int) (zs : Int) (z2 : Int) (x4 : Int) (x6 : Int) : f_XM_addsP_L46 mth mn mp mw mu md mo zs z2 0 x4 x6 = (0, 0) := by rw [f_XM_addsP_L46_q]; rfl
noncomputable def g_XM_addsP (mth : Int) (mn : Int) (mp : Int) (mw : Int) (mu : Int) (md : Int) (mo : Int) (zs : Int) (z2 : Int) : Int × Int :=
  if z2 = 0 then
    (mu, md)
  else
    f_XM_addsP_L46 mth mn mp mw mu md mo zs z2 (Int.toNat (((mu * z2) + (zs * md))) + 1) (md * z2) ((mu * z2) + (zs * md))
noncomputable def f_XM_addsP : Int → Int → Int → Int → Int → Int → Int → Int → Int → Int × Int := jopq g_XM_addsP
theorem f_XM_addsP_q : f_XM_addsP = g_XM_addsP := jopq_eq _
theorem f_XM_addsP_s (mth : Int) (mn : Int) (mp : Int) (mw : Int) (mu : Int) (md : Int) (mo : Int) (zs : Int) (z2 : Int) : f_XM_addsP mth mn mp mw mu md mo zs z2 = (
    if z2 = 0 then
      (mu, md)
    else
      f_XM_addsP_L46 mth mn mp mw mu md mo zs z2 (Int.toNat (((mu * z2) + (zs * md))) + 1) (md * z2) ((mu * z2) + (zs * md))
  : Int × Int) := by rw [f_XM_addsP_q]; rfl
set_option maxHeartbeats 4000000 in
set_option maxRecDepth 100000 in
theorem c_XM_addsP (l : Launch) (dC : Nat → ClassId) (dI : Nat → Nat → Nat) (cA cZ : ClassId) (sz : Nat) (ma : Nat) (a0 : Nat) (a1 : Nat) (a2 : Nat) (a3 : Nat) (a4 : Nat) (a5 : Nat) (a6 : Nat) (a7 : Nat) (a8 : Nat) (a9 : Nat) (a10 : Nat) (a11 : Nat) (mth : Int) (mn : Int) (mp : Int) (mw : Int) (mu : Int) (md : Int) (mo : Int) (zs : Int) (z2 : Int) (hzs : 0 ≤ zs ∧ zs ≤ 100000) (hz2 : 0 ≤ z2 ∧ z2 ≤ 20) (hmu : 0 ≤ mu ∧ mu ≤ 100000000000000) (hmd : 1 ≤ md ∧ md ≤ 1280000000) : Met l yXM_adds (Cond.code yXM_adds cXM_adds 10 none :: TBL) ({ frames := 0, cells := 0, slots := 0, locals := 0 } : Room) (va_Pc [.ref ma, .long (jL zs), .int (jI z2)] (jBw (dC, dI) [(cA, .int), (cZ, .boolean)] [(ma, .inr (5, [.int (jI mth), .int (jI mn), .ref a0, .int (jI mp), .int (jI mw), .ref a1, .ref a2, .ref a3, .ref a4, .ref a5, .ref a6, .ref a7, .ref a8, .ref a9, .ref a10, .long (jL mu), .long (jL md), .int (jI mo), .ref a11]))] sz)) (va_Qv (fun (u : Int × Int) => u = f_XM_addsP mth mn mp mw mu md mo zs z2 ∧ (0 ≤ u.1 ∧ u.1 ≤ 20 * mu + 100000 * md) ∧ (1 ≤ u.2 ∧ u.2 ≤ 20 * md)) (fun u t => jE (dC, dI) [(cA, .int), (cZ, .boolean)] [(ma, .inr (5, [.int (jI mth), .int (jI mn), .ref a0, .int (jI mp), .int (jI mw), .ref a1, .ref a2, .ref a3, .ref a4, .ref a5, .ref a6, .ref a7, .ref a8, .ref a9, .ref a10, .long (jL mu), .long (jL md), .int (jI mo), .ref a11]))] sz [(ma, .inr (5, [.int (jI mth), .int (jI mn), .ref a0, .int (jI mp), .int (jI mw), .ref a1, .ref a2, .ref a3, .ref a4, .ref a5, .ref a6, .ref a7, .ref a8, .ref a9, .ref a10, .long (jL u.1), .long (jL u.2), .int (jI mo), .ref a11]))] t) (va_A [(ma, .inr (5, [.int (jI mth), .int (jI mn), .ref a0, .int (jI mp), .int (jI mw), .ref a1, .ref a2, .ref a3, .ref a4, .ref a5, .ref a6, .ref a7, .ref a8, .ref a9, .ref a10, .long (jL mu), .long (jL md), .int (jI mo), .ref a11]))] sz)) 0 0 (va_A [(ma, .inr (5, [.int (jI mth), .int (jI mn), .ref a0, .int (jI mp), .int (jI mw), .ref a1, .ref a2, .ref a3, .ref a4, .ref a5, .ref a6, .ref a7, .ref a8, .ref a9, .ref a10, .long (jL mu), .long (jL md), .int (jI mo), .ref a11]))] sz) := by
  refine jMet (cc := cXM_adds) (maxL := 10) (ret := none) (by decide) rfl ?_
  intro p e s m args below meth c s₁ R Q hR hQ B hml hv
  obtain ⟨rfl, hsz, hP, hK, hD0, hN⟩ := hv
  have hx := B.exec
  have hb := B.bytes
  have hr := B.returns
  have hts := atoms_spec (ws := Cond.code yXM_adds cXM_adds 10 none :: TBL) B.pre
  have hown : s.vm.findClass RXM = some m.cls := findClass_of_methodNamed B.named
  have hlocks := B.notSynchronized
  subst hsz
  obtain ⟨A, hAe⟩ : ∃ A, A = va_A [(ma, .inr (5, [.int (jI mth), .int (jI mn), .ref a0, .int (jI mp), .int (jI mw), .ref a1, .ref a2, .ref a3, .ref a4, .ref a5, .ref a6, .ref a7, .ref a8, .ref a9, .ref a10, .long (jL mu), .long (jL md), .int (jI mo), .ref a11]))] s.heap.size := ⟨_, rfl⟩
  have hD : va_D A [(ma, .inr (5, [.int (jI mth), .int (jI mn), .ref a0, .int (jI mp), .int (jI mw), .ref a1, .ref a2, .ref a3, .ref a4, .ref a5, .ref a6, .ref a7, .ref a8, .ref a9, .ref a10, .long (jL mu), .long (jL md), .int (jI mo), .ref a11]))] := by rw [hAe]; exact hD0.self
  have hA : ∀ q : Nat, s.heap.size ≤ q → A q := fun q h => by rw [hAe]; exact Or.inr h
  have hS : va_S A s.heap s.heap [] := va_S.rf
  have hP : va_P (dC, dI) vwCl [(ma, .inr (5, [.int (jI mth), .int (jI mn), .ref a0, .int (jI mp), .int (jI mw), .ref a1, .ref a2, .ref a3, .ref a4, .ref a5, .ref a6, .ref a7, .ref a8, .ref a9, .ref a10, .long (jL mu), .long (jL md), .int (jI mo), .ref a11]))] s.heap := hP
  have hl := lv_entry ([.ref ma, .long (jL zs), .int (jI z2)]) (n := 10) (Nat.le_of_ble_eq_true rfl)
  rw [lg_entry_eq]
  generalize (lg_sl ([.ref ma, .long (jL zs), .int (jI z2)]) ++ List.replicate (10 - (lg_sl ([.ref ma, .long (jL zs), .int (jI z2)])).length) Slot.unset).toArray = ls at hl ⊢
  have hl : lv_has ls 10 [(0, .ref ma), (1, .long (jL zs)), (3, .int (jI z2))] := hl
  have q1 := mulb hmu.1 hz2
  have q2 := mulc hzs (show 0 ≤ md by omega)
  have q3 := mulb (show 0 ≤ md by omega) hz2
  refine lv_iload_n hx hb dXM_adds_0 rfl (lv_at hl 2 rfl) ?_
  refine ji_if_ne (tgt := 5) hx hb dXM_adds_1 (by decide) (by omega) (fun c1_ => ?_) (fun c1_ => ?_)
  · refine lv_aload_n hx hb dXM_adds_5 rfl (lv_at hl 0 rfl) ?_
    refine lv_aload_n hx hb dXM_adds_6 rfl (lv_at hl 0 rfl) ?_
    refine va_get (D := (dC, dI)) (ci := 5) (v := .long (jL mu)) (C := RXM) (T := TXM) (N := 19) hx hb hts (fun w h => jmem (inXM w h)) hown hK hP 0 rfl rfl 15 (by decide) (hts _ (jmem tw_643)) (fun _ h9 => h9) rfl dXM_adds_7 ?_
    refine lv_iload_n hx hb dXM_adds_10 rfl (lv_at hl 2 rfl) ?_
    refine ji_i2l hx hb dXM_adds_11 (by omega) ?_
    refine ji_lmul hx hb dXM_adds_12 ?_
    refine lv_lload_n hx hb dXM_adds_13 rfl (lv_at hl 1 rfl) ?_
    refine lv_aload_n hx hb dXM_adds_14 rfl (lv_at hl 0 rfl) ?_
    refine va_get (D := (dC, dI)) (ci := 5) (v := .long (jL md)) (C := RXM) (T := TXM) (N := 19) hx hb hts (fun w h => jmem (inXM w h)) hown hK hP 0 rfl rfl 16 (by decide) (hts _ (jmem tw_644)) (fun _ h9 => h9) rfl dXM_adds_15 ?_
    refine ji_lmul hx hb dXM_adds_18 ?_
    refine ji_ladd hx hb dXM_adds_19 ?_
    refine va_put (D := (dC, dI)) (ci := 5) (v := .long (jL ((mu * z2) + (zs * md)))) (ty := (.long)) (C := RXM) (T := TXM) (N := 19) hx hb hts (fun w h => jmem (inXM w h)) tyXM tyXM_ok nXM hown hK hP hD hS 0 rfl rfl 15 (by decide) (hts _ (jmem tw_643)) (fun _ h9 => h9) rfl (by decide +kernel) rfl rfl (Nat.le_of_ble_eq_true rfl) dXM_adds_20 (fun H locs hP hD hS => ?_)
    have hP : va_P (dC, dI) vwCl [(ma, .inr (5, [.int (jI mth), .int (jI mn), .ref a0, .int (jI mp), .int (jI mw), .ref a1, .ref a2, .ref a3, .ref a4, .ref a5, .ref a6, .ref a7, .ref a8, .ref a9, .ref a10, .long (jL ((mu * z2) + (zs * md))), .long (jL md), .int (jI mo), .ref a11]))] H := hP
    have hD : va_D A [(ma, .inr (5, [.int (jI mth), .int (jI mn), .ref a0, .int (jI mp), .int (jI mw), .ref a1, .ref a2, .ref a3, .ref a4, .ref a5, .ref a6, .ref a7, .ref a8, .ref a9, .ref a10, .long (jL ((mu * z2) + (zs * md))), .long (jL md), .int (jI mo), .ref a11]))] := hD
    refine lv_aload_n hx hb dXM_adds_23 rfl (lv_at hl 0 rfl) ?_
    refine lv_aload_n hx hb dXM_adds_24 rfl (lv_at hl 0 rfl) ?_
    refine va_get (D := (dC, dI)) (ci := 5) (v := .long (jL md)) (C := RXM) (T := TXM) (N := 19) hx hb hts (fun w h => jmem (inXM w h)) hown hK hP 0 rfl rfl 16 (by decide) (hts _ (jmem tw_644)) (fun _ h9 => h9) rfl dXM_adds_25 ?_
    refine lv_iload_n hx hb dXM_adds_28 rfl (lv_at hl 2 rfl) ?_
    refine ji_i2l hx hb dXM_adds_29 (by omega) ?_
    refine ji_lmul hx hb dXM_adds_30 ?_
    refine va_put (D := (dC, dI)) (ci := 5) (v := .long (jL (md * z2))) (ty := (.long)) (C := RXM) (T := TXM) (N := 19) hx hb hts (fun w h => jmem (inXM w h)) tyXM tyXM_ok nXM hown hK hP hD hS 0 rfl rfl 16 (by decide) (hts _ (jmem tw_644)) (fun _ h9 => h9) rfl (by decide +kernel) rfl rfl (Nat.le_of_ble_eq_true rfl) dXM_adds_31 (fun H locs hP hD hS => ?_)
    have hP : va_P (dC, dI) vwCl [(ma, .inr (5, [.int (jI mth), .int (jI mn), .ref a0, .int (jI mp), .int (jI mw), .ref a1, .ref a2, .ref a3, .ref a4, .ref a5, .ref a6, .ref a7, .ref a8, .ref a9, .ref a10, .long (jL ((mu * z2) + (zs * md))), .long (jL (md * z2)), .int (jI mo), .ref a11]))] H := hP
    have hD : va_D A [(ma, .inr (5, [.int (jI mth), .int (jI mn), .ref a0, .int (jI mp), .int (jI mw), .ref a1, .ref a2, .ref a3, .ref a4, .ref a5, .ref a6, .ref a7, .ref a8, .ref a9, .ref a10, .long (jL ((mu * z2) + (zs * md))), .long (jL (md * z2)), .int (jI mo), .ref a11]))] := hD
    refine lv_aload_n hx hb dXM_adds_34 rfl (lv_at hl 0 rfl) ?_
    refine va_get (D := (dC, dI)) (ci := 5) (v := .long (jL (md * z2))) (C := RXM) (T := TXM) (N := 19) hx hb hts (fun w h => jmem (inXM w h)) hown hK hP 0 rfl rfl 16 (by decide) (hts _ (jmem tw_644)) (fun _ h9 => h9) rfl dXM_adds_35 ?_
    refine lv_lstore (lv' := [(4, .long (jL (md * z2))), (0, .ref ma), (1, .long (jL zs)), (3, .int (jI z2))]) hx hb dXM_adds_38 hl (by decide) rfl (fun ls hl => ?_)
    refine lv_aload_n hx hb dXM_adds_40 rfl (lv_at hl 1 rfl) ?_
    refine va_get (D := (dC, dI)) (ci := 5) (v := .long (jL ((mu * z2) + (zs * md)))) (C := RXM) (T := TXM) (N := 19) hx hb hts (fun w h => jmem (inXM w h)) hown hK hP 0 rfl rfl 15 (by decide) (hts _ (jmem tw_643)) (fun _ h9 => h9) rfl dXM_adds_41 ?_
    refine lv_lstore (lv' := [(6, .long (jL ((mu * z2) + (zs * md)))), (4, .long (jL (md * z2))), (0, .ref ma), (1, .long (jL zs)), (3, .int (jI z2))]) hx hb dXM_adds_44 hl (by decide) rfl (fun ls hl => ?_)
    have loop46 : ∀ (n9 : Nat) (x4 : Int) (x6 : Int) , x6 < (n9 : Int) → f_XM_addsP_L46 mth mn mp mw mu md mo zs z2 n9 x4 x6 = f_XM_addsP mth mn mp mw mu md mo zs z2 → (1 ≤ x4 ∧ x4 ≤ 10000000000000000) → (0 ≤ x6 ∧ x6 ≤ 10000000000000000) → (∀ d : Int, d ∣ x4 → d ∣ x6 → d ∣ md * z2) → ∀ (H : Heap) (locs : List Loc), va_P (dC, dI) vwCl [(ma, .inr (5, [.int (jI mth), .int (jI mn), .ref a0, .int (jI mp), .int (jI mw), .ref a1, .ref a2, .ref a3, .ref a4, .ref a5, .ref a6, .ref a7, .ref a8, .ref a9, .ref a10, .long (jL ((mu * z2) + (zs * md))), .long (jL (md * z2)), .int (jI mo), .ref a11]))] H → va_D A [(ma, .inr (5, [.int (jI mth), .int (jI mn), .ref a0, .int (jI mp), .int (jI mw), .ref a1, .ref a2, .ref a3, .ref a4, .ref a5, .ref a6, .ref a7, .ref a8, .ref a9, .ref a10, .long (jL ((mu * z2) + (zs * md))), .long (jL (md * z2)), .int (jI mo), .ref a11]))] → va_S A s.heap H locs → ∀ ls : Array Slot, lv_has ls 10 [(6, .long (jL x6)), (4, .long (jL x4)), (0, .ref ma), (1, .long (jL zs)), (3, .int (jI z2))] → W p l e R s m ([.ref ma, .long (jL zs), .int (jI z2)] : List Value).toArray below meth c H locs 0 0 Q (F0 m 46 ls []) := by
      intro n9
      induction n9 with
      | zero =>
        intro x4 x6 hm hF hx4 hx6 hgd
        exact absurd hm (by omega)
      | succ n9 ih46 =>
        intro x4 x6 hm hF hx4 hx6 hgd H locs hP hD hS ls hl
        refine lv_lload hx hb dXM_adds_46 (lv_at hl 0 rfl) ?_
        refine ji_lconst (z := 0) hx hb dXM_adds_48 rfl ?_
        refine ji_lcmp hx hb dXM_adds_49 (by omega) (by omega) ?_
        refine ji_if_le (tgt := 71) hx hb dXM_adds_50 (by decide) (jcmp_i _ _) (fun c50_ => ?_) (fun c50_ => ?_)
        · have c50_ := jcmp_ngt.mp c50_
          refine lv_aload_n hx hb dXM_adds_71 rfl (lv_at hl 2 rfl) ?_
          refine lv_aload_n hx hb dXM_adds_72 rfl (lv_at hl 2 rfl) ?_
          refine va_get (D := (dC, dI)) (ci := 5) (v := .long (jL ((mu * z2) + (zs * md)))) (C := RXM) (T := TXM) (N := 19) hx hb hts (fun w h => jmem (inXM w h)) hown hK hP 0 rfl rfl 15 (by decide) (hts _ (jmem tw_643)) (fun _ h9 => h9) rfl dXM_adds_73 ?_
          refine lv_lload hx hb dXM_adds_76 (lv_at hl 1 rfl) ?_
          refine ji_ldiv hx hb dXM_adds_78 (by omega) (by omega) (by omega) (by omega) ?_
          have q5 := tdb (mu * z2 + zs * md) x4 (by omega) (by omega)
          refine va_put (D := (dC, dI)) (ci := 5) (v := .long (jL (Int.tdiv ((mu * z2) + (zs * md)) x4))) (ty := (.long)) (C := RXM) (T := TXM) (N := 19) hx hb hts (fun w h => jmem (inXM w h)) tyXM tyXM_ok nXM hown hK hP hD hS 0 rfl rfl 15 (by decide) (hts _ (jmem tw_643)) (fun _ h9 => h9) rfl (by decide +kernel) rfl rfl (Nat.le_of_ble_eq_true rfl) dXM_adds_79 (fun H locs hP hD hS => ?_)
          have hP : va_P (dC, dI) vwCl [(ma, .inr (5, [.int (jI mth), .int (jI mn), .ref a0, .int (jI mp), .int (jI mw), .ref a1, .ref a2, .ref a3, .ref a4, .ref a5, .ref a6, .ref a7, .ref a8, .ref a9, .ref a10, .long (jL (Int.tdiv ((mu * z2) + (zs * md)) x4)), .long (jL (md * z2)), .int (jI mo), .ref a11]))] H := hP
          have hD : va_D A [(ma, .inr (5, [.int (jI mth), .int (jI mn), .ref a0, .int (jI mp), .int (jI mw), .ref a1, .ref a2, .ref a3, .ref a4, .ref a5, .ref a6, .ref a7, .ref a8, .ref a9, .ref a10, .long (jL (Int.tdiv ((mu * z2) + (zs * md)) x4)), .long (jL (md * z2)), .int (jI mo), .ref a11]))] := hD
          refine lv_aload_n hx hb dXM_adds_82 rfl (lv_at hl 2 rfl) ?_
          refine lv_aload_n hx hb dXM_adds_83 rfl (lv_at hl 2 rfl) ?_
          refine va_get (D := (dC, dI)) (ci := 5) (v := .long (jL (md * z2))) (C := RXM) (T := TXM) (N := 19) hx hb hts (fun w h => jmem (inXM w h)) hown hK hP 0 rfl rfl 16 (by decide) (hts _ (jmem tw_644)) (fun _ h9 => h9) rfl dXM_adds_84 ?_
          refine lv_lload hx hb dXM_adds_87 (lv_at hl 1 rfl) ?_
          refine ji_ldiv hx hb dXM_adds_89 (by omega) (by omega) (by omega) (by omega) ?_
          have q6 := tdb (md * z2) x4 (by omega) (by omega)
          have q7 := td1 (md * z2) x4 (by omega) (by omega) (hgd x4 (Int.dvd_refl x4) (by rw [show x6 = 0 by omega]; exact Int.dvd_zero x4))
          refine va_put (D := (dC, dI)) (ci := 5) (v := .long (jL (Int.tdiv (md * z2) x4))) (ty := (.long)) (C := RXM) (T := TXM) (N := 19) hx hb hts (fun w h => jmem (inXM w h)) tyXM tyXM_ok nXM hown hK hP hD hS 0 rfl rfl 16 (by decide) (hts _ (jmem tw_644)) (fun _ h9 => h9) rfl (by decide +kernel) rfl rfl (Nat.le_of_ble_eq_true rfl) dXM_adds_90 (fun H locs hP hD hS => ?_)
          have hP : va_P (dC, dI) vwCl [(ma, .inr (5, [.int (jI mth), .int (jI mn), .ref a0, .int (jI mp), .int (jI mw), .ref a1, .ref a2, .ref a3, .ref a4, .ref a5, .ref a6, .ref a7, .ref a8, .ref a9, .ref a10, .long (jL (Int.tdiv ((mu * z2) + (zs * md)) x4)), .long (jL (Int.tdiv (md * z2) x4)), .int (jI mo), .ref a11]))] H := hP
          have hD : va_D A [(ma, .inr (5, [.int (jI mth), .int (jI mn), .ref a0, .int (jI mp), .int (jI mw), .ref a1, .ref a2, .ref a3, .ref a4, .ref a5, .ref a6, .ref a7, .ref a8, .ref a9, .ref a10, .long (jL (Int.tdiv ((mu * z2) + (zs * md)) x4)), .long (jL (Int.tdiv (md * z2) x4)), .int (jI mo), .ref a11]))] := hD
          have hP9 := hP.sub (ws' := [(ma, .inr (5, [.int (jI mth), .int (jI mn), .ref a0, .int (jI mp), .int (jI mw), .ref a1, .ref a2, .ref a3, .ref a4, .ref a5, .ref a6, .ref a7, .ref a8, .ref a9, .ref a10, .long (jL (Int.tdiv ((mu * z2) + (zs * md)) x4)), .long (jL (Int.tdiv (md * z2) x4)), .int (jI mo), .ref a11]))]) [0] rfl
          have hD9 := hD.sub (ws' := [(ma, .inr (5, [.int (jI mth), .int (jI mn), .ref a0, .int (jI mp), .int (jI mw), .ref a1, .ref a2, .ref a3, .ref a4, .ref a5, .ref a6, .ref a7, .ref a8, .ref a9, .ref a10, .long (jL (Int.tdiv ((mu * z2) + (zs * md)) x4)), .long (jL (Int.tdiv (md * z2) x4)), .int (jI mo), .ref a11]))]) [0] (by decide) rfl
          subst hAe
          subst hQ
          exact W.vret hx hb hr (fun t ht hW => ⟨⟨(Int.tdiv ((mu * z2) + (zs * md)) x4, Int.tdiv (md * z2) x4), rfl, ⟨Eq.trans (by rw [f_XM_addsP_L46_s]; rw [if_neg (Int.not_lt.mpr c50_)]; try rfl) hF, show 0 ≤ (Int.tdiv ((mu * z2) + (zs * md)) x4) ∧ (Int.tdiv ((mu * z2) + (zs * md)) x4) ≤ 20 * mu + 100000 * md from by first | assumption | omega | exact jset_b (by assumption) (by omega) | exact jset_l (by assumption) (by omega) | exact jset_l (fun _ _ => rfl) (by omega) | exact fun _ _ => rfl | exact l_trans (by assumption) (by assumption), show 1 ≤ (Int.tdiv (md * z2) x4) ∧ (Int.tdiv (md * z2) x4) ≤ 20 * md from by first | assumption | omega | exact jset_b (by assumption) (by omega) | exact jset_l (by assumption) (by omega) | exact jset_l (fun _ _ => rfl) (by omega) | exact fun _ _ => rfl | exact l_trans (by assumption) (by assumption)⟩, ⟨by rw [ht]; exact hP9, va_K.moved hW.alike hK, hD9⟩⟩, hS.F ht⟩) hS.2.2 dXM_adds_93
        · have c50_ := jcmp_gt.mp c50_
          refine lv_lload hx hb dXM_adds_53 (lv_at hl 1 rfl) ?_
          refine lv_lload hx hb dXM_adds_55 (lv_at hl 0 rfl) ?_
          refine ji_lrem hx hb dXM_adds_57 (by omega) (by omega) (by omega) (by omega) ?_
          have q4 := gdb x4 x6 (by omega) (by omega)
          refine lv_lstore (lv' := [(8, .long (jL (Int.tmod x4 x6))), (6, .long (jL x6)), (4, .long (jL x4)), (0, .ref ma), (1, .long (jL zs)), (3, .int (jI z2))]) hx hb dXM_adds_58 hl (by decide) rfl (fun ls hl => ?_)
          refine lv_lload hx hb dXM_adds_60 (lv_at hl 1 rfl) ?_
          refine lv_lstore (lv' := [(4, .long (jL x6)), (8, .long (jL (Int.tmod x4 x6))), (6, .long (jL x6)), (0, .ref ma), (1, .long (jL zs)), (3, .int (jI z2))]) hx hb dXM_adds_62 hl (by decide) rfl (fun ls hl => ?_)
          refine lv_lload hx hb dXM_adds_64 (lv_at hl 1 rfl) ?_
          refine lv_lstore (lv' := [(6, .long (jL (Int.tmod x4 x6))), (4, .long (jL x6)), (8, .long (jL (Int.tmod x4 x6))), (0, .ref ma), (1, .long (jL zs)), (3, .int (jI z2))]) hx hb dXM_adds_66 hl (by decide) rfl (fun ls hl => ?_)
          refine lv_goto (tgt := 46) hx hb dXM_adds_68 (by decide) ?_
          exact ih46 x6 (Int.tmod x4 x6) (by omega) (Eq.trans (by rw [f_XM_addsP_L46_s]; rw [if_pos c50_]; try rfl) hF) (by first | assumption | omega) (by first | assumption | omega) (gds (by omega) hgd) _ _ hP hD hS ls (lv_sub hl [0, 1, 3, 4, 5] rfl)
    exact loop46 (Int.toNat (((mu * z2) + (zs * md))) + 1) (md * z2) ((mu * z2) + (zs * md)) (by omega) (Eq.trans (by rw [f_XM_addsP_s]; rw [if_neg c1_]; try rfl) rfl) (by first | assumption | omega) (by first | assumption | omega) (fun d h _ => h) _ _ hP hD hS ls (lv_sub hl [0, 1, 2, 3, 4] rfl)
  · have hP9 := hP.sub (ws' := [(ma, .inr (5, [.int (jI mth), .int (jI mn), .ref a0, .int (jI mp), .int (jI mw), .ref a1, .ref a2, .ref a3, .ref a4, .ref a5, .ref a6, .ref a7, .ref a8, .ref a9, .ref a10, .long (jL mu), .long (jL md), .int (jI mo), .ref a11]))]) [0] rfl
    have hD9 := hD.sub (ws' := [(ma, .inr (5, [.int (jI mth), .int (jI mn), .ref a0, .int (jI mp), .int (jI mw), .ref a1, .ref a2, .ref a3, .ref a4, .ref a5, .ref a6, .ref a7, .ref a8, .ref a9, .ref a10, .long (jL mu), .long (jL md), .int (jI mo), .ref a11]))]) [0] (by decide) rfl
    subst hAe
    subst hQ
    exact W.vret hx hb hr (fun t ht hW => ⟨⟨(mu, md), rfl, ⟨Eq.trans (by rw [f_XM_addsP_s]; rw [if_pos c1_]; try rfl) rfl, show 0 ≤ mu ∧ mu ≤ 20 * mu + 100000 * md from by first | assumption | omega | exact jset_b (by assumption) (by omega) | exact jset_l (by assumption) (by omega) | exact jset_l (fun _ _ => rfl) (by omega) | exact fun _ _ => rfl | exact l_trans (by assumption) (by assumption), show 1 ≤ md ∧ md ≤ 20 * md from by first | assumption | omega | exact jset_b (by assumption) (by omega) | exact jset_l (by assumption) (by omega) | exact jset_l (fun _ _ => rfl) (by omega) | exact fun _ _ => rfl | exact l_trans (by assumption) (by assumption)⟩, ⟨by rw [ht]; exact hP9, va_K.moved hW.alike hK, hD9⟩⟩, hS.F ht⟩) hS.2.2 dXM_adds_4
def kUD (e u d : Int) : Prop := (e = 0 → u ≤ 0 ∧ d ≤ 1) ∧ (e = 1 → u ≤ 100000 ∧ d ≤ 20) ∧ (e = 2 → u ≤ 4000000 ∧ d ≤ 400) ∧ (e = 3 → u ≤ 120000000 ∧ d ≤ 8000) ∧ (e = 4 → u ≤ 3200000000 ∧ d ≤ 160000) ∧ (e = 5 → u ≤ 80000000000 ∧ d ≤ 3200000) ∧ (e = 6 → u ≤ 1920000000000 ∧ d ≤ 64000000) ∧ (e = 7 → u ≤ 44800000000000 ∧ d ≤ 1280000000) ∧ (e = 8 → u ≤ 1024000000000000 ∧ d ≤ 25600000000)
theorem kUD_0 : kUD 0 0 1 := by
  unfold kUD
  omega
theorem kUD_c {e u d : Int} (he : 0 ≤ e ∧ e ≤ 8) (h : kUD e u d) : (e = 0 ∧ u ≤ 0 ∧ d ≤ 1) ∨ (e = 1 ∧ u ≤ 100000 ∧ d ≤ 20) ∨ (e = 2 ∧ u ≤ 4000000 ∧ d ≤ 400) ∨ (e = 3 ∧ u ≤ 120000000 ∧ d ≤ 8000) ∨ (e = 4 ∧ u ≤ 3200000000 ∧ d ≤ 160000) ∨ (e = 5 ∧ u ≤ 80000000000 ∧ d ≤ 3200000) ∨ (e = 6 ∧ u ≤ 1920000000000 ∧ d ≤ 64000000) ∨ (e = 7 ∧ u ≤ 44800000000000 ∧ d ≤ 1280000000) ∨ (e = 8 ∧ u ≤ 1024000000000000 ∧ d ≤ 25600000000) := by
  obtain ⟨h0, h1, h2, h3, h4, h5, h6, h7, h8⟩ := h
  rcases (show e = 0 ∨ e = 1 ∨ e = 2 ∨ e = 3 ∨ e = 4 ∨ e = 5 ∨ e = 6 ∨ e = 7 ∨ e = 8 by omega) with q | q | q | q | q | q | q | q | q
  · exact Or.inl ⟨q, h0 q⟩
  · exact Or.inr (Or.inl ⟨q, h1 q⟩)
  · exact Or.inr (Or.inr (Or.inl ⟨q, h2 q⟩))
  · exact Or.inr (Or.inr (Or.inr (Or.inl ⟨q, h3 q⟩)))
  · exact Or.inr (Or.inr (Or.inr (Or.inr (Or.inl ⟨q, h4 q⟩))))
  · exact Or.inr (Or.inr (Or.inr (Or.inr (Or.inr (Or.inl ⟨q, h5 q⟩)))))
  · exact Or.inr (Or.inr (Or.inr (Or.inr (Or.inr (Or.inr (Or.inl ⟨q, h6 q⟩))))))
  · exact Or.inr (Or.inr (Or.inr (Or.inr (Or.inr (Or.inr (Or.inr (Or.inl ⟨q, h7 q⟩)))))))
  · exact Or.inr (Or.inr (Or.inr (Or.inr (Or.inr (Or.inr (Or.inr (Or.inr (⟨q, h8 q⟩))))))))
theorem kUD_i (e u d : Int) (h : (e = 0 ∧ u ≤ 0 ∧ d ≤ 1) ∨ (e = 1 ∧ u ≤ 100000 ∧ d ≤ 20) ∨ (e = 2 ∧ u ≤ 4000000 ∧ d ≤ 400) ∨ (e = 3 ∧ u ≤ 120000000 ∧ d ≤ 8000) ∨ (e = 4 ∧ u ≤ 3200000000 ∧ d ≤ 160000) ∨ (e = 5 ∧ u ≤ 80000000000 ∧ d ≤ 3200000) ∨ (e = 6 ∧ u ≤ 1920000000000 ∧ d ≤ 64000000) ∨ (e = 7 ∧ u ≤ 44800000000000 ∧ d ≤ 1280000000) ∨ (e = 8 ∧ u ≤ 1024000000000000 ∧ d ≤ 25600000000)) : kUD e u d := by
  rcases h with ⟨q, h1, h2⟩ | ⟨q, h1, h2⟩ | ⟨q, h1, h2⟩ | ⟨q, h1, h2⟩ | ⟨q, h1, h2⟩ | ⟨q, h1, h2⟩ | ⟨q, h1, h2⟩ | ⟨q, h1, h2⟩ | ⟨q, h1, h2⟩ <;> (subst q; exact ⟨fun q => (by first | exact absurd q (by decide) | exact ⟨h1, h2⟩), fun q => (by first | exact absurd q (by decide) | exact ⟨h1, h2⟩), fun q => (by first | exact absurd q (by decide) | exact ⟨h1, h2⟩), fun q => (by first | exact absurd q (by decide) | exact ⟨h1, h2⟩), fun q => (by first | exact absurd q (by decide) | exact ⟨h1, h2⟩), fun q => (by first | exact absurd q (by decide) | exact ⟨h1, h2⟩), fun q => (by first | exact absurd q (by decide) | exact ⟨h1, h2⟩), fun q => (by first | exact absurd q (by decide) | exact ⟨h1, h2⟩), fun q => (by first | exact absurd q (by decide) | exact ⟨h1, h2⟩)⟩)
theorem kUD_u {e u d : Int} (he : 0 ≤ e ∧ e < 8) (hu : 0 ≤ u) (h : kUD e u d) : 0 ≤ u ∧ u ≤ 100000000000000 := by
  have h9 := kUD_c (by omega) h
  omega
theorem kUD_d {e u d : Int} (he : 0 ≤ e ∧ e < 8) (hd : 1 ≤ d) (h : kUD e u d) : 1 ≤ d ∧ d ≤ 1280000000 := by
  have h9 := kUD_c (by omega) h
  omega
theorem kUD_s {e u d a b : Int} (he : 0 ≤ e ∧ e < 8) (h : kUD e u d) (h1 : a ≤ 20 * u + 100000 * d) (h2 : b ≤ 20 * d) : kUD (e + 1) a b := by
  apply kUD_i
  rcases kUD_c (by omega) h with ⟨q, h3, h4⟩ | ⟨q, h3, h4⟩ | ⟨q, h3, h4⟩ | ⟨q, h3, h4⟩ | ⟨q, h3, h4⟩ | ⟨q, h3, h4⟩ | ⟨q, h3, h4⟩ | ⟨q, h3, h4⟩ | ⟨q, h3, h4⟩
  · exact Or.inr (Or.inl ⟨by omega, by omega, by omega⟩)
  · exact Or.inr (Or.inr (Or.inl ⟨by omega, by omega, by omega⟩))
  · exact Or.inr (Or.inr (Or.inr (Or.inl ⟨by omega, by omega, by omega⟩)))
  · exact Or.inr (Or.inr (Or.inr (Or.inr (Or.inl ⟨by omega, by omega, by omega⟩))))
  · exact Or.inr (Or.inr (Or.inr (Or.inr (Or.inr (Or.inl ⟨by omega, by omega, by omega⟩)))))
  · exact Or.inr (Or.inr (Or.inr (Or.inr (Or.inr (Or.inr (Or.inl ⟨by omega, by omega, by omega⟩))))))
  · exact Or.inr (Or.inr (Or.inr (Or.inr (Or.inr (Or.inr (Or.inr (Or.inl ⟨by omega, by omega, by omega⟩)))))))
  · exact Or.inr (Or.inr (Or.inr (Or.inr (Or.inr (Or.inr (Or.inr (Or.inr (⟨by omega, by omega, by omega⟩))))))))
  · omega
theorem kUD_8 {e u d : Int} (he : e = 8) (h : kUD e u d) : u ≤ 1024000000000000 ∧ d ≤ 25600000000 := h.2.2.2.2.2.2.2.2 he
noncomputable def g_XM_reckonP_L13 (mth : Int) (mn : Int) (mp : Int) (mw : Int) (mu : Int) (md : Int) (mo : Int) (y1 : Int → Int) (y2 : Int → Int) (y3 : Int → Int) (y4 : Int → Int) (y5 : Int → Int) (y9 : Int → Int) (y10 : Int → Int) (z1 : Int) (z2 : Int) (z3 : Int) : Nat → Int → Int → Int → Int × Int
  | 0, _, _, _ => (0, 0)
  | n9 + 1, e9, u9, d9 =>
    if e9 < 8 then
      if z3 = 2 then
        match f_XM_addsP mth mn mp mw u9 d9 mo (y10 e9) (y9 ((8 * z2) + e9)) with
        | (mu1'13, md1'14) =>
          g_XM_reckonP_L13 mth mn mp mw mu md mo y1 y2 y3 y4 y5 y9 y10 z1 z2 z3 n9 (e9 + 1) mu1'13 md1'14
      else
        if z3 = 0 then
          match f_XM_addsP mth mn mp mw u9 d9 mo (f_XM_lowOfP mth mn mp mw u9 d9 mo y1 y2 y3 y4 z1 e9) (y9 ((8 * z2) + e9)) with
          | (mu1'5, md1'6) =>
            g_XM_reckonP_L13 mth mn mp mw mu md mo y1 y2 y3 y4 y5 y9 y10 z1 z2 z3 n9 (e9 + 1) mu1'5 md1'6
        else
          match f_XM_addsP mth mn mp mw u9 d9 mo (f_XM_highOfP mth mn mp mw u9 d9 mo y1 y2 y3 y5 z1 e9) (y9 ((8 * z2) + e9)) with
          | (mu1', md1') =>
            g_XM_reckonP_L13 mth mn mp mw mu md mo y1 y2 y3 y4 y5 y9 y10 z1 z2 z3 n9 (e9 + 1) mu1' md1'
    else
      (u9, d9)
noncomputable def f_XM_reckonP_L13 : Int → Int → Int → Int → Int → Int → Int → (Int → Int) → (Int → Int) → (Int → Int) → (Int → Int) → (Int → Int) → (Int → Int) → (Int → Int) → Int → Int → Int → Nat → Int → Int → Int → Int × Int := jopq g_XM_reckonP_L13
theorem f_XM_reckonP_L13_q : f_XM_reckonP_L13 = g_XM_reckonP_L13 := jopq_eq _
theorem f_XM_reckonP_L13_s (mth : Int) (mn : Int) (mp : Int) (mw : Int) (mu : Int) (md : Int) (mo : Int) (y1 : Int → Int) (y2 : Int → Int) (y3 : Int → Int) (y4 : Int → Int) (y5 : Int → Int) (y9 : Int → Int) (y10 : Int → Int) (z1 : Int) (z2 : Int) (z3 : Int) (n9 : Nat) (e9 : Int) (u9 : Int) (d9 : Int) : f_XM_reckonP_L13 mth mn mp mw mu md mo y1 y2 y3 y4 y5 y9 y10 z1 z2 z3 (n9 + 1) e9 u9 d9 = (
    if e9 < 8 then
      if z3 = 2 then
        match f_XM_addsP mth mn mp mw u9 d9 mo (y10 e9) (y9 ((8 * z2) + e9)) with
        | (mu1'13, md1'14) =>
          f_XM_reckonP_L13 mth mn mp mw mu md mo y1 y2 y3 y4 y5 y9 y10 z1 z2 z3 n9 (e9 + 1) mu1'13 md1'14
      else
        if z3 = 0 then
          match f_XM_addsP mth mn mp mw u9 d9 mo (f_XM_lowOfP mth mn mp mw u9 d9 mo y1 y2 y3 y4 z1 e9) (y9 ((8 * z2) + e9)) with
          | (mu1'5, md1'6) =>
            f_XM_reckonP_L13 mth mn mp mw mu md mo y1 y2 y3 y4 y5 y9 y10 z1 z2 z3 n9 (e9 + 1) mu1'5 md1'6
        else
          match f_XM_addsP mth mn mp mw u9 d9 mo (f_XM_highOfP mth mn mp mw u9 d9 mo y1 y2 y3 y5 z1 e9) (y9 ((8 * z2) + e9)) with
          | (mu1', md1') =>
            f_XM_reckonP_L13 mth mn mp mw mu md mo y1 y2 y3 y4 y5 y9 y10 z1 z2 z3 n9 (e9 + 1) mu1' md1'
    else
      (u9, d9)
  : Int × Int) := by rw [f_XM_reckonP_L13_q]; rfl
theorem f_XM_reckonP_L13_z (mth : Int) (mn : Int) (mp : Int) (mw : Int) (mu : Int) (md : Int) (mo : Int) (y1 : Int → Int) (y2 : Int → Int) (y3 : Int → Int) (y4 : Int → Int) (y5 : Int → Int) (y9 : Int → Int) (y10 : Int → Int) (z1 : Int) (z2 : Int) (z3 : Int) (e9 : Int) (u9 : Int) (d9 : Int) : f_XM_reckonP_L13 mth mn mp mw mu md mo y1 y2 y3 y4 y5 y9 y10 z1 z2 z3 0 e9 u9 d9 = (0, 0) := by rw [f_XM_reckonP_L13_q]; rfl
noncomputable def g_XM_reckonP (mth : Int) (mn : Int) (mp : Int) (mw : Int) (mu : Int) (md : Int) (mo : Int) (y1 : Int → Int) (y2 : Int → Int) (y3 : Int → Int) (y4 : Int → Int) (y5 : Int → Int) (y9 : Int → Int) (y10 : Int → Int) (z1 : Int) (z2 : Int) (z3 : Int) : Int × Int :=
  f_XM_reckonP_L13 mth mn mp mw mu md mo y1 y2 y3 y4 y5 y9 y10 z1 z2 z3 (Int.toNat (8 - 0) + 1) 0 0 1
noncomputable def f_XM_reckonP : Int → Int → Int → Int → Int → Int → Int → (Int → Int) → (Int → Int) → (Int → Int) → (Int → Int) → (Int → Int) → (Int → Int) → (Int → Int) → Int → Int → Int → Int × Int := jopq g_XM_reckonP
theorem f_XM_reckonP_q : f_XM_reckonP = g_XM_reckonP := jopq_eq _
theorem f_XM_reckonP_s (mth : Int) (mn : Int) (mp : Int) (mw : Int) (mu : Int) (md : Int) (mo : Int) (y1 : Int → Int) (y2 : Int → Int) (y3 : Int → Int) (y4 : Int → Int) (y5 : Int → Int) (y9 : Int → Int) (y10 : Int → Int) (z1 : Int) (z2 : Int) (z3 : Int) : f_XM_reckonP mth mn mp mw mu md mo y1 y2 y3 y4 y5 y9 y10 z1 z2 z3 = (
    f_XM_reckonP_L13 mth mn mp mw mu md mo y1 y2 y3 y4 y5 y9 y10 z1 z2 z3 (Int.toNat (8 - 0) + 1) 0 0 1
  : Int × Int) := by rw [f_XM_reckonP_q]; rfl
set_option maxHeartbeats 4000000 in
set_option maxRecDepth 100000 in
theorem c_XM_reckonP (l : Launch) (dC : Nat → ClassId) (dI : Nat → Nat → Nat) (cA cZ : ClassId) (sz : Nat) (ma : Nat) (a0 : Nat) (a1 : Nat) (a2 : Nat) (a3 : Nat) (a4 : Nat) (a5 : Nat) (a6 : Nat) (a7 : Nat) (a8 : Nat) (a9 : Nat) (a10 : Nat) (a11 : Nat) (mth : Int) (mn : Int) (mp : Int) (mw : Int) (mu : Int) (md : Int) (mo : Int) (y1 : Int → Int) (y2 : Int → Int) (y3 : Int → Int) (y4 : Int → Int) (y5 : Int → Int) (y9 : Int → Int) (y10 : Int → Int) (z1 : Int) (z2 : Int) (z3 : Int) (hy1 : ∀ i, 0 ≤ y1 i ∧ y1 i ≤ 1) (hy2 : ∀ i, 0 ≤ y2 i ∧ y2 i ≤ 30) (hy3 : ∀ i, 0 ≤ y3 i ∧ y3 i ≤ 1) (hy4 : ∀ i, 0 ≤ y4 i ∧ y4 i ≤ 100000) (hy5 : ∀ i, 0 ≤ y5 i ∧ y5 i ≤ 100000) (hy9 : ∀ i, 0 ≤ y9 i ∧ y9 i ≤ 20) (hy10 : ∀ i, 0 ≤ y10 i ∧ y10 i ≤ 100000) (hz2 : 0 ≤ z2 ∧ z2 ≤ 3) (hz3 : z3 = 2 ∨ (1 ≤ z1 ∧ z1 ≤ 30 ∧ 0 ≤ z3 ∧ z3 ≤ 1)) : Met l yXM_reckon (Cond.code yXM_reckon cXM_reckon 5 none :: TBL) ({ frames := 5, cells := 0, slots := 0, locals := 110 } : Room) (va_Pc [.ref ma, .int (jI z1), .int (jI z2), .int (jI z3)] (jBw (dC, dI) [(cA, .int), (cZ, .boolean)] [(ma, .inr (5, [.int (jI mth), .int (jI mn), .ref a0, .int (jI mp), .int (jI mw), .ref a1, .ref a2, .ref a3, .ref a4, .ref a5, .ref a6, .ref a7, .ref a8, .ref a9, .ref a10, .long (jL mu), .long (jL md), .int (jI mo), .ref a11])), (a1, .inl (cZ, 62, .inl (jA y1))), (a2, .inl (cA, 62, .inl (jA y2))), (a3, .inl (cZ, 496, .inl (jA y3))), (a4, .inl (cA, 496, .inl (jA y4))), (a5, .inl (cA, 496, .inl (jA y5))), (a9, .inl (cA, 64, .inl (jA y9))), (a10, .inl (cA, 8, .inl (jA y10)))] sz)) (va_Qv (fun (u : Int × Int) => u = f_XM_reckonP mth mn mp mw mu md mo y1 y2 y3 y4 y5 y9 y10 z1 z2 z3 ∧ (0 ≤ u.1 ∧ u.1 ≤ 1024000000000000) ∧ (1 ≤ u.2 ∧ u.2 ≤ 25600000000)) (fun u t => jE (dC, dI) [(cA, .int), (cZ, .boolean)] [(ma, .inr (5, [.int (jI mth), .int (jI mn), .ref a0, .int (jI mp), .int (jI mw), .ref a1, .ref a2, .ref a3, .ref a4, .ref a5, .ref a6, .ref a7, .ref a8, .ref a9, .ref a10, .long (jL mu), .long (jL md), .int (jI mo), .ref a11])), (a1, .inl (cZ, 62, .inl (jA y1))), (a2, .inl (cA, 62, .inl (jA y2))), (a3, .inl (cZ, 496, .inl (jA y3))), (a4, .inl (cA, 496, .inl (jA y4))), (a5, .inl (cA, 496, .inl (jA y5))), (a9, .inl (cA, 64, .inl (jA y9))), (a10, .inl (cA, 8, .inl (jA y10)))] sz [(ma, .inr (5, [.int (jI mth), .int (jI mn), .ref a0, .int (jI mp), .int (jI mw), .ref a1, .ref a2, .ref a3, .ref a4, .ref a5, .ref a6, .ref a7, .ref a8, .ref a9, .ref a10, .long (jL u.1), .long (jL u.2), .int (jI mo), .ref a11])), (a1, .inl (cZ, 62, .inl (jA y1))), (a2, .inl (cA, 62, .inl (jA y2))), (a3, .inl (cZ, 496, .inl (jA y3))), (a4, .inl (cA, 496, .inl (jA y4))), (a5, .inl (cA, 496, .inl (jA y5))), (a9, .inl (cA, 64, .inl (jA y9))), (a10, .inl (cA, 8, .inl (jA y10)))] t) (va_A [(ma, .inr (5, [.int (jI mth), .int (jI mn), .ref a0, .int (jI mp), .int (jI mw), .ref a1, .ref a2, .ref a3, .ref a4, .ref a5, .ref a6, .ref a7, .ref a8, .ref a9, .ref a10, .long (jL mu), .long (jL md), .int (jI mo), .ref a11])), (a1, .inl (cZ, 62, .inl (jA y1))), (a2, .inl (cA, 62, .inl (jA y2))), (a3, .inl (cZ, 496, .inl (jA y3))), (a4, .inl (cA, 496, .inl (jA y4))), (a5, .inl (cA, 496, .inl (jA y5))), (a9, .inl (cA, 64, .inl (jA y9))), (a10, .inl (cA, 8, .inl (jA y10)))] sz)) 0 0 (va_A [(ma, .inr (5, [.int (jI mth), .int (jI mn), .ref a0, .int (jI mp), .int (jI mw), .ref a1, .ref a2, .ref a3, .ref a4, .ref a5, .ref a6, .ref a7, .ref a8, .ref a9, .ref a10, .long (jL mu), .long (jL md), .int (jI mo), .ref a11])), (a1, .inl (cZ, 62, .inl (jA y1))), (a2, .inl (cA, 62, .inl (jA y2))), (a3, .inl (cZ, 496, .inl (jA y3))), (a4, .inl (cA, 496, .inl (jA y4))), (a5, .inl (cA, 496, .inl (jA y5))), (a9, .inl (cA, 64, .inl (jA y9))), (a10, .inl (cA, 8, .inl (jA y10)))] sz) := by
  refine jMet (cc := cXM_reckon) (maxL := 5) (ret := none) (by decide) rfl ?_
  intro p e s m args below meth c s₁ R Q hR hQ B hml hv
  obtain ⟨rfl, hsz, hP, hK, hD0, hN⟩ := hv
  have hx := B.exec
  have hb := B.bytes
  have hr := B.returns
  have hts := atoms_spec (ws := Cond.code yXM_reckon cXM_reckon 5 none :: TBL) B.pre
  have hown : s.vm.findClass RXM = some m.cls := findClass_of_methodNamed B.named
  have hlocks := B.notSynchronized
  subst hsz
  obtain ⟨A, hAe⟩ : ∃ A, A = va_A [(ma, .inr (5, [.int (jI mth), .int (jI mn), .ref a0, .int (jI mp), .int (jI mw), .ref a1, .ref a2, .ref a3, .ref a4, .ref a5, .ref a6, .ref a7, .ref a8, .ref a9, .ref a10, .long (jL mu), .long (jL md), .int (jI mo), .ref a11])), (a1, .inl (cZ, 62, .inl (jA y1))), (a2, .inl (cA, 62, .inl (jA y2))), (a3, .inl (cZ, 496, .inl (jA y3))), (a4, .inl (cA, 496, .inl (jA y4))), (a5, .inl (cA, 496, .inl (jA y5))), (a9, .inl (cA, 64, .inl (jA y9))), (a10, .inl (cA, 8, .inl (jA y10)))] s.heap.size := ⟨_, rfl⟩
  have hD : va_D A [(ma, .inr (5, [.int (jI mth), .int (jI mn), .ref a0, .int (jI mp), .int (jI mw), .ref a1, .ref a2, .ref a3, .ref a4, .ref a5, .ref a6, .ref a7, .ref a8, .ref a9, .ref a10, .long (jL mu), .long (jL md), .int (jI mo), .ref a11])), (a1, .inl (cZ, 62, .inl (jA y1))), (a2, .inl (cA, 62, .inl (jA y2))), (a3, .inl (cZ, 496, .inl (jA y3))), (a4, .inl (cA, 496, .inl (jA y4))), (a5, .inl (cA, 496, .inl (jA y5))), (a9, .inl (cA, 64, .inl (jA y9))), (a10, .inl (cA, 8, .inl (jA y10)))] := by rw [hAe]; exact hD0.self
  have hA : ∀ q : Nat, s.heap.size ≤ q → A q := fun q h => by rw [hAe]; exact Or.inr h
  have hS : va_S A s.heap s.heap [] := va_S.rf
  have hP : va_P (dC, dI) vwCl [(ma, .inr (5, [.int (jI mth), .int (jI mn), .ref a0, .int (jI mp), .int (jI mw), .ref a1, .ref a2, .ref a3, .ref a4, .ref a5, .ref a6, .ref a7, .ref a8, .ref a9, .ref a10, .long (jL mu), .long (jL md), .int (jI mo), .ref a11])), (a1, .inl (cZ, 62, .inl (jA y1))), (a2, .inl (cA, 62, .inl (jA y2))), (a3, .inl (cZ, 496, .inl (jA y3))), (a4, .inl (cA, 496, .inl (jA y4))), (a5, .inl (cA, 496, .inl (jA y5))), (a9, .inl (cA, 64, .inl (jA y9))), (a10, .inl (cA, 8, .inl (jA y10)))] s.heap := hP
  have hl := lv_entry ([.ref ma, .int (jI z1), .int (jI z2), .int (jI z3)]) (n := 5) (Nat.le_of_ble_eq_true rfl)
  rw [lg_entry_eq]
  generalize (lg_sl ([.ref ma, .int (jI z1), .int (jI z2), .int (jI z3)]) ++ List.replicate (5 - (lg_sl ([.ref ma, .int (jI z1), .int (jI z2), .int (jI z3)])).length) Slot.unset).toArray = ls at hl ⊢
  have hl : lv_has ls 5 [(0, .ref ma), (1, .int (jI z1)), (2, .int (jI z2)), (3, .int (jI z3))] := hl
  refine lv_aload_n hx hb dXM_reckon_0 rfl (lv_at hl 0 rfl) ?_
  refine ji_lconst (z := 0) hx hb dXM_reckon_1 rfl ?_
  refine va_put (D := (dC, dI)) (ci := 5) (v := .long (jL 0)) (ty := (.long)) (C := RXM) (T := TXM) (N := 19) hx hb hts (fun w h => jmem (inXM w h)) tyXM tyXM_ok nXM hown hK hP hD hS 0 rfl rfl 15 (by decide) (hts _ (jmem tw_643)) (fun _ h9 => h9) rfl (by decide +kernel) rfl rfl (Nat.le_of_ble_eq_true rfl) dXM_reckon_2 (fun H locs hP hD hS => ?_)
  have hP : va_P (dC, dI) vwCl [(ma, .inr (5, [.int (jI mth), .int (jI mn), .ref a0, .int (jI mp), .int (jI mw), .ref a1, .ref a2, .ref a3, .ref a4, .ref a5, .ref a6, .ref a7, .ref a8, .ref a9, .ref a10, .long (jL 0), .long (jL md), .int (jI mo), .ref a11])), (a1, .inl (cZ, 62, .inl (jA y1))), (a2, .inl (cA, 62, .inl (jA y2))), (a3, .inl (cZ, 496, .inl (jA y3))), (a4, .inl (cA, 496, .inl (jA y4))), (a5, .inl (cA, 496, .inl (jA y5))), (a9, .inl (cA, 64, .inl (jA y9))), (a10, .inl (cA, 8, .inl (jA y10)))] H := hP
  have hD : va_D A [(ma, .inr (5, [.int (jI mth), .int (jI mn), .ref a0, .int (jI mp), .int (jI mw), .ref a1, .ref a2, .ref a3, .ref a4, .ref a5, .ref a6, .ref a7, .ref a8, .ref a9, .ref a10, .long (jL 0), .long (jL md), .int (jI mo), .ref a11])), (a1, .inl (cZ, 62, .inl (jA y1))), (a2, .inl (cA, 62, .inl (jA y2))), (a3, .inl (cZ, 496, .inl (jA y3))), (a4, .inl (cA, 496, .inl (jA y4))), (a5, .inl (cA, 496, .inl (jA y5))), (a9, .inl (cA, 64, .inl (jA y9))), (a10, .inl (cA, 8, .inl (jA y10)))] := hD
  refine lv_aload_n hx hb dXM_reckon_5 rfl (lv_at hl 0 rfl) ?_
  refine ji_lconst (z := 1) hx hb dXM_reckon_6 rfl ?_
  refine va_put (D := (dC, dI)) (ci := 5) (v := .long (jL 1)) (ty := (.long)) (C := RXM) (T := TXM) (N := 19) hx hb hts (fun w h => jmem (inXM w h)) tyXM tyXM_ok nXM hown hK hP hD hS 0 rfl rfl 16 (by decide) (hts _ (jmem tw_644)) (fun _ h9 => h9) rfl (by decide +kernel) rfl rfl (Nat.le_of_ble_eq_true rfl) dXM_reckon_7 (fun H locs hP hD hS => ?_)
  have hP : va_P (dC, dI) vwCl [(ma, .inr (5, [.int (jI mth), .int (jI mn), .ref a0, .int (jI mp), .int (jI mw), .ref a1, .ref a2, .ref a3, .ref a4, .ref a5, .ref a6, .ref a7, .ref a8, .ref a9, .ref a10, .long (jL 0), .long (jL 1), .int (jI mo), .ref a11])), (a1, .inl (cZ, 62, .inl (jA y1))), (a2, .inl (cA, 62, .inl (jA y2))), (a3, .inl (cZ, 496, .inl (jA y3))), (a4, .inl (cA, 496, .inl (jA y4))), (a5, .inl (cA, 496, .inl (jA y5))), (a9, .inl (cA, 64, .inl (jA y9))), (a10, .inl (cA, 8, .inl (jA y10)))] H := hP
  have hD : va_D A [(ma, .inr (5, [.int (jI mth), .int (jI mn), .ref a0, .int (jI mp), .int (jI mw), .ref a1, .ref a2, .ref a3, .ref a4, .ref a5, .ref a6, .ref a7, .ref a8, .ref a9, .ref a10, .long (jL 0), .long (jL 1), .int (jI mo), .ref a11])), (a1, .inl (cZ, 62, .inl (jA y1))), (a2, .inl (cA, 62, .inl (jA y2))), (a3, .inl (cZ, 496, .inl (jA y3))), (a4, .inl (cA, 496, .inl (jA y4))), (a5, .inl (cA, 496, .inl (jA y5))), (a9, .inl (cA, 64, .inl (jA y9))), (a10, .inl (cA, 8, .inl (jA y10)))] := hD
  refine ji_iconst hx hb dXM_reckon_10 ?_
  refine lv_istore (lv' := [(4, .int (jI 0)), (0, .ref ma), (1, .int (jI z1)), (2, .int (jI z2)), (3, .int (jI z3))]) hx hb dXM_reckon_11 hl (by decide) rfl (fun ls hl => ?_)
  have loop13 : ∀ (n9 : Nat) (e9 : Int) (u9 : Int) (d9 : Int) , 8 - e9 < (n9 : Int) → f_XM_reckonP_L13 mth mn mp mw mu md mo y1 y2 y3 y4 y5 y9 y10 z1 z2 z3 n9 e9 u9 d9 = f_XM_reckonP mth mn mp mw mu md mo y1 y2 y3 y4 y5 y9 y10 z1 z2 z3 → (0 ≤ e9 ∧ e9 ≤ 8) → (0 ≤ u9 ∧ 1 ≤ d9) → (kUD e9 u9 d9) → ∀ (H : Heap) (locs : List Loc), va_P (dC, dI) vwCl [(ma, .inr (5, [.int (jI mth), .int (jI mn), .ref a0, .int (jI mp), .int (jI mw), .ref a1, .ref a2, .ref a3, .ref a4, .ref a5, .ref a6, .ref a7, .ref a8, .ref a9, .ref a10, .long (jL u9), .long (jL d9), .int (jI mo), .ref a11])), (a1, .inl (cZ, 62, .inl (jA y1))), (a2, .inl (cA, 62, .inl (jA y2))), (a3, .inl (cZ, 496, .inl (jA y3))), (a4, .inl (cA, 496, .inl (jA y4))), (a5, .inl (cA, 496, .inl (jA y5))), (a9, .inl (cA, 64, .inl (jA y9))), (a10, .inl (cA, 8, .inl (jA y10)))] H → va_D A [(ma, .inr (5, [.int (jI mth), .int (jI mn), .ref a0, .int (jI mp), .int (jI mw), .ref a1, .ref a2, .ref a3, .ref a4, .ref a5, .ref a6, .ref a7, .ref a8, .ref a9, .ref a10, .long (jL u9), .long (jL d9), .int (jI mo), .ref a11])), (a1, .inl (cZ, 62, .inl (jA y1))), (a2, .inl (cA, 62, .inl (jA y2))), (a3, .inl (cZ, 496, .inl (jA y3))), (a4, .inl (cA, 496, .inl (jA y4))), (a5, .inl (cA, 496, .inl (jA y5))), (a9, .inl (cA, 64, .inl (jA y9))), (a10, .inl (cA, 8, .inl (jA y10)))] → va_S A s.heap H locs → ∀ ls : Array Slot, lv_has ls 5 [(4, .int (jI e9)), (0, .ref ma), (1, .int (jI z1)), (2, .int (jI z2)), (3, .int (jI z3))] → W p l e R s m ([.ref ma, .int (jI z1), .int (jI z2), .int (jI z3)] : List Value).toArray below meth c H locs 0 0 Q (F0 m 13 ls []) := by
    intro n9
    induction n9 with
    | zero =>
      intro e9 u9 d9 hm hF he9 hu9 hud
      exact absurd hm (by omega)
    | succ n9 ih13 =>
      intro e9 u9 d9 hm hF he9 hu9 hud H locs hP hD hS ls hl
      refine lv_iload hx hb dXM_reckon_13 (lv_at hl 0 rfl) ?_
      refine ji_bipush hx hb dXM_reckon_15 (by decide) ?_
      refine ji_icmp_ge (tgt := 81) hx hb dXM_reckon_17 (by decide) (by omega) (by omega) (fun c17_ => ?_) (fun c17_ => ?_)
      · have hP9 := hP.sub (ws' := [(ma, .inr (5, [.int (jI mth), .int (jI mn), .ref a0, .int (jI mp), .int (jI mw), .ref a1, .ref a2, .ref a3, .ref a4, .ref a5, .ref a6, .ref a7, .ref a8, .ref a9, .ref a10, .long (jL u9), .long (jL d9), .int (jI mo), .ref a11])), (a1, .inl (cZ, 62, .inl (jA y1))), (a2, .inl (cA, 62, .inl (jA y2))), (a3, .inl (cZ, 496, .inl (jA y3))), (a4, .inl (cA, 496, .inl (jA y4))), (a5, .inl (cA, 496, .inl (jA y5))), (a9, .inl (cA, 64, .inl (jA y9))), (a10, .inl (cA, 8, .inl (jA y10)))]) [0, 1, 2, 3, 4, 5, 6, 7] rfl
        have hD9 := hD.sub (ws' := [(ma, .inr (5, [.int (jI mth), .int (jI mn), .ref a0, .int (jI mp), .int (jI mw), .ref a1, .ref a2, .ref a3, .ref a4, .ref a5, .ref a6, .ref a7, .ref a8, .ref a9, .ref a10, .long (jL u9), .long (jL d9), .int (jI mo), .ref a11])), (a1, .inl (cZ, 62, .inl (jA y1))), (a2, .inl (cA, 62, .inl (jA y2))), (a3, .inl (cZ, 496, .inl (jA y3))), (a4, .inl (cA, 496, .inl (jA y4))), (a5, .inl (cA, 496, .inl (jA y5))), (a9, .inl (cA, 64, .inl (jA y9))), (a10, .inl (cA, 8, .inl (jA y10)))]) [0, 1, 2, 3, 4, 5, 6, 7] (by decide) rfl
        subst hAe
        subst hQ
        exact W.vret hx hb hr (fun t ht hW => ⟨⟨(u9, d9), rfl, ⟨Eq.trans (by rw [f_XM_reckonP_L13_s]; rw [if_neg (Int.not_lt.mpr c17_)]; try rfl) hF, show 0 ≤ u9 ∧ u9 ≤ 1024000000000000 from (by have h8 := kUD_8 (by omega) hud; omega), show 1 ≤ d9 ∧ d9 ≤ 25600000000 from (by have h8 := kUD_8 (by omega) hud; omega)⟩, ⟨by rw [ht]; exact hP9, va_K.moved hW.alike hK, hD9⟩⟩, hS.F ht⟩) hS.2.2 dXM_reckon_81
      · refine lv_aload_n hx hb dXM_reckon_20 rfl (lv_at hl 1 rfl) ?_
        refine lv_iload_n hx hb dXM_reckon_21 rfl (lv_at hl 4 rfl) ?_
        refine ji_iconst hx hb dXM_reckon_22 ?_
        refine ji_icmp_ne (tgt := 37) hx hb dXM_reckon_23 (by decide) (by omega) (by omega) (fun c23_ => ?_) (fun c23_ => ?_)
        · refine lv_iload_n hx hb dXM_reckon_37 rfl (lv_at hl 4 rfl) ?_
          refine ji_if_ne (tgt := 52) hx hb dXM_reckon_38 (by decide) (by omega) (fun c38_ => ?_) (fun c38_ => ?_)
          · refine lv_aload_n hx hb dXM_reckon_52 rfl (lv_at hl 1 rfl) ?_
            refine lv_iload_n hx hb dXM_reckon_53 rfl (lv_at hl 2 rfl) ?_
            refine lv_iload hx hb dXM_reckon_54 (lv_at hl 0 rfl) ?_
            refine jrVi (rest := [.ref ma]) ⟨hx, hb, hml, hown, hts⟩ (c_XM_highOfP l dC dI cA cZ ma a0 a1 a2 a3 a4 a5 a6 a7 a8 a9 a10 a11 mth mn mp mw u9 d9 mo y1 y2 y3 y5 z1 e9 (by first | assumption | omega) (by first | assumption | omega) (by first | assumption | omega) (by first | assumption | omega) (by first | assumption | omega) (by first | assumption | omega)) (cwV 2 hts (jG_V tw_787 tw_789 ts_33 tw_6 tw_790) rfl rfl rfl (by decide +kernel) (by rw [hR]; exact ⟨Nat.le_of_ble_eq_true rfl, Nat.le_of_ble_eq_true rfl⟩)) hK hP hN [0, 1, 2, 3, 5] rfl 0 5 rfl rfl rfl rfl hl.1 rfl (Nat.le_of_ble_eq_true rfl) dXM_reckon_56 (by rw [hR]; exact ⟨Nat.le_of_ble_eq_true rfl, Nat.le_of_ble_eq_true rfl⟩) ?_
            have f := f_XM_highOfP_b mth mn mp mw u9 d9 mo y1 y2 y3 y5 z1 e9 (by first | assumption | omega) (by first | assumption | omega) (by first | assumption | omega) (by first | assumption | omega) (by first | assumption | omega) (by first | assumption | omega)
            refine ji_i2l hx hb dXM_reckon_59 (by omega) ?_
            refine lv_aload_n hx hb dXM_reckon_60 rfl (lv_at hl 1 rfl) ?_
            refine va_get (D := (dC, dI)) (ci := 5) (v := .ref a9) (C := RXM) (T := TXM) (N := 19) hx hb hts (fun w h => jmem (inXM w h)) hown hK hP 0 rfl rfl 13 (by decide) (hts _ (jmem tw_641)) (fun _ h9 => h9) rfl dXM_reckon_61 ?_
            refine ji_bipush hx hb dXM_reckon_64 (by decide) ?_
            refine lv_iload_n hx hb dXM_reckon_66 rfl (lv_at hl 3 rfl) ?_
            refine ji_imul hx hb dXM_reckon_67 ?_
            refine lv_iload hx hb dXM_reckon_68 (lv_at hl 0 rfl) ?_
            refine ji_iadd hx hb dXM_reckon_70 ?_
            refine ji_iald hx hb hK hP 6 0 rfl rfl ⟨by omega, by omega⟩ (by decide) dXM_reckon_71 ?_
            have rb := hy9 ((8 * z2) + e9)
            refine jwVv (rest := []) (wr := [(a1, .inl (cZ, 62, .inl (jA y1))), (a2, .inl (cA, 62, .inl (jA y2))), (a3, .inl (cZ, 496, .inl (jA y3))), (a4, .inl (cA, 496, .inl (jA y4))), (a5, .inl (cA, 496, .inl (jA y5))), (a9, .inl (cA, 64, .inl (jA y9))), (a10, .inl (cA, 8, .inl (jA y10)))]) ⟨hx, hb, hml, hown, hts⟩ (c_XM_addsP l dC dI cA cZ _ ma a0 a1 a2 a3 a4 a5 a6 a7 a8 a9 a10 a11 mth mn mp mw u9 d9 mo (f_XM_highOfP mth mn mp mw u9 d9 mo y1 y2 y3 y5 z1 e9) (y9 ((8 * z2) + e9)) (by first | assumption | omega) (by first | assumption | omega) (kUD_u (by omega) hu9.1 hud) (kUD_d (by omega) hu9.2 hud)) (cwV 2 hts (jG_V tw_810 tw_812 ts_36 tw_6 tw_813) rfl rfl rfl (by decide +kernel) (by rw [hR]; exact ⟨Nat.le_of_ble_eq_true rfl, Nat.le_of_ble_eq_true rfl⟩)) hK hP hD hS hA hN [0] [1, 2, 3, 4, 5, 6, 7] rfl rfl (by decide) (by decide) (by decide) 0 5 rfl rfl rfl rfl hl.1 rfl (Nat.le_of_ble_eq_true rfl) dXM_reckon_72 (by rw [hR]; exact ⟨Nat.le_of_ble_eq_true rfl, Nat.le_of_ble_eq_true rfl⟩) (fun u H locs hwb hP hD hS => ?_)
            obtain ⟨mu1', md1'⟩ := u
            try dsimp only at hwb
            obtain ⟨hwb, f1, f2⟩ := hwb
            have f1 : 0 ≤ mu1' ∧ mu1' ≤ 20 * u9 + 100000 * d9 := f1
            have f2 : 1 ≤ md1' ∧ md1' ≤ 20 * d9 := f2
            have hP : va_P (dC, dI) vwCl [(a1, .inl (cZ, 62, .inl (jA y1))), (a2, .inl (cA, 62, .inl (jA y2))), (a3, .inl (cZ, 496, .inl (jA y3))), (a4, .inl (cA, 496, .inl (jA y4))), (a5, .inl (cA, 496, .inl (jA y5))), (a9, .inl (cA, 64, .inl (jA y9))), (a10, .inl (cA, 8, .inl (jA y10))), (ma, .inr (5, [.int (jI mth), .int (jI mn), .ref a0, .int (jI mp), .int (jI mw), .ref a1, .ref a2, .ref a3, .ref a4, .ref a5, .ref a6, .ref a7, .ref a8, .ref a9, .ref a10, .long (jL mu1'), .long (jL md1'), .int (jI mo), .ref a11]))] H := hP
            have hD : va_D A [(a1, .inl (cZ, 62, .inl (jA y1))), (a2, .inl (cA, 62, .inl (jA y2))), (a3, .inl (cZ, 496, .inl (jA y3))), (a4, .inl (cA, 496, .inl (jA y4))), (a5, .inl (cA, 496, .inl (jA y5))), (a9, .inl (cA, 64, .inl (jA y9))), (a10, .inl (cA, 8, .inl (jA y10))), (ma, .inr (5, [.int (jI mth), .int (jI mn), .ref a0, .int (jI mp), .int (jI mw), .ref a1, .ref a2, .ref a3, .ref a4, .ref a5, .ref a6, .ref a7, .ref a8, .ref a9, .ref a10, .long (jL mu1'), .long (jL md1'), .int (jI mo), .ref a11]))] := hD
            refine ji_iinc (k := 0) (lv' := [(4, .int (jI (e9 + 1))), (0, .ref ma), (1, .int (jI z1)), (2, .int (jI z2)), (3, .int (jI z3))]) hx hb dXM_reckon_75 hl rfl (by decide) rfl (fun ls hl => ?_)
            refine lv_goto (tgt := 13) hx hb dXM_reckon_78 (by decide) ?_
            exact ih13 (e9 + 1) mu1' md1' (by omega) (Eq.trans (by rw [f_XM_reckonP_L13_s]; rw [if_pos c17_, if_neg c23_, if_neg c38_]; rw [← hwb]; try dsimp only; try rfl) hF) (by first | assumption | omega) (by first | assumption | omega) (kUD_s (by omega) hud (by omega) (by omega)) _ _ (hP.sub [7, 0, 1, 2, 3, 4, 5, 6] rfl) (hD.sub [7, 0, 1, 2, 3, 4, 5, 6] (by decide) rfl) hS ls (lv_sub hl [0, 1, 2, 3, 4] rfl)
          · refine lv_aload_n hx hb dXM_reckon_41 rfl (lv_at hl 1 rfl) ?_
            refine lv_iload_n hx hb dXM_reckon_42 rfl (lv_at hl 2 rfl) ?_
            refine lv_iload hx hb dXM_reckon_43 (lv_at hl 0 rfl) ?_
            refine jrVi (rest := [.ref ma]) ⟨hx, hb, hml, hown, hts⟩ (c_XM_lowOfP l dC dI cA cZ ma a0 a1 a2 a3 a4 a5 a6 a7 a8 a9 a10 a11 mth mn mp mw u9 d9 mo y1 y2 y3 y4 z1 e9 (by first | assumption | omega) (by first | assumption | omega) (by first | assumption | omega) (by first | assumption | omega) (by first | assumption | omega) (by first | assumption | omega)) (cwV 2 hts (jG_V tw_775 tw_777 ts_30 tw_6 tw_778) rfl rfl rfl (by decide +kernel) (by rw [hR]; exact ⟨Nat.le_of_ble_eq_true rfl, Nat.le_of_ble_eq_true rfl⟩)) hK hP hN [0, 1, 2, 3, 4] rfl 0 5 rfl rfl rfl rfl hl.1 rfl (Nat.le_of_ble_eq_true rfl) dXM_reckon_45 (by rw [hR]; exact ⟨Nat.le_of_ble_eq_true rfl, Nat.le_of_ble_eq_true rfl⟩) ?_
            have f3 := f_XM_lowOfP_b mth mn mp mw u9 d9 mo y1 y2 y3 y4 z1 e9 (by first | assumption | omega) (by first | assumption | omega) (by first | assumption | omega) (by first | assumption | omega) (by first | assumption | omega) (by first | assumption | omega)
            refine ji_i2l hx hb dXM_reckon_48 (by omega) ?_
            refine lv_goto (tgt := 60) hx hb dXM_reckon_49 (by decide) ?_
            refine lv_aload_n hx hb dXM_reckon_60 rfl (lv_at hl 1 rfl) ?_
            refine va_get (D := (dC, dI)) (ci := 5) (v := .ref a9) (C := RXM) (T := TXM) (N := 19) hx hb hts (fun w h => jmem (inXM w h)) hown hK hP 0 rfl rfl 13 (by decide) (hts _ (jmem tw_641)) (fun _ h9 => h9) rfl dXM_reckon_61 ?_
            refine ji_bipush hx hb dXM_reckon_64 (by decide) ?_
            refine lv_iload_n hx hb dXM_reckon_66 rfl (lv_at hl 3 rfl) ?_
            refine ji_imul hx hb dXM_reckon_67 ?_
            refine lv_iload hx hb dXM_reckon_68 (lv_at hl 0 rfl) ?_
            refine ji_iadd hx hb dXM_reckon_70 ?_
            refine ji_iald hx hb hK hP 6 0 rfl rfl ⟨by omega, by omega⟩ (by decide) dXM_reckon_71 ?_
            have rb4 := hy9 ((8 * z2) + e9)
            refine jwVv (rest := []) (wr := [(a1, .inl (cZ, 62, .inl (jA y1))), (a2, .inl (cA, 62, .inl (jA y2))), (a3, .inl (cZ, 496, .inl (jA y3))), (a4, .inl (cA, 496, .inl (jA y4))), (a5, .inl (cA, 496, .inl (jA y5))), (a9, .inl (cA, 64, .inl (jA y9))), (a10, .inl (cA, 8, .inl (jA y10)))]) ⟨hx, hb, hml, hown, hts⟩ (c_XM_addsP l dC dI cA cZ _ ma a0 a1 a2 a3 a4 a5 a6 a7 a8 a9 a10 a11 mth mn mp mw u9 d9 mo (f_XM_lowOfP mth mn mp mw u9 d9 mo y1 y2 y3 y4 z1 e9) (y9 ((8 * z2) + e9)) (by first | assumption | omega) (by first | assumption | omega) (kUD_u (by omega) hu9.1 hud) (kUD_d (by omega) hu9.2 hud)) (cwV 2 hts (jG_V tw_810 tw_812 ts_36 tw_6 tw_813) rfl rfl rfl (by decide +kernel) (by rw [hR]; exact ⟨Nat.le_of_ble_eq_true rfl, Nat.le_of_ble_eq_true rfl⟩)) hK hP hD hS hA hN [0] [1, 2, 3, 4, 5, 6, 7] rfl rfl (by decide) (by decide) (by decide) 0 5 rfl rfl rfl rfl hl.1 rfl (Nat.le_of_ble_eq_true rfl) dXM_reckon_72 (by rw [hR]; exact ⟨Nat.le_of_ble_eq_true rfl, Nat.le_of_ble_eq_true rfl⟩) (fun u7 H locs hwb8 hP hD hS => ?_)
            obtain ⟨mu1'5, md1'6⟩ := u7
            try dsimp only at hwb8
            obtain ⟨hwb8, f9, f10⟩ := hwb8
            have f9 : 0 ≤ mu1'5 ∧ mu1'5 ≤ 20 * u9 + 100000 * d9 := f9
            have f10 : 1 ≤ md1'6 ∧ md1'6 ≤ 20 * d9 := f10
            have hP : va_P (dC, dI) vwCl [(a1, .inl (cZ, 62, .inl (jA y1))), (a2, .inl (cA, 62, .inl (jA y2))), (a3, .inl (cZ, 496, .inl (jA y3))), (a4, .inl (cA, 496, .inl (jA y4))), (a5, .inl (cA, 496, .inl (jA y5))), (a9, .inl (cA, 64, .inl (jA y9))), (a10, .inl (cA, 8, .inl (jA y10))), (ma, .inr (5, [.int (jI mth), .int (jI mn), .ref a0, .int (jI mp), .int (jI mw), .ref a1, .ref a2, .ref a3, .ref a4, .ref a5, .ref a6, .ref a7, .ref a8, .ref a9, .ref a10, .long (jL mu1'5), .long (jL md1'6), .int (jI mo), .ref a11]))] H := hP
            have hD : va_D A [(a1, .inl (cZ, 62, .inl (jA y1))), (a2, .inl (cA, 62, .inl (jA y2))), (a3, .inl (cZ, 496, .inl (jA y3))), (a4, .inl (cA, 496, .inl (jA y4))), (a5, .inl (cA, 496, .inl (jA y5))), (a9, .inl (cA, 64, .inl (jA y9))), (a10, .inl (cA, 8, .inl (jA y10))), (ma, .inr (5, [.int (jI mth), .int (jI mn), .ref a0, .int (jI mp), .int (jI mw), .ref a1, .ref a2, .ref a3, .ref a4, .ref a5, .ref a6, .ref a7, .ref a8, .ref a9, .ref a10, .long (jL mu1'5), .long (jL md1'6), .int (jI mo), .ref a11]))] := hD
            refine ji_iinc (k := 0) (lv' := [(4, .int (jI (e9 + 1))), (0, .ref ma), (1, .int (jI z1)), (2, .int (jI z2)), (3, .int (jI z3))]) hx hb dXM_reckon_75 hl rfl (by decide) rfl (fun ls hl => ?_)
            refine lv_goto (tgt := 13) hx hb dXM_reckon_78 (by decide) ?_
            exact ih13 (e9 + 1) mu1'5 md1'6 (by omega) (Eq.trans (by rw [f_XM_reckonP_L13_s]; rw [if_pos c17_, if_neg c23_, if_pos c38_]; rw [← hwb8]; try dsimp only; try rfl) hF) (by first | assumption | omega) (by first | assumption | omega) (kUD_s (by omega) hud (by omega) (by omega)) _ _ (hP.sub [7, 0, 1, 2, 3, 4, 5, 6] rfl) (hD.sub [7, 0, 1, 2, 3, 4, 5, 6] (by decide) rfl) hS ls (lv_sub hl [0, 1, 2, 3, 4] rfl)
        · refine lv_aload_n hx hb dXM_reckon_26 rfl (lv_at hl 1 rfl) ?_
          refine va_get (D := (dC, dI)) (ci := 5) (v := .ref a10) (C := RXM) (T := TXM) (N := 19) hx hb hts (fun w h => jmem (inXM w h)) hown hK hP 0 rfl rfl 14 (by decide) (hts _ (jmem tw_642)) (fun _ h9 => h9) rfl dXM_reckon_27 ?_
          refine lv_iload hx hb dXM_reckon_30 (lv_at hl 0 rfl) ?_
          refine ji_iald hx hb hK hP 7 0 rfl rfl ⟨by omega, by omega⟩ (by decide) dXM_reckon_32 ?_
          have rb11 := hy10 e9
          refine ji_i2l hx hb dXM_reckon_33 (by omega) ?_
          refine lv_goto (tgt := 60) hx hb dXM_reckon_34 (by decide) ?_
          refine lv_aload_n hx hb dXM_reckon_60 rfl (lv_at hl 1 rfl) ?_
          refine va_get (D := (dC, dI)) (ci := 5) (v := .ref a9) (C := RXM) (T := TXM) (N := 19) hx hb hts (fun w h => jmem (inXM w h)) hown hK hP 0 rfl rfl 13 (by decide) (hts _ (jmem tw_641)) (fun _ h9 => h9) rfl dXM_reckon_61 ?_
          refine ji_bipush hx hb dXM_reckon_64 (by decide) ?_
          refine lv_iload_n hx hb dXM_reckon_66 rfl (lv_at hl 3 rfl) ?_
          refine ji_imul hx hb dXM_reckon_67 ?_
          refine lv_iload hx hb dXM_reckon_68 (lv_at hl 0 rfl) ?_
          refine ji_iadd hx hb dXM_reckon_70 ?_
          refine ji_iald hx hb hK hP 6 0 rfl rfl ⟨by omega, by omega⟩ (by decide) dXM_reckon_71 ?_
          have rb12 := hy9 ((8 * z2) + e9)
          refine jwVv (rest := []) (wr := [(a1, .inl (cZ, 62, .inl (jA y1))), (a2, .inl (cA, 62, .inl (jA y2))), (a3, .inl (cZ, 496, .inl (jA y3))), (a4, .inl (cA, 496, .inl (jA y4))), (a5, .inl (cA, 496, .inl (jA y5))), (a9, .inl (cA, 64, .inl (jA y9))), (a10, .inl (cA, 8, .inl (jA y10)))]) ⟨hx, hb, hml, hown, hts⟩ (c_XM_addsP l dC dI cA cZ _ ma a0 a1 a2 a3 a4 a5 a6 a7 a8 a9 a10 a11 mth mn mp mw u9 d9 mo (y10 e9) (y9 ((8 * z2) + e9)) (by first | assumption | omega) (by first | assumption | omega) (kUD_u (by omega) hu9.1 hud) (kUD_d (by omega) hu9.2 hud)) (cwV 2 hts (jG_V tw_810 tw_812 ts_36 tw_6 tw_813) rfl rfl rfl (by decide +kernel) (by rw [hR]; exact ⟨Nat.le_of_ble_eq_true rfl, Nat.le_of_ble_eq_true rfl⟩)) hK hP hD hS hA hN [0] [1, 2, 3, 4, 5, 6, 7] rfl rfl (by decide) (by decide) (by decide) 0 5 rfl rfl rfl rfl hl.1 rfl (Nat.le_of_ble_eq_true rfl) dXM_reckon_72 (by rw [hR]; exact ⟨Nat.le_of_ble_eq_true rfl, Nat.le_of_ble_eq_true rfl⟩) (fun u15 H locs hwb16 hP hD hS => ?_)
          obtain ⟨mu1'13, md1'14⟩ := u15
          try dsimp only at hwb16
          obtain ⟨hwb16, f17, f18⟩ := hwb16
          have f17 : 0 ≤ mu1'13 ∧ mu1'13 ≤ 20 * u9 + 100000 * d9 := f17
          have f18 : 1 ≤ md1'14 ∧ md1'14 ≤ 20 * d9 := f18
          have hP : va_P (dC, dI) vwCl [(a1, .inl (cZ, 62, .inl (jA y1))), (a2, .inl (cA, 62, .inl (jA y2))), (a3, .inl (cZ, 496, .inl (jA y3))), (a4, .inl (cA, 496, .inl (jA y4))), (a5, .inl (cA, 496, .inl (jA y5))), (a9, .inl (cA, 64, .inl (jA y9))), (a10, .inl (cA, 8, .inl (jA y10))), (ma, .inr (5, [.int (jI mth), .int (jI mn), .ref a0, .int (jI mp), .int (jI mw), .ref a1, .ref a2, .ref a3, .ref a4, .ref a5, .ref a6, .ref a7, .ref a8, .ref a9, .ref a10, .long (jL mu1'13), .long (jL md1'14), .int (jI mo), .ref a11]))] H := hP
          have hD : va_D A [(a1, .inl (cZ, 62, .inl (jA y1))), (a2, .inl (cA, 62, .inl (jA y2))), (a3, .inl (cZ, 496, .inl (jA y3))), (a4, .inl (cA, 496, .inl (jA y4))), (a5, .inl (cA, 496, .inl (jA y5))), (a9, .inl (cA, 64, .inl (jA y9))), (a10, .inl (cA, 8, .inl (jA y10))), (ma, .inr (5, [.int (jI mth), .int (jI mn), .ref a0, .int (jI mp), .int (jI mw), .ref a1, .ref a2, .ref a3, .ref a4, .ref a5, .ref a6, .ref a7, .ref a8, .ref a9, .ref a10, .long (jL mu1'13), .long (jL md1'14), .int (jI mo), .ref a11]))] := hD
          refine ji_iinc (k := 0) (lv' := [(4, .int (jI (e9 + 1))), (0, .ref ma), (1, .int (jI z1)), (2, .int (jI z2)), (3, .int (jI z3))]) hx hb dXM_reckon_75 hl rfl (by decide) rfl (fun ls hl => ?_)
          refine lv_goto (tgt := 13) hx hb dXM_reckon_78 (by decide) ?_
          exact ih13 (e9 + 1) mu1'13 md1'14 (by omega) (Eq.trans (by rw [f_XM_reckonP_L13_s]; rw [if_pos c17_, if_pos c23_]; rw [← hwb16]; try dsimp only; try rfl) hF) (by first | assumption | omega) (by first | assumption | omega) (kUD_s (by omega) hud (by omega) (by omega)) _ _ (hP.sub [7, 0, 1, 2, 3, 4, 5, 6] rfl) (hD.sub [7, 0, 1, 2, 3, 4, 5, 6] (by decide) rfl) hS ls (lv_sub hl [0, 1, 2, 3, 4] rfl)
  exact loop13 (Int.toNat (8 - 0) + 1) 0 0 1 (by omega) (Eq.trans (by rw [f_XM_reckonP_s]; try rfl) rfl) (by first | assumption | omega) (by first | assumption | omega) (kUD_0) _ _ hP hD hS ls (lv_sub hl [0, 1, 2, 3, 4] rfl)
