noncomputable def g_XM_putP (mth : Int) (mn : Int) (mp : Int) (mw : Int) (mu : Int) (md : Int) (mo : Int) (y11 : Int → Int) (z1 : Int) : Int × (Int → Int) :=
  (mo + 1, jset y11 mo z1)
noncomputable def f_XM_putP : Int → Int → Int → Int → Int → Int → Int → (Int → Int) → Int → Int × (Int → Int) := jopq g_XM_putP
theorem f_XM_putP_q : f_XM_putP = g_XM_putP := jopq_eq _
theorem f_XM_putP_s (mth : Int) (mn : Int) (mp : Int) (mw : Int) (mu : Int) (md : Int) (mo : Int) (y11 : Int → Int) (z1 : Int) : f_XM_putP mth mn mp mw mu md mo y11 z1 = (
    (mo + 1, jset y11 mo z1)
  : Int × (Int → Int)) := by rw [f_XM_putP_q]; rfl
set_option maxHeartbeats 4000000 in
set_option maxRecDepth 100000 in
theorem c_XM_putP (l : Launch) (dC : Nat → ClassId) (dI : Nat → Nat → Nat) (cA cZ : ClassId) (sz : Nat) (ma : Nat) (a0 : Nat) (a1 : Nat) (a2 : Nat) (a3 : Nat) (a4 : Nat) (a5 : Nat) (a6 : Nat) (a7 : Nat) (a8 : Nat) (a9 : Nat) (a10 : Nat) (a11 : Nat) (mth : Int) (mn : Int) (mp : Int) (mw : Int) (mu : Int) (md : Int) (mo : Int) (y11 : Int → Int) (z1 : Int) (hmo : 0 ≤ mo ∧ mo ≤ 299) : Met l yXM_put (Cond.code yXM_put cXM_put 2 none :: TBL) ({ frames := 0, cells := 0, slots := 0, locals := 0 } : Room) (va_Pc [.ref ma, .int (jI z1)] (jBw (dC, dI) [(cA, .int), (cZ, .boolean)] [(ma, .inr (5, [.int (jI mth), .int (jI mn), .ref a0, .int (jI mp), .int (jI mw), .ref a1, .ref a2, .ref a3, .ref a4, .ref a5, .ref a6, .ref a7, .ref a8, .ref a9, .ref a10, .long (jL mu), .long (jL md), .int (jI mo), .ref a11])), (a11, .inl (cA, 300, .inl (jA y11)))] sz)) (va_Qv (fun (u : Int × (Int → Int)) => u = f_XM_putP mth mn mp mw mu md mo y11 z1 ∧ (u.1 = mo + 1)) (fun u t => jE (dC, dI) [(cA, .int), (cZ, .boolean)] [(ma, .inr (5, [.int (jI mth), .int (jI mn), .ref a0, .int (jI mp), .int (jI mw), .ref a1, .ref a2, .ref a3, .ref a4, .ref a5, .ref a6, .ref a7, .ref a8, .ref a9, .ref a10, .long (jL mu), .long (jL md), .int (jI mo), .ref a11])), (a11, .inl (cA, 300, .inl (jA y11)))] sz [(ma, .inr (5, [.int (jI mth), .int (jI mn), .ref a0, .int (jI mp), .int (jI mw), .ref a1, .ref a2, .ref a3, .ref a4, .ref a5, .ref a6, .ref a7, .ref a8, .ref a9, .ref a10, .long (jL mu), .long (jL md), .int (jI u.1), .ref a11])), (a11, .inl (cA, 300, .inl (jA u.2)))] t) (va_A [(ma, .inr (5, [.int (jI mth), .int (jI mn), .ref a0, .int (jI mp), .int (jI mw), .ref a1, .ref a2, .ref a3, .ref a4, .ref a5, .ref a6, .ref a7, .ref a8, .ref a9, .ref a10, .long (jL mu), .long (jL md), .int (jI mo), .ref a11])), (a11, .inl (cA, 300, .inl (jA y11)))] sz)) 0 0 (va_A [(ma, .inr (5, [.int (jI mth), .int (jI mn), .ref a0, .int (jI mp), .int (jI mw), .ref a1, .ref a2, .ref a3, .ref a4, .ref a5, .ref a6, .ref a7, .ref a8, .ref a9, .ref a10, .long (jL mu), .long (jL md), .int (jI mo), .ref a11])), (a11, .inl (cA, 300, .inl (jA y11)))] sz) := by
  refine jMet (cc := cXM_put) (maxL := 2) (ret := none) (by decide) rfl ?_
  intro p e s m args below meth c s₁ R Q hR hQ B hml hv
  obtain ⟨rfl, hsz, hP, hK, hD0, hN⟩ := hv
  have hx := B.exec
  have hb := B.bytes
  have hr := B.returns
  have hts := atoms_spec (ws := Cond.code yXM_put cXM_put 2 none :: TBL) B.pre
  have hown : s.vm.findClass RXM = some m.cls := findClass_of_methodNamed B.named
  have hlocks := B.notSynchronized
  subst hsz
  obtain ⟨A, hAe⟩ : ∃ A, A = va_A [(ma, .inr (5, [.int (jI mth), .int (jI mn), .ref a0, .int (jI mp), .int (jI mw), .ref a1, .ref a2, .ref a3, .ref a4, .ref a5, .ref a6, .ref a7, .ref a8, .ref a9, .ref a10, .long (jL mu), .long (jL md), .int (jI mo), .ref a11])), (a11, .inl (cA, 300, .inl (jA y11)))] s.heap.size := ⟨_, rfl⟩
  have hD : va_D A [(ma, .inr (5, [.int (jI mth), .int (jI mn), .ref a0, .int (jI mp), .int (jI mw), .ref a1, .ref a2, .ref a3, .ref a4, .ref a5, .ref a6, .ref a7, .ref a8, .ref a9, .ref a10, .long (jL mu), .long (jL md), .int (jI mo), .ref a11])), (a11, .inl (cA, 300, .inl (jA y11)))] := by rw [hAe]; exact hD0.self
  have hA : ∀ q : Nat, s.heap.size ≤ q → A q := fun q h => by rw [hAe]; exact Or.inr h
  have hS : va_S A s.heap s.heap [] := va_S.rf
  have hP : va_P (dC, dI) vwCl [(ma, .inr (5, [.int (jI mth), .int (jI mn), .ref a0, .int (jI mp), .int (jI mw), .ref a1, .ref a2, .ref a3, .ref a4, .ref a5, .ref a6, .ref a7, .ref a8, .ref a9, .ref a10, .long (jL mu), .long (jL md), .int (jI mo), .ref a11])), (a11, .inl (cA, 300, .inl (jA y11)))] s.heap := hP
  have hl := lv_entry ([.ref ma, .int (jI z1)]) (n := 2) (Nat.le_of_ble_eq_true rfl)
  rw [lg_entry_eq]
  generalize (lg_sl ([.ref ma, .int (jI z1)]) ++ List.replicate (2 - (lg_sl ([.ref ma, .int (jI z1)])).length) Slot.unset).toArray = ls at hl ⊢
  have hl : lv_has ls 2 [(0, .ref ma), (1, .int (jI z1))] := hl
  refine lv_aload_n hx hb dXM_put_0 rfl (lv_at hl 0 rfl) ?_
  refine va_get (D := (dC, dI)) (ci := 5) (v := .ref a11) (C := RXM) (T := TXM) (N := 19) hx hb hts (fun w h => jmem (inXM w h)) hown hK hP 0 rfl rfl 18 (by decide) (hts _ (jmem tw_646)) (fun _ h9 => h9) rfl dXM_put_1 ?_
  refine lv_aload_n hx hb dXM_put_4 rfl (lv_at hl 0 rfl) ?_
  refine va_get (D := (dC, dI)) (ci := 5) (v := .int (jI mo)) (C := RXM) (T := TXM) (N := 19) hx hb hts (fun w h => jmem (inXM w h)) hown hK hP 0 rfl rfl 17 (by decide) (hts _ (jmem tw_645)) (fun _ h9 => h9) rfl dXM_put_5 ?_
  refine lv_iload_n hx hb dXM_put_8 rfl (lv_at hl 1 rfl) ?_
  refine ji_iast hx hb hK hP hD hS 1 0 rfl rfl ⟨by omega, by omega⟩ (by decide) dXM_put_9 (fun H locs hP hD hS => ?_)
  have hP : va_P (dC, dI) vwCl [(ma, .inr (5, [.int (jI mth), .int (jI mn), .ref a0, .int (jI mp), .int (jI mw), .ref a1, .ref a2, .ref a3, .ref a4, .ref a5, .ref a6, .ref a7, .ref a8, .ref a9, .ref a10, .long (jL mu), .long (jL md), .int (jI mo), .ref a11])), (a11, .inl (cA, 300, .inl (jA (jset y11 mo z1))))] H := hP
  have hD : va_D A [(ma, .inr (5, [.int (jI mth), .int (jI mn), .ref a0, .int (jI mp), .int (jI mw), .ref a1, .ref a2, .ref a3, .ref a4, .ref a5, .ref a6, .ref a7, .ref a8, .ref a9, .ref a10, .long (jL mu), .long (jL md), .int (jI mo), .ref a11])), (a11, .inl (cA, 300, .inl (jA (jset y11 mo z1))))] := hD
  refine lv_aload_n hx hb dXM_put_10 rfl (lv_at hl 0 rfl) ?_
  refine lv_dup hx hb dXM_put_11 rfl ?_
  refine va_get (D := (dC, dI)) (ci := 5) (v := .int (jI mo)) (C := RXM) (T := TXM) (N := 19) hx hb hts (fun w h => jmem (inXM w h)) hown hK hP 0 rfl rfl 17 (by decide) (hts _ (jmem tw_645)) (fun _ h9 => h9) rfl dXM_put_12 ?_
  refine ji_iconst hx hb dXM_put_15 ?_
  refine ji_iadd hx hb dXM_put_16 ?_
  refine va_put (D := (dC, dI)) (ci := 5) (v := .int (jI (mo + 1))) (ty := (.int)) (C := RXM) (T := TXM) (N := 19) hx hb hts (fun w h => jmem (inXM w h)) tyXM tyXM_ok nXM hown hK hP hD hS 0 rfl rfl 17 (by decide) (hts _ (jmem tw_645)) (fun _ h9 => h9) rfl (by decide +kernel) rfl rfl (Nat.le_of_ble_eq_true rfl) dXM_put_17 (fun H locs hP hD hS => ?_)
  have hP : va_P (dC, dI) vwCl [(ma, .inr (5, [.int (jI mth), .int (jI mn), .ref a0, .int (jI mp), .int (jI mw), .ref a1, .ref a2, .ref a3, .ref a4, .ref a5, .ref a6, .ref a7, .ref a8, .ref a9, .ref a10, .long (jL mu), .long (jL md), .int (jI (mo + 1)), .ref a11])), (a11, .inl (cA, 300, .inl (jA (jset y11 mo z1))))] H := hP
  have hD : va_D A [(ma, .inr (5, [.int (jI mth), .int (jI mn), .ref a0, .int (jI mp), .int (jI mw), .ref a1, .ref a2, .ref a3, .ref a4, .ref a5, .ref a6, .ref a7, .ref a8, .ref a9, .ref a10, .long (jL mu), .long (jL md), .int (jI (mo + 1)), .ref a11])), (a11, .inl (cA, 300, .inl (jA (jset y11 mo z1))))] := hD
  have hP9 := hP.sub (ws' := [(ma, .inr (5, [.int (jI mth), .int (jI mn), .ref a0, .int (jI mp), .int (jI mw), .ref a1, .ref a2, .ref a3, .ref a4, .ref a5, .ref a6, .ref a7, .ref a8, .ref a9, .ref a10, .long (jL mu), .long (jL md), .int (jI (mo + 1)), .ref a11])), (a11, .inl (cA, 300, .inl (jA (jset y11 mo z1))))]) [0, 1] rfl
  have hD9 := hD.sub (ws' := [(ma, .inr (5, [.int (jI mth), .int (jI mn), .ref a0, .int (jI mp), .int (jI mw), .ref a1, .ref a2, .ref a3, .ref a4, .ref a5, .ref a6, .ref a7, .ref a8, .ref a9, .ref a10, .long (jL mu), .long (jL md), .int (jI (mo + 1)), .ref a11])), (a11, .inl (cA, 300, .inl (jA (jset y11 mo z1))))]) [0, 1] (by decide) rfl
  subst hAe
  subst hQ
  exact W.vret hx hb hr (fun t ht hW => ⟨⟨(mo + 1, jset y11 mo z1), rfl, ⟨Eq.trans (by rw [f_XM_putP_s]; try rfl) rfl, show (mo + 1) = mo + 1 from by first | assumption | omega | exact jset_b (by assumption) (by omega) | exact jset_l (by assumption) (by omega) | exact jset_l (fun _ _ => rfl) (by omega) | exact fun _ _ => rfl | exact l_trans (by assumption) (by assumption)⟩, ⟨by rw [ht]; exact hP9, va_K.moved hW.alike hK, hD9⟩⟩, hS.F ht⟩) hS.2.2 dXM_put_20
noncomputable def g_XM_tellP_L23 (mth : Int) (mn : Int) (mp : Int) (mw : Int) (mu : Int) (md : Int) (mo : Int) (y11 : Int → Int) (z1 : Int) (z2 : Int) : Nat → Int → Int → (Int → Int) → Int × (Int → Int)
  | 0, _, _, _ => (0, fun _ => 0)
  | n9 + 1, v9, m9, w11 =>
    if 0 < v9 then
      match f_XM_putP mth mn mp mw mu md m9 w11 (48 + (Int.tmod (Int.tdiv z2 v9) 10)) with
      | (mo1'1, y11n'2) =>
        g_XM_tellP_L23 mth mn mp mw mu md mo y11 z1 z2 n9 (Int.tdiv v9 10) mo1'1 y11n'2
    else
      (m9, w11)
noncomputable def f_XM_tellP_L23 : Int → Int → Int → Int → Int → Int → Int → (Int → Int) → Int → Int → Nat → Int → Int → (Int → Int) → Int × (Int → Int) := jopq g_XM_tellP_L23
theorem f_XM_tellP_L23_q : f_XM_tellP_L23 = g_XM_tellP_L23 := jopq_eq _
theorem f_XM_tellP_L23_s (mth : Int) (mn : Int) (mp : Int) (mw : Int) (mu : Int) (md : Int) (mo : Int) (y11 : Int → Int) (z1 : Int) (z2 : Int) (n9 : Nat) (v9 : Int) (m9 : Int) (w11 : Int → Int) : f_XM_tellP_L23 mth mn mp mw mu md mo y11 z1 z2 (n9 + 1) v9 m9 w11 = (
    if 0 < v9 then
      match f_XM_putP mth mn mp mw mu md m9 w11 (48 + (Int.tmod (Int.tdiv z2 v9) 10)) with
      | (mo1'1, y11n'2) =>
        f_XM_tellP_L23 mth mn mp mw mu md mo y11 z1 z2 n9 (Int.tdiv v9 10) mo1'1 y11n'2
    else
      (m9, w11)
  : Int × (Int → Int)) := by rw [f_XM_tellP_L23_q]; rfl
theorem f_XM_tellP_L23_z (mth : Int) (mn : Int) (mp : Int) (mw : Int) (mu : Int) (md : Int) (mo : Int) (y11 : Int → Int) (z1 : Int) (z2 : Int) (v9 : Int) (m9 : Int) (w11 : Int → Int) : f_XM_tellP_L23 mth mn mp mw mu md mo y11 z1 z2 0 v9 m9 w11 = (0, fun _ => 0) := by rw [f_XM_tellP_L23_q]; rfl
noncomputable def g_XM_tellP_L7 (mth : Int) (mn : Int) (mp : Int) (mw : Int) (mu : Int) (md : Int) (mo : Int) (y11 : Int → Int) (z1 : Int) (z2 : Int) (mo1' : Int) (y11n' : Int → Int) : Nat → Int → Int × (Int → Int)
  | 0, _ => (0, fun _ => 0)
  | n9 + 1, u9 =>
    if 9 < (Int.tdiv z2 u9) then
      g_XM_tellP_L7 mth mn mp mw mu md mo y11 z1 z2 mo1' y11n' n9 (10 * u9)
    else
      f_XM_tellP_L23 mth mn mp mw mu md mo y11 z1 z2 (Int.toNat (u9) + 1) u9 mo1' y11n'
noncomputable def f_XM_tellP_L7 : Int → Int → Int → Int → Int → Int → Int → (Int → Int) → Int → Int → Int → (Int → Int) → Nat → Int → Int × (Int → Int) := jopq g_XM_tellP_L7
theorem f_XM_tellP_L7_q : f_XM_tellP_L7 = g_XM_tellP_L7 := jopq_eq _
theorem f_XM_tellP_L7_s (mth : Int) (mn : Int) (mp : Int) (mw : Int) (mu : Int) (md : Int) (mo : Int) (y11 : Int → Int) (z1 : Int) (z2 : Int) (mo1' : Int) (y11n' : Int → Int) (n9 : Nat) (u9 : Int) : f_XM_tellP_L7 mth mn mp mw mu md mo y11 z1 z2 mo1' y11n' (n9 + 1) u9 = (
    if 9 < (Int.tdiv z2 u9) then
      f_XM_tellP_L7 mth mn mp mw mu md mo y11 z1 z2 mo1' y11n' n9 (10 * u9)
    else
      f_XM_tellP_L23 mth mn mp mw mu md mo y11 z1 z2 (Int.toNat (u9) + 1) u9 mo1' y11n'
  : Int × (Int → Int)) := by rw [f_XM_tellP_L7_q]; rfl
theorem f_XM_tellP_L7_z (mth : Int) (mn : Int) (mp : Int) (mw : Int) (mu : Int) (md : Int) (mo : Int) (y11 : Int → Int) (z1 : Int) (z2 : Int) (mo1' : Int) (y11n' : Int → Int) (u9 : Int) : f_XM_tellP_L7 mth mn mp mw mu md mo y11 z1 z2 mo1' y11n' 0 u9 = (0, fun _ => 0) := by rw [f_XM_tellP_L7_q]; rfl
noncomputable def g_XM_tellP (mth : Int) (mn : Int) (mp : Int) (mw : Int) (mu : Int) (md : Int) (mo : Int) (y11 : Int → Int) (z1 : Int) (z2 : Int) : Int × (Int → Int) :=
  match f_XM_putP mth mn mp mw mu md mo y11 z1 with
  | (mo1', y11n') =>
    f_XM_tellP_L7 mth mn mp mw mu md mo y11 z1 z2 mo1' y11n' (Int.toNat (100001 - 1) + 1) 1
noncomputable def f_XM_tellP : Int → Int → Int → Int → Int → Int → Int → (Int → Int) → Int → Int → Int × (Int → Int) := jopq g_XM_tellP
theorem f_XM_tellP_q : f_XM_tellP = g_XM_tellP := jopq_eq _
theorem f_XM_tellP_s (mth : Int) (mn : Int) (mp : Int) (mw : Int) (mu : Int) (md : Int) (mo : Int) (y11 : Int → Int) (z1 : Int) (z2 : Int) : f_XM_tellP mth mn mp mw mu md mo y11 z1 z2 = (
    match f_XM_putP mth mn mp mw mu md mo y11 z1 with
    | (mo1', y11n') =>
      f_XM_tellP_L7 mth mn mp mw mu md mo y11 z1 z2 mo1' y11n' (Int.toNat (100001 - 1) + 1) 1
  : Int × (Int → Int)) := by rw [f_XM_tellP_q]; rfl
set_option maxHeartbeats 4000000 in
set_option maxRecDepth 100000 in
theorem c_XM_tellP (l : Launch) (dC : Nat → ClassId) (dI : Nat → Nat → Nat) (cA cZ : ClassId) (sz : Nat) (ma : Nat) (a0 : Nat) (a1 : Nat) (a2 : Nat) (a3 : Nat) (a4 : Nat) (a5 : Nat) (a6 : Nat) (a7 : Nat) (a8 : Nat) (a9 : Nat) (a10 : Nat) (a11 : Nat) (mth : Int) (mn : Int) (mp : Int) (mw : Int) (mu : Int) (md : Int) (mo : Int) (y11 : Int → Int) (z1 : Int) (z2 : Int) (hmo : 0 ≤ mo ∧ mo ≤ 290) (hz2 : 0 ≤ z2 ∧ z2 ≤ 999999) : Met l yXM_tell (Cond.code yXM_tell cXM_tell 4 none :: TBL) ({ frames := 1, cells := 0, slots := 0, locals := 21 } : Room) (va_Pc [.ref ma, .int (jI z1), .int (jI z2)] (jBw (dC, dI) [(cA, .int), (cZ, .boolean)] [(ma, .inr (5, [.int (jI mth), .int (jI mn), .ref a0, .int (jI mp), .int (jI mw), .ref a1, .ref a2, .ref a3, .ref a4, .ref a5, .ref a6, .ref a7, .ref a8, .ref a9, .ref a10, .long (jL mu), .long (jL md), .int (jI mo), .ref a11])), (a11, .inl (cA, 300, .inl (jA y11)))] sz)) (va_Qv (fun (u : Int × (Int → Int)) => u = f_XM_tellP mth mn mp mw mu md mo y11 z1 z2 ∧ (mo ≤ u.1 ∧ u.1 ≤ mo + 7)) (fun u t => jE (dC, dI) [(cA, .int), (cZ, .boolean)] [(ma, .inr (5, [.int (jI mth), .int (jI mn), .ref a0, .int (jI mp), .int (jI mw), .ref a1, .ref a2, .ref a3, .ref a4, .ref a5, .ref a6, .ref a7, .ref a8, .ref a9, .ref a10, .long (jL mu), .long (jL md), .int (jI mo), .ref a11])), (a11, .inl (cA, 300, .inl (jA y11)))] sz [(ma, .inr (5, [.int (jI mth), .int (jI mn), .ref a0, .int (jI mp), .int (jI mw), .ref a1, .ref a2, .ref a3, .ref a4, .ref a5, .ref a6, .ref a7, .ref a8, .ref a9, .ref a10, .long (jL mu), .long (jL md), .int (jI u.1), .ref a11])), (a11, .inl (cA, 300, .inl (jA u.2)))] t) (va_A [(ma, .inr (5, [.int (jI mth), .int (jI mn), .ref a0, .int (jI mp), .int (jI mw), .ref a1, .ref a2, .ref a3, .ref a4, .ref a5, .ref a6, .ref a7, .ref a8, .ref a9, .ref a10, .long (jL mu), .long (jL md), .int (jI mo), .ref a11])), (a11, .inl (cA, 300, .inl (jA y11)))] sz)) 0 0 (va_A [(ma, .inr (5, [.int (jI mth), .int (jI mn), .ref a0, .int (jI mp), .int (jI mw), .ref a1, .ref a2, .ref a3, .ref a4, .ref a5, .ref a6, .ref a7, .ref a8, .ref a9, .ref a10, .long (jL mu), .long (jL md), .int (jI mo), .ref a11])), (a11, .inl (cA, 300, .inl (jA y11)))] sz) := by
  refine jMet (cc := cXM_tell) (maxL := 4) (ret := none) (by decide) rfl ?_
  intro p e s m args below meth c s₁ R Q hR hQ B hml hv
  obtain ⟨rfl, hsz, hP, hK, hD0, hN⟩ := hv
  have hx := B.exec
  have hb := B.bytes
  have hr := B.returns
  have hts := atoms_spec (ws := Cond.code yXM_tell cXM_tell 4 none :: TBL) B.pre
  have hown : s.vm.findClass RXM = some m.cls := findClass_of_methodNamed B.named
  have hlocks := B.notSynchronized
  subst hsz
  obtain ⟨A, hAe⟩ : ∃ A, A = va_A [(ma, .inr (5, [.int (jI mth), .int (jI mn), .ref a0, .int (jI mp), .int (jI mw), .ref a1, .ref a2, .ref a3, .ref a4, .ref a5, .ref a6, .ref a7, .ref a8, .ref a9, .ref a10, .long (jL mu), .long (jL md), .int (jI mo), .ref a11])), (a11, .inl (cA, 300, .inl (jA y11)))] s.heap.size := ⟨_, rfl⟩
  have hD : va_D A [(ma, .inr (5, [.int (jI mth), .int (jI mn), .ref a0, .int (jI mp), .int (jI mw), .ref a1, .ref a2, .ref a3, .ref a4, .ref a5, .ref a6, .ref a7, .ref a8, .ref a9, .ref a10, .long (jL mu), .long (jL md), .int (jI mo), .ref a11])), (a11, .inl (cA, 300, .inl (jA y11)))] := by rw [hAe]; exact hD0.self
  have hA : ∀ q : Nat, s.heap.size ≤ q → A q := fun q h => by rw [hAe]; exact Or.inr h
  have hS : va_S A s.heap s.heap [] := va_S.rf
  have hP : va_P (dC, dI) vwCl [(ma, .inr (5, [.int (jI mth), .int (jI mn), .ref a0, .int (jI mp), .int (jI mw), .ref a1, .ref a2, .ref a3, .ref a4, .ref a5, .ref a6, .ref a7, .ref a8, .ref a9, .ref a10, .long (jL mu), .long (jL md), .int (jI mo), .ref a11])), (a11, .inl (cA, 300, .inl (jA y11)))] s.heap := hP
  have hl := lv_entry ([.ref ma, .int (jI z1), .int (jI z2)]) (n := 4) (Nat.le_of_ble_eq_true rfl)
  rw [lg_entry_eq]
  generalize (lg_sl ([.ref ma, .int (jI z1), .int (jI z2)]) ++ List.replicate (4 - (lg_sl ([.ref ma, .int (jI z1), .int (jI z2)])).length) Slot.unset).toArray = ls at hl ⊢
  have hl : lv_has ls 4 [(0, .ref ma), (1, .int (jI z1)), (2, .int (jI z2))] := hl
  refine lv_aload_n hx hb dXM_tell_0 rfl (lv_at hl 0 rfl) ?_
  refine lv_iload_n hx hb dXM_tell_1 rfl (lv_at hl 1 rfl) ?_
  refine jwVv (rest := []) (wr := []) ⟨hx, hb, hml, hown, hts⟩ (c_XM_putP l dC dI cA cZ _ ma a0 a1 a2 a3 a4 a5 a6 a7 a8 a9 a10 a11 mth mn mp mw mu md mo y11 z1 (by first | assumption | omega)) (cwV 1 hts (jG_V tw_854 tw_856 ts_39 tw_6 tw_857) rfl rfl rfl (by decide +kernel) (by rw [hR]; exact ⟨Nat.le_of_ble_eq_true rfl, Nat.le_of_ble_eq_true rfl⟩)) hK hP hD hS hA hN [0, 1] [] rfl rfl (by decide) (by decide) (by decide) 0 5 rfl rfl rfl rfl hl.1 rfl (Nat.le_of_ble_eq_true rfl) dXM_tell_2 (by rw [hR]; exact ⟨Nat.le_of_ble_eq_true rfl, Nat.le_of_ble_eq_true rfl⟩) (fun u H locs hwb hP hD hS => ?_)
  obtain ⟨mo1', y11n'⟩ := u
  try dsimp only at hwb
  obtain ⟨hwb, f⟩ := hwb
  have f : mo1' = mo + 1 := f
  have hP : va_P (dC, dI) vwCl [(ma, .inr (5, [.int (jI mth), .int (jI mn), .ref a0, .int (jI mp), .int (jI mw), .ref a1, .ref a2, .ref a3, .ref a4, .ref a5, .ref a6, .ref a7, .ref a8, .ref a9, .ref a10, .long (jL mu), .long (jL md), .int (jI mo1'), .ref a11])), (a11, .inl (cA, 300, .inl (jA y11n')))] H := hP
  have hD : va_D A [(ma, .inr (5, [.int (jI mth), .int (jI mn), .ref a0, .int (jI mp), .int (jI mw), .ref a1, .ref a2, .ref a3, .ref a4, .ref a5, .ref a6, .ref a7, .ref a8, .ref a9, .ref a10, .long (jL mu), .long (jL md), .int (jI mo1'), .ref a11])), (a11, .inl (cA, 300, .inl (jA y11n')))] := hD
  refine ji_iconst hx hb dXM_tell_5 ?_
  refine lv_istore_n (lv' := [(3, .int (jI 1)), (0, .ref ma), (1, .int (jI z1)), (2, .int (jI z2))]) hx hb dXM_tell_6 rfl hl (by decide) rfl (fun ls hl => ?_)
  have loop7 : ∀ (n9 : Nat) (u9 : Int) , 100001 - u9 < (n9 : Int) → f_XM_tellP_L7 mth mn mp mw mu md mo y11 z1 z2 mo1' y11n' n9 u9 = f_XM_tellP mth mn mp mw mu md mo y11 z1 z2 → (u9 = 1 ∨ u9 = 10 ∨ u9 = 100 ∨ u9 = 1000 ∨ u9 = 10000 ∨ u9 = 100000) → ∀ (H : Heap) (locs : List Loc), va_P (dC, dI) vwCl [(ma, .inr (5, [.int (jI mth), .int (jI mn), .ref a0, .int (jI mp), .int (jI mw), .ref a1, .ref a2, .ref a3, .ref a4, .ref a5, .ref a6, .ref a7, .ref a8, .ref a9, .ref a10, .long (jL mu), .long (jL md), .int (jI mo1'), .ref a11])), (a11, .inl (cA, 300, .inl (jA y11n')))] H → va_D A [(ma, .inr (5, [.int (jI mth), .int (jI mn), .ref a0, .int (jI mp), .int (jI mw), .ref a1, .ref a2, .ref a3, .ref a4, .ref a5, .ref a6, .ref a7, .ref a8, .ref a9, .ref a10, .long (jL mu), .long (jL md), .int (jI mo1'), .ref a11])), (a11, .inl (cA, 300, .inl (jA y11n')))] → va_S A s.heap H locs → ∀ ls : Array Slot, lv_has ls 4 [(3, .int (jI u9)), (0, .ref ma), (1, .int (jI z1)), (2, .int (jI z2))] → W p l e R s m ([.ref ma, .int (jI z1), .int (jI z2)] : List Value).toArray below meth c H locs 0 0 Q (F0 m 7 ls []) := by
    intro n9
    induction n9 with
    | zero =>
      intro u9 hm hF hu9
      exact absurd hm (by omega)
    | succ n9 ih7 =>
      intro u9 hm hF hu9 H locs hP hD hS ls hl
      refine lv_iload_n hx hb dXM_tell_7 rfl (lv_at hl 3 rfl) ?_
      refine lv_iload_n hx hb dXM_tell_8 rfl (lv_at hl 0 rfl) ?_
      refine ji_idiv hx hb dXM_tell_9 (by omega) (by omega) (by omega) (by omega) ?_
      have q1 := tdg z2 u9 (by omega) (by omega)
      refine ji_bipush hx hb dXM_tell_10 (by decide) ?_
      refine ji_icmp_le (tgt := 23) hx hb dXM_tell_12 (by decide) (by omega) (by omega) (fun c12_ => ?_) (fun c12_ => ?_)
      · have loop23 : ∀ (n9 : Nat) (v9 : Int) (m9 : Int) (w11 : Int → Int) , v9 < (n9 : Int) → f_XM_tellP_L23 mth mn mp mw mu md mo y11 z1 z2 n9 v9 m9 w11 = f_XM_tellP mth mn mp mw mu md mo y11 z1 z2 → ((v9 = 100000 ∧ m9 ≤ mo + 1) ∨ (v9 = 10000 ∧ m9 ≤ mo + 2) ∨ (v9 = 1000 ∧ m9 ≤ mo + 3) ∨ (v9 = 100 ∧ m9 ≤ mo + 4) ∨ (v9 = 10 ∧ m9 ≤ mo + 5) ∨ (v9 = 1 ∧ m9 ≤ mo + 6) ∨ (v9 = 0 ∧ m9 ≤ mo + 7)) → (mo ≤ m9) → ∀ (H : Heap) (locs : List Loc), va_P (dC, dI) vwCl [(ma, .inr (5, [.int (jI mth), .int (jI mn), .ref a0, .int (jI mp), .int (jI mw), .ref a1, .ref a2, .ref a3, .ref a4, .ref a5, .ref a6, .ref a7, .ref a8, .ref a9, .ref a10, .long (jL mu), .long (jL md), .int (jI m9), .ref a11])), (a11, .inl (cA, 300, .inl (jA w11)))] H → va_D A [(ma, .inr (5, [.int (jI mth), .int (jI mn), .ref a0, .int (jI mp), .int (jI mw), .ref a1, .ref a2, .ref a3, .ref a4, .ref a5, .ref a6, .ref a7, .ref a8, .ref a9, .ref a10, .long (jL mu), .long (jL md), .int (jI m9), .ref a11])), (a11, .inl (cA, 300, .inl (jA w11)))] → va_S A s.heap H locs → ∀ ls : Array Slot, lv_has ls 4 [(3, .int (jI v9)), (0, .ref ma), (1, .int (jI z1)), (2, .int (jI z2))] → W p l e R s m ([.ref ma, .int (jI z1), .int (jI z2)] : List Value).toArray below meth c H locs 0 0 Q (F0 m 23 ls []) := by
          intro n9
          induction n9 with
          | zero =>
            intro v9 m9 w11 hm hF hv9 hm9
            exact absurd hm (by omega)
          | succ n9 ih23 =>
            intro v9 m9 w11 hm hF hv9 hm9 H locs hP hD hS ls hl
            refine lv_iload_n hx hb dXM_tell_23 rfl (lv_at hl 0 rfl) ?_
            refine ji_if_le (tgt := 48) hx hb dXM_tell_24 (by decide) (by omega) (fun c24_ => ?_) (fun c24_ => ?_)
            · have hP9 := hP.sub (ws' := [(ma, .inr (5, [.int (jI mth), .int (jI mn), .ref a0, .int (jI mp), .int (jI mw), .ref a1, .ref a2, .ref a3, .ref a4, .ref a5, .ref a6, .ref a7, .ref a8, .ref a9, .ref a10, .long (jL mu), .long (jL md), .int (jI m9), .ref a11])), (a11, .inl (cA, 300, .inl (jA w11)))]) [0, 1] rfl
              have hD9 := hD.sub (ws' := [(ma, .inr (5, [.int (jI mth), .int (jI mn), .ref a0, .int (jI mp), .int (jI mw), .ref a1, .ref a2, .ref a3, .ref a4, .ref a5, .ref a6, .ref a7, .ref a8, .ref a9, .ref a10, .long (jL mu), .long (jL md), .int (jI m9), .ref a11])), (a11, .inl (cA, 300, .inl (jA w11)))]) [0, 1] (by decide) rfl
              subst hAe
              subst hQ
              exact W.vret hx hb hr (fun t ht hW => ⟨⟨(m9, w11), rfl, ⟨Eq.trans (by rw [f_XM_tellP_L23_s]; rw [if_neg (Int.not_lt.mpr c24_)]; try rfl) hF, show mo ≤ m9 ∧ m9 ≤ mo + 7 from by first | assumption | omega | exact jset_b (by assumption) (by omega) | exact jset_l (by assumption) (by omega) | exact jset_l (fun _ _ => rfl) (by omega) | exact fun _ _ => rfl | exact l_trans (by assumption) (by assumption)⟩, ⟨by rw [ht]; exact hP9, va_K.moved hW.alike hK, hD9⟩⟩, hS.F ht⟩) hS.2.2 dXM_tell_48
            · refine lv_aload_n hx hb dXM_tell_27 rfl (lv_at hl 1 rfl) ?_
              refine ji_bipush hx hb dXM_tell_28 (by decide) ?_
              refine lv_iload_n hx hb dXM_tell_30 rfl (lv_at hl 3 rfl) ?_
              refine lv_iload_n hx hb dXM_tell_31 rfl (lv_at hl 0 rfl) ?_
              refine ji_idiv hx hb dXM_tell_32 (by omega) (by omega) (by omega) (by omega) ?_
              have q2 := tdg z2 v9 (by omega) (by omega)
              refine ji_bipush hx hb dXM_tell_33 (by decide) ?_
              refine ji_irem hx hb dXM_tell_35 (by omega) (by omega) (by omega) (by omega) ?_
              refine ji_iadd hx hb dXM_tell_36 ?_
              refine jwVv (rest := []) (wr := []) ⟨hx, hb, hml, hown, hts⟩ (c_XM_putP l dC dI cA cZ _ ma a0 a1 a2 a3 a4 a5 a6 a7 a8 a9 a10 a11 mth mn mp mw mu md m9 w11 (48 + (Int.tmod (Int.tdiv z2 v9) 10)) (by first | assumption | omega)) (cwV 1 hts (jG_V tw_854 tw_856 ts_39 tw_6 tw_857) rfl rfl rfl (by decide +kernel) (by rw [hR]; exact ⟨Nat.le_of_ble_eq_true rfl, Nat.le_of_ble_eq_true rfl⟩)) hK hP hD hS hA hN [0, 1] [] rfl rfl (by decide) (by decide) (by decide) 0 5 rfl rfl rfl rfl hl.1 rfl (Nat.le_of_ble_eq_true rfl) dXM_tell_37 (by rw [hR]; exact ⟨Nat.le_of_ble_eq_true rfl, Nat.le_of_ble_eq_true rfl⟩) (fun u3 H locs hwb4 hP hD hS => ?_)
              obtain ⟨mo1'1, y11n'2⟩ := u3
              try dsimp only at hwb4
              obtain ⟨hwb4, f5⟩ := hwb4
              have f5 : mo1'1 = m9 + 1 := f5
              have hP : va_P (dC, dI) vwCl [(ma, .inr (5, [.int (jI mth), .int (jI mn), .ref a0, .int (jI mp), .int (jI mw), .ref a1, .ref a2, .ref a3, .ref a4, .ref a5, .ref a6, .ref a7, .ref a8, .ref a9, .ref a10, .long (jL mu), .long (jL md), .int (jI mo1'1), .ref a11])), (a11, .inl (cA, 300, .inl (jA y11n'2)))] H := hP
              have hD : va_D A [(ma, .inr (5, [.int (jI mth), .int (jI mn), .ref a0, .int (jI mp), .int (jI mw), .ref a1, .ref a2, .ref a3, .ref a4, .ref a5, .ref a6, .ref a7, .ref a8, .ref a9, .ref a10, .long (jL mu), .long (jL md), .int (jI mo1'1), .ref a11])), (a11, .inl (cA, 300, .inl (jA y11n'2)))] := hD
              refine lv_iload_n hx hb dXM_tell_40 rfl (lv_at hl 0 rfl) ?_
              refine ji_bipush hx hb dXM_tell_41 (by decide) ?_
              refine ji_idiv hx hb dXM_tell_43 (by omega) (by omega) (by omega) (by omega) ?_
              have q3 := td10 v9 (by omega)
              refine lv_istore_n (lv' := [(3, .int (jI (Int.tdiv v9 10))), (0, .ref ma), (1, .int (jI z1)), (2, .int (jI z2))]) hx hb dXM_tell_44 rfl hl (by decide) rfl (fun ls hl => ?_)
              refine lv_goto (tgt := 23) hx hb dXM_tell_45 (by decide) ?_
              exact ih23 (Int.tdiv v9 10) mo1'1 y11n'2 (by omega) (Eq.trans (by rw [f_XM_tellP_L23_s]; rw [if_pos c24_]; rw [← hwb4]; try dsimp only; try rfl) hF) (by first | assumption | omega) (by first | assumption | omega) _ _ hP hD hS ls (lv_sub hl [0, 1, 2, 3] rfl)
        exact loop23 (Int.toNat (u9) + 1) u9 mo1' y11n' (by omega) (Eq.trans (by rw [f_XM_tellP_L7_s]; rw [if_neg (Int.not_lt.mpr c12_)]; try rfl) hF) (by first | assumption | omega) (by first | assumption | omega) _ _ hP hD hS ls (lv_sub hl [0, 1, 2, 3] rfl)
      · refine ji_bipush hx hb dXM_tell_15 (by decide) ?_
        refine lv_iload_n hx hb dXM_tell_17 rfl (lv_at hl 0 rfl) ?_
        refine ji_imul hx hb dXM_tell_18 ?_
        refine lv_istore_n (lv' := [(3, .int (jI (10 * u9))), (0, .ref ma), (1, .int (jI z1)), (2, .int (jI z2))]) hx hb dXM_tell_19 rfl hl (by decide) rfl (fun ls hl => ?_)
        refine lv_goto (tgt := 7) hx hb dXM_tell_20 (by decide) ?_
        exact ih7 (10 * u9) (by omega) (Eq.trans (by rw [f_XM_tellP_L7_s]; rw [if_pos c12_]; try rfl) hF) (by first | assumption | omega) _ _ hP hD hS ls (lv_sub hl [0, 1, 2, 3] rfl)
  exact loop7 (Int.toNat (100001 - 1) + 1) 1 (by omega) (Eq.trans (by rw [f_XM_tellP_s]; rw [← hwb]; try dsimp only; try rfl) rfl) (by first | assumption | omega) _ _ hP hD hS ls (lv_sub hl [0, 1, 2, 3] rfl)
