section
noncomputable def g_XM_putP (mth : Int) (mn : Int) (mp : Int) (mw : Int) (mu : Int) (md : Int) (mo : Int) (y11 : Int → Int) (z1 : Int) : Int × (Int → Int) :=
  (mo + 1, jset y11 mo z1)
noncomputable def f_XM_putP : Int → Int → Int → Int → Int → Int → Int → (Int → Int) → Int → Int × (Int → Int) := jopq g_XM_putP
theorem f_XM_putP_q : f_XM_putP = g_XM_putP := jopq_eq _
theorem f_XM_putP_s (mth : Int) (mn : Int) (mp : Int) (mw : Int) (mu : Int) (md : Int) (mo : Int) (y11 : Int → Int) (z1 : Int) : f_XM_putP mth mn mp mw mu md mo y11 z1 = (
    (mo + 1, jset y11 mo z1)
  : Int × (Int → Int)) := by rw [f_XM_putP_q]; rfl
set_option maxHeartbeats 4000000 in
set_option maxRecDepth 100000 in
theorem c_XM_putP (l : Launch) (dC : Nat → ClassId) (dI : Nat → Nat → Nat) (cA cZ : ClassId) (sz : Nat) (ma : Nat) (a0 : Nat) (a1 : Nat) (a2 : Nat) (a3 : Nat) (a4 : Nat) (a5 : Nat) (a6 : Nat) (a7 : Nat) (a8 : Nat) (a9 : Nat) (a10 : Nat) (a11 : Nat) (mth : Int) (mn : Int) (mp : Int) (mw : Int) (mu : Int) (md : Int) (mo : Int) (y11 : Int → Int) (z1 : Int) (hmo : 0 ≤ mo ∧ mo ≤ 299) : Met l yXM_put (Cond.code yXM_put cXM_put 2 none :: TBL) ({ frames := 0, cells := 0, slots := 0, locals := 0 } : Room) (va_Pc [.ref ma, .int (jI z1)] (jBw (dC, dI) [(cA, .int), (cZ, .boolean)] [(ma, .inr (5, [.int (jI mth), .int (jI mn), .ref a0, .int (jI mp), .int (jI mw), .ref a1, .ref a2, .ref a3, .ref a4, .ref a5, .ref a6, .ref a7, .ref a8, .ref a9, .ref a10, .long (jL mu), .long (jL md), .int (jI mo), .ref a11])), (a11, .inl (cA, 300, .inl (jA y11)))] sz)) (va_Qv (fun (u : Int × (Int → Int)) => u = f_XM_putP mth mn mp mw mu md mo y11 z1 ∧ (u.1 = mo + 1)) (fun u t => jE (dC, dI) [(cA, .int), (cZ, .boolean)] [(ma, .inr (5, [.int (jI mth), .int (jI mn), .ref a0, .int (jI mp), .int (jI mw), .ref a1, .ref a2, .ref a3, .ref a4, .ref a5, .ref a6, .ref a7, .ref a8, .ref a9, .ref a10, .long (jL mu), .long (jL md), .int (jI mo), .ref a11])), (a11, .inl (cA, 300, .inl (jA y11)))] sz [(ma, .inr (5, [.int (jI mth), .int (jI mn), .ref a0, .int (jI mp), .int (jI mw), .ref a1, .ref a2, .ref a3, .ref a4, .ref a5, .ref a6, .ref a7, .ref a8, .ref a9, .ref a10, .long (jL mu), .long (jL md), .int (jI u.1), .ref a11])), (a11, .inl (cA, 300, .inl (jA u.2)))] t) (va_A [(ma, .inr (5, [.int (jI mth), .int (jI mn), .ref a0, .int (jI mp), .int (jI mw), .ref a1, .ref a2, .ref a3, .ref a4, .ref a5, .ref a6, .ref a7, .ref a8, .ref a9, .ref a10, .long (jL mu), .long (jL md), .int (jI mo), .ref a11])), (a11, .inl (cA, 300, .inl (jA y11)))] sz)) 0 0 (va_A [(ma, .inr (5, [.int (jI mth), .int (jI mn), .ref a0, .int (jI mp), .int (jI mw), .ref a1, .ref a2, .ref a3, .ref a4, .ref a5, .ref a6, .ref a7, .ref a8, .ref a9, .ref a10, .long (jL mu), .long (jL md), .int (jI mo), .ref a11])), (a11, .inl (cA, 300, .inl (jA y11)))] sz) := by
  refine jMet (cc := cXM_put) (maxL := 2) (ret := none) (by decide) rfl ?_
  intro p e s m args below meth c s₁ R Q hR hQ B hml hv
  obtain ⟨rfl, hsz, hP, hK, hD0, hN⟩ := hv
  have hx := B.exec
  have hb := B.bytes
  have hr := B.returns
  have hts := atoms_spec (ws := Cond.code yXM_put cXM_put 2 none :: TBL) B.pre
  have hown : s.vm.findClass RXM = some m.cls := findClass_of_methodNamed B.named
  have hlocks := B.notSynchronized
  subst hsz
  obtain ⟨A, hAe⟩ : ∃ A, A = va_A [(ma, .inr (5, [.int (jI mth), .int (jI mn), .ref a0, .int (jI mp), .int (jI mw), .ref a1, .ref a2, .ref a3, .ref a4, .ref a5, .ref a6, .ref a7, .ref a8, .ref a9, .ref a10, .long (jL mu), .long (jL md), .int (jI mo), .ref a11])), (a11, .inl (cA, 300, .inl (jA y11)))] s.heap.size := ⟨_, rfl⟩
  have hD : va_D A [(ma, .inr (5, [.int (jI mth), .int (jI mn), .ref a0, .int (jI mp), .int (jI mw), .ref a1, .ref a2, .ref a3, .ref a4, .ref a5, .ref a6, .ref a7, .ref a8, .ref a9, .ref a10, .long (jL mu), .long (jL md), .int (jI mo), .ref a11])), (a11, .inl (cA, 300, .inl (jA y11)))] := by rw [hAe]; exact hD0.self
  have hA : ∀ q : Nat, s.heap.size ≤ q → A q := fun q h => by rw [hAe]; exact Or.inr h
  have hS : va_S A s.heap s.heap [] := va_S.rf
  have hP : va_P (dC, dI) vwCl [(ma, .inr (5, [.int (jI mth), .int (jI mn), .ref a0, .int (jI mp), .int (jI mw), .ref a1, .ref a2, .ref a3, .ref a4, .ref a5, .ref a6, .ref a7, .ref a8, .ref a9, .ref a10, .long (jL mu), .long (jL md), .int (jI mo), .ref a11])), (a11, .inl (cA, 300, .inl (jA y11)))] s.heap := hP
  have hl := lv_entry ([.ref ma, .int (jI z1)]) (n := 2) (Nat.le_of_ble_eq_true rfl)
  rw [lg_entry_eq]
  generalize (lg_sl ([.ref ma, .int (jI z1)]) ++ List.replicate (2 - (lg_sl ([.ref ma, .int (jI z1)])).length) Slot.unset).toArray = ls at hl ⊢
  have hl : lv_has ls 2 [(0, .ref ma), (1, .int (jI z1))] := hl
  refine lv_aload_n hx hb dXM_put_0 rfl (lv_at hl 0 rfl) ?_
  refine va_get (D := (dC, dI)) (ci := 5) (v := .ref a11) (C := RXM) (T := TXM) (N := 19) hx hb hts (fun w h => jmem (inXM w h)) hown hK hP 0 rfl rfl 18 (by decide) (hts _ (jmem tw_646)) (fun _ h9 => h9) rfl dXM_put_1 ?_
  refine lv_aload_n hx hb dXM_put_4 rfl (lv_at hl 0 rfl) ?_
  refine va_get (D := (dC, dI)) (ci := 5) (v := .int (jI mo)) (C := RXM) (T := TXM) (N := 19) hx hb hts (fun w h => jmem (inXM w h)) hown hK hP 0 rfl rfl 17 (by decide) (hts _ (jmem tw_645)) (fun _ h9 => h9) rfl dXM_put_5 ?_
  refine lv_iload_n hx hb dXM_put_8 rfl (lv_at hl 1 rfl) ?_
  refine ji_iast hx hb hK hP hD hS 1 0 rfl rfl ⟨by omega, by omega⟩ (by decide) dXM_put_9 (fun H locs hP hD hS => ?_)
  have hP : va_P (dC, dI) vwCl [(ma, .inr (5, [.int (jI mth), .int (jI mn), .ref a0, .int (jI mp), .int (jI mw), .ref a1, .ref a2, .ref a3, .ref a4, .ref a5, .ref a6, .ref a7, .ref a8, .ref a9, .ref a10, .long (jL mu), .long (jL md), .int (jI mo), .ref a11])), (a11, .inl (cA, 300, .inl (jA (jset y11 mo z1))))] H := hP
  have hD : va_D A [(ma, .inr (5, [.int (jI mth), .int (jI mn), .ref a0, .int (jI mp), .int (jI mw), .ref a1, .ref a2, .ref a3, .ref a4, .ref a5, .ref a6, .ref a7, .ref a8, .ref a9, .ref a10, .long (jL mu), .long (jL md), .int (jI mo), .ref a11])), (a11, .inl (cA, 300, .inl (jA (jset y11 mo z1))))] := hD
  refine lv_aload_n hx hb dXM_put_10 rfl (lv_at hl 0 rfl) ?_
  refine lv_dup hx hb dXM_put_11 rfl ?_
  refine va_get (D := (dC, dI)) (ci := 5) (v := .int (jI mo)) (C := RXM) (T := TXM) (N := 19) hx hb hts (fun w h => jmem (inXM w h)) hown hK hP 0 rfl rfl 17 (by decide) (hts _ (jmem tw_645)) (fun _ h9 => h9) rfl dXM_put_12 ?_
  refine ji_iconst hx hb dXM_put_15 ?_
  refine ji_iadd hx hb dXM_put_16 ?_
  refine va_put (D := (dC, dI)) (ci := 5) (v := .int (jI (mo + 1))) (ty := (.int)) (C := RXM) (T := TXM) (N := 19) hx hb hts (fun w h => jmem (inXM w h)) tyXM tyXM_ok nXM hown hK hP hD hS 0 rfl rfl 17 (by decide) (hts _ (jmem tw_645)) (fun _ h9 => h9) rfl (by decide +kernel) rfl rfl (Nat.le_of_ble_eq_true rfl) dXM_put_17 (fun H locs hP hD hS => ?_)
  have hP : va_P (dC, dI) vwCl [(ma, .inr (5, [.int (jI mth), .int (jI mn), .ref a0, .int (jI mp), .int (jI mw), .ref a1, .ref a2, .ref a3, .ref a4, .ref a5, .ref a6, .ref a7, .ref a8, .ref a9, .ref a10, .long (jL mu), .long (jL md), .int (jI (mo + 1)), .ref a11])), (a11, .inl (cA, 300, .inl (jA (jset y11 mo z1))))] H := hP
  have hD : va_D A [(ma, .inr (5, [.int (jI mth), .int (jI mn), .ref a0, .int (jI mp), .int (jI mw), .ref a1, .ref a2, .ref a3, .ref a4, .ref a5, .ref a6, .ref a7, .ref a8, .ref a9, .ref a10, .long (jL mu), .long (jL md), .int (jI (mo + 1)), .ref a11])), (a11, .inl (cA, 300, .inl (jA (jset y11 mo z1))))] := hD
  have hP9 := hP.sub (ws' := [(ma, .inr (5, [.int (jI mth), .int (jI mn), .ref a0, .int (jI mp), .int (jI mw), .ref a1, .ref a2, .ref a3, .ref a4, .ref a5, .ref a6, .ref a7, .ref a8, .ref a9, .ref a10, .long (jL mu), .long (jL md), .int (jI (mo + 1)), .ref a11])), (a11, .inl (cA, 300, .inl (jA (jset y11 mo z1))))]) [0, 1] rfl
  have hD9 := hD.sub (ws' := [(ma, .inr (5, [.int (jI mth), .int (jI mn), .ref a0, .int (jI mp), .int (jI mw), .ref a1, .ref a2, .ref a3, .ref a4, .ref a5, .ref a6, .ref a7, .ref a8, .ref a9, .ref a10, .long (jL mu), .long (jL md), .int (jI (mo + 1)), .ref a11])), (a11, .inl (cA, 300, .inl (jA (jset y11 mo z1))))]) [0, 1] (by decide) rfl
  subst hAe
  subst hQ
  exact W.vret hx hb hr (fun t ht hW => ⟨⟨(mo + 1, jset y11 mo z1), rfl, ⟨Eq.trans (by rw [f_XM_putP_s]; try rfl) rfl, show (mo + 1) = mo + 1 from by first | assumption | omega | exact jset_b (by assumption) (by omega) | exact jset_l (by assumption) (by omega) | exact jset_l (fun _ _ => rfl) (by omega) | exact fun _ _ => rfl | exact l_trans (by assumption) (by assumption)⟩, ⟨by rw [ht]; exact hP9, va_K.moved hW.alike hK, hD9⟩⟩, hS.F ht⟩) hS.2.2 dXM_put_20
noncomputable def g_XM_tellP_L23 (mth : Int) (mn : Int) (mp : Int) (mw : Int) (mu : Int) (md : Int) (mo : Int) (y11 : Int → Int) (z1 : Int) (z2 : Int) : Nat → Int → Int → (Int → Int) → Int × (Int → Int)
  | 0, _, _, _ => (0, fun _ => 0)
  | n9 + 1, v9, m9, w11 =>
    if 0 < v9 then
      match f_XM_putP mth mn mp mw mu md m9 w11 (48 + (Int.tmod (Int.tdiv z2 v9) 10)) with
      | (mo1'1, y11n'2) =>
        g_XM_tellP_L23 mth mn mp mw mu md mo y11 z1 z2 n9 (Int.tdiv v9 10) mo1'1 y11n'2
    else
      (m9, w11)
noncomputable def f_XM_tellP_L23 : Int → Int → Int → Int → Int → Int → Int → (Int → Int) → Int → Int → Nat → Int → Int → (Int → Int) → Int × (Int → Int) := jopq g_XM_tellP_L23
theorem f_XM_tellP_L23_q : f_XM_tellP_L23 = g_XM_tellP_L23 := jopq_eq _
theorem f_XM_tellP_L23_s (mth : Int) (mn : Int) (mp : Int) (mw : Int) (mu : Int) (md : Int) (mo : Int) (y11 : Int → Int) (z1 : Int) (z2 : Int) (n9 : Nat) (v9 : Int) (m9 : Int) (w11 : Int → Int) : f_XM_tellP_L23 mth mn mp mw mu md mo y11 z1 z2 (n9 + 1) v9 m9 w11 = (
    if 0 < v9 then
      match f_XM_putP mth mn mp mw mu md m9 w11 (48 + (Int.tmod (Int.tdiv z2 v9) 10)) with
      | (mo1'1, y11n'2) =>
        f_XM_tellP_L23 mth mn mp mw mu md mo y11 z1 z2 n9 (Int.tdiv v9 10) mo1'1 y11n'2
    else
      (m9, w11)
  : Int × (Int → Int)) := by rw [f_XM_tellP_L23_q]; rfl
noncomputable def g_XM_tellP_L7 (mth : Int) (mn : Int) (mp : Int) (mw : Int) (mu : Int) (md : Int) (mo : Int) (y11 : Int → Int) (z1 : Int) (z2 : Int) (mo1' : Int) (y11n' : Int → Int) : Nat → Int → Int × (Int → Int)
  | 0, _ => (0, fun _ => 0)
  | n9 + 1, u9 =>
    if 9 < (Int.tdiv z2 u9) then
      g_XM_tellP_L7 mth mn mp mw mu md mo y11 z1 z2 mo1' y11n' n9 (10 * u9)
    else
      f_XM_tellP_L23 mth mn mp mw mu md mo y11 z1 z2 (Int.toNat (u9) + 1) u9 mo1' y11n'
noncomputable def f_XM_tellP_L7 : Int → Int → Int → Int → Int → Int → Int → (Int → Int) → Int → Int → Int → (Int → Int) → Nat → Int → Int × (Int → Int) := jopq g_XM_tellP_L7
theorem f_XM_tellP_L7_q : f_XM_tellP_L7 = g_XM_tellP_L7 := jopq_eq _
theorem f_XM_tellP_L7_s (mth : Int) (mn : Int) (mp : Int) (mw : Int) (mu : Int) (md : Int) (mo : Int) (y11 : Int → Int) (z1 : Int) (z2 : Int) (mo1' : Int) (y11n' : Int → Int) (n9 : Nat) (u9 : Int) : f_XM_tellP_L7 mth mn mp mw mu md mo y11 z1 z2 mo1' y11n' (n9 + 1) u9 = (
    if 9 < (Int.tdiv z2 u9) then
      f_XM_tellP_L7 mth mn mp mw mu md mo y11 z1 z2 mo1' y11n' n9 (10 * u9)
    else
      f_XM_tellP_L23 mth mn mp mw mu md mo y11 z1 z2 (Int.toNat (u9) + 1) u9 mo1' y11n'
  : Int × (Int → Int)) := by rw [f_XM_tellP_L7_q]; rfl
noncomputable def g_XM_tellP (mth : Int) (mn : Int) (mp : Int) (mw : Int) (mu : Int) (md : Int) (mo : Int) (y11 : Int → Int) (z1 : Int) (z2 : Int) : Int × (Int → Int) :=
  match f_XM_putP mth mn mp mw mu md mo y11 z1 with
  | (mo1', y11n') =>
    f_XM_tellP_L7 mth mn mp mw mu md mo y11 z1 z2 mo1' y11n' (Int.toNat (100001 - 1) + 1) 1
noncomputable def f_XM_tellP : Int → Int → Int → Int → Int → Int → Int → (Int → Int) → Int → Int → Int × (Int → Int) := jopq g_XM_tellP
theorem f_XM_tellP_q : f_XM_tellP = g_XM_tellP := jopq_eq _
theorem f_XM_tellP_s (mth : Int) (mn : Int) (mp : Int) (mw : Int) (mu : Int) (md : Int) (mo : Int) (y11 : Int → Int) (z1 : Int) (z2 : Int) : f_XM_tellP mth mn mp mw mu md mo y11 z1 z2 = (
    match f_XM_putP mth mn mp mw mu md mo y11 z1 with
    | (mo1', y11n') =>
      f_XM_tellP_L7 mth mn mp mw mu md mo y11 z1 z2 mo1' y11n' (Int.toNat (100001 - 1) + 1) 1
  : Int × (Int → Int)) := by rw [f_XM_tellP_q]; rfl
set_option maxHeartbeats 4000000 in
set_option maxRecDepth 100000 in
theorem c_XM_tellP (l : Launch) (dC : Nat → ClassId) (dI : Nat → Nat → Nat) (cA cZ : ClassId) (sz : Nat) (ma : Nat) (a0 : Nat) (a1 : Nat) (a2 : Nat) (a3 : Nat) (a4 : Nat) (a5 : Nat) (a6 : Nat) (a7 : Nat) (a8 : Nat) (a9 : Nat) (a10 : Nat) (a11 : Nat) (mth : Int) (mn : Int) (mp : Int) (mw : Int) (mu : Int) (md : Int) (mo : Int) (y11 : Int → Int) (z1 : Int) (z2 : Int) (hmo : 0 ≤ mo ∧ mo ≤ 290) (hz2 : 0 ≤ z2 ∧ z2 ≤ 999999) : Met l yXM_tell (Cond.code yXM_tell cXM_tell 4 none :: TBL) ({ frames := 1, cells := 0, slots := 0, locals := 21 } : Room) (va_Pc [.ref ma, .int (jI z1), .int (jI z2)] (jBw (dC, dI) [(cA, .int), (cZ, .boolean)] [(ma, .inr (5, [.int (jI mth), .int (jI mn), .ref a0, .int (jI mp), .int (jI mw), .ref a1, .ref a2, .ref a3, .ref a4, .ref a5, .ref a6, .ref a7, .ref a8, .ref a9, .ref a10, .long (jL mu), .long (jL md), .int (jI mo), .ref a11])), (a11, .inl (cA, 300, .inl (jA y11)))] sz)) (va_Qv (fun (u : Int × (Int → Int)) => u = f_XM_tellP mth mn mp mw mu md mo y11 z1 z2 ∧ (mo ≤ u.1 ∧ u.1 ≤ mo + 7)) (fun u t => jE (dC, dI) [(cA, .int), (cZ, .boolean)] [(ma, .inr (5, [.int (jI mth), .int (jI mn), .ref a0, .int (jI mp), .int (jI mw), .ref a1, .ref a2, .ref a3, .ref a4, .ref a5, .ref a6, .ref a7, .ref a8, .ref a9, .ref a10, .long (jL mu), .long (jL md), .int (jI mo), .ref a11])), (a11, .inl (cA, 300, .inl (jA y11)))] sz [(ma, .inr (5, [.int (jI mth), .int (jI mn), .ref a0, .int (jI mp), .int (jI mw), .ref a1, .ref a2, .ref a3, .ref a4, .ref a5, .ref a6, .ref a7, .ref a8, .ref a9, .ref a10, .long (jL mu), .long (jL md), .int (jI u.1), .ref a11])), (a11, .inl (cA, 300, .inl (jA u.2)))] t) (va_A [(ma, .inr (5, [.int (jI mth), .int (jI mn), .ref a0, .int (jI mp), .int (jI mw), .ref a1, .ref a2, .ref a3, .ref a4, .ref a5, .ref a6, .ref a7, .ref a8, .ref a9, .ref a10, .long (jL mu), .long (jL md), .int (jI mo), .ref a11])), (a11, .inl (cA, 300, .inl (jA y11)))] sz)) 0 0 (va_A [(ma, .inr (5, [.int (jI mth), .int (jI mn), .ref a0, .int (jI mp), .int (jI mw), .ref a1, .ref a2, .ref a3, .ref a4, .ref a5, .ref a6, .ref a7, .ref a8, .ref a9, .ref a10, .long (jL mu), .long (jL md), .int (jI mo), .ref a11])), (a11, .inl (cA, 300, .inl (jA y11)))] sz) := by
  refine jMet (cc := cXM_tell) (maxL := 4) (ret := none) (by decide) rfl ?_
  intro p e s m args below meth c s₁ R Q hR hQ B hml hv
  obtain ⟨rfl, hsz, hP, hK, hD0, hN⟩ := hv
  have hx := B.exec
  have hb := B.bytes
  have hr := B.returns
  have hts := atoms_spec (ws := Cond.code yXM_tell cXM_tell 4 none :: TBL) B.pre
  have hown : s.vm.findClass RXM = some m.cls := findClass_of_methodNamed B.named
  have hlocks := B.notSynchronized
  subst hsz
  obtain ⟨A, hAe⟩ : ∃ A, A = va_A [(ma, .inr (5, [.int (jI mth), .int (jI mn), .ref a0, .int (jI mp), .int (jI mw), .ref a1, .ref a2, .ref a3, .ref a4, .ref a5, .ref a6, .ref a7, .ref a8, .ref a9, .ref a10, .long (jL mu), .long (jL md), .int (jI mo), .ref a11])), (a11, .inl (cA, 300, .inl (jA y11)))] s.heap.size := ⟨_, rfl⟩
  have hD : va_D A [(ma, .inr (5, [.int (jI mth), .int (jI mn), .ref a0, .int (jI mp), .int (jI mw), .ref a1, .ref a2, .ref a3, .ref a4, .ref a5, .ref a6, .ref a7, .ref a8, .ref a9, .ref a10, .long (jL mu), .long (jL md), .int (jI mo), .ref a11])), (a11, .inl (cA, 300, .inl (jA y11)))] := by rw [hAe]; exact hD0.self
  have hA : ∀ q : Nat, s.heap.size ≤ q → A q := fun q h => by rw [hAe]; exact Or.inr h
  have hS : va_S A s.heap s.heap [] := va_S.rf
  have hP : va_P (dC, dI) vwCl [(ma, .inr (5, [.int (jI mth), .int (jI mn), .ref a0, .int (jI mp), .int (jI mw), .ref a1, .ref a2, .ref a3, .ref a4, .ref a5, .ref a6, .ref a7, .ref a8, .ref a9, .ref a10, .long (jL mu), .long (jL md), .int (jI mo), .ref a11])), (a11, .inl (cA, 300, .inl (jA y11)))] s.heap := hP
  have hl := lv_entry ([.ref ma, .int (jI z1), .int (jI z2)]) (n := 4) (Nat.le_of_ble_eq_true rfl)
  rw [lg_entry_eq]
  generalize (lg_sl ([.ref ma, .int (jI z1), .int (jI z2)]) ++ List.replicate (4 - (lg_sl ([.ref ma, .int (jI z1), .int (jI z2)])).length) Slot.unset).toArray = ls at hl ⊢
  have hl : lv_has ls 4 [(0, .ref ma), (1, .int (jI z1)), (2, .int (jI z2))] := hl
  refine lv_aload_n hx hb dXM_tell_0 rfl (lv_at hl 0 rfl) ?_
  refine lv_iload_n hx hb dXM_tell_1 rfl (lv_at hl 1 rfl) ?_
  refine jwVv (rest := []) (wr := []) ⟨hx, hb, hml, hown, hts⟩ (c_XM_putP l dC dI cA cZ _ ma a0 a1 a2 a3 a4 a5 a6 a7 a8 a9 a10 a11 mth mn mp mw mu md mo y11 z1 (by first | assumption | omega)) (cwV 1 hts (jG_V tw_854 tw_856 ts_39 tw_6 tw_857) rfl rfl rfl (by decide +kernel) (by rw [hR]; exact ⟨Nat.le_of_ble_eq_true rfl, Nat.le_of_ble_eq_true rfl⟩)) hK hP hD hS hA hN [0, 1] [] rfl rfl (by decide) (by decide) (by decide) 0 5 rfl rfl rfl rfl hl.1 rfl (Nat.le_of_ble_eq_true rfl) dXM_tell_2 (by rw [hR]; exact ⟨Nat.le_of_ble_eq_true rfl, Nat.le_of_ble_eq_true rfl⟩) (fun u H locs hwb hP hD hS => ?_)
  obtain ⟨mo1', y11n'⟩ := u
  try dsimp only at hwb
  obtain ⟨hwb, f⟩ := hwb
  have f : mo1' = mo + 1 := f
  have hP : va_P (dC, dI) vwCl [(ma, .inr (5, [.int (jI mth), .int (jI mn), .ref a0, .int (jI mp), .int (jI mw), .ref a1, .ref a2, .ref a3, .ref a4, .ref a5, .ref a6, .ref a7, .ref a8, .ref a9, .ref a10, .long (jL mu), .long (jL md), .int (jI mo1'), .ref a11])), (a11, .inl (cA, 300, .inl (jA y11n')))] H := hP
  have hD : va_D A [(ma, .inr (5, [.int (jI mth), .int (jI mn), .ref a0, .int (jI mp), .int (jI mw), .ref a1, .ref a2, .ref a3, .ref a4, .ref a5, .ref a6, .ref a7, .ref a8, .ref a9, .ref a10, .long (jL mu), .long (jL md), .int (jI mo1'), .ref a11])), (a11, .inl (cA, 300, .inl (jA y11n')))] := hD
  refine ji_iconst hx hb dXM_tell_5 ?_
  refine lv_istore_n (lv' := [(3, .int (jI 1)), (0, .ref ma), (1, .int (jI z1)), (2, .int (jI z2))]) hx hb dXM_tell_6 rfl hl (by decide) rfl (fun ls hl => ?_)
  have loop7 : ∀ (n9 : Nat) (u9 : Int) , 100001 - u9 < (n9 : Int) → f_XM_tellP_L7 mth mn mp mw mu md mo y11 z1 z2 mo1' y11n' n9 u9 = f_XM_tellP mth mn mp mw mu md mo y11 z1 z2 → (u9 = 1 ∨ u9 = 10 ∨ u9 = 100 ∨ u9 = 1000 ∨ u9 = 10000 ∨ u9 = 100000) → ∀ (H : Heap) (locs : List Loc), va_P (dC, dI) vwCl [(ma, .inr (5, [.int (jI mth), .int (jI mn), .ref a0, .int (jI mp), .int (jI mw), .ref a1, .ref a2, .ref a3, .ref a4, .ref a5, .ref a6, .ref a7, .ref a8, .ref a9, .ref a10, .long (jL mu), .long (jL md), .int (jI mo1'), .ref a11])), (a11, .inl (cA, 300, .inl (jA y11n')))] H → va_D A [(ma, .inr (5, [.int (jI mth), .int (jI mn), .ref a0, .int (jI mp), .int (jI mw), .ref a1, .ref a2, .ref a3, .ref a4, .ref a5, .ref a6, .ref a7, .ref a8, .ref a9, .ref a10, .long (jL mu), .long (jL md), .int (jI mo1'), .ref a11])), (a11, .inl (cA, 300, .inl (jA y11n')))] → va_S A s.heap H locs → ∀ ls : Array Slot, lv_has ls 4 [(3, .int (jI u9)), (0, .ref ma), (1, .int (jI z1)), (2, .int (jI z2))] → W p l e R s m ([.ref ma, .int (jI z1), .int (jI z2)] : List Value).toArray below meth c H locs 0 0 Q (F0 m 7 ls []) := by
    intro n9
    induction n9 with
    | zero =>
      intro u9 hm hF hu9
      exact absurd hm (by omega)
    | succ n9 ih7 =>
      intro u9 hm hF hu9 H locs hP hD hS ls hl
      refine lv_iload_n hx hb dXM_tell_7 rfl (lv_at hl 3 rfl) ?_
      refine lv_iload_n hx hb dXM_tell_8 rfl (lv_at hl 0 rfl) ?_
      refine ji_idiv hx hb dXM_tell_9 (by omega) (by omega) (by omega) (by omega) ?_
      have q1 := tdg z2 u9 (by omega) (by omega)
      refine ji_bipush hx hb dXM_tell_10 (by decide) ?_
      refine ji_icmp_le (tgt := 23) hx hb dXM_tell_12 (by decide) (by omega) (by omega) (fun c12_ => ?_) (fun c12_ => ?_)
      · have loop23 : ∀ (n9 : Nat) (v9 : Int) (m9 : Int) (w11 : Int → Int) , v9 < (n9 : Int) → f_XM_tellP_L23 mth mn mp mw mu md mo y11 z1 z2 n9 v9 m9 w11 = f_XM_tellP mth mn mp mw mu md mo y11 z1 z2 → ((v9 = 100000 ∧ m9 ≤ mo + 1) ∨ (v9 = 10000 ∧ m9 ≤ mo + 2) ∨ (v9 = 1000 ∧ m9 ≤ mo + 3) ∨ (v9 = 100 ∧ m9 ≤ mo + 4) ∨ (v9 = 10 ∧ m9 ≤ mo + 5) ∨ (v9 = 1 ∧ m9 ≤ mo + 6) ∨ (v9 = 0 ∧ m9 ≤ mo + 7)) → (mo ≤ m9) → ∀ (H : Heap) (locs : List Loc), va_P (dC, dI) vwCl [(ma, .inr (5, [.int (jI mth), .int (jI mn), .ref a0, .int (jI mp), .int (jI mw), .ref a1, .ref a2, .ref a3, .ref a4, .ref a5, .ref a6, .ref a7, .ref a8, .ref a9, .ref a10, .long (jL mu), .long (jL md), .int (jI m9), .ref a11])), (a11, .inl (cA, 300, .inl (jA w11)))] H → va_D A [(ma, .inr (5, [.int (jI mth), .int (jI mn), .ref a0, .int (jI mp), .int (jI mw), .ref a1, .ref a2, .ref a3, .ref a4, .ref a5, .ref a6, .ref a7, .ref a8, .ref a9, .ref a10, .long (jL mu), .long (jL md), .int (jI m9), .ref a11])), (a11, .inl (cA, 300, .inl (jA w11)))] → va_S A s.heap H locs → ∀ ls : Array Slot, lv_has ls 4 [(3, .int (jI v9)), (0, .ref ma), (1, .int (jI z1)), (2, .int (jI z2))] → W p l e R s m ([.ref ma, .int (jI z1), .int (jI z2)] : List Value).toArray below meth c H locs 0 0 Q (F0 m 23 ls []) := by
          intro n9
          induction n9 with
          | zero =>
            intro v9 m9 w11 hm hF hv9 hm9
            exact absurd hm (by omega)
          | succ n9 ih23 =>
            intro v9 m9 w11 hm hF hv9 hm9 H locs hP hD hS ls hl
            refine lv_iload_n hx hb dXM_tell_23 rfl (lv_at hl 0 rfl) ?_
            refine ji_if_le (tgt := 48) hx hb dXM_tell_24 (by decide) (by omega) (fun c24_ => ?_) (fun c24_ => ?_)
            · have hP9 := hP.sub (ws' := [(ma, .inr (5, [.int (jI mth), .int (jI mn), .ref a0, .int (jI mp), .int (jI mw), .ref a1, .ref a2, .ref a3, .ref a4, .ref a5, .ref a6, .ref a7, .ref a8, .ref a9, .ref a10, .long (jL mu), .long (jL md), .int (jI m9), .ref a11])), (a11, .inl (cA, 300, .inl (jA w11)))]) [0, 1] rfl
              have hD9 := hD.sub (ws' := [(ma, .inr (5, [.int (jI mth), .int (jI mn), .ref a0, .int (jI mp), .int (jI mw), .ref a1, .ref a2, .ref a3, .ref a4, .ref a5, .ref a6, .ref a7, .ref a8, .ref a9, .ref a10, .long (jL mu), .long (jL md), .int (jI m9), .ref a11])), (a11, .inl (cA, 300, .inl (jA w11)))]) [0, 1] (by decide) rfl
              subst hAe
              subst hQ
              exact W.vret hx hb hr (fun t ht hW => ⟨⟨(m9, w11), rfl, ⟨Eq.trans (by rw [f_XM_tellP_L23_s]; rw [if_neg (Int.not_lt.mpr c24_)]; try rfl) hF, show mo ≤ m9 ∧ m9 ≤ mo + 7 from by first | assumption | omega | exact jset_b (by assumption) (by omega) | exact jset_l (by assumption) (by omega) | exact jset_l (fun _ _ => rfl) (by omega) | exact fun _ _ => rfl | exact l_trans (by assumption) (by assumption)⟩, ⟨by rw [ht]; exact hP9, va_K.moved hW.alike hK, hD9⟩⟩, hS.F ht⟩) hS.2.2 dXM_tell_48
            · refine lv_aload_n hx hb dXM_tell_27 rfl (lv_at hl 1 rfl) ?_
              refine ji_bipush hx hb dXM_tell_28 (by decide) ?_
              refine lv_iload_n hx hb dXM_tell_30 rfl (lv_at hl 3 rfl) ?_
              refine lv_iload_n hx hb dXM_tell_31 rfl (lv_at hl 0 rfl) ?_
              refine ji_idiv hx hb dXM_tell_32 (by omega) (by omega) (by omega) (by omega) ?_
              have q2 := tdg z2 v9 (by omega) (by omega)
              refine ji_bipush hx hb dXM_tell_33 (by decide) ?_
              refine ji_irem hx hb dXM_tell_35 (by omega) (by omega) (by omega) (by omega) ?_
              refine ji_iadd hx hb dXM_tell_36 ?_
              refine jwVv (rest := []) (wr := []) ⟨hx, hb, hml, hown, hts⟩ (c_XM_putP l dC dI cA cZ _ ma a0 a1 a2 a3 a4 a5 a6 a7 a8 a9 a10 a11 mth mn mp mw mu md m9 w11 (48 + (Int.tmod (Int.tdiv z2 v9) 10)) (by first | assumption | omega)) (cwV 1 hts (jG_V tw_854 tw_856 ts_39 tw_6 tw_857) rfl rfl rfl (by decide +kernel) (by rw [hR]; exact ⟨Nat.le_of_ble_eq_true rfl, Nat.le_of_ble_eq_true rfl⟩)) hK hP hD hS hA hN [0, 1] [] rfl rfl (by decide) (by decide) (by decide) 0 5 rfl rfl rfl rfl hl.1 rfl (Nat.le_of_ble_eq_true rfl) dXM_tell_37 (by rw [hR]; exact ⟨Nat.le_of_ble_eq_true rfl, Nat.le_of_ble_eq_true rfl⟩) (fun u3 H locs hwb4 hP hD hS => ?_)
              obtain ⟨mo1'1, y11n'2⟩ := u3
              try dsimp only at hwb4
              obtain ⟨hwb4, f5⟩ := hwb4
              have f5 : mo1'1 = m9 + 1 := f5
              have hP : va_P (dC, dI) vwCl [(ma, .inr (5, [.int (jI mth), .int (jI mn), .ref a0, .int (jI mp), .int (jI mw), .ref a1, .ref a2, .ref a3, .ref a4, .ref a5, .ref a6, .ref a7, .ref a8, .ref a9, .ref a10, .long (jL mu), .long (jL md), .int (jI mo1'1), .ref a11])), (a11, .inl (cA, 300, .inl (jA y11n'2)))] H := hP
              have hD : va_D A [(ma, .inr (5, [.int (jI mth), .int (jI mn), .ref a0, .int (jI mp), .int (jI mw), .ref a1, .ref a2, .ref a3, .ref a4, .ref a5, .ref a6, .ref a7, .ref a8, .ref a9, .ref a10, .long (jL mu), .long (jL md), .int (jI mo1'1), .ref a11])), (a11, .inl (cA, 300, .inl (jA y11n'2)))] := hD
              refine lv_iload_n hx hb dXM_tell_40 rfl (lv_at hl 0 rfl) ?_
              refine ji_bipush hx hb dXM_tell_41 (by decide) ?_
              refine ji_idiv hx hb dXM_tell_43 (by omega) (by omega) (by omega) (by omega) ?_
              have q3 := td10 v9 (by omega)
              refine lv_istore_n (lv' := [(3, .int (jI (Int.tdiv v9 10))), (0, .ref ma), (1, .int (jI z1)), (2, .int (jI z2))]) hx hb dXM_tell_44 rfl hl (by decide) rfl (fun ls hl => ?_)
              refine lv_goto (tgt := 23) hx hb dXM_tell_45 (by decide) ?_
              exact ih23 (Int.tdiv v9 10) mo1'1 y11n'2 (by omega) (Eq.trans (by rw [f_XM_tellP_L23_s]; rw [if_pos c24_]; rw [← hwb4]; try dsimp only; try rfl) hF) (by first | assumption | omega) (by first | assumption | omega) _ _ hP hD hS ls (lv_sub hl [0, 1, 2, 3] rfl)
        exact loop23 (Int.toNat (u9) + 1) u9 mo1' y11n' (by omega) (Eq.trans (by rw [f_XM_tellP_L7_s]; rw [if_neg (Int.not_lt.mpr c12_)]; try rfl) hF) (by first | assumption | omega) (by first | assumption | omega) _ _ hP hD hS ls (lv_sub hl [0, 1, 2, 3] rfl)
      · refine ji_bipush hx hb dXM_tell_15 (by decide) ?_
        refine lv_iload_n hx hb dXM_tell_17 rfl (lv_at hl 0 rfl) ?_
        refine ji_imul hx hb dXM_tell_18 ?_
        refine lv_istore_n (lv' := [(3, .int (jI (10 * u9))), (0, .ref ma), (1, .int (jI z1)), (2, .int (jI z2))]) hx hb dXM_tell_19 rfl hl (by decide) rfl (fun ls hl => ?_)
        refine lv_goto (tgt := 7) hx hb dXM_tell_20 (by decide) ?_
        exact ih7 (10 * u9) (by omega) (Eq.trans (by rw [f_XM_tellP_L7_s]; rw [if_pos c12_]; try rfl) hF) (by first | assumption | omega) _ _ hP hD hS ls (lv_sub hl [0, 1, 2, 3] rfl)
  exact loop7 (Int.toNat (100001 - 1) + 1) 1 (by omega) (Eq.trans (by rw [f_XM_tellP_s]; rw [← hwb]; try dsimp only; try rfl) rfl) (by first | assumption | omega) _ _ hP hD hS ls (lv_sub hl [0, 1, 2, 3] rfl)

end
section
noncomputable def g_XM_writeP_L168 (mth : Int) (mn : Int) (mp : Int) (mw : Int) (mu : Int) (md : Int) (mo : Int) (y1 : Int → Int) (y2 : Int → Int) (y3 : Int → Int) (y4 : Int → Int) (y5 : Int → Int) (y6 : Int → Int) (y7 : Int → Int) (y11 : Int → Int) (z1 : Int) (mth1' : Int) : Nat → Int → Int → (Int → Int) → Int × Int × Int × (Int → Int)
  | 0, _, _, _ => (0, 0, 0, fun _ => 0)
  | n9 + 1, k3, m7, v7 =>
    if k3 < 4 then
      if (y7 ((4 * z1) + k3)) < 0 then
        g_XM_writeP_L168 mth mn mp mw mu md mo y1 y2 y3 y4 y5 y6 y7 y11 z1 mth1' n9 (k3 + 1) m7 v7
      else
        match f_XM_tellP mth1' mn mp mw mu md m7 v7 113 k3 with
        | (mo1'10, y11n'11) =>
          match f_XM_tellP mth1' mn mp mw mu md mo1'10 y11n'11 60 (y7 ((4 * z1) + k3)) with
          | (mo1'16, y11n'17) =>
            g_XM_writeP_L168 mth mn mp mw mu md mo y1 y2 y3 y4 y5 y6 y7 y11 z1 mth1' n9 (k3 + 1) mo1'16 y11n'17
    else
      match f_XM_putP mth1' mn mp mw mu md m7 v7 59 with
      | (mo1'5, y11n'6) =>
        (mo1'5, mth1', mo1'5, y11n'6)
noncomputable def f_XM_writeP_L168 : Int → Int → Int → Int → Int → Int → Int → (Int → Int) → (Int → Int) → (Int → Int) → (Int → Int) → (Int → Int) → (Int → Int) → (Int → Int) → (Int → Int) → Int → Int → Nat → Int → Int → (Int → Int) → Int × Int × Int × (Int → Int) := jopq g_XM_writeP_L168
theorem f_XM_writeP_L168_q : f_XM_writeP_L168 = g_XM_writeP_L168 := jopq_eq _
theorem f_XM_writeP_L168_s (mth : Int) (mn : Int) (mp : Int) (mw : Int) (mu : Int) (md : Int) (mo : Int) (y1 : Int → Int) (y2 : Int → Int) (y3 : Int → Int) (y4 : Int → Int) (y5 : Int → Int) (y6 : Int → Int) (y7 : Int → Int) (y11 : Int → Int) (z1 : Int) (mth1' : Int) (n9 : Nat) (k3 : Int) (m7 : Int) (v7 : Int → Int) : f_XM_writeP_L168 mth mn mp mw mu md mo y1 y2 y3 y4 y5 y6 y7 y11 z1 mth1' (n9 + 1) k3 m7 v7 = (
    if k3 < 4 then
      if (y7 ((4 * z1) + k3)) < 0 then
        f_XM_writeP_L168 mth mn mp mw mu md mo y1 y2 y3 y4 y5 y6 y7 y11 z1 mth1' n9 (k3 + 1) m7 v7
      else
        match f_XM_tellP mth1' mn mp mw mu md m7 v7 113 k3 with
        | (mo1'10, y11n'11) =>
          match f_XM_tellP mth1' mn mp mw mu md mo1'10 y11n'11 60 (y7 ((4 * z1) + k3)) with
          | (mo1'16, y11n'17) =>
            f_XM_writeP_L168 mth mn mp mw mu md mo y1 y2 y3 y4 y5 y6 y7 y11 z1 mth1' n9 (k3 + 1) mo1'16 y11n'17
    else
      match f_XM_putP mth1' mn mp mw mu md m7 v7 59 with
      | (mo1'5, y11n'6) =>
        (mo1'5, mth1', mo1'5, y11n'6)
  : Int × Int × Int × (Int → Int)) := by rw [f_XM_writeP_L168_q]; rfl
noncomputable def g_XM_writeP_L132 (mth : Int) (mn : Int) (mp : Int) (mw : Int) (mu : Int) (md : Int) (mo : Int) (y1 : Int → Int) (y2 : Int → Int) (y3 : Int → Int) (y4 : Int → Int) (y5 : Int → Int) (y6 : Int → Int) (y7 : Int → Int) (y11 : Int → Int) (z1 : Int) (mth1' : Int) : Nat → Int → Int → (Int → Int) → Int × Int × Int × (Int → Int)
  | 0, _, _, _ => (0, 0, 0, fun _ => 0)
  | n9 + 1, k2, m5, v5 =>
    if k2 < 8 then
      if ((jI ((jI (y6 z1) >>> (jI k2 &&& 31)).toInt) &&& jI 1).toInt) = 1 then
        match f_XM_putP mth1' mn mp mw mu md m5 v5 (48 + k2) with
        | (mo1'24, y11n'25) =>
          g_XM_writeP_L132 mth mn mp mw mu md mo y1 y2 y3 y4 y5 y6 y7 y11 z1 mth1' n9 (k2 + 1) mo1'24 y11n'25
      else
        g_XM_writeP_L132 mth mn mp mw mu md mo y1 y2 y3 y4 y5 y6 y7 y11 z1 mth1' n9 (k2 + 1) m5 v5
    else
      f_XM_writeP_L168 mth mn mp mw mu md mo y1 y2 y3 y4 y5 y6 y7 y11 z1 mth1' (Int.toNat (4 - 0) + 1) 0 m5 v5
noncomputable def f_XM_writeP_L132 : Int → Int → Int → Int → Int → Int → Int → (Int → Int) → (Int → Int) → (Int → Int) → (Int → Int) → (Int → Int) → (Int → Int) → (Int → Int) → (Int → Int) → Int → Int → Nat → Int → Int → (Int → Int) → Int × Int × Int × (Int → Int) := jopq g_XM_writeP_L132
theorem f_XM_writeP_L132_q : f_XM_writeP_L132 = g_XM_writeP_L132 := jopq_eq _
theorem f_XM_writeP_L132_s (mth : Int) (mn : Int) (mp : Int) (mw : Int) (mu : Int) (md : Int) (mo : Int) (y1 : Int → Int) (y2 : Int → Int) (y3 : Int → Int) (y4 : Int → Int) (y5 : Int → Int) (y6 : Int → Int) (y7 : Int → Int) (y11 : Int → Int) (z1 : Int) (mth1' : Int) (n9 : Nat) (k2 : Int) (m5 : Int) (v5 : Int → Int) : f_XM_writeP_L132 mth mn mp mw mu md mo y1 y2 y3 y4 y5 y6 y7 y11 z1 mth1' (n9 + 1) k2 m5 v5 = (
    if k2 < 8 then
      if ((jI ((jI (y6 z1) >>> (jI k2 &&& 31)).toInt) &&& jI 1).toInt) = 1 then
        match f_XM_putP mth1' mn mp mw mu md m5 v5 (48 + k2) with
        | (mo1'24, y11n'25) =>
          f_XM_writeP_L132 mth mn mp mw mu md mo y1 y2 y3 y4 y5 y6 y7 y11 z1 mth1' n9 (k2 + 1) mo1'24 y11n'25
      else
        f_XM_writeP_L132 mth mn mp mw mu md mo y1 y2 y3 y4 y5 y6 y7 y11 z1 mth1' n9 (k2 + 1) m5 v5
    else
      f_XM_writeP_L168 mth mn mp mw mu md mo y1 y2 y3 y4 y5 y6 y7 y11 z1 mth1' (Int.toNat (4 - 0) + 1) 0 m5 v5
  : Int × Int × Int × (Int → Int)) := by rw [f_XM_writeP_L132_q]; rfl
noncomputable def g_XM_writeP_J130 (mth : Int) (mn : Int) (mp : Int) (mw : Int) (mu : Int) (md : Int) (mo : Int) (y1 : Int → Int) (y2 : Int → Int) (y3 : Int → Int) (y4 : Int → Int) (y5 : Int → Int) (y6 : Int → Int) (y7 : Int → Int) (y11 : Int → Int) (z1 : Int) (mth1' : Int) (m4 : Int) (v4 : Int → Int) : Int × Int × Int × (Int → Int) :=
  f_XM_writeP_L132 mth mn mp mw mu md mo y1 y2 y3 y4 y5 y6 y7 y11 z1 mth1' (Int.toNat (8 - 0) + 1) 0 m4 v4
noncomputable def f_XM_writeP_J130 : Int → Int → Int → Int → Int → Int → Int → (Int → Int) → (Int → Int) → (Int → Int) → (Int → Int) → (Int → Int) → (Int → Int) → (Int → Int) → (Int → Int) → Int → Int → Int → (Int → Int) → Int × Int × Int × (Int → Int) := jopq g_XM_writeP_J130
theorem f_XM_writeP_J130_q : f_XM_writeP_J130 = g_XM_writeP_J130 := jopq_eq _
theorem f_XM_writeP_J130_s (mth : Int) (mn : Int) (mp : Int) (mw : Int) (mu : Int) (md : Int) (mo : Int) (y1 : Int → Int) (y2 : Int → Int) (y3 : Int → Int) (y4 : Int → Int) (y5 : Int → Int) (y6 : Int → Int) (y7 : Int → Int) (y11 : Int → Int) (z1 : Int) (mth1' : Int) (m4 : Int) (v4 : Int → Int) : f_XM_writeP_J130 mth mn mp mw mu md mo y1 y2 y3 y4 y5 y6 y7 y11 z1 mth1' m4 v4 = (
    f_XM_writeP_L132 mth mn mp mw mu md mo y1 y2 y3 y4 y5 y6 y7 y11 z1 mth1' (Int.toNat (8 - 0) + 1) 0 m4 v4
  : Int × Int × Int × (Int → Int)) := by rw [f_XM_writeP_J130_q]; rfl
noncomputable def g_XM_writeP_L50 (mth : Int) (mn : Int) (mp : Int) (mw : Int) (mu : Int) (md : Int) (mo : Int) (y1 : Int → Int) (y2 : Int → Int) (y3 : Int → Int) (y4 : Int → Int) (y5 : Int → Int) (y6 : Int → Int) (y7 : Int → Int) (y11 : Int → Int) (z1 : Int) (mth1' : Int) : Nat → Int → Int → (Int → Int) → Int × Int × Int × (Int → Int)
  | 0, _, _, _ => (0, 0, 0, fun _ => 0)
  | n9 + 1, k, m2, v2 =>
    if k < 8 then
      if (y3 ((8 * z1) + k)) = 0 then
        g_XM_writeP_L50 mth mn mp mw mu md mo y1 y2 y3 y4 y5 y6 y7 y11 z1 mth1' n9 (k + 1) m2 v2
      else
        match f_XM_tellP mth1' mn mp mw mu md m2 v2 (65 + k) (y4 ((8 * z1) + k)) with
        | (mo1'37, y11n'38) =>
          match f_XM_tellP mth1' mn mp mw mu md mo1'37 y11n'38 45 (y5 ((8 * z1) + k)) with
          | (mo1'43, y11n'44) =>
            g_XM_writeP_L50 mth mn mp mw mu md mo y1 y2 y3 y4 y5 y6 y7 y11 z1 mth1' n9 (k + 1) mo1'43 y11n'44
    else
      if 0 < (y6 z1) then
        match f_XM_putP mth1' mn mp mw mu md m2 v2 114 with
        | (mo1'30, y11n'31) =>
          f_XM_writeP_J130 mth mn mp mw mu md mo y1 y2 y3 y4 y5 y6 y7 y11 z1 mth1' mo1'30 y11n'31
      else
        f_XM_writeP_J130 mth mn mp mw mu md mo y1 y2 y3 y4 y5 y6 y7 y11 z1 mth1' m2 v2
noncomputable def f_XM_writeP_L50 : Int → Int → Int → Int → Int → Int → Int → (Int → Int) → (Int → Int) → (Int → Int) → (Int → Int) → (Int → Int) → (Int → Int) → (Int → Int) → (Int → Int) → Int → Int → Nat → Int → Int → (Int → Int) → Int × Int × Int × (Int → Int) := jopq g_XM_writeP_L50
theorem f_XM_writeP_L50_q : f_XM_writeP_L50 = g_XM_writeP_L50 := jopq_eq _
theorem f_XM_writeP_L50_s (mth : Int) (mn : Int) (mp : Int) (mw : Int) (mu : Int) (md : Int) (mo : Int) (y1 : Int → Int) (y2 : Int → Int) (y3 : Int → Int) (y4 : Int → Int) (y5 : Int → Int) (y6 : Int → Int) (y7 : Int → Int) (y11 : Int → Int) (z1 : Int) (mth1' : Int) (n9 : Nat) (k : Int) (m2 : Int) (v2 : Int → Int) : f_XM_writeP_L50 mth mn mp mw mu md mo y1 y2 y3 y4 y5 y6 y7 y11 z1 mth1' (n9 + 1) k m2 v2 = (
    if k < 8 then
      if (y3 ((8 * z1) + k)) = 0 then
        f_XM_writeP_L50 mth mn mp mw mu md mo y1 y2 y3 y4 y5 y6 y7 y11 z1 mth1' n9 (k + 1) m2 v2
      else
        match f_XM_tellP mth1' mn mp mw mu md m2 v2 (65 + k) (y4 ((8 * z1) + k)) with
        | (mo1'37, y11n'38) =>
          match f_XM_tellP mth1' mn mp mw mu md mo1'37 y11n'38 45 (y5 ((8 * z1) + k)) with
          | (mo1'43, y11n'44) =>
            f_XM_writeP_L50 mth mn mp mw mu md mo y1 y2 y3 y4 y5 y6 y7 y11 z1 mth1' n9 (k + 1) mo1'43 y11n'44
    else
      if 0 < (y6 z1) then
        match f_XM_putP mth1' mn mp mw mu md m2 v2 114 with
        | (mo1'30, y11n'31) =>
          f_XM_writeP_J130 mth mn mp mw mu md mo y1 y2 y3 y4 y5 y6 y7 y11 z1 mth1' mo1'30 y11n'31
      else
        f_XM_writeP_J130 mth mn mp mw mu md mo y1 y2 y3 y4 y5 y6 y7 y11 z1 mth1' m2 v2
  : Int × Int × Int × (Int → Int)) := by rw [f_XM_writeP_L50_q]; rfl
noncomputable def g_XM_writeP_J48 (mth : Int) (mn : Int) (mp : Int) (mw : Int) (mu : Int) (md : Int) (mo : Int) (y1 : Int → Int) (y2 : Int → Int) (y3 : Int → Int) (y4 : Int → Int) (y5 : Int → Int) (y6 : Int → Int) (y7 : Int → Int) (y11 : Int → Int) (z1 : Int) (mth1' : Int) (m1 : Int) (v1 : Int → Int) : Int × Int × Int × (Int → Int) :=
  f_XM_writeP_L50 mth mn mp mw mu md mo y1 y2 y3 y4 y5 y6 y7 y11 z1 mth1' (Int.toNat (8 - 0) + 1) 0 m1 v1
noncomputable def f_XM_writeP_J48 : Int → Int → Int → Int → Int → Int → Int → (Int → Int) → (Int → Int) → (Int → Int) → (Int → Int) → (Int → Int) → (Int → Int) → (Int → Int) → (Int → Int) → Int → Int → Int → (Int → Int) → Int × Int × Int × (Int → Int) := jopq g_XM_writeP_J48
theorem f_XM_writeP_J48_q : f_XM_writeP_J48 = g_XM_writeP_J48 := jopq_eq _
theorem f_XM_writeP_J48_s (mth : Int) (mn : Int) (mp : Int) (mw : Int) (mu : Int) (md : Int) (mo : Int) (y1 : Int → Int) (y2 : Int → Int) (y3 : Int → Int) (y4 : Int → Int) (y5 : Int → Int) (y6 : Int → Int) (y7 : Int → Int) (y11 : Int → Int) (z1 : Int) (mth1' : Int) (m1 : Int) (v1 : Int → Int) : f_XM_writeP_J48 mth mn mp mw mu md mo y1 y2 y3 y4 y5 y6 y7 y11 z1 mth1' m1 v1 = (
    f_XM_writeP_L50 mth mn mp mw mu md mo y1 y2 y3 y4 y5 y6 y7 y11 z1 mth1' (Int.toNat (8 - 0) + 1) 0 m1 v1
  : Int × Int × Int × (Int → Int)) := by rw [f_XM_writeP_J48_q]; rfl
noncomputable def g_XM_writeP (mth : Int) (mn : Int) (mp : Int) (mw : Int) (mu : Int) (md : Int) (mo : Int) (y1 : Int → Int) (y2 : Int → Int) (y3 : Int → Int) (y4 : Int → Int) (y5 : Int → Int) (y6 : Int → Int) (y7 : Int → Int) (y11 : Int → Int) (z1 : Int) : Int × Int × Int × (Int → Int) :=
  match f_XM_goesP mth mn mp mw mu md mo (f_XM_isTold mth mn mp mw mu md mo y1 z1) 1 with
  | (r, mth1') =>
    if r = 0 then
      (0, mth1', mo, y11)
    else
      match f_XM_tellP mth1' mn mp mw mu md 0 y11 103 z1 with
      | (mo1', y11n') =>
        if 0 < (y2 z1) then
          match f_XM_tellP mth1' mn mp mw mu md mo1' y11n' 60 (y2 z1) with
          | (mo1'50, y11n'51) =>
            f_XM_writeP_J48 mth mn mp mw mu md mo y1 y2 y3 y4 y5 y6 y7 y11 z1 mth1' mo1'50 y11n'51
        else
          f_XM_writeP_J48 mth mn mp mw mu md mo y1 y2 y3 y4 y5 y6 y7 y11 z1 mth1' mo1' y11n'
noncomputable def f_XM_writeP : Int → Int → Int → Int → Int → Int → Int → (Int → Int) → (Int → Int) → (Int → Int) → (Int → Int) → (Int → Int) → (Int → Int) → (Int → Int) → (Int → Int) → Int → Int × Int × Int × (Int → Int) := jopq g_XM_writeP
theorem f_XM_writeP_q : f_XM_writeP = g_XM_writeP := jopq_eq _
theorem f_XM_writeP_s (mth : Int) (mn : Int) (mp : Int) (mw : Int) (mu : Int) (md : Int) (mo : Int) (y1 : Int → Int) (y2 : Int → Int) (y3 : Int → Int) (y4 : Int → Int) (y5 : Int → Int) (y6 : Int → Int) (y7 : Int → Int) (y11 : Int → Int) (z1 : Int) : f_XM_writeP mth mn mp mw mu md mo y1 y2 y3 y4 y5 y6 y7 y11 z1 = (
    match f_XM_goesP mth mn mp mw mu md mo (f_XM_isTold mth mn mp mw mu md mo y1 z1) 1 with
    | (r, mth1') =>
      if r = 0 then
        (0, mth1', mo, y11)
      else
        match f_XM_tellP mth1' mn mp mw mu md 0 y11 103 z1 with
        | (mo1', y11n') =>
          if 0 < (y2 z1) then
            match f_XM_tellP mth1' mn mp mw mu md mo1' y11n' 60 (y2 z1) with
            | (mo1'50, y11n'51) =>
              f_XM_writeP_J48 mth mn mp mw mu md mo y1 y2 y3 y4 y5 y6 y7 y11 z1 mth1' mo1'50 y11n'51
          else
            f_XM_writeP_J48 mth mn mp mw mu md mo y1 y2 y3 y4 y5 y6 y7 y11 z1 mth1' mo1' y11n'
  : Int × Int × Int × (Int → Int)) := by rw [f_XM_writeP_q]; rfl
set_option maxHeartbeats 4000000 in
set_option maxRecDepth 100000 in
theorem c_XM_writeP (l : Launch) (dC : Nat → ClassId) (dI : Nat → Nat → Nat) (cA cZ : ClassId) (sz : Nat) (ma : Nat) (a0 : Nat) (a1 : Nat) (a2 : Nat) (a3 : Nat) (a4 : Nat) (a5 : Nat) (a6 : Nat) (a7 : Nat) (a8 : Nat) (a9 : Nat) (a10 : Nat) (a11 : Nat) (mth : Int) (mn : Int) (mp : Int) (mw : Int) (mu : Int) (md : Int) (mo : Int) (y1 : Int → Int) (y2 : Int → Int) (y3 : Int → Int) (y4 : Int → Int) (y5 : Int → Int) (y6 : Int → Int) (y7 : Int → Int) (y11 : Int → Int) (z1 : Int) (hy1 : ∀ i, 0 ≤ y1 i ∧ y1 i ≤ 1) (hy2 : ∀ i, 0 ≤ y2 i ∧ y2 i ≤ 30) (hy3 : ∀ i, 0 ≤ y3 i ∧ y3 i ≤ 1) (hy4 : ∀ i, 0 ≤ y4 i ∧ y4 i ≤ 100000) (hy5 : ∀ i, 0 ≤ y5 i ∧ y5 i ≤ 100000) (hy6 : ∀ i, -2147483648 ≤ y6 i ∧ y6 i ≤ 2147483647) (hy7 : ∀ i, -1 ≤ y7 i ∧ y7 i ≤ 999999) (hmo : 0 ≤ mo ∧ mo ≤ 300) (hiz1 : i32 z1) : Met l yXM_write (Cond.code yXM_write cXM_write 3 (some .int) :: TBL) ({ frames := 2, cells := 0, slots := 0, locals := 44 } : Room) (va_Pc [.ref ma, .int (jI z1)] (jBw (dC, dI) [(cA, .int), (cZ, .boolean)] [(ma, .inr (5, [.int (jI mth), .int (jI mn), .ref a0, .int (jI mp), .int (jI mw), .ref a1, .ref a2, .ref a3, .ref a4, .ref a5, .ref a6, .ref a7, .ref a8, .ref a9, .ref a10, .long (jL mu), .long (jL md), .int (jI mo), .ref a11])), (a1, .inl (cZ, 62, .inl (jA y1))), (a2, .inl (cA, 62, .inl (jA y2))), (a3, .inl (cZ, 496, .inl (jA y3))), (a4, .inl (cA, 496, .inl (jA y4))), (a5, .inl (cA, 496, .inl (jA y5))), (a6, .inl (cA, 62, .inl (jA y6))), (a7, .inl (cA, 248, .inl (jA y7))), (a11, .inl (cA, 300, .inl (jA y11)))] sz)) (va_Qi (fun (r : Int32) (u : Int × Int × Int × (Int → Int)) => r = jI u.1 ∧ u = f_XM_writeP mth mn mp mw mu md mo y1 y2 y3 y4 y5 y6 y7 y11 z1 ∧ (0 ≤ u.2.1 ∧ u.2.1 ≤ 2) ∧ (0 ≤ u.2.2.1 ∧ u.2.2.1 ≤ 300) ∧ (-1 ≤ u.1 ∧ u.1 ≤ 300)) (fun u t => jE (dC, dI) [(cA, .int), (cZ, .boolean)] [(ma, .inr (5, [.int (jI mth), .int (jI mn), .ref a0, .int (jI mp), .int (jI mw), .ref a1, .ref a2, .ref a3, .ref a4, .ref a5, .ref a6, .ref a7, .ref a8, .ref a9, .ref a10, .long (jL mu), .long (jL md), .int (jI mo), .ref a11])), (a1, .inl (cZ, 62, .inl (jA y1))), (a2, .inl (cA, 62, .inl (jA y2))), (a3, .inl (cZ, 496, .inl (jA y3))), (a4, .inl (cA, 496, .inl (jA y4))), (a5, .inl (cA, 496, .inl (jA y5))), (a6, .inl (cA, 62, .inl (jA y6))), (a7, .inl (cA, 248, .inl (jA y7))), (a11, .inl (cA, 300, .inl (jA y11)))] sz [(ma, .inr (5, [.int (jI u.2.1), .int (jI mn), .ref a0, .int (jI mp), .int (jI mw), .ref a1, .ref a2, .ref a3, .ref a4, .ref a5, .ref a6, .ref a7, .ref a8, .ref a9, .ref a10, .long (jL mu), .long (jL md), .int (jI u.2.2.1), .ref a11])), (a1, .inl (cZ, 62, .inl (jA y1))), (a2, .inl (cA, 62, .inl (jA y2))), (a3, .inl (cZ, 496, .inl (jA y3))), (a4, .inl (cA, 496, .inl (jA y4))), (a5, .inl (cA, 496, .inl (jA y5))), (a6, .inl (cA, 62, .inl (jA y6))), (a7, .inl (cA, 248, .inl (jA y7))), (a11, .inl (cA, 300, .inl (jA u.2.2.2)))] t) (va_A [(ma, .inr (5, [.int (jI mth), .int (jI mn), .ref a0, .int (jI mp), .int (jI mw), .ref a1, .ref a2, .ref a3, .ref a4, .ref a5, .ref a6, .ref a7, .ref a8, .ref a9, .ref a10, .long (jL mu), .long (jL md), .int (jI mo), .ref a11])), (a1, .inl (cZ, 62, .inl (jA y1))), (a2, .inl (cA, 62, .inl (jA y2))), (a3, .inl (cZ, 496, .inl (jA y3))), (a4, .inl (cA, 496, .inl (jA y4))), (a5, .inl (cA, 496, .inl (jA y5))), (a6, .inl (cA, 62, .inl (jA y6))), (a7, .inl (cA, 248, .inl (jA y7))), (a11, .inl (cA, 300, .inl (jA y11)))] sz)) 0 0 (va_A [(ma, .inr (5, [.int (jI mth), .int (jI mn), .ref a0, .int (jI mp), .int (jI mw), .ref a1, .ref a2, .ref a3, .ref a4, .ref a5, .ref a6, .ref a7, .ref a8, .ref a9, .ref a10, .long (jL mu), .long (jL md), .int (jI mo), .ref a11])), (a1, .inl (cZ, 62, .inl (jA y1))), (a2, .inl (cA, 62, .inl (jA y2))), (a3, .inl (cZ, 496, .inl (jA y3))), (a4, .inl (cA, 496, .inl (jA y4))), (a5, .inl (cA, 496, .inl (jA y5))), (a6, .inl (cA, 62, .inl (jA y6))), (a7, .inl (cA, 248, .inl (jA y7))), (a11, .inl (cA, 300, .inl (jA y11)))] sz) := by
  refine jMet (cc := cXM_write) (maxL := 3) (ret := some .int) (by decide) rfl ?_
  intro p e s m args below meth c s₁ R Q hR hQ B hml hv
  obtain ⟨rfl, hsz, hP, hK, hD0, hN⟩ := hv
  have hx := B.exec
  have hb := B.bytes
  have hr := B.returns
  have hts := atoms_spec (ws := Cond.code yXM_write cXM_write 3 (some .int) :: TBL) B.pre
  have hown : s.vm.findClass RXM = some m.cls := findClass_of_methodNamed B.named
  have hlocks := B.notSynchronized
  subst hsz
  obtain ⟨A, hAe⟩ : ∃ A, A = va_A [(ma, .inr (5, [.int (jI mth), .int (jI mn), .ref a0, .int (jI mp), .int (jI mw), .ref a1, .ref a2, .ref a3, .ref a4, .ref a5, .ref a6, .ref a7, .ref a8, .ref a9, .ref a10, .long (jL mu), .long (jL md), .int (jI mo), .ref a11])), (a1, .inl (cZ, 62, .inl (jA y1))), (a2, .inl (cA, 62, .inl (jA y2))), (a3, .inl (cZ, 496, .inl (jA y3))), (a4, .inl (cA, 496, .inl (jA y4))), (a5, .inl (cA, 496, .inl (jA y5))), (a6, .inl (cA, 62, .inl (jA y6))), (a7, .inl (cA, 248, .inl (jA y7))), (a11, .inl (cA, 300, .inl (jA y11)))] s.heap.size := ⟨_, rfl⟩
  have hD : va_D A [(ma, .inr (5, [.int (jI mth), .int (jI mn), .ref a0, .int (jI mp), .int (jI mw), .ref a1, .ref a2, .ref a3, .ref a4, .ref a5, .ref a6, .ref a7, .ref a8, .ref a9, .ref a10, .long (jL mu), .long (jL md), .int (jI mo), .ref a11])), (a1, .inl (cZ, 62, .inl (jA y1))), (a2, .inl (cA, 62, .inl (jA y2))), (a3, .inl (cZ, 496, .inl (jA y3))), (a4, .inl (cA, 496, .inl (jA y4))), (a5, .inl (cA, 496, .inl (jA y5))), (a6, .inl (cA, 62, .inl (jA y6))), (a7, .inl (cA, 248, .inl (jA y7))), (a11, .inl (cA, 300, .inl (jA y11)))] := by rw [hAe]; exact hD0.self
  have hA : ∀ q : Nat, s.heap.size ≤ q → A q := fun q h => by rw [hAe]; exact Or.inr h
  have hS : va_S A s.heap s.heap [] := va_S.rf
  have hP : va_P (dC, dI) vwCl [(ma, .inr (5, [.int (jI mth), .int (jI mn), .ref a0, .int (jI mp), .int (jI mw), .ref a1, .ref a2, .ref a3, .ref a4, .ref a5, .ref a6, .ref a7, .ref a8, .ref a9, .ref a10, .long (jL mu), .long (jL md), .int (jI mo), .ref a11])), (a1, .inl (cZ, 62, .inl (jA y1))), (a2, .inl (cA, 62, .inl (jA y2))), (a3, .inl (cZ, 496, .inl (jA y3))), (a4, .inl (cA, 496, .inl (jA y4))), (a5, .inl (cA, 496, .inl (jA y5))), (a6, .inl (cA, 62, .inl (jA y6))), (a7, .inl (cA, 248, .inl (jA y7))), (a11, .inl (cA, 300, .inl (jA y11)))] s.heap := hP
  have hl := lv_entry ([.ref ma, .int (jI z1)]) (n := 3) (Nat.le_of_ble_eq_true rfl)
  rw [lg_entry_eq]
  generalize (lg_sl ([.ref ma, .int (jI z1)]) ++ List.replicate (3 - (lg_sl ([.ref ma, .int (jI z1)])).length) Slot.unset).toArray = ls at hl ⊢
  have hl : lv_has ls 3 [(0, .ref ma), (1, .int (jI z1))] := hl
  refine lv_aload_n hx hb dXM_write_0 rfl (lv_at hl 0 rfl) ?_
  refine lv_aload_n hx hb dXM_write_1 rfl (lv_at hl 0 rfl) ?_
  refine lv_iload_n hx hb dXM_write_2 rfl (lv_at hl 1 rfl) ?_
  refine jrVi (rest := [.ref ma]) ⟨hx, hb, hml, hown, hts⟩ (c_XM_isTold l dC dI cA cZ ma a0 a1 a2 a3 a4 a5 a6 a7 a8 a9 a10 a11 mth mn mp mw mu md mo y1 z1 (by first | assumption | omega) (by first | assumption | omega)) (cwV 1 hts (jG_V tw_768 tw_770 ts_29 tw_6 tw_771) rfl rfl rfl (by decide +kernel) (by rw [hR]; exact ⟨Nat.le_of_ble_eq_true rfl, Nat.le_of_ble_eq_true rfl⟩)) hK hP hN [0, 1] rfl 0 5 rfl rfl rfl rfl hl.1 rfl (Nat.le_of_ble_eq_true rfl) dXM_write_3 (by rw [hR]; exact ⟨Nat.le_of_ble_eq_true rfl, Nat.le_of_ble_eq_true rfl⟩) ?_
  have f := f_XM_isTold_b mth mn mp mw mu md mo y1 z1 (by first | assumption | omega) (by first | assumption | omega)
  refine ji_iconst hx hb dXM_write_6 ?_
  refine jwVi (rest := []) (wr := [(a1, .inl (cZ, 62, .inl (jA y1))), (a2, .inl (cA, 62, .inl (jA y2))), (a3, .inl (cZ, 496, .inl (jA y3))), (a4, .inl (cA, 496, .inl (jA y4))), (a5, .inl (cA, 496, .inl (jA y5))), (a6, .inl (cA, 62, .inl (jA y6))), (a7, .inl (cA, 248, .inl (jA y7))), (a11, .inl (cA, 300, .inl (jA y11)))]) ⟨hx, hb, hml, hown, hts⟩ (c_XM_goesP l dC dI cA cZ _ ma a0 a1 a2 a3 a4 a5 a6 a7 a8 a9 a10 a11 mth mn mp mw mu md mo (f_XM_isTold mth mn mp mw mu md mo y1 z1) 1 (by first | assumption | omega) (by first | assumption | omega)) (cwV 2 hts (jG_V tw_698 tw_700 ts_14 tw_6 tw_701) rfl rfl rfl (by decide +kernel) (by rw [hR]; exact ⟨Nat.le_of_ble_eq_true rfl, Nat.le_of_ble_eq_true rfl⟩)) hK hP hD hS hA hN [0] [1, 2, 3, 4, 5, 6, 7, 8] rfl rfl (by decide) (by decide) (by decide) 0 5 rfl rfl rfl rfl hl.1 rfl (Nat.le_of_ble_eq_true rfl) dXM_write_7 (by rw [hR]; exact ⟨Nat.le_of_ble_eq_true rfl, Nat.le_of_ble_eq_true rfl⟩) (fun v u H locs hwb hP hD hS => ?_)
  obtain ⟨r, mth1'⟩ := u
  try dsimp only at hwb
  obtain ⟨er, hwb, f1⟩ := hwb
  subst er
  have f1 : (r = 0 ∧ mth1' = 1 ∧ (f_XM_isTold mth mn mp mw mu md mo y1 z1) = 0) ∨ (r = 0 ∧ mth1' = 2 ∧ (f_XM_isTold mth mn mp mw mu md mo y1 z1) = 1 ∧ (1 : Int) = 0) ∨ (r = 1 ∧ mth1' = 0 ∧ (f_XM_isTold mth mn mp mw mu md mo y1 z1) = 1 ∧ (1 : Int) = 1) := f1
  have hP : va_P (dC, dI) vwCl [(a1, .inl (cZ, 62, .inl (jA y1))), (a2, .inl (cA, 62, .inl (jA y2))), (a3, .inl (cZ, 496, .inl (jA y3))), (a4, .inl (cA, 496, .inl (jA y4))), (a5, .inl (cA, 496, .inl (jA y5))), (a6, .inl (cA, 62, .inl (jA y6))), (a7, .inl (cA, 248, .inl (jA y7))), (a11, .inl (cA, 300, .inl (jA y11))), (ma, .inr (5, [.int (jI mth1'), .int (jI mn), .ref a0, .int (jI mp), .int (jI mw), .ref a1, .ref a2, .ref a3, .ref a4, .ref a5, .ref a6, .ref a7, .ref a8, .ref a9, .ref a10, .long (jL mu), .long (jL md), .int (jI mo), .ref a11]))] H := hP
  have hD : va_D A [(a1, .inl (cZ, 62, .inl (jA y1))), (a2, .inl (cA, 62, .inl (jA y2))), (a3, .inl (cZ, 496, .inl (jA y3))), (a4, .inl (cA, 496, .inl (jA y4))), (a5, .inl (cA, 496, .inl (jA y5))), (a6, .inl (cA, 62, .inl (jA y6))), (a7, .inl (cA, 248, .inl (jA y7))), (a11, .inl (cA, 300, .inl (jA y11))), (ma, .inr (5, [.int (jI mth1'), .int (jI mn), .ref a0, .int (jI mp), .int (jI mw), .ref a1, .ref a2, .ref a3, .ref a4, .ref a5, .ref a6, .ref a7, .ref a8, .ref a9, .ref a10, .long (jL mu), .long (jL md), .int (jI mo), .ref a11]))] := hD
  refine ji_if_ne (tgt := 15) hx hb dXM_write_10 (by decide) (by omega) (fun c10_ => ?_) (fun c10_ => ?_)
  · refine lv_aload_n hx hb dXM_write_15 rfl (lv_at hl 0 rfl) ?_
    refine ji_iconst hx hb dXM_write_16 ?_
    refine va_put (D := (dC, dI)) (ci := 5) (v := .int (jI 0)) (ty := (.int)) (C := RXM) (T := TXM) (N := 19) hx hb hts (fun w h => jmem (inXM w h)) tyXM tyXM_ok nXM hown hK hP hD hS 8 rfl rfl 17 (by decide) (hts _ (jmem tw_645)) (fun _ h9 => h9) rfl (by decide +kernel) rfl rfl (Nat.le_of_ble_eq_true rfl) dXM_write_17 (fun H locs hP hD hS => ?_)
    have hP : va_P (dC, dI) vwCl [(a1, .inl (cZ, 62, .inl (jA y1))), (a2, .inl (cA, 62, .inl (jA y2))), (a3, .inl (cZ, 496, .inl (jA y3))), (a4, .inl (cA, 496, .inl (jA y4))), (a5, .inl (cA, 496, .inl (jA y5))), (a6, .inl (cA, 62, .inl (jA y6))), (a7, .inl (cA, 248, .inl (jA y7))), (a11, .inl (cA, 300, .inl (jA y11))), (ma, .inr (5, [.int (jI mth1'), .int (jI mn), .ref a0, .int (jI mp), .int (jI mw), .ref a1, .ref a2, .ref a3, .ref a4, .ref a5, .ref a6, .ref a7, .ref a8, .ref a9, .ref a10, .long (jL mu), .long (jL md), .int (jI 0), .ref a11]))] H := hP
    have hD : va_D A [(a1, .inl (cZ, 62, .inl (jA y1))), (a2, .inl (cA, 62, .inl (jA y2))), (a3, .inl (cZ, 496, .inl (jA y3))), (a4, .inl (cA, 496, .inl (jA y4))), (a5, .inl (cA, 496, .inl (jA y5))), (a6, .inl (cA, 62, .inl (jA y6))), (a7, .inl (cA, 248, .inl (jA y7))), (a11, .inl (cA, 300, .inl (jA y11))), (ma, .inr (5, [.int (jI mth1'), .int (jI mn), .ref a0, .int (jI mp), .int (jI mw), .ref a1, .ref a2, .ref a3, .ref a4, .ref a5, .ref a6, .ref a7, .ref a8, .ref a9, .ref a10, .long (jL mu), .long (jL md), .int (jI 0), .ref a11]))] := hD
    refine lv_aload_n hx hb dXM_write_20 rfl (lv_at hl 0 rfl) ?_
    refine ji_bipush hx hb dXM_write_21 (by decide) ?_
    refine lv_iload_n hx hb dXM_write_23 rfl (lv_at hl 1 rfl) ?_
    refine jwVv (rest := []) (wr := [(a1, .inl (cZ, 62, .inl (jA y1))), (a2, .inl (cA, 62, .inl (jA y2))), (a3, .inl (cZ, 496, .inl (jA y3))), (a4, .inl (cA, 496, .inl (jA y4))), (a5, .inl (cA, 496, .inl (jA y5))), (a6, .inl (cA, 62, .inl (jA y6))), (a7, .inl (cA, 248, .inl (jA y7)))]) ⟨hx, hb, hml, hown, hts⟩ (c_XM_tellP l dC dI cA cZ _ ma a0 a1 a2 a3 a4 a5 a6 a7 a8 a9 a10 a11 mth1' mn mp mw mu md 0 y11 103 z1 (by first | assumption | omega) (by first | assumption | omega)) (cwV 2 hts (jG_V tw_850 tw_852 ts_38 tw_6 tw_853) rfl rfl rfl (by decide +kernel) (by rw [hR]; exact ⟨Nat.le_of_ble_eq_true rfl, Nat.le_of_ble_eq_true rfl⟩)) hK hP hD hS hA hN [8, 7] [0, 1, 2, 3, 4, 5, 6] rfl rfl (by decide) (by decide) (by decide) 8 5 rfl rfl rfl rfl hl.1 rfl (Nat.le_of_ble_eq_true rfl) dXM_write_24 (by rw [hR]; exact ⟨Nat.le_of_ble_eq_true rfl, Nat.le_of_ble_eq_true rfl⟩) (fun u2 H locs hwb3 hP hD hS => ?_)
    obtain ⟨mo1', y11n'⟩ := u2
    try dsimp only at hwb3
    obtain ⟨hwb3, f4⟩ := hwb3
    have f4 : (0 : Int) ≤ mo1' ∧ mo1' ≤ (0 : Int) + 7 := f4
    have hP : va_P (dC, dI) vwCl [(a1, .inl (cZ, 62, .inl (jA y1))), (a2, .inl (cA, 62, .inl (jA y2))), (a3, .inl (cZ, 496, .inl (jA y3))), (a4, .inl (cA, 496, .inl (jA y4))), (a5, .inl (cA, 496, .inl (jA y5))), (a6, .inl (cA, 62, .inl (jA y6))), (a7, .inl (cA, 248, .inl (jA y7))), (ma, .inr (5, [.int (jI mth1'), .int (jI mn), .ref a0, .int (jI mp), .int (jI mw), .ref a1, .ref a2, .ref a3, .ref a4, .ref a5, .ref a6, .ref a7, .ref a8, .ref a9, .ref a10, .long (jL mu), .long (jL md), .int (jI mo1'), .ref a11])), (a11, .inl (cA, 300, .inl (jA y11n')))] H := hP
    have hD : va_D A [(a1, .inl (cZ, 62, .inl (jA y1))), (a2, .inl (cA, 62, .inl (jA y2))), (a3, .inl (cZ, 496, .inl (jA y3))), (a4, .inl (cA, 496, .inl (jA y4))), (a5, .inl (cA, 496, .inl (jA y5))), (a6, .inl (cA, 62, .inl (jA y6))), (a7, .inl (cA, 248, .inl (jA y7))), (ma, .inr (5, [.int (jI mth1'), .int (jI mn), .ref a0, .int (jI mp), .int (jI mw), .ref a1, .ref a2, .ref a3, .ref a4, .ref a5, .ref a6, .ref a7, .ref a8, .ref a9, .ref a10, .long (jL mu), .long (jL md), .int (jI mo1'), .ref a11])), (a11, .inl (cA, 300, .inl (jA y11n')))] := hD
    have join48 : ∀ (m1 : Int) (v1 : Int → Int) , f_XM_writeP_J48 mth mn mp mw mu md mo y1 y2 y3 y4 y5 y6 y7 y11 z1 mth1' m1 v1 = f_XM_writeP mth mn mp mw mu md mo y1 y2 y3 y4 y5 y6 y7 y11 z1 → (0 ≤ m1 ∧ m1 ≤ 14) → ∀ (H : Heap) (locs : List Loc), va_P (dC, dI) vwCl [(a1, .inl (cZ, 62, .inl (jA y1))), (a2, .inl (cA, 62, .inl (jA y2))), (a3, .inl (cZ, 496, .inl (jA y3))), (a4, .inl (cA, 496, .inl (jA y4))), (a5, .inl (cA, 496, .inl (jA y5))), (a6, .inl (cA, 62, .inl (jA y6))), (a7, .inl (cA, 248, .inl (jA y7))), (ma, .inr (5, [.int (jI mth1'), .int (jI mn), .ref a0, .int (jI mp), .int (jI mw), .ref a1, .ref a2, .ref a3, .ref a4, .ref a5, .ref a6, .ref a7, .ref a8, .ref a9, .ref a10, .long (jL mu), .long (jL md), .int (jI m1), .ref a11])), (a11, .inl (cA, 300, .inl (jA v1)))] H → va_D A [(a1, .inl (cZ, 62, .inl (jA y1))), (a2, .inl (cA, 62, .inl (jA y2))), (a3, .inl (cZ, 496, .inl (jA y3))), (a4, .inl (cA, 496, .inl (jA y4))), (a5, .inl (cA, 496, .inl (jA y5))), (a6, .inl (cA, 62, .inl (jA y6))), (a7, .inl (cA, 248, .inl (jA y7))), (ma, .inr (5, [.int (jI mth1'), .int (jI mn), .ref a0, .int (jI mp), .int (jI mw), .ref a1, .ref a2, .ref a3, .ref a4, .ref a5, .ref a6, .ref a7, .ref a8, .ref a9, .ref a10, .long (jL mu), .long (jL md), .int (jI m1), .ref a11])), (a11, .inl (cA, 300, .inl (jA v1)))] → va_S A s.heap H locs → ∀ ls : Array Slot, lv_has ls 3 [(0, .ref ma), (1, .int (jI z1))] → W p l e R s m ([.ref ma, .int (jI z1)] : List Value).toArray below meth c H locs 0 0 Q (F0 m 48 ls []) := by
      intro m1 v1 hF hm1 H locs hP hD hS ls hl
      refine ji_iconst hx hb dXM_write_48 ?_
      refine lv_istore_n (lv' := [(2, .int (jI 0)), (0, .ref ma), (1, .int (jI z1))]) hx hb dXM_write_49 rfl hl (by decide) rfl (fun ls hl => ?_)
      have loop50 : ∀ (n9 : Nat) (k : Int) (m2 : Int) (v2 : Int → Int) , 8 - k < (n9 : Int) → f_XM_writeP_L50 mth mn mp mw mu md mo y1 y2 y3 y4 y5 y6 y7 y11 z1 mth1' n9 k m2 v2 = f_XM_writeP mth mn mp mw mu md mo y1 y2 y3 y4 y5 y6 y7 y11 z1 → (0 ≤ k ∧ k ≤ 8) → (0 ≤ m2 ∧ m2 ≤ 14 + 14 * k) → ∀ (H : Heap) (locs : List Loc), va_P (dC, dI) vwCl [(a1, .inl (cZ, 62, .inl (jA y1))), (a2, .inl (cA, 62, .inl (jA y2))), (a3, .inl (cZ, 496, .inl (jA y3))), (a4, .inl (cA, 496, .inl (jA y4))), (a5, .inl (cA, 496, .inl (jA y5))), (a6, .inl (cA, 62, .inl (jA y6))), (a7, .inl (cA, 248, .inl (jA y7))), (ma, .inr (5, [.int (jI mth1'), .int (jI mn), .ref a0, .int (jI mp), .int (jI mw), .ref a1, .ref a2, .ref a3, .ref a4, .ref a5, .ref a6, .ref a7, .ref a8, .ref a9, .ref a10, .long (jL mu), .long (jL md), .int (jI m2), .ref a11])), (a11, .inl (cA, 300, .inl (jA v2)))] H → va_D A [(a1, .inl (cZ, 62, .inl (jA y1))), (a2, .inl (cA, 62, .inl (jA y2))), (a3, .inl (cZ, 496, .inl (jA y3))), (a4, .inl (cA, 496, .inl (jA y4))), (a5, .inl (cA, 496, .inl (jA y5))), (a6, .inl (cA, 62, .inl (jA y6))), (a7, .inl (cA, 248, .inl (jA y7))), (ma, .inr (5, [.int (jI mth1'), .int (jI mn), .ref a0, .int (jI mp), .int (jI mw), .ref a1, .ref a2, .ref a3, .ref a4, .ref a5, .ref a6, .ref a7, .ref a8, .ref a9, .ref a10, .long (jL mu), .long (jL md), .int (jI m2), .ref a11])), (a11, .inl (cA, 300, .inl (jA v2)))] → va_S A s.heap H locs → ∀ ls : Array Slot, lv_has ls 3 [(2, .int (jI k)), (0, .ref ma), (1, .int (jI z1))] → W p l e R s m ([.ref ma, .int (jI z1)] : List Value).toArray below meth c H locs 0 0 Q (F0 m 50 ls []) := by
        intro n9
        induction n9 with
        | zero =>
          intro k m2 v2 hm hF hk hm2
          exact absurd hm (by omega)
        | succ n9 ih50 =>
          intro k m2 v2 hm hF hk hm2 H locs hP hD hS ls hl
          refine lv_iload_n hx hb dXM_write_50 rfl (lv_at hl 0 rfl) ?_
          refine ji_bipush hx hb dXM_write_51 (by decide) ?_
          refine ji_icmp_ge (tgt := 115) hx hb dXM_write_53 (by decide) (by omega) (by omega) (fun c53_ => ?_) (fun c53_ => ?_)
          · have join130 : ∀ (m4 : Int) (v4 : Int → Int) , f_XM_writeP_J130 mth mn mp mw mu md mo y1 y2 y3 y4 y5 y6 y7 y11 z1 mth1' m4 v4 = f_XM_writeP mth mn mp mw mu md mo y1 y2 y3 y4 y5 y6 y7 y11 z1 → (0 ≤ m4 ∧ m4 ≤ 127) → ∀ (H : Heap) (locs : List Loc), va_P (dC, dI) vwCl [(a1, .inl (cZ, 62, .inl (jA y1))), (a2, .inl (cA, 62, .inl (jA y2))), (a3, .inl (cZ, 496, .inl (jA y3))), (a4, .inl (cA, 496, .inl (jA y4))), (a5, .inl (cA, 496, .inl (jA y5))), (a6, .inl (cA, 62, .inl (jA y6))), (a7, .inl (cA, 248, .inl (jA y7))), (ma, .inr (5, [.int (jI mth1'), .int (jI mn), .ref a0, .int (jI mp), .int (jI mw), .ref a1, .ref a2, .ref a3, .ref a4, .ref a5, .ref a6, .ref a7, .ref a8, .ref a9, .ref a10, .long (jL mu), .long (jL md), .int (jI m4), .ref a11])), (a11, .inl (cA, 300, .inl (jA v4)))] H → va_D A [(a1, .inl (cZ, 62, .inl (jA y1))), (a2, .inl (cA, 62, .inl (jA y2))), (a3, .inl (cZ, 496, .inl (jA y3))), (a4, .inl (cA, 496, .inl (jA y4))), (a5, .inl (cA, 496, .inl (jA y5))), (a6, .inl (cA, 62, .inl (jA y6))), (a7, .inl (cA, 248, .inl (jA y7))), (ma, .inr (5, [.int (jI mth1'), .int (jI mn), .ref a0, .int (jI mp), .int (jI mw), .ref a1, .ref a2, .ref a3, .ref a4, .ref a5, .ref a6, .ref a7, .ref a8, .ref a9, .ref a10, .long (jL mu), .long (jL md), .int (jI m4), .ref a11])), (a11, .inl (cA, 300, .inl (jA v4)))] → va_S A s.heap H locs → ∀ ls : Array Slot, lv_has ls 3 [(2, .int (jI k)), (0, .ref ma), (1, .int (jI z1))] → W p l e R s m ([.ref ma, .int (jI z1)] : List Value).toArray below meth c H locs 0 0 Q (F0 m 130 ls []) := by
              intro m4 v4 hF hm4 H locs hP hD hS ls hl
              refine ji_iconst hx hb dXM_write_130 ?_
              refine lv_istore_n (lv' := [(2, .int (jI 0)), (0, .ref ma), (1, .int (jI z1))]) hx hb dXM_write_131 rfl hl (by decide) rfl (fun ls hl => ?_)
              have loop132 : ∀ (n9 : Nat) (k2 : Int) (m5 : Int) (v5 : Int → Int) , 8 - k2 < (n9 : Int) → f_XM_writeP_L132 mth mn mp mw mu md mo y1 y2 y3 y4 y5 y6 y7 y11 z1 mth1' n9 k2 m5 v5 = f_XM_writeP mth mn mp mw mu md mo y1 y2 y3 y4 y5 y6 y7 y11 z1 → (0 ≤ k2 ∧ k2 ≤ 8) → (0 ≤ m5 ∧ m5 ≤ 127 + k2) → ∀ (H : Heap) (locs : List Loc), va_P (dC, dI) vwCl [(a1, .inl (cZ, 62, .inl (jA y1))), (a2, .inl (cA, 62, .inl (jA y2))), (a3, .inl (cZ, 496, .inl (jA y3))), (a4, .inl (cA, 496, .inl (jA y4))), (a5, .inl (cA, 496, .inl (jA y5))), (a6, .inl (cA, 62, .inl (jA y6))), (a7, .inl (cA, 248, .inl (jA y7))), (ma, .inr (5, [.int (jI mth1'), .int (jI mn), .ref a0, .int (jI mp), .int (jI mw), .ref a1, .ref a2, .ref a3, .ref a4, .ref a5, .ref a6, .ref a7, .ref a8, .ref a9, .ref a10, .long (jL mu), .long (jL md), .int (jI m5), .ref a11])), (a11, .inl (cA, 300, .inl (jA v5)))] H → va_D A [(a1, .inl (cZ, 62, .inl (jA y1))), (a2, .inl (cA, 62, .inl (jA y2))), (a3, .inl (cZ, 496, .inl (jA y3))), (a4, .inl (cA, 496, .inl (jA y4))), (a5, .inl (cA, 496, .inl (jA y5))), (a6, .inl (cA, 62, .inl (jA y6))), (a7, .inl (cA, 248, .inl (jA y7))), (ma, .inr (5, [.int (jI mth1'), .int (jI mn), .ref a0, .int (jI mp), .int (jI mw), .ref a1, .ref a2, .ref a3, .ref a4, .ref a5, .ref a6, .ref a7, .ref a8, .ref a9, .ref a10, .long (jL mu), .long (jL md), .int (jI m5), .ref a11])), (a11, .inl (cA, 300, .inl (jA v5)))] → va_S A s.heap H locs → ∀ ls : Array Slot, lv_has ls 3 [(2, .int (jI k2)), (0, .ref ma), (1, .int (jI z1))] → W p l e R s m ([.ref ma, .int (jI z1)] : List Value).toArray below meth c H locs 0 0 Q (F0 m 132 ls []) := by
                intro n9
                induction n9 with
                | zero =>
                  intro k2 m5 v5 hm hF hk2 hm5
                  exact absurd hm (by omega)
                | succ n9 ih132 =>
                  intro k2 m5 v5 hm hF hk2 hm5 H locs hP hD hS ls hl
                  refine lv_iload_n hx hb dXM_write_132 rfl (lv_at hl 0 rfl) ?_
                  refine ji_bipush hx hb dXM_write_133 (by decide) ?_
                  refine ji_icmp_ge (tgt := 166) hx hb dXM_write_135 (by decide) (by omega) (by omega) (fun c135_ => ?_) (fun c135_ => ?_)
                  · refine ji_iconst hx hb dXM_write_166 ?_
                    refine lv_istore_n (lv' := [(2, .int (jI 0)), (0, .ref ma), (1, .int (jI z1))]) hx hb dXM_write_167 rfl hl (by decide) rfl (fun ls hl => ?_)
                    have loop168 : ∀ (n9 : Nat) (k3 : Int) (m7 : Int) (v7 : Int → Int) , 4 - k3 < (n9 : Int) → f_XM_writeP_L168 mth mn mp mw mu md mo y1 y2 y3 y4 y5 y6 y7 y11 z1 mth1' n9 k3 m7 v7 = f_XM_writeP mth mn mp mw mu md mo y1 y2 y3 y4 y5 y6 y7 y11 z1 → (0 ≤ k3 ∧ k3 ≤ 4) → (0 ≤ m7 ∧ m7 ≤ 135 + 14 * k3) → ∀ (H : Heap) (locs : List Loc), va_P (dC, dI) vwCl [(a1, .inl (cZ, 62, .inl (jA y1))), (a2, .inl (cA, 62, .inl (jA y2))), (a3, .inl (cZ, 496, .inl (jA y3))), (a4, .inl (cA, 496, .inl (jA y4))), (a5, .inl (cA, 496, .inl (jA y5))), (a6, .inl (cA, 62, .inl (jA y6))), (a7, .inl (cA, 248, .inl (jA y7))), (ma, .inr (5, [.int (jI mth1'), .int (jI mn), .ref a0, .int (jI mp), .int (jI mw), .ref a1, .ref a2, .ref a3, .ref a4, .ref a5, .ref a6, .ref a7, .ref a8, .ref a9, .ref a10, .long (jL mu), .long (jL md), .int (jI m7), .ref a11])), (a11, .inl (cA, 300, .inl (jA v7)))] H → va_D A [(a1, .inl (cZ, 62, .inl (jA y1))), (a2, .inl (cA, 62, .inl (jA y2))), (a3, .inl (cZ, 496, .inl (jA y3))), (a4, .inl (cA, 496, .inl (jA y4))), (a5, .inl (cA, 496, .inl (jA y5))), (a6, .inl (cA, 62, .inl (jA y6))), (a7, .inl (cA, 248, .inl (jA y7))), (ma, .inr (5, [.int (jI mth1'), .int (jI mn), .ref a0, .int (jI mp), .int (jI mw), .ref a1, .ref a2, .ref a3, .ref a4, .ref a5, .ref a6, .ref a7, .ref a8, .ref a9, .ref a10, .long (jL mu), .long (jL md), .int (jI m7), .ref a11])), (a11, .inl (cA, 300, .inl (jA v7)))] → va_S A s.heap H locs → ∀ ls : Array Slot, lv_has ls 3 [(2, .int (jI k3)), (0, .ref ma), (1, .int (jI z1))] → W p l e R s m ([.ref ma, .int (jI z1)] : List Value).toArray below meth c H locs 0 0 Q (F0 m 168 ls []) := by
                      intro n9
                      induction n9 with
                      | zero =>
                        intro k3 m7 v7 hm hF hk3 hm7
                        exact absurd hm (by omega)
                      | succ n9 ih168 =>
                        intro k3 m7 v7 hm hF hk3 hm7 H locs hP hD hS ls hl
                        refine lv_iload_n hx hb dXM_write_168 rfl (lv_at hl 0 rfl) ?_
                        refine ji_iconst hx hb dXM_write_169 ?_
                        refine ji_icmp_ge (tgt := 218) hx hb dXM_write_170 (by decide) (by omega) (by omega) (fun c170_ => ?_) (fun c170_ => ?_)
                        · refine lv_aload_n hx hb dXM_write_218 rfl (lv_at hl 1 rfl) ?_
                          refine ji_bipush hx hb dXM_write_219 (by decide) ?_
                          refine jwVv (rest := []) (wr := [(a1, .inl (cZ, 62, .inl (jA y1))), (a2, .inl (cA, 62, .inl (jA y2))), (a3, .inl (cZ, 496, .inl (jA y3))), (a4, .inl (cA, 496, .inl (jA y4))), (a5, .inl (cA, 496, .inl (jA y5))), (a6, .inl (cA, 62, .inl (jA y6))), (a7, .inl (cA, 248, .inl (jA y7)))]) ⟨hx, hb, hml, hown, hts⟩ (c_XM_putP l dC dI cA cZ _ ma a0 a1 a2 a3 a4 a5 a6 a7 a8 a9 a10 a11 mth1' mn mp mw mu md m7 v7 59 (by first | assumption | omega)) (cwV 1 hts (jG_V tw_854 tw_856 ts_39 tw_6 tw_857) rfl rfl rfl (by decide +kernel) (by rw [hR]; exact ⟨Nat.le_of_ble_eq_true rfl, Nat.le_of_ble_eq_true rfl⟩)) hK hP hD hS hA hN [7, 8] [0, 1, 2, 3, 4, 5, 6] rfl rfl (by decide) (by decide) (by decide) 7 5 rfl rfl rfl rfl hl.1 rfl (Nat.le_of_ble_eq_true rfl) dXM_write_221 (by rw [hR]; exact ⟨Nat.le_of_ble_eq_true rfl, Nat.le_of_ble_eq_true rfl⟩) (fun u7 H locs hwb8 hP hD hS => ?_)
                          obtain ⟨mo1'5, y11n'6⟩ := u7
                          try dsimp only at hwb8
                          obtain ⟨hwb8, f9⟩ := hwb8
                          have f9 : mo1'5 = m7 + 1 := f9
                          have hP : va_P (dC, dI) vwCl [(a1, .inl (cZ, 62, .inl (jA y1))), (a2, .inl (cA, 62, .inl (jA y2))), (a3, .inl (cZ, 496, .inl (jA y3))), (a4, .inl (cA, 496, .inl (jA y4))), (a5, .inl (cA, 496, .inl (jA y5))), (a6, .inl (cA, 62, .inl (jA y6))), (a7, .inl (cA, 248, .inl (jA y7))), (ma, .inr (5, [.int (jI mth1'), .int (jI mn), .ref a0, .int (jI mp), .int (jI mw), .ref a1, .ref a2, .ref a3, .ref a4, .ref a5, .ref a6, .ref a7, .ref a8, .ref a9, .ref a10, .long (jL mu), .long (jL md), .int (jI mo1'5), .ref a11])), (a11, .inl (cA, 300, .inl (jA y11n'6)))] H := hP
                          have hD : va_D A [(a1, .inl (cZ, 62, .inl (jA y1))), (a2, .inl (cA, 62, .inl (jA y2))), (a3, .inl (cZ, 496, .inl (jA y3))), (a4, .inl (cA, 496, .inl (jA y4))), (a5, .inl (cA, 496, .inl (jA y5))), (a6, .inl (cA, 62, .inl (jA y6))), (a7, .inl (cA, 248, .inl (jA y7))), (ma, .inr (5, [.int (jI mth1'), .int (jI mn), .ref a0, .int (jI mp), .int (jI mw), .ref a1, .ref a2, .ref a3, .ref a4, .ref a5, .ref a6, .ref a7, .ref a8, .ref a9, .ref a10, .long (jL mu), .long (jL md), .int (jI mo1'5), .ref a11])), (a11, .inl (cA, 300, .inl (jA y11n'6)))] := hD
                          refine lv_aload_n hx hb dXM_write_224 rfl (lv_at hl 1 rfl) ?_
                          refine va_get (D := (dC, dI)) (ci := 5) (v := .int (jI mo1'5)) (C := RXM) (T := TXM) (N := 19) hx hb hts (fun w h => jmem (inXM w h)) hown hK hP 7 rfl rfl 17 (by decide) (hts _ (jmem tw_645)) (fun _ h9 => h9) rfl dXM_write_225 ?_
                          have hP9 := hP.sub (ws' := [(ma, .inr (5, [.int (jI mth1'), .int (jI mn), .ref a0, .int (jI mp), .int (jI mw), .ref a1, .ref a2, .ref a3, .ref a4, .ref a5, .ref a6, .ref a7, .ref a8, .ref a9, .ref a10, .long (jL mu), .long (jL md), .int (jI mo1'5), .ref a11])), (a1, .inl (cZ, 62, .inl (jA y1))), (a2, .inl (cA, 62, .inl (jA y2))), (a3, .inl (cZ, 496, .inl (jA y3))), (a4, .inl (cA, 496, .inl (jA y4))), (a5, .inl (cA, 496, .inl (jA y5))), (a6, .inl (cA, 62, .inl (jA y6))), (a7, .inl (cA, 248, .inl (jA y7))), (a11, .inl (cA, 300, .inl (jA y11n'6)))]) [7, 0, 1, 2, 3, 4, 5, 6, 8] rfl
                          have hD9 := hD.sub (ws' := [(ma, .inr (5, [.int (jI mth1'), .int (jI mn), .ref a0, .int (jI mp), .int (jI mw), .ref a1, .ref a2, .ref a3, .ref a4, .ref a5, .ref a6, .ref a7, .ref a8, .ref a9, .ref a10, .long (jL mu), .long (jL md), .int (jI mo1'5), .ref a11])), (a1, .inl (cZ, 62, .inl (jA y1))), (a2, .inl (cA, 62, .inl (jA y2))), (a3, .inl (cZ, 496, .inl (jA y3))), (a4, .inl (cA, 496, .inl (jA y4))), (a5, .inl (cA, 496, .inl (jA y5))), (a6, .inl (cA, 62, .inl (jA y6))), (a7, .inl (cA, 248, .inl (jA y7))), (a11, .inl (cA, 300, .inl (jA y11n'6)))]) [7, 0, 1, 2, 3, 4, 5, 6, 8] (by decide) rfl
                          subst hAe
                          subst hQ
                          exact W.iret (v := jI mo1'5) hx hb hr (fun t ht hW => ⟨⟨_, (mo1'5, mth1', mo1'5, y11n'6), rfl, ⟨rfl, Eq.trans (by rw [f_XM_writeP_L168_s]; rw [if_neg (Int.not_lt.mpr c170_)]; rw [← hwb8]; try dsimp only; try rfl) hF, show 0 ≤ mth1' ∧ mth1' ≤ 2 from by first | assumption | omega | exact jset_b (by assumption) (by omega) | exact jset_l (by assumption) (by omega) | exact jset_l (fun _ _ => rfl) (by omega) | exact fun _ _ => rfl | exact l_trans (by assumption) (by assumption), show 0 ≤ mo1'5 ∧ mo1'5 ≤ 300 from by first | assumption | omega | exact jset_b (by assumption) (by omega) | exact jset_l (by assumption) (by omega) | exact jset_l (fun _ _ => rfl) (by omega) | exact fun _ _ => rfl | exact l_trans (by assumption) (by assumption), show -1 ≤ mo1'5 ∧ mo1'5 ≤ 300 from by first | assumption | omega | exact jset_b (by assumption) (by omega) | exact jset_l (by assumption) (by omega) | exact jset_l (fun _ _ => rfl) (by omega) | exact fun _ _ => rfl | exact l_trans (by assumption) (by assumption)⟩, ⟨by rw [ht]; exact hP9, va_K.moved hW.alike hK, hD9⟩⟩, hS.F ht⟩) hS.2.2 dXM_write_228
                        · refine lv_aload_n hx hb dXM_write_173 rfl (lv_at hl 1 rfl) ?_
                          refine va_get (D := (dC, dI)) (ci := 5) (v := .ref a7) (C := RXM) (T := TXM) (N := 19) hx hb hts (fun w h => jmem (inXM w h)) hown hK hP 7 rfl rfl 11 (by decide) (hts _ (jmem tw_639)) (fun _ h9 => h9) rfl dXM_write_174 ?_
                          refine ji_iconst hx hb dXM_write_177 ?_
                          refine lv_iload_n hx hb dXM_write_178 rfl (lv_at hl 2 rfl) ?_
                          refine ji_imul hx hb dXM_write_179 ?_
                          refine lv_iload_n hx hb dXM_write_180 rfl (lv_at hl 0 rfl) ?_
                          refine ji_iadd hx hb dXM_write_181 ?_
                          refine ji_iald hx hb hK hP 6 0 rfl rfl ⟨by omega, by omega⟩ (by decide) dXM_write_182 ?_
                          have rb := hy7 ((4 * z1) + k3)
                          refine ji_if_ge (tgt := 189) hx hb dXM_write_183 (by decide) (by omega) (fun c183_ => ?_) (fun c183_ => ?_)
                          · refine lv_aload_n hx hb dXM_write_189 rfl (lv_at hl 1 rfl) ?_
                            refine ji_bipush hx hb dXM_write_190 (by decide) ?_
                            refine lv_iload_n hx hb dXM_write_192 rfl (lv_at hl 0 rfl) ?_
                            refine jwVv (rest := []) (wr := [(a1, .inl (cZ, 62, .inl (jA y1))), (a2, .inl (cA, 62, .inl (jA y2))), (a3, .inl (cZ, 496, .inl (jA y3))), (a4, .inl (cA, 496, .inl (jA y4))), (a5, .inl (cA, 496, .inl (jA y5))), (a6, .inl (cA, 62, .inl (jA y6))), (a7, .inl (cA, 248, .inl (jA y7)))]) ⟨hx, hb, hml, hown, hts⟩ (c_XM_tellP l dC dI cA cZ _ ma a0 a1 a2 a3 a4 a5 a6 a7 a8 a9 a10 a11 mth1' mn mp mw mu md m7 v7 113 k3 (by first | assumption | omega) (by first | assumption | omega)) (cwV 2 hts (jG_V tw_850 tw_852 ts_38 tw_6 tw_853) rfl rfl rfl (by decide +kernel) (by rw [hR]; exact ⟨Nat.le_of_ble_eq_true rfl, Nat.le_of_ble_eq_true rfl⟩)) hK hP hD hS hA hN [7, 8] [0, 1, 2, 3, 4, 5, 6] rfl rfl (by decide) (by decide) (by decide) 7 5 rfl rfl rfl rfl hl.1 rfl (Nat.le_of_ble_eq_true rfl) dXM_write_193 (by rw [hR]; exact ⟨Nat.le_of_ble_eq_true rfl, Nat.le_of_ble_eq_true rfl⟩) (fun u12 H locs hwb13 hP hD hS => ?_)
                            obtain ⟨mo1'10, y11n'11⟩ := u12
                            try dsimp only at hwb13
                            obtain ⟨hwb13, f14⟩ := hwb13
                            have f14 : m7 ≤ mo1'10 ∧ mo1'10 ≤ m7 + 7 := f14
                            have hP : va_P (dC, dI) vwCl [(a1, .inl (cZ, 62, .inl (jA y1))), (a2, .inl (cA, 62, .inl (jA y2))), (a3, .inl (cZ, 496, .inl (jA y3))), (a4, .inl (cA, 496, .inl (jA y4))), (a5, .inl (cA, 496, .inl (jA y5))), (a6, .inl (cA, 62, .inl (jA y6))), (a7, .inl (cA, 248, .inl (jA y7))), (ma, .inr (5, [.int (jI mth1'), .int (jI mn), .ref a0, .int (jI mp), .int (jI mw), .ref a1, .ref a2, .ref a3, .ref a4, .ref a5, .ref a6, .ref a7, .ref a8, .ref a9, .ref a10, .long (jL mu), .long (jL md), .int (jI mo1'10), .ref a11])), (a11, .inl (cA, 300, .inl (jA y11n'11)))] H := hP
                            have hD : va_D A [(a1, .inl (cZ, 62, .inl (jA y1))), (a2, .inl (cA, 62, .inl (jA y2))), (a3, .inl (cZ, 496, .inl (jA y3))), (a4, .inl (cA, 496, .inl (jA y4))), (a5, .inl (cA, 496, .inl (jA y5))), (a6, .inl (cA, 62, .inl (jA y6))), (a7, .inl (cA, 248, .inl (jA y7))), (ma, .inr (5, [.int (jI mth1'), .int (jI mn), .ref a0, .int (jI mp), .int (jI mw), .ref a1, .ref a2, .ref a3, .ref a4, .ref a5, .ref a6, .ref a7, .ref a8, .ref a9, .ref a10, .long (jL mu), .long (jL md), .int (jI mo1'10), .ref a11])), (a11, .inl (cA, 300, .inl (jA y11n'11)))] := hD
                            refine lv_aload_n hx hb dXM_write_196 rfl (lv_at hl 1 rfl) ?_
                            refine ji_bipush hx hb dXM_write_197 (by decide) ?_
                            refine lv_aload_n hx hb dXM_write_199 rfl (lv_at hl 1 rfl) ?_
                            refine va_get (D := (dC, dI)) (ci := 5) (v := .ref a7) (C := RXM) (T := TXM) (N := 19) hx hb hts (fun w h => jmem (inXM w h)) hown hK hP 7 rfl rfl 11 (by decide) (hts _ (jmem tw_639)) (fun _ h9 => h9) rfl dXM_write_200 ?_
                            refine ji_iconst hx hb dXM_write_203 ?_
                            refine lv_iload_n hx hb dXM_write_204 rfl (lv_at hl 2 rfl) ?_
                            refine ji_imul hx hb dXM_write_205 ?_
                            refine lv_iload_n hx hb dXM_write_206 rfl (lv_at hl 0 rfl) ?_
                            refine ji_iadd hx hb dXM_write_207 ?_
                            refine ji_iald hx hb hK hP 6 0 rfl rfl ⟨by omega, by omega⟩ (by decide) dXM_write_208 ?_
                            have rb15 := hy7 ((4 * z1) + k3)
                            refine jwVv (rest := []) (wr := [(a1, .inl (cZ, 62, .inl (jA y1))), (a2, .inl (cA, 62, .inl (jA y2))), (a3, .inl (cZ, 496, .inl (jA y3))), (a4, .inl (cA, 496, .inl (jA y4))), (a5, .inl (cA, 496, .inl (jA y5))), (a6, .inl (cA, 62, .inl (jA y6))), (a7, .inl (cA, 248, .inl (jA y7)))]) ⟨hx, hb, hml, hown, hts⟩ (c_XM_tellP l dC dI cA cZ _ ma a0 a1 a2 a3 a4 a5 a6 a7 a8 a9 a10 a11 mth1' mn mp mw mu md mo1'10 y11n'11 60 (y7 ((4 * z1) + k3)) (by first | assumption | omega) (by first | assumption | omega)) (cwV 2 hts (jG_V tw_850 tw_852 ts_38 tw_6 tw_853) rfl rfl rfl (by decide +kernel) (by rw [hR]; exact ⟨Nat.le_of_ble_eq_true rfl, Nat.le_of_ble_eq_true rfl⟩)) hK hP hD hS hA hN [7, 8] [0, 1, 2, 3, 4, 5, 6] rfl rfl (by decide) (by decide) (by decide) 7 5 rfl rfl rfl rfl hl.1 rfl (Nat.le_of_ble_eq_true rfl) dXM_write_209 (by rw [hR]; exact ⟨Nat.le_of_ble_eq_true rfl, Nat.le_of_ble_eq_true rfl⟩) (fun u18 H locs hwb19 hP hD hS => ?_)
                            obtain ⟨mo1'16, y11n'17⟩ := u18
                            try dsimp only at hwb19
                            obtain ⟨hwb19, f20⟩ := hwb19
                            have f20 : mo1'10 ≤ mo1'16 ∧ mo1'16 ≤ mo1'10 + 7 := f20
                            have hP : va_P (dC, dI) vwCl [(a1, .inl (cZ, 62, .inl (jA y1))), (a2, .inl (cA, 62, .inl (jA y2))), (a3, .inl (cZ, 496, .inl (jA y3))), (a4, .inl (cA, 496, .inl (jA y4))), (a5, .inl (cA, 496, .inl (jA y5))), (a6, .inl (cA, 62, .inl (jA y6))), (a7, .inl (cA, 248, .inl (jA y7))), (ma, .inr (5, [.int (jI mth1'), .int (jI mn), .ref a0, .int (jI mp), .int (jI mw), .ref a1, .ref a2, .ref a3, .ref a4, .ref a5, .ref a6, .ref a7, .ref a8, .ref a9, .ref a10, .long (jL mu), .long (jL md), .int (jI mo1'16), .ref a11])), (a11, .inl (cA, 300, .inl (jA y11n'17)))] H := hP
                            have hD : va_D A [(a1, .inl (cZ, 62, .inl (jA y1))), (a2, .inl (cA, 62, .inl (jA y2))), (a3, .inl (cZ, 496, .inl (jA y3))), (a4, .inl (cA, 496, .inl (jA y4))), (a5, .inl (cA, 496, .inl (jA y5))), (a6, .inl (cA, 62, .inl (jA y6))), (a7, .inl (cA, 248, .inl (jA y7))), (ma, .inr (5, [.int (jI mth1'), .int (jI mn), .ref a0, .int (jI mp), .int (jI mw), .ref a1, .ref a2, .ref a3, .ref a4, .ref a5, .ref a6, .ref a7, .ref a8, .ref a9, .ref a10, .long (jL mu), .long (jL md), .int (jI mo1'16), .ref a11])), (a11, .inl (cA, 300, .inl (jA y11n'17)))] := hD
                            refine ji_iinc (k := 0) (lv' := [(2, .int (jI (k3 + 1))), (0, .ref ma), (1, .int (jI z1))]) hx hb dXM_write_212 hl rfl (by decide) rfl (fun ls hl => ?_)
                            refine lv_goto (tgt := 168) hx hb dXM_write_215 (by decide) ?_
                            exact ih168 (k3 + 1) mo1'16 y11n'17 (by omega) (Eq.trans (by rw [f_XM_writeP_L168_s]; rw [if_pos c170_, if_neg (Int.not_lt.mpr c183_)]; rw [← hwb13]; try dsimp only; rw [← hwb19]; try dsimp only; try rfl) hF) (by first | assumption | omega) (by first | assumption | omega) _ _ hP hD hS ls (lv_sub hl [0, 1, 2] rfl)
                          · refine lv_goto (tgt := 212) hx hb dXM_write_186 (by decide) ?_
                            refine ji_iinc (k := 0) (lv' := [(2, .int (jI (k3 + 1))), (0, .ref ma), (1, .int (jI z1))]) hx hb dXM_write_212 hl rfl (by decide) rfl (fun ls hl => ?_)
                            refine lv_goto (tgt := 168) hx hb dXM_write_215 (by decide) ?_
                            exact ih168 (k3 + 1) m7 v7 (by omega) (Eq.trans (by rw [f_XM_writeP_L168_s]; rw [if_pos c170_, if_pos c183_]; try rfl) hF) (by first | assumption | omega) (by first | assumption | omega) _ _ hP hD hS ls (lv_sub hl [0, 1, 2] rfl)
                    exact loop168 (Int.toNat (4 - 0) + 1) 0 m5 v5 (by omega) (Eq.trans (by rw [f_XM_writeP_L132_s]; rw [if_neg (Int.not_lt.mpr c135_)]; try rfl) hF) (by first | assumption | omega) (by first | assumption | omega) _ _ hP hD hS ls (lv_sub hl [0, 1, 2] rfl)
                  · refine lv_aload_n hx hb dXM_write_138 rfl (lv_at hl 1 rfl) ?_
                    refine va_get (D := (dC, dI)) (ci := 5) (v := .ref a6) (C := RXM) (T := TXM) (N := 19) hx hb hts (fun w h => jmem (inXM w h)) hown hK hP 7 rfl rfl 10 (by decide) (hts _ (jmem tw_638)) (fun _ h9 => h9) rfl dXM_write_139 ?_
                    refine lv_iload_n hx hb dXM_write_142 rfl (lv_at hl 2 rfl) ?_
                    refine ji_iald hx hb hK hP 5 0 rfl rfl ⟨by omega, by omega⟩ (by decide) dXM_write_143 ?_
                    have rb21 := hy6 z1
                    refine lv_iload_n hx hb dXM_write_144 rfl (lv_at hl 0 rfl) ?_
                    refine lv_ishr hx hb dXM_write_145 ?_
                    refine ji_rev ?_
                    have rb22 := jti32 (jI (y6 z1) >>> (jI k2 &&& 31))
                    refine ji_iconst hx hb dXM_write_146 ?_
                    refine lv_iand hx hb dXM_write_147 ?_
                    refine ji_rev ?_
                    have rb23 := jti32 (jI ((jI (y6 z1) >>> (jI k2 &&& 31)).toInt) &&& jI 1)
                    refine ji_iconst hx hb dXM_write_148 ?_
                    refine ji_icmp_ne (tgt := 160) hx hb dXM_write_149 (by decide) (by omega) (by omega) (fun c149_ => ?_) (fun c149_ => ?_)
                    · refine ji_iinc (k := 0) (lv' := [(2, .int (jI (k2 + 1))), (0, .ref ma), (1, .int (jI z1))]) hx hb dXM_write_160 hl rfl (by decide) rfl (fun ls hl => ?_)
                      refine lv_goto (tgt := 132) hx hb dXM_write_163 (by decide) ?_
                      exact ih132 (k2 + 1) m5 v5 (by omega) (Eq.trans (by rw [f_XM_writeP_L132_s]; rw [if_pos c135_, if_neg c149_]; try rfl) hF) (by first | assumption | omega) (by first | assumption | omega) _ _ hP hD hS ls (lv_sub hl [0, 1, 2] rfl)
                    · refine lv_aload_n hx hb dXM_write_152 rfl (lv_at hl 1 rfl) ?_
                      refine ji_bipush hx hb dXM_write_153 (by decide) ?_
                      refine lv_iload_n hx hb dXM_write_155 rfl (lv_at hl 0 rfl) ?_
                      refine ji_iadd hx hb dXM_write_156 ?_
                      refine jwVv (rest := []) (wr := [(a1, .inl (cZ, 62, .inl (jA y1))), (a2, .inl (cA, 62, .inl (jA y2))), (a3, .inl (cZ, 496, .inl (jA y3))), (a4, .inl (cA, 496, .inl (jA y4))), (a5, .inl (cA, 496, .inl (jA y5))), (a6, .inl (cA, 62, .inl (jA y6))), (a7, .inl (cA, 248, .inl (jA y7)))]) ⟨hx, hb, hml, hown, hts⟩ (c_XM_putP l dC dI cA cZ _ ma a0 a1 a2 a3 a4 a5 a6 a7 a8 a9 a10 a11 mth1' mn mp mw mu md m5 v5 (48 + k2) (by first | assumption | omega)) (cwV 1 hts (jG_V tw_854 tw_856 ts_39 tw_6 tw_857) rfl rfl rfl (by decide +kernel) (by rw [hR]; exact ⟨Nat.le_of_ble_eq_true rfl, Nat.le_of_ble_eq_true rfl⟩)) hK hP hD hS hA hN [7, 8] [0, 1, 2, 3, 4, 5, 6] rfl rfl (by decide) (by decide) (by decide) 7 5 rfl rfl rfl rfl hl.1 rfl (Nat.le_of_ble_eq_true rfl) dXM_write_157 (by rw [hR]; exact ⟨Nat.le_of_ble_eq_true rfl, Nat.le_of_ble_eq_true rfl⟩) (fun u26 H locs hwb27 hP hD hS => ?_)
                      obtain ⟨mo1'24, y11n'25⟩ := u26
                      try dsimp only at hwb27
                      obtain ⟨hwb27, f28⟩ := hwb27
                      have f28 : mo1'24 = m5 + 1 := f28
                      have hP : va_P (dC, dI) vwCl [(a1, .inl (cZ, 62, .inl (jA y1))), (a2, .inl (cA, 62, .inl (jA y2))), (a3, .inl (cZ, 496, .inl (jA y3))), (a4, .inl (cA, 496, .inl (jA y4))), (a5, .inl (cA, 496, .inl (jA y5))), (a6, .inl (cA, 62, .inl (jA y6))), (a7, .inl (cA, 248, .inl (jA y7))), (ma, .inr (5, [.int (jI mth1'), .int (jI mn), .ref a0, .int (jI mp), .int (jI mw), .ref a1, .ref a2, .ref a3, .ref a4, .ref a5, .ref a6, .ref a7, .ref a8, .ref a9, .ref a10, .long (jL mu), .long (jL md), .int (jI mo1'24), .ref a11])), (a11, .inl (cA, 300, .inl (jA y11n'25)))] H := hP
                      have hD : va_D A [(a1, .inl (cZ, 62, .inl (jA y1))), (a2, .inl (cA, 62, .inl (jA y2))), (a3, .inl (cZ, 496, .inl (jA y3))), (a4, .inl (cA, 496, .inl (jA y4))), (a5, .inl (cA, 496, .inl (jA y5))), (a6, .inl (cA, 62, .inl (jA y6))), (a7, .inl (cA, 248, .inl (jA y7))), (ma, .inr (5, [.int (jI mth1'), .int (jI mn), .ref a0, .int (jI mp), .int (jI mw), .ref a1, .ref a2, .ref a3, .ref a4, .ref a5, .ref a6, .ref a7, .ref a8, .ref a9, .ref a10, .long (jL mu), .long (jL md), .int (jI mo1'24), .ref a11])), (a11, .inl (cA, 300, .inl (jA y11n'25)))] := hD
                      refine ji_iinc (k := 0) (lv' := [(2, .int (jI (k2 + 1))), (0, .ref ma), (1, .int (jI z1))]) hx hb dXM_write_160 hl rfl (by decide) rfl (fun ls hl => ?_)
                      refine lv_goto (tgt := 132) hx hb dXM_write_163 (by decide) ?_
                      exact ih132 (k2 + 1) mo1'24 y11n'25 (by omega) (Eq.trans (by rw [f_XM_writeP_L132_s]; rw [if_pos c135_, if_pos c149_]; rw [← hwb27]; try dsimp only; try rfl) hF) (by first | assumption | omega) (by first | assumption | omega) _ _ hP hD hS ls (lv_sub hl [0, 1, 2] rfl)
              exact loop132 (Int.toNat (8 - 0) + 1) 0 m4 v4 (by omega) (Eq.trans (by rw [f_XM_writeP_J130_s]; try rfl) hF) (by first | assumption | omega) (by first | assumption | omega) _ _ hP hD hS ls (lv_sub hl [0, 1, 2] rfl)
            refine lv_aload_n hx hb dXM_write_115 rfl (lv_at hl 1 rfl) ?_
            refine va_get (D := (dC, dI)) (ci := 5) (v := .ref a6) (C := RXM) (T := TXM) (N := 19) hx hb hts (fun w h => jmem (inXM w h)) hown hK hP 7 rfl rfl 10 (by decide) (hts _ (jmem tw_638)) (fun _ h9 => h9) rfl dXM_write_116 ?_
            refine lv_iload_n hx hb dXM_write_119 rfl (lv_at hl 2 rfl) ?_
            refine ji_iald hx hb hK hP 5 0 rfl rfl ⟨by omega, by omega⟩ (by decide) dXM_write_120 ?_
            have rb29 := hy6 z1
            refine ji_if_le (tgt := 130) hx hb dXM_write_121 (by decide) (by omega) (fun c121_ => ?_) (fun c121_ => ?_)
            · exact join130 m2 v2 (Eq.trans (by rw [f_XM_writeP_L50_s]; rw [if_neg (Int.not_lt.mpr c53_), if_neg (Int.not_lt.mpr c121_)]; try rfl) hF) (by first | assumption | omega | exact jset_b (by assumption) (by omega)) _ _ hP hD hS ls (lv_sub hl [0, 1, 2] rfl)
            · refine lv_aload_n hx hb dXM_write_124 rfl (lv_at hl 1 rfl) ?_
              refine ji_bipush hx hb dXM_write_125 (by decide) ?_
              refine jwVv (rest := []) (wr := [(a1, .inl (cZ, 62, .inl (jA y1))), (a2, .inl (cA, 62, .inl (jA y2))), (a3, .inl (cZ, 496, .inl (jA y3))), (a4, .inl (cA, 496, .inl (jA y4))), (a5, .inl (cA, 496, .inl (jA y5))), (a6, .inl (cA, 62, .inl (jA y6))), (a7, .inl (cA, 248, .inl (jA y7)))]) ⟨hx, hb, hml, hown, hts⟩ (c_XM_putP l dC dI cA cZ _ ma a0 a1 a2 a3 a4 a5 a6 a7 a8 a9 a10 a11 mth1' mn mp mw mu md m2 v2 114 (by first | assumption | omega)) (cwV 1 hts (jG_V tw_854 tw_856 ts_39 tw_6 tw_857) rfl rfl rfl (by decide +kernel) (by rw [hR]; exact ⟨Nat.le_of_ble_eq_true rfl, Nat.le_of_ble_eq_true rfl⟩)) hK hP hD hS hA hN [7, 8] [0, 1, 2, 3, 4, 5, 6] rfl rfl (by decide) (by decide) (by decide) 7 5 rfl rfl rfl rfl hl.1 rfl (Nat.le_of_ble_eq_true rfl) dXM_write_127 (by rw [hR]; exact ⟨Nat.le_of_ble_eq_true rfl, Nat.le_of_ble_eq_true rfl⟩) (fun u32 H locs hwb33 hP hD hS => ?_)
              obtain ⟨mo1'30, y11n'31⟩ := u32
              try dsimp only at hwb33
              obtain ⟨hwb33, f34⟩ := hwb33
              have f34 : mo1'30 = m2 + 1 := f34
              have hP : va_P (dC, dI) vwCl [(a1, .inl (cZ, 62, .inl (jA y1))), (a2, .inl (cA, 62, .inl (jA y2))), (a3, .inl (cZ, 496, .inl (jA y3))), (a4, .inl (cA, 496, .inl (jA y4))), (a5, .inl (cA, 496, .inl (jA y5))), (a6, .inl (cA, 62, .inl (jA y6))), (a7, .inl (cA, 248, .inl (jA y7))), (ma, .inr (5, [.int (jI mth1'), .int (jI mn), .ref a0, .int (jI mp), .int (jI mw), .ref a1, .ref a2, .ref a3, .ref a4, .ref a5, .ref a6, .ref a7, .ref a8, .ref a9, .ref a10, .long (jL mu), .long (jL md), .int (jI mo1'30), .ref a11])), (a11, .inl (cA, 300, .inl (jA y11n'31)))] H := hP
              have hD : va_D A [(a1, .inl (cZ, 62, .inl (jA y1))), (a2, .inl (cA, 62, .inl (jA y2))), (a3, .inl (cZ, 496, .inl (jA y3))), (a4, .inl (cA, 496, .inl (jA y4))), (a5, .inl (cA, 496, .inl (jA y5))), (a6, .inl (cA, 62, .inl (jA y6))), (a7, .inl (cA, 248, .inl (jA y7))), (ma, .inr (5, [.int (jI mth1'), .int (jI mn), .ref a0, .int (jI mp), .int (jI mw), .ref a1, .ref a2, .ref a3, .ref a4, .ref a5, .ref a6, .ref a7, .ref a8, .ref a9, .ref a10, .long (jL mu), .long (jL md), .int (jI mo1'30), .ref a11])), (a11, .inl (cA, 300, .inl (jA y11n'31)))] := hD
              exact join130 mo1'30 y11n'31 (Eq.trans (by rw [f_XM_writeP_L50_s]; rw [if_neg (Int.not_lt.mpr c53_), if_pos c121_]; rw [← hwb33]; try dsimp only; try rfl) hF) (by first | assumption | omega | exact jset_b (by assumption) (by omega)) _ _ hP hD hS ls (lv_sub hl [0, 1, 2] rfl)
          · refine lv_aload_n hx hb dXM_write_56 rfl (lv_at hl 1 rfl) ?_
            refine va_get (D := (dC, dI)) (ci := 5) (v := .ref a3) (C := RXM) (T := TXM) (N := 19) hx hb hts (fun w h => jmem (inXM w h)) hown hK hP 7 rfl rfl 7 (by decide) (hts _ (jmem tw_635)) (fun _ h9 => h9) rfl dXM_write_57 ?_
            refine ji_bipush hx hb dXM_write_60 (by decide) ?_
            refine lv_iload_n hx hb dXM_write_62 rfl (lv_at hl 2 rfl) ?_
            refine ji_imul hx hb dXM_write_63 ?_
            refine lv_iload_n hx hb dXM_write_64 rfl (lv_at hl 0 rfl) ?_
            refine ji_iadd hx hb dXM_write_65 ?_
            refine ji_zald hx hb hK hP 2 1 rfl rfl ⟨by omega, by omega⟩ (by decide) dXM_write_66 ?_
            have rb35 := hy3 ((8 * z1) + k)
            refine ji_if_ne (tgt := 73) hx hb dXM_write_67 (by decide) (by omega) (fun c67_ => ?_) (fun c67_ => ?_)
            · refine lv_aload_n hx hb dXM_write_73 rfl (lv_at hl 1 rfl) ?_
              refine ji_bipush hx hb dXM_write_74 (by decide) ?_
              refine lv_iload_n hx hb dXM_write_76 rfl (lv_at hl 0 rfl) ?_
              refine ji_iadd hx hb dXM_write_77 ?_
              refine lv_aload_n hx hb dXM_write_78 rfl (lv_at hl 1 rfl) ?_
              refine va_get (D := (dC, dI)) (ci := 5) (v := .ref a4) (C := RXM) (T := TXM) (N := 19) hx hb hts (fun w h => jmem (inXM w h)) hown hK hP 7 rfl rfl 8 (by decide) (hts _ (jmem tw_636)) (fun _ h9 => h9) rfl dXM_write_79 ?_
              refine ji_bipush hx hb dXM_write_82 (by decide) ?_
              refine lv_iload_n hx hb dXM_write_84 rfl (lv_at hl 2 rfl) ?_
              refine ji_imul hx hb dXM_write_85 ?_
              refine lv_iload_n hx hb dXM_write_86 rfl (lv_at hl 0 rfl) ?_
              refine ji_iadd hx hb dXM_write_87 ?_
              refine ji_iald hx hb hK hP 3 0 rfl rfl ⟨by omega, by omega⟩ (by decide) dXM_write_88 ?_
              have rb36 := hy4 ((8 * z1) + k)
              refine jwVv (rest := []) (wr := [(a1, .inl (cZ, 62, .inl (jA y1))), (a2, .inl (cA, 62, .inl (jA y2))), (a3, .inl (cZ, 496, .inl (jA y3))), (a4, .inl (cA, 496, .inl (jA y4))), (a5, .inl (cA, 496, .inl (jA y5))), (a6, .inl (cA, 62, .inl (jA y6))), (a7, .inl (cA, 248, .inl (jA y7)))]) ⟨hx, hb, hml, hown, hts⟩ (c_XM_tellP l dC dI cA cZ _ ma a0 a1 a2 a3 a4 a5 a6 a7 a8 a9 a10 a11 mth1' mn mp mw mu md m2 v2 (65 + k) (y4 ((8 * z1) + k)) (by first | assumption | omega) (by first | assumption | omega)) (cwV 2 hts (jG_V tw_850 tw_852 ts_38 tw_6 tw_853) rfl rfl rfl (by decide +kernel) (by rw [hR]; exact ⟨Nat.le_of_ble_eq_true rfl, Nat.le_of_ble_eq_true rfl⟩)) hK hP hD hS hA hN [7, 8] [0, 1, 2, 3, 4, 5, 6] rfl rfl (by decide) (by decide) (by decide) 7 5 rfl rfl rfl rfl hl.1 rfl (Nat.le_of_ble_eq_true rfl) dXM_write_89 (by rw [hR]; exact ⟨Nat.le_of_ble_eq_true rfl, Nat.le_of_ble_eq_true rfl⟩) (fun u39 H locs hwb40 hP hD hS => ?_)
              obtain ⟨mo1'37, y11n'38⟩ := u39
              try dsimp only at hwb40
              obtain ⟨hwb40, f41⟩ := hwb40
              have f41 : m2 ≤ mo1'37 ∧ mo1'37 ≤ m2 + 7 := f41
              have hP : va_P (dC, dI) vwCl [(a1, .inl (cZ, 62, .inl (jA y1))), (a2, .inl (cA, 62, .inl (jA y2))), (a3, .inl (cZ, 496, .inl (jA y3))), (a4, .inl (cA, 496, .inl (jA y4))), (a5, .inl (cA, 496, .inl (jA y5))), (a6, .inl (cA, 62, .inl (jA y6))), (a7, .inl (cA, 248, .inl (jA y7))), (ma, .inr (5, [.int (jI mth1'), .int (jI mn), .ref a0, .int (jI mp), .int (jI mw), .ref a1, .ref a2, .ref a3, .ref a4, .ref a5, .ref a6, .ref a7, .ref a8, .ref a9, .ref a10, .long (jL mu), .long (jL md), .int (jI mo1'37), .ref a11])), (a11, .inl (cA, 300, .inl (jA y11n'38)))] H := hP
              have hD : va_D A [(a1, .inl (cZ, 62, .inl (jA y1))), (a2, .inl (cA, 62, .inl (jA y2))), (a3, .inl (cZ, 496, .inl (jA y3))), (a4, .inl (cA, 496, .inl (jA y4))), (a5, .inl (cA, 496, .inl (jA y5))), (a6, .inl (cA, 62, .inl (jA y6))), (a7, .inl (cA, 248, .inl (jA y7))), (ma, .inr (5, [.int (jI mth1'), .int (jI mn), .ref a0, .int (jI mp), .int (jI mw), .ref a1, .ref a2, .ref a3, .ref a4, .ref a5, .ref a6, .ref a7, .ref a8, .ref a9, .ref a10, .long (jL mu), .long (jL md), .int (jI mo1'37), .ref a11])), (a11, .inl (cA, 300, .inl (jA y11n'38)))] := hD
              refine lv_aload_n hx hb dXM_write_92 rfl (lv_at hl 1 rfl) ?_
              refine ji_bipush hx hb dXM_write_93 (by decide) ?_
              refine lv_aload_n hx hb dXM_write_95 rfl (lv_at hl 1 rfl) ?_
              refine va_get (D := (dC, dI)) (ci := 5) (v := .ref a5) (C := RXM) (T := TXM) (N := 19) hx hb hts (fun w h => jmem (inXM w h)) hown hK hP 7 rfl rfl 9 (by decide) (hts _ (jmem tw_637)) (fun _ h9 => h9) rfl dXM_write_96 ?_
              refine ji_bipush hx hb dXM_write_99 (by decide) ?_
              refine lv_iload_n hx hb dXM_write_101 rfl (lv_at hl 2 rfl) ?_
              refine ji_imul hx hb dXM_write_102 ?_
              refine lv_iload_n hx hb dXM_write_103 rfl (lv_at hl 0 rfl) ?_
              refine ji_iadd hx hb dXM_write_104 ?_
              refine ji_iald hx hb hK hP 4 0 rfl rfl ⟨by omega, by omega⟩ (by decide) dXM_write_105 ?_
              have rb42 := hy5 ((8 * z1) + k)
              refine jwVv (rest := []) (wr := [(a1, .inl (cZ, 62, .inl (jA y1))), (a2, .inl (cA, 62, .inl (jA y2))), (a3, .inl (cZ, 496, .inl (jA y3))), (a4, .inl (cA, 496, .inl (jA y4))), (a5, .inl (cA, 496, .inl (jA y5))), (a6, .inl (cA, 62, .inl (jA y6))), (a7, .inl (cA, 248, .inl (jA y7)))]) ⟨hx, hb, hml, hown, hts⟩ (c_XM_tellP l dC dI cA cZ _ ma a0 a1 a2 a3 a4 a5 a6 a7 a8 a9 a10 a11 mth1' mn mp mw mu md mo1'37 y11n'38 45 (y5 ((8 * z1) + k)) (by first | assumption | omega) (by first | assumption | omega)) (cwV 2 hts (jG_V tw_850 tw_852 ts_38 tw_6 tw_853) rfl rfl rfl (by decide +kernel) (by rw [hR]; exact ⟨Nat.le_of_ble_eq_true rfl, Nat.le_of_ble_eq_true rfl⟩)) hK hP hD hS hA hN [7, 8] [0, 1, 2, 3, 4, 5, 6] rfl rfl (by decide) (by decide) (by decide) 7 5 rfl rfl rfl rfl hl.1 rfl (Nat.le_of_ble_eq_true rfl) dXM_write_106 (by rw [hR]; exact ⟨Nat.le_of_ble_eq_true rfl, Nat.le_of_ble_eq_true rfl⟩) (fun u45 H locs hwb46 hP hD hS => ?_)
              obtain ⟨mo1'43, y11n'44⟩ := u45
              try dsimp only at hwb46
              obtain ⟨hwb46, f47⟩ := hwb46
              have f47 : mo1'37 ≤ mo1'43 ∧ mo1'43 ≤ mo1'37 + 7 := f47
              have hP : va_P (dC, dI) vwCl [(a1, .inl (cZ, 62, .inl (jA y1))), (a2, .inl (cA, 62, .inl (jA y2))), (a3, .inl (cZ, 496, .inl (jA y3))), (a4, .inl (cA, 496, .inl (jA y4))), (a5, .inl (cA, 496, .inl (jA y5))), (a6, .inl (cA, 62, .inl (jA y6))), (a7, .inl (cA, 248, .inl (jA y7))), (ma, .inr (5, [.int (jI mth1'), .int (jI mn), .ref a0, .int (jI mp), .int (jI mw), .ref a1, .ref a2, .ref a3, .ref a4, .ref a5, .ref a6, .ref a7, .ref a8, .ref a9, .ref a10, .long (jL mu), .long (jL md), .int (jI mo1'43), .ref a11])), (a11, .inl (cA, 300, .inl (jA y11n'44)))] H := hP
              have hD : va_D A [(a1, .inl (cZ, 62, .inl (jA y1))), (a2, .inl (cA, 62, .inl (jA y2))), (a3, .inl (cZ, 496, .inl (jA y3))), (a4, .inl (cA, 496, .inl (jA y4))), (a5, .inl (cA, 496, .inl (jA y5))), (a6, .inl (cA, 62, .inl (jA y6))), (a7, .inl (cA, 248, .inl (jA y7))), (ma, .inr (5, [.int (jI mth1'), .int (jI mn), .ref a0, .int (jI mp), .int (jI mw), .ref a1, .ref a2, .ref a3, .ref a4, .ref a5, .ref a6, .ref a7, .ref a8, .ref a9, .ref a10, .long (jL mu), .long (jL md), .int (jI mo1'43), .ref a11])), (a11, .inl (cA, 300, .inl (jA y11n'44)))] := hD
              refine ji_iinc (k := 0) (lv' := [(2, .int (jI (k + 1))), (0, .ref ma), (1, .int (jI z1))]) hx hb dXM_write_109 hl rfl (by decide) rfl (fun ls hl => ?_)
              refine lv_goto (tgt := 50) hx hb dXM_write_112 (by decide) ?_
              exact ih50 (k + 1) mo1'43 y11n'44 (by omega) (Eq.trans (by rw [f_XM_writeP_L50_s]; rw [if_pos c53_, if_neg c67_]; rw [← hwb40]; try dsimp only; rw [← hwb46]; try dsimp only; try rfl) hF) (by first | assumption | omega) (by first | assumption | omega) _ _ hP hD hS ls (lv_sub hl [0, 1, 2] rfl)
            · refine lv_goto (tgt := 109) hx hb dXM_write_70 (by decide) ?_
              refine ji_iinc (k := 0) (lv' := [(2, .int (jI (k + 1))), (0, .ref ma), (1, .int (jI z1))]) hx hb dXM_write_109 hl rfl (by decide) rfl (fun ls hl => ?_)
              refine lv_goto (tgt := 50) hx hb dXM_write_112 (by decide) ?_
              exact ih50 (k + 1) m2 v2 (by omega) (Eq.trans (by rw [f_XM_writeP_L50_s]; rw [if_pos c53_, if_pos c67_]; try rfl) hF) (by first | assumption | omega) (by first | assumption | omega) _ _ hP hD hS ls (lv_sub hl [0, 1, 2] rfl)
      exact loop50 (Int.toNat (8 - 0) + 1) 0 m1 v1 (by omega) (Eq.trans (by rw [f_XM_writeP_J48_s]; try rfl) hF) (by first | assumption | omega) (by first | assumption | omega) _ _ hP hD hS ls (lv_sub hl [0, 1, 2] rfl)
    refine lv_aload_n hx hb dXM_write_27 rfl (lv_at hl 0 rfl) ?_
    refine va_get (D := (dC, dI)) (ci := 5) (v := .ref a2) (C := RXM) (T := TXM) (N := 19) hx hb hts (fun w h => jmem (inXM w h)) hown hK hP 7 rfl rfl 6 (by decide) (hts _ (jmem tw_634)) (fun _ h9 => h9) rfl dXM_write_28 ?_
    refine lv_iload_n hx hb dXM_write_31 rfl (lv_at hl 1 rfl) ?_
    refine ji_iald hx hb hK hP 1 0 rfl rfl ⟨by omega, by omega⟩ (by decide) dXM_write_32 ?_
    have rb48 := hy2 z1
    refine ji_if_le (tgt := 48) hx hb dXM_write_33 (by decide) (by omega) (fun c33_ => ?_) (fun c33_ => ?_)
    · exact join48 mo1' y11n' (Eq.trans (by rw [f_XM_writeP_s]; rw [← hwb]; try dsimp only; rw [if_neg c10_]; rw [← hwb3]; try dsimp only; rw [if_neg (Int.not_lt.mpr c33_)]; try rfl) rfl) (by first | assumption | omega | exact jset_b (by assumption) (by omega)) _ _ hP hD hS ls (lv_sub hl [0, 1] rfl)
    · refine lv_aload_n hx hb dXM_write_36 rfl (lv_at hl 0 rfl) ?_
      refine ji_bipush hx hb dXM_write_37 (by decide) ?_
      refine lv_aload_n hx hb dXM_write_39 rfl (lv_at hl 0 rfl) ?_
      refine va_get (D := (dC, dI)) (ci := 5) (v := .ref a2) (C := RXM) (T := TXM) (N := 19) hx hb hts (fun w h => jmem (inXM w h)) hown hK hP 7 rfl rfl 6 (by decide) (hts _ (jmem tw_634)) (fun _ h9 => h9) rfl dXM_write_40 ?_
      refine lv_iload_n hx hb dXM_write_43 rfl (lv_at hl 1 rfl) ?_
      refine ji_iald hx hb hK hP 1 0 rfl rfl ⟨by omega, by omega⟩ (by decide) dXM_write_44 ?_
      have rb49 := hy2 z1
      refine jwVv (rest := []) (wr := [(a1, .inl (cZ, 62, .inl (jA y1))), (a2, .inl (cA, 62, .inl (jA y2))), (a3, .inl (cZ, 496, .inl (jA y3))), (a4, .inl (cA, 496, .inl (jA y4))), (a5, .inl (cA, 496, .inl (jA y5))), (a6, .inl (cA, 62, .inl (jA y6))), (a7, .inl (cA, 248, .inl (jA y7)))]) ⟨hx, hb, hml, hown, hts⟩ (c_XM_tellP l dC dI cA cZ _ ma a0 a1 a2 a3 a4 a5 a6 a7 a8 a9 a10 a11 mth1' mn mp mw mu md mo1' y11n' 60 (y2 z1) (by first | assumption | omega) (by first | assumption | omega)) (cwV 2 hts (jG_V tw_850 tw_852 ts_38 tw_6 tw_853) rfl rfl rfl (by decide +kernel) (by rw [hR]; exact ⟨Nat.le_of_ble_eq_true rfl, Nat.le_of_ble_eq_true rfl⟩)) hK hP hD hS hA hN [7, 8] [0, 1, 2, 3, 4, 5, 6] rfl rfl (by decide) (by decide) (by decide) 7 5 rfl rfl rfl rfl hl.1 rfl (Nat.le_of_ble_eq_true rfl) dXM_write_45 (by rw [hR]; exact ⟨Nat.le_of_ble_eq_true rfl, Nat.le_of_ble_eq_true rfl⟩) (fun u52 H locs hwb53 hP hD hS => ?_)
      obtain ⟨mo1'50, y11n'51⟩ := u52
      try dsimp only at hwb53
      obtain ⟨hwb53, f54⟩ := hwb53
      have f54 : mo1' ≤ mo1'50 ∧ mo1'50 ≤ mo1' + 7 := f54
      have hP : va_P (dC, dI) vwCl [(a1, .inl (cZ, 62, .inl (jA y1))), (a2, .inl (cA, 62, .inl (jA y2))), (a3, .inl (cZ, 496, .inl (jA y3))), (a4, .inl (cA, 496, .inl (jA y4))), (a5, .inl (cA, 496, .inl (jA y5))), (a6, .inl (cA, 62, .inl (jA y6))), (a7, .inl (cA, 248, .inl (jA y7))), (ma, .inr (5, [.int (jI mth1'), .int (jI mn), .ref a0, .int (jI mp), .int (jI mw), .ref a1, .ref a2, .ref a3, .ref a4, .ref a5, .ref a6, .ref a7, .ref a8, .ref a9, .ref a10, .long (jL mu), .long (jL md), .int (jI mo1'50), .ref a11])), (a11, .inl (cA, 300, .inl (jA y11n'51)))] H := hP
      have hD : va_D A [(a1, .inl (cZ, 62, .inl (jA y1))), (a2, .inl (cA, 62, .inl (jA y2))), (a3, .inl (cZ, 496, .inl (jA y3))), (a4, .inl (cA, 496, .inl (jA y4))), (a5, .inl (cA, 496, .inl (jA y5))), (a6, .inl (cA, 62, .inl (jA y6))), (a7, .inl (cA, 248, .inl (jA y7))), (ma, .inr (5, [.int (jI mth1'), .int (jI mn), .ref a0, .int (jI mp), .int (jI mw), .ref a1, .ref a2, .ref a3, .ref a4, .ref a5, .ref a6, .ref a7, .ref a8, .ref a9, .ref a10, .long (jL mu), .long (jL md), .int (jI mo1'50), .ref a11])), (a11, .inl (cA, 300, .inl (jA y11n'51)))] := hD
      exact join48 mo1'50 y11n'51 (Eq.trans (by rw [f_XM_writeP_s]; rw [← hwb]; try dsimp only; rw [if_neg c10_]; rw [← hwb3]; try dsimp only; rw [if_pos c33_]; rw [← hwb53]; try dsimp only; try rfl) rfl) (by first | assumption | omega | exact jset_b (by assumption) (by omega)) _ _ hP hD hS ls (lv_sub hl [0, 1] rfl)
  · refine ji_iconst hx hb dXM_write_13 ?_
    have hP9 := hP.sub (ws' := [(ma, .inr (5, [.int (jI mth1'), .int (jI mn), .ref a0, .int (jI mp), .int (jI mw), .ref a1, .ref a2, .ref a3, .ref a4, .ref a5, .ref a6, .ref a7, .ref a8, .ref a9, .ref a10, .long (jL mu), .long (jL md), .int (jI mo), .ref a11])), (a1, .inl (cZ, 62, .inl (jA y1))), (a2, .inl (cA, 62, .inl (jA y2))), (a3, .inl (cZ, 496, .inl (jA y3))), (a4, .inl (cA, 496, .inl (jA y4))), (a5, .inl (cA, 496, .inl (jA y5))), (a6, .inl (cA, 62, .inl (jA y6))), (a7, .inl (cA, 248, .inl (jA y7))), (a11, .inl (cA, 300, .inl (jA y11)))]) [8, 0, 1, 2, 3, 4, 5, 6, 7] rfl
    have hD9 := hD.sub (ws' := [(ma, .inr (5, [.int (jI mth1'), .int (jI mn), .ref a0, .int (jI mp), .int (jI mw), .ref a1, .ref a2, .ref a3, .ref a4, .ref a5, .ref a6, .ref a7, .ref a8, .ref a9, .ref a10, .long (jL mu), .long (jL md), .int (jI mo), .ref a11])), (a1, .inl (cZ, 62, .inl (jA y1))), (a2, .inl (cA, 62, .inl (jA y2))), (a3, .inl (cZ, 496, .inl (jA y3))), (a4, .inl (cA, 496, .inl (jA y4))), (a5, .inl (cA, 496, .inl (jA y5))), (a6, .inl (cA, 62, .inl (jA y6))), (a7, .inl (cA, 248, .inl (jA y7))), (a11, .inl (cA, 300, .inl (jA y11)))]) [8, 0, 1, 2, 3, 4, 5, 6, 7] (by decide) rfl
    subst hAe
    subst hQ
    exact W.iret (v := jI 0) hx hb hr (fun t ht hW => ⟨⟨_, (0, mth1', mo, y11), rfl, ⟨rfl, Eq.trans (by rw [f_XM_writeP_s]; rw [← hwb]; try dsimp only; rw [if_pos c10_]; try rfl) rfl, show 0 ≤ mth1' ∧ mth1' ≤ 2 from by first | assumption | omega | exact jset_b (by assumption) (by omega) | exact jset_l (by assumption) (by omega) | exact jset_l (fun _ _ => rfl) (by omega) | exact fun _ _ => rfl | exact l_trans (by assumption) (by assumption), show 0 ≤ mo ∧ mo ≤ 300 from by first | assumption | omega | exact jset_b (by assumption) (by omega) | exact jset_l (by assumption) (by omega) | exact jset_l (fun _ _ => rfl) (by omega) | exact fun _ _ => rfl | exact l_trans (by assumption) (by assumption), show -1 ≤ 0 ∧ 0 ≤ 300 from by first | assumption | omega | exact jset_b (by assumption) (by omega) | exact jset_l (by assumption) (by omega) | exact jset_l (fun _ _ => rfl) (by omega) | exact fun _ _ => rfl | exact l_trans (by assumption) (by assumption)⟩, ⟨by rw [ht]; exact hP9, va_K.moved hW.alike hK, hD9⟩⟩, hS.F ht⟩) hS.2.2 dXM_write_14
noncomputable def g_XM_atP_J10 (mth : Int) (mn : Int) (mp : Int) (mw : Int) (mu : Int) (md : Int) (mo : Int) (y11 : Int → Int) (z1 : Int) (jz : Int) : Int × Int :=
  match f_XM_goesP mth mn mp mw mu md mo jz 1 with
  | (r, mth1') =>
    if r = 0 then
      (0, mth1')
    else
      if z1 < mo then
        (y11 z1, mth1')
      else
        (-1, mth1')
noncomputable def f_XM_atP_J10 : Int → Int → Int → Int → Int → Int → Int → (Int → Int) → Int → Int → Int × Int := jopq g_XM_atP_J10
theorem f_XM_atP_J10_q : f_XM_atP_J10 = g_XM_atP_J10 := jopq_eq _
theorem f_XM_atP_J10_s (mth : Int) (mn : Int) (mp : Int) (mw : Int) (mu : Int) (md : Int) (mo : Int) (y11 : Int → Int) (z1 : Int) (jz : Int) : f_XM_atP_J10 mth mn mp mw mu md mo y11 z1 jz = (
    match f_XM_goesP mth mn mp mw mu md mo jz 1 with
    | (r, mth1') =>
      if r = 0 then
        (0, mth1')
      else
        if z1 < mo then
          (y11 z1, mth1')
        else
          (-1, mth1')
  : Int × Int) := by rw [f_XM_atP_J10_q]; rfl
noncomputable def g_XM_atP (mth : Int) (mn : Int) (mp : Int) (mw : Int) (mu : Int) (md : Int) (mo : Int) (y11 : Int → Int) (z1 : Int) : Int × Int :=
  if z1 < 0 then
    f_XM_atP_J10 mth mn mp mw mu md mo y11 z1 0
  else
    f_XM_atP_J10 mth mn mp mw mu md mo y11 z1 1
noncomputable def f_XM_atP : Int → Int → Int → Int → Int → Int → Int → (Int → Int) → Int → Int × Int := jopq g_XM_atP
theorem f_XM_atP_q : f_XM_atP = g_XM_atP := jopq_eq _
theorem f_XM_atP_s (mth : Int) (mn : Int) (mp : Int) (mw : Int) (mu : Int) (md : Int) (mo : Int) (y11 : Int → Int) (z1 : Int) : f_XM_atP mth mn mp mw mu md mo y11 z1 = (
    if z1 < 0 then
      f_XM_atP_J10 mth mn mp mw mu md mo y11 z1 0
    else
      f_XM_atP_J10 mth mn mp mw mu md mo y11 z1 1
  : Int × Int) := by rw [f_XM_atP_q]; rfl
set_option maxHeartbeats 4000000 in
set_option maxRecDepth 100000 in
theorem c_XM_atP (l : Launch) (dC : Nat → ClassId) (dI : Nat → Nat → Nat) (cA cZ : ClassId) (sz : Nat) (ma : Nat) (a0 : Nat) (a1 : Nat) (a2 : Nat) (a3 : Nat) (a4 : Nat) (a5 : Nat) (a6 : Nat) (a7 : Nat) (a8 : Nat) (a9 : Nat) (a10 : Nat) (a11 : Nat) (mth : Int) (mn : Int) (mp : Int) (mw : Int) (mu : Int) (md : Int) (mo : Int) (y11 : Int → Int) (z1 : Int) (hmo : 0 ≤ mo ∧ mo ≤ 300) (hi1 : i32 z1) : Met l yXM_at (Cond.code yXM_at cXM_at 2 (some .int) :: TBL) ({ frames := 1, cells := 0, slots := 0, locals := 22 } : Room) (va_Pc [.ref ma, .int (jI z1)] (jBw (dC, dI) [(cA, .int), (cZ, .boolean)] [(ma, .inr (5, [.int (jI mth), .int (jI mn), .ref a0, .int (jI mp), .int (jI mw), .ref a1, .ref a2, .ref a3, .ref a4, .ref a5, .ref a6, .ref a7, .ref a8, .ref a9, .ref a10, .long (jL mu), .long (jL md), .int (jI mo), .ref a11])), (a11, .inl (cA, 300, .inl (jA y11)))] sz)) (va_Qi (fun (r : Int32) (u : Int × Int) => r = jI u.1 ∧ u = f_XM_atP mth mn mp mw mu md mo y11 z1 ∧ ((u.2 = 1 ∧ z1 < 0) ∨ (u.2 = 0 ∧ 0 ≤ z1))) (fun u t => jE (dC, dI) [(cA, .int), (cZ, .boolean)] [(ma, .inr (5, [.int (jI mth), .int (jI mn), .ref a0, .int (jI mp), .int (jI mw), .ref a1, .ref a2, .ref a3, .ref a4, .ref a5, .ref a6, .ref a7, .ref a8, .ref a9, .ref a10, .long (jL mu), .long (jL md), .int (jI mo), .ref a11])), (a11, .inl (cA, 300, .inl (jA y11)))] sz [(ma, .inr (5, [.int (jI u.2), .int (jI mn), .ref a0, .int (jI mp), .int (jI mw), .ref a1, .ref a2, .ref a3, .ref a4, .ref a5, .ref a6, .ref a7, .ref a8, .ref a9, .ref a10, .long (jL mu), .long (jL md), .int (jI mo), .ref a11])), (a11, .inl (cA, 300, .inl (jA y11)))] t) (va_A [(ma, .inr (5, [.int (jI mth), .int (jI mn), .ref a0, .int (jI mp), .int (jI mw), .ref a1, .ref a2, .ref a3, .ref a4, .ref a5, .ref a6, .ref a7, .ref a8, .ref a9, .ref a10, .long (jL mu), .long (jL md), .int (jI mo), .ref a11])), (a11, .inl (cA, 300, .inl (jA y11)))] sz)) 0 0 (va_A [(ma, .inr (5, [.int (jI mth), .int (jI mn), .ref a0, .int (jI mp), .int (jI mw), .ref a1, .ref a2, .ref a3, .ref a4, .ref a5, .ref a6, .ref a7, .ref a8, .ref a9, .ref a10, .long (jL mu), .long (jL md), .int (jI mo), .ref a11])), (a11, .inl (cA, 300, .inl (jA y11)))] sz) := by
  refine jMet (cc := cXM_at) (maxL := 2) (ret := some .int) (by decide) rfl ?_
  intro p e s m args below meth c s₁ R Q hR hQ B hml hv
  obtain ⟨rfl, hsz, hP, hK, hD0, hN⟩ := hv
  have hx := B.exec
  have hb := B.bytes
  have hr := B.returns
  have hts := atoms_spec (ws := Cond.code yXM_at cXM_at 2 (some .int) :: TBL) B.pre
  have hown : s.vm.findClass RXM = some m.cls := findClass_of_methodNamed B.named
  have hlocks := B.notSynchronized
  subst hsz
  obtain ⟨A, hAe⟩ : ∃ A, A = va_A [(ma, .inr (5, [.int (jI mth), .int (jI mn), .ref a0, .int (jI mp), .int (jI mw), .ref a1, .ref a2, .ref a3, .ref a4, .ref a5, .ref a6, .ref a7, .ref a8, .ref a9, .ref a10, .long (jL mu), .long (jL md), .int (jI mo), .ref a11])), (a11, .inl (cA, 300, .inl (jA y11)))] s.heap.size := ⟨_, rfl⟩
  have hD : va_D A [(ma, .inr (5, [.int (jI mth), .int (jI mn), .ref a0, .int (jI mp), .int (jI mw), .ref a1, .ref a2, .ref a3, .ref a4, .ref a5, .ref a6, .ref a7, .ref a8, .ref a9, .ref a10, .long (jL mu), .long (jL md), .int (jI mo), .ref a11])), (a11, .inl (cA, 300, .inl (jA y11)))] := by rw [hAe]; exact hD0.self
  have hA : ∀ q : Nat, s.heap.size ≤ q → A q := fun q h => by rw [hAe]; exact Or.inr h
  have hS : va_S A s.heap s.heap [] := va_S.rf
  have hP : va_P (dC, dI) vwCl [(ma, .inr (5, [.int (jI mth), .int (jI mn), .ref a0, .int (jI mp), .int (jI mw), .ref a1, .ref a2, .ref a3, .ref a4, .ref a5, .ref a6, .ref a7, .ref a8, .ref a9, .ref a10, .long (jL mu), .long (jL md), .int (jI mo), .ref a11])), (a11, .inl (cA, 300, .inl (jA y11)))] s.heap := hP
  have hl := lv_entry ([.ref ma, .int (jI z1)]) (n := 2) (Nat.le_of_ble_eq_true rfl)
  rw [lg_entry_eq]
  generalize (lg_sl ([.ref ma, .int (jI z1)]) ++ List.replicate (2 - (lg_sl ([.ref ma, .int (jI z1)])).length) Slot.unset).toArray = ls at hl ⊢
  have hl : lv_has ls 2 [(0, .ref ma), (1, .int (jI z1))] := hl
  refine lv_aload_n hx hb dXM_at_0 rfl (lv_at hl 0 rfl) ?_
  refine lv_iload_n hx hb dXM_at_1 rfl (lv_at hl 1 rfl) ?_
  have join10 : ∀ (jz : Int) , f_XM_atP_J10 mth mn mp mw mu md mo y11 z1 jz = f_XM_atP mth mn mp mw mu md mo y11 z1 → ((jz = 1 ∧ 0 ≤ z1) ∨ (jz = 0 ∧ z1 < 0)) → ∀ (H : Heap) (locs : List Loc), va_P (dC, dI) vwCl [(ma, .inr (5, [.int (jI mth), .int (jI mn), .ref a0, .int (jI mp), .int (jI mw), .ref a1, .ref a2, .ref a3, .ref a4, .ref a5, .ref a6, .ref a7, .ref a8, .ref a9, .ref a10, .long (jL mu), .long (jL md), .int (jI mo), .ref a11])), (a11, .inl (cA, 300, .inl (jA y11)))] H → va_D A [(ma, .inr (5, [.int (jI mth), .int (jI mn), .ref a0, .int (jI mp), .int (jI mw), .ref a1, .ref a2, .ref a3, .ref a4, .ref a5, .ref a6, .ref a7, .ref a8, .ref a9, .ref a10, .long (jL mu), .long (jL md), .int (jI mo), .ref a11])), (a11, .inl (cA, 300, .inl (jA y11)))] → va_S A s.heap H locs → ∀ ls : Array Slot, lv_has ls 2 [(0, .ref ma), (1, .int (jI z1))] → W p l e R s m ([.ref ma, .int (jI z1)] : List Value).toArray below meth c H locs 0 0 Q (F0 m 10 ls [.int (jI jz), .ref ma]) := by
    intro jz hF hjz H locs hP hD hS ls hl
    refine ji_iconst hx hb dXM_at_10 ?_
    refine jwVi (rest := []) (wr := [(a11, .inl (cA, 300, .inl (jA y11)))]) ⟨hx, hb, hml, hown, hts⟩ (c_XM_goesP l dC dI cA cZ _ ma a0 a1 a2 a3 a4 a5 a6 a7 a8 a9 a10 a11 mth mn mp mw mu md mo jz 1 (by first | assumption | omega) (by first | assumption | omega)) (cwV 2 hts (jG_V tw_698 tw_700 ts_14 tw_6 tw_701) rfl rfl rfl (by decide +kernel) (by rw [hR]; exact ⟨Nat.le_of_ble_eq_true rfl, Nat.le_of_ble_eq_true rfl⟩)) hK hP hD hS hA hN [0] [1] rfl rfl (by decide) (by decide) (by decide) 0 5 rfl rfl rfl rfl hl.1 rfl (Nat.le_of_ble_eq_true rfl) dXM_at_11 (by rw [hR]; exact ⟨Nat.le_of_ble_eq_true rfl, Nat.le_of_ble_eq_true rfl⟩) (fun v u H locs hwb hP hD hS => ?_)
    obtain ⟨r, mth1'⟩ := u
    try dsimp only at hwb
    obtain ⟨er, hwb, f⟩ := hwb
    subst er
    have f : (r = 0 ∧ mth1' = 1 ∧ jz = 0) ∨ (r = 0 ∧ mth1' = 2 ∧ jz = 1 ∧ (1 : Int) = 0) ∨ (r = 1 ∧ mth1' = 0 ∧ jz = 1 ∧ (1 : Int) = 1) := f
    have hP : va_P (dC, dI) vwCl [(a11, .inl (cA, 300, .inl (jA y11))), (ma, .inr (5, [.int (jI mth1'), .int (jI mn), .ref a0, .int (jI mp), .int (jI mw), .ref a1, .ref a2, .ref a3, .ref a4, .ref a5, .ref a6, .ref a7, .ref a8, .ref a9, .ref a10, .long (jL mu), .long (jL md), .int (jI mo), .ref a11]))] H := hP
    have hD : va_D A [(a11, .inl (cA, 300, .inl (jA y11))), (ma, .inr (5, [.int (jI mth1'), .int (jI mn), .ref a0, .int (jI mp), .int (jI mw), .ref a1, .ref a2, .ref a3, .ref a4, .ref a5, .ref a6, .ref a7, .ref a8, .ref a9, .ref a10, .long (jL mu), .long (jL md), .int (jI mo), .ref a11]))] := hD
    refine ji_if_ne (tgt := 19) hx hb dXM_at_14 (by decide) (by omega) (fun c14_ => ?_) (fun c14_ => ?_)
    · refine lv_iload_n hx hb dXM_at_19 rfl (lv_at hl 1 rfl) ?_
      refine lv_aload_n hx hb dXM_at_20 rfl (lv_at hl 0 rfl) ?_
      refine va_get (D := (dC, dI)) (ci := 5) (v := .int (jI mo)) (C := RXM) (T := TXM) (N := 19) hx hb hts (fun w h => jmem (inXM w h)) hown hK hP 1 rfl rfl 17 (by decide) (hts _ (jmem tw_645)) (fun _ h9 => h9) rfl dXM_at_21 ?_
      refine ji_icmp_ge (tgt := 36) hx hb dXM_at_24 (by decide) (by omega) (by omega) (fun c24_ => ?_) (fun c24_ => ?_)
      · refine ji_iconst hx hb dXM_at_36 ?_
        have hP9 := hP.sub (ws' := [(ma, .inr (5, [.int (jI mth1'), .int (jI mn), .ref a0, .int (jI mp), .int (jI mw), .ref a1, .ref a2, .ref a3, .ref a4, .ref a5, .ref a6, .ref a7, .ref a8, .ref a9, .ref a10, .long (jL mu), .long (jL md), .int (jI mo), .ref a11])), (a11, .inl (cA, 300, .inl (jA y11)))]) [1, 0] rfl
        have hD9 := hD.sub (ws' := [(ma, .inr (5, [.int (jI mth1'), .int (jI mn), .ref a0, .int (jI mp), .int (jI mw), .ref a1, .ref a2, .ref a3, .ref a4, .ref a5, .ref a6, .ref a7, .ref a8, .ref a9, .ref a10, .long (jL mu), .long (jL md), .int (jI mo), .ref a11])), (a11, .inl (cA, 300, .inl (jA y11)))]) [1, 0] (by decide) rfl
        subst hAe
        subst hQ
        exact W.iret (v := jI (-1)) hx hb hr (fun t ht hW => ⟨⟨_, (-1, mth1'), rfl, ⟨rfl, Eq.trans (by rw [f_XM_atP_J10_s]; rw [← hwb]; try dsimp only; rw [if_neg c14_, if_neg (Int.not_lt.mpr c24_)]; try rfl) hF, show (mth1' = 1 ∧ z1 < 0) ∨ (mth1' = 0 ∧ 0 ≤ z1) from by first | assumption | omega | exact jset_b (by assumption) (by omega) | exact jset_l (by assumption) (by omega) | exact jset_l (fun _ _ => rfl) (by omega) | exact fun _ _ => rfl | exact l_trans (by assumption) (by assumption)⟩, ⟨by rw [ht]; exact hP9, va_K.moved hW.alike hK, hD9⟩⟩, hS.F ht⟩) hS.2.2 dXM_at_37
      · refine lv_aload_n hx hb dXM_at_27 rfl (lv_at hl 0 rfl) ?_
        refine va_get (D := (dC, dI)) (ci := 5) (v := .ref a11) (C := RXM) (T := TXM) (N := 19) hx hb hts (fun w h => jmem (inXM w h)) hown hK hP 1 rfl rfl 18 (by decide) (hts _ (jmem tw_646)) (fun _ h9 => h9) rfl dXM_at_28 ?_
        refine lv_iload_n hx hb dXM_at_31 rfl (lv_at hl 1 rfl) ?_
        refine ji_iald hx hb hK hP 0 0 rfl rfl ⟨by omega, by omega⟩ (by decide) dXM_at_32 ?_
        refine lv_goto (tgt := 37) hx hb dXM_at_33 (by decide) ?_
        have hP9 := hP.sub (ws' := [(ma, .inr (5, [.int (jI mth1'), .int (jI mn), .ref a0, .int (jI mp), .int (jI mw), .ref a1, .ref a2, .ref a3, .ref a4, .ref a5, .ref a6, .ref a7, .ref a8, .ref a9, .ref a10, .long (jL mu), .long (jL md), .int (jI mo), .ref a11])), (a11, .inl (cA, 300, .inl (jA y11)))]) [1, 0] rfl
        have hD9 := hD.sub (ws' := [(ma, .inr (5, [.int (jI mth1'), .int (jI mn), .ref a0, .int (jI mp), .int (jI mw), .ref a1, .ref a2, .ref a3, .ref a4, .ref a5, .ref a6, .ref a7, .ref a8, .ref a9, .ref a10, .long (jL mu), .long (jL md), .int (jI mo), .ref a11])), (a11, .inl (cA, 300, .inl (jA y11)))]) [1, 0] (by decide) rfl
        subst hAe
        subst hQ
        exact W.iret (v := jI (y11 z1)) hx hb hr (fun t ht hW => ⟨⟨_, (y11 z1, mth1'), rfl, ⟨rfl, Eq.trans (by rw [f_XM_atP_J10_s]; rw [← hwb]; try dsimp only; rw [if_neg c14_, if_pos c24_]; try rfl) hF, show (mth1' = 1 ∧ z1 < 0) ∨ (mth1' = 0 ∧ 0 ≤ z1) from by first | assumption | omega | exact jset_b (by assumption) (by omega) | exact jset_l (by assumption) (by omega) | exact jset_l (fun _ _ => rfl) (by omega) | exact fun _ _ => rfl | exact l_trans (by assumption) (by assumption)⟩, ⟨by rw [ht]; exact hP9, va_K.moved hW.alike hK, hD9⟩⟩, hS.F ht⟩) hS.2.2 dXM_at_37
    · refine ji_iconst hx hb dXM_at_17 ?_
      have hP9 := hP.sub (ws' := [(ma, .inr (5, [.int (jI mth1'), .int (jI mn), .ref a0, .int (jI mp), .int (jI mw), .ref a1, .ref a2, .ref a3, .ref a4, .ref a5, .ref a6, .ref a7, .ref a8, .ref a9, .ref a10, .long (jL mu), .long (jL md), .int (jI mo), .ref a11])), (a11, .inl (cA, 300, .inl (jA y11)))]) [1, 0] rfl
      have hD9 := hD.sub (ws' := [(ma, .inr (5, [.int (jI mth1'), .int (jI mn), .ref a0, .int (jI mp), .int (jI mw), .ref a1, .ref a2, .ref a3, .ref a4, .ref a5, .ref a6, .ref a7, .ref a8, .ref a9, .ref a10, .long (jL mu), .long (jL md), .int (jI mo), .ref a11])), (a11, .inl (cA, 300, .inl (jA y11)))]) [1, 0] (by decide) rfl
      subst hAe
      subst hQ
      exact W.iret (v := jI 0) hx hb hr (fun t ht hW => ⟨⟨_, (0, mth1'), rfl, ⟨rfl, Eq.trans (by rw [f_XM_atP_J10_s]; rw [← hwb]; try dsimp only; rw [if_pos c14_]; try rfl) hF, show (mth1' = 1 ∧ z1 < 0) ∨ (mth1' = 0 ∧ 0 ≤ z1) from by first | assumption | omega | exact jset_b (by assumption) (by omega) | exact jset_l (by assumption) (by omega) | exact jset_l (fun _ _ => rfl) (by omega) | exact fun _ _ => rfl | exact l_trans (by assumption) (by assumption)⟩, ⟨by rw [ht]; exact hP9, va_K.moved hW.alike hK, hD9⟩⟩, hS.F ht⟩) hS.2.2 dXM_at_18
  refine ji_if_lt (tgt := 9) hx hb dXM_at_2 (by decide) (by omega) (fun c2_ => ?_) (fun c2_ => ?_)
  · refine ji_iconst hx hb dXM_at_9 ?_
    exact join10 0 (Eq.trans (by rw [f_XM_atP_s]; rw [if_pos c2_]; try rfl) rfl) (by first | assumption | omega | exact jset_b (by assumption) (by omega)) _ _ hP hD hS ls (lv_sub hl [0, 1] rfl)
  · refine ji_iconst hx hb dXM_at_5 ?_
    refine lv_goto (tgt := 10) hx hb dXM_at_6 (by decide) ?_
    exact join10 1 (Eq.trans (by rw [f_XM_atP_s]; rw [if_neg (Int.not_lt.mpr c2_)]; try rfl) rfl) (by first | assumption | omega | exact jset_b (by assumption) (by omega)) _ _ hP hD hS ls (lv_sub hl [0, 1] rfl)

end
section
/-! both print a number alike -/
def kPg (q m : Int) (fa v : Int → Int) : Prop := q = m ∧ 0 ≤ m ∧ ∀ i, 0 ≤ i → i < m → fa i = v i ∧ 0 ≤ v i ∧ v i ≤ 255
noncomputable def kD (z : Int) : Int := if z < 10 then 1 else if z < 100 then 2 else if z < 1000 then 3 else if z < 10000 then 4 else if z < 100000 then 5 else 6
theorem kD_b (z : Int) : 1 ≤ kD z ∧ kD z ≤ 6 ∧ (z < 10 → kD z = 1) ∧ (z < 100 → kD z ≤ 2) := by
  unfold kD
  (repeat' split) <;> omega
theorem kPg_put (q m : Int) (fa v : Int → Int) (c : Int) (hc : 0 ≤ c ∧ c ≤ 255) (h : kPg q m fa v) : kPg (q + 1) (m + 1) (jset fa q c) (jset v m c) := by
  obtain ⟨h1, h2, h3⟩ := h
  subst h1
  refine ⟨rfl, by omega, fun i a b => ?_⟩
  unfold jset
  by_cases d : i = q
  · rw [if_pos d, if_pos d]; exact ⟨rfl, hc⟩
  · rw [if_neg d, if_neg d]; exact h3 i a (by omega)
theorem dig_b (a b : Int) (ha : 0 ≤ a) : 0 ≤ 48 + Int.tmod (Int.tdiv a b) 10 ∧ 48 + Int.tmod (Int.tdiv a b) 10 ≤ 255 := by
  have h1 := Int.tmod_lt_of_pos (Int.tdiv a b) (show (0 : Int) < 10 by decide)
  have h2 := Int.lt_tmod_of_pos (Int.tdiv a b) (show (0 : Int) < 10 by decide)
  omega
section EQP3
variable (mth mn mp mw mu md mo : Int) (y11 : Int → Int) (z1 zi pn : Int) (pf : Int → Int)
/-- from one power of ten on both put the same signs -/
def kNm (u d : Int) : Prop := ∀ (n n' : Nat) (q m : Int) (fa v : Int → Int), u < (n : Int) → u < (n' : Int) → kPg q m fa v → q + d ≤ 160 → ∃ fa' v', f_XP_putNumber_L3 pn pf zi n u q fa = (q + d, fa') ∧ f_XM_tellP_L23 mth mn mp mw mu md mo y11 z1 zi n' u m v = (m + d, v') ∧ kPg (q + d) (m + d) fa' v'
theorem kNm_0 : kNm mth mn mp mw mu md mo y11 z1 zi pn pf 0 0 := by
  intro n n' q m fa v h1 h2 h3 h4
  cases n with
  | zero => exact absurd h1 (by decide)
  | succ n =>
    cases n' with
    | zero => exact absurd h2 (by decide)
    | succ n' =>
      rw [f_XP_putNumber_L3_s, f_XM_tellP_L23_s, if_neg (show ¬ (0 : Int) < 0 by decide), if_neg (show ¬ (0 : Int) < 0 by decide), Int.add_zero, Int.add_zero]
      exact ⟨fa, v, rfl, rfl, h3⟩
theorem kNm_step (u u' d : Int) (hu : Int.tdiv u 10 = u') (hp : u' < u) (hq : 0 < u) (hd : 0 ≤ d) (hi : 0 ≤ zi) (hz : u ≤ zi ∨ u = 1) (h : kNm mth mn mp mw mu md mo y11 z1 zi pn pf u' d) : kNm mth mn mp mw mu md mo y11 z1 zi pn pf u (1 + d) := by
  intro n n' q m fa v h1 h2 h3 h4
  cases n with
  | zero => exact absurd h1 (by omega)
  | succ n =>
    cases n' with
    | zero => exact absurd h2 (by omega)
    | succ n' =>
      have hput : f_XP_put q fa (48 + Int.tmod (Int.tdiv zi u) 10) = (q + 1, jset fa q (48 + Int.tmod (Int.tdiv zi u) 10)) := by rw [f_XP_put_s, if_pos (by omega)]
      obtain ⟨fa', v', e1, e2, e3⟩ := h n n' (q + 1) (m + 1) _ _ (by omega) (by omega) (kPg_put q m fa v (48 + Int.tmod (Int.tdiv zi u) 10) (dig_b zi u hi) h3) (by omega)
      have a1 : q + (1 + d) = q + 1 + d := by omega
      have a2 : m + (1 + d) = m + 1 + d := by omega
      rw [a1, a2]
      refine ⟨fa', v', ?_, ?_, e3⟩
      · rw [f_XP_putNumber_L3_s, if_pos hq, hput, hu]
        by_cases c : zi < u
        · rw [if_pos c, if_pos (show u = 1 by omega)]; exact e1
        · rw [if_neg c]; exact e1
      · rw [f_XM_tellP_L23_s, if_pos hq, f_XM_putP_s, hu]; exact e2
theorem skip1 (n : Nat) (u u' q : Int) (fa : Int → Int) (hu : Int.tdiv u 10 = u') (h1 : zi < u) (h2 : 1 < u) : f_XP_putNumber_L3 pn pf zi (n + 1) u q fa = f_XP_putNumber_L3 pn pf zi n u' q fa := by
  rw [f_XP_putNumber_L3_s, if_pos (show 0 < u by omega), if_pos h1, if_neg (show ¬ u = 1 by omega), hu]
theorem tdq (a b : Int) (ha : 0 ≤ a) (hb : 0 < b) : 9 < Int.tdiv a b ↔ 10 * b ≤ a := by
  rw [Int.tdiv_eq_ediv_of_nonneg ha]
  constructor
  · intro h
    have h2 := Int.mul_ediv_self_le (x := a) (k := b) (by omega)
    have h3 := Int.mul_le_mul_of_nonneg_left (show 10 ≤ a / b by omega) (show 0 ≤ b by omega)
    omega
  · intro h
    have h4 : 10 ≤ a / b := (Int.le_ediv_iff_mul_le hb).mpr h
    omega
theorem up1 (m1 : Int) (v1 : Int → Int) (n : Nat) (u : Int) (h0 : 0 ≤ zi) (hu : 0 < u) (h : 10 * u ≤ zi) : f_XM_tellP_L7 mth mn mp mw mu md mo y11 z1 zi m1 v1 (n + 1) u = f_XM_tellP_L7 mth mn mp mw mu md mo y11 z1 zi m1 v1 n (10 * u) := by
  rw [f_XM_tellP_L7_s, if_pos ((tdq zi u h0 hu).mpr h)]
theorem up0 (m1 : Int) (v1 : Int → Int) (n : Nat) (u : Int) (h0 : 0 ≤ zi) (hu : 0 < u) (h : zi < 10 * u) : f_XM_tellP_L7 mth mn mp mw mu md mo y11 z1 zi m1 v1 (n + 1) u = f_XM_tellP_L23 mth mn mp mw mu md mo y11 z1 zi (Int.toNat (u) + 1) u m1 v1 := by
  rw [f_XM_tellP_L7_s, if_neg (fun q => absurd ((tdq zi u h0 hu).mp q) (by omega))]
theorem e_num (h0 : 0 ≤ zi ∧ zi ≤ 999999) (m1 : Int) (v1 : Int → Int) (hk : kPg pn m1 pf v1) (hl : pn + kD zi ≤ 160) : ∃ fa' v', f_XP_putNumber pn pf zi = (pn + kD zi, fa') ∧ f_XM_tellP_L7 mth mn mp mw mu md mo y11 z1 zi m1 v1 (Int.toNat (100001 - 1) + 1) 1 = (m1 + kD zi, v') ∧ kPg (pn + kD zi) (m1 + kD zi) fa' v' := by
  rw [f_XP_putNumber_s]
  have k1 := kNm_step mth mn mp mw mu md mo y11 z1 zi pn pf 1 0 0 (by decide) (by decide) (by decide) (by decide) h0.1 (Or.inr rfl) (kNm_0 mth mn mp mw mu md mo y11 z1 zi pn pf)
  rw [show Int.toNat (100000) + 1 = 99995 + 1 + 1 + 1 + 1 + 1 + 1 by decide, show Int.toNat (100001 - 1) + 1 = 99995 + 1 + 1 + 1 + 1 + 1 + 1 by decide]
  by_cases c1 : zi < 10
  · have e : kD zi = 1 + 0 := by unfold kD; rw [if_pos c1]; rfl
    rw [e] at hl ⊢
    rw [skip1 zi pn pf _ 100000 10000 pn pf (by decide) (by omega) (by decide), skip1 zi pn pf _ 10000 1000 pn pf (by decide) (by omega) (by decide), skip1 zi pn pf _ 1000 100 pn pf (by decide) (by omega) (by decide), skip1 zi pn pf _ 100 10 pn pf (by decide) (by omega) (by decide), skip1 zi pn pf _ 10 1 pn pf (by decide) (by omega) (by decide)]
    rw [up0 mth mn mp mw mu md mo y11 z1 zi m1 v1 _ 1 h0.1 (by decide) (by omega)]
    exact k1 _ _ pn m1 pf v1 (by decide) (by decide) hk hl
  · have k2 := kNm_step mth mn mp mw mu md mo y11 z1 zi pn pf 10 1 (1 + 0) (by decide) (by decide) (by decide) (by decide) h0.1 (Or.inl (by omega)) k1
    by_cases c2 : zi < 100
    · have e : kD zi = 1 + (1 + 0) := by unfold kD; rw [if_neg c1, if_pos c2]; rfl
      rw [e] at hl ⊢
      rw [skip1 zi pn pf _ 100000 10000 pn pf (by decide) (by omega) (by decide), skip1 zi pn pf _ 10000 1000 pn pf (by decide) (by omega) (by decide), skip1 zi pn pf _ 1000 100 pn pf (by decide) (by omega) (by decide), skip1 zi pn pf _ 100 10 pn pf (by decide) (by omega) (by decide)]
      rw [up1 mth mn mp mw mu md mo y11 z1 zi m1 v1 _ 1 h0.1 (by decide) (by omega), up0 mth mn mp mw mu md mo y11 z1 zi m1 v1 _ (10 * 1) h0.1 (by decide) (by omega)]
      exact k2 _ _ pn m1 pf v1 (by decide) (by decide) hk hl
    · have k3 := kNm_step mth mn mp mw mu md mo y11 z1 zi pn pf 100 10 (1 + (1 + 0)) (by decide) (by decide) (by decide) (by decide) h0.1 (Or.inl (by omega)) k2
      by_cases c3 : zi < 1000
      · have e : kD zi = 1 + (1 + (1 + 0)) := by unfold kD; rw [if_neg c1, if_neg c2, if_pos c3]; rfl
        rw [e] at hl ⊢
        rw [skip1 zi pn pf _ 100000 10000 pn pf (by decide) (by omega) (by decide), skip1 zi pn pf _ 10000 1000 pn pf (by decide) (by omega) (by decide), skip1 zi pn pf _ 1000 100 pn pf (by decide) (by omega) (by decide)]
        rw [up1 mth mn mp mw mu md mo y11 z1 zi m1 v1 _ 1 h0.1 (by decide) (by omega), up1 mth mn mp mw mu md mo y11 z1 zi m1 v1 _ (10 * 1) h0.1 (by decide) (by omega), up0 mth mn mp mw mu md mo y11 z1 zi m1 v1 _ (10 * (10 * 1)) h0.1 (by decide) (by omega)]
        exact k3 _ _ pn m1 pf v1 (by decide) (by decide) hk hl
      · have k4 := kNm_step mth mn mp mw mu md mo y11 z1 zi pn pf 1000 100 (1 + (1 + (1 + 0))) (by decide) (by decide) (by decide) (by decide) h0.1 (Or.inl (by omega)) k3
        by_cases c4 : zi < 10000
        · have e : kD zi = 1 + (1 + (1 + (1 + 0))) := by unfold kD; rw [if_neg c1, if_neg c2, if_neg c3, if_pos c4]; rfl
          rw [e] at hl ⊢
          rw [skip1 zi pn pf _ 100000 10000 pn pf (by decide) (by omega) (by decide), skip1 zi pn pf _ 10000 1000 pn pf (by decide) (by omega) (by decide)]
          rw [up1 mth mn mp mw mu md mo y11 z1 zi m1 v1 _ 1 h0.1 (by decide) (by omega), up1 mth mn mp mw mu md mo y11 z1 zi m1 v1 _ (10 * 1) h0.1 (by decide) (by omega), up1 mth mn mp mw mu md mo y11 z1 zi m1 v1 _ (10 * (10 * 1)) h0.1 (by decide) (by omega), up0 mth mn mp mw mu md mo y11 z1 zi m1 v1 _ (10 * (10 * (10 * 1))) h0.1 (by decide) (by omega)]
          exact k4 _ _ pn m1 pf v1 (by decide) (by decide) hk hl
        · have k5 := kNm_step mth mn mp mw mu md mo y11 z1 zi pn pf 10000 1000 (1 + (1 + (1 + (1 + 0)))) (by decide) (by decide) (by decide) (by decide) h0.1 (Or.inl (by omega)) k4
          by_cases c5 : zi < 100000
          · have e : kD zi = 1 + (1 + (1 + (1 + (1 + 0)))) := by unfold kD; rw [if_neg c1, if_neg c2, if_neg c3, if_neg c4, if_pos c5]; rfl
            rw [e] at hl ⊢
            rw [skip1 zi pn pf _ 100000 10000 pn pf (by decide) (by omega) (by decide)]
            rw [up1 mth mn mp mw mu md mo y11 z1 zi m1 v1 _ 1 h0.1 (by decide) (by omega), up1 mth mn mp mw mu md mo y11 z1 zi m1 v1 _ (10 * 1) h0.1 (by decide) (by omega), up1 mth mn mp mw mu md mo y11 z1 zi m1 v1 _ (10 * (10 * 1)) h0.1 (by decide) (by omega), up1 mth mn mp mw mu md mo y11 z1 zi m1 v1 _ (10 * (10 * (10 * 1))) h0.1 (by decide) (by omega), up0 mth mn mp mw mu md mo y11 z1 zi m1 v1 _ (10 * (10 * (10 * (10 * 1)))) h0.1 (by decide) (by omega)]
            exact k5 _ _ pn m1 pf v1 (by decide) (by decide) hk hl
          · have k6 := kNm_step mth mn mp mw mu md mo y11 z1 zi pn pf 100000 10000 (1 + (1 + (1 + (1 + (1 + 0))))) (by decide) (by decide) (by decide) (by decide) h0.1 (Or.inl (by omega)) k5
            have e : kD zi = 1 + (1 + (1 + (1 + (1 + (1 + 0))))) := by unfold kD; rw [if_neg c1, if_neg c2, if_neg c3, if_neg c4, if_neg c5]; rfl
            rw [e] at hl ⊢
            rw [up1 mth mn mp mw mu md mo y11 z1 zi m1 v1 _ 1 h0.1 (by decide) (by omega), up1 mth mn mp mw mu md mo y11 z1 zi m1 v1 _ (10 * 1) h0.1 (by decide) (by omega), up1 mth mn mp mw mu md mo y11 z1 zi m1 v1 _ (10 * (10 * 1)) h0.1 (by decide) (by omega), up1 mth mn mp mw mu md mo y11 z1 zi m1 v1 _ (10 * (10 * (10 * 1))) h0.1 (by decide) (by omega), up1 mth mn mp mw mu md mo y11 z1 zi m1 v1 _ (10 * (10 * (10 * (10 * 1)))) h0.1 (by decide) (by omega), up0 mth mn mp mw mu md mo y11 z1 zi m1 v1 _ (10 * (10 * (10 * (10 * (10 * 1))))) h0.1 (by decide) (by omega)]
            exact k6 _ _ pn m1 pf v1 (by decide) (by decide) hk hl
end EQP3
/-- a sign and a number -/
theorem e_tell (mth mn mp mw mu md q m c zi : Int) (fa v : Int → Int) (hc : 0 ≤ c ∧ c ≤ 255) (h0 : 0 ≤ zi ∧ zi ≤ 999999) (hk : kPg q m fa v) (hl : q + (1 + kD zi) ≤ 160) : ∃ fa1 fa' v', f_XP_put q fa c = (q + 1, fa1) ∧ f_XP_putNumber (q + 1) fa1 zi = (q + (1 + kD zi), fa') ∧ f_XM_tellP mth mn mp mw mu md m v c zi = (m + (1 + kD zi), v') ∧ kPg (q + (1 + kD zi)) (m + (1 + kD zi)) fa' v' := by
  have hb := kD_b zi
  have hput : f_XP_put q fa c = (q + 1, jset fa q c) := by rw [f_XP_put_s, if_pos (by omega)]
  obtain ⟨fa', v', e1, e2, e3⟩ := e_num mth mn mp mw mu md m v c zi (q + 1) (jset fa q c) h0 (m + 1) (jset v m c) (kPg_put q m fa v c hc hk) (by omega)
  rw [Int.add_assoc, Int.add_comm 1 (kD zi), ← Int.add_assoc] at e1
  have a1 : q + (1 + kD zi) = q + kD zi + 1 := by omega
  have a2 : m + (1 + kD zi) = m + 1 + kD zi := by omega
  have a3 : q + 1 + kD zi = q + kD zi + 1 := by omega
  rw [a3] at e3
  rw [a1, a2]
  exact ⟨jset fa q c, fa', v', hput, e1, by rw [f_XM_tellP_s, f_XM_putP_s]; exact e2, e3⟩
theorem put_digit (q k : Int) (fa : Int → Int) (hk : 0 ≤ k ∧ k ≤ 9) : f_XP_putNumber q fa k = f_XP_put q fa (48 + k) := by
  rw [f_XP_putNumber_s, show Int.toNat (100000) + 1 = 99994 + 1 + 1 + 1 + 1 + 1 + 1 + 1 by decide]
  rw [skip1 k q fa _ 100000 10000 q fa (by decide) (by omega) (by decide), skip1 k q fa _ 10000 1000 q fa (by decide) (by omega) (by decide), skip1 k q fa _ 1000 100 q fa (by decide) (by omega) (by decide), skip1 k q fa _ 100 10 q fa (by decide) (by omega) (by decide), skip1 k q fa _ 10 1 q fa (by decide) (by omega) (by decide)]
  have e1 : Int.tdiv k 1 = k := by rw [Int.tdiv_eq_ediv_of_nonneg hk.1]; omega
  have e2 : Int.tmod k 10 = k := by rw [Int.tmod_eq_emod_of_nonneg hk.1]; omega
  rw [f_XP_putNumber_L3_s, if_pos (show (0 : Int) < 1 by decide), e1, e2]
  have e3 : ∀ p : Int × (Int → Int), (match p with | (a, b) => f_XP_putNumber_L3 q fa k (99994 + 1) (Int.tdiv 1 10) a b) = p := by
    intro p
    obtain ⟨a, b⟩ := p
    dsimp only
    rw [f_XP_putNumber_L3_s, if_neg (show ¬ (0 : Int) < Int.tdiv 1 10 by decide)]
  by_cases c : k < 1
  · rw [if_pos c, if_pos (rfl : (1 : Int) = 1)]; exact e3 _
  · rw [if_neg c]; exact e3 _

end
section
/-! a grade tells at most four routes -/
noncomputable def kC (a : Int) : Nat → Int
  | 0 => 0
  | n + 1 => f_XG_hasBit a (7 - (n : Int)) + kC a n
theorem hb_01 (a k : Int) : f_XG_hasBit a k = 0 ∨ f_XG_hasBit a k = 1 := by
  rw [f_XG_hasBit_s]
  split
  · exact Or.inl rfl
  · exact Or.inr rfl
theorem kC_0 : ∀ n, kC 0 n = 0 := by
  intro n
  induction n with
  | zero => rfl
  | succ n ih =>
    show f_XG_hasBit 0 (7 - (n : Int)) + kC 0 n = 0
    rw [q_hasBit0', ih]; rfl
theorem kC_nn (a : Int) : ∀ n, 0 ≤ kC a n := by
  intro n
  induction n with
  | zero => exact Int.le_refl 0
  | succ n ih =>
    show 0 ≤ f_XG_hasBit a (7 - (n : Int)) + kC a n
    have := hb_01 a (7 - (n : Int))
    omega
theorem kC_or (a k : Int) (hk : 0 ≤ k) : ∀ n : Nat, n ≤ 8 → kC (jor a (jpow k)) n ≤ kC a n + (if 8 - (n : Int) ≤ k then 1 else 0) := by
  intro n
  induction n with
  | zero => intro _; show (0 : Int) ≤ 0 + _; split <;> omega
  | succ n ih =>
    intro hn
    have h := ih (by omega)
    show f_XG_hasBit (jor a (jpow k)) (7 - (n : Int)) + kC (jor a (jpow k)) n ≤ f_XG_hasBit a (7 - (n : Int)) + kC a n + _
    have h1 := hb_01 a (7 - (n : Int))
    rw [hb_or a k (7 - (n : Int)) hk (by omega)]
    by_cases c : 7 - (n : Int) = k
    · rw [if_neg (show ¬ 8 - (n : Int) ≤ k by omega)] at h
      rw [if_pos c, if_pos (show 8 - ((n + 1 : Nat) : Int) ≤ k by omega)]
      omega
    · rw [if_neg c]
      by_cases d : 8 - (n : Int) ≤ k
      · rw [if_pos d] at h
        rw [if_pos (show 8 - ((n + 1 : Nat) : Int) ≤ k by omega)]
        omega
      · rw [if_neg d] at h
        rw [if_neg (show ¬ 8 - ((n + 1 : Nat) : Int) ≤ k by omega)]
        omega
theorem kC_or1 (a k : Int) (hk : 0 ≤ k) : kC (jor a (jpow k)) 8 ≤ kC a 8 + 1 := by
  have h := kC_or a k hk 8 (by decide)
  split at h <;> omega
theorem q_one (tn tp tw : Int) (tf : Int → Int) (zs zc : Int) : (f_XT_takeOneOf tn tp tw tf zs zc).1 = -1 ∨ 0 ≤ (f_XT_takeOneOf tn tp tw tf zs zc).1 := by
  rw [f_XT_takeOneOf_s]
  (repeat' split) <;> first | exact Or.inl rfl | (dsimp only; omega)
theorem q_numL (tn tp tw : Int) (tf : Int → Int) (zl zm : Int) (hz : 0 ≤ zl) : ∀ (n : Nat) (v k q : Int), 6 - k < (n : Int) → 0 ≤ k → k ≤ 6 → (f_XT_number_L22 tn tp tw tf zl zm n v k q).1 = -1 ∨ 0 ≤ (f_XT_number_L22 tn tp tw tf zl zm n v k q).1 := by
  intro n
  induction n with
  | zero => intro v k q h; omega
  | succ n ih =>
    intro v k q h1 h2 h3
    rw [f_XT_number_L22_s]
    repeat' split
    all_goals first | exact Or.inl rfl | (exact ih _ _ _ (by omega) (by omega) (by omega)) | (dsimp only; omega)
theorem q_num (tn tp tw : Int) (tf : Int → Int) (zl zm : Int) (hz : 0 ≤ zl) : (f_XT_number tn tp tw tf zl zm).1 = -1 ∨ 0 ≤ (f_XT_number tn tp tw tf zl zm).1 := by
  rw [f_XT_number_s]
  split
  split
  · split; exact Or.inl rfl
  · exact q_numL tn tp tw tf zl zm hz _ _ _ _ (by decide) (by decide) (by decide)
theorem q_routesNL (tn tp tw : Int) (tf : Int → Int) (bg bf : Int) (fr : Int → Int) (zg : Int) : ∀ (n : Nat) (k v q w : Int) (yr : Int → Int), 4 - k < (n : Int) → 0 ≤ k → k ≤ 4 → kC (yr zg) 8 ≤ k → kC ((f_XR_routes_L19 tn tp tw tf bg bf fr zg n k v q w yr).2.2.2 zg) 8 ≤ 4 ∧ ∀ g, g ≠ zg → (f_XR_routes_L19 tn tp tw tf bg bf fr zg n k v q w yr).2.2.2 g = yr g := by
  intro n
  induction n with
  | zero => intro k v q w yr h; omega
  | succ n ih =>
    intro k v q w yr h1 h2 h3 h4
    have stay : kC (yr zg) 8 ≤ 4 ∧ ∀ g, g ≠ zg → yr g = yr g := ⟨by omega, fun _ _ => rfl⟩
    have go : ∀ r q' w', 0 ≤ r → k < 4 → kC ((f_XR_routes_L19 tn tp tw tf bg bf fr zg n (k + 1) r q' w' (f_XB_tellRoute bg bf yr zg r)).2.2.2 zg) 8 ≤ 4 ∧ ∀ g, g ≠ zg → (f_XR_routes_L19 tn tp tw tf bg bf fr zg n (k + 1) r q' w' (f_XB_tellRoute bg bf yr zg r)).2.2.2 g = yr g := by
      intro r q' w' hr hk
      have e1 : f_XB_tellRoute bg bf yr zg r zg = jor (yr zg) (jpow r) := by rw [f_XB_tellRoute_s]; unfold jset; rw [if_pos rfl]
      have e2 := kC_or1 (yr zg) r hr
      obtain ⟨i1, i2⟩ := ih (k + 1) r q' w' (f_XB_tellRoute bg bf yr zg r) (by omega) (by omega) (by omega) (by rw [e1]; omega)
      refine ⟨i1, fun g hg => ?_⟩
      rw [i2 g hg, f_XB_tellRoute_s]
      unfold jset
      rw [if_neg hg]
    rw [f_XR_routes_L19_s]
    have t1 := q_one tn q w tf 48 8
    by_cases a : k < 4
    · rw [if_pos a]
      by_cases b : 0 < k
      · rw [if_pos b]
        obtain ⟨r15, p16⟩ := f_XT_next tn q w tf
        dsimp only
        have t2 := q_one tn p16 w tf 48 8
        split
        · exact stay
        · generalize f_XT_takeOneOf tn p16 w tf 48 8 = X9 at t2 ⊢
          obtain ⟨r22, p23, w24⟩ := X9
          dsimp only at t2 ⊢
          split
          · exact stay
          · split
            · exact go _ _ _ (by omega) a
            · exact stay
      · rw [if_neg b]
        generalize f_XT_takeOneOf tn q w tf 48 8 = X9 at t1 ⊢
        obtain ⟨r1, p2, w1⟩ := X9
        dsimp only at t1 ⊢
        split
        · exact stay
        · split
          · exact go _ _ _ (by omega) a
          · exact stay
    · rw [if_neg a]; exact stay
/-- what holds of the routes of a book that is being read -/
def kRI (bg : Int) (fr : Int → Int) : Prop := (∀ g, 1 ≤ g → g ≤ 30 → kC (fr g) 8 ≤ 4) ∧ (∀ g, 1 ≤ g → g ≤ 30 → f_XG_hasBit bg g = 0 → fr g = 0)
theorem q_routesN (tn tp tw : Int) (tf : Int → Int) (bg bf : Int) (fr : Int → Int) (zg : Int) (h : fr zg = 0) : kC ((f_XR_routes tn tp tw tf bg bf fr zg).2.2.2 zg) 8 ≤ 4 ∧ ∀ g, g ≠ zg → (f_XR_routes tn tp tw tf bg bf fr zg).2.2.2 g = fr g := by
  have h0 : kC (fr zg) 8 ≤ 0 := by rw [h, kC_0]; decide
  rw [f_XR_routes_s]
  obtain ⟨r, p1⟩ := f_XT_skipIf tn tp tw tf 114
  dsimp only
  split
  · exact ⟨by dsimp only; omega, fun _ _ => rfl⟩
  · exact q_routesNL tn tp tw tf bg bf fr zg _ _ _ _ _ fr (by decide) (by decide) (by decide) h0
theorem q_routesOL (tn tp tw : Int) (tf : Int → Int) (bg bf : Int) (fr : Int → Int) (zg : Int) (g : Int) (hg : g ≠ zg) : ∀ (n : Nat) (k v q w : Int) (yr : Int → Int), 4 - k < (n : Int) → k ≤ 4 → (f_XR_routes_L19 tn tp tw tf bg bf fr zg n k v q w yr).2.2.2 g = yr g := by
  intro n
  induction n with
  | zero => intro k v q w yr h; omega
  | succ n ih =>
    intro k v q w yr h1 h3
    have go : ∀ r q' w', k < 4 → (f_XR_routes_L19 tn tp tw tf bg bf fr zg n (k + 1) r q' w' (f_XB_tellRoute bg bf yr zg r)).2.2.2 g = yr g := by
      intro r q' w' hk
      rw [ih (k + 1) r q' w' _ (by omega) (by omega), f_XB_tellRoute_s]
      unfold jset
      rw [if_neg hg]
    rw [f_XR_routes_L19_s]
    by_cases a : k < 4
    · rw [if_pos a]
      by_cases b : 0 < k
      · rw [if_pos b]
        obtain ⟨r15, p16⟩ := f_XT_next tn q w tf
        dsimp only
        split
        · rfl
        · obtain ⟨r22, p23, w24⟩ := f_XT_takeOneOf tn p16 w tf 48 8
          dsimp only
          split
          · rfl
          · split
            · exact go _ _ _ a
            · rfl
      · rw [if_neg b]
        obtain ⟨r1, p2, w1⟩ := f_XT_takeOneOf tn q w tf 48 8
        dsimp only
        split
        · rfl
        · split
          · exact go _ _ _ a
          · rfl
    · rw [if_neg a]
theorem q_routesO (tn tp tw : Int) (tf : Int → Int) (bg bf : Int) (fr : Int → Int) (zg g : Int) (hg : g ≠ zg) : (f_XR_routes tn tp tw tf bg bf fr zg).2.2.2 g = fr g := by
  rw [f_XR_routes_s]
  obtain ⟨r, p1⟩ := f_XT_skipIf tn tp tw tf 114
  dsimp only
  split
  · rfl
  · exact q_routesOL tn tp tw tf bg bf fr zg g hg _ _ _ _ _ fr (by decide) (by decide)
theorem q_gradeN (tn tp tw : Int) (tf : Int → Int) (bg bf : Int) (ft fl fh fq fr : Int → Int) (h : kRI bg fr) : kRI (f_XR_grade tn tp tw tf bg bf ft fl fh fq fr).2.2.2.2.2.2.2.2 (f_XR_grade tn tp tw tf bg bf ft fl fh fq fr).2.2.2.2.2.2.2.1 := by
  rw [f_XR_grade_s]
  have hn := q_num tn tp tw tf 1 30 (by decide)
  generalize f_XT_number tn tp tw tf 1 30 = X9 at hn ⊢
  obtain ⟨r, p1, w1⟩ := X9
  dsimp only at hn ⊢
  by_cases a : r = -1
  · rw [if_pos a]; exact h
  · rw [if_neg a]
    by_cases b : f_XB_knows bg bf r = 0
    · rw [if_pos b]
      have hk : ∀ g, 1 ≤ g → f_XG_hasBit (f_XB_tellGrade bg bf r) g = if g = r then 1 else f_XG_hasBit bg g := fun g hg => by rw [f_XB_tellGrade_s]; exact hb_or bg r g (by omega) (by omega)
      have stay : kRI (f_XB_tellGrade bg bf r) fr := by
        refine ⟨h.1, fun g g1 g2 g3 => ?_⟩
        rw [hk g g1] at g3
        by_cases c : g = r
        · rw [if_pos c] at g3; exact absurd g3 (by decide)
        · rw [if_neg c] at g3; exact h.2 g g1 g2 g3
      obtain ⟨r5, p6, w7, ft1⟩ := f_XR_parent tn p1 w1 tf (f_XB_tellGrade bg bf r) bf ft r
      dsimp only
      by_cases c : r5 = 0
      · rw [if_pos c]; exact stay
      · rw [if_neg c]
        obtain ⟨r14, p15, w16, fl1, fh1⟩ := f_XR_spans tn p6 w7 tf (f_XB_tellGrade bg bf r) bf fl fh r
        dsimp only
        by_cases d : r14 = 0
        · rw [if_pos d]; exact stay
        · rw [if_neg d]
          have key : kRI (f_XB_tellGrade bg bf r) (f_XR_routes tn p15 w16 tf (f_XB_tellGrade bg bf r) bf fr r).2.2.2 := by
            by_cases e : 1 ≤ r ∧ r ≤ 30
            · have z : fr r = 0 := by
                refine h.2 r e.1 e.2 ?_
                rw [f_XB_knows_s, if_neg (show ¬ r < 1 by omega), if_neg (show ¬ 30 < r by omega)] at b
                by_cases q : f_XG_hasBit bg r = 0
                · exact q
                · rw [if_neg q] at b; exact absurd b (by decide)
              obtain ⟨i1, i2⟩ := q_routesN tn p15 w16 tf (f_XB_tellGrade bg bf r) bf fr r z
              refine ⟨fun g g1 g2 => ?_, fun g g1 g2 g3 => ?_⟩
              · by_cases q : g = r
                · rw [q]; exact i1
                · rw [i2 g q]; exact h.1 g g1 g2
              · by_cases q : g = r
                · rw [hk g g1, if_pos q] at g3; exact absurd g3 (by decide)
                · rw [i2 g q]; exact stay.2 g g1 g2 g3
            · have out : ∀ g, g ≠ r → (f_XR_routes tn p15 w16 tf (f_XB_tellGrade bg bf r) bf fr r).2.2.2 g = fr g := by
                intro g hg
                exact q_routesO tn p15 w16 tf (f_XB_tellGrade bg bf r) bf fr r g hg
              refine ⟨fun g g1 g2 => ?_, fun g g1 g2 g3 => ?_⟩
              · rw [out g (by omega)]; exact h.1 g g1 g2
              · rw [out g (by omega)]; exact stay.2 g g1 g2 g3
          generalize f_XR_routes tn p15 w16 tf (f_XB_tellGrade bg bf r) bf fr r = X9 at key ⊢
          obtain ⟨r24, p25, w26, fr1⟩ := X9
          dsimp only at key ⊢
          by_cases e : r24 = 0
          · rw [if_pos e]; exact key
          · rw [if_neg e]
            obtain ⟨r33, p34, w35, fq1⟩ := f_XR_limits tn p25 w26 tf (f_XB_tellGrade bg bf r) bf fq r
            dsimp only
            by_cases f : r33 = 0
            · rw [if_pos f]; exact key
            · rw [if_neg f]; exact key
    · rw [if_neg b]; exact h
theorem q_rowN (tn tp tw : Int) (tf : Int → Int) (bg bf : Int) (ft fl fh fq fr fd : Int → Int) (h : kRI bg fr) : kRI (f_XR_row tn tp tw tf bg bf ft fl fh fq fr fd).2.2.2.2.2.2.2.2.2.1 (f_XR_row tn tp tw tf bg bf ft fl fh fq fr fd).2.2.2.2.2.2.2.1 := by
  rw [f_XR_row_s]
  obtain ⟨r, p1⟩ := f_XT_skipIf tn tp tw tf 101
  dsimp only
  by_cases a : r = 0
  · rw [if_pos a]
    obtain ⟨r1, p2⟩ := f_XT_skipIf tn p1 tw tf 103
    dsimp only
    by_cases b : r1 = 0
    · rw [if_pos b]; exact h
    · rw [if_neg b]
      have g := q_gradeN tn p2 tw tf bg bf ft fl fh fq fr h
      generalize f_XR_grade tn p2 tw tf bg bf ft fl fh fq fr = X9 at g ⊢
      obtain ⟨r12, p13, w14, ft1, fl1, fh1, fq1, fr1, bg1⟩ := X9
      dsimp only at g ⊢
      by_cases c : r12 = 0
      · rw [if_pos c]; exact g
      · rw [if_neg c]
        obtain ⟨r26, p27, w28⟩ := f_XT_take tn p13 w14 tf 59
        dsimp only
        by_cases d : r26 = 0
        · rw [if_pos d]; exact g
        · rw [if_neg d]; exact g
  · rw [if_neg a]
    obtain ⟨r33, p34, w35, fd1, bf1⟩ := f_XR_formula tn p1 tw tf bg bf fd
    dsimp only
    by_cases c : r33 = 0
    · rw [if_pos c]; exact h
    · rw [if_neg c]
      obtain ⟨r43, p44, w45⟩ := f_XT_take tn p34 w35 tf 59
      dsimp only
      by_cases d : r43 = 0
      · rw [if_pos d]; exact h
      · rw [if_neg d]; exact h
theorem q_textNL (tn tp tw : Int) (tf : Int → Int) (bg bf : Int) (ft fl fh fq fr fd : Int → Int) : ∀ (n : Nat) (k q w : Int) (yt yl yh yq yr yd : Int → Int) (yg yf : Int), 400 - k < (n : Int) → k ≤ 400 → kRI yg yr → kRI (f_XR_text_L9 tn tp tw tf bg bf ft fl fh fq fr fd n k q w yt yl yh yq yr yd yg yf).2.2.2.2.2.2.2.2.2.1 (f_XR_text_L9 tn tp tw tf bg bf ft fl fh fq fr fd n k q w yt yl yh yq yr yd yg yf).2.2.2.2.2.2.2.1 := by
  intro n
  induction n with
  | zero => intro k q w yt yl yh yq yr yd yg yf h; omega
  | succ n ih =>
    intro k q w yt yl yh yq yr yd yg yf h1 h2 h3
    rw [f_XR_text_L9_s]
    by_cases a : k < 400
    · rw [if_pos a]
      obtain ⟨r, p1⟩ := f_XT_next tn q w tf
      dsimp only
      by_cases b : r = -1
      · rw [if_pos b]; exact h3
      · rw [if_neg b]
        have g := q_rowN tn p1 w tf yg yf yt yl yh yq yr yd h3
        generalize f_XR_row tn p1 w tf yg yf yt yl yh yq yr yd = X9 at g ⊢
        obtain ⟨r3, p4, w1, ft1, fl1, fh1, fq1, fr1, fd1, bg1, bf1⟩ := X9
        dsimp only at g ⊢
        by_cases c : r3 = 0
        · rw [if_pos c]; exact g
        · rw [if_neg c]; exact ih (k + 1) p4 w1 ft1 fl1 fh1 fq1 fr1 fd1 bg1 bf1 (by omega) (by omega) g
    · rw [if_neg a]; exact h3
/-- the routes of the book that read leaves (the third entry from the end but one is fr) -/
theorem q_readN (ba : Nat) (tn tp tw : Int) (tf : Int → Int) (da : Nat) (dg df : Int) (xt xp xl xh xq xr xd : Int → Int) : ∀ C, C = f_XG_read ba tn tp tw tf da dg df xt xp xl xh xq xr xd → ∀ g, 1 ≤ g → g ≤ 30 → kC (C.2.2.2.2.2.2.2.2.2.2.2.1 g) 8 ≤ 4 := by
  intro C hC
  rw [f_XG_read_s, f_XB_forget_s] at hC
  dsimp only at hC
  have h0 : kRI 0 (f_XA_fill31 xr 0) := by
    have z : ∀ g, 1 ≤ g → g ≤ 30 → f_XA_fill31 xr 0 g = 0 := fun g g1 g2 => by rw [f_XA_fill31_eq]; dsimp only; rw [if_pos (by omega)]
    exact ⟨fun g g1 g2 => by rw [z g g1 g2, kC_0]; decide, fun g g1 g2 _ => z g g1 g2⟩
  have hT : kRI (f_XR_text tn tp tw tf 0 0 (f_XA_fill31 xt 0) xl (f_XA_fill248 xh (-1)) (f_XA_fill124 xq (-1)) (f_XA_fill31 xr 0) (f_XA_fill32 xd 0)).2.2.2.2.2.2.2.2.2.1 (f_XR_text tn tp tw tf 0 0 (f_XA_fill31 xt 0) xl (f_XA_fill248 xh (-1)) (f_XA_fill124 xq (-1)) (f_XA_fill31 xr 0) (f_XA_fill32 xd 0)).2.2.2.2.2.2.2.1 := by
    rw [f_XR_text_s]
    exact q_textNL tn tp tw tf 0 0 _ _ _ _ _ _ _ _ _ _ _ _ _ _ _ _ _ _ (by decide) (by decide) h0
  generalize f_XR_text tn tp tw tf 0 0 (f_XA_fill31 xt 0) xl (f_XA_fill248 xh (-1)) (f_XA_fill124 xq (-1)) (f_XA_fill31 xr 0) (f_XA_fill32 xd 0) = X at hC hT
  obtain ⟨r, p1, w1, ft1, fl1, fh1, fq1, fr1, fd1, bg1, bf1⟩ := X
  dsimp only at hC hT
  by_cases c : r = 0
  · rw [if_pos c] at hC; rw [hC]; exact hT.1
  · rw [if_neg c] at hC; rw [hC]; exact hT.1

end
section
theorem mbit_hb' (a x : Int) (ha : 0 ≤ a ∧ a < 2147483648) (hx : 0 ≤ x ∧ x ≤ 7) : (jI ((jI a >>> (jI x &&& 31)).toInt) &&& jI 1).toInt = f_XG_hasBit a x := mbit_hb a x ha hx
/-! write's and at's answers -/
theorem put_e (mth mn mp mw mu md q m c : Int) (fa v : Int → Int) (hc : 0 ≤ c ∧ c ≤ 255) (hk : kPg q m fa v) (hl : q < 160) : ∃ fa' v', f_XP_put q fa c = (q + 1, fa') ∧ f_XM_putP mth mn mp mw mu md m v c = (m + 1, v') ∧ kPg (q + 1) (m + 1) fa' v' :=
  ⟨jset fa q c, jset v m c, by rw [f_XP_put_s, if_pos hl], by rw [f_XM_putP_s], kPg_put q m fa v c hc hk⟩
section EQP5
variable (mth mn mp mw mu md mo : Int) (bg bf : Int) (ft fl fh fq fr y1 y2 y3 y4 y5 y6 y7 y11 : Int → Int) (z1 m1 pn : Int) (pf : Int → Int)
/-- what both end with, once both have put their ';' -/
def kEnd (C : Int × (Int → Int)) (M : Int × Int × Int × (Int → Int)) : Prop := ∃ m v, kPg C.1 m C.2 v ∧ C.1 ≤ 160 ∧ M = (m, m1, m, v)
theorem e_wLim (hq : ∀ x, 0 ≤ x → x ≤ 3 → fq (z1 * 4 + x) = y7 (4 * z1 + x)) (hy7 : ∀ i, -1 ≤ y7 i ∧ y7 i ≤ 999999) : ∀ (n n' : Nat) (k q m : Int) (fa v : Int → Int), 4 - k < (n : Int) → 4 - k < (n' : Int) → 0 ≤ k → k ≤ 4 → kPg q m fa v → q ≤ 123 + 9 * k →
    kEnd m1 (match f_XB_printLimits_L2 bg bf fq z1 pn pf n k q fa with | (a, b) => match f_XP_put a b 59 with | (c, d) => (c, d)) (f_XM_writeP_L168 mth mn mp mw mu md mo y1 y2 y3 y4 y5 y6 y7 y11 z1 m1 n' k m v) := by
  intro n
  induction n with
  | zero => intro n' k q m fa v h; omega
  | succ n ih =>
    intro n' k q m fa v h1 h2 h3 h4 h5 h6
    cases n' with
    | zero => omega
    | succ n' =>
      rw [f_XB_printLimits_L2_s, f_XM_writeP_L168_s]
      by_cases a : k < 4
      · rw [if_pos a, if_pos a, f_XB_tellsLimit_s, hq k h3 (by omega)]
        have hb := hy7 (4 * z1 + k)
        by_cases b : y7 (4 * z1 + k) = -1
        · rw [if_pos b, if_pos (rfl : (0 : Int) = 0), if_pos (show y7 (4 * z1 + k) < 0 by omega)]
          exact ih n' (k + 1) q m fa v (by omega) (by omega) (by omega) (by omega) h5 (by omega)
        · have kb := kD_b k
          have kc := kD_b (y7 (4 * z1 + k))
          rw [if_neg b, if_neg (show ¬ (1 : Int) = 0 by decide), if_neg (show ¬ y7 (4 * z1 + k) < 0 by omega)]
          obtain ⟨fa1, fa2, v2, e1, e2, e3, e4⟩ := e_tell m1 mn mp mw mu md q m 113 k fa v ⟨by omega, by omega⟩ ⟨h3, by omega⟩ h5 (by omega)
          obtain ⟨fa3, fa4, v4, g1, g2, g3, g4⟩ := e_tell m1 mn mp mw mu md (q + (1 + kD k)) (m + (1 + kD k)) 60 (y7 (4 * z1 + k)) fa2 v2 ⟨by omega, by omega⟩ ⟨by omega, by omega⟩ e4 (by omega)
          rw [put_digit _ k _ ⟨h3, by omega⟩] at e2
          rw [e1]; dsimp only
          rw [e2]; dsimp only
          rw [g1]; dsimp only
          rw [g2]; dsimp only
          rw [e3]; dsimp only
          rw [g3]; dsimp only
          exact ih n' (k + 1) _ _ fa4 v4 (by omega) (by omega) (by omega) (by omega) g4 (by omega)
      · rw [if_neg a, if_neg a]
        dsimp only
        obtain ⟨fa', v', e1, e2, e3⟩ := put_e m1 mn mp mw mu md q m 59 fa v ⟨by omega, by omega⟩ h5 (by omega)
        rw [e1, e2]
        dsimp only
        exact ⟨m + 1, v', e3, by dsimp only; omega, rfl⟩
theorem e_wRou (hq : ∀ x, 0 ≤ x → x ≤ 3 → fq (z1 * 4 + x) = y7 (4 * z1 + x)) (hy7 : ∀ i, -1 ≤ y7 i ∧ y7 i ≤ 999999) (hr : fr z1 = y6 z1) (hb : 0 ≤ fr z1 ∧ fr z1 < 2147483648) : ∀ (j n n' : Nat) (k q m : Int) (fa v : Int → Int), (j : Int) = 8 - k → (j : Int) < (n : Int) → (j : Int) < (n' : Int) → 0 ≤ k → kPg q m fa v → q + kC (fr z1) j ≤ 123 →
    kEnd m1 (match f_XB_printRoutes_L18 bg bf fr z1 pn pf n k q fa with | (a, b) => match f_XB_printLimits bg bf fq z1 a b with | (a, b) => match f_XP_put a b 59 with | (c, d) => (c, d)) (f_XM_writeP_L132 mth mn mp mw mu md mo y1 y2 y3 y4 y5 y6 y7 y11 z1 m1 n' k m v) := by
  intro j
  induction j with
  | zero =>
    intro n n' k q m fa v hj h1 h2 h3 h5 h6
    cases n with
    | zero => omega
    | succ n =>
      cases n' with
      | zero => omega
      | succ n' =>
        have z : kC (fr z1) 0 = 0 := rfl
        rw [f_XB_printRoutes_L18_s, f_XM_writeP_L132_s, if_neg (show ¬ k < 8 by omega), if_neg (show ¬ k < 8 by omega)]
        dsimp only
        rw [f_XB_printLimits_s]
        exact e_wLim mth mn mp mw mu md mo bg bf fq y1 y2 y3 y4 y5 y6 y7 y11 z1 m1 q fa hq hy7 _ _ 0 q m fa v (by decide) (by decide) (by decide) (by decide) h5 (by omega)
  | succ j ih =>
    intro n n' k q m fa v hj h1 h2 h3 h5 h6
    cases n with
    | zero => omega
    | succ n =>
      cases n' with
      | zero => omega
      | succ n' =>
        have hz : kC (fr z1) (j + 1) = f_XG_hasBit (fr z1) (7 - (j : Int)) + kC (fr z1) j := rfl
        rw [show 7 - (j : Int) = k by omega] at hz
        rw [f_XB_printRoutes_L18_s, f_XM_writeP_L132_s, if_pos (show k < 8 by omega), if_pos (show k < 8 by omega), ← hr, mbit_hb' (fr z1) k hb ⟨h3, by omega⟩]
        rcases hb_01 (fr z1) k with c | c
        · rw [c, if_pos (rfl : (0 : Int) = 0), if_neg (show ¬ (0 : Int) = 1 by decide)]
          exact ih n n' (k + 1) q m fa v (by omega) (by omega) (by omega) (by omega) h5 (by omega)
        · have hC := kC_nn (fr z1) j
          rw [c, if_neg (show ¬ (1 : Int) = 0 by decide), if_pos (rfl : (1 : Int) = 1)]
          obtain ⟨fa', v', e1, e2, e3⟩ := put_e m1 mn mp mw mu md q m (48 + k) fa v ⟨by omega, by omega⟩ h5 (by omega)
          rw [e1, e2]
          dsimp only
          exact ih n n' (k + 1) (q + 1) (m + 1) fa' v' (by omega) (by omega) (by omega) (by omega) e3 (by omega)
theorem e_wSpa (hs : ∀ x, 0 ≤ x → x ≤ 7 → (fh (z1 * 8 + x) = -1 ∧ y3 (8 * z1 + x) = 0) ∨ (0 ≤ fh (z1 * 8 + x) ∧ y3 (8 * z1 + x) = 1 ∧ fl (z1 * 8 + x) = y4 (8 * z1 + x) ∧ fh (z1 * 8 + x) = y5 (8 * z1 + x))) (hy4 : ∀ i, 0 ≤ y4 i ∧ y4 i ≤ 100000) (hy5 : ∀ i, 0 ≤ y5 i ∧ y5 i ≤ 100000) (hq : ∀ x, 0 ≤ x → x ≤ 3 → fq (z1 * 4 + x) = y7 (4 * z1 + x)) (hy7 : ∀ i, -1 ≤ y7 i ∧ y7 i ≤ 999999) (hr : fr z1 = y6 z1) (hb : 0 ≤ fr z1 ∧ fr z1 < 2147483648) (hC : kC (fr z1) 8 ≤ 4) : ∀ (n n' : Nat) (k q m : Int) (fa v : Int → Int), 8 - k < (n : Int) → 8 - k < (n' : Int) → 0 ≤ k → k ≤ 8 → kPg q m fa v → q ≤ 6 + 14 * k →
    kEnd m1 (match f_XB_printSpans_L2 bg bf fl fh z1 pn pf n k q fa with | (a, b) => match f_XB_printRoutes bg bf fr z1 a b with | (a, b) => match f_XB_printLimits bg bf fq z1 a b with | (a, b) => match f_XP_put a b 59 with | (c, d) => (c, d)) (f_XM_writeP_L50 mth mn mp mw mu md mo y1 y2 y3 y4 y5 y6 y7 y11 z1 m1 n' k m v) := by
  intro n
  induction n with
  | zero => intro n' k q m fa v h; omega
  | succ n ih =>
    intro n' k q m fa v h1 h2 h3 h4 h5 h6
    cases n' with
    | zero => omega
    | succ n' =>
      rw [f_XB_printSpans_L2_s, f_XM_writeP_L50_s]
      by_cases a : k < 8
      · rw [if_pos a, if_pos a, f_XB_tellsSpan_s]
        rcases hs k h3 (by omega) with ⟨s1, s2⟩ | ⟨s1, s2, s3, s4⟩
        · rw [if_pos s1, if_pos (rfl : (0 : Int) = 0), if_pos s2]
          exact ih n' (k + 1) q m fa v (by omega) (by omega) (by omega) (by omega) h5 (by omega)
        · have b4 := hy4 (8 * z1 + k)
          have b5 := hy5 (8 * z1 + k)
          have kb := kD_b (y4 (8 * z1 + k))
          have kc := kD_b (y5 (8 * z1 + k))
          rw [if_neg (show ¬ fh (z1 * 8 + k) = -1 by omega), if_neg (show ¬ (1 : Int) = 0 by decide), if_neg (show ¬ y3 (8 * z1 + k) = 0 by omega), s3, s4]
          obtain ⟨fa1, fa2, v2, e1, e2, e3, e4⟩ := e_tell m1 mn mp mw mu md q m (65 + k) (y4 (8 * z1 + k)) fa v ⟨by omega, by omega⟩ ⟨by omega, by omega⟩ h5 (by omega)
          obtain ⟨fa3, fa4, v4, g1, g2, g3, g4⟩ := e_tell m1 mn mp mw mu md (q + (1 + kD (y4 (8 * z1 + k)))) (m + (1 + kD (y4 (8 * z1 + k)))) 45 (y5 (8 * z1 + k)) fa2 v2 ⟨by omega, by omega⟩ ⟨by omega, by omega⟩ e4 (by omega)
          rw [e1]; dsimp only
          rw [e2]; dsimp only
          rw [g1]; dsimp only
          rw [g2]; dsimp only
          rw [e3]; dsimp only
          rw [g3]; dsimp only
          exact ih n' (k + 1) _ _ fa4 v4 (by omega) (by omega) (by omega) (by omega) g4 (by omega)
      · rw [if_neg a, if_neg a]
        dsimp only
        rw [f_XB_printRoutes_s]
        by_cases b : fr z1 = 0
        · rw [if_pos b, if_neg (show ¬ 0 < y6 z1 by omega), f_XM_writeP_J130_s]
          dsimp only
          have hz : ∀ (j n n' : Nat) (k : Int) (fa v : Int → Int), (j : Int) = 8 - k → (j : Int) < (n' : Int) → 0 ≤ k → f_XM_writeP_L132 mth mn mp mw mu md mo y1 y2 y3 y4 y5 y6 y7 y11 z1 m1 n' k m v = f_XM_writeP_L168 mth mn mp mw mu md mo y1 y2 y3 y4 y5 y6 y7 y11 z1 m1 (Int.toNat (4 - 0) + 1) 0 m v := by
            intro j
            induction j with
            | zero =>
              intro n n' k fa v e1 e2 e3
              cases n' with
              | zero => omega
              | succ n' => rw [f_XM_writeP_L132_s, if_neg (show ¬ k < 8 by omega)]
            | succ j ih2 =>
              intro n n' k fa v e1 e2 e3
              cases n' with
              | zero => omega
              | succ n' =>
                rw [f_XM_writeP_L132_s, if_pos (show k < 8 by omega), ← hr, mbit_hb' (fr z1) k hb ⟨e3, by omega⟩, b, q_hasBit0', if_neg (show ¬ (0 : Int) = 1 by decide)]
                exact ih2 n n' (k + 1) fa v (by omega) (by omega) (by omega)
          rw [hz 8 0 _ 0 fa v (by decide) (by decide) (by decide), f_XB_printLimits_s]
          exact e_wLim mth mn mp mw mu md mo bg bf fq y1 y2 y3 y4 y5 y6 y7 y11 z1 m1 q fa hq hy7 _ _ 0 q m fa v (by decide) (by decide) (by decide) (by decide) h5 (by omega)
        · rw [if_neg b, if_pos (show 0 < y6 z1 by omega)]
          obtain ⟨fa', v', e1, e2, e3⟩ := put_e m1 mn mp mw mu md q m 114 fa v ⟨by omega, by omega⟩ h5 (by omega)
          rw [e1, e2]
          dsimp only
          rw [f_XM_writeP_J130_s]
          exact e_wRou mth mn mp mw mu md mo bg bf fq fr y1 y2 y3 y4 y5 y6 y7 y11 z1 m1 q fa hq hy7 hr hb 8 _ _ 0 (q + 1) (m + 1) fa' v' (by decide) (by decide) (by decide) (by decide) e3 (by omega)
end EQP5
section EQP6
variable (mth mn mp mw mu md mo : Int) (bg bf : Int) (ft fp fl fh fq fr fd y1 y2 y3 y4 y5 y6 y7 y8 y9 y11 : Int → Int) (pn : Int) (pf : Int → Int)
theorem e_write (hft : ∀ i, 0 ≤ ft i ∧ ft i ≤ 30) (hfr : ∀ i, 0 ≤ fr i ∧ fr i < 2147483648) (hy1 : ∀ i, 0 ≤ y1 i ∧ y1 i ≤ 1) (hy4 : ∀ i, 0 ≤ y4 i ∧ y4 i ≤ 100000) (hy5 : ∀ i, 0 ≤ y5 i ∧ y5 i ≤ 100000) (hy7 : ∀ i, -1 ≤ y7 i ∧ y7 i ≤ 999999) (hN : ∀ g, 1 ≤ g → g ≤ 30 → kC (fr g) 8 ≤ 4) (hP : kPg pn mo pf y11) (h : jBk bg bf ft fp fl fh fq fr fd y1 y2 y3 y4 y5 y6 y7 y8 y9) (z1 : Int) (i1 : i32 z1) (fo : Int → Int) :
    ∀ C, C = f_XL_write bg bf ft fl fh fq fr pn pf z1 fo → ∀ M, M = f_XM_writeP mth mn mp mw mu md mo y1 y2 y3 y4 y5 y6 y7 y11 z1 → (M.2.1 = C.1 ∧ (C.1 = 0 → C.2.1 0 = jw M.1)) ∧ kPg C.2.2.1 M.2.2.1 C.2.2.2 M.2.2.2 := by
  intro C hC M hM
  rw [f_XM_writeP_s, e_told mth mn mp mw mu md mo bg bf y1 hy1 h.1 z1 i1] at hM
  rw [f_XL_write_s] at hC
  have hG : f_XG_write bg bf ft fl fh fq fr pn pf z1 = f_XG_write bg bf ft fl fh fq fr pn pf z1 := rfl
  conv at hG => rhs; rw [f_XG_write_s]
  obtain ⟨g0, g1⟩ := k_goes mth mn mp mw mu md mo
  rcases k_need bg bf z1 with ⟨n1, n2, n3⟩ | ⟨n1, n2⟩
  · rw [if_pos n1, f_XP_start_s] at hG
    rw [n2, g1] at hM
    dsimp only at hM
    rw [if_neg (show ¬ (1 : Int) = 0 by decide)] at hM
    obtain ⟨b1, b2, b3, b4, _, _⟩ := h
    obtain ⟨c1, c2, c3, c4⟩ := b4 z1 n3.1 n3.2.1 n3.2.2
    have b2 := b2 z1 n3.1 n3.2.1
    have hb := hft z1
    have kb := kD_b z1
    have kc := kD_b (y2 z1)
    have h31 : 1 ≤ z1 ∧ z1 ≤ 30 := ⟨n3.1, n3.2.1⟩
    have hS := fun pn' pf' => e_wSpa mth mn mp mw mu md mo bg bf fl fh fq fr y1 y2 y3 y4 y5 y6 y7 y11 z1 0 pn' pf' c1 hy4 hy5 c3 hy7 c2 (hfr z1) (hN z1 n3.1 n3.2.1)
    have hE : kEnd 0 (f_XB_printRow bg bf ft fl fh fq fr z1 0 pf) M := by
      rw [hM, f_XB_printRow_s]
      obtain ⟨fa1, fa2, v2, e1, e2, e3, e4⟩ := e_tell 0 mn mp mw mu md 0 0 103 z1 pf y11 ⟨by omega, by omega⟩ ⟨by omega, by omega⟩ ⟨rfl, by decide, fun i a b => by omega⟩ (by omega)
      rw [e1]; dsimp only
      rw [e2]; dsimp only
      rw [e3]; dsimp only
      by_cases a : 0 < ft z1
      · obtain ⟨fa3, fa4, v4, q1, q2, q3, q4⟩ := e_tell 0 mn mp mw mu md (0 + (1 + kD z1)) (0 + (1 + kD z1)) 60 (y2 z1) fa2 v2 ⟨by omega, by omega⟩ ⟨by omega, by omega⟩ e4 (by omega)
        rw [if_pos a, if_pos (show 0 < y2 z1 by omega), b2]
        rw [q1]; dsimp only
        rw [q2]; dsimp only
        rw [q3]; dsimp only
        rw [f_XM_writeP_J48_s, f_XB_printSpans_s]
        exact hS _ _ _ _ 0 _ _ fa4 v4 (by decide) (by decide) (by decide) (by decide) q4 (by omega)
      · rw [if_neg a, if_neg (show ¬ 0 < y2 z1 by omega), f_XM_writeP_J48_s, f_XB_printSpans_s]
        exact hS _ _ _ _ 0 _ _ fa2 v2 (by decide) (by decide) (by decide) (by decide) e4 (by omega)
    obtain ⟨m, v, k1, k2, k3⟩ := hE
    generalize f_XB_printRow bg bf ft fl fh fq fr z1 0 pf = X at hG k1 k2
    obtain ⟨x1, x2⟩ := X
    dsimp only at hG k1 k2
    rw [f_XP_length_s] at hG
    rw [hG] at hC
    dsimp only at hC
    rw [if_pos (rfl : (0 : Int) = 0)] at hC
    rw [hC, k3]
    dsimp only
    refine ⟨⟨rfl, fun _ => ?_⟩, k1⟩
    rw [← k1.1]
    exact (if_pos (rfl : (0 : Int) = 0) : jset fo 0 (jw x1) 0 = jw x1)
  · rw [if_neg (show ¬ f_XG_needGrade bg bf z1 = 0 by omega), n1] at hG
    rw [n2, g0] at hM
    dsimp only at hM
    rw [if_pos (rfl : (0 : Int) = 0)] at hM
    rw [hG] at hC
    dsimp only at hC
    rw [if_neg (show ¬ (1 : Int) = 0 by decide)] at hC
    rw [hC, hM]
    exact ⟨⟨rfl, fun h => absurd (show (1 : Int) = 0 from h) (by decide)⟩, hP⟩
theorem e_at (hP : kPg pn mo pf y11) (z1 : Int) (fo : Int → Int) : ∀ C, C = f_XL_at pn pf z1 fo → ∀ M, M = f_XM_atP mth mn mp mw mu md mo y11 z1 → (M.2 = C.1 ∧ (C.1 = 0 → C.2 0 = jw M.1)) ∧ -1 ≤ M.1 ∧ M.1 ≤ 255 := by
  intro C hC M hM
  rw [f_XL_at_s] at hC
  rw [f_XM_atP_s] at hM
  obtain ⟨g0, g1⟩ := k_goes mth mn mp mw mu md mo
  obtain ⟨p1, p2, p3⟩ := hP
  have key : (((f_XG_at pn pf z1).1 = 0 ∧ M = ((f_XG_at pn pf z1).2, 0)) ∨ ((f_XG_at pn pf z1).1 = 1 ∧ M.2 = 1)) ∧ -1 ≤ M.1 ∧ M.1 ≤ 255 := by
    rw [f_XG_at_s, f_XG_needPlace_s]
    by_cases c : z1 < 0
    · rw [if_pos c, f_XM_atP_J10_s, g0] at hM
      dsimp only at hM
      rw [if_pos (rfl : (0 : Int) = 0)] at hM
      rw [if_pos c, if_neg (show ¬ (1 : Int) = 0 by decide), hM]
      exact ⟨Or.inr ⟨rfl, rfl⟩, by decide, by decide⟩
    · rw [if_neg c, f_XM_atP_J10_s, g1] at hM
      dsimp only at hM
      rw [if_neg (show ¬ (1 : Int) = 0 by decide)] at hM
      rw [if_neg c, if_pos (rfl : (0 : Int) = 0), f_XP_byteAt_s, if_neg c]
      by_cases d : z1 < mo
      · have q := p3 z1 (by omega) d
        rw [if_pos d] at hM
        rw [if_pos (show z1 < pn by omega), q.1, hM]
        exact ⟨Or.inl ⟨rfl, rfl⟩, by dsimp only; omega, by dsimp only; omega⟩
      · rw [if_neg d] at hM
        rw [if_neg (show ¬ z1 < pn by omega), hM]
        exact ⟨Or.inl ⟨rfl, rfl⟩, by decide, by decide⟩
  exact ⟨k_ans _ C fo M hC key.1, key.2⟩
end EQP6
end
