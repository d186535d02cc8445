theorem jti32 (v : Int32) : i32 v.toInt := ⟨by have := v.le_toInt; simpa using this, by have := v.toInt_lt; simpa using this⟩
noncomputable def g_XM_isDigit (mth : Int) (mn : Int) (mp : Int) (mw : Int) (mu : Int) (md : Int) (mo : Int) (y0 : Int → Int) : Int :=
  f_XM_in (f_XM_here mth mn mp mw mu md mo y0) 48 57
noncomputable def f_XM_isDigit : Int → Int → Int → Int → Int → Int → Int → (Int → Int) → Int := jopq g_XM_isDigit
theorem f_XM_isDigit_q : f_XM_isDigit = g_XM_isDigit := jopq_eq _
theorem f_XM_isDigit_s (mth : Int) (mn : Int) (mp : Int) (mw : Int) (mu : Int) (md : Int) (mo : Int) (y0 : Int → Int) : f_XM_isDigit mth mn mp mw mu md mo y0 = (
    f_XM_in (f_XM_here mth mn mp mw mu md mo y0) 48 57
  : Int) := by rw [f_XM_isDigit_q]; rfl
theorem f_XM_isDigit_b (mth : Int) (mn : Int) (mp : Int) (mw : Int) (mu : Int) (md : Int) (mo : Int) (y0 : Int → Int) (hy0 : ∀ i, 0 ≤ y0 i ∧ y0 i ≤ 255) (hmn : 0 ≤ mn ∧ mn ≤ 400) (hmp : 0 ≤ mp ∧ mp ≤ mn) : ((f_XM_isDigit mth mn mp mw mu md mo y0) = 1 ∧ mp < mn ∧ 48 ≤ y0 mp ∧ y0 mp ≤ 57) ∨ ((f_XM_isDigit mth mn mp mw mu md mo y0) = 0 ∧ (mp = mn ∨ y0 mp < 48 ∨ 57 < y0 mp)) := by have h8 := f_XM_here_b mth mn mp mw mu md mo y0 hy0 hmn hmp; have h7 := f_XM_here_v mth mn mp mw mu md mo y0 hy0 hmn hmp; rw [f_XM_isDigit_s]; have h6 := f_XM_in_b (f_XM_here mth mn mp mw mu md mo y0) 48 57 (by omega) (by decide) (by decide); omega
set_option maxHeartbeats 4000000 in
set_option maxRecDepth 100000 in
theorem c_XM_isDigit (l : Launch) (dC : Nat → ClassId) (dI : Nat → Nat → Nat) (cA cZ : ClassId) (ma : Nat) (a0 : Nat) (a1 : Nat) (a2 : Nat) (a3 : Nat) (a4 : Nat) (a5 : Nat) (a6 : Nat) (a7 : Nat) (a8 : Nat) (a9 : Nat) (a10 : Nat) (a11 : Nat) (mth : Int) (mn : Int) (mp : Int) (mw : Int) (mu : Int) (md : Int) (mo : Int) (y0 : Int → Int) (hy0 : ∀ i, 0 ≤ y0 i ∧ y0 i ≤ 255) (hmn : 0 ≤ mn ∧ mn ≤ 400) (hmp : 0 ≤ mp ∧ mp ≤ mn) : Met l yXM_isDigit (Cond.code yXM_isDigit cXM_isDigit 1 (some .boolean) :: TBL) ({ frames := 1, cells := 0, slots := 0, locals := 22 } : Room) (va_Pc [.ref ma] (jB (dC, dI) [(cA, .int), (cZ, .boolean)] [(ma, .inr (5, [.int (jI mth), .int (jI mn), .ref a0, .int (jI mp), .int (jI mw), .ref a1, .ref a2, .ref a3, .ref a4, .ref a5, .ref a6, .ref a7, .ref a8, .ref a9, .ref a10, .long (jL mu), .long (jL md), .int (jI mo), .ref a11])), (a0, .inl (cA, 400, .inl (jA y0)))])) (vp_Si (fun r => r = jI (f_XM_isDigit mth mn mp mw mu md mo y0))) 0 0 (fun _ => False) := by
  refine jMet (cc := cXM_isDigit) (maxL := 1) (ret := some .boolean) (by decide) rfl ?_
  intro p e s m args below meth c s₁ R Q hR hQ B hml hv
  obtain ⟨rfl, hP, hK, hN⟩ := hv
  have hx := B.exec
  have hb := B.bytes
  have hr := B.returns
  have hts := atoms_spec (ws := Cond.code yXM_isDigit cXM_isDigit 1 (some .boolean) :: TBL) B.pre
  have hown : s.vm.findClass RXM = some m.cls := findClass_of_methodNamed B.named
  have hlocks := B.notSynchronized
  have hP : va_P (dC, dI) vwCl [(ma, .inr (5, [.int (jI mth), .int (jI mn), .ref a0, .int (jI mp), .int (jI mw), .ref a1, .ref a2, .ref a3, .ref a4, .ref a5, .ref a6, .ref a7, .ref a8, .ref a9, .ref a10, .long (jL mu), .long (jL md), .int (jI mo), .ref a11])), (a0, .inl (cA, 400, .inl (jA y0)))] s.heap := hP
  have hl := lv_entry ([.ref ma]) (n := 1) (Nat.le_of_ble_eq_true rfl)
  rw [lg_entry_eq]
  generalize (lg_sl ([.ref ma]) ++ List.replicate (1 - (lg_sl ([.ref ma])).length) Slot.unset).toArray = ls at hl ⊢
  have hl : lv_has ls 1 [(0, .ref ma)] := hl
  refine lv_aload_n hx hb dXM_isDigit_0 rfl (lv_at hl 0 rfl) ?_
  refine jrVi (rest := []) ⟨hx, hb, hml, hown, hts⟩ (c_XM_here l dC dI cA cZ ma a0 a1 a2 a3 a4 a5 a6 a7 a8 a9 a10 a11 mth mn mp mw mu md mo y0 (by first | assumption | omega) (by first | assumption | omega) (by first | assumption | omega)) (cwV 0 hts (jG_V tw_714 tw_716 ts_17 tw_6 tw_717) rfl rfl rfl (by decide +kernel) (by rw [hR]; exact ⟨Nat.le_of_ble_eq_true rfl, Nat.le_of_ble_eq_true rfl⟩)) hK hP hN [0, 1] rfl 0 5 rfl rfl rfl rfl hl.1 rfl (Nat.le_of_ble_eq_true rfl) dXM_isDigit_1 (by rw [hR]; exact ⟨Nat.le_of_ble_eq_true rfl, Nat.le_of_ble_eq_true rfl⟩) ?_
  have f := f_XM_here_b mth mn mp mw mu md mo y0 (by first | assumption | omega) (by first | assumption | omega) (by first | assumption | omega)
  have f1 := f_XM_here_v mth mn mp mw mu md mo y0 (by first | assumption | omega) (by first | assumption | omega) (by first | assumption | omega)
  refine ji_bipush hx hb dXM_isDigit_4 (by decide) ?_
  refine ji_bipush hx hb dXM_isDigit_6 (by decide) ?_
  refine jrSi (rest := []) ⟨hx, hb, hml, hown, hts⟩ (c_XM_in l dC dI cA cZ (f_XM_here mth mn mp mw mu md mo y0) 48 57 (by first | assumption | omega) (by first | assumption | omega) (by first | assumption | omega)) (cwS 3 hts (jG_S tw_695 tw_696 tw_6 tw_697) rfl rfl rfl (by decide +kernel) (by rw [hR]; exact ⟨Nat.le_of_ble_eq_true rfl, Nat.le_of_ble_eq_true rfl⟩)) hK hP hN [] rfl rfl hl.1 rfl (Nat.le_of_ble_eq_true rfl) dXM_isDigit_8 (by rw [hR]; exact ⟨Nat.le_of_ble_eq_true rfl, Nat.le_of_ble_eq_true rfl⟩) ?_
  have f2 := f_XM_in_b (f_XM_here mth mn mp mw mu md mo y0) 48 57 (by first | assumption | omega) (by first | assumption | omega) (by first | assumption | omega)
  subst hQ
  exact W.zret (v := jI (f_XM_in (f_XM_here mth mn mp mw mu md mo y0) 48 57)) hx hb hr (by first | decide | exact jz (by omega)) (fun t ht hW => ⟨_, rfl, congrArg jI (Eq.trans (by rw [f_XM_isDigit_s]; try rfl) rfl), ht⟩) (fun _ h => nomatch h) dXM_isDigit_11
set_option maxHeartbeats 4000000 in
set_option maxRecDepth 100000 in
theorem c_XM_fail (l : Launch) (dC : Nat → ClassId) (dI : Nat → Nat → Nat) (cA cZ : ClassId) (sz : Nat) (ma : Nat) (a0 : Nat) (a1 : Nat) (a2 : Nat) (a3 : Nat) (a4 : Nat) (a5 : Nat) (a6 : Nat) (a7 : Nat) (a8 : Nat) (a9 : Nat) (a10 : Nat) (a11 : Nat) (mth : Int) (mn : Int) (mp : Int) (mw : Int) (mu : Int) (md : Int) (mo : Int) (z1 : Int) (hmw : -1 ≤ mw ∧ mw ≤ 400) (hz1 : -1 ≤ z1 ∧ z1 ≤ 400) : Met l yXM_fail (Cond.code yXM_fail cXM_fail 2 none :: TBL) ({ frames := 0, cells := 0, slots := 0, locals := 0 } : Room) (va_Pc [.ref ma, .int (jI z1)] (jBw (dC, dI) [(cA, .int), (cZ, .boolean)] [(ma, .inr (5, [.int (jI mth), .int (jI mn), .ref a0, .int (jI mp), .int (jI mw), .ref a1, .ref a2, .ref a3, .ref a4, .ref a5, .ref a6, .ref a7, .ref a8, .ref a9, .ref a10, .long (jL mu), .long (jL md), .int (jI mo), .ref a11]))] sz)) (va_Qv (fun (u : Int) => ((0 ≤ mw ∧ u = mw) ∨ (mw < 0 ∧ u = z1))) (fun u t => jE (dC, dI) [(cA, .int), (cZ, .boolean)] [(ma, .inr (5, [.int (jI mth), .int (jI mn), .ref a0, .int (jI mp), .int (jI mw), .ref a1, .ref a2, .ref a3, .ref a4, .ref a5, .ref a6, .ref a7, .ref a8, .ref a9, .ref a10, .long (jL mu), .long (jL md), .int (jI mo), .ref a11]))] sz [(ma, .inr (5, [.int (jI mth), .int (jI mn), .ref a0, .int (jI mp), .int (jI u), .ref a1, .ref a2, .ref a3, .ref a4, .ref a5, .ref a6, .ref a7, .ref a8, .ref a9, .ref a10, .long (jL mu), .long (jL md), .int (jI mo), .ref a11]))] t) (va_A [(ma, .inr (5, [.int (jI mth), .int (jI mn), .ref a0, .int (jI mp), .int (jI mw), .ref a1, .ref a2, .ref a3, .ref a4, .ref a5, .ref a6, .ref a7, .ref a8, .ref a9, .ref a10, .long (jL mu), .long (jL md), .int (jI mo), .ref a11]))] sz)) 0 0 (va_A [(ma, .inr (5, [.int (jI mth), .int (jI mn), .ref a0, .int (jI mp), .int (jI mw), .ref a1, .ref a2, .ref a3, .ref a4, .ref a5, .ref a6, .ref a7, .ref a8, .ref a9, .ref a10, .long (jL mu), .long (jL md), .int (jI mo), .ref a11]))] sz) := by
  refine jMet (cc := cXM_fail) (maxL := 2) (ret := none) (by decide) rfl ?_
  intro p e s m args below meth c s₁ R Q hR hQ B hml hv
  obtain ⟨rfl, hsz, hP, hK, hD0, hN⟩ := hv
  have hx := B.exec
  have hb := B.bytes
  have hr := B.returns
  have hts := atoms_spec (ws := Cond.code yXM_fail cXM_fail 2 none :: TBL) B.pre
  have hown : s.vm.findClass RXM = some m.cls := findClass_of_methodNamed B.named
  have hlocks := B.notSynchronized
  subst hsz
  obtain ⟨A, hAe⟩ : ∃ A, A = va_A [(ma, .inr (5, [.int (jI mth), .int (jI mn), .ref a0, .int (jI mp), .int (jI mw), .ref a1, .ref a2, .ref a3, .ref a4, .ref a5, .ref a6, .ref a7, .ref a8, .ref a9, .ref a10, .long (jL mu), .long (jL md), .int (jI mo), .ref a11]))] s.heap.size := ⟨_, rfl⟩
  have hD : va_D A [(ma, .inr (5, [.int (jI mth), .int (jI mn), .ref a0, .int (jI mp), .int (jI mw), .ref a1, .ref a2, .ref a3, .ref a4, .ref a5, .ref a6, .ref a7, .ref a8, .ref a9, .ref a10, .long (jL mu), .long (jL md), .int (jI mo), .ref a11]))] := by rw [hAe]; exact hD0.self
  have hA : ∀ q : Nat, s.heap.size ≤ q → A q := fun q h => by rw [hAe]; exact Or.inr h
  have hS : va_S A s.heap s.heap [] := va_S.rf
  have hP : va_P (dC, dI) vwCl [(ma, .inr (5, [.int (jI mth), .int (jI mn), .ref a0, .int (jI mp), .int (jI mw), .ref a1, .ref a2, .ref a3, .ref a4, .ref a5, .ref a6, .ref a7, .ref a8, .ref a9, .ref a10, .long (jL mu), .long (jL md), .int (jI mo), .ref a11]))] s.heap := hP
  have hl := lv_entry ([.ref ma, .int (jI z1)]) (n := 2) (Nat.le_of_ble_eq_true rfl)
  rw [lg_entry_eq]
  generalize (lg_sl ([.ref ma, .int (jI z1)]) ++ List.replicate (2 - (lg_sl ([.ref ma, .int (jI z1)])).length) Slot.unset).toArray = ls at hl ⊢
  have hl : lv_has ls 2 [(0, .ref ma), (1, .int (jI z1))] := hl
  refine lv_aload_n hx hb dXM_fail_0 rfl (lv_at hl 0 rfl) ?_
  refine va_get (D := (dC, dI)) (ci := 5) (v := .int (jI mw)) (C := RXM) (T := TXM) (N := 19) hx hb hts (fun w h => jmem (inXM w h)) hown hK hP 0 rfl rfl 4 (by decide) (hts _ (jmem tw_632)) (fun _ h9 => h9) rfl dXM_fail_1 ?_
  refine ji_if_ge (tgt := 12) hx hb dXM_fail_4 (by decide) (by first | omega | decide) (fun c4_ => ?_) (fun c4_ => ?_)
  · have hP9 := hP.sub (ws' := [(ma, .inr (5, [.int (jI mth), .int (jI mn), .ref a0, .int (jI mp), .int (jI mw), .ref a1, .ref a2, .ref a3, .ref a4, .ref a5, .ref a6, .ref a7, .ref a8, .ref a9, .ref a10, .long (jL mu), .long (jL md), .int (jI mo), .ref a11]))]) [0] rfl
    have hD9 := hD.sub (ws' := [(ma, .inr (5, [.int (jI mth), .int (jI mn), .ref a0, .int (jI mp), .int (jI mw), .ref a1, .ref a2, .ref a3, .ref a4, .ref a5, .ref a6, .ref a7, .ref a8, .ref a9, .ref a10, .long (jL mu), .long (jL md), .int (jI mo), .ref a11]))]) [0] (by decide) rfl
    subst hAe
    subst hQ
    exact W.vret hx hb hr (fun t ht hW => ⟨⟨mw, rfl, (show (0 ≤ mw ∧ mw = mw) ∨ (mw < 0 ∧ mw = z1) from by first | assumption | omega | exact jset_b (by assumption) (by omega)), ⟨by rw [ht]; exact hP9, va_K.moved hW.alike hK, hD9⟩⟩, hS.F ht⟩) hS.2.2 dXM_fail_12
  · refine lv_aload_n hx hb dXM_fail_7 rfl (lv_at hl 0 rfl) ?_
    refine lv_iload_n hx hb dXM_fail_8 rfl (lv_at hl 1 rfl) ?_
    refine va_put (D := (dC, dI)) (ci := 5) (v := .int (jI z1)) (ty := (.int)) (C := RXM) (T := TXM) (N := 19) hx hb hts (fun w h => jmem (inXM w h)) tyXM tyXM_ok nXM hown hK hP hD hS 0 rfl rfl 4 (by decide) (hts _ (jmem tw_632)) (fun _ h9 => h9) rfl (by decide +kernel) rfl rfl (Nat.le_of_ble_eq_true rfl) dXM_fail_9 (fun H locs hP hD hS => ?_)
    have hP : va_P (dC, dI) vwCl [(ma, .inr (5, [.int (jI mth), .int (jI mn), .ref a0, .int (jI mp), .int (jI z1), .ref a1, .ref a2, .ref a3, .ref a4, .ref a5, .ref a6, .ref a7, .ref a8, .ref a9, .ref a10, .long (jL mu), .long (jL md), .int (jI mo), .ref a11]))] H := hP
    have hD : va_D A [(ma, .inr (5, [.int (jI mth), .int (jI mn), .ref a0, .int (jI mp), .int (jI z1), .ref a1, .ref a2, .ref a3, .ref a4, .ref a5, .ref a6, .ref a7, .ref a8, .ref a9, .ref a10, .long (jL mu), .long (jL md), .int (jI mo), .ref a11]))] := hD
    have hP9 := hP.sub (ws' := [(ma, .inr (5, [.int (jI mth), .int (jI mn), .ref a0, .int (jI mp), .int (jI z1), .ref a1, .ref a2, .ref a3, .ref a4, .ref a5, .ref a6, .ref a7, .ref a8, .ref a9, .ref a10, .long (jL mu), .long (jL md), .int (jI mo), .ref a11]))]) [0] rfl
    have hD9 := hD.sub (ws' := [(ma, .inr (5, [.int (jI mth), .int (jI mn), .ref a0, .int (jI mp), .int (jI z1), .ref a1, .ref a2, .ref a3, .ref a4, .ref a5, .ref a6, .ref a7, .ref a8, .ref a9, .ref a10, .long (jL mu), .long (jL md), .int (jI mo), .ref a11]))]) [0] (by decide) rfl
    subst hAe
    subst hQ
    exact W.vret hx hb hr (fun t ht hW => ⟨⟨z1, rfl, (show (0 ≤ mw ∧ z1 = mw) ∨ (mw < 0 ∧ z1 = z1) from by first | assumption | omega | exact jset_b (by assumption) (by omega)), ⟨by rw [ht]; exact hP9, va_K.moved hW.alike hK, hD9⟩⟩, hS.F ht⟩) hS.2.2 dXM_fail_12
set_option maxHeartbeats 4000000 in
set_option maxRecDepth 100000 in
theorem c_XM_takes (l : Launch) (dC : Nat → ClassId) (dI : Nat → Nat → Nat) (cA cZ : ClassId) (sz : Nat) (ma : Nat) (a0 : Nat) (a1 : Nat) (a2 : Nat) (a3 : Nat) (a4 : Nat) (a5 : Nat) (a6 : Nat) (a7 : Nat) (a8 : Nat) (a9 : Nat) (a10 : Nat) (a11 : Nat) (mth : Int) (mn : Int) (mp : Int) (mw : Int) (mu : Int) (md : Int) (mo : Int) (y0 : Int → Int) (z1 : Int) (hy0 : ∀ i, 0 ≤ y0 i ∧ y0 i ≤ 255) (hmn : 0 ≤ mn ∧ mn ≤ 400) (hmp : 0 ≤ mp ∧ mp ≤ mn) (hmw : -1 ≤ mw ∧ mw ≤ 400) (hz1 : 0 ≤ z1 ∧ z1 ≤ 255) : Met l yXM_takes (Cond.code yXM_takes cXM_takes 2 (some .boolean) :: TBL) ({ frames := 2, cells := 0, slots := 0, locals := 40 } : Room) (va_Pc [.ref ma, .int (jI z1)] (jBw (dC, dI) [(cA, .int), (cZ, .boolean)] [(ma, .inr (5, [.int (jI mth), .int (jI mn), .ref a0, .int (jI mp), .int (jI mw), .ref a1, .ref a2, .ref a3, .ref a4, .ref a5, .ref a6, .ref a7, .ref a8, .ref a9, .ref a10, .long (jL mu), .long (jL md), .int (jI mo), .ref a11])), (a0, .inl (cA, 400, .inl (jA y0)))] sz)) (va_Qi (fun (r : Int32) (u : Int × Int) => r = jI u.1 ∧ ((u.1 = 0 ∧ mp ≤ u.2 ∧ u.2 ≤ mn) ∨ (u.1 = 1 ∧ mp < u.2 ∧ u.2 ≤ mn ∧ mw < 0))) (fun u t => jE (dC, dI) [(cA, .int), (cZ, .boolean)] [(ma, .inr (5, [.int (jI mth), .int (jI mn), .ref a0, .int (jI mp), .int (jI mw), .ref a1, .ref a2, .ref a3, .ref a4, .ref a5, .ref a6, .ref a7, .ref a8, .ref a9, .ref a10, .long (jL mu), .long (jL md), .int (jI mo), .ref a11])), (a0, .inl (cA, 400, .inl (jA y0)))] sz [(ma, .inr (5, [.int (jI mth), .int (jI mn), .ref a0, .int (jI u.2), .int (jI mw), .ref a1, .ref a2, .ref a3, .ref a4, .ref a5, .ref a6, .ref a7, .ref a8, .ref a9, .ref a10, .long (jL mu), .long (jL md), .int (jI mo), .ref a11])), (a0, .inl (cA, 400, .inl (jA y0)))] t) (va_A [(ma, .inr (5, [.int (jI mth), .int (jI mn), .ref a0, .int (jI mp), .int (jI mw), .ref a1, .ref a2, .ref a3, .ref a4, .ref a5, .ref a6, .ref a7, .ref a8, .ref a9, .ref a10, .long (jL mu), .long (jL md), .int (jI mo), .ref a11])), (a0, .inl (cA, 400, .inl (jA y0)))] sz)) 0 0 (va_A [(ma, .inr (5, [.int (jI mth), .int (jI mn), .ref a0, .int (jI mp), .int (jI mw), .ref a1, .ref a2, .ref a3, .ref a4, .ref a5, .ref a6, .ref a7, .ref a8, .ref a9, .ref a10, .long (jL mu), .long (jL md), .int (jI mo), .ref a11])), (a0, .inl (cA, 400, .inl (jA y0)))] sz) := by
  refine jMet (cc := cXM_takes) (maxL := 2) (ret := some .boolean) (by decide) rfl ?_
  intro p e s m args below meth c s₁ R Q hR hQ B hml hv
  obtain ⟨rfl, hsz, hP, hK, hD0, hN⟩ := hv
  have hx := B.exec
  have hb := B.bytes
  have hr := B.returns
  have hts := atoms_spec (ws := Cond.code yXM_takes cXM_takes 2 (some .boolean) :: TBL) B.pre
  have hown : s.vm.findClass RXM = some m.cls := findClass_of_methodNamed B.named
  have hlocks := B.notSynchronized
  subst hsz
  obtain ⟨A, hAe⟩ : ∃ A, A = va_A [(ma, .inr (5, [.int (jI mth), .int (jI mn), .ref a0, .int (jI mp), .int (jI mw), .ref a1, .ref a2, .ref a3, .ref a4, .ref a5, .ref a6, .ref a7, .ref a8, .ref a9, .ref a10, .long (jL mu), .long (jL md), .int (jI mo), .ref a11])), (a0, .inl (cA, 400, .inl (jA y0)))] s.heap.size := ⟨_, rfl⟩
  have hD : va_D A [(ma, .inr (5, [.int (jI mth), .int (jI mn), .ref a0, .int (jI mp), .int (jI mw), .ref a1, .ref a2, .ref a3, .ref a4, .ref a5, .ref a6, .ref a7, .ref a8, .ref a9, .ref a10, .long (jL mu), .long (jL md), .int (jI mo), .ref a11])), (a0, .inl (cA, 400, .inl (jA y0)))] := by rw [hAe]; exact hD0.self
  have hA : ∀ q : Nat, s.heap.size ≤ q → A q := fun q h => by rw [hAe]; exact Or.inr h
  have hS : va_S A s.heap s.heap [] := va_S.rf
  have hP : va_P (dC, dI) vwCl [(ma, .inr (5, [.int (jI mth), .int (jI mn), .ref a0, .int (jI mp), .int (jI mw), .ref a1, .ref a2, .ref a3, .ref a4, .ref a5, .ref a6, .ref a7, .ref a8, .ref a9, .ref a10, .long (jL mu), .long (jL md), .int (jI mo), .ref a11])), (a0, .inl (cA, 400, .inl (jA y0)))] s.heap := hP
  have hl := lv_entry ([.ref ma, .int (jI z1)]) (n := 2) (Nat.le_of_ble_eq_true rfl)
  rw [lg_entry_eq]
  generalize (lg_sl ([.ref ma, .int (jI z1)]) ++ List.replicate (2 - (lg_sl ([.ref ma, .int (jI z1)])).length) Slot.unset).toArray = ls at hl ⊢
  have hl : lv_has ls 2 [(0, .ref ma), (1, .int (jI z1))] := hl
  refine lv_aload_n hx hb dXM_takes_0 rfl (lv_at hl 0 rfl) ?_
  refine va_get (D := (dC, dI)) (ci := 5) (v := .int (jI mw)) (C := RXM) (T := TXM) (N := 19) hx hb hts (fun w h => jmem (inXM w h)) hown hK hP 0 rfl rfl 4 (by decide) (hts _ (jmem tw_632)) (fun _ h9 => h9) rfl dXM_takes_1 ?_
  refine ji_if_ge (tgt := 15) hx hb dXM_takes_4 (by decide) (by first | omega | decide) (fun c4_ => ?_) (fun c4_ => ?_)
  · refine ji_iconst hx hb dXM_takes_15 ?_
    have hP9 := hP.sub (ws' := [(ma, .inr (5, [.int (jI mth), .int (jI mn), .ref a0, .int (jI mp), .int (jI mw), .ref a1, .ref a2, .ref a3, .ref a4, .ref a5, .ref a6, .ref a7, .ref a8, .ref a9, .ref a10, .long (jL mu), .long (jL md), .int (jI mo), .ref a11])), (a0, .inl (cA, 400, .inl (jA y0)))]) [0, 1] rfl
    have hD9 := hD.sub (ws' := [(ma, .inr (5, [.int (jI mth), .int (jI mn), .ref a0, .int (jI mp), .int (jI mw), .ref a1, .ref a2, .ref a3, .ref a4, .ref a5, .ref a6, .ref a7, .ref a8, .ref a9, .ref a10, .long (jL mu), .long (jL md), .int (jI mo), .ref a11])), (a0, .inl (cA, 400, .inl (jA y0)))]) [0, 1] (by decide) rfl
    subst hAe
    subst hQ
    exact W.zret (v := jI 0) hx hb hr (by first | decide | exact jz (by omega)) (fun t ht hW => ⟨⟨_, (0, mp), rfl, ⟨rfl, (show ((0 : Int) = 0 ∧ mp ≤ mp ∧ mp ≤ mn) ∨ ((0 : Int) = 1 ∧ mp < mp ∧ mp ≤ mn ∧ mw < 0) from by first | assumption | omega | exact jset_b (by assumption) (by omega))⟩, ⟨by rw [ht]; exact hP9, va_K.moved hW.alike hK, hD9⟩⟩, hS.F ht⟩) hS.2.2 dXM_takes_16
  · refine lv_aload_n hx hb dXM_takes_7 rfl (lv_at hl 0 rfl) ?_
    refine jwVi (rest := []) (wr := []) ⟨hx, hb, hml, hown, hts⟩ (c_XM_see l dC dI cA cZ _ ma a0 a1 a2 a3 a4 a5 a6 a7 a8 a9 a10 a11 mth mn mp mw mu md mo y0 (by first | assumption | omega | exact jset_b (by assumption) (by omega)) (by first | assumption | omega | exact jset_b (by assumption) (by omega)) (by first | assumption | omega | exact jset_b (by assumption) (by omega))) (cwV 0 hts (jG_V tw_710 tw_712 ts_16 tw_6 tw_713) rfl rfl rfl (by decide +kernel) (by rw [hR]; exact ⟨Nat.le_of_ble_eq_true rfl, Nat.le_of_ble_eq_true rfl⟩)) hK hP hD hS hA hN [0, 1] [] rfl rfl (by decide) (by decide) (by decide) 0 5 rfl rfl rfl rfl hl.1 rfl (Nat.le_of_ble_eq_true rfl) dXM_takes_8 (by rw [hR]; exact ⟨Nat.le_of_ble_eq_true rfl, Nat.le_of_ble_eq_true rfl⟩) (fun v u H locs hwb hP hD hS => ?_)
    obtain ⟨r, mp1'⟩ := u
    try dsimp only at hwb
    obtain ⟨er, f, f1, f2⟩ := hwb
    subst er
    have f : -1 ≤ r ∧ r ≤ 255 ∧ (0 ≤ r → mp1' < mn) := f
    have f1 : mp ≤ mp1' ∧ mp1' ≤ mn := f1
    have f2 : (mp1' < mn ∧ r = y0 mp1') ∨ (mp1' = mn ∧ r = -1) := f2
    have hP : va_P (dC, dI) vwCl [(ma, .inr (5, [.int (jI mth), .int (jI mn), .ref a0, .int (jI mp1'), .int (jI mw), .ref a1, .ref a2, .ref a3, .ref a4, .ref a5, .ref a6, .ref a7, .ref a8, .ref a9, .ref a10, .long (jL mu), .long (jL md), .int (jI mo), .ref a11])), (a0, .inl (cA, 400, .inl (jA y0)))] H := hP
    have hD : va_D A [(ma, .inr (5, [.int (jI mth), .int (jI mn), .ref a0, .int (jI mp1'), .int (jI mw), .ref a1, .ref a2, .ref a3, .ref a4, .ref a5, .ref a6, .ref a7, .ref a8, .ref a9, .ref a10, .long (jL mu), .long (jL md), .int (jI mo), .ref a11])), (a0, .inl (cA, 400, .inl (jA y0)))] := hD
    refine lv_iload_n hx hb dXM_takes_11 rfl (lv_at hl 1 rfl) ?_
    refine ji_icmp_eq (tgt := 17) hx hb dXM_takes_12 (by decide) (by first | omega | decide) (by first | omega | decide) (fun c12_ => ?_) (fun c12_ => ?_)
    · refine lv_aload_n hx hb dXM_takes_17 rfl (lv_at hl 0 rfl) ?_
      refine lv_dup hx hb dXM_takes_18 rfl ?_
      refine va_get (D := (dC, dI)) (ci := 5) (v := .int (jI mp1')) (C := RXM) (T := TXM) (N := 19) hx hb hts (fun w h => jmem (inXM w h)) hown hK hP 0 rfl rfl 3 (by decide) (hts _ (jmem tw_631)) (fun _ h9 => h9) rfl dXM_takes_19 ?_
      refine ji_iconst hx hb dXM_takes_22 ?_
      refine ji_iadd hx hb dXM_takes_23 ?_
      refine va_put (D := (dC, dI)) (ci := 5) (v := .int (jI (mp1' + 1))) (ty := (.int)) (C := RXM) (T := TXM) (N := 19) hx hb hts (fun w h => jmem (inXM w h)) tyXM tyXM_ok nXM hown hK hP hD hS 0 rfl rfl 3 (by decide) (hts _ (jmem tw_631)) (fun _ h9 => h9) rfl (by decide +kernel) rfl rfl (Nat.le_of_ble_eq_true rfl) dXM_takes_24 (fun H locs hP hD hS => ?_)
      have hP : va_P (dC, dI) vwCl [(ma, .inr (5, [.int (jI mth), .int (jI mn), .ref a0, .int (jI (mp1' + 1)), .int (jI mw), .ref a1, .ref a2, .ref a3, .ref a4, .ref a5, .ref a6, .ref a7, .ref a8, .ref a9, .ref a10, .long (jL mu), .long (jL md), .int (jI mo), .ref a11])), (a0, .inl (cA, 400, .inl (jA y0)))] H := hP
      have hD : va_D A [(ma, .inr (5, [.int (jI mth), .int (jI mn), .ref a0, .int (jI (mp1' + 1)), .int (jI mw), .ref a1, .ref a2, .ref a3, .ref a4, .ref a5, .ref a6, .ref a7, .ref a8, .ref a9, .ref a10, .long (jL mu), .long (jL md), .int (jI mo), .ref a11])), (a0, .inl (cA, 400, .inl (jA y0)))] := hD
      refine ji_iconst hx hb dXM_takes_27 ?_
      have hP9 := hP.sub (ws' := [(ma, .inr (5, [.int (jI mth), .int (jI mn), .ref a0, .int (jI (mp1' + 1)), .int (jI mw), .ref a1, .ref a2, .ref a3, .ref a4, .ref a5, .ref a6, .ref a7, .ref a8, .ref a9, .ref a10, .long (jL mu), .long (jL md), .int (jI mo), .ref a11])), (a0, .inl (cA, 400, .inl (jA y0)))]) [0, 1] rfl
      have hD9 := hD.sub (ws' := [(ma, .inr (5, [.int (jI mth), .int (jI mn), .ref a0, .int (jI (mp1' + 1)), .int (jI mw), .ref a1, .ref a2, .ref a3, .ref a4, .ref a5, .ref a6, .ref a7, .ref a8, .ref a9, .ref a10, .long (jL mu), .long (jL md), .int (jI mo), .ref a11])), (a0, .inl (cA, 400, .inl (jA y0)))]) [0, 1] (by decide) rfl
      subst hAe
      subst hQ
      exact W.zret (v := jI 1) hx hb hr (by first | decide | exact jz (by omega)) (fun t ht hW => ⟨⟨_, (1, mp1' + 1), rfl, ⟨rfl, (show ((1 : Int) = 0 ∧ mp ≤ (mp1' + 1) ∧ (mp1' + 1) ≤ mn) ∨ ((1 : Int) = 1 ∧ mp < (mp1' + 1) ∧ (mp1' + 1) ≤ mn ∧ mw < 0) from by first | assumption | omega | exact jset_b (by assumption) (by omega))⟩, ⟨by rw [ht]; exact hP9, va_K.moved hW.alike hK, hD9⟩⟩, hS.F ht⟩) hS.2.2 dXM_takes_28
    · refine ji_iconst hx hb dXM_takes_15 ?_
      have hP9 := hP.sub (ws' := [(ma, .inr (5, [.int (jI mth), .int (jI mn), .ref a0, .int (jI mp1'), .int (jI mw), .ref a1, .ref a2, .ref a3, .ref a4, .ref a5, .ref a6, .ref a7, .ref a8, .ref a9, .ref a10, .long (jL mu), .long (jL md), .int (jI mo), .ref a11])), (a0, .inl (cA, 400, .inl (jA y0)))]) [0, 1] rfl
      have hD9 := hD.sub (ws' := [(ma, .inr (5, [.int (jI mth), .int (jI mn), .ref a0, .int (jI mp1'), .int (jI mw), .ref a1, .ref a2, .ref a3, .ref a4, .ref a5, .ref a6, .ref a7, .ref a8, .ref a9, .ref a10, .long (jL mu), .long (jL md), .int (jI mo), .ref a11])), (a0, .inl (cA, 400, .inl (jA y0)))]) [0, 1] (by decide) rfl
      subst hAe
      subst hQ
      exact W.zret (v := jI 0) hx hb hr (by first | decide | exact jz (by omega)) (fun t ht hW => ⟨⟨_, (0, mp1'), rfl, ⟨rfl, (show ((0 : Int) = 0 ∧ mp ≤ mp1' ∧ mp1' ≤ mn) ∨ ((0 : Int) = 1 ∧ mp < mp1' ∧ mp1' ≤ mn ∧ mw < 0) from by first | assumption | omega | exact jset_b (by assumption) (by omega))⟩, ⟨by rw [ht]; exact hP9, va_K.moved hW.alike hK, hD9⟩⟩, hS.F ht⟩) hS.2.2 dXM_takes_16
set_option maxHeartbeats 4000000 in
set_option maxRecDepth 100000 in
theorem c_XM_take (l : Launch) (dC : Nat → ClassId) (dI : Nat → Nat → Nat) (cA cZ : ClassId) (sz : Nat) (ma : Nat) (a0 : Nat) (a1 : Nat) (a2 : Nat) (a3 : Nat) (a4 : Nat) (a5 : Nat) (a6 : Nat) (a7 : Nat) (a8 : Nat) (a9 : Nat) (a10 : Nat) (a11 : Nat) (mth : Int) (mn : Int) (mp : Int) (mw : Int) (mu : Int) (md : Int) (mo : Int) (y0 : Int → Int) (z1 : Int) (hy0 : ∀ i, 0 ≤ y0 i ∧ y0 i ≤ 255) (hmn : 0 ≤ mn ∧ mn ≤ 400) (hmp : 0 ≤ mp ∧ mp ≤ mn) (hmw : -1 ≤ mw ∧ mw ≤ 400) (hz1 : 0 ≤ z1 ∧ z1 ≤ 255) : Met l yXM_take (Cond.code yXM_take cXM_take 2 none :: TBL) ({ frames := 2, cells := 0, slots := 0, locals := 40 } : Room) (va_Pc [.ref ma, .int (jI z1)] (jBw (dC, dI) [(cA, .int), (cZ, .boolean)] [(ma, .inr (5, [.int (jI mth), .int (jI mn), .ref a0, .int (jI mp), .int (jI mw), .ref a1, .ref a2, .ref a3, .ref a4, .ref a5, .ref a6, .ref a7, .ref a8, .ref a9, .ref a10, .long (jL mu), .long (jL md), .int (jI mo), .ref a11])), (a0, .inl (cA, 400, .inl (jA y0)))] sz)) (va_Qv (fun (u : Int × Int) => (mp ≤ u.1 ∧ u.1 ≤ mn) ∧ (-1 ≤ u.2 ∧ u.2 ≤ 400 ∧ mw ≤ u.2) ∧ (u.2 < 0 → mp < u.1)) (fun u t => jE (dC, dI) [(cA, .int), (cZ, .boolean)] [(ma, .inr (5, [.int (jI mth), .int (jI mn), .ref a0, .int (jI mp), .int (jI mw), .ref a1, .ref a2, .ref a3, .ref a4, .ref a5, .ref a6, .ref a7, .ref a8, .ref a9, .ref a10, .long (jL mu), .long (jL md), .int (jI mo), .ref a11])), (a0, .inl (cA, 400, .inl (jA y0)))] sz [(ma, .inr (5, [.int (jI mth), .int (jI mn), .ref a0, .int (jI u.1), .int (jI u.2), .ref a1, .ref a2, .ref a3, .ref a4, .ref a5, .ref a6, .ref a7, .ref a8, .ref a9, .ref a10, .long (jL mu), .long (jL md), .int (jI mo), .ref a11])), (a0, .inl (cA, 400, .inl (jA y0)))] t) (va_A [(ma, .inr (5, [.int (jI mth), .int (jI mn), .ref a0, .int (jI mp), .int (jI mw), .ref a1, .ref a2, .ref a3, .ref a4, .ref a5, .ref a6, .ref a7, .ref a8, .ref a9, .ref a10, .long (jL mu), .long (jL md), .int (jI mo), .ref a11])), (a0, .inl (cA, 400, .inl (jA y0)))] sz)) 0 0 (va_A [(ma, .inr (5, [.int (jI mth), .int (jI mn), .ref a0, .int (jI mp), .int (jI mw), .ref a1, .ref a2, .ref a3, .ref a4, .ref a5, .ref a6, .ref a7, .ref a8, .ref a9, .ref a10, .long (jL mu), .long (jL md), .int (jI mo), .ref a11])), (a0, .inl (cA, 400, .inl (jA y0)))] sz) := by
  refine jMet (cc := cXM_take) (maxL := 2) (ret := none) (by decide) rfl ?_
  intro p e s m args below meth c s₁ R Q hR hQ B hml hv
  obtain ⟨rfl, hsz, hP, hK, hD0, hN⟩ := hv
  have hx := B.exec
  have hb := B.bytes
  have hr := B.returns
  have hts := atoms_spec (ws := Cond.code yXM_take cXM_take 2 none :: TBL) B.pre
  have hown : s.vm.findClass RXM = some m.cls := findClass_of_methodNamed B.named
  have hlocks := B.notSynchronized
  subst hsz
  obtain ⟨A, hAe⟩ : ∃ A, A = va_A [(ma, .inr (5, [.int (jI mth), .int (jI mn), .ref a0, .int (jI mp), .int (jI mw), .ref a1, .ref a2, .ref a3, .ref a4, .ref a5, .ref a6, .ref a7, .ref a8, .ref a9, .ref a10, .long (jL mu), .long (jL md), .int (jI mo), .ref a11])), (a0, .inl (cA, 400, .inl (jA y0)))] s.heap.size := ⟨_, rfl⟩
  have hD : va_D A [(ma, .inr (5, [.int (jI mth), .int (jI mn), .ref a0, .int (jI mp), .int (jI mw), .ref a1, .ref a2, .ref a3, .ref a4, .ref a5, .ref a6, .ref a7, .ref a8, .ref a9, .ref a10, .long (jL mu), .long (jL md), .int (jI mo), .ref a11])), (a0, .inl (cA, 400, .inl (jA y0)))] := by rw [hAe]; exact hD0.self
  have hA : ∀ q : Nat, s.heap.size ≤ q → A q := fun q h => by rw [hAe]; exact Or.inr h
  have hS : va_S A s.heap s.heap [] := va_S.rf
  have hP : va_P (dC, dI) vwCl [(ma, .inr (5, [.int (jI mth), .int (jI mn), .ref a0, .int (jI mp), .int (jI mw), .ref a1, .ref a2, .ref a3, .ref a4, .ref a5, .ref a6, .ref a7, .ref a8, .ref a9, .ref a10, .long (jL mu), .long (jL md), .int (jI mo), .ref a11])), (a0, .inl (cA, 400, .inl (jA y0)))] s.heap := hP
  have hl := lv_entry ([.ref ma, .int (jI z1)]) (n := 2) (Nat.le_of_ble_eq_true rfl)
  rw [lg_entry_eq]
  generalize (lg_sl ([.ref ma, .int (jI z1)]) ++ List.replicate (2 - (lg_sl ([.ref ma, .int (jI z1)])).length) Slot.unset).toArray = ls at hl ⊢
  have hl : lv_has ls 2 [(0, .ref ma), (1, .int (jI z1))] := hl
  refine lv_aload_n hx hb dXM_take_0 rfl (lv_at hl 0 rfl) ?_
  refine va_get (D := (dC, dI)) (ci := 5) (v := .int (jI mw)) (C := RXM) (T := TXM) (N := 19) hx hb hts (fun w h => jmem (inXM w h)) hown hK hP 0 rfl rfl 4 (by decide) (hts _ (jmem tw_632)) (fun _ h9 => h9) rfl dXM_take_1 ?_
  refine ji_if_lt (tgt := 8) hx hb dXM_take_4 (by decide) (by first | omega | decide) (fun c4_ => ?_) (fun c4_ => ?_)
  · refine lv_aload_n hx hb dXM_take_8 rfl (lv_at hl 0 rfl) ?_
    refine jwVi (rest := []) (wr := []) ⟨hx, hb, hml, hown, hts⟩ (c_XM_see l dC dI cA cZ _ ma a0 a1 a2 a3 a4 a5 a6 a7 a8 a9 a10 a11 mth mn mp mw mu md mo y0 (by first | assumption | omega | exact jset_b (by assumption) (by omega)) (by first | assumption | omega | exact jset_b (by assumption) (by omega)) (by first | assumption | omega | exact jset_b (by assumption) (by omega))) (cwV 0 hts (jG_V tw_710 tw_712 ts_16 tw_6 tw_713) rfl rfl rfl (by decide +kernel) (by rw [hR]; exact ⟨Nat.le_of_ble_eq_true rfl, Nat.le_of_ble_eq_true rfl⟩)) hK hP hD hS hA hN [0, 1] [] rfl rfl (by decide) (by decide) (by decide) 0 5 rfl rfl rfl rfl hl.1 rfl (Nat.le_of_ble_eq_true rfl) dXM_take_9 (by rw [hR]; exact ⟨Nat.le_of_ble_eq_true rfl, Nat.le_of_ble_eq_true rfl⟩) (fun v u H locs hwb hP hD hS => ?_)
    obtain ⟨r, mp1'⟩ := u
    try dsimp only at hwb
    obtain ⟨er, f, f1, f2⟩ := hwb
    subst er
    have f : -1 ≤ r ∧ r ≤ 255 ∧ (0 ≤ r → mp1' < mn) := f
    have f1 : mp ≤ mp1' ∧ mp1' ≤ mn := f1
    have f2 : (mp1' < mn ∧ r = y0 mp1') ∨ (mp1' = mn ∧ r = -1) := f2
    have hP : va_P (dC, dI) vwCl [(ma, .inr (5, [.int (jI mth), .int (jI mn), .ref a0, .int (jI mp1'), .int (jI mw), .ref a1, .ref a2, .ref a3, .ref a4, .ref a5, .ref a6, .ref a7, .ref a8, .ref a9, .ref a10, .long (jL mu), .long (jL md), .int (jI mo), .ref a11])), (a0, .inl (cA, 400, .inl (jA y0)))] H := hP
    have hD : va_D A [(ma, .inr (5, [.int (jI mth), .int (jI mn), .ref a0, .int (jI mp1'), .int (jI mw), .ref a1, .ref a2, .ref a3, .ref a4, .ref a5, .ref a6, .ref a7, .ref a8, .ref a9, .ref a10, .long (jL mu), .long (jL md), .int (jI mo), .ref a11])), (a0, .inl (cA, 400, .inl (jA y0)))] := hD
    refine lv_iload_n hx hb dXM_take_12 rfl (lv_at hl 1 rfl) ?_
    refine ji_icmp_eq (tgt := 27) hx hb dXM_take_13 (by decide) (by first | omega | decide) (by first | omega | decide) (fun c13_ => ?_) (fun c13_ => ?_)
    · refine lv_aload_n hx hb dXM_take_27 rfl (lv_at hl 0 rfl) ?_
      refine lv_dup hx hb dXM_take_28 rfl ?_
      refine va_get (D := (dC, dI)) (ci := 5) (v := .int (jI mp1')) (C := RXM) (T := TXM) (N := 19) hx hb hts (fun w h => jmem (inXM w h)) hown hK hP 0 rfl rfl 3 (by decide) (hts _ (jmem tw_631)) (fun _ h9 => h9) rfl dXM_take_29 ?_
      refine ji_iconst hx hb dXM_take_32 ?_
      refine ji_iadd hx hb dXM_take_33 ?_
      refine va_put (D := (dC, dI)) (ci := 5) (v := .int (jI (mp1' + 1))) (ty := (.int)) (C := RXM) (T := TXM) (N := 19) hx hb hts (fun w h => jmem (inXM w h)) tyXM tyXM_ok nXM hown hK hP hD hS 0 rfl rfl 3 (by decide) (hts _ (jmem tw_631)) (fun _ h9 => h9) rfl (by decide +kernel) rfl rfl (Nat.le_of_ble_eq_true rfl) dXM_take_34 (fun H locs hP hD hS => ?_)
      have hP : va_P (dC, dI) vwCl [(ma, .inr (5, [.int (jI mth), .int (jI mn), .ref a0, .int (jI (mp1' + 1)), .int (jI mw), .ref a1, .ref a2, .ref a3, .ref a4, .ref a5, .ref a6, .ref a7, .ref a8, .ref a9, .ref a10, .long (jL mu), .long (jL md), .int (jI mo), .ref a11])), (a0, .inl (cA, 400, .inl (jA y0)))] H := hP
      have hD : va_D A [(ma, .inr (5, [.int (jI mth), .int (jI mn), .ref a0, .int (jI (mp1' + 1)), .int (jI mw), .ref a1, .ref a2, .ref a3, .ref a4, .ref a5, .ref a6, .ref a7, .ref a8, .ref a9, .ref a10, .long (jL mu), .long (jL md), .int (jI mo), .ref a11])), (a0, .inl (cA, 400, .inl (jA y0)))] := hD
      have hP9 := hP.sub (ws' := [(ma, .inr (5, [.int (jI mth), .int (jI mn), .ref a0, .int (jI (mp1' + 1)), .int (jI mw), .ref a1, .ref a2, .ref a3, .ref a4, .ref a5, .ref a6, .ref a7, .ref a8, .ref a9, .ref a10, .long (jL mu), .long (jL md), .int (jI mo), .ref a11])), (a0, .inl (cA, 400, .inl (jA y0)))]) [0, 1] rfl
      have hD9 := hD.sub (ws' := [(ma, .inr (5, [.int (jI mth), .int (jI mn), .ref a0, .int (jI (mp1' + 1)), .int (jI mw), .ref a1, .ref a2, .ref a3, .ref a4, .ref a5, .ref a6, .ref a7, .ref a8, .ref a9, .ref a10, .long (jL mu), .long (jL md), .int (jI mo), .ref a11])), (a0, .inl (cA, 400, .inl (jA y0)))]) [0, 1] (by decide) rfl
      subst hAe
      subst hQ
      exact W.vret hx hb hr (fun t ht hW => ⟨⟨(mp1' + 1, mw), rfl, ⟨(show mp ≤ (mp1' + 1) ∧ (mp1' + 1) ≤ mn from by first | assumption | omega | exact jset_b (by assumption) (by omega)), (show -1 ≤ mw ∧ mw ≤ 400 ∧ mw ≤ mw from by first | assumption | omega | exact jset_b (by assumption) (by omega)), (show mw < 0 → mp < (mp1' + 1) from by first | assumption | omega | exact jset_b (by assumption) (by omega))⟩, ⟨by rw [ht]; exact hP9, va_K.moved hW.alike hK, hD9⟩⟩, hS.F ht⟩) hS.2.2 dXM_take_37
    · refine lv_aload_n hx hb dXM_take_16 rfl (lv_at hl 0 rfl) ?_
      refine lv_aload_n hx hb dXM_take_17 rfl (lv_at hl 0 rfl) ?_
      refine va_get (D := (dC, dI)) (ci := 5) (v := .int (jI mp1')) (C := RXM) (T := TXM) (N := 19) hx hb hts (fun w h => jmem (inXM w h)) hown hK hP 0 rfl rfl 3 (by decide) (hts _ (jmem tw_631)) (fun _ h9 => h9) rfl dXM_take_18 ?_
      refine jwVv (rest := []) (wr := [(a0, .inl (cA, 400, .inl (jA y0)))]) ⟨hx, hb, hml, hown, hts⟩ (c_XM_fail l dC dI cA cZ _ ma a0 a1 a2 a3 a4 a5 a6 a7 a8 a9 a10 a11 mth mn mp1' mw mu md mo mp1' (by first | assumption | omega | exact jset_b (by assumption) (by omega)) (by first | assumption | omega | exact jset_b (by assumption) (by omega))) (cwV 1 hts (jG_V tw_734 tw_736 ts_22 tw_6 tw_737) rfl rfl rfl (by decide +kernel) (by rw [hR]; exact ⟨Nat.le_of_ble_eq_true rfl, Nat.le_of_ble_eq_true rfl⟩)) hK hP hD hS hA hN [0] [1] rfl rfl (by decide) (by decide) (by decide) 0 5 rfl rfl rfl rfl hl.1 rfl (Nat.le_of_ble_eq_true rfl) dXM_take_21 (by rw [hR]; exact ⟨Nat.le_of_ble_eq_true rfl, Nat.le_of_ble_eq_true rfl⟩) (fun u3 H locs hwb4 hP hD hS => ?_)
      try dsimp only at hwb4
      have f5 := hwb4
      have f5 : (0 ≤ mw ∧ u3 = mw) ∨ (mw < 0 ∧ u3 = mp1') := f5
      have hP : va_P (dC, dI) vwCl [(a0, .inl (cA, 400, .inl (jA y0))), (ma, .inr (5, [.int (jI mth), .int (jI mn), .ref a0, .int (jI mp1'), .int (jI u3), .ref a1, .ref a2, .ref a3, .ref a4, .ref a5, .ref a6, .ref a7, .ref a8, .ref a9, .ref a10, .long (jL mu), .long (jL md), .int (jI mo), .ref a11]))] H := hP
      have hD : va_D A [(a0, .inl (cA, 400, .inl (jA y0))), (ma, .inr (5, [.int (jI mth), .int (jI mn), .ref a0, .int (jI mp1'), .int (jI u3), .ref a1, .ref a2, .ref a3, .ref a4, .ref a5, .ref a6, .ref a7, .ref a8, .ref a9, .ref a10, .long (jL mu), .long (jL md), .int (jI mo), .ref a11]))] := hD
      refine lv_goto (tgt := 37) hx hb dXM_take_24 (by decide) ?_
      have hP9 := hP.sub (ws' := [(ma, .inr (5, [.int (jI mth), .int (jI mn), .ref a0, .int (jI mp1'), .int (jI u3), .ref a1, .ref a2, .ref a3, .ref a4, .ref a5, .ref a6, .ref a7, .ref a8, .ref a9, .ref a10, .long (jL mu), .long (jL md), .int (jI mo), .ref a11])), (a0, .inl (cA, 400, .inl (jA y0)))]) [1, 0] rfl
      have hD9 := hD.sub (ws' := [(ma, .inr (5, [.int (jI mth), .int (jI mn), .ref a0, .int (jI mp1'), .int (jI u3), .ref a1, .ref a2, .ref a3, .ref a4, .ref a5, .ref a6, .ref a7, .ref a8, .ref a9, .ref a10, .long (jL mu), .long (jL md), .int (jI mo), .ref a11])), (a0, .inl (cA, 400, .inl (jA y0)))]) [1, 0] (by decide) rfl
      subst hAe
      subst hQ
      exact W.vret hx hb hr (fun t ht hW => ⟨⟨(mp1', u3), rfl, ⟨(show mp ≤ mp1' ∧ mp1' ≤ mn from by first | assumption | omega | exact jset_b (by assumption) (by omega)), (show -1 ≤ u3 ∧ u3 ≤ 400 ∧ mw ≤ u3 from by first | assumption | omega | exact jset_b (by assumption) (by omega)), (show u3 < 0 → mp < mp1' from by first | assumption | omega | exact jset_b (by assumption) (by omega))⟩, ⟨by rw [ht]; exact hP9, va_K.moved hW.alike hK, hD9⟩⟩, hS.F ht⟩) hS.2.2 dXM_take_37
  · have hP9 := hP.sub (ws' := [(ma, .inr (5, [.int (jI mth), .int (jI mn), .ref a0, .int (jI mp), .int (jI mw), .ref a1, .ref a2, .ref a3, .ref a4, .ref a5, .ref a6, .ref a7, .ref a8, .ref a9, .ref a10, .long (jL mu), .long (jL md), .int (jI mo), .ref a11])), (a0, .inl (cA, 400, .inl (jA y0)))]) [0, 1] rfl
    have hD9 := hD.sub (ws' := [(ma, .inr (5, [.int (jI mth), .int (jI mn), .ref a0, .int (jI mp), .int (jI mw), .ref a1, .ref a2, .ref a3, .ref a4, .ref a5, .ref a6, .ref a7, .ref a8, .ref a9, .ref a10, .long (jL mu), .long (jL md), .int (jI mo), .ref a11])), (a0, .inl (cA, 400, .inl (jA y0)))]) [0, 1] (by decide) rfl
    subst hAe
    subst hQ
    exact W.vret hx hb hr (fun t ht hW => ⟨⟨(mp, mw), rfl, ⟨(show mp ≤ mp ∧ mp ≤ mn from by first | assumption | omega | exact jset_b (by assumption) (by omega)), (show -1 ≤ mw ∧ mw ≤ 400 ∧ mw ≤ mw from by first | assumption | omega | exact jset_b (by assumption) (by omega)), (show mw < 0 → mp < mp from by first | assumption | omega | exact jset_b (by assumption) (by omega))⟩, ⟨by rw [ht]; exact hP9, va_K.moved hW.alike hK, hD9⟩⟩, hS.F ht⟩) hS.2.2 dXM_take_7
set_option maxHeartbeats 4000000 in
set_option maxRecDepth 100000 in
theorem c_XM_number (l : Launch) (dC : Nat → ClassId) (dI : Nat → Nat → Nat) (cA cZ : ClassId) (sz : Nat) (ma : Nat) (a0 : Nat) (a1 : Nat) (a2 : Nat) (a3 : Nat) (a4 : Nat) (a5 : Nat) (a6 : Nat) (a7 : Nat) (a8 : Nat) (a9 : Nat) (a10 : Nat) (a11 : Nat) (mth : Int) (mn : Int) (mp : Int) (mw : Int) (mu : Int) (md : Int) (mo : Int) (y0 : Int → Int) (z1 : Int) (z2 : Int) (hy0 : ∀ i, 0 ≤ y0 i ∧ y0 i ≤ 255) (hmn : 0 ≤ mn ∧ mn ≤ 400) (hmp : 0 ≤ mp ∧ mp ≤ mn) (hmw : -1 ≤ mw ∧ mw ≤ 400) (hz : 0 ≤ z1 ∧ z1 ≤ z2 ∧ z2 ≤ 999999) : Met l yXM_number (Cond.code yXM_number cXM_number 5 (some .int) :: TBL) ({ frames := 2, cells := 0, slots := 0, locals := 42 } : Room) (va_Pc [.ref ma, .int (jI z1), .int (jI z2)] (jBw (dC, dI) [(cA, .int), (cZ, .boolean)] [(ma, .inr (5, [.int (jI mth), .int (jI mn), .ref a0, .int (jI mp), .int (jI mw), .ref a1, .ref a2, .ref a3, .ref a4, .ref a5, .ref a6, .ref a7, .ref a8, .ref a9, .ref a10, .long (jL mu), .long (jL md), .int (jI mo), .ref a11])), (a0, .inl (cA, 400, .inl (jA y0)))] sz)) (va_Qi (fun (r : Int32) (u : Int × Int × Int) => r = jI u.1 ∧ (z1 ≤ u.1 ∧ u.1 ≤ z2) ∧ (mp ≤ u.2.1 ∧ u.2.1 ≤ mn) ∧ (-1 ≤ u.2.2 ∧ u.2.2 ≤ 400 ∧ mw ≤ u.2.2) ∧ (u.2.2 < 0 → mp < u.2.1)) (fun u t => jE (dC, dI) [(cA, .int), (cZ, .boolean)] [(ma, .inr (5, [.int (jI mth), .int (jI mn), .ref a0, .int (jI mp), .int (jI mw), .ref a1, .ref a2, .ref a3, .ref a4, .ref a5, .ref a6, .ref a7, .ref a8, .ref a9, .ref a10, .long (jL mu), .long (jL md), .int (jI mo), .ref a11])), (a0, .inl (cA, 400, .inl (jA y0)))] sz [(ma, .inr (5, [.int (jI mth), .int (jI mn), .ref a0, .int (jI u.2.1), .int (jI u.2.2), .ref a1, .ref a2, .ref a3, .ref a4, .ref a5, .ref a6, .ref a7, .ref a8, .ref a9, .ref a10, .long (jL mu), .long (jL md), .int (jI mo), .ref a11])), (a0, .inl (cA, 400, .inl (jA y0)))] t) (va_A [(ma, .inr (5, [.int (jI mth), .int (jI mn), .ref a0, .int (jI mp), .int (jI mw), .ref a1, .ref a2, .ref a3, .ref a4, .ref a5, .ref a6, .ref a7, .ref a8, .ref a9, .ref a10, .long (jL mu), .long (jL md), .int (jI mo), .ref a11])), (a0, .inl (cA, 400, .inl (jA y0)))] sz)) 0 0 (va_A [(ma, .inr (5, [.int (jI mth), .int (jI mn), .ref a0, .int (jI mp), .int (jI mw), .ref a1, .ref a2, .ref a3, .ref a4, .ref a5, .ref a6, .ref a7, .ref a8, .ref a9, .ref a10, .long (jL mu), .long (jL md), .int (jI mo), .ref a11])), (a0, .inl (cA, 400, .inl (jA y0)))] sz) := by
  refine jMet (cc := cXM_number) (maxL := 5) (ret := some .int) (by decide) rfl ?_
  intro p e s m args below meth c s₁ R Q hR hQ B hml hv
  obtain ⟨rfl, hsz, hP, hK, hD0, hN⟩ := hv
  have hx := B.exec
  have hb := B.bytes
  have hr := B.returns
  have hts := atoms_spec (ws := Cond.code yXM_number cXM_number 5 (some .int) :: TBL) B.pre
  have hown : s.vm.findClass RXM = some m.cls := findClass_of_methodNamed B.named
  have hlocks := B.notSynchronized
  subst hsz
  obtain ⟨A, hAe⟩ : ∃ A, A = va_A [(ma, .inr (5, [.int (jI mth), .int (jI mn), .ref a0, .int (jI mp), .int (jI mw), .ref a1, .ref a2, .ref a3, .ref a4, .ref a5, .ref a6, .ref a7, .ref a8, .ref a9, .ref a10, .long (jL mu), .long (jL md), .int (jI mo), .ref a11])), (a0, .inl (cA, 400, .inl (jA y0)))] s.heap.size := ⟨_, rfl⟩
  have hD : va_D A [(ma, .inr (5, [.int (jI mth), .int (jI mn), .ref a0, .int (jI mp), .int (jI mw), .ref a1, .ref a2, .ref a3, .ref a4, .ref a5, .ref a6, .ref a7, .ref a8, .ref a9, .ref a10, .long (jL mu), .long (jL md), .int (jI mo), .ref a11])), (a0, .inl (cA, 400, .inl (jA y0)))] := by rw [hAe]; exact hD0.self
  have hA : ∀ q : Nat, s.heap.size ≤ q → A q := fun q h => by rw [hAe]; exact Or.inr h
  have hS : va_S A s.heap s.heap [] := va_S.rf
  have hP : va_P (dC, dI) vwCl [(ma, .inr (5, [.int (jI mth), .int (jI mn), .ref a0, .int (jI mp), .int (jI mw), .ref a1, .ref a2, .ref a3, .ref a4, .ref a5, .ref a6, .ref a7, .ref a8, .ref a9, .ref a10, .long (jL mu), .long (jL md), .int (jI mo), .ref a11])), (a0, .inl (cA, 400, .inl (jA y0)))] s.heap := hP
  have hl := lv_entry ([.ref ma, .int (jI z1), .int (jI z2)]) (n := 5) (Nat.le_of_ble_eq_true rfl)
  rw [lg_entry_eq]
  generalize (lg_sl ([.ref ma, .int (jI z1), .int (jI z2)]) ++ List.replicate (5 - (lg_sl ([.ref ma, .int (jI z1), .int (jI z2)])).length) Slot.unset).toArray = ls at hl ⊢
  have hl : lv_has ls 5 [(0, .ref ma), (1, .int (jI z1)), (2, .int (jI z2))] := hl
  refine lv_aload_n hx hb dXM_number_0 rfl (lv_at hl 0 rfl) ?_
  refine va_get (D := (dC, dI)) (ci := 5) (v := .int (jI mw)) (C := RXM) (T := TXM) (N := 19) hx hb hts (fun w h => jmem (inXM w h)) hown hK hP 0 rfl rfl 4 (by decide) (hts _ (jmem tw_632)) (fun _ h9 => h9) rfl dXM_number_1 ?_
  refine ji_if_lt (tgt := 9) hx hb dXM_number_4 (by decide) (by first | omega | decide) (fun c4_ => ?_) (fun c4_ => ?_)
  · refine lv_aload_n hx hb dXM_number_9 rfl (lv_at hl 0 rfl) ?_
    refine jwVi (rest := []) (wr := []) ⟨hx, hb, hml, hown, hts⟩ (c_XM_see l dC dI cA cZ _ ma a0 a1 a2 a3 a4 a5 a6 a7 a8 a9 a10 a11 mth mn mp mw mu md mo y0 (by first | assumption | omega | exact jset_b (by assumption) (by omega)) (by first | assumption | omega | exact jset_b (by assumption) (by omega)) (by first | assumption | omega | exact jset_b (by assumption) (by omega))) (cwV 0 hts (jG_V tw_710 tw_712 ts_16 tw_6 tw_713) rfl rfl rfl (by decide +kernel) (by rw [hR]; exact ⟨Nat.le_of_ble_eq_true rfl, Nat.le_of_ble_eq_true rfl⟩)) hK hP hD hS hA hN [0, 1] [] rfl rfl (by decide) (by decide) (by decide) 0 5 rfl rfl rfl rfl hl.1 rfl (Nat.le_of_ble_eq_true rfl) dXM_number_10 (by rw [hR]; exact ⟨Nat.le_of_ble_eq_true rfl, Nat.le_of_ble_eq_true rfl⟩) (fun v u H locs hwb hP hD hS => ?_)
    obtain ⟨r, mp1'⟩ := u
    try dsimp only at hwb
    obtain ⟨er, f, f1, f2⟩ := hwb
    subst er
    have f : -1 ≤ r ∧ r ≤ 255 ∧ (0 ≤ r → mp1' < mn) := f
    have f1 : mp ≤ mp1' ∧ mp1' ≤ mn := f1
    have f2 : (mp1' < mn ∧ r = y0 mp1') ∨ (mp1' = mn ∧ r = -1) := f2
    have hP : va_P (dC, dI) vwCl [(ma, .inr (5, [.int (jI mth), .int (jI mn), .ref a0, .int (jI mp1'), .int (jI mw), .ref a1, .ref a2, .ref a3, .ref a4, .ref a5, .ref a6, .ref a7, .ref a8, .ref a9, .ref a10, .long (jL mu), .long (jL md), .int (jI mo), .ref a11])), (a0, .inl (cA, 400, .inl (jA y0)))] H := hP
    have hD : va_D A [(ma, .inr (5, [.int (jI mth), .int (jI mn), .ref a0, .int (jI mp1'), .int (jI mw), .ref a1, .ref a2, .ref a3, .ref a4, .ref a5, .ref a6, .ref a7, .ref a8, .ref a9, .ref a10, .long (jL mu), .long (jL md), .int (jI mo), .ref a11])), (a0, .inl (cA, 400, .inl (jA y0)))] := hD
    refine lv_pop hx hb dXM_number_13 rfl ?_
    refine lv_aload_n hx hb dXM_number_14 rfl (lv_at hl 0 rfl) ?_
    refine jrVi (rest := []) ⟨hx, hb, hml, hown, hts⟩ (c_XM_isDigit l dC dI cA cZ ma a0 a1 a2 a3 a4 a5 a6 a7 a8 a9 a10 a11 mth mn mp1' mw mu md mo y0 (by first | assumption | omega) (by first | assumption | omega) (by first | assumption | omega)) (cwV 0 hts (jG_V tw_730 tw_732 ts_21 tw_6 tw_733) rfl rfl rfl (by decide +kernel) (by rw [hR]; exact ⟨Nat.le_of_ble_eq_true rfl, Nat.le_of_ble_eq_true rfl⟩)) hK hP hN [0, 1] rfl 0 5 rfl rfl rfl rfl hl.1 rfl (Nat.le_of_ble_eq_true rfl) dXM_number_15 (by rw [hR]; exact ⟨Nat.le_of_ble_eq_true rfl, Nat.le_of_ble_eq_true rfl⟩) ?_
    have f3 := f_XM_isDigit_b mth mn mp1' mw mu md mo y0 (by first | assumption | omega) (by first | assumption | omega) (by first | assumption | omega)
    have join29 : ∀ (w1 : Int) , (-1 ≤ w1 ∧ w1 ≤ 400 ∧ mw ≤ w1) → (w1 < 0 → (mp1' < mn ∧ 48 ≤ y0 mp1' ∧ y0 mp1' ≤ 57)) → ∀ (H : Heap) (locs : List Loc), va_P (dC, dI) vwCl [(ma, .inr (5, [.int (jI mth), .int (jI mn), .ref a0, .int (jI mp1'), .int (jI w1), .ref a1, .ref a2, .ref a3, .ref a4, .ref a5, .ref a6, .ref a7, .ref a8, .ref a9, .ref a10, .long (jL mu), .long (jL md), .int (jI mo), .ref a11])), (a0, .inl (cA, 400, .inl (jA y0)))] H → va_D A [(ma, .inr (5, [.int (jI mth), .int (jI mn), .ref a0, .int (jI mp1'), .int (jI w1), .ref a1, .ref a2, .ref a3, .ref a4, .ref a5, .ref a6, .ref a7, .ref a8, .ref a9, .ref a10, .long (jL mu), .long (jL md), .int (jI mo), .ref a11])), (a0, .inl (cA, 400, .inl (jA y0)))] → va_S A s.heap H locs → ∀ ls : Array Slot, lv_has ls 5 [(0, .ref ma), (1, .int (jI z1)), (2, .int (jI z2))] → W p l e R s m ([.ref ma, .int (jI z1), .int (jI z2)] : List Value).toArray below meth c H locs 0 0 Q (F0 m 29 ls []) := by
      intro w1 hw1 hw1d H locs hP hD hS ls hl
      have join93 : ∀ (v : Int) (dg : Int) (k : Int) , (mp1' ≤ k ∧ k ≤ mn ∧ (0 < dg → mp1' < k)) → (0 ≤ dg ∧ dg ≤ 6 ∧ 0 ≤ v) → ((dg = 0 → v = 0) ∧ (dg ≤ 1 → v ≤ 9) ∧ (dg ≤ 2 → v ≤ 99) ∧ (dg ≤ 3 → v ≤ 999) ∧ (dg ≤ 4 → v ≤ 9999) ∧ (dg ≤ 5 → v ≤ 99999) ∧ v ≤ 999999) → (w1 < 0 → 1 ≤ dg) → ∀ (H : Heap) (locs : List Loc), va_P (dC, dI) vwCl [(ma, .inr (5, [.int (jI mth), .int (jI mn), .ref a0, .int (jI k), .int (jI w1), .ref a1, .ref a2, .ref a3, .ref a4, .ref a5, .ref a6, .ref a7, .ref a8, .ref a9, .ref a10, .long (jL mu), .long (jL md), .int (jI mo), .ref a11])), (a0, .inl (cA, 400, .inl (jA y0)))] H → va_D A [(ma, .inr (5, [.int (jI mth), .int (jI mn), .ref a0, .int (jI k), .int (jI w1), .ref a1, .ref a2, .ref a3, .ref a4, .ref a5, .ref a6, .ref a7, .ref a8, .ref a9, .ref a10, .long (jL mu), .long (jL md), .int (jI mo), .ref a11])), (a0, .inl (cA, 400, .inl (jA y0)))] → va_S A s.heap H locs → ∀ ls : Array Slot, lv_has ls 5 [(0, .ref ma), (1, .int (jI z1)), (2, .int (jI z2)), (3, .int (jI v)), (4, .int (jI dg))] → W p l e R s m ([.ref ma, .int (jI z1), .int (jI z2)] : List Value).toArray below meth c H locs 0 0 Q (F0 m 93 ls []) := by
        intro v dg k hk hd hv hx9 H locs hP hD hS ls hl
        have join112 : ∀ (w2 : Int) , (-1 ≤ w2 ∧ w2 ≤ 400 ∧ w1 ≤ w2) → (w2 < 0 → z1 ≤ v ∧ v ≤ z2) → ∀ (H : Heap) (locs : List Loc), va_P (dC, dI) vwCl [(ma, .inr (5, [.int (jI mth), .int (jI mn), .ref a0, .int (jI k), .int (jI w2), .ref a1, .ref a2, .ref a3, .ref a4, .ref a5, .ref a6, .ref a7, .ref a8, .ref a9, .ref a10, .long (jL mu), .long (jL md), .int (jI mo), .ref a11])), (a0, .inl (cA, 400, .inl (jA y0)))] H → va_D A [(ma, .inr (5, [.int (jI mth), .int (jI mn), .ref a0, .int (jI k), .int (jI w2), .ref a1, .ref a2, .ref a3, .ref a4, .ref a5, .ref a6, .ref a7, .ref a8, .ref a9, .ref a10, .long (jL mu), .long (jL md), .int (jI mo), .ref a11])), (a0, .inl (cA, 400, .inl (jA y0)))] → va_S A s.heap H locs → ∀ ls : Array Slot, lv_has ls 5 [(0, .ref ma), (1, .int (jI z1)), (2, .int (jI z2)), (3, .int (jI v)), (4, .int (jI dg))] → W p l e R s m ([.ref ma, .int (jI z1), .int (jI z2)] : List Value).toArray below meth c H locs 0 0 Q (F0 m 112 ls []) := by
          intro w2 hw2 hw2v H locs hP hD hS ls hl
          have join134 : ∀ (w3 : Int) , (-1 ≤ w3 ∧ w3 ≤ 400 ∧ w2 ≤ w3) → ∀ (H : Heap) (locs : List Loc), va_P (dC, dI) vwCl [(ma, .inr (5, [.int (jI mth), .int (jI mn), .ref a0, .int (jI k), .int (jI w3), .ref a1, .ref a2, .ref a3, .ref a4, .ref a5, .ref a6, .ref a7, .ref a8, .ref a9, .ref a10, .long (jL mu), .long (jL md), .int (jI mo), .ref a11])), (a0, .inl (cA, 400, .inl (jA y0)))] H → va_D A [(ma, .inr (5, [.int (jI mth), .int (jI mn), .ref a0, .int (jI k), .int (jI w3), .ref a1, .ref a2, .ref a3, .ref a4, .ref a5, .ref a6, .ref a7, .ref a8, .ref a9, .ref a10, .long (jL mu), .long (jL md), .int (jI mo), .ref a11])), (a0, .inl (cA, 400, .inl (jA y0)))] → va_S A s.heap H locs → ∀ ls : Array Slot, lv_has ls 5 [(0, .ref ma), (1, .int (jI z1)), (2, .int (jI z2)), (3, .int (jI v)), (4, .int (jI dg))] → W p l e R s m ([.ref ma, .int (jI z1), .int (jI z2)] : List Value).toArray below meth c H locs 0 0 Q (F0 m 134 ls []) := by
            intro w3 hw3 H locs hP hD hS ls hl
            refine lv_aload_n hx hb dXM_number_134 rfl (lv_at hl 0 rfl) ?_
            refine va_get (D := (dC, dI)) (ci := 5) (v := .int (jI w3)) (C := RXM) (T := TXM) (N := 19) hx hb hts (fun w h => jmem (inXM w h)) hown hK hP 0 rfl rfl 4 (by decide) (hts _ (jmem tw_632)) (fun _ h9 => h9) rfl dXM_number_135 ?_
            refine ji_if_ge (tgt := 145) hx hb dXM_number_138 (by decide) (by first | omega | decide) (fun c138_ => ?_) (fun c138_ => ?_)
            · refine lv_iload_n hx hb dXM_number_145 rfl (lv_at hl 1 rfl) ?_
              have hP9 := hP.sub (ws' := [(ma, .inr (5, [.int (jI mth), .int (jI mn), .ref a0, .int (jI k), .int (jI w3), .ref a1, .ref a2, .ref a3, .ref a4, .ref a5, .ref a6, .ref a7, .ref a8, .ref a9, .ref a10, .long (jL mu), .long (jL md), .int (jI mo), .ref a11])), (a0, .inl (cA, 400, .inl (jA y0)))]) [0, 1] rfl
              have hD9 := hD.sub (ws' := [(ma, .inr (5, [.int (jI mth), .int (jI mn), .ref a0, .int (jI k), .int (jI w3), .ref a1, .ref a2, .ref a3, .ref a4, .ref a5, .ref a6, .ref a7, .ref a8, .ref a9, .ref a10, .long (jL mu), .long (jL md), .int (jI mo), .ref a11])), (a0, .inl (cA, 400, .inl (jA y0)))]) [0, 1] (by decide) rfl
              subst hAe
              subst hQ
              exact W.iret (v := jI z1) hx hb hr (fun t ht hW => ⟨⟨_, (z1, k, w3), rfl, ⟨rfl, (show z1 ≤ z1 ∧ z1 ≤ z2 from by first | assumption | omega | exact jset_b (by assumption) (by omega)), (show mp ≤ k ∧ k ≤ mn from by first | assumption | omega | exact jset_b (by assumption) (by omega)), (show -1 ≤ w3 ∧ w3 ≤ 400 ∧ mw ≤ w3 from by first | assumption | omega | exact jset_b (by assumption) (by omega)), (show w3 < 0 → mp < k from by first | assumption | omega | exact jset_b (by assumption) (by omega))⟩, ⟨by rw [ht]; exact hP9, va_K.moved hW.alike hK, hD9⟩⟩, hS.F ht⟩) hS.2.2 dXM_number_146
            · refine lv_iload_n hx hb dXM_number_141 rfl (lv_at hl 3 rfl) ?_
              refine lv_goto (tgt := 146) hx hb dXM_number_142 (by decide) ?_
              have hP9 := hP.sub (ws' := [(ma, .inr (5, [.int (jI mth), .int (jI mn), .ref a0, .int (jI k), .int (jI w3), .ref a1, .ref a2, .ref a3, .ref a4, .ref a5, .ref a6, .ref a7, .ref a8, .ref a9, .ref a10, .long (jL mu), .long (jL md), .int (jI mo), .ref a11])), (a0, .inl (cA, 400, .inl (jA y0)))]) [0, 1] rfl
              have hD9 := hD.sub (ws' := [(ma, .inr (5, [.int (jI mth), .int (jI mn), .ref a0, .int (jI k), .int (jI w3), .ref a1, .ref a2, .ref a3, .ref a4, .ref a5, .ref a6, .ref a7, .ref a8, .ref a9, .ref a10, .long (jL mu), .long (jL md), .int (jI mo), .ref a11])), (a0, .inl (cA, 400, .inl (jA y0)))]) [0, 1] (by decide) rfl
              subst hAe
              subst hQ
              exact W.iret (v := jI v) hx hb hr (fun t ht hW => ⟨⟨_, (v, k, w3), rfl, ⟨rfl, (show z1 ≤ v ∧ v ≤ z2 from by first | assumption | omega | exact jset_b (by assumption) (by omega)), (show mp ≤ k ∧ k ≤ mn from by first | assumption | omega | exact jset_b (by assumption) (by omega)), (show -1 ≤ w3 ∧ w3 ≤ 400 ∧ mw ≤ w3 from by first | assumption | omega | exact jset_b (by assumption) (by omega)), (show w3 < 0 → mp < k from by first | assumption | omega | exact jset_b (by assumption) (by omega))⟩, ⟨by rw [ht]; exact hP9, va_K.moved hW.alike hK, hD9⟩⟩, hS.F ht⟩) hS.2.2 dXM_number_146
          refine lv_iload hx hb dXM_number_112 (lv_at hl 4 rfl) ?_
          refine ji_bipush hx hb dXM_number_114 (by decide) ?_
          refine ji_icmp_ne (tgt := 134) hx hb dXM_number_116 (by decide) (by first | omega | decide) (by first | omega | decide) (fun c116_ => ?_) (fun c116_ => ?_)
          · exact join134 w2 (by first | assumption | omega | exact jset_b (by assumption) (by omega)) _ _ hP hD hS ls (lv_sub hl [0, 1, 2, 3, 4] rfl)
          · refine lv_aload_n hx hb dXM_number_119 rfl (lv_at hl 0 rfl) ?_
            refine jrVi (rest := []) ⟨hx, hb, hml, hown, hts⟩ (c_XM_isDigit l dC dI cA cZ ma a0 a1 a2 a3 a4 a5 a6 a7 a8 a9 a10 a11 mth mn k w2 mu md mo y0 (by first | assumption | omega) (by first | assumption | omega) (by first | assumption | omega)) (cwV 0 hts (jG_V tw_730 tw_732 ts_21 tw_6 tw_733) rfl rfl rfl (by decide +kernel) (by rw [hR]; exact ⟨Nat.le_of_ble_eq_true rfl, Nat.le_of_ble_eq_true rfl⟩)) hK hP hN [0, 1] rfl 0 5 rfl rfl rfl rfl hl.1 rfl (Nat.le_of_ble_eq_true rfl) dXM_number_120 (by rw [hR]; exact ⟨Nat.le_of_ble_eq_true rfl, Nat.le_of_ble_eq_true rfl⟩) ?_
            have f4 := f_XM_isDigit_b mth mn k w2 mu md mo y0 (by first | assumption | omega) (by first | assumption | omega) (by first | assumption | omega)
            refine ji_if_eq (tgt := 134) hx hb dXM_number_123 (by decide) (by first | omega | decide) (fun c123_ => ?_) (fun c123_ => ?_)
            · exact join134 w2 (by first | assumption | omega | exact jset_b (by assumption) (by omega)) _ _ hP hD hS ls (lv_sub hl [0, 1, 2, 3, 4] rfl)
            · refine lv_aload_n hx hb dXM_number_126 rfl (lv_at hl 0 rfl) ?_
              refine lv_aload_n hx hb dXM_number_127 rfl (lv_at hl 0 rfl) ?_
              refine va_get (D := (dC, dI)) (ci := 5) (v := .int (jI k)) (C := RXM) (T := TXM) (N := 19) hx hb hts (fun w h => jmem (inXM w h)) hown hK hP 0 rfl rfl 3 (by decide) (hts _ (jmem tw_631)) (fun _ h9 => h9) rfl dXM_number_128 ?_
              refine jwVv (rest := []) (wr := [(a0, .inl (cA, 400, .inl (jA y0)))]) ⟨hx, hb, hml, hown, hts⟩ (c_XM_fail l dC dI cA cZ _ ma a0 a1 a2 a3 a4 a5 a6 a7 a8 a9 a10 a11 mth mn k w2 mu md mo k (by first | assumption | omega | exact jset_b (by assumption) (by omega)) (by first | assumption | omega | exact jset_b (by assumption) (by omega))) (cwV 1 hts (jG_V tw_734 tw_736 ts_22 tw_6 tw_737) rfl rfl rfl (by decide +kernel) (by rw [hR]; exact ⟨Nat.le_of_ble_eq_true rfl, Nat.le_of_ble_eq_true rfl⟩)) hK hP hD hS hA hN [0] [1] rfl rfl (by decide) (by decide) (by decide) 0 5 rfl rfl rfl rfl hl.1 rfl (Nat.le_of_ble_eq_true rfl) dXM_number_131 (by rw [hR]; exact ⟨Nat.le_of_ble_eq_true rfl, Nat.le_of_ble_eq_true rfl⟩) (fun u5 H locs hwb6 hP hD hS => ?_)
              try dsimp only at hwb6
              have f7 := hwb6
              have f7 : (0 ≤ w2 ∧ u5 = w2) ∨ (w2 < 0 ∧ u5 = k) := f7
              have hP : va_P (dC, dI) vwCl [(a0, .inl (cA, 400, .inl (jA y0))), (ma, .inr (5, [.int (jI mth), .int (jI mn), .ref a0, .int (jI k), .int (jI u5), .ref a1, .ref a2, .ref a3, .ref a4, .ref a5, .ref a6, .ref a7, .ref a8, .ref a9, .ref a10, .long (jL mu), .long (jL md), .int (jI mo), .ref a11]))] H := hP
              have hD : va_D A [(a0, .inl (cA, 400, .inl (jA y0))), (ma, .inr (5, [.int (jI mth), .int (jI mn), .ref a0, .int (jI k), .int (jI u5), .ref a1, .ref a2, .ref a3, .ref a4, .ref a5, .ref a6, .ref a7, .ref a8, .ref a9, .ref a10, .long (jL mu), .long (jL md), .int (jI mo), .ref a11]))] := hD
              exact join134 u5 (by first | assumption | omega | exact jset_b (by assumption) (by omega)) _ _ (hP.sub [1, 0] rfl) (hD.sub [1, 0] (by decide) rfl) hS ls (lv_sub hl [0, 1, 2, 3, 4] rfl)
        refine lv_iload_n hx hb dXM_number_93 rfl (lv_at hl 3 rfl) ?_
        refine lv_iload_n hx hb dXM_number_94 rfl (lv_at hl 1 rfl) ?_
        refine lv_iload_n hx hb dXM_number_95 rfl (lv_at hl 2 rfl) ?_
        refine jrSi (rest := []) ⟨hx, hb, hml, hown, hts⟩ (c_XM_in l dC dI cA cZ v z1 z2 (by first | assumption | omega) (by first | assumption | omega) (by first | assumption | omega)) (cwS 3 hts (jG_S tw_695 tw_696 tw_6 tw_697) rfl rfl rfl (by decide +kernel) (by rw [hR]; exact ⟨Nat.le_of_ble_eq_true rfl, Nat.le_of_ble_eq_true rfl⟩)) hK hP hN [] rfl rfl hl.1 rfl (Nat.le_of_ble_eq_true rfl) dXM_number_96 (by rw [hR]; exact ⟨Nat.le_of_ble_eq_true rfl, Nat.le_of_ble_eq_true rfl⟩) ?_
        have f8 := f_XM_in_b v z1 z2 (by first | assumption | omega) (by first | assumption | omega) (by first | assumption | omega)
        refine ji_if_ne (tgt := 112) hx hb dXM_number_99 (by decide) (by first | omega | decide) (fun c99_ => ?_) (fun c99_ => ?_)
        · exact join112 w1 (by first | assumption | omega | exact jset_b (by assumption) (by omega)) (by first | assumption | omega | exact jset_b (by assumption) (by omega)) _ _ hP hD hS ls (lv_sub hl [0, 1, 2, 3, 4] rfl)
        · refine lv_aload_n hx hb dXM_number_102 rfl (lv_at hl 0 rfl) ?_
          refine lv_aload_n hx hb dXM_number_103 rfl (lv_at hl 0 rfl) ?_
          refine va_get (D := (dC, dI)) (ci := 5) (v := .int (jI k)) (C := RXM) (T := TXM) (N := 19) hx hb hts (fun w h => jmem (inXM w h)) hown hK hP 0 rfl rfl 3 (by decide) (hts _ (jmem tw_631)) (fun _ h9 => h9) rfl dXM_number_104 ?_
          refine ji_iconst hx hb dXM_number_107 ?_
          refine ji_isub hx hb dXM_number_108 ?_
          refine jwVv (rest := []) (wr := [(a0, .inl (cA, 400, .inl (jA y0)))]) ⟨hx, hb, hml, hown, hts⟩ (c_XM_fail l dC dI cA cZ _ ma a0 a1 a2 a3 a4 a5 a6 a7 a8 a9 a10 a11 mth mn k w1 mu md mo (k - 1) (by first | assumption | omega | exact jset_b (by assumption) (by omega)) (by first | assumption | omega | exact jset_b (by assumption) (by omega))) (cwV 1 hts (jG_V tw_734 tw_736 ts_22 tw_6 tw_737) rfl rfl rfl (by decide +kernel) (by rw [hR]; exact ⟨Nat.le_of_ble_eq_true rfl, Nat.le_of_ble_eq_true rfl⟩)) hK hP hD hS hA hN [0] [1] rfl rfl (by decide) (by decide) (by decide) 0 5 rfl rfl rfl rfl hl.1 rfl (Nat.le_of_ble_eq_true rfl) dXM_number_109 (by rw [hR]; exact ⟨Nat.le_of_ble_eq_true rfl, Nat.le_of_ble_eq_true rfl⟩) (fun u10 H locs hwb11 hP hD hS => ?_)
          try dsimp only at hwb11
          have f12 := hwb11
          have f12 : (0 ≤ w1 ∧ u10 = w1) ∨ (w1 < 0 ∧ u10 = (k - 1)) := f12
          have hP : va_P (dC, dI) vwCl [(a0, .inl (cA, 400, .inl (jA y0))), (ma, .inr (5, [.int (jI mth), .int (jI mn), .ref a0, .int (jI k), .int (jI u10), .ref a1, .ref a2, .ref a3, .ref a4, .ref a5, .ref a6, .ref a7, .ref a8, .ref a9, .ref a10, .long (jL mu), .long (jL md), .int (jI mo), .ref a11]))] H := hP
          have hD : va_D A [(a0, .inl (cA, 400, .inl (jA y0))), (ma, .inr (5, [.int (jI mth), .int (jI mn), .ref a0, .int (jI k), .int (jI u10), .ref a1, .ref a2, .ref a3, .ref a4, .ref a5, .ref a6, .ref a7, .ref a8, .ref a9, .ref a10, .long (jL mu), .long (jL md), .int (jI mo), .ref a11]))] := hD
          exact join112 u10 (by first | assumption | omega | exact jset_b (by assumption) (by omega)) (by first | assumption | omega | exact jset_b (by assumption) (by omega)) _ _ (hP.sub [1, 0] rfl) (hD.sub [1, 0] (by decide) rfl) hS ls (lv_sub hl [0, 1, 2, 3, 4] rfl)
      refine ji_iconst hx hb dXM_number_29 ?_
      refine lv_istore_n (lv' := [(3, .int (jI 0)), (0, .ref ma), (1, .int (jI z1)), (2, .int (jI z2))]) hx hb dXM_number_30 rfl hl (by decide) rfl (fun ls hl => ?_)
      refine ji_iconst hx hb dXM_number_31 ?_
      refine lv_istore (lv' := [(4, .int (jI 0)), (3, .int (jI 0)), (0, .ref ma), (1, .int (jI z1)), (2, .int (jI z2))]) hx hb dXM_number_32 hl (by decide) rfl (fun ls hl => ?_)
      have loop34 : ∀ (n9 : Nat) (v : Int) (dg : Int) (k : Int) , 6 - dg < (n9 : Int) → (mp1' ≤ k ∧ k ≤ mn ∧ (0 < dg → mp1' < k)) → (0 ≤ dg ∧ dg ≤ 6 ∧ 0 ≤ v) → ((dg = 0 → v = 0) ∧ (dg ≤ 1 → v ≤ 9) ∧ (dg ≤ 2 → v ≤ 99) ∧ (dg ≤ 3 → v ≤ 999) ∧ (dg ≤ 4 → v ≤ 9999) ∧ (dg ≤ 5 → v ≤ 99999) ∧ v ≤ 999999) → (dg = 0 → w1 < 0 → (k < mn ∧ 48 ≤ y0 k ∧ y0 k ≤ 57)) → ∀ (H : Heap) (locs : List Loc), va_P (dC, dI) vwCl [(ma, .inr (5, [.int (jI mth), .int (jI mn), .ref a0, .int (jI k), .int (jI w1), .ref a1, .ref a2, .ref a3, .ref a4, .ref a5, .ref a6, .ref a7, .ref a8, .ref a9, .ref a10, .long (jL mu), .long (jL md), .int (jI mo), .ref a11])), (a0, .inl (cA, 400, .inl (jA y0)))] H → va_D A [(ma, .inr (5, [.int (jI mth), .int (jI mn), .ref a0, .int (jI k), .int (jI w1), .ref a1, .ref a2, .ref a3, .ref a4, .ref a5, .ref a6, .ref a7, .ref a8, .ref a9, .ref a10, .long (jL mu), .long (jL md), .int (jI mo), .ref a11])), (a0, .inl (cA, 400, .inl (jA y0)))] → va_S A s.heap H locs → ∀ ls : Array Slot, lv_has ls 5 [(4, .int (jI dg)), (3, .int (jI v)), (0, .ref ma), (1, .int (jI z1)), (2, .int (jI z2))] → W p l e R s m ([.ref ma, .int (jI z1), .int (jI z2)] : List Value).toArray below meth c H locs 0 0 Q (F0 m 34 ls []) := by
        intro n9
        induction n9 with
        | zero =>
          intro v dg k hm hk hd hv hq
          exact absurd hm (by omega)
        | succ n9 ih34 =>
          intro v dg k hm hk hd hv hq H locs hP hD hS ls hl
          refine lv_aload_n hx hb dXM_number_34 rfl (lv_at hl 2 rfl) ?_
          refine va_get (D := (dC, dI)) (ci := 5) (v := .int (jI w1)) (C := RXM) (T := TXM) (N := 19) hx hb hts (fun w h => jmem (inXM w h)) hown hK hP 0 rfl rfl 4 (by decide) (hts _ (jmem tw_632)) (fun _ h9 => h9) rfl dXM_number_35 ?_
          refine ji_if_ge (tgt := 93) hx hb dXM_number_38 (by decide) (by first | omega | decide) (fun c38_ => ?_) (fun c38_ => ?_)
          · exact join93 v dg k (by first | assumption | omega | exact jset_b (by assumption) (by omega)) (by first | assumption | omega | exact jset_b (by assumption) (by omega)) (by first | assumption | omega | exact jset_b (by assumption) (by omega)) (by first | assumption | omega | exact jset_b (by assumption) (by omega)) _ _ hP hD hS ls (lv_sub hl [2, 3, 4, 1, 0] rfl)
          · refine lv_aload_n hx hb dXM_number_41 rfl (lv_at hl 2 rfl) ?_
            refine jrVi (rest := []) ⟨hx, hb, hml, hown, hts⟩ (c_XM_isDigit l dC dI cA cZ ma a0 a1 a2 a3 a4 a5 a6 a7 a8 a9 a10 a11 mth mn k w1 mu md mo y0 (by first | assumption | omega) (by first | assumption | omega) (by first | assumption | omega)) (cwV 0 hts (jG_V tw_730 tw_732 ts_21 tw_6 tw_733) rfl rfl rfl (by decide +kernel) (by rw [hR]; exact ⟨Nat.le_of_ble_eq_true rfl, Nat.le_of_ble_eq_true rfl⟩)) hK hP hN [0, 1] rfl 0 5 rfl rfl rfl rfl hl.1 rfl (Nat.le_of_ble_eq_true rfl) dXM_number_42 (by rw [hR]; exact ⟨Nat.le_of_ble_eq_true rfl, Nat.le_of_ble_eq_true rfl⟩) ?_
            have f13 := f_XM_isDigit_b mth mn k w1 mu md mo y0 (by first | assumption | omega) (by first | assumption | omega) (by first | assumption | omega)
            refine ji_if_eq (tgt := 93) hx hb dXM_number_45 (by decide) (by first | omega | decide) (fun c45_ => ?_) (fun c45_ => ?_)
            · exact join93 v dg k (by first | assumption | omega | exact jset_b (by assumption) (by omega)) (by first | assumption | omega | exact jset_b (by assumption) (by omega)) (by first | assumption | omega | exact jset_b (by assumption) (by omega)) (by first | assumption | omega | exact jset_b (by assumption) (by omega)) _ _ hP hD hS ls (lv_sub hl [2, 3, 4, 1, 0] rfl)
            · refine lv_iload hx hb dXM_number_48 (lv_at hl 0 rfl) ?_
              refine ji_bipush hx hb dXM_number_50 (by decide) ?_
              refine ji_icmp_ge (tgt := 93) hx hb dXM_number_52 (by decide) (by first | omega | decide) (by first | omega | decide) (fun c52_ => ?_) (fun c52_ => ?_)
              · exact join93 v dg k (by first | assumption | omega | exact jset_b (by assumption) (by omega)) (by first | assumption | omega | exact jset_b (by assumption) (by omega)) (by first | assumption | omega | exact jset_b (by assumption) (by omega)) (by first | assumption | omega | exact jset_b (by assumption) (by omega)) _ _ hP hD hS ls (lv_sub hl [2, 3, 4, 1, 0] rfl)
              · refine lv_iload hx hb dXM_number_55 (lv_at hl 0 rfl) ?_
                refine ji_if_eq (tgt := 64) hx hb dXM_number_57 (by decide) (by first | omega | decide) (fun c57_ => ?_) (fun c57_ => ?_)
                · refine ji_bipush hx hb dXM_number_64 (by decide) ?_
                  refine lv_iload_n hx hb dXM_number_66 rfl (lv_at hl 1 rfl) ?_
                  refine ji_imul hx hb dXM_number_67 ?_
                  refine lv_aload_n hx hb dXM_number_68 rfl (lv_at hl 2 rfl) ?_
                  refine jrVi (rest := [.int (jI (10 * v))]) ⟨hx, hb, hml, hown, hts⟩ (c_XM_here l dC dI cA cZ ma a0 a1 a2 a3 a4 a5 a6 a7 a8 a9 a10 a11 mth mn k w1 mu md mo y0 (by first | assumption | omega) (by first | assumption | omega) (by first | assumption | omega)) (cwV 0 hts (jG_V tw_714 tw_716 ts_17 tw_6 tw_717) rfl rfl rfl (by decide +kernel) (by rw [hR]; exact ⟨Nat.le_of_ble_eq_true rfl, Nat.le_of_ble_eq_true rfl⟩)) hK hP hN [0, 1] rfl 0 5 rfl rfl rfl rfl hl.1 rfl (Nat.le_of_ble_eq_true rfl) dXM_number_69 (by rw [hR]; exact ⟨Nat.le_of_ble_eq_true rfl, Nat.le_of_ble_eq_true rfl⟩) ?_
                  have f14 := f_XM_here_b mth mn k w1 mu md mo y0 (by first | assumption | omega) (by first | assumption | omega) (by first | assumption | omega)
                  have f15 := f_XM_here_v mth mn k w1 mu md mo y0 (by first | assumption | omega) (by first | assumption | omega) (by first | assumption | omega)
                  refine ji_iadd hx hb dXM_number_72 ?_
                  refine ji_bipush hx hb dXM_number_73 (by decide) ?_
                  refine ji_isub hx hb dXM_number_75 ?_
                  refine lv_istore_n (lv' := [(3, .int (jI (((10 * v) + (f_XM_here mth mn k w1 mu md mo y0)) - 48))), (4, .int (jI dg)), (0, .ref ma), (1, .int (jI z1)), (2, .int (jI z2))]) hx hb dXM_number_76 rfl hl (by decide) rfl (fun ls hl => ?_)
                  refine ji_iinc (k := 1) (lv' := [(4, .int (jI (dg + 1))), (3, .int (jI (((10 * v) + (f_XM_here mth mn k w1 mu md mo y0)) - 48))), (0, .ref ma), (1, .int (jI z1)), (2, .int (jI z2))]) hx hb dXM_number_77 hl rfl (by decide) rfl (fun ls hl => ?_)
                  refine lv_aload_n hx hb dXM_number_80 rfl (lv_at hl 2 rfl) ?_
                  refine lv_dup hx hb dXM_number_81 rfl ?_
                  refine va_get (D := (dC, dI)) (ci := 5) (v := .int (jI k)) (C := RXM) (T := TXM) (N := 19) hx hb hts (fun w h => jmem (inXM w h)) hown hK hP 0 rfl rfl 3 (by decide) (hts _ (jmem tw_631)) (fun _ h9 => h9) rfl dXM_number_82 ?_
                  refine ji_iconst hx hb dXM_number_85 ?_
                  refine ji_iadd hx hb dXM_number_86 ?_
                  refine va_put (D := (dC, dI)) (ci := 5) (v := .int (jI (k + 1))) (ty := (.int)) (C := RXM) (T := TXM) (N := 19) hx hb hts (fun w h => jmem (inXM w h)) tyXM tyXM_ok nXM hown hK hP hD hS 0 rfl rfl 3 (by decide) (hts _ (jmem tw_631)) (fun _ h9 => h9) rfl (by decide +kernel) rfl rfl (Nat.le_of_ble_eq_true rfl) dXM_number_87 (fun H locs hP hD hS => ?_)
                  have hP : va_P (dC, dI) vwCl [(ma, .inr (5, [.int (jI mth), .int (jI mn), .ref a0, .int (jI (k + 1)), .int (jI w1), .ref a1, .ref a2, .ref a3, .ref a4, .ref a5, .ref a6, .ref a7, .ref a8, .ref a9, .ref a10, .long (jL mu), .long (jL md), .int (jI mo), .ref a11])), (a0, .inl (cA, 400, .inl (jA y0)))] H := hP
                  have hD : va_D A [(ma, .inr (5, [.int (jI mth), .int (jI mn), .ref a0, .int (jI (k + 1)), .int (jI w1), .ref a1, .ref a2, .ref a3, .ref a4, .ref a5, .ref a6, .ref a7, .ref a8, .ref a9, .ref a10, .long (jL mu), .long (jL md), .int (jI mo), .ref a11])), (a0, .inl (cA, 400, .inl (jA y0)))] := hD
                  refine lv_goto (tgt := 34) hx hb dXM_number_90 (by decide) ?_
                  exact ih34 (((10 * v) + (f_XM_here mth mn k w1 mu md mo y0)) - 48) (dg + 1) (k + 1) (by omega) (by first | assumption | omega | exact jset_b (by assumption) (by omega)) (by first | assumption | omega | exact jset_b (by assumption) (by omega)) (by first | assumption | omega | exact jset_b (by assumption) (by omega)) (by first | assumption | omega | exact jset_b (by assumption) (by omega)) _ _ hP hD hS ls (lv_sub hl [0, 1, 2, 3, 4] rfl)
                · refine lv_iload_n hx hb dXM_number_60 rfl (lv_at hl 1 rfl) ?_
                  refine ji_if_le (tgt := 93) hx hb dXM_number_61 (by decide) (by first | omega | decide) (fun c61_ => ?_) (fun c61_ => ?_)
                  · exact join93 v dg k (by first | assumption | omega | exact jset_b (by assumption) (by omega)) (by first | assumption | omega | exact jset_b (by assumption) (by omega)) (by first | assumption | omega | exact jset_b (by assumption) (by omega)) (by first | assumption | omega | exact jset_b (by assumption) (by omega)) _ _ hP hD hS ls (lv_sub hl [2, 3, 4, 1, 0] rfl)
                  · refine ji_bipush hx hb dXM_number_64 (by decide) ?_
                    refine lv_iload_n hx hb dXM_number_66 rfl (lv_at hl 1 rfl) ?_
                    refine ji_imul hx hb dXM_number_67 ?_
                    refine lv_aload_n hx hb dXM_number_68 rfl (lv_at hl 2 rfl) ?_
                    refine jrVi (rest := [.int (jI (10 * v))]) ⟨hx, hb, hml, hown, hts⟩ (c_XM_here l dC dI cA cZ ma a0 a1 a2 a3 a4 a5 a6 a7 a8 a9 a10 a11 mth mn k w1 mu md mo y0 (by first | assumption | omega) (by first | assumption | omega) (by first | assumption | omega)) (cwV 0 hts (jG_V tw_714 tw_716 ts_17 tw_6 tw_717) rfl rfl rfl (by decide +kernel) (by rw [hR]; exact ⟨Nat.le_of_ble_eq_true rfl, Nat.le_of_ble_eq_true rfl⟩)) hK hP hN [0, 1] rfl 0 5 rfl rfl rfl rfl hl.1 rfl (Nat.le_of_ble_eq_true rfl) dXM_number_69 (by rw [hR]; exact ⟨Nat.le_of_ble_eq_true rfl, Nat.le_of_ble_eq_true rfl⟩) ?_
                    have f16 := f_XM_here_b mth mn k w1 mu md mo y0 (by first | assumption | omega) (by first | assumption | omega) (by first | assumption | omega)
                    have f17 := f_XM_here_v mth mn k w1 mu md mo y0 (by first | assumption | omega) (by first | assumption | omega) (by first | assumption | omega)
                    refine ji_iadd hx hb dXM_number_72 ?_
                    refine ji_bipush hx hb dXM_number_73 (by decide) ?_
                    refine ji_isub hx hb dXM_number_75 ?_
                    refine lv_istore_n (lv' := [(3, .int (jI (((10 * v) + (f_XM_here mth mn k w1 mu md mo y0)) - 48))), (4, .int (jI dg)), (0, .ref ma), (1, .int (jI z1)), (2, .int (jI z2))]) hx hb dXM_number_76 rfl hl (by decide) rfl (fun ls hl => ?_)
                    refine ji_iinc (k := 1) (lv' := [(4, .int (jI (dg + 1))), (3, .int (jI (((10 * v) + (f_XM_here mth mn k w1 mu md mo y0)) - 48))), (0, .ref ma), (1, .int (jI z1)), (2, .int (jI z2))]) hx hb dXM_number_77 hl rfl (by decide) rfl (fun ls hl => ?_)
                    refine lv_aload_n hx hb dXM_number_80 rfl (lv_at hl 2 rfl) ?_
                    refine lv_dup hx hb dXM_number_81 rfl ?_
                    refine va_get (D := (dC, dI)) (ci := 5) (v := .int (jI k)) (C := RXM) (T := TXM) (N := 19) hx hb hts (fun w h => jmem (inXM w h)) hown hK hP 0 rfl rfl 3 (by decide) (hts _ (jmem tw_631)) (fun _ h9 => h9) rfl dXM_number_82 ?_
                    refine ji_iconst hx hb dXM_number_85 ?_
                    refine ji_iadd hx hb dXM_number_86 ?_
                    refine va_put (D := (dC, dI)) (ci := 5) (v := .int (jI (k + 1))) (ty := (.int)) (C := RXM) (T := TXM) (N := 19) hx hb hts (fun w h => jmem (inXM w h)) tyXM tyXM_ok nXM hown hK hP hD hS 0 rfl rfl 3 (by decide) (hts _ (jmem tw_631)) (fun _ h9 => h9) rfl (by decide +kernel) rfl rfl (Nat.le_of_ble_eq_true rfl) dXM_number_87 (fun H locs hP hD hS => ?_)
                    have hP : va_P (dC, dI) vwCl [(ma, .inr (5, [.int (jI mth), .int (jI mn), .ref a0, .int (jI (k + 1)), .int (jI w1), .ref a1, .ref a2, .ref a3, .ref a4, .ref a5, .ref a6, .ref a7, .ref a8, .ref a9, .ref a10, .long (jL mu), .long (jL md), .int (jI mo), .ref a11])), (a0, .inl (cA, 400, .inl (jA y0)))] H := hP
                    have hD : va_D A [(ma, .inr (5, [.int (jI mth), .int (jI mn), .ref a0, .int (jI (k + 1)), .int (jI w1), .ref a1, .ref a2, .ref a3, .ref a4, .ref a5, .ref a6, .ref a7, .ref a8, .ref a9, .ref a10, .long (jL mu), .long (jL md), .int (jI mo), .ref a11])), (a0, .inl (cA, 400, .inl (jA y0)))] := hD
                    refine lv_goto (tgt := 34) hx hb dXM_number_90 (by decide) ?_
                    exact ih34 (((10 * v) + (f_XM_here mth mn k w1 mu md mo y0)) - 48) (dg + 1) (k + 1) (by omega) (by first | assumption | omega | exact jset_b (by assumption) (by omega)) (by first | assumption | omega | exact jset_b (by assumption) (by omega)) (by first | assumption | omega | exact jset_b (by assumption) (by omega)) (by first | assumption | omega | exact jset_b (by assumption) (by omega)) _ _ hP hD hS ls (lv_sub hl [0, 1, 2, 3, 4] rfl)
      exact loop34 (Int.toNat (6 - 0) + 1) 0 0 mp1' (by omega) (by first | assumption | omega | exact jset_b (by assumption) (by omega)) (by first | assumption | omega | exact jset_b (by assumption) (by omega)) (by first | assumption | omega | exact jset_b (by assumption) (by omega)) (by first | assumption | omega | exact jset_b (by assumption) (by omega)) _ _ hP hD hS ls (lv_sub hl [0, 1, 2, 3, 4] rfl)
    refine ji_if_ne (tgt := 29) hx hb dXM_number_18 (by decide) (by first | omega | decide) (fun c18_ => ?_) (fun c18_ => ?_)
    · exact join29 mw (by first | assumption | omega | exact jset_b (by assumption) (by omega)) (by first | assumption | omega | exact jset_b (by assumption) (by omega)) _ _ hP hD hS ls (lv_sub hl [0, 1, 2] rfl)
    · refine lv_aload_n hx hb dXM_number_21 rfl (lv_at hl 0 rfl) ?_
      refine lv_aload_n hx hb dXM_number_22 rfl (lv_at hl 0 rfl) ?_
      refine va_get (D := (dC, dI)) (ci := 5) (v := .int (jI mp1')) (C := RXM) (T := TXM) (N := 19) hx hb hts (fun w h => jmem (inXM w h)) hown hK hP 0 rfl rfl 3 (by decide) (hts _ (jmem tw_631)) (fun _ h9 => h9) rfl dXM_number_23 ?_
      refine jwVv (rest := []) (wr := [(a0, .inl (cA, 400, .inl (jA y0)))]) ⟨hx, hb, hml, hown, hts⟩ (c_XM_fail l dC dI cA cZ _ ma a0 a1 a2 a3 a4 a5 a6 a7 a8 a9 a10 a11 mth mn mp1' mw mu md mo mp1' (by first | assumption | omega | exact jset_b (by assumption) (by omega)) (by first | assumption | omega | exact jset_b (by assumption) (by omega))) (cwV 1 hts (jG_V tw_734 tw_736 ts_22 tw_6 tw_737) rfl rfl rfl (by decide +kernel) (by rw [hR]; exact ⟨Nat.le_of_ble_eq_true rfl, Nat.le_of_ble_eq_true rfl⟩)) hK hP hD hS hA hN [0] [1] rfl rfl (by decide) (by decide) (by decide) 0 5 rfl rfl rfl rfl hl.1 rfl (Nat.le_of_ble_eq_true rfl) dXM_number_26 (by rw [hR]; exact ⟨Nat.le_of_ble_eq_true rfl, Nat.le_of_ble_eq_true rfl⟩) (fun u19 H locs hwb20 hP hD hS => ?_)
      try dsimp only at hwb20
      have f21 := hwb20
      have f21 : (0 ≤ mw ∧ u19 = mw) ∨ (mw < 0 ∧ u19 = mp1') := f21
      have hP : va_P (dC, dI) vwCl [(a0, .inl (cA, 400, .inl (jA y0))), (ma, .inr (5, [.int (jI mth), .int (jI mn), .ref a0, .int (jI mp1'), .int (jI u19), .ref a1, .ref a2, .ref a3, .ref a4, .ref a5, .ref a6, .ref a7, .ref a8, .ref a9, .ref a10, .long (jL mu), .long (jL md), .int (jI mo), .ref a11]))] H := hP
      have hD : va_D A [(a0, .inl (cA, 400, .inl (jA y0))), (ma, .inr (5, [.int (jI mth), .int (jI mn), .ref a0, .int (jI mp1'), .int (jI u19), .ref a1, .ref a2, .ref a3, .ref a4, .ref a5, .ref a6, .ref a7, .ref a8, .ref a9, .ref a10, .long (jL mu), .long (jL md), .int (jI mo), .ref a11]))] := hD
      exact join29 u19 (by first | assumption | omega | exact jset_b (by assumption) (by omega)) (by first | assumption | omega | exact jset_b (by assumption) (by omega)) _ _ (hP.sub [1, 0] rfl) (hD.sub [1, 0] (by decide) rfl) hS ls (lv_sub hl [0, 1, 2] rfl)
  · refine lv_iload_n hx hb dXM_number_7 rfl (lv_at hl 1 rfl) ?_
    have hP9 := hP.sub (ws' := [(ma, .inr (5, [.int (jI mth), .int (jI mn), .ref a0, .int (jI mp), .int (jI mw), .ref a1, .ref a2, .ref a3, .ref a4, .ref a5, .ref a6, .ref a7, .ref a8, .ref a9, .ref a10, .long (jL mu), .long (jL md), .int (jI mo), .ref a11])), (a0, .inl (cA, 400, .inl (jA y0)))]) [0, 1] rfl
    have hD9 := hD.sub (ws' := [(ma, .inr (5, [.int (jI mth), .int (jI mn), .ref a0, .int (jI mp), .int (jI mw), .ref a1, .ref a2, .ref a3, .ref a4, .ref a5, .ref a6, .ref a7, .ref a8, .ref a9, .ref a10, .long (jL mu), .long (jL md), .int (jI mo), .ref a11])), (a0, .inl (cA, 400, .inl (jA y0)))]) [0, 1] (by decide) rfl
    subst hAe
    subst hQ
    exact W.iret (v := jI z1) hx hb hr (fun t ht hW => ⟨⟨_, (z1, mp, mw), rfl, ⟨rfl, (show z1 ≤ z1 ∧ z1 ≤ z2 from by first | assumption | omega | exact jset_b (by assumption) (by omega)), (show mp ≤ mp ∧ mp ≤ mn from by first | assumption | omega | exact jset_b (by assumption) (by omega)), (show -1 ≤ mw ∧ mw ≤ 400 ∧ mw ≤ mw from by first | assumption | omega | exact jset_b (by assumption) (by omega)), (show mw < 0 → mp < mp from by first | assumption | omega | exact jset_b (by assumption) (by omega))⟩, ⟨by rw [ht]; exact hP9, va_K.moved hW.alike hK, hD9⟩⟩, hS.F ht⟩) hS.2.2 dXM_number_8
set_option maxHeartbeats 4000000 in
set_option maxRecDepth 100000 in
theorem c_XM_element (l : Launch) (dC : Nat → ClassId) (dI : Nat → Nat → Nat) (cA cZ : ClassId) (sz : Nat) (ma : Nat) (a0 : Nat) (a1 : Nat) (a2 : Nat) (a3 : Nat) (a4 : Nat) (a5 : Nat) (a6 : Nat) (a7 : Nat) (a8 : Nat) (a9 : Nat) (a10 : Nat) (a11 : Nat) (mth : Int) (mn : Int) (mp : Int) (mw : Int) (mu : Int) (md : Int) (mo : Int) (y0 : Int → Int) (z1 : Int) (hy0 : ∀ i, 0 ≤ y0 i ∧ y0 i ≤ 255) (hmn : 0 ≤ mn ∧ mn ≤ 400) (hmp : 0 ≤ mp ∧ mp ≤ mn) (hmw : -1 ≤ mw ∧ mw ≤ 400) (hz1 : i32 z1) : Met l yXM_element (Cond.code yXM_element cXM_element 3 (some .int) :: TBL) ({ frames := 2, cells := 0, slots := 0, locals := 40 } : Room) (va_Pc [.ref ma, .int (jI z1)] (jBw (dC, dI) [(cA, .int), (cZ, .boolean)] [(ma, .inr (5, [.int (jI mth), .int (jI mn), .ref a0, .int (jI mp), .int (jI mw), .ref a1, .ref a2, .ref a3, .ref a4, .ref a5, .ref a6, .ref a7, .ref a8, .ref a9, .ref a10, .long (jL mu), .long (jL md), .int (jI mo), .ref a11])), (a0, .inl (cA, 400, .inl (jA y0)))] sz)) (va_Qi (fun (r : Int32) (u : Int × Int × Int) => r = jI u.1 ∧ (-1 ≤ u.1 ∧ u.1 ≤ 7) ∧ (mp ≤ u.2.1 ∧ u.2.1 ≤ mn) ∧ (-1 ≤ u.2.2 ∧ u.2.2 ≤ 400 ∧ mw ≤ u.2.2) ∧ (0 ≤ u.1 → mp < u.2.1)) (fun u t => jE (dC, dI) [(cA, .int), (cZ, .boolean)] [(ma, .inr (5, [.int (jI mth), .int (jI mn), .ref a0, .int (jI mp), .int (jI mw), .ref a1, .ref a2, .ref a3, .ref a4, .ref a5, .ref a6, .ref a7, .ref a8, .ref a9, .ref a10, .long (jL mu), .long (jL md), .int (jI mo), .ref a11])), (a0, .inl (cA, 400, .inl (jA y0)))] sz [(ma, .inr (5, [.int (jI mth), .int (jI mn), .ref a0, .int (jI u.2.1), .int (jI u.2.2), .ref a1, .ref a2, .ref a3, .ref a4, .ref a5, .ref a6, .ref a7, .ref a8, .ref a9, .ref a10, .long (jL mu), .long (jL md), .int (jI mo), .ref a11])), (a0, .inl (cA, 400, .inl (jA y0)))] t) (va_A [(ma, .inr (5, [.int (jI mth), .int (jI mn), .ref a0, .int (jI mp), .int (jI mw), .ref a1, .ref a2, .ref a3, .ref a4, .ref a5, .ref a6, .ref a7, .ref a8, .ref a9, .ref a10, .long (jL mu), .long (jL md), .int (jI mo), .ref a11])), (a0, .inl (cA, 400, .inl (jA y0)))] sz)) 0 0 (va_A [(ma, .inr (5, [.int (jI mth), .int (jI mn), .ref a0, .int (jI mp), .int (jI mw), .ref a1, .ref a2, .ref a3, .ref a4, .ref a5, .ref a6, .ref a7, .ref a8, .ref a9, .ref a10, .long (jL mu), .long (jL md), .int (jI mo), .ref a11])), (a0, .inl (cA, 400, .inl (jA y0)))] sz) := by
  refine jMet (cc := cXM_element) (maxL := 3) (ret := some .int) (by decide) rfl ?_
  intro p e s m args below meth c s₁ R Q hR hQ B hml hv
  obtain ⟨rfl, hsz, hP, hK, hD0, hN⟩ := hv
  have hx := B.exec
  have hb := B.bytes
  have hr := B.returns
  have hts := atoms_spec (ws := Cond.code yXM_element cXM_element 3 (some .int) :: TBL) B.pre
  have hown : s.vm.findClass RXM = some m.cls := findClass_of_methodNamed B.named
  have hlocks := B.notSynchronized
  subst hsz
  obtain ⟨A, hAe⟩ : ∃ A, A = va_A [(ma, .inr (5, [.int (jI mth), .int (jI mn), .ref a0, .int (jI mp), .int (jI mw), .ref a1, .ref a2, .ref a3, .ref a4, .ref a5, .ref a6, .ref a7, .ref a8, .ref a9, .ref a10, .long (jL mu), .long (jL md), .int (jI mo), .ref a11])), (a0, .inl (cA, 400, .inl (jA y0)))] s.heap.size := ⟨_, rfl⟩
  have hD : va_D A [(ma, .inr (5, [.int (jI mth), .int (jI mn), .ref a0, .int (jI mp), .int (jI mw), .ref a1, .ref a2, .ref a3, .ref a4, .ref a5, .ref a6, .ref a7, .ref a8, .ref a9, .ref a10, .long (jL mu), .long (jL md), .int (jI mo), .ref a11])), (a0, .inl (cA, 400, .inl (jA y0)))] := by rw [hAe]; exact hD0.self
  have hA : ∀ q : Nat, s.heap.size ≤ q → A q := fun q h => by rw [hAe]; exact Or.inr h
  have hS : va_S A s.heap s.heap [] := va_S.rf
  have hP : va_P (dC, dI) vwCl [(ma, .inr (5, [.int (jI mth), .int (jI mn), .ref a0, .int (jI mp), .int (jI mw), .ref a1, .ref a2, .ref a3, .ref a4, .ref a5, .ref a6, .ref a7, .ref a8, .ref a9, .ref a10, .long (jL mu), .long (jL md), .int (jI mo), .ref a11])), (a0, .inl (cA, 400, .inl (jA y0)))] s.heap := hP
  have hl := lv_entry ([.ref ma, .int (jI z1)]) (n := 3) (Nat.le_of_ble_eq_true rfl)
  rw [lg_entry_eq]
  generalize (lg_sl ([.ref ma, .int (jI z1)]) ++ List.replicate (3 - (lg_sl ([.ref ma, .int (jI z1)])).length) Slot.unset).toArray = ls at hl ⊢
  have hl : lv_has ls 3 [(0, .ref ma), (1, .int (jI z1))] := hl
  refine lv_aload_n hx hb dXM_element_0 rfl (lv_at hl 0 rfl) ?_
  refine va_get (D := (dC, dI)) (ci := 5) (v := .int (jI mw)) (C := RXM) (T := TXM) (N := 19) hx hb hts (fun w h => jmem (inXM w h)) hown hK hP 0 rfl rfl 4 (by decide) (hts _ (jmem tw_632)) (fun _ h9 => h9) rfl dXM_element_1 ?_
  refine ji_if_ge (tgt := 21) hx hb dXM_element_4 (by decide) (by first | omega | decide) (fun c4_ => ?_) (fun c4_ => ?_)
  · refine ji_iconst hx hb dXM_element_21 ?_
    have hP9 := hP.sub (ws' := [(ma, .inr (5, [.int (jI mth), .int (jI mn), .ref a0, .int (jI mp), .int (jI mw), .ref a1, .ref a2, .ref a3, .ref a4, .ref a5, .ref a6, .ref a7, .ref a8, .ref a9, .ref a10, .long (jL mu), .long (jL md), .int (jI mo), .ref a11])), (a0, .inl (cA, 400, .inl (jA y0)))]) [0, 1] rfl
    have hD9 := hD.sub (ws' := [(ma, .inr (5, [.int (jI mth), .int (jI mn), .ref a0, .int (jI mp), .int (jI mw), .ref a1, .ref a2, .ref a3, .ref a4, .ref a5, .ref a6, .ref a7, .ref a8, .ref a9, .ref a10, .long (jL mu), .long (jL md), .int (jI mo), .ref a11])), (a0, .inl (cA, 400, .inl (jA y0)))]) [0, 1] (by decide) rfl
    subst hAe
    subst hQ
    exact W.iret (v := jI (-1)) hx hb hr (fun t ht hW => ⟨⟨_, (-1, mp, mw), rfl, ⟨rfl, (show -1 ≤ (-1 : Int) ∧ (-1 : Int) ≤ 7 from by first | assumption | omega | exact jset_b (by assumption) (by omega)), (show mp ≤ mp ∧ mp ≤ mn from by first | assumption | omega | exact jset_b (by assumption) (by omega)), (show -1 ≤ mw ∧ mw ≤ 400 ∧ mw ≤ mw from by first | assumption | omega | exact jset_b (by assumption) (by omega)), (show 0 ≤ (-1 : Int) → mp < mp from by first | assumption | omega | exact jset_b (by assumption) (by omega))⟩, ⟨by rw [ht]; exact hP9, va_K.moved hW.alike hK, hD9⟩⟩, hS.F ht⟩) hS.2.2 dXM_element_22
  · refine lv_aload_n hx hb dXM_element_7 rfl (lv_at hl 0 rfl) ?_
    refine jwVi (rest := []) (wr := []) ⟨hx, hb, hml, hown, hts⟩ (c_XM_see l dC dI cA cZ _ ma a0 a1 a2 a3 a4 a5 a6 a7 a8 a9 a10 a11 mth mn mp mw mu md mo y0 (by first | assumption | omega | exact jset_b (by assumption) (by omega)) (by first | assumption | omega | exact jset_b (by assumption) (by omega)) (by first | assumption | omega | exact jset_b (by assumption) (by omega))) (cwV 0 hts (jG_V tw_710 tw_712 ts_16 tw_6 tw_713) rfl rfl rfl (by decide +kernel) (by rw [hR]; exact ⟨Nat.le_of_ble_eq_true rfl, Nat.le_of_ble_eq_true rfl⟩)) hK hP hD hS hA hN [0, 1] [] rfl rfl (by decide) (by decide) (by decide) 0 5 rfl rfl rfl rfl hl.1 rfl (Nat.le_of_ble_eq_true rfl) dXM_element_8 (by rw [hR]; exact ⟨Nat.le_of_ble_eq_true rfl, Nat.le_of_ble_eq_true rfl⟩) (fun v u H locs hwb hP hD hS => ?_)
    obtain ⟨r, mp1'⟩ := u
    try dsimp only at hwb
    obtain ⟨er, f, f1, f2⟩ := hwb
    subst er
    have f : -1 ≤ r ∧ r ≤ 255 ∧ (0 ≤ r → mp1' < mn) := f
    have f1 : mp ≤ mp1' ∧ mp1' ≤ mn := f1
    have f2 : (mp1' < mn ∧ r = y0 mp1') ∨ (mp1' = mn ∧ r = -1) := f2
    have hP : va_P (dC, dI) vwCl [(ma, .inr (5, [.int (jI mth), .int (jI mn), .ref a0, .int (jI mp1'), .int (jI mw), .ref a1, .ref a2, .ref a3, .ref a4, .ref a5, .ref a6, .ref a7, .ref a8, .ref a9, .ref a10, .long (jL mu), .long (jL md), .int (jI mo), .ref a11])), (a0, .inl (cA, 400, .inl (jA y0)))] H := hP
    have hD : va_D A [(ma, .inr (5, [.int (jI mth), .int (jI mn), .ref a0, .int (jI mp1'), .int (jI mw), .ref a1, .ref a2, .ref a3, .ref a4, .ref a5, .ref a6, .ref a7, .ref a8, .ref a9, .ref a10, .long (jL mu), .long (jL md), .int (jI mo), .ref a11])), (a0, .inl (cA, 400, .inl (jA y0)))] := hD
    refine ji_bipush hx hb dXM_element_11 (by decide) ?_
    refine ji_bipush hx hb dXM_element_13 (by decide) ?_
    refine jrSi (rest := []) ⟨hx, hb, hml, hown, hts⟩ (c_XM_in l dC dI cA cZ r 65 72 (by first | assumption | omega) (by first | assumption | omega) (by first | assumption | omega)) (cwS 3 hts (jG_S tw_695 tw_696 tw_6 tw_697) rfl rfl rfl (by decide +kernel) (by rw [hR]; exact ⟨Nat.le_of_ble_eq_true rfl, Nat.le_of_ble_eq_true rfl⟩)) hK hP hN [] rfl rfl hl.1 rfl (Nat.le_of_ble_eq_true rfl) dXM_element_15 (by rw [hR]; exact ⟨Nat.le_of_ble_eq_true rfl, Nat.le_of_ble_eq_true rfl⟩) ?_
    have f3 := f_XM_in_b r 65 72 (by first | assumption | omega) (by first | assumption | omega) (by first | assumption | omega)
    refine ji_if_ne (tgt := 23) hx hb dXM_element_18 (by decide) (by first | omega | decide) (fun c18_ => ?_) (fun c18_ => ?_)
    · refine lv_aload_n hx hb dXM_element_23 rfl (lv_at hl 0 rfl) ?_
      refine jrVi (rest := []) ⟨hx, hb, hml, hown, hts⟩ (c_XM_here l dC dI cA cZ ma a0 a1 a2 a3 a4 a5 a6 a7 a8 a9 a10 a11 mth mn mp1' mw mu md mo y0 (by first | assumption | omega) (by first | assumption | omega) (by first | assumption | omega)) (cwV 0 hts (jG_V tw_714 tw_716 ts_17 tw_6 tw_717) rfl rfl rfl (by decide +kernel) (by rw [hR]; exact ⟨Nat.le_of_ble_eq_true rfl, Nat.le_of_ble_eq_true rfl⟩)) hK hP hN [0, 1] rfl 0 5 rfl rfl rfl rfl hl.1 rfl (Nat.le_of_ble_eq_true rfl) dXM_element_24 (by rw [hR]; exact ⟨Nat.le_of_ble_eq_true rfl, Nat.le_of_ble_eq_true rfl⟩) ?_
      have f4 := f_XM_here_b mth mn mp1' mw mu md mo y0 (by first | assumption | omega) (by first | assumption | omega) (by first | assumption | omega)
      have f5 := f_XM_here_v mth mn mp1' mw mu md mo y0 (by first | assumption | omega) (by first | assumption | omega) (by first | assumption | omega)
      refine ji_bipush hx hb dXM_element_27 (by decide) ?_
      refine ji_isub hx hb dXM_element_29 ?_
      refine lv_istore_n (lv' := [(2, .int (jI ((f_XM_here mth mn mp1' mw mu md mo y0) - 65))), (0, .ref ma), (1, .int (jI z1))]) hx hb dXM_element_30 rfl hl (by decide) rfl (fun ls hl => ?_)
      refine lv_iload_n hx hb dXM_element_31 rfl (lv_at hl 2 rfl) ?_
      refine lv_iload_n hx hb dXM_element_32 rfl (lv_at hl 0 rfl) ?_
      refine lv_ishr hx hb dXM_element_33 ?_
      refine ji_rev ?_
      refine ji_iconst hx hb dXM_element_34 ?_
      refine lv_iand hx hb dXM_element_35 ?_
      refine ji_rev ?_
      refine ji_top (fun zr ezr => ?_)
      have rb : i32 zr := by rw [ezr]; exact jti32 _
      refine ji_iconst hx hb dXM_element_36 ?_
      refine ji_icmp_ne (tgt := 48) hx hb dXM_element_37 (by decide) (by first | omega | decide) (by first | omega | decide) (fun c37_ => ?_) (fun c37_ => ?_)
      · refine lv_aload_n hx hb dXM_element_48 rfl (lv_at hl 1 rfl) ?_
        refine lv_dup hx hb dXM_element_49 rfl ?_
        refine va_get (D := (dC, dI)) (ci := 5) (v := .int (jI mp1')) (C := RXM) (T := TXM) (N := 19) hx hb hts (fun w h => jmem (inXM w h)) hown hK hP 0 rfl rfl 3 (by decide) (hts _ (jmem tw_631)) (fun _ h9 => h9) rfl dXM_element_50 ?_
        refine ji_iconst hx hb dXM_element_53 ?_
        refine ji_iadd hx hb dXM_element_54 ?_
        refine va_put (D := (dC, dI)) (ci := 5) (v := .int (jI (mp1' + 1))) (ty := (.int)) (C := RXM) (T := TXM) (N := 19) hx hb hts (fun w h => jmem (inXM w h)) tyXM tyXM_ok nXM hown hK hP hD hS 0 rfl rfl 3 (by decide) (hts _ (jmem tw_631)) (fun _ h9 => h9) rfl (by decide +kernel) rfl rfl (Nat.le_of_ble_eq_true rfl) dXM_element_55 (fun H locs hP hD hS => ?_)
        have hP : va_P (dC, dI) vwCl [(ma, .inr (5, [.int (jI mth), .int (jI mn), .ref a0, .int (jI (mp1' + 1)), .int (jI mw), .ref a1, .ref a2, .ref a3, .ref a4, .ref a5, .ref a6, .ref a7, .ref a8, .ref a9, .ref a10, .long (jL mu), .long (jL md), .int (jI mo), .ref a11])), (a0, .inl (cA, 400, .inl (jA y0)))] H := hP
        have hD : va_D A [(ma, .inr (5, [.int (jI mth), .int (jI mn), .ref a0, .int (jI (mp1' + 1)), .int (jI mw), .ref a1, .ref a2, .ref a3, .ref a4, .ref a5, .ref a6, .ref a7, .ref a8, .ref a9, .ref a10, .long (jL mu), .long (jL md), .int (jI mo), .ref a11])), (a0, .inl (cA, 400, .inl (jA y0)))] := hD
        refine lv_iload_n hx hb dXM_element_58 rfl (lv_at hl 0 rfl) ?_
        have hP9 := hP.sub (ws' := [(ma, .inr (5, [.int (jI mth), .int (jI mn), .ref a0, .int (jI (mp1' + 1)), .int (jI mw), .ref a1, .ref a2, .ref a3, .ref a4, .ref a5, .ref a6, .ref a7, .ref a8, .ref a9, .ref a10, .long (jL mu), .long (jL md), .int (jI mo), .ref a11])), (a0, .inl (cA, 400, .inl (jA y0)))]) [0, 1] rfl
        have hD9 := hD.sub (ws' := [(ma, .inr (5, [.int (jI mth), .int (jI mn), .ref a0, .int (jI (mp1' + 1)), .int (jI mw), .ref a1, .ref a2, .ref a3, .ref a4, .ref a5, .ref a6, .ref a7, .ref a8, .ref a9, .ref a10, .long (jL mu), .long (jL md), .int (jI mo), .ref a11])), (a0, .inl (cA, 400, .inl (jA y0)))]) [0, 1] (by decide) rfl
        subst hAe
        subst hQ
        exact W.iret (v := jI ((f_XM_here mth mn mp1' mw mu md mo y0) - 65)) hx hb hr (fun t ht hW => ⟨⟨_, ((f_XM_here mth mn mp1' mw mu md mo y0) - 65, mp1' + 1, mw), rfl, ⟨rfl, (show -1 ≤ ((f_XM_here mth mn mp1' mw mu md mo y0) - 65) ∧ ((f_XM_here mth mn mp1' mw mu md mo y0) - 65) ≤ 7 from by first | assumption | omega | exact jset_b (by assumption) (by omega)), (show mp ≤ (mp1' + 1) ∧ (mp1' + 1) ≤ mn from by first | assumption | omega | exact jset_b (by assumption) (by omega)), (show -1 ≤ mw ∧ mw ≤ 400 ∧ mw ≤ mw from by first | assumption | omega | exact jset_b (by assumption) (by omega)), (show 0 ≤ ((f_XM_here mth mn mp1' mw mu md mo y0) - 65) → mp < (mp1' + 1) from by first | assumption | omega | exact jset_b (by assumption) (by omega))⟩, ⟨by rw [ht]; exact hP9, va_K.moved hW.alike hK, hD9⟩⟩, hS.F ht⟩) hS.2.2 dXM_element_59
      · refine lv_aload_n hx hb dXM_element_40 rfl (lv_at hl 1 rfl) ?_
        refine lv_aload_n hx hb dXM_element_41 rfl (lv_at hl 1 rfl) ?_
        refine va_get (D := (dC, dI)) (ci := 5) (v := .int (jI mp1')) (C := RXM) (T := TXM) (N := 19) hx hb hts (fun w h => jmem (inXM w h)) hown hK hP 0 rfl rfl 3 (by decide) (hts _ (jmem tw_631)) (fun _ h9 => h9) rfl dXM_element_42 ?_
        refine jwVv (rest := []) (wr := [(a0, .inl (cA, 400, .inl (jA y0)))]) ⟨hx, hb, hml, hown, hts⟩ (c_XM_fail l dC dI cA cZ _ ma a0 a1 a2 a3 a4 a5 a6 a7 a8 a9 a10 a11 mth mn mp1' mw mu md mo mp1' (by first | assumption | omega | exact jset_b (by assumption) (by omega)) (by first | assumption | omega | exact jset_b (by assumption) (by omega))) (cwV 1 hts (jG_V tw_734 tw_736 ts_22 tw_6 tw_737) rfl rfl rfl (by decide +kernel) (by rw [hR]; exact ⟨Nat.le_of_ble_eq_true rfl, Nat.le_of_ble_eq_true rfl⟩)) hK hP hD hS hA hN [0] [1] rfl rfl (by decide) (by decide) (by decide) 0 5 rfl rfl rfl rfl hl.1 rfl (Nat.le_of_ble_eq_true rfl) dXM_element_45 (by rw [hR]; exact ⟨Nat.le_of_ble_eq_true rfl, Nat.le_of_ble_eq_true rfl⟩) (fun u6 H locs hwb7 hP hD hS => ?_)
        try dsimp only at hwb7
        have f8 := hwb7
        have f8 : (0 ≤ mw ∧ u6 = mw) ∨ (mw < 0 ∧ u6 = mp1') := f8
        have hP : va_P (dC, dI) vwCl [(a0, .inl (cA, 400, .inl (jA y0))), (ma, .inr (5, [.int (jI mth), .int (jI mn), .ref a0, .int (jI mp1'), .int (jI u6), .ref a1, .ref a2, .ref a3, .ref a4, .ref a5, .ref a6, .ref a7, .ref a8, .ref a9, .ref a10, .long (jL mu), .long (jL md), .int (jI mo), .ref a11]))] H := hP
        have hD : va_D A [(a0, .inl (cA, 400, .inl (jA y0))), (ma, .inr (5, [.int (jI mth), .int (jI mn), .ref a0, .int (jI mp1'), .int (jI u6), .ref a1, .ref a2, .ref a3, .ref a4, .ref a5, .ref a6, .ref a7, .ref a8, .ref a9, .ref a10, .long (jL mu), .long (jL md), .int (jI mo), .ref a11]))] := hD
        refine lv_aload_n hx hb dXM_element_48 rfl (lv_at hl 1 rfl) ?_
        refine lv_dup hx hb dXM_element_49 rfl ?_
        refine va_get (D := (dC, dI)) (ci := 5) (v := .int (jI mp1')) (C := RXM) (T := TXM) (N := 19) hx hb hts (fun w h => jmem (inXM w h)) hown hK hP 1 rfl rfl 3 (by decide) (hts _ (jmem tw_631)) (fun _ h9 => h9) rfl dXM_element_50 ?_
        refine ji_iconst hx hb dXM_element_53 ?_
        refine ji_iadd hx hb dXM_element_54 ?_
        refine va_put (D := (dC, dI)) (ci := 5) (v := .int (jI (mp1' + 1))) (ty := (.int)) (C := RXM) (T := TXM) (N := 19) hx hb hts (fun w h => jmem (inXM w h)) tyXM tyXM_ok nXM hown hK hP hD hS 1 rfl rfl 3 (by decide) (hts _ (jmem tw_631)) (fun _ h9 => h9) rfl (by decide +kernel) rfl rfl (Nat.le_of_ble_eq_true rfl) dXM_element_55 (fun H locs hP hD hS => ?_)
        have hP : va_P (dC, dI) vwCl [(a0, .inl (cA, 400, .inl (jA y0))), (ma, .inr (5, [.int (jI mth), .int (jI mn), .ref a0, .int (jI (mp1' + 1)), .int (jI u6), .ref a1, .ref a2, .ref a3, .ref a4, .ref a5, .ref a6, .ref a7, .ref a8, .ref a9, .ref a10, .long (jL mu), .long (jL md), .int (jI mo), .ref a11]))] H := hP
        have hD : va_D A [(a0, .inl (cA, 400, .inl (jA y0))), (ma, .inr (5, [.int (jI mth), .int (jI mn), .ref a0, .int (jI (mp1' + 1)), .int (jI u6), .ref a1, .ref a2, .ref a3, .ref a4, .ref a5, .ref a6, .ref a7, .ref a8, .ref a9, .ref a10, .long (jL mu), .long (jL md), .int (jI mo), .ref a11]))] := hD
        refine lv_iload_n hx hb dXM_element_58 rfl (lv_at hl 0 rfl) ?_
        have hP9 := hP.sub (ws' := [(ma, .inr (5, [.int (jI mth), .int (jI mn), .ref a0, .int (jI (mp1' + 1)), .int (jI u6), .ref a1, .ref a2, .ref a3, .ref a4, .ref a5, .ref a6, .ref a7, .ref a8, .ref a9, .ref a10, .long (jL mu), .long (jL md), .int (jI mo), .ref a11])), (a0, .inl (cA, 400, .inl (jA y0)))]) [1, 0] rfl
        have hD9 := hD.sub (ws' := [(ma, .inr (5, [.int (jI mth), .int (jI mn), .ref a0, .int (jI (mp1' + 1)), .int (jI u6), .ref a1, .ref a2, .ref a3, .ref a4, .ref a5, .ref a6, .ref a7, .ref a8, .ref a9, .ref a10, .long (jL mu), .long (jL md), .int (jI mo), .ref a11])), (a0, .inl (cA, 400, .inl (jA y0)))]) [1, 0] (by decide) rfl
        subst hAe
        subst hQ
        exact W.iret (v := jI ((f_XM_here mth mn mp1' mw mu md mo y0) - 65)) hx hb hr (fun t ht hW => ⟨⟨_, ((f_XM_here mth mn mp1' mw mu md mo y0) - 65, mp1' + 1, u6), rfl, ⟨rfl, (show -1 ≤ ((f_XM_here mth mn mp1' mw mu md mo y0) - 65) ∧ ((f_XM_here mth mn mp1' mw mu md mo y0) - 65) ≤ 7 from by first | assumption | omega | exact jset_b (by assumption) (by omega)), (show mp ≤ (mp1' + 1) ∧ (mp1' + 1) ≤ mn from by first | assumption | omega | exact jset_b (by assumption) (by omega)), (show -1 ≤ u6 ∧ u6 ≤ 400 ∧ mw ≤ u6 from by first | assumption | omega | exact jset_b (by assumption) (by omega)), (show 0 ≤ ((f_XM_here mth mn mp1' mw mu md mo y0) - 65) → mp < (mp1' + 1) from by first | assumption | omega | exact jset_b (by assumption) (by omega))⟩, ⟨by rw [ht]; exact hP9, va_K.moved hW.alike hK, hD9⟩⟩, hS.F ht⟩) hS.2.2 dXM_element_59
    · refine ji_iconst hx hb dXM_element_21 ?_
      have hP9 := hP.sub (ws' := [(ma, .inr (5, [.int (jI mth), .int (jI mn), .ref a0, .int (jI mp1'), .int (jI mw), .ref a1, .ref a2, .ref a3, .ref a4, .ref a5, .ref a6, .ref a7, .ref a8, .ref a9, .ref a10, .long (jL mu), .long (jL md), .int (jI mo), .ref a11])), (a0, .inl (cA, 400, .inl (jA y0)))]) [0, 1] rfl
      have hD9 := hD.sub (ws' := [(ma, .inr (5, [.int (jI mth), .int (jI mn), .ref a0, .int (jI mp1'), .int (jI mw), .ref a1, .ref a2, .ref a3, .ref a4, .ref a5, .ref a6, .ref a7, .ref a8, .ref a9, .ref a10, .long (jL mu), .long (jL md), .int (jI mo), .ref a11])), (a0, .inl (cA, 400, .inl (jA y0)))]) [0, 1] (by decide) rfl
      subst hAe
      subst hQ
      exact W.iret (v := jI (-1)) hx hb hr (fun t ht hW => ⟨⟨_, (-1, mp1', mw), rfl, ⟨rfl, (show -1 ≤ (-1 : Int) ∧ (-1 : Int) ≤ 7 from by first | assumption | omega | exact jset_b (by assumption) (by omega)), (show mp ≤ mp1' ∧ mp1' ≤ mn from by first | assumption | omega | exact jset_b (by assumption) (by omega)), (show -1 ≤ mw ∧ mw ≤ 400 ∧ mw ≤ mw from by first | assumption | omega | exact jset_b (by assumption) (by omega)), (show 0 ≤ (-1 : Int) → mp < mp1' from by first | assumption | omega | exact jset_b (by assumption) (by omega))⟩, ⟨by rw [ht]; exact hP9, va_K.moved hW.alike hK, hD9⟩⟩, hS.F ht⟩) hS.2.2 dXM_element_22
