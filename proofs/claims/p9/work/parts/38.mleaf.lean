noncomputable def g_XM_in (z1 : Int) (z2 : Int) (z3 : Int) : Int :=
  if z1 < z2 then
    0
  else
    if z3 < z1 then
      0
    else
      1
noncomputable def f_XM_in : Int → Int → Int → Int := jopq g_XM_in
theorem f_XM_in_q : f_XM_in = g_XM_in := jopq_eq _
theorem f_XM_in_s (z1 : Int) (z2 : Int) (z3 : Int) : f_XM_in z1 z2 z3 = (
    if z1 < z2 then
      0
    else
      if z3 < z1 then
        0
      else
        1
  : Int) := by rw [f_XM_in_q]; rfl
theorem f_XM_in_b (z1 : Int) (z2 : Int) (z3 : Int) (h1 : i32 z1) (h2 : i32 z2) (h3 : i32 z3) : ((f_XM_in z1 z2 z3) = 1 ∧ z2 ≤ z1 ∧ z1 ≤ z3) ∨ ((f_XM_in z1 z2 z3) = 0 ∧ (z1 < z2 ∨ z3 < z1)) := by rw [f_XM_in_s]; (repeat' split) <;> omega
set_option maxHeartbeats 4000000 in
set_option maxRecDepth 100000 in
theorem c_XM_in (l : Launch) (dC : Nat → ClassId) (dI : Nat → Nat → Nat) (cA cZ : ClassId) (z1 : Int) (z2 : Int) (z3 : Int) (h1 : i32 z1) (h2 : i32 z2) (h3 : i32 z3) : Met l yXM_in (Cond.code yXM_in cXM_in 3 (some .boolean) :: TBL) ({ frames := 0, cells := 0, slots := 0, locals := 0 } : Room) (va_Pc [.int (jI z1), .int (jI z2), .int (jI z3)] (jB (dC, dI) [(cA, .int), (cZ, .boolean)] [])) (vp_Si (fun r => r = jI (f_XM_in z1 z2 z3))) 0 0 (fun _ => False) := by
  refine jMet (cc := cXM_in) (maxL := 3) (ret := some .boolean) (by decide) rfl ?_
  intro p e s m args below meth c s₁ R Q hR hQ B hml hv
  obtain ⟨rfl, hP, hK, hN⟩ := hv
  have hx := B.exec
  have hb := B.bytes
  have hr := B.returns
  have hts := atoms_spec (ws := Cond.code yXM_in cXM_in 3 (some .boolean) :: TBL) B.pre
  have hown : s.vm.findClass RXM = some m.cls := findClass_of_methodNamed B.named
  have hlocks := B.notSynchronized
  have hP : va_P (dC, dI) vwCl [] s.heap := hP
  have hl := lv_entry ([.int (jI z1), .int (jI z2), .int (jI z3)]) (n := 3) (Nat.le_of_ble_eq_true rfl)
  rw [lg_entry_eq]
  generalize (lg_sl ([.int (jI z1), .int (jI z2), .int (jI z3)]) ++ List.replicate (3 - (lg_sl ([.int (jI z1), .int (jI z2), .int (jI z3)])).length) Slot.unset).toArray = ls at hl ⊢
  have hl : lv_has ls 3 [(0, .int (jI z1)), (1, .int (jI z2)), (2, .int (jI z3))] := hl
  refine lv_iload_n hx hb dXM_in_0 rfl (lv_at hl 0 rfl) ?_
  refine lv_iload_n hx hb dXM_in_1 rfl (lv_at hl 1 rfl) ?_
  refine ji_icmp_lt (tgt := 14) hx hb dXM_in_2 (by decide) (by omega) (by omega) (fun c2_ => ?_) (fun c2_ => ?_)
  · refine ji_iconst hx hb dXM_in_14 ?_
    subst hQ
    exact W.zret (v := jI 0) hx hb hr (by first | decide | exact jz (by omega)) (fun t ht hW => ⟨_, rfl, congrArg jI (Eq.trans (by rw [f_XM_in_s]; rw [if_pos c2_]; try rfl) rfl), ht⟩) (fun _ h => nomatch h) dXM_in_15
  · refine lv_iload_n hx hb dXM_in_5 rfl (lv_at hl 0 rfl) ?_
    refine lv_iload_n hx hb dXM_in_6 rfl (lv_at hl 2 rfl) ?_
    refine ji_icmp_gt (tgt := 14) hx hb dXM_in_7 (by decide) (by omega) (by omega) (fun c7_ => ?_) (fun c7_ => ?_)
    · refine ji_iconst hx hb dXM_in_14 ?_
      subst hQ
      exact W.zret (v := jI 0) hx hb hr (by first | decide | exact jz (by omega)) (fun t ht hW => ⟨_, rfl, congrArg jI (Eq.trans (by rw [f_XM_in_s]; rw [if_neg (Int.not_lt.mpr c2_), if_pos c7_]; try rfl) rfl), ht⟩) (fun _ h => nomatch h) dXM_in_15
    · refine ji_iconst hx hb dXM_in_10 ?_
      refine lv_goto (tgt := 15) hx hb dXM_in_11 (by decide) ?_
      subst hQ
      exact W.zret (v := jI 1) hx hb hr (by first | decide | exact jz (by omega)) (fun t ht hW => ⟨_, rfl, congrArg jI (Eq.trans (by rw [f_XM_in_s]; rw [if_neg (Int.not_lt.mpr c2_), if_neg (Int.not_lt.mpr c7_)]; try rfl) rfl), ht⟩) (fun _ h => nomatch h) dXM_in_15
noncomputable def g_XM_isElement (z1 : Int) : Int :=
  f_XM_in z1 0 7
noncomputable def f_XM_isElement : Int → Int := jopq g_XM_isElement
theorem f_XM_isElement_q : f_XM_isElement = g_XM_isElement := jopq_eq _
theorem f_XM_isElement_s (z1 : Int) : f_XM_isElement z1 = (
    f_XM_in z1 0 7
  : Int) := by rw [f_XM_isElement_q]; rfl
theorem f_XM_isElement_b (z1 : Int) (h1 : i32 z1) : ((f_XM_isElement z1) = 1 ∧ 0 ≤ z1 ∧ z1 ≤ 7) ∨ ((f_XM_isElement z1) = 0 ∧ (z1 < 0 ∨ 7 < z1)) := by rw [f_XM_isElement_s]; have := f_XM_in_b z1 0 7 h1 (by decide) (by decide); omega
set_option maxHeartbeats 4000000 in
set_option maxRecDepth 100000 in
theorem c_XM_isElement (l : Launch) (dC : Nat → ClassId) (dI : Nat → Nat → Nat) (cA cZ : ClassId) (z1 : Int) (h1 : i32 z1) : Met l yXM_isElement (Cond.code yXM_isElement cXM_isElement 1 (some .boolean) :: TBL) ({ frames := 1, cells := 0, slots := 0, locals := 22 } : Room) (va_Pc [.int (jI z1)] (jB (dC, dI) [(cA, .int), (cZ, .boolean)] [])) (vp_Si (fun r => r = jI (f_XM_isElement z1))) 0 0 (fun _ => False) := by
  refine jMet (cc := cXM_isElement) (maxL := 1) (ret := some .boolean) (by decide) rfl ?_
  intro p e s m args below meth c s₁ R Q hR hQ B hml hv
  obtain ⟨rfl, hP, hK, hN⟩ := hv
  have hx := B.exec
  have hb := B.bytes
  have hr := B.returns
  have hts := atoms_spec (ws := Cond.code yXM_isElement cXM_isElement 1 (some .boolean) :: TBL) B.pre
  have hown : s.vm.findClass RXM = some m.cls := findClass_of_methodNamed B.named
  have hlocks := B.notSynchronized
  have hP : va_P (dC, dI) vwCl [] s.heap := hP
  have hl := lv_entry ([.int (jI z1)]) (n := 1) (Nat.le_of_ble_eq_true rfl)
  rw [lg_entry_eq]
  generalize (lg_sl ([.int (jI z1)]) ++ List.replicate (1 - (lg_sl ([.int (jI z1)])).length) Slot.unset).toArray = ls at hl ⊢
  have hl : lv_has ls 1 [(0, .int (jI z1))] := hl
  refine lv_iload_n hx hb dXM_isElement_0 rfl (lv_at hl 0 rfl) ?_
  refine ji_iconst hx hb dXM_isElement_1 ?_
  refine ji_bipush hx hb dXM_isElement_2 (by decide) ?_
  refine jrSi (rest := []) ⟨hx, hb, hml, hown, hts⟩ (c_XM_in l dC dI cA cZ z1 0 7 (by first | assumption | omega) (by first | assumption | omega) (by first | assumption | omega)) (cwS 3 hts (jG_S tw_695 tw_696 tw_6 tw_697) rfl rfl rfl (by decide +kernel) (by rw [hR]; exact ⟨Nat.le_of_ble_eq_true rfl, Nat.le_of_ble_eq_true rfl⟩)) hK hP hN [] rfl rfl hl.1 rfl (Nat.le_of_ble_eq_true rfl) dXM_isElement_4 (by rw [hR]; exact ⟨Nat.le_of_ble_eq_true rfl, Nat.le_of_ble_eq_true rfl⟩) ?_
  have f := f_XM_in_b z1 0 7 (by first | assumption | omega) (by first | assumption | omega) (by first | assumption | omega)
  subst hQ
  exact W.zret (v := jI (f_XM_in z1 0 7)) hx hb hr (by first | decide | exact jz (by omega)) (fun t ht hW => ⟨_, rfl, congrArg jI (Eq.trans (by rw [f_XM_isElement_s]; try rfl) rfl), ht⟩) (fun _ h => nomatch h) dXM_isElement_7
noncomputable def g_XM_isKind (z1 : Int) : Int :=
  f_XM_in z1 0 3
noncomputable def f_XM_isKind : Int → Int := jopq g_XM_isKind
theorem f_XM_isKind_q : f_XM_isKind = g_XM_isKind := jopq_eq _
theorem f_XM_isKind_s (z1 : Int) : f_XM_isKind z1 = (
    f_XM_in z1 0 3
  : Int) := by rw [f_XM_isKind_q]; rfl
theorem f_XM_isKind_b (z1 : Int) (h1 : i32 z1) : ((f_XM_isKind z1) = 1 ∧ 0 ≤ z1 ∧ z1 ≤ 3) ∨ ((f_XM_isKind z1) = 0 ∧ (z1 < 0 ∨ 3 < z1)) := by rw [f_XM_isKind_s]; have := f_XM_in_b z1 0 3 h1 (by decide) (by decide); omega
set_option maxHeartbeats 4000000 in
set_option maxRecDepth 100000 in
theorem c_XM_isKind (l : Launch) (dC : Nat → ClassId) (dI : Nat → Nat → Nat) (cA cZ : ClassId) (z1 : Int) (h1 : i32 z1) : Met l yXM_isKind (Cond.code yXM_isKind cXM_isKind 1 (some .boolean) :: TBL) ({ frames := 1, cells := 0, slots := 0, locals := 22 } : Room) (va_Pc [.int (jI z1)] (jB (dC, dI) [(cA, .int), (cZ, .boolean)] [])) (vp_Si (fun r => r = jI (f_XM_isKind z1))) 0 0 (fun _ => False) := by
  refine jMet (cc := cXM_isKind) (maxL := 1) (ret := some .boolean) (by decide) rfl ?_
  intro p e s m args below meth c s₁ R Q hR hQ B hml hv
  obtain ⟨rfl, hP, hK, hN⟩ := hv
  have hx := B.exec
  have hb := B.bytes
  have hr := B.returns
  have hts := atoms_spec (ws := Cond.code yXM_isKind cXM_isKind 1 (some .boolean) :: TBL) B.pre
  have hown : s.vm.findClass RXM = some m.cls := findClass_of_methodNamed B.named
  have hlocks := B.notSynchronized
  have hP : va_P (dC, dI) vwCl [] s.heap := hP
  have hl := lv_entry ([.int (jI z1)]) (n := 1) (Nat.le_of_ble_eq_true rfl)
  rw [lg_entry_eq]
  generalize (lg_sl ([.int (jI z1)]) ++ List.replicate (1 - (lg_sl ([.int (jI z1)])).length) Slot.unset).toArray = ls at hl ⊢
  have hl : lv_has ls 1 [(0, .int (jI z1))] := hl
  refine lv_iload_n hx hb dXM_isKind_0 rfl (lv_at hl 0 rfl) ?_
  refine ji_iconst hx hb dXM_isKind_1 ?_
  refine ji_iconst hx hb dXM_isKind_2 ?_
  refine jrSi (rest := []) ⟨hx, hb, hml, hown, hts⟩ (c_XM_in l dC dI cA cZ z1 0 3 (by first | assumption | omega) (by first | assumption | omega) (by first | assumption | omega)) (cwS 3 hts (jG_S tw_695 tw_696 tw_6 tw_697) rfl rfl rfl (by decide +kernel) (by rw [hR]; exact ⟨Nat.le_of_ble_eq_true rfl, Nat.le_of_ble_eq_true rfl⟩)) hK hP hN [] rfl rfl hl.1 rfl (Nat.le_of_ble_eq_true rfl) dXM_isKind_3 (by rw [hR]; exact ⟨Nat.le_of_ble_eq_true rfl, Nat.le_of_ble_eq_true rfl⟩) ?_
  have f := f_XM_in_b z1 0 3 (by first | assumption | omega) (by first | assumption | omega) (by first | assumption | omega)
  subst hQ
  exact W.zret (v := jI (f_XM_in z1 0 3)) hx hb hr (by first | decide | exact jz (by omega)) (fun t ht hW => ⟨_, rfl, congrArg jI (Eq.trans (by rw [f_XM_isKind_s]; try rfl) rfl), ht⟩) (fun _ h => nomatch h) dXM_isKind_6
noncomputable def g_XM_thrown (mth : Int) (mn : Int) (mp : Int) (mw : Int) (mu : Int) (md : Int) (mo : Int) : Int :=
  mth
noncomputable def f_XM_thrown : Int → Int → Int → Int → Int → Int → Int → Int := jopq g_XM_thrown
theorem f_XM_thrown_q : f_XM_thrown = g_XM_thrown := jopq_eq _
theorem f_XM_thrown_s (mth : Int) (mn : Int) (mp : Int) (mw : Int) (mu : Int) (md : Int) (mo : Int) : f_XM_thrown mth mn mp mw mu md mo = (
    mth
  : Int) := by rw [f_XM_thrown_q]; rfl
theorem f_XM_thrown_b (mth : Int) (mn : Int) (mp : Int) (mw : Int) (mu : Int) (md : Int) (mo : Int) : (f_XM_thrown mth mn mp mw mu md mo) = mth := by rw [f_XM_thrown_s]
set_option maxHeartbeats 4000000 in
set_option maxRecDepth 100000 in
theorem c_XM_thrown (l : Launch) (dC : Nat → ClassId) (dI : Nat → Nat → Nat) (cA cZ : ClassId) (ma : Nat) (a0 : Nat) (a1 : Nat) (a2 : Nat) (a3 : Nat) (a4 : Nat) (a5 : Nat) (a6 : Nat) (a7 : Nat) (a8 : Nat) (a9 : Nat) (a10 : Nat) (a11 : Nat) (mth : Int) (mn : Int) (mp : Int) (mw : Int) (mu : Int) (md : Int) (mo : Int) : Met l yXM_thrown (Cond.code yXM_thrown cXM_thrown 1 (some .int) :: TBL) ({ frames := 0, cells := 0, slots := 0, locals := 0 } : Room) (va_Pc [.ref ma] (jB (dC, dI) [(cA, .int), (cZ, .boolean)] [(ma, .inr (5, [.int (jI mth), .int (jI mn), .ref a0, .int (jI mp), .int (jI mw), .ref a1, .ref a2, .ref a3, .ref a4, .ref a5, .ref a6, .ref a7, .ref a8, .ref a9, .ref a10, .long (jL mu), .long (jL md), .int (jI mo), .ref a11]))])) (vp_Si (fun r => r = jI (f_XM_thrown mth mn mp mw mu md mo))) 0 0 (fun _ => False) := by
  refine jMet (cc := cXM_thrown) (maxL := 1) (ret := some .int) (by decide) rfl ?_
  intro p e s m args below meth c s₁ R Q hR hQ B hml hv
  obtain ⟨rfl, hP, hK, hN⟩ := hv
  have hx := B.exec
  have hb := B.bytes
  have hr := B.returns
  have hts := atoms_spec (ws := Cond.code yXM_thrown cXM_thrown 1 (some .int) :: TBL) B.pre
  have hown : s.vm.findClass RXM = some m.cls := findClass_of_methodNamed B.named
  have hlocks := B.notSynchronized
  have hP : va_P (dC, dI) vwCl [(ma, .inr (5, [.int (jI mth), .int (jI mn), .ref a0, .int (jI mp), .int (jI mw), .ref a1, .ref a2, .ref a3, .ref a4, .ref a5, .ref a6, .ref a7, .ref a8, .ref a9, .ref a10, .long (jL mu), .long (jL md), .int (jI mo), .ref a11]))] s.heap := hP
  have hl := lv_entry ([.ref ma]) (n := 1) (Nat.le_of_ble_eq_true rfl)
  rw [lg_entry_eq]
  generalize (lg_sl ([.ref ma]) ++ List.replicate (1 - (lg_sl ([.ref ma])).length) Slot.unset).toArray = ls at hl ⊢
  have hl : lv_has ls 1 [(0, .ref ma)] := hl
  refine lv_aload_n hx hb dXM_thrown_0 rfl (lv_at hl 0 rfl) ?_
  refine va_get (D := (dC, dI)) (ci := 5) (v := .int (jI mth)) (C := RXM) (T := TXM) (N := 19) hx hb hts (fun w h => jmem (inXM w h)) hown hK hP 0 rfl rfl 0 (by decide) (hts _ (jmem tw_628)) (fun _ h9 => h9) rfl dXM_thrown_1 ?_
  subst hQ
  exact W.iret (v := jI mth) hx hb hr (fun t ht hW => ⟨_, rfl, congrArg jI (Eq.trans (by rw [f_XM_thrown_s]; try rfl) rfl), ht⟩) (fun _ h => nomatch h) dXM_thrown_4
noncomputable def g_XM_isTold (mth : Int) (mn : Int) (mp : Int) (mw : Int) (mu : Int) (md : Int) (mo : Int) (y1 : Int → Int) (z1 : Int) : Int :=
  if (f_XM_in z1 1 30) = 0 then
    0
  else
    if (y1 z1) = 0 then
      0
    else
      1
noncomputable def f_XM_isTold : Int → Int → Int → Int → Int → Int → Int → (Int → Int) → Int → Int := jopq g_XM_isTold
theorem f_XM_isTold_q : f_XM_isTold = g_XM_isTold := jopq_eq _
theorem f_XM_isTold_s (mth : Int) (mn : Int) (mp : Int) (mw : Int) (mu : Int) (md : Int) (mo : Int) (y1 : Int → Int) (z1 : Int) : f_XM_isTold mth mn mp mw mu md mo y1 z1 = (
    if (f_XM_in z1 1 30) = 0 then
      0
    else
      if (y1 z1) = 0 then
        0
      else
        1
  : Int) := by rw [f_XM_isTold_q]; rfl
theorem f_XM_isTold_b (mth : Int) (mn : Int) (mp : Int) (mw : Int) (mu : Int) (md : Int) (mo : Int) (y1 : Int → Int) (z1 : Int) (hy1 : ∀ i, 0 ≤ y1 i ∧ y1 i ≤ 1) (h1 : i32 z1) : ((f_XM_isTold mth mn mp mw mu md mo y1 z1) = 1 ∧ 1 ≤ z1 ∧ z1 ≤ 30 ∧ y1 z1 = 1) ∨ ((f_XM_isTold mth mn mp mw mu md mo y1 z1) = 0 ∧ (z1 < 1 ∨ 30 < z1 ∨ y1 z1 = 0)) := by have := hy1 z1; have := f_XM_in_b z1 1 30 h1 (by decide) (by decide); rw [f_XM_isTold_s]; (repeat' split) <;> omega
set_option maxHeartbeats 4000000 in
set_option maxRecDepth 100000 in
theorem c_XM_isTold (l : Launch) (dC : Nat → ClassId) (dI : Nat → Nat → Nat) (cA cZ : ClassId) (ma : Nat) (a0 : Nat) (a1 : Nat) (a2 : Nat) (a3 : Nat) (a4 : Nat) (a5 : Nat) (a6 : Nat) (a7 : Nat) (a8 : Nat) (a9 : Nat) (a10 : Nat) (a11 : Nat) (mth : Int) (mn : Int) (mp : Int) (mw : Int) (mu : Int) (md : Int) (mo : Int) (y1 : Int → Int) (z1 : Int) (hy1 : ∀ i, 0 ≤ y1 i ∧ y1 i ≤ 1) (h1 : i32 z1) : Met l yXM_isTold (Cond.code yXM_isTold cXM_isTold 2 (some .boolean) :: TBL) ({ frames := 1, cells := 0, slots := 0, locals := 22 } : Room) (va_Pc [.ref ma, .int (jI z1)] (jB (dC, dI) [(cA, .int), (cZ, .boolean)] [(ma, .inr (5, [.int (jI mth), .int (jI mn), .ref a0, .int (jI mp), .int (jI mw), .ref a1, .ref a2, .ref a3, .ref a4, .ref a5, .ref a6, .ref a7, .ref a8, .ref a9, .ref a10, .long (jL mu), .long (jL md), .int (jI mo), .ref a11])), (a1, .inl (cZ, 62, .inl (jA y1)))])) (vp_Si (fun r => r = jI (f_XM_isTold mth mn mp mw mu md mo y1 z1))) 0 0 (fun _ => False) := by
  refine jMet (cc := cXM_isTold) (maxL := 2) (ret := some .boolean) (by decide) rfl ?_
  intro p e s m args below meth c s₁ R Q hR hQ B hml hv
  obtain ⟨rfl, hP, hK, hN⟩ := hv
  have hx := B.exec
  have hb := B.bytes
  have hr := B.returns
  have hts := atoms_spec (ws := Cond.code yXM_isTold cXM_isTold 2 (some .boolean) :: TBL) B.pre
  have hown : s.vm.findClass RXM = some m.cls := findClass_of_methodNamed B.named
  have hlocks := B.notSynchronized
  have hP : va_P (dC, dI) vwCl [(ma, .inr (5, [.int (jI mth), .int (jI mn), .ref a0, .int (jI mp), .int (jI mw), .ref a1, .ref a2, .ref a3, .ref a4, .ref a5, .ref a6, .ref a7, .ref a8, .ref a9, .ref a10, .long (jL mu), .long (jL md), .int (jI mo), .ref a11])), (a1, .inl (cZ, 62, .inl (jA y1)))] s.heap := hP
  have hl := lv_entry ([.ref ma, .int (jI z1)]) (n := 2) (Nat.le_of_ble_eq_true rfl)
  rw [lg_entry_eq]
  generalize (lg_sl ([.ref ma, .int (jI z1)]) ++ List.replicate (2 - (lg_sl ([.ref ma, .int (jI z1)])).length) Slot.unset).toArray = ls at hl ⊢
  have hl : lv_has ls 2 [(0, .ref ma), (1, .int (jI z1))] := hl
  refine lv_iload_n hx hb dXM_isTold_0 rfl (lv_at hl 1 rfl) ?_
  refine ji_iconst hx hb dXM_isTold_1 ?_
  refine ji_bipush hx hb dXM_isTold_2 (by decide) ?_
  refine jrSi (rest := []) ⟨hx, hb, hml, hown, hts⟩ (c_XM_in l dC dI cA cZ z1 1 30 (by first | assumption | omega) (by first | assumption | omega) (by first | assumption | omega)) (cwS 3 hts (jG_S tw_695 tw_696 tw_6 tw_697) rfl rfl rfl (by decide +kernel) (by rw [hR]; exact ⟨Nat.le_of_ble_eq_true rfl, Nat.le_of_ble_eq_true rfl⟩)) hK hP hN [] rfl rfl hl.1 rfl (Nat.le_of_ble_eq_true rfl) dXM_isTold_4 (by rw [hR]; exact ⟨Nat.le_of_ble_eq_true rfl, Nat.le_of_ble_eq_true rfl⟩) ?_
  have f := f_XM_in_b z1 1 30 (by first | assumption | omega) (by first | assumption | omega) (by first | assumption | omega)
  refine ji_if_eq (tgt := 23) hx hb dXM_isTold_7 (by decide) (by omega) (fun c7_ => ?_) (fun c7_ => ?_)
  · refine ji_iconst hx hb dXM_isTold_23 ?_
    subst hQ
    exact W.zret (v := jI 0) hx hb hr (by first | decide | exact jz (by omega)) (fun t ht hW => ⟨_, rfl, congrArg jI (Eq.trans (by rw [f_XM_isTold_s]; rw [if_pos c7_]; try rfl) rfl), ht⟩) (fun _ h => nomatch h) dXM_isTold_24
  · refine lv_aload_n hx hb dXM_isTold_10 rfl (lv_at hl 0 rfl) ?_
    refine va_get (D := (dC, dI)) (ci := 5) (v := .ref a1) (C := RXM) (T := TXM) (N := 19) hx hb hts (fun w h => jmem (inXM w h)) hown hK hP 0 rfl rfl 5 (by decide) (hts _ (jmem tw_633)) (fun _ h9 => h9) rfl dXM_isTold_11 ?_
    refine lv_iload_n hx hb dXM_isTold_14 rfl (lv_at hl 1 rfl) ?_
    refine ji_zald hx hb hK hP 1 1 rfl rfl ⟨by omega, by omega⟩ (by decide) dXM_isTold_15 ?_
    have rb := hy1 z1
    refine ji_if_eq (tgt := 23) hx hb dXM_isTold_16 (by decide) (by omega) (fun c16_ => ?_) (fun c16_ => ?_)
    · refine ji_iconst hx hb dXM_isTold_23 ?_
      subst hQ
      exact W.zret (v := jI 0) hx hb hr (by first | decide | exact jz (by omega)) (fun t ht hW => ⟨_, rfl, congrArg jI (Eq.trans (by rw [f_XM_isTold_s]; rw [if_neg c7_, if_pos c16_]; try rfl) rfl), ht⟩) (fun _ h => nomatch h) dXM_isTold_24
    · refine ji_iconst hx hb dXM_isTold_19 ?_
      refine lv_goto (tgt := 24) hx hb dXM_isTold_20 (by decide) ?_
      subst hQ
      exact W.zret (v := jI 1) hx hb hr (by first | decide | exact jz (by omega)) (fun t ht hW => ⟨_, rfl, congrArg jI (Eq.trans (by rw [f_XM_isTold_s]; rw [if_neg c7_, if_neg c16_]; try rfl) rfl), ht⟩) (fun _ h => nomatch h) dXM_isTold_24
noncomputable def g_XM_here (mth : Int) (mn : Int) (mp : Int) (mw : Int) (mu : Int) (md : Int) (mo : Int) (y0 : Int → Int) : Int :=
  if mp < mn then
    y0 mp
  else
    -1
noncomputable def f_XM_here : Int → Int → Int → Int → Int → Int → Int → (Int → Int) → Int := jopq g_XM_here
theorem f_XM_here_q : f_XM_here = g_XM_here := jopq_eq _
theorem f_XM_here_s (mth : Int) (mn : Int) (mp : Int) (mw : Int) (mu : Int) (md : Int) (mo : Int) (y0 : Int → Int) : f_XM_here mth mn mp mw mu md mo y0 = (
    if mp < mn then
      y0 mp
    else
      -1
  : Int) := by rw [f_XM_here_q]; rfl
theorem f_XM_here_b (mth : Int) (mn : Int) (mp : Int) (mw : Int) (mu : Int) (md : Int) (mo : Int) (y0 : Int → Int) (hy0 : ∀ i, 0 ≤ y0 i ∧ y0 i ≤ 255) (hmn : 0 ≤ mn ∧ mn ≤ 400) (hmp : 0 ≤ mp ∧ mp ≤ mn) : -1 ≤ (f_XM_here mth mn mp mw mu md mo y0) ∧ (f_XM_here mth mn mp mw mu md mo y0) ≤ 255 ∧ (0 ≤ (f_XM_here mth mn mp mw mu md mo y0) → mp < mn) := by have := hy0 mp; rw [f_XM_here_s]; (repeat' split) <;> omega
theorem f_XM_here_v (mth : Int) (mn : Int) (mp : Int) (mw : Int) (mu : Int) (md : Int) (mo : Int) (y0 : Int → Int) (hy0 : ∀ i, 0 ≤ y0 i ∧ y0 i ≤ 255) (hmn : 0 ≤ mn ∧ mn ≤ 400) (hmp : 0 ≤ mp ∧ mp ≤ mn) : (mp < mn ∧ (f_XM_here mth mn mp mw mu md mo y0) = y0 mp) ∨ (mp = mn ∧ (f_XM_here mth mn mp mw mu md mo y0) = -1) := by have := hy0 mp; rw [f_XM_here_s]; (repeat' split) <;> omega
set_option maxHeartbeats 4000000 in
set_option maxRecDepth 100000 in
theorem c_XM_here (l : Launch) (dC : Nat → ClassId) (dI : Nat → Nat → Nat) (cA cZ : ClassId) (ma : Nat) (a0 : Nat) (a1 : Nat) (a2 : Nat) (a3 : Nat) (a4 : Nat) (a5 : Nat) (a6 : Nat) (a7 : Nat) (a8 : Nat) (a9 : Nat) (a10 : Nat) (a11 : Nat) (mth : Int) (mn : Int) (mp : Int) (mw : Int) (mu : Int) (md : Int) (mo : Int) (y0 : Int → Int) (hy0 : ∀ i, 0 ≤ y0 i ∧ y0 i ≤ 255) (hmn : 0 ≤ mn ∧ mn ≤ 400) (hmp : 0 ≤ mp ∧ mp ≤ mn) : Met l yXM_here (Cond.code yXM_here cXM_here 1 (some .int) :: TBL) ({ frames := 0, cells := 0, slots := 0, locals := 0 } : Room) (va_Pc [.ref ma] (jB (dC, dI) [(cA, .int), (cZ, .boolean)] [(ma, .inr (5, [.int (jI mth), .int (jI mn), .ref a0, .int (jI mp), .int (jI mw), .ref a1, .ref a2, .ref a3, .ref a4, .ref a5, .ref a6, .ref a7, .ref a8, .ref a9, .ref a10, .long (jL mu), .long (jL md), .int (jI mo), .ref a11])), (a0, .inl (cA, 400, .inl (jA y0)))])) (vp_Si (fun r => r = jI (f_XM_here mth mn mp mw mu md mo y0))) 0 0 (fun _ => False) := by
  refine jMet (cc := cXM_here) (maxL := 1) (ret := some .int) (by decide) rfl ?_
  intro p e s m args below meth c s₁ R Q hR hQ B hml hv
  obtain ⟨rfl, hP, hK, hN⟩ := hv
  have hx := B.exec
  have hb := B.bytes
  have hr := B.returns
  have hts := atoms_spec (ws := Cond.code yXM_here cXM_here 1 (some .int) :: TBL) B.pre
  have hown : s.vm.findClass RXM = some m.cls := findClass_of_methodNamed B.named
  have hlocks := B.notSynchronized
  have hP : va_P (dC, dI) vwCl [(ma, .inr (5, [.int (jI mth), .int (jI mn), .ref a0, .int (jI mp), .int (jI mw), .ref a1, .ref a2, .ref a3, .ref a4, .ref a5, .ref a6, .ref a7, .ref a8, .ref a9, .ref a10, .long (jL mu), .long (jL md), .int (jI mo), .ref a11])), (a0, .inl (cA, 400, .inl (jA y0)))] s.heap := hP
  have hl := lv_entry ([.ref ma]) (n := 1) (Nat.le_of_ble_eq_true rfl)
  rw [lg_entry_eq]
  generalize (lg_sl ([.ref ma]) ++ List.replicate (1 - (lg_sl ([.ref ma])).length) Slot.unset).toArray = ls at hl ⊢
  have hl : lv_has ls 1 [(0, .ref ma)] := hl
  refine lv_aload_n hx hb dXM_here_0 rfl (lv_at hl 0 rfl) ?_
  refine va_get (D := (dC, dI)) (ci := 5) (v := .int (jI mp)) (C := RXM) (T := TXM) (N := 19) hx hb hts (fun w h => jmem (inXM w h)) hown hK hP 0 rfl rfl 3 (by decide) (hts _ (jmem tw_631)) (fun _ h9 => h9) rfl dXM_here_1 ?_
  refine lv_aload_n hx hb dXM_here_4 rfl (lv_at hl 0 rfl) ?_
  refine va_get (D := (dC, dI)) (ci := 5) (v := .int (jI mn)) (C := RXM) (T := TXM) (N := 19) hx hb hts (fun w h => jmem (inXM w h)) hown hK hP 0 rfl rfl 1 (by decide) (hts _ (jmem tw_629)) (fun _ h9 => h9) rfl dXM_here_5 ?_
  refine ji_icmp_ge (tgt := 23) hx hb dXM_here_8 (by decide) (by omega) (by omega) (fun c8_ => ?_) (fun c8_ => ?_)
  · refine ji_iconst hx hb dXM_here_23 ?_
    subst hQ
    exact W.iret (v := jI (-1)) hx hb hr (fun t ht hW => ⟨_, rfl, congrArg jI (Eq.trans (by rw [f_XM_here_s]; rw [if_neg (Int.not_lt.mpr c8_)]; try rfl) rfl), ht⟩) (fun _ h => nomatch h) dXM_here_24
  · refine lv_aload_n hx hb dXM_here_11 rfl (lv_at hl 0 rfl) ?_
    refine va_get (D := (dC, dI)) (ci := 5) (v := .ref a0) (C := RXM) (T := TXM) (N := 19) hx hb hts (fun w h => jmem (inXM w h)) hown hK hP 0 rfl rfl 2 (by decide) (hts _ (jmem tw_630)) (fun _ h9 => h9) rfl dXM_here_12 ?_
    refine lv_aload_n hx hb dXM_here_15 rfl (lv_at hl 0 rfl) ?_
    refine va_get (D := (dC, dI)) (ci := 5) (v := .int (jI mp)) (C := RXM) (T := TXM) (N := 19) hx hb hts (fun w h => jmem (inXM w h)) hown hK hP 0 rfl rfl 3 (by decide) (hts _ (jmem tw_631)) (fun _ h9 => h9) rfl dXM_here_16 ?_
    refine ji_iald hx hb hK hP 1 0 rfl rfl ⟨by omega, by omega⟩ (by decide) dXM_here_19 ?_
    have rb := hy0 mp
    refine lv_goto (tgt := 24) hx hb dXM_here_20 (by decide) ?_
    subst hQ
    exact W.iret (v := jI (y0 mp)) hx hb hr (fun t ht hW => ⟨_, rfl, congrArg jI (Eq.trans (by rw [f_XM_here_s]; rw [if_pos c8_]; try rfl) rfl), ht⟩) (fun _ h => nomatch h) dXM_here_24
set_option maxHeartbeats 4000000 in
set_option maxRecDepth 100000 in
theorem c_XM_goes (l : Launch) (dC : Nat → ClassId) (dI : Nat → Nat → Nat) (cA cZ : ClassId) (sz : Nat) (ma : Nat) (a0 : Nat) (a1 : Nat) (a2 : Nat) (a3 : Nat) (a4 : Nat) (a5 : Nat) (a6 : Nat) (a7 : Nat) (a8 : Nat) (a9 : Nat) (a10 : Nat) (a11 : Nat) (mth : Int) (mn : Int) (mp : Int) (mw : Int) (mu : Int) (md : Int) (mo : Int) (z1 : Int) (z2 : Int) (h1 : 0 ≤ z1 ∧ z1 ≤ 1) (h2 : 0 ≤ z2 ∧ z2 ≤ 1) : Met l yXM_goes (Cond.code yXM_goes cXM_goes 3 (some .boolean) :: TBL) ({ frames := 0, cells := 0, slots := 0, locals := 0 } : Room) (va_Pc [.ref ma, .int (jI z1), .int (jI z2)] (jBw (dC, dI) [(cA, .int), (cZ, .boolean)] [(ma, .inr (5, [.int (jI mth), .int (jI mn), .ref a0, .int (jI mp), .int (jI mw), .ref a1, .ref a2, .ref a3, .ref a4, .ref a5, .ref a6, .ref a7, .ref a8, .ref a9, .ref a10, .long (jL mu), .long (jL md), .int (jI mo), .ref a11]))] sz)) (va_Qi (fun (r : Int32) (u : Int × Int) => r = jI u.1 ∧ ((u.1 = 0 ∧ u.2 = 1 ∧ z1 = 0) ∨ (u.1 = 0 ∧ u.2 = 2 ∧ z1 = 1 ∧ z2 = 0) ∨ (u.1 = 1 ∧ u.2 = 0 ∧ z1 = 1 ∧ z2 = 1))) (fun u t => jE (dC, dI) [(cA, .int), (cZ, .boolean)] [(ma, .inr (5, [.int (jI mth), .int (jI mn), .ref a0, .int (jI mp), .int (jI mw), .ref a1, .ref a2, .ref a3, .ref a4, .ref a5, .ref a6, .ref a7, .ref a8, .ref a9, .ref a10, .long (jL mu), .long (jL md), .int (jI mo), .ref a11]))] sz [(ma, .inr (5, [.int (jI u.2), .int (jI mn), .ref a0, .int (jI mp), .int (jI mw), .ref a1, .ref a2, .ref a3, .ref a4, .ref a5, .ref a6, .ref a7, .ref a8, .ref a9, .ref a10, .long (jL mu), .long (jL md), .int (jI mo), .ref a11]))] t) (va_A [(ma, .inr (5, [.int (jI mth), .int (jI mn), .ref a0, .int (jI mp), .int (jI mw), .ref a1, .ref a2, .ref a3, .ref a4, .ref a5, .ref a6, .ref a7, .ref a8, .ref a9, .ref a10, .long (jL mu), .long (jL md), .int (jI mo), .ref a11]))] sz)) 0 0 (va_A [(ma, .inr (5, [.int (jI mth), .int (jI mn), .ref a0, .int (jI mp), .int (jI mw), .ref a1, .ref a2, .ref a3, .ref a4, .ref a5, .ref a6, .ref a7, .ref a8, .ref a9, .ref a10, .long (jL mu), .long (jL md), .int (jI mo), .ref a11]))] sz) := by
  refine jMet (cc := cXM_goes) (maxL := 3) (ret := some .boolean) (by decide) rfl ?_
  intro p e s m args below meth c s₁ R Q hR hQ B hml hv
  obtain ⟨rfl, hsz, hP, hK, hD0, hN⟩ := hv
  have hx := B.exec
  have hb := B.bytes
  have hr := B.returns
  have hts := atoms_spec (ws := Cond.code yXM_goes cXM_goes 3 (some .boolean) :: TBL) B.pre
  have hown : s.vm.findClass RXM = some m.cls := findClass_of_methodNamed B.named
  have hlocks := B.notSynchronized
  subst hsz
  obtain ⟨A, hAe⟩ : ∃ A, A = va_A [(ma, .inr (5, [.int (jI mth), .int (jI mn), .ref a0, .int (jI mp), .int (jI mw), .ref a1, .ref a2, .ref a3, .ref a4, .ref a5, .ref a6, .ref a7, .ref a8, .ref a9, .ref a10, .long (jL mu), .long (jL md), .int (jI mo), .ref a11]))] s.heap.size := ⟨_, rfl⟩
  have hD : va_D A [(ma, .inr (5, [.int (jI mth), .int (jI mn), .ref a0, .int (jI mp), .int (jI mw), .ref a1, .ref a2, .ref a3, .ref a4, .ref a5, .ref a6, .ref a7, .ref a8, .ref a9, .ref a10, .long (jL mu), .long (jL md), .int (jI mo), .ref a11]))] := by rw [hAe]; exact hD0.self
  have hA : ∀ q : Nat, s.heap.size ≤ q → A q := fun q h => by rw [hAe]; exact Or.inr h
  have hS : va_S A s.heap s.heap [] := va_S.rf
  have hP : va_P (dC, dI) vwCl [(ma, .inr (5, [.int (jI mth), .int (jI mn), .ref a0, .int (jI mp), .int (jI mw), .ref a1, .ref a2, .ref a3, .ref a4, .ref a5, .ref a6, .ref a7, .ref a8, .ref a9, .ref a10, .long (jL mu), .long (jL md), .int (jI mo), .ref a11]))] s.heap := hP
  have hl := lv_entry ([.ref ma, .int (jI z1), .int (jI z2)]) (n := 3) (Nat.le_of_ble_eq_true rfl)
  rw [lg_entry_eq]
  generalize (lg_sl ([.ref ma, .int (jI z1), .int (jI z2)]) ++ List.replicate (3 - (lg_sl ([.ref ma, .int (jI z1), .int (jI z2)])).length) Slot.unset).toArray = ls at hl ⊢
  have hl : lv_has ls 3 [(0, .ref ma), (1, .int (jI z1)), (2, .int (jI z2))] := hl
  refine lv_aload_n hx hb dXM_goes_0 rfl (lv_at hl 0 rfl) ?_
  refine lv_iload_n hx hb dXM_goes_1 rfl (lv_at hl 1 rfl) ?_
  refine ji_if_ne (tgt := 9) hx hb dXM_goes_2 (by decide) (by first | omega | decide) (fun c2_ => ?_) (fun c2_ => ?_)
  · refine lv_iload_n hx hb dXM_goes_9 rfl (lv_at hl 2 rfl) ?_
    refine ji_if_ne (tgt := 17) hx hb dXM_goes_10 (by decide) (by first | omega | decide) (fun c10_ => ?_) (fun c10_ => ?_)
    · refine ji_iconst hx hb dXM_goes_17 ?_
      refine va_put (D := (dC, dI)) (ci := 5) (v := .int (jI 0)) (ty := (.int)) (C := RXM) (T := TXM) (N := 19) hx hb hts (fun w h => jmem (inXM w h)) tyXM tyXM_ok nXM hown hK hP hD hS 0 rfl rfl 0 (by decide) (hts _ (jmem tw_628)) (fun _ h9 => h9) rfl (by decide +kernel) rfl rfl (Nat.le_of_ble_eq_true rfl) dXM_goes_18 (fun H locs hP hD hS => ?_)
      have hP : va_P (dC, dI) vwCl [(ma, .inr (5, [.int (jI 0), .int (jI mn), .ref a0, .int (jI mp), .int (jI mw), .ref a1, .ref a2, .ref a3, .ref a4, .ref a5, .ref a6, .ref a7, .ref a8, .ref a9, .ref a10, .long (jL mu), .long (jL md), .int (jI mo), .ref a11]))] H := hP
      have hD : va_D A [(ma, .inr (5, [.int (jI 0), .int (jI mn), .ref a0, .int (jI mp), .int (jI mw), .ref a1, .ref a2, .ref a3, .ref a4, .ref a5, .ref a6, .ref a7, .ref a8, .ref a9, .ref a10, .long (jL mu), .long (jL md), .int (jI mo), .ref a11]))] := hD
      refine lv_aload_n hx hb dXM_goes_21 rfl (lv_at hl 0 rfl) ?_
      refine va_get (D := (dC, dI)) (ci := 5) (v := .int (jI 0)) (C := RXM) (T := TXM) (N := 19) hx hb hts (fun w h => jmem (inXM w h)) hown hK hP 0 rfl rfl 0 (by decide) (hts _ (jmem tw_628)) (fun _ h9 => h9) rfl dXM_goes_22 ?_
      refine ji_if_ne (tgt := 32) hx hb dXM_goes_25 (by decide) (by first | omega | decide) (fun c25_ => absurd c25_ (by decide)) (fun c25_ => ?_)
      refine ji_iconst hx hb dXM_goes_28 ?_
      refine lv_goto (tgt := 33) hx hb dXM_goes_29 (by decide) ?_
      have hP9 := hP.sub (ws' := [(ma, .inr (5, [.int (jI 0), .int (jI mn), .ref a0, .int (jI mp), .int (jI mw), .ref a1, .ref a2, .ref a3, .ref a4, .ref a5, .ref a6, .ref a7, .ref a8, .ref a9, .ref a10, .long (jL mu), .long (jL md), .int (jI mo), .ref a11]))]) [0] rfl
      have hD9 := hD.sub (ws' := [(ma, .inr (5, [.int (jI 0), .int (jI mn), .ref a0, .int (jI mp), .int (jI mw), .ref a1, .ref a2, .ref a3, .ref a4, .ref a5, .ref a6, .ref a7, .ref a8, .ref a9, .ref a10, .long (jL mu), .long (jL md), .int (jI mo), .ref a11]))]) [0] (by decide) rfl
      subst hAe
      subst hQ
      exact W.zret (v := jI 1) hx hb hr (by first | decide | exact jz (by omega)) (fun t ht hW => ⟨⟨_, (1, 0), rfl, ⟨rfl, (show ((1 : Int) = 0 ∧ (0 : Int) = 1 ∧ z1 = 0) ∨ ((1 : Int) = 0 ∧ (0 : Int) = 2 ∧ z1 = 1 ∧ z2 = 0) ∨ ((1 : Int) = 1 ∧ (0 : Int) = 0 ∧ z1 = 1 ∧ z2 = 1) from by first | assumption | omega | exact jset_b (by assumption) (by omega))⟩, ⟨by rw [ht]; exact hP9, va_K.moved hW.alike hK, hD9⟩⟩, hS.F ht⟩) hS.2.2 dXM_goes_33
    · refine ji_iconst hx hb dXM_goes_13 ?_
      refine lv_goto (tgt := 18) hx hb dXM_goes_14 (by decide) ?_
      refine va_put (D := (dC, dI)) (ci := 5) (v := .int (jI 2)) (ty := (.int)) (C := RXM) (T := TXM) (N := 19) hx hb hts (fun w h => jmem (inXM w h)) tyXM tyXM_ok nXM hown hK hP hD hS 0 rfl rfl 0 (by decide) (hts _ (jmem tw_628)) (fun _ h9 => h9) rfl (by decide +kernel) rfl rfl (Nat.le_of_ble_eq_true rfl) dXM_goes_18 (fun H locs hP hD hS => ?_)
      have hP : va_P (dC, dI) vwCl [(ma, .inr (5, [.int (jI 2), .int (jI mn), .ref a0, .int (jI mp), .int (jI mw), .ref a1, .ref a2, .ref a3, .ref a4, .ref a5, .ref a6, .ref a7, .ref a8, .ref a9, .ref a10, .long (jL mu), .long (jL md), .int (jI mo), .ref a11]))] H := hP
      have hD : va_D A [(ma, .inr (5, [.int (jI 2), .int (jI mn), .ref a0, .int (jI mp), .int (jI mw), .ref a1, .ref a2, .ref a3, .ref a4, .ref a5, .ref a6, .ref a7, .ref a8, .ref a9, .ref a10, .long (jL mu), .long (jL md), .int (jI mo), .ref a11]))] := hD
      refine lv_aload_n hx hb dXM_goes_21 rfl (lv_at hl 0 rfl) ?_
      refine va_get (D := (dC, dI)) (ci := 5) (v := .int (jI 2)) (C := RXM) (T := TXM) (N := 19) hx hb hts (fun w h => jmem (inXM w h)) hown hK hP 0 rfl rfl 0 (by decide) (hts _ (jmem tw_628)) (fun _ h9 => h9) rfl dXM_goes_22 ?_
      refine ji_if_ne (tgt := 32) hx hb dXM_goes_25 (by decide) (by first | omega | decide) (fun c25_1 => ?_) (fun c25_1 => absurd c25_1 (by decide))
      refine ji_iconst hx hb dXM_goes_32 ?_
      have hP9 := hP.sub (ws' := [(ma, .inr (5, [.int (jI 2), .int (jI mn), .ref a0, .int (jI mp), .int (jI mw), .ref a1, .ref a2, .ref a3, .ref a4, .ref a5, .ref a6, .ref a7, .ref a8, .ref a9, .ref a10, .long (jL mu), .long (jL md), .int (jI mo), .ref a11]))]) [0] rfl
      have hD9 := hD.sub (ws' := [(ma, .inr (5, [.int (jI 2), .int (jI mn), .ref a0, .int (jI mp), .int (jI mw), .ref a1, .ref a2, .ref a3, .ref a4, .ref a5, .ref a6, .ref a7, .ref a8, .ref a9, .ref a10, .long (jL mu), .long (jL md), .int (jI mo), .ref a11]))]) [0] (by decide) rfl
      subst hAe
      subst hQ
      exact W.zret (v := jI 0) hx hb hr (by first | decide | exact jz (by omega)) (fun t ht hW => ⟨⟨_, (0, 2), rfl, ⟨rfl, (show ((0 : Int) = 0 ∧ (2 : Int) = 1 ∧ z1 = 0) ∨ ((0 : Int) = 0 ∧ (2 : Int) = 2 ∧ z1 = 1 ∧ z2 = 0) ∨ ((0 : Int) = 1 ∧ (2 : Int) = 0 ∧ z1 = 1 ∧ z2 = 1) from by first | assumption | omega | exact jset_b (by assumption) (by omega))⟩, ⟨by rw [ht]; exact hP9, va_K.moved hW.alike hK, hD9⟩⟩, hS.F ht⟩) hS.2.2 dXM_goes_33
  · refine ji_iconst hx hb dXM_goes_5 ?_
    refine lv_goto (tgt := 18) hx hb dXM_goes_6 (by decide) ?_
    refine va_put (D := (dC, dI)) (ci := 5) (v := .int (jI 1)) (ty := (.int)) (C := RXM) (T := TXM) (N := 19) hx hb hts (fun w h => jmem (inXM w h)) tyXM tyXM_ok nXM hown hK hP hD hS 0 rfl rfl 0 (by decide) (hts _ (jmem tw_628)) (fun _ h9 => h9) rfl (by decide +kernel) rfl rfl (Nat.le_of_ble_eq_true rfl) dXM_goes_18 (fun H locs hP hD hS => ?_)
    have hP : va_P (dC, dI) vwCl [(ma, .inr (5, [.int (jI 1), .int (jI mn), .ref a0, .int (jI mp), .int (jI mw), .ref a1, .ref a2, .ref a3, .ref a4, .ref a5, .ref a6, .ref a7, .ref a8, .ref a9, .ref a10, .long (jL mu), .long (jL md), .int (jI mo), .ref a11]))] H := hP
    have hD : va_D A [(ma, .inr (5, [.int (jI 1), .int (jI mn), .ref a0, .int (jI mp), .int (jI mw), .ref a1, .ref a2, .ref a3, .ref a4, .ref a5, .ref a6, .ref a7, .ref a8, .ref a9, .ref a10, .long (jL mu), .long (jL md), .int (jI mo), .ref a11]))] := hD
    refine lv_aload_n hx hb dXM_goes_21 rfl (lv_at hl 0 rfl) ?_
    refine va_get (D := (dC, dI)) (ci := 5) (v := .int (jI 1)) (C := RXM) (T := TXM) (N := 19) hx hb hts (fun w h => jmem (inXM w h)) hown hK hP 0 rfl rfl 0 (by decide) (hts _ (jmem tw_628)) (fun _ h9 => h9) rfl dXM_goes_22 ?_
    refine ji_if_ne (tgt := 32) hx hb dXM_goes_25 (by decide) (by first | omega | decide) (fun c25_2 => ?_) (fun c25_2 => absurd c25_2 (by decide))
    refine ji_iconst hx hb dXM_goes_32 ?_
    have hP9 := hP.sub (ws' := [(ma, .inr (5, [.int (jI 1), .int (jI mn), .ref a0, .int (jI mp), .int (jI mw), .ref a1, .ref a2, .ref a3, .ref a4, .ref a5, .ref a6, .ref a7, .ref a8, .ref a9, .ref a10, .long (jL mu), .long (jL md), .int (jI mo), .ref a11]))]) [0] rfl
    have hD9 := hD.sub (ws' := [(ma, .inr (5, [.int (jI 1), .int (jI mn), .ref a0, .int (jI mp), .int (jI mw), .ref a1, .ref a2, .ref a3, .ref a4, .ref a5, .ref a6, .ref a7, .ref a8, .ref a9, .ref a10, .long (jL mu), .long (jL md), .int (jI mo), .ref a11]))]) [0] (by decide) rfl
    subst hAe
    subst hQ
    exact W.zret (v := jI 0) hx hb hr (by first | decide | exact jz (by omega)) (fun t ht hW => ⟨⟨_, (0, 1), rfl, ⟨rfl, (show ((0 : Int) = 0 ∧ (1 : Int) = 1 ∧ z1 = 0) ∨ ((0 : Int) = 0 ∧ (1 : Int) = 2 ∧ z1 = 1 ∧ z2 = 0) ∨ ((0 : Int) = 1 ∧ (1 : Int) = 0 ∧ z1 = 1 ∧ z2 = 1) from by first | assumption | omega | exact jset_b (by assumption) (by omega))⟩, ⟨by rw [ht]; exact hP9, va_K.moved hW.alike hK, hD9⟩⟩, hS.F ht⟩) hS.2.2 dXM_goes_33
set_option maxHeartbeats 4000000 in
set_option maxRecDepth 100000 in
theorem c_XM_see (l : Launch) (dC : Nat → ClassId) (dI : Nat → Nat → Nat) (cA cZ : ClassId) (sz : Nat) (ma : Nat) (a0 : Nat) (a1 : Nat) (a2 : Nat) (a3 : Nat) (a4 : Nat) (a5 : Nat) (a6 : Nat) (a7 : Nat) (a8 : Nat) (a9 : Nat) (a10 : Nat) (a11 : Nat) (mth : Int) (mn : Int) (mp : Int) (mw : Int) (mu : Int) (md : Int) (mo : Int) (y0 : Int → Int) (hy0 : ∀ i, 0 ≤ y0 i ∧ y0 i ≤ 255) (hmn : 0 ≤ mn ∧ mn ≤ 400) (hmp : 0 ≤ mp ∧ mp ≤ mn) : Met l yXM_see (Cond.code yXM_see cXM_see 1 (some .int) :: TBL) ({ frames := 1, cells := 0, slots := 0, locals := 20 } : Room) (va_Pc [.ref ma] (jBw (dC, dI) [(cA, .int), (cZ, .boolean)] [(ma, .inr (5, [.int (jI mth), .int (jI mn), .ref a0, .int (jI mp), .int (jI mw), .ref a1, .ref a2, .ref a3, .ref a4, .ref a5, .ref a6, .ref a7, .ref a8, .ref a9, .ref a10, .long (jL mu), .long (jL md), .int (jI mo), .ref a11])), (a0, .inl (cA, 400, .inl (jA y0)))] sz)) (va_Qi (fun (r : Int32) (u : Int × Int) => r = jI u.1 ∧ (-1 ≤ u.1 ∧ u.1 ≤ 255 ∧ (0 ≤ u.1 → u.2 < mn)) ∧ (mp ≤ u.2 ∧ u.2 ≤ mn) ∧ ((u.2 < mn ∧ u.1 = y0 u.2) ∨ (u.2 = mn ∧ u.1 = -1))) (fun u t => jE (dC, dI) [(cA, .int), (cZ, .boolean)] [(ma, .inr (5, [.int (jI mth), .int (jI mn), .ref a0, .int (jI mp), .int (jI mw), .ref a1, .ref a2, .ref a3, .ref a4, .ref a5, .ref a6, .ref a7, .ref a8, .ref a9, .ref a10, .long (jL mu), .long (jL md), .int (jI mo), .ref a11])), (a0, .inl (cA, 400, .inl (jA y0)))] sz [(ma, .inr (5, [.int (jI mth), .int (jI mn), .ref a0, .int (jI u.2), .int (jI mw), .ref a1, .ref a2, .ref a3, .ref a4, .ref a5, .ref a6, .ref a7, .ref a8, .ref a9, .ref a10, .long (jL mu), .long (jL md), .int (jI mo), .ref a11])), (a0, .inl (cA, 400, .inl (jA y0)))] t) (va_A [(ma, .inr (5, [.int (jI mth), .int (jI mn), .ref a0, .int (jI mp), .int (jI mw), .ref a1, .ref a2, .ref a3, .ref a4, .ref a5, .ref a6, .ref a7, .ref a8, .ref a9, .ref a10, .long (jL mu), .long (jL md), .int (jI mo), .ref a11])), (a0, .inl (cA, 400, .inl (jA y0)))] sz)) 0 0 (va_A [(ma, .inr (5, [.int (jI mth), .int (jI mn), .ref a0, .int (jI mp), .int (jI mw), .ref a1, .ref a2, .ref a3, .ref a4, .ref a5, .ref a6, .ref a7, .ref a8, .ref a9, .ref a10, .long (jL mu), .long (jL md), .int (jI mo), .ref a11])), (a0, .inl (cA, 400, .inl (jA y0)))] sz) := by
  refine jMet (cc := cXM_see) (maxL := 1) (ret := some .int) (by decide) rfl ?_
  intro p e s m args below meth c s₁ R Q hR hQ B hml hv
  obtain ⟨rfl, hsz, hP, hK, hD0, hN⟩ := hv
  have hx := B.exec
  have hb := B.bytes
  have hr := B.returns
  have hts := atoms_spec (ws := Cond.code yXM_see cXM_see 1 (some .int) :: TBL) B.pre
  have hown : s.vm.findClass RXM = some m.cls := findClass_of_methodNamed B.named
  have hlocks := B.notSynchronized
  subst hsz
  obtain ⟨A, hAe⟩ : ∃ A, A = va_A [(ma, .inr (5, [.int (jI mth), .int (jI mn), .ref a0, .int (jI mp), .int (jI mw), .ref a1, .ref a2, .ref a3, .ref a4, .ref a5, .ref a6, .ref a7, .ref a8, .ref a9, .ref a10, .long (jL mu), .long (jL md), .int (jI mo), .ref a11])), (a0, .inl (cA, 400, .inl (jA y0)))] s.heap.size := ⟨_, rfl⟩
  have hD : va_D A [(ma, .inr (5, [.int (jI mth), .int (jI mn), .ref a0, .int (jI mp), .int (jI mw), .ref a1, .ref a2, .ref a3, .ref a4, .ref a5, .ref a6, .ref a7, .ref a8, .ref a9, .ref a10, .long (jL mu), .long (jL md), .int (jI mo), .ref a11])), (a0, .inl (cA, 400, .inl (jA y0)))] := by rw [hAe]; exact hD0.self
  have hA : ∀ q : Nat, s.heap.size ≤ q → A q := fun q h => by rw [hAe]; exact Or.inr h
  have hS : va_S A s.heap s.heap [] := va_S.rf
  have hP : va_P (dC, dI) vwCl [(ma, .inr (5, [.int (jI mth), .int (jI mn), .ref a0, .int (jI mp), .int (jI mw), .ref a1, .ref a2, .ref a3, .ref a4, .ref a5, .ref a6, .ref a7, .ref a8, .ref a9, .ref a10, .long (jL mu), .long (jL md), .int (jI mo), .ref a11])), (a0, .inl (cA, 400, .inl (jA y0)))] s.heap := hP
  have hl := lv_entry ([.ref ma]) (n := 1) (Nat.le_of_ble_eq_true rfl)
  rw [lg_entry_eq]
  generalize (lg_sl ([.ref ma]) ++ List.replicate (1 - (lg_sl ([.ref ma])).length) Slot.unset).toArray = ls at hl ⊢
  have hl : lv_has ls 1 [(0, .ref ma)] := hl
  have loop0 : ∀ (n9 : Nat) (k : Int) , mn - k < (n9 : Int) → (0 ≤ k ∧ k ≤ mn) → (mp ≤ k) → ∀ (H : Heap) (locs : List Loc), va_P (dC, dI) vwCl [(ma, .inr (5, [.int (jI mth), .int (jI mn), .ref a0, .int (jI k), .int (jI mw), .ref a1, .ref a2, .ref a3, .ref a4, .ref a5, .ref a6, .ref a7, .ref a8, .ref a9, .ref a10, .long (jL mu), .long (jL md), .int (jI mo), .ref a11])), (a0, .inl (cA, 400, .inl (jA y0)))] H → va_D A [(ma, .inr (5, [.int (jI mth), .int (jI mn), .ref a0, .int (jI k), .int (jI mw), .ref a1, .ref a2, .ref a3, .ref a4, .ref a5, .ref a6, .ref a7, .ref a8, .ref a9, .ref a10, .long (jL mu), .long (jL md), .int (jI mo), .ref a11])), (a0, .inl (cA, 400, .inl (jA y0)))] → va_S A s.heap H locs → ∀ ls : Array Slot, lv_has ls 1 [(0, .ref ma)] → W p l e R s m ([.ref ma] : List Value).toArray below meth c H locs 0 0 Q (F0 m 0 ls []) := by
    intro n9
    induction n9 with
    | zero =>
      intro k hm hk hk2
      exact absurd hm (by omega)
    | succ n9 ih0 =>
      intro k hm hk hk2 H locs hP hD hS ls hl
      refine lv_aload_n hx hb dXM_see_0 rfl (lv_at hl 0 rfl) ?_
      refine jrVi (rest := []) ⟨hx, hb, hml, hown, hts⟩ (c_XM_here l dC dI cA cZ ma a0 a1 a2 a3 a4 a5 a6 a7 a8 a9 a10 a11 mth mn k mw mu md mo y0 (by first | assumption | omega) (by first | assumption | omega) (by first | assumption | omega)) (cwV 0 hts (jG_V tw_714 tw_716 ts_17 tw_6 tw_717) rfl rfl rfl (by decide +kernel) (by rw [hR]; exact ⟨Nat.le_of_ble_eq_true rfl, Nat.le_of_ble_eq_true rfl⟩)) hK hP hN [0, 1] rfl 0 5 rfl rfl rfl rfl hl.1 rfl (Nat.le_of_ble_eq_true rfl) dXM_see_1 (by rw [hR]; exact ⟨Nat.le_of_ble_eq_true rfl, Nat.le_of_ble_eq_true rfl⟩) ?_
      have f := f_XM_here_b mth mn k mw mu md mo y0 (by first | assumption | omega) (by first | assumption | omega) (by first | assumption | omega)
      have f1 := f_XM_here_v mth mn k mw mu md mo y0 (by first | assumption | omega) (by first | assumption | omega) (by first | assumption | omega)
      refine ji_bipush hx hb dXM_see_4 (by decide) ?_
      refine ji_icmp_ne (tgt := 22) hx hb dXM_see_6 (by decide) (by first | omega | decide) (by first | omega | decide) (fun c6_ => ?_) (fun c6_ => ?_)
      · refine lv_aload_n hx hb dXM_see_22 rfl (lv_at hl 0 rfl) ?_
        refine jrVi (rest := []) ⟨hx, hb, hml, hown, hts⟩ (c_XM_here l dC dI cA cZ ma a0 a1 a2 a3 a4 a5 a6 a7 a8 a9 a10 a11 mth mn k mw mu md mo y0 (by first | assumption | omega) (by first | assumption | omega) (by first | assumption | omega)) (cwV 0 hts (jG_V tw_714 tw_716 ts_17 tw_6 tw_717) rfl rfl rfl (by decide +kernel) (by rw [hR]; exact ⟨Nat.le_of_ble_eq_true rfl, Nat.le_of_ble_eq_true rfl⟩)) hK hP hN [0, 1] rfl 0 5 rfl rfl rfl rfl hl.1 rfl (Nat.le_of_ble_eq_true rfl) dXM_see_23 (by rw [hR]; exact ⟨Nat.le_of_ble_eq_true rfl, Nat.le_of_ble_eq_true rfl⟩) ?_
        have f2 := f_XM_here_b mth mn k mw mu md mo y0 (by first | assumption | omega) (by first | assumption | omega) (by first | assumption | omega)
        have f3 := f_XM_here_v mth mn k mw mu md mo y0 (by first | assumption | omega) (by first | assumption | omega) (by first | assumption | omega)
        have hP9 := hP.sub (ws' := [(ma, .inr (5, [.int (jI mth), .int (jI mn), .ref a0, .int (jI k), .int (jI mw), .ref a1, .ref a2, .ref a3, .ref a4, .ref a5, .ref a6, .ref a7, .ref a8, .ref a9, .ref a10, .long (jL mu), .long (jL md), .int (jI mo), .ref a11])), (a0, .inl (cA, 400, .inl (jA y0)))]) [0, 1] rfl
        have hD9 := hD.sub (ws' := [(ma, .inr (5, [.int (jI mth), .int (jI mn), .ref a0, .int (jI k), .int (jI mw), .ref a1, .ref a2, .ref a3, .ref a4, .ref a5, .ref a6, .ref a7, .ref a8, .ref a9, .ref a10, .long (jL mu), .long (jL md), .int (jI mo), .ref a11])), (a0, .inl (cA, 400, .inl (jA y0)))]) [0, 1] (by decide) rfl
        subst hAe
        subst hQ
        exact W.iret (v := jI (f_XM_here mth mn k mw mu md mo y0)) hx hb hr (fun t ht hW => ⟨⟨_, (f_XM_here mth mn k mw mu md mo y0, k), rfl, ⟨rfl, (show -1 ≤ (f_XM_here mth mn k mw mu md mo y0) ∧ (f_XM_here mth mn k mw mu md mo y0) ≤ 255 ∧ (0 ≤ (f_XM_here mth mn k mw mu md mo y0) → k < mn) from by first | assumption | omega | exact jset_b (by assumption) (by omega)), (show mp ≤ k ∧ k ≤ mn from by first | assumption | omega | exact jset_b (by assumption) (by omega)), (show (k < mn ∧ (f_XM_here mth mn k mw mu md mo y0) = y0 k) ∨ (k = mn ∧ (f_XM_here mth mn k mw mu md mo y0) = -1) from by first | assumption | omega | exact jset_b (by assumption) (by omega))⟩, ⟨by rw [ht]; exact hP9, va_K.moved hW.alike hK, hD9⟩⟩, hS.F ht⟩) hS.2.2 dXM_see_26
      · refine lv_aload_n hx hb dXM_see_9 rfl (lv_at hl 0 rfl) ?_
        refine lv_dup hx hb dXM_see_10 rfl ?_
        refine va_get (D := (dC, dI)) (ci := 5) (v := .int (jI k)) (C := RXM) (T := TXM) (N := 19) hx hb hts (fun w h => jmem (inXM w h)) hown hK hP 0 rfl rfl 3 (by decide) (hts _ (jmem tw_631)) (fun _ h9 => h9) rfl dXM_see_11 ?_
        refine ji_iconst hx hb dXM_see_14 ?_
        refine ji_iadd hx hb dXM_see_15 ?_
        refine va_put (D := (dC, dI)) (ci := 5) (v := .int (jI (k + 1))) (ty := (.int)) (C := RXM) (T := TXM) (N := 19) hx hb hts (fun w h => jmem (inXM w h)) tyXM tyXM_ok nXM hown hK hP hD hS 0 rfl rfl 3 (by decide) (hts _ (jmem tw_631)) (fun _ h9 => h9) rfl (by decide +kernel) rfl rfl (Nat.le_of_ble_eq_true rfl) dXM_see_16 (fun H locs hP hD hS => ?_)
        have hP : va_P (dC, dI) vwCl [(ma, .inr (5, [.int (jI mth), .int (jI mn), .ref a0, .int (jI (k + 1)), .int (jI mw), .ref a1, .ref a2, .ref a3, .ref a4, .ref a5, .ref a6, .ref a7, .ref a8, .ref a9, .ref a10, .long (jL mu), .long (jL md), .int (jI mo), .ref a11])), (a0, .inl (cA, 400, .inl (jA y0)))] H := hP
        have hD : va_D A [(ma, .inr (5, [.int (jI mth), .int (jI mn), .ref a0, .int (jI (k + 1)), .int (jI mw), .ref a1, .ref a2, .ref a3, .ref a4, .ref a5, .ref a6, .ref a7, .ref a8, .ref a9, .ref a10, .long (jL mu), .long (jL md), .int (jI mo), .ref a11])), (a0, .inl (cA, 400, .inl (jA y0)))] := hD
        refine lv_goto (tgt := 0) hx hb dXM_see_19 (by decide) ?_
        exact ih0 (k + 1) (by omega) (by first | assumption | omega | exact jset_b (by assumption) (by omega)) (by first | assumption | omega | exact jset_b (by assumption) (by omega)) _ _ hP hD hS ls (lv_sub hl [0] rfl)
  exact loop0 (Int.toNat (mn - mp) + 1) mp (by omega) (by first | assumption | omega | exact jset_b (by assumption) (by omega)) (by first | assumption | omega | exact jset_b (by assumption) (by omega)) _ _ hP hD hS ls (lv_sub hl [0] rfl)
