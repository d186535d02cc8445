noncomputable def g_XP_start (pn : Int) (pf : Int → Int) : Int :=
  0
noncomputable def f_XP_start : Int → (Int → Int) → Int := jopq g_XP_start
theorem f_XP_start_q : f_XP_start = g_XP_start := jopq_eq _
theorem f_XP_start_s (pn : Int) (pf : Int → Int) : f_XP_start pn pf = (
    0
  : Int) := by rw [f_XP_start_q]; rfl
theorem f_XP_start_b (pn : Int) (pf : Int → Int) : (f_XP_start pn pf) = 0 := by rw [f_XP_start_s]
set_option maxHeartbeats 4000000 in
set_option maxRecDepth 100000 in
theorem c_XP_start (l : Launch) (dC : Nat → ClassId) (dI : Nat → Nat → Nat) (cA : ClassId) (sz : Nat) (pa : Nat) (ps : Nat) (pn : Int) (pf : Int → Int) : Met l yXP_start (Cond.code yXP_start cXP_start 1 none :: TBL) ({ frames := 0, cells := 0, slots := 0, locals := 0 } : Room) (va_Pc [.ref pa] (jBw (dC, dI) [(cA, .int)] [(pa, .inr (1, [.ref ps, .int (jI pn)])), (ps, .inl (cA, 160, .inl (jA pf)))] sz)) (va_Qv (fun (u : Int) => u = f_XP_start pn pf) (fun u t => jE (dC, dI) [(cA, .int)] [(pa, .inr (1, [.ref ps, .int (jI pn)])), (ps, .inl (cA, 160, .inl (jA pf)))] sz [(pa, .inr (1, [.ref ps, .int (jI u)])), (ps, .inl (cA, 160, .inl (jA pf)))] t) (va_A [(pa, .inr (1, [.ref ps, .int (jI pn)])), (ps, .inl (cA, 160, .inl (jA pf)))] sz)) 0 0 (va_A [(pa, .inr (1, [.ref ps, .int (jI pn)])), (ps, .inl (cA, 160, .inl (jA pf)))] sz) := by
  refine jMet (cc := cXP_start) (maxL := 1) (ret := none) (by decide) rfl ?_
  intro p e s m args below meth c s₁ R Q hR hQ B hml hv
  obtain ⟨rfl, hsz, hP, hK, hD0, hN⟩ := hv
  have hx := B.exec
  have hb := B.bytes
  have hr := B.returns
  have hts := atoms_spec (ws := Cond.code yXP_start cXP_start 1 none :: TBL) B.pre
  have hown : s.vm.findClass RXP = some m.cls := findClass_of_methodNamed B.named
  have hlocks := B.notSynchronized
  subst hsz
  obtain ⟨A, hAe⟩ : ∃ A, A = va_A [(pa, .inr (1, [.ref ps, .int (jI pn)])), (ps, .inl (cA, 160, .inl (jA pf)))] s.heap.size := ⟨_, rfl⟩
  have hD : va_D A [(pa, .inr (1, [.ref ps, .int (jI pn)])), (ps, .inl (cA, 160, .inl (jA pf)))] := by rw [hAe]; exact hD0.self
  have hA : ∀ q : Nat, s.heap.size ≤ q → A q := fun q h => by rw [hAe]; exact Or.inr h
  have hS : va_S A s.heap s.heap [] := va_S.rf
  have hP : va_P (dC, dI) vwCl [(pa, .inr (1, [.ref ps, .int (jI pn)])), (ps, .inl (cA, 160, .inl (jA pf)))] s.heap := hP
  have hl := lv_entry ([.ref pa]) (n := 1) (Nat.le_of_ble_eq_true rfl)
  rw [lg_entry_eq]
  generalize (lg_sl ([.ref pa]) ++ List.replicate (1 - (lg_sl ([.ref pa])).length) Slot.unset).toArray = ls at hl ⊢
  have hl : lv_has ls 1 [(0, .ref pa)] := hl
  refine lv_aload_n hx hb dXP_start_0 rfl (lv_at hl 0 rfl) ?_
  refine ji_iconst hx hb dXP_start_1 ?_
  refine va_put (D := (dC, dI)) (ci := 1) (v := .int (jI 0)) (ty := (.int)) (C := RXP) (T := TXP) (N := 2) hx hb hts (fun w h => jmem (inXP w h)) tyXP tyXP_ok nXP hown hK hP hD hS 0 rfl rfl 1 (by decide) (hts _ (jmem tw_61)) (fun _ h9 => h9) rfl (by decide +kernel) rfl rfl (Nat.le_of_ble_eq_true rfl) dXP_start_2 (fun H locs hP hD hS => ?_)
  have hP : va_P (dC, dI) vwCl [(pa, .inr (1, [.ref ps, .int (jI 0)])), (ps, .inl (cA, 160, .inl (jA pf)))] H := hP
  have hD : va_D A [(pa, .inr (1, [.ref ps, .int (jI 0)])), (ps, .inl (cA, 160, .inl (jA pf)))] := hD
  have hP9 := hP.sub (ws' := [(pa, .inr (1, [.ref ps, .int (jI 0)])), (ps, .inl (cA, 160, .inl (jA pf)))]) [0, 1] rfl
  have hD9 := hD.sub (ws' := [(pa, .inr (1, [.ref ps, .int (jI 0)])), (ps, .inl (cA, 160, .inl (jA pf)))]) [0, 1] (by decide) rfl
  subst hAe
  subst hQ
  exact W.vret hx hb hr (fun t ht hW => ⟨⟨0, rfl, Eq.trans (by rw [f_XP_start_s]; try rfl) rfl, ⟨by rw [ht]; exact hP9, va_K.moved hW.alike hK, hD9⟩⟩, hS.F ht⟩) hS.2.2 dXP_start_5
noncomputable def g_XP_length (pn : Int) (pf : Int → Int) : Int :=
  pn
noncomputable def f_XP_length : Int → (Int → Int) → Int := jopq g_XP_length
theorem f_XP_length_q : f_XP_length = g_XP_length := jopq_eq _
theorem f_XP_length_s (pn : Int) (pf : Int → Int) : f_XP_length pn pf = (
    pn
  : Int) := by rw [f_XP_length_q]; rfl
set_option maxHeartbeats 4000000 in
set_option maxRecDepth 100000 in
theorem c_XP_length (l : Launch) (dC : Nat → ClassId) (dI : Nat → Nat → Nat) (cA : ClassId) (pa : Nat) (ps : Nat) (pn : Int) (pf : Int → Int) : Met l yXP_length (Cond.code yXP_length cXP_length 1 (some .int) :: TBL) ({ frames := 0, cells := 0, slots := 0, locals := 0 } : Room) (va_Pc [.ref pa] (jB (dC, dI) [(cA, .int)] [(pa, .inr (1, [.ref ps, .int (jI pn)])), (ps, .inl (cA, 160, .inl (jA pf)))])) (vp_Si (fun r => r = jI (f_XP_length pn pf))) 0 0 (fun _ => False) := by
  refine jMet (cc := cXP_length) (maxL := 1) (ret := some .int) (by decide) rfl ?_
  intro p e s m args below meth c s₁ R Q hR hQ B hml hv
  obtain ⟨rfl, hP, hK, hN⟩ := hv
  have hx := B.exec
  have hb := B.bytes
  have hr := B.returns
  have hts := atoms_spec (ws := Cond.code yXP_length cXP_length 1 (some .int) :: TBL) B.pre
  have hown : s.vm.findClass RXP = some m.cls := findClass_of_methodNamed B.named
  have hlocks := B.notSynchronized
  have hP : va_P (dC, dI) vwCl [(pa, .inr (1, [.ref ps, .int (jI pn)])), (ps, .inl (cA, 160, .inl (jA pf)))] s.heap := hP
  have hl := lv_entry ([.ref pa]) (n := 1) (Nat.le_of_ble_eq_true rfl)
  rw [lg_entry_eq]
  generalize (lg_sl ([.ref pa]) ++ List.replicate (1 - (lg_sl ([.ref pa])).length) Slot.unset).toArray = ls at hl ⊢
  have hl : lv_has ls 1 [(0, .ref pa)] := hl
  refine lv_aload_n hx hb dXP_length_0 rfl (lv_at hl 0 rfl) ?_
  refine va_get (D := (dC, dI)) (ci := 1) (v := .int (jI pn)) (C := RXP) (T := TXP) (N := 2) hx hb hts (fun w h => jmem (inXP w h)) hown hK hP 0 rfl rfl 1 (by decide) (hts _ (jmem tw_61)) (fun _ h9 => h9) rfl dXP_length_1 ?_
  subst hQ
  exact W.iret (v := jI pn) hx hb hr (fun t ht hW => ⟨_, rfl, congrArg jI (Eq.trans (by rw [f_XP_length_s]; try rfl) rfl), ht⟩) (fun _ h => nomatch h) dXP_length_4
noncomputable def g_XP_byteAt (pn : Int) (pf : Int → Int) (zi : Int) : Int :=
  if zi < 0 then
    -1
  else
    if zi < pn then
      pf zi
    else
      -1
noncomputable def f_XP_byteAt : Int → (Int → Int) → Int → Int := jopq g_XP_byteAt
theorem f_XP_byteAt_q : f_XP_byteAt = g_XP_byteAt := jopq_eq _
theorem f_XP_byteAt_s (pn : Int) (pf : Int → Int) (zi : Int) : f_XP_byteAt pn pf zi = (
    if zi < 0 then
      -1
    else
      if zi < pn then
        pf zi
      else
        -1
  : Int) := by rw [f_XP_byteAt_q]; rfl
set_option maxHeartbeats 4000000 in
set_option maxRecDepth 100000 in
theorem c_XP_byteAt (l : Launch) (dC : Nat → ClassId) (dI : Nat → Nat → Nat) (cA : ClassId) (pa : Nat) (ps : Nat) (pn : Int) (pf : Int → Int) (zi : Int) (hpn : 0 ≤ pn ∧ pn ≤ 160) (hzi : i32 zi) : Met l yXP_byteAt (Cond.code yXP_byteAt cXP_byteAt 2 (some .int) :: TBL) ({ frames := 0, cells := 0, slots := 0, locals := 0 } : Room) (va_Pc [.ref pa, .int (jI zi)] (jB (dC, dI) [(cA, .int)] [(pa, .inr (1, [.ref ps, .int (jI pn)])), (ps, .inl (cA, 160, .inl (jA pf)))])) (vp_Si (fun r => r = jI (f_XP_byteAt pn pf zi))) 0 0 (fun _ => False) := by
  refine jMet (cc := cXP_byteAt) (maxL := 2) (ret := some .int) (by decide) rfl ?_
  intro p e s m args below meth c s₁ R Q hR hQ B hml hv
  obtain ⟨rfl, hP, hK, hN⟩ := hv
  have hx := B.exec
  have hb := B.bytes
  have hr := B.returns
  have hts := atoms_spec (ws := Cond.code yXP_byteAt cXP_byteAt 2 (some .int) :: TBL) B.pre
  have hown : s.vm.findClass RXP = some m.cls := findClass_of_methodNamed B.named
  have hlocks := B.notSynchronized
  have hP : va_P (dC, dI) vwCl [(pa, .inr (1, [.ref ps, .int (jI pn)])), (ps, .inl (cA, 160, .inl (jA pf)))] s.heap := hP
  have hl := lv_entry ([.ref pa, .int (jI zi)]) (n := 2) (Nat.le_of_ble_eq_true rfl)
  rw [lg_entry_eq]
  generalize (lg_sl ([.ref pa, .int (jI zi)]) ++ List.replicate (2 - (lg_sl ([.ref pa, .int (jI zi)])).length) Slot.unset).toArray = ls at hl ⊢
  have hl : lv_has ls 2 [(0, .ref pa), (1, .int (jI zi))] := hl
  refine lv_iload_n hx hb dXP_byteAt_0 rfl (lv_at hl 1 rfl) ?_
  refine ji_if_lt (tgt := 21) hx hb dXP_byteAt_1 (by decide) (by omega) (fun c1_ => ?_) (fun c1_ => ?_)
  · refine ji_iconst hx hb dXP_byteAt_21 ?_
    subst hQ
    exact W.iret (v := jI (-1)) hx hb hr (fun t ht hW => ⟨_, rfl, congrArg jI (Eq.trans (by rw [f_XP_byteAt_s]; rw [if_pos c1_]; try rfl) rfl), ht⟩) (fun _ h => nomatch h) dXP_byteAt_22
  · refine lv_iload_n hx hb dXP_byteAt_4 rfl (lv_at hl 1 rfl) ?_
    refine lv_aload_n hx hb dXP_byteAt_5 rfl (lv_at hl 0 rfl) ?_
    refine va_get (D := (dC, dI)) (ci := 1) (v := .int (jI pn)) (C := RXP) (T := TXP) (N := 2) hx hb hts (fun w h => jmem (inXP w h)) hown hK hP 0 rfl rfl 1 (by decide) (hts _ (jmem tw_61)) (fun _ h9 => h9) rfl dXP_byteAt_6 ?_
    refine ji_icmp_ge (tgt := 21) hx hb dXP_byteAt_9 (by decide) (by omega) (by omega) (fun c9_ => ?_) (fun c9_ => ?_)
    · refine ji_iconst hx hb dXP_byteAt_21 ?_
      subst hQ
      exact W.iret (v := jI (-1)) hx hb hr (fun t ht hW => ⟨_, rfl, congrArg jI (Eq.trans (by rw [f_XP_byteAt_s]; rw [if_neg (Int.not_lt.mpr c1_), if_neg (Int.not_lt.mpr c9_)]; try rfl) rfl), ht⟩) (fun _ h => nomatch h) dXP_byteAt_22
    · refine lv_aload_n hx hb dXP_byteAt_12 rfl (lv_at hl 0 rfl) ?_
      refine va_get (D := (dC, dI)) (ci := 1) (v := .ref ps) (C := RXP) (T := TXP) (N := 2) hx hb hts (fun w h => jmem (inXP w h)) hown hK hP 0 rfl rfl 0 (by decide) (hts _ (jmem tw_60)) (fun _ h9 => h9) rfl dXP_byteAt_13 ?_
      refine lv_iload_n hx hb dXP_byteAt_16 rfl (lv_at hl 1 rfl) ?_
      refine ji_iald hx hb hK hP 1 0 rfl rfl ⟨by omega, by omega⟩ (by decide) dXP_byteAt_17 ?_
      refine lv_goto (tgt := 22) hx hb dXP_byteAt_18 (by decide) ?_
      subst hQ
      exact W.iret (v := jI (pf zi)) hx hb hr (fun t ht hW => ⟨_, rfl, congrArg jI (Eq.trans (by rw [f_XP_byteAt_s]; rw [if_neg (Int.not_lt.mpr c1_), if_pos c9_]; try rfl) rfl), ht⟩) (fun _ h => nomatch h) dXP_byteAt_22
noncomputable def g_XP_put (pn : Int) (pf : Int → Int) (zs : Int) : Int × (Int → Int) :=
  if pn < 160 then
    (pn + 1, jset pf pn zs)
  else
    (pn, pf)
noncomputable def f_XP_put : Int → (Int → Int) → Int → Int × (Int → Int) := jopq g_XP_put
theorem f_XP_put_q : f_XP_put = g_XP_put := jopq_eq _
theorem f_XP_put_s (pn : Int) (pf : Int → Int) (zs : Int) : f_XP_put pn pf zs = (
    if pn < 160 then
      (pn + 1, jset pf pn zs)
    else
      (pn, pf)
  : Int × (Int → Int)) := by rw [f_XP_put_q]; rfl
theorem f_XP_put_b (pn : Int) (pf : Int → Int) (zs : Int) (hpn : 0 ≤ pn ∧ pn ≤ 160) : 0 ≤ (f_XP_put pn pf zs).1 ∧ (f_XP_put pn pf zs).1 ≤ 160 := by rw [f_XP_put_s]; split <;> dsimp only <;> omega
set_option maxHeartbeats 4000000 in
set_option maxRecDepth 100000 in
theorem c_XP_put (l : Launch) (dC : Nat → ClassId) (dI : Nat → Nat → Nat) (cA : ClassId) (sz : Nat) (pa : Nat) (ps : Nat) (pn : Int) (pf : Int → Int) (zs : Int) (hpn : 0 ≤ pn ∧ pn ≤ 160) : Met l yXP_put (Cond.code yXP_put cXP_put 2 none :: TBL) ({ frames := 0, cells := 0, slots := 0, locals := 0 } : Room) (va_Pc [.ref pa, .int (jI zs)] (jBw (dC, dI) [(cA, .int)] [(pa, .inr (1, [.ref ps, .int (jI pn)])), (ps, .inl (cA, 160, .inl (jA pf)))] sz)) (va_Qv (fun (u : Int × (Int → Int)) => u = f_XP_put pn pf zs) (fun u t => jE (dC, dI) [(cA, .int)] [(pa, .inr (1, [.ref ps, .int (jI pn)])), (ps, .inl (cA, 160, .inl (jA pf)))] sz [(pa, .inr (1, [.ref ps, .int (jI u.1)])), (ps, .inl (cA, 160, .inl (jA u.2)))] t) (va_A [(pa, .inr (1, [.ref ps, .int (jI pn)])), (ps, .inl (cA, 160, .inl (jA pf)))] sz)) 0 0 (va_A [(pa, .inr (1, [.ref ps, .int (jI pn)])), (ps, .inl (cA, 160, .inl (jA pf)))] sz) := by
  refine jMet (cc := cXP_put) (maxL := 2) (ret := none) (by decide) rfl ?_
  intro p e s m args below meth c s₁ R Q hR hQ B hml hv
  obtain ⟨rfl, hsz, hP, hK, hD0, hN⟩ := hv
  have hx := B.exec
  have hb := B.bytes
  have hr := B.returns
  have hts := atoms_spec (ws := Cond.code yXP_put cXP_put 2 none :: TBL) B.pre
  have hown : s.vm.findClass RXP = some m.cls := findClass_of_methodNamed B.named
  have hlocks := B.notSynchronized
  subst hsz
  obtain ⟨A, hAe⟩ : ∃ A, A = va_A [(pa, .inr (1, [.ref ps, .int (jI pn)])), (ps, .inl (cA, 160, .inl (jA pf)))] s.heap.size := ⟨_, rfl⟩
  have hD : va_D A [(pa, .inr (1, [.ref ps, .int (jI pn)])), (ps, .inl (cA, 160, .inl (jA pf)))] := by rw [hAe]; exact hD0.self
  have hA : ∀ q : Nat, s.heap.size ≤ q → A q := fun q h => by rw [hAe]; exact Or.inr h
  have hS : va_S A s.heap s.heap [] := va_S.rf
  have hP : va_P (dC, dI) vwCl [(pa, .inr (1, [.ref ps, .int (jI pn)])), (ps, .inl (cA, 160, .inl (jA pf)))] s.heap := hP
  have hl := lv_entry ([.ref pa, .int (jI zs)]) (n := 2) (Nat.le_of_ble_eq_true rfl)
  rw [lg_entry_eq]
  generalize (lg_sl ([.ref pa, .int (jI zs)]) ++ List.replicate (2 - (lg_sl ([.ref pa, .int (jI zs)])).length) Slot.unset).toArray = ls at hl ⊢
  have hl : lv_has ls 2 [(0, .ref pa), (1, .int (jI zs))] := hl
  refine lv_aload_n hx hb dXP_put_0 rfl (lv_at hl 0 rfl) ?_
  refine va_get (D := (dC, dI)) (ci := 1) (v := .int (jI pn)) (C := RXP) (T := TXP) (N := 2) hx hb hts (fun w h => jmem (inXP w h)) hown hK hP 0 rfl rfl 1 (by decide) (hts _ (jmem tw_61)) (fun _ h9 => h9) rfl dXP_put_1 ?_
  refine ji_sipush hx hb dXP_put_4 (by decide) ?_
  refine ji_icmp_ge (tgt := 30) hx hb dXP_put_7 (by decide) (by omega) (by omega) (fun c7_ => ?_) (fun c7_ => ?_)
  · have hP9 := hP.sub (ws' := [(pa, .inr (1, [.ref ps, .int (jI pn)])), (ps, .inl (cA, 160, .inl (jA pf)))]) [0, 1] rfl
    have hD9 := hD.sub (ws' := [(pa, .inr (1, [.ref ps, .int (jI pn)])), (ps, .inl (cA, 160, .inl (jA pf)))]) [0, 1] (by decide) rfl
    subst hAe
    subst hQ
    exact W.vret hx hb hr (fun t ht hW => ⟨⟨(pn, pf), rfl, Eq.trans (by rw [f_XP_put_s]; rw [if_neg (Int.not_lt.mpr c7_)]; try rfl) rfl, ⟨by rw [ht]; exact hP9, va_K.moved hW.alike hK, hD9⟩⟩, hS.F ht⟩) hS.2.2 dXP_put_30
  · refine lv_aload_n hx hb dXP_put_10 rfl (lv_at hl 0 rfl) ?_
    refine va_get (D := (dC, dI)) (ci := 1) (v := .ref ps) (C := RXP) (T := TXP) (N := 2) hx hb hts (fun w h => jmem (inXP w h)) hown hK hP 0 rfl rfl 0 (by decide) (hts _ (jmem tw_60)) (fun _ h9 => h9) rfl dXP_put_11 ?_
    refine lv_aload_n hx hb dXP_put_14 rfl (lv_at hl 0 rfl) ?_
    refine va_get (D := (dC, dI)) (ci := 1) (v := .int (jI pn)) (C := RXP) (T := TXP) (N := 2) hx hb hts (fun w h => jmem (inXP w h)) hown hK hP 0 rfl rfl 1 (by decide) (hts _ (jmem tw_61)) (fun _ h9 => h9) rfl dXP_put_15 ?_
    refine lv_iload_n hx hb dXP_put_18 rfl (lv_at hl 1 rfl) ?_
    refine ji_iast hx hb hK hP hD hS 1 0 rfl rfl ⟨by omega, by omega⟩ (by decide) dXP_put_19 (fun H locs hP hD hS => ?_)
    have hP : va_P (dC, dI) vwCl [(pa, .inr (1, [.ref ps, .int (jI pn)])), (ps, .inl (cA, 160, .inl (jA (jset pf pn zs))))] H := hP
    have hD : va_D A [(pa, .inr (1, [.ref ps, .int (jI pn)])), (ps, .inl (cA, 160, .inl (jA (jset pf pn zs))))] := hD
    refine lv_aload_n hx hb dXP_put_20 rfl (lv_at hl 0 rfl) ?_
    refine lv_dup hx hb dXP_put_21 rfl ?_
    refine va_get (D := (dC, dI)) (ci := 1) (v := .int (jI pn)) (C := RXP) (T := TXP) (N := 2) hx hb hts (fun w h => jmem (inXP w h)) hown hK hP 0 rfl rfl 1 (by decide) (hts _ (jmem tw_61)) (fun _ h9 => h9) rfl dXP_put_22 ?_
    refine ji_iconst hx hb dXP_put_25 ?_
    refine ji_iadd hx hb dXP_put_26 ?_
    refine va_put (D := (dC, dI)) (ci := 1) (v := .int (jI (pn + 1))) (ty := (.int)) (C := RXP) (T := TXP) (N := 2) hx hb hts (fun w h => jmem (inXP w h)) tyXP tyXP_ok nXP hown hK hP hD hS 0 rfl rfl 1 (by decide) (hts _ (jmem tw_61)) (fun _ h9 => h9) rfl (by decide +kernel) rfl rfl (Nat.le_of_ble_eq_true rfl) dXP_put_27 (fun H locs hP hD hS => ?_)
    have hP : va_P (dC, dI) vwCl [(pa, .inr (1, [.ref ps, .int (jI (pn + 1))])), (ps, .inl (cA, 160, .inl (jA (jset pf pn zs))))] H := hP
    have hD : va_D A [(pa, .inr (1, [.ref ps, .int (jI (pn + 1))])), (ps, .inl (cA, 160, .inl (jA (jset pf pn zs))))] := hD
    have hP9 := hP.sub (ws' := [(pa, .inr (1, [.ref ps, .int (jI (pn + 1))])), (ps, .inl (cA, 160, .inl (jA (jset pf pn zs))))]) [0, 1] rfl
    have hD9 := hD.sub (ws' := [(pa, .inr (1, [.ref ps, .int (jI (pn + 1))])), (ps, .inl (cA, 160, .inl (jA (jset pf pn zs))))]) [0, 1] (by decide) rfl
    subst hAe
    subst hQ
    exact W.vret hx hb hr (fun t ht hW => ⟨⟨(pn + 1, jset pf pn zs), rfl, Eq.trans (by rw [f_XP_put_s]; rw [if_pos c7_]; try rfl) rfl, ⟨by rw [ht]; exact hP9, va_K.moved hW.alike hK, hD9⟩⟩, hS.F ht⟩) hS.2.2 dXP_put_30
noncomputable def g_XP_putNumber_L3 (pn : Int) (pf : Int → Int) (zi : Int) : Nat → Int → Int → (Int → Int) → Int × (Int → Int)
  | 0, _, _, _ => (0, fun _ => 0)
  | n9 + 1, w, q, fa =>
    if 0 < w then
      if zi < w then
        if w = 1 then
          match f_XP_put q fa (48 + (Int.tmod (Int.tdiv zi w) 10)) with
          | (pn1'1, pf1'2) =>
            g_XP_putNumber_L3 pn pf zi n9 (Int.tdiv w 10) pn1'1 pf1'2
        else
          g_XP_putNumber_L3 pn pf zi n9 (Int.tdiv w 10) q fa
      else
        match f_XP_put q fa (48 + (Int.tmod (Int.tdiv zi w) 10)) with
        | (pn1', pf1') =>
          g_XP_putNumber_L3 pn pf zi n9 (Int.tdiv w 10) pn1' pf1'
    else
      (q, fa)
noncomputable def f_XP_putNumber_L3 : Int → (Int → Int) → Int → Nat → Int → Int → (Int → Int) → Int × (Int → Int) := jopq g_XP_putNumber_L3
theorem f_XP_putNumber_L3_q : f_XP_putNumber_L3 = g_XP_putNumber_L3 := jopq_eq _
theorem f_XP_putNumber_L3_s (pn : Int) (pf : Int → Int) (zi : Int) (n9 : Nat) (w : Int) (q : Int) (fa : Int → Int) : f_XP_putNumber_L3 pn pf zi (n9 + 1) w q fa = (
    if 0 < w then
      if zi < w then
        if w = 1 then
          match f_XP_put q fa (48 + (Int.tmod (Int.tdiv zi w) 10)) with
          | (pn1'1, pf1'2) =>
            f_XP_putNumber_L3 pn pf zi n9 (Int.tdiv w 10) pn1'1 pf1'2
        else
          f_XP_putNumber_L3 pn pf zi n9 (Int.tdiv w 10) q fa
      else
        match f_XP_put q fa (48 + (Int.tmod (Int.tdiv zi w) 10)) with
        | (pn1', pf1') =>
          f_XP_putNumber_L3 pn pf zi n9 (Int.tdiv w 10) pn1' pf1'
    else
      (q, fa)
  : Int × (Int → Int)) := by rw [f_XP_putNumber_L3_q]; rfl
theorem f_XP_putNumber_L3_z (pn : Int) (pf : Int → Int) (zi : Int) (w : Int) (q : Int) (fa : Int → Int) : f_XP_putNumber_L3 pn pf zi 0 w q fa = (0, fun _ => 0) := by rw [f_XP_putNumber_L3_q]; rfl
noncomputable def g_XP_putNumber (pn : Int) (pf : Int → Int) (zi : Int) : Int × (Int → Int) :=
  f_XP_putNumber_L3 pn pf zi (Int.toNat (100000) + 1) 100000 pn pf
noncomputable def f_XP_putNumber : Int → (Int → Int) → Int → Int × (Int → Int) := jopq g_XP_putNumber
theorem f_XP_putNumber_q : f_XP_putNumber = g_XP_putNumber := jopq_eq _
theorem f_XP_putNumber_s (pn : Int) (pf : Int → Int) (zi : Int) : f_XP_putNumber pn pf zi = (
    f_XP_putNumber_L3 pn pf zi (Int.toNat (100000) + 1) 100000 pn pf
  : Int × (Int → Int)) := by rw [f_XP_putNumber_q]; rfl
theorem jx_div {z w : Int} (hz : 0 ≤ z ∧ z < 1000000) (hw : 0 < w) : 0 ≤ z.tdiv w ∧ z.tdiv w < 1000000 := by
  rw [Int.tdiv_eq_ediv_of_nonneg hz.1]
  have h1 := Int.ediv_nonneg hz.1 (show 0 ≤ w by omega)
  have h2 := Int.ediv_le_self w hz.1
  omega
theorem jtd10 {w : Int} (hw : w = 100000 ∨ w = 10000 ∨ w = 1000 ∨ w = 100 ∨ w = 10 ∨ w = 1 ∨ w = 0) : w.tdiv 10 ≤ w ∧ (0 < w → w.tdiv 10 < w) := by rcases hw with rfl | rfl | rfl | rfl | rfl | rfl | rfl <;> decide
theorem f_XP_putNumber_L (pn : Int) (pf : Int → Int) (zi : Int) : ∀ (n : Nat) (w q : Int) (fa : Int → Int), 0 ≤ q ∧ q ≤ 160 → 0 ≤ (f_XP_putNumber_L3 pn pf zi n w q fa).1 ∧ (f_XP_putNumber_L3 pn pf zi n w q fa).1 ≤ 160 := by
  intro n
  induction n with
  | zero => intro w q fa _; simp only [f_XP_putNumber_L3_z] <;> omega
  | succ n ih =>
    intro w q fa h
    have hp := fun x => f_XP_put_b q fa x h
    rw [f_XP_putNumber_L3_s]
    (repeat' split) <;> first | exact ih _ _ _ h | (rename_i e; have h9 := hp (48 + (zi.tdiv w).tmod 10); rw [e] at h9; exact ih _ _ _ h9) | exact h
theorem f_XP_putNumber_b (pn : Int) (pf : Int → Int) (zi : Int) (hpn : 0 ≤ pn ∧ pn ≤ 160) (hzi : 0 ≤ zi ∧ zi < 1000000) : 0 ≤ (f_XP_putNumber pn pf zi).1 ∧ (f_XP_putNumber pn pf zi).1 ≤ 160 := by rw [f_XP_putNumber_s]; exact f_XP_putNumber_L _ _ _ _ _ _ _ hpn
set_option maxHeartbeats 4000000 in
set_option maxRecDepth 100000 in
theorem c_XP_putNumber (l : Launch) (dC : Nat → ClassId) (dI : Nat → Nat → Nat) (cA : ClassId) (sz : Nat) (pa : Nat) (ps : Nat) (pn : Int) (pf : Int → Int) (zi : Int) (hpn : 0 ≤ pn ∧ pn ≤ 160) (hzi : 0 ≤ zi ∧ zi < 1000000) : Met l yXP_putNumber (Cond.code yXP_putNumber cXP_putNumber 3 none :: TBL) ({ frames := 1, cells := 0, slots := 0, locals := 21 } : Room) (va_Pc [.ref pa, .int (jI zi)] (jBw (dC, dI) [(cA, .int)] [(pa, .inr (1, [.ref ps, .int (jI pn)])), (ps, .inl (cA, 160, .inl (jA pf)))] sz)) (va_Qv (fun (u : Int × (Int → Int)) => u = f_XP_putNumber pn pf zi) (fun u t => jE (dC, dI) [(cA, .int)] [(pa, .inr (1, [.ref ps, .int (jI pn)])), (ps, .inl (cA, 160, .inl (jA pf)))] sz [(pa, .inr (1, [.ref ps, .int (jI u.1)])), (ps, .inl (cA, 160, .inl (jA u.2)))] t) (va_A [(pa, .inr (1, [.ref ps, .int (jI pn)])), (ps, .inl (cA, 160, .inl (jA pf)))] sz)) 0 0 (va_A [(pa, .inr (1, [.ref ps, .int (jI pn)])), (ps, .inl (cA, 160, .inl (jA pf)))] sz) := by
  refine jMet (cc := cXP_putNumber) (maxL := 3) (ret := none) (by decide) rfl ?_
  intro p e s m args below meth c s₁ R Q hR hQ B hml hv
  obtain ⟨rfl, hsz, hP, hK, hD0, hN⟩ := hv
  have hx := B.exec
  have hb := B.bytes
  have hr := B.returns
  have hts := atoms_spec (ws := Cond.code yXP_putNumber cXP_putNumber 3 none :: TBL) B.pre
  have hown : s.vm.findClass RXP = some m.cls := findClass_of_methodNamed B.named
  have hlocks := B.notSynchronized
  subst hsz
  obtain ⟨A, hAe⟩ : ∃ A, A = va_A [(pa, .inr (1, [.ref ps, .int (jI pn)])), (ps, .inl (cA, 160, .inl (jA pf)))] s.heap.size := ⟨_, rfl⟩
  have hD : va_D A [(pa, .inr (1, [.ref ps, .int (jI pn)])), (ps, .inl (cA, 160, .inl (jA pf)))] := by rw [hAe]; exact hD0.self
  have hA : ∀ q : Nat, s.heap.size ≤ q → A q := fun q h => by rw [hAe]; exact Or.inr h
  have hS : va_S A s.heap s.heap [] := va_S.rf
  have hP : va_P (dC, dI) vwCl [(pa, .inr (1, [.ref ps, .int (jI pn)])), (ps, .inl (cA, 160, .inl (jA pf)))] s.heap := hP
  have hl := lv_entry ([.ref pa, .int (jI zi)]) (n := 3) (Nat.le_of_ble_eq_true rfl)
  rw [lg_entry_eq]
  generalize (lg_sl ([.ref pa, .int (jI zi)]) ++ List.replicate (3 - (lg_sl ([.ref pa, .int (jI zi)])).length) Slot.unset).toArray = ls at hl ⊢
  have hl : lv_has ls 3 [(0, .ref pa), (1, .int (jI zi))] := hl
  refine lv_ldc hx hb hown (hts _ (jmem tw_593)) dXP_putNumber_0 ?_
  refine ji_re (y := 100000) (by decide) ?_
  refine lv_istore_n (lv' := [(2, .int (jI 100000)), (0, .ref pa), (1, .int (jI zi))]) hx hb dXP_putNumber_2 rfl hl (by decide) rfl (fun ls hl => ?_)
  have loop3 : ∀ (n9 : Nat) (w : Int) (q : Int) (fa : Int → Int) , w < (n9 : Int) → f_XP_putNumber_L3 pn pf zi n9 w q fa = f_XP_putNumber pn pf zi → (w = 100000 ∨ w = 10000 ∨ w = 1000 ∨ w = 100 ∨ w = 10 ∨ w = 1 ∨ w = 0) → (0 ≤ q ∧ q ≤ 160) → ∀ (H : Heap) (locs : List Loc), va_P (dC, dI) vwCl [(pa, .inr (1, [.ref ps, .int (jI q)])), (ps, .inl (cA, 160, .inl (jA fa)))] H → va_D A [(pa, .inr (1, [.ref ps, .int (jI q)])), (ps, .inl (cA, 160, .inl (jA fa)))] → va_S A s.heap H locs → ∀ ls : Array Slot, lv_has ls 3 [(2, .int (jI w)), (0, .ref pa), (1, .int (jI zi))] → W p l e R s m ([.ref pa, .int (jI zi)] : List Value).toArray below meth c H locs 0 0 Q (F0 m 3 ls []) := by
    intro n9
    induction n9 with
    | zero =>
      intro w q fa hm hF hw hq
      exact absurd hm (by omega)
    | succ n9 ih3 =>
      intro w q fa hm hF hw hq H locs hP hD hS ls hl
      refine lv_iload_n hx hb dXP_putNumber_3 rfl (lv_at hl 0 rfl) ?_
      refine ji_if_le (tgt := 38) hx hb dXP_putNumber_4 (by decide) (by omega) (fun c4_ => ?_) (fun c4_ => ?_)
      · have hP9 := hP.sub (ws' := [(pa, .inr (1, [.ref ps, .int (jI q)])), (ps, .inl (cA, 160, .inl (jA fa)))]) [0, 1] rfl
        have hD9 := hD.sub (ws' := [(pa, .inr (1, [.ref ps, .int (jI q)])), (ps, .inl (cA, 160, .inl (jA fa)))]) [0, 1] (by decide) rfl
        subst hAe
        subst hQ
        exact W.vret hx hb hr (fun t ht hW => ⟨⟨(q, fa), rfl, Eq.trans (by rw [f_XP_putNumber_L3_s]; rw [if_neg (Int.not_lt.mpr c4_)]; try rfl) hF, ⟨by rw [ht]; exact hP9, va_K.moved hW.alike hK, hD9⟩⟩, hS.F ht⟩) hS.2.2 dXP_putNumber_38
      · refine lv_iload_n hx hb dXP_putNumber_7 rfl (lv_at hl 2 rfl) ?_
        refine lv_iload_n hx hb dXP_putNumber_8 rfl (lv_at hl 0 rfl) ?_
        refine ji_icmp_ge (tgt := 17) hx hb dXP_putNumber_9 (by decide) (by omega) (by omega) (fun c9_ => ?_) (fun c9_ => ?_)
        · refine lv_aload_n hx hb dXP_putNumber_17 rfl (lv_at hl 1 rfl) ?_
          refine ji_bipush hx hb dXP_putNumber_18 (by decide) ?_
          refine lv_iload_n hx hb dXP_putNumber_20 rfl (lv_at hl 2 rfl) ?_
          refine lv_iload_n hx hb dXP_putNumber_21 rfl (lv_at hl 0 rfl) ?_
          refine ji_idiv hx hb dXP_putNumber_22 (by omega) (by omega) (by omega) (by omega) ?_
          refine ji_bipush hx hb dXP_putNumber_23 (by decide) ?_
          refine ji_irem hx hb dXP_putNumber_25 (by have h9 := jx_div hzi (by omega : 0 < w); omega) (by have h9 := jx_div hzi (by omega : 0 < w); omega) (by have h9 := jx_div hzi (by omega : 0 < w); omega) (by have h9 := jx_div hzi (by omega : 0 < w); omega) ?_
          refine ji_iadd hx hb dXP_putNumber_26 ?_
          refine jwVv (rest := []) (wr := []) ⟨hx, hb, hml, hown, hts⟩ (c_XP_put l dC dI cA _ pa ps q fa (48 + (Int.tmod (Int.tdiv zi w) 10)) (by first | assumption | omega)) (cwV 1 hts (jG_V tw_594 tw_586 tw_587 tw_4 tw_588) rfl rfl rfl (by decide +kernel) (by rw [hR]; exact ⟨Nat.le_of_ble_eq_true rfl, Nat.le_of_ble_eq_true rfl⟩)) hK hP hD hS hA hN [0, 1] [] rfl rfl (by decide) (by decide) (by decide) 0 1 rfl rfl rfl rfl hl.1 rfl (Nat.le_of_ble_eq_true rfl) dXP_putNumber_27 (by rw [hR]; exact ⟨Nat.le_of_ble_eq_true rfl, Nat.le_of_ble_eq_true rfl⟩) (fun u H locs hwb hP hD hS => ?_)
          obtain ⟨pn1', pf1'⟩ := u
          try dsimp only at hwb
          have hP : va_P (dC, dI) vwCl [(pa, .inr (1, [.ref ps, .int (jI pn1')])), (ps, .inl (cA, 160, .inl (jA pf1')))] H := hP
          have hD : va_D A [(pa, .inr (1, [.ref ps, .int (jI pn1')])), (ps, .inl (cA, 160, .inl (jA pf1')))] := hD
          have f := f_XP_put_b q fa (48 + (Int.tmod (Int.tdiv zi w) 10)) (by first | assumption | omega)
          rw [← hwb] at f; try dsimp only at f
          refine lv_iload_n hx hb dXP_putNumber_30 rfl (lv_at hl 0 rfl) ?_
          refine ji_bipush hx hb dXP_putNumber_31 (by decide) ?_
          refine ji_idiv hx hb dXP_putNumber_33 (by omega) (by omega) (by omega) (by omega) ?_
          refine lv_istore_n (lv' := [(2, .int (jI (Int.tdiv w 10))), (0, .ref pa), (1, .int (jI zi))]) hx hb dXP_putNumber_34 rfl hl (by decide) rfl (fun ls hl => ?_)
          refine lv_goto (tgt := 3) hx hb dXP_putNumber_35 (by decide) ?_
          exact ih3 (Int.tdiv w 10) pn1' pf1' (by have hz9 := jtd10 hw; omega) (Eq.trans (by rw [f_XP_putNumber_L3_s]; rw [if_pos c4_, if_neg (Int.not_lt.mpr c9_)]; rw [← hwb]; try dsimp only; try rfl) hF) (by rcases hw with rfl | rfl | rfl | rfl | rfl | rfl | rfl <;> first | omega | decide) (by first | assumption | omega) _ _ hP hD hS ls (lv_sub hl [0, 1, 2] rfl)
        · refine lv_iload_n hx hb dXP_putNumber_12 rfl (lv_at hl 0 rfl) ?_
          refine ji_iconst hx hb dXP_putNumber_13 ?_
          refine ji_icmp_ne (tgt := 30) hx hb dXP_putNumber_14 (by decide) (by omega) (by omega) (fun c14_ => ?_) (fun c14_ => ?_)
          · refine lv_iload_n hx hb dXP_putNumber_30 rfl (lv_at hl 0 rfl) ?_
            refine ji_bipush hx hb dXP_putNumber_31 (by decide) ?_
            refine ji_idiv hx hb dXP_putNumber_33 (by omega) (by omega) (by omega) (by omega) ?_
            refine lv_istore_n (lv' := [(2, .int (jI (Int.tdiv w 10))), (0, .ref pa), (1, .int (jI zi))]) hx hb dXP_putNumber_34 rfl hl (by decide) rfl (fun ls hl => ?_)
            refine lv_goto (tgt := 3) hx hb dXP_putNumber_35 (by decide) ?_
            exact ih3 (Int.tdiv w 10) q fa (by have hz9 := jtd10 hw; omega) (Eq.trans (by rw [f_XP_putNumber_L3_s]; rw [if_pos c4_, if_pos c9_, if_neg c14_]; try rfl) hF) (by rcases hw with rfl | rfl | rfl | rfl | rfl | rfl | rfl <;> first | omega | decide) (by first | assumption | omega) _ _ hP hD hS ls (lv_sub hl [0, 1, 2] rfl)
          · refine lv_aload_n hx hb dXP_putNumber_17 rfl (lv_at hl 1 rfl) ?_
            refine ji_bipush hx hb dXP_putNumber_18 (by decide) ?_
            refine lv_iload_n hx hb dXP_putNumber_20 rfl (lv_at hl 2 rfl) ?_
            refine lv_iload_n hx hb dXP_putNumber_21 rfl (lv_at hl 0 rfl) ?_
            refine ji_idiv hx hb dXP_putNumber_22 (by omega) (by omega) (by omega) (by omega) ?_
            refine ji_bipush hx hb dXP_putNumber_23 (by decide) ?_
            refine ji_irem hx hb dXP_putNumber_25 (by have h9 := jx_div hzi (by omega : 0 < w); omega) (by have h9 := jx_div hzi (by omega : 0 < w); omega) (by have h9 := jx_div hzi (by omega : 0 < w); omega) (by have h9 := jx_div hzi (by omega : 0 < w); omega) ?_
            refine ji_iadd hx hb dXP_putNumber_26 ?_
            refine jwVv (rest := []) (wr := []) ⟨hx, hb, hml, hown, hts⟩ (c_XP_put l dC dI cA _ pa ps q fa (48 + (Int.tmod (Int.tdiv zi w) 10)) (by first | assumption | omega)) (cwV 1 hts (jG_V tw_594 tw_586 tw_587 tw_4 tw_588) rfl rfl rfl (by decide +kernel) (by rw [hR]; exact ⟨Nat.le_of_ble_eq_true rfl, Nat.le_of_ble_eq_true rfl⟩)) hK hP hD hS hA hN [0, 1] [] rfl rfl (by decide) (by decide) (by decide) 0 1 rfl rfl rfl rfl hl.1 rfl (Nat.le_of_ble_eq_true rfl) dXP_putNumber_27 (by rw [hR]; exact ⟨Nat.le_of_ble_eq_true rfl, Nat.le_of_ble_eq_true rfl⟩) (fun u3 H locs hwb4 hP hD hS => ?_)
            obtain ⟨pn1'1, pf1'2⟩ := u3
            try dsimp only at hwb4
            have hP : va_P (dC, dI) vwCl [(pa, .inr (1, [.ref ps, .int (jI pn1'1)])), (ps, .inl (cA, 160, .inl (jA pf1'2)))] H := hP
            have hD : va_D A [(pa, .inr (1, [.ref ps, .int (jI pn1'1)])), (ps, .inl (cA, 160, .inl (jA pf1'2)))] := hD
            have f5 := f_XP_put_b q fa (48 + (Int.tmod (Int.tdiv zi w) 10)) (by first | assumption | omega)
            rw [← hwb4] at f5; try dsimp only at f5
            refine lv_iload_n hx hb dXP_putNumber_30 rfl (lv_at hl 0 rfl) ?_
            refine ji_bipush hx hb dXP_putNumber_31 (by decide) ?_
            refine ji_idiv hx hb dXP_putNumber_33 (by omega) (by omega) (by omega) (by omega) ?_
            refine lv_istore_n (lv' := [(2, .int (jI (Int.tdiv w 10))), (0, .ref pa), (1, .int (jI zi))]) hx hb dXP_putNumber_34 rfl hl (by decide) rfl (fun ls hl => ?_)
            refine lv_goto (tgt := 3) hx hb dXP_putNumber_35 (by decide) ?_
            exact ih3 (Int.tdiv w 10) pn1'1 pf1'2 (by have hz9 := jtd10 hw; omega) (Eq.trans (by rw [f_XP_putNumber_L3_s]; rw [if_pos c4_, if_pos c9_, if_pos c14_]; rw [← hwb4]; try dsimp only; try rfl) hF) (by rcases hw with rfl | rfl | rfl | rfl | rfl | rfl | rfl <;> first | omega | decide) (by first | assumption | omega) _ _ hP hD hS ls (lv_sub hl [0, 1, 2] rfl)
  exact loop3 (Int.toNat (100000) + 1) 100000 pn pf (by omega) (Eq.trans (by rw [f_XP_putNumber_s]; try rfl) rfl) (by omega) (by first | assumption | omega) _ _ hP hD hS ls (lv_sub hl [0, 1, 2] rfl)
