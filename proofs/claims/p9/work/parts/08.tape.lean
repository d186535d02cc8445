noncomputable def g_XT_empty (tn : Int) (tp : Int) (tw : Int) (tf : Int → Int) : Int :=
  0
noncomputable def f_XT_empty : Int → Int → Int → (Int → Int) → Int := jopq g_XT_empty
theorem f_XT_empty_q : f_XT_empty = g_XT_empty := jopq_eq _
theorem f_XT_empty_s (tn : Int) (tp : Int) (tw : Int) (tf : Int → Int) : f_XT_empty tn tp tw tf = (
    0
  : Int) := by rw [f_XT_empty_q]; rfl
theorem f_XT_empty_b (tn : Int) (tp : Int) (tw : Int) (tf : Int → Int) : (f_XT_empty tn tp tw tf) = 0 := by rw [f_XT_empty_s]
set_option maxHeartbeats 4000000 in
set_option maxRecDepth 100000 in
theorem c_XT_empty (l : Launch) (dC : Nat → ClassId) (dI : Nat → Nat → Nat) (cA : ClassId) (sz : Nat) (ta : Nat) (ts : Nat) (tn : Int) (tp : Int) (tw : Int) (tf : Int → Int) : Met l yXT_empty (Cond.code yXT_empty cXT_empty 1 none :: TBL) ({ frames := 0, cells := 0, slots := 0, locals := 0 } : Room) (va_Pc [.ref ta] (jBw (dC, dI) [(cA, .int)] [(ta, .inr (3, [.ref ts, .int (jI tn), .int (jI tp), .int (jI tw)])), (ts, .inl (cA, 400, .inl (jA tf)))] sz)) (va_Qv (fun (u : Int) => u = f_XT_empty tn tp tw tf) (fun u t => jE (dC, dI) [(cA, .int)] [(ta, .inr (3, [.ref ts, .int (jI tn), .int (jI tp), .int (jI tw)])), (ts, .inl (cA, 400, .inl (jA tf)))] sz [(ta, .inr (3, [.ref ts, .int (jI u), .int (jI tp), .int (jI tw)])), (ts, .inl (cA, 400, .inl (jA tf)))] t) (va_A [(ta, .inr (3, [.ref ts, .int (jI tn), .int (jI tp), .int (jI tw)])), (ts, .inl (cA, 400, .inl (jA tf)))] sz)) 0 0 (va_A [(ta, .inr (3, [.ref ts, .int (jI tn), .int (jI tp), .int (jI tw)])), (ts, .inl (cA, 400, .inl (jA tf)))] sz) := by
  refine jMet (cc := cXT_empty) (maxL := 1) (ret := none) (by decide) rfl ?_
  intro p e s m args below meth c s₁ R Q hR hQ B hml hv
  obtain ⟨rfl, hsz, hP, hK, hD0, hN⟩ := hv
  have hx := B.exec
  have hb := B.bytes
  have hr := B.returns
  have hts := atoms_spec (ws := Cond.code yXT_empty cXT_empty 1 none :: TBL) B.pre
  have hown : s.vm.findClass RXT = some m.cls := findClass_of_methodNamed B.named
  have hlocks := B.notSynchronized
  subst hsz
  obtain ⟨A, hAe⟩ : ∃ A, A = va_A [(ta, .inr (3, [.ref ts, .int (jI tn), .int (jI tp), .int (jI tw)])), (ts, .inl (cA, 400, .inl (jA tf)))] s.heap.size := ⟨_, rfl⟩
  have hD : va_D A [(ta, .inr (3, [.ref ts, .int (jI tn), .int (jI tp), .int (jI tw)])), (ts, .inl (cA, 400, .inl (jA tf)))] := by rw [hAe]; exact hD0.self
  have hA : ∀ q : Nat, s.heap.size ≤ q → A q := fun q h => by rw [hAe]; exact Or.inr h
  have hS : va_S A s.heap s.heap [] := va_S.rf
  have hP : va_P (dC, dI) vwCl [(ta, .inr (3, [.ref ts, .int (jI tn), .int (jI tp), .int (jI tw)])), (ts, .inl (cA, 400, .inl (jA tf)))] s.heap := hP
  have hl := lv_entry ([.ref ta]) (n := 1) (Nat.le_of_ble_eq_true rfl)
  rw [lg_entry_eq]
  generalize (lg_sl ([.ref ta]) ++ List.replicate (1 - (lg_sl ([.ref ta])).length) Slot.unset).toArray = ls at hl ⊢
  have hl : lv_has ls 1 [(0, .ref ta)] := hl
  refine lv_aload_n hx hb dXT_empty_0 rfl (lv_at hl 0 rfl) ?_
  refine ji_iconst hx hb dXT_empty_1 ?_
  refine va_put (D := (dC, dI)) (ci := 3) (v := .int (jI 0)) (ty := (.int)) (C := RXT) (T := TXT) (N := 4) hx hb hts (fun w h => jmem (inXT w h)) tyXT tyXT_ok nXT hown hK hP hD hS 0 rfl rfl 1 (by decide) (hts _ (jmem tw_31)) (fun _ h9 => h9) rfl (by decide +kernel) rfl rfl (Nat.le_of_ble_eq_true rfl) dXT_empty_2 (fun H locs hP hD hS => ?_)
  have hP : va_P (dC, dI) vwCl [(ta, .inr (3, [.ref ts, .int (jI 0), .int (jI tp), .int (jI tw)])), (ts, .inl (cA, 400, .inl (jA tf)))] H := hP
  have hD : va_D A [(ta, .inr (3, [.ref ts, .int (jI 0), .int (jI tp), .int (jI tw)])), (ts, .inl (cA, 400, .inl (jA tf)))] := hD
  have hP9 := hP.sub (ws' := [(ta, .inr (3, [.ref ts, .int (jI 0), .int (jI tp), .int (jI tw)])), (ts, .inl (cA, 400, .inl (jA tf)))]) [0, 1] rfl
  have hD9 := hD.sub (ws' := [(ta, .inr (3, [.ref ts, .int (jI 0), .int (jI tp), .int (jI tw)])), (ts, .inl (cA, 400, .inl (jA tf)))]) [0, 1] (by decide) rfl
  subst hAe
  subst hQ
  exact W.vret hx hb hr (fun t ht hW => ⟨⟨0, rfl, Eq.trans (by rw [f_XT_empty_s]; try rfl) rfl, ⟨by rw [ht]; exact hP9, va_K.moved hW.alike hK, hD9⟩⟩, hS.F ht⟩) hS.2.2 dXT_empty_5
noncomputable def g_XT_rewind (tn : Int) (tp : Int) (tw : Int) (tf : Int → Int) : Int :=
  0
noncomputable def f_XT_rewind : Int → Int → Int → (Int → Int) → Int := jopq g_XT_rewind
theorem f_XT_rewind_q : f_XT_rewind = g_XT_rewind := jopq_eq _
theorem f_XT_rewind_s (tn : Int) (tp : Int) (tw : Int) (tf : Int → Int) : f_XT_rewind tn tp tw tf = (
    0
  : Int) := by rw [f_XT_rewind_q]; rfl
theorem f_XT_rewind_b (tn : Int) (tp : Int) (tw : Int) (tf : Int → Int) : (f_XT_rewind tn tp tw tf) = 0 := by rw [f_XT_rewind_s]
set_option maxHeartbeats 4000000 in
set_option maxRecDepth 100000 in
theorem c_XT_rewind (l : Launch) (dC : Nat → ClassId) (dI : Nat → Nat → Nat) (cA : ClassId) (sz : Nat) (ta : Nat) (ts : Nat) (tn : Int) (tp : Int) (tw : Int) (tf : Int → Int) : Met l yXT_rewind (Cond.code yXT_rewind cXT_rewind 1 none :: TBL) ({ frames := 0, cells := 0, slots := 0, locals := 0 } : Room) (va_Pc [.ref ta] (jBw (dC, dI) [(cA, .int)] [(ta, .inr (3, [.ref ts, .int (jI tn), .int (jI tp), .int (jI tw)])), (ts, .inl (cA, 400, .inl (jA tf)))] sz)) (va_Qv (fun (u : Int) => u = f_XT_rewind tn tp tw tf) (fun u t => jE (dC, dI) [(cA, .int)] [(ta, .inr (3, [.ref ts, .int (jI tn), .int (jI tp), .int (jI tw)])), (ts, .inl (cA, 400, .inl (jA tf)))] sz [(ta, .inr (3, [.ref ts, .int (jI tn), .int (jI u), .int (jI tw)])), (ts, .inl (cA, 400, .inl (jA tf)))] t) (va_A [(ta, .inr (3, [.ref ts, .int (jI tn), .int (jI tp), .int (jI tw)])), (ts, .inl (cA, 400, .inl (jA tf)))] sz)) 0 0 (va_A [(ta, .inr (3, [.ref ts, .int (jI tn), .int (jI tp), .int (jI tw)])), (ts, .inl (cA, 400, .inl (jA tf)))] sz) := by
  refine jMet (cc := cXT_rewind) (maxL := 1) (ret := none) (by decide) rfl ?_
  intro p e s m args below meth c s₁ R Q hR hQ B hml hv
  obtain ⟨rfl, hsz, hP, hK, hD0, hN⟩ := hv
  have hx := B.exec
  have hb := B.bytes
  have hr := B.returns
  have hts := atoms_spec (ws := Cond.code yXT_rewind cXT_rewind 1 none :: TBL) B.pre
  have hown : s.vm.findClass RXT = some m.cls := findClass_of_methodNamed B.named
  have hlocks := B.notSynchronized
  subst hsz
  obtain ⟨A, hAe⟩ : ∃ A, A = va_A [(ta, .inr (3, [.ref ts, .int (jI tn), .int (jI tp), .int (jI tw)])), (ts, .inl (cA, 400, .inl (jA tf)))] s.heap.size := ⟨_, rfl⟩
  have hD : va_D A [(ta, .inr (3, [.ref ts, .int (jI tn), .int (jI tp), .int (jI tw)])), (ts, .inl (cA, 400, .inl (jA tf)))] := by rw [hAe]; exact hD0.self
  have hA : ∀ q : Nat, s.heap.size ≤ q → A q := fun q h => by rw [hAe]; exact Or.inr h
  have hS : va_S A s.heap s.heap [] := va_S.rf
  have hP : va_P (dC, dI) vwCl [(ta, .inr (3, [.ref ts, .int (jI tn), .int (jI tp), .int (jI tw)])), (ts, .inl (cA, 400, .inl (jA tf)))] s.heap := hP
  have hl := lv_entry ([.ref ta]) (n := 1) (Nat.le_of_ble_eq_true rfl)
  rw [lg_entry_eq]
  generalize (lg_sl ([.ref ta]) ++ List.replicate (1 - (lg_sl ([.ref ta])).length) Slot.unset).toArray = ls at hl ⊢
  have hl : lv_has ls 1 [(0, .ref ta)] := hl
  refine lv_aload_n hx hb dXT_rewind_0 rfl (lv_at hl 0 rfl) ?_
  refine ji_iconst hx hb dXT_rewind_1 ?_
  refine va_put (D := (dC, dI)) (ci := 3) (v := .int (jI 0)) (ty := (.int)) (C := RXT) (T := TXT) (N := 4) hx hb hts (fun w h => jmem (inXT w h)) tyXT tyXT_ok nXT hown hK hP hD hS 0 rfl rfl 2 (by decide) (hts _ (jmem tw_32)) (fun _ h9 => h9) rfl (by decide +kernel) rfl rfl (Nat.le_of_ble_eq_true rfl) dXT_rewind_2 (fun H locs hP hD hS => ?_)
  have hP : va_P (dC, dI) vwCl [(ta, .inr (3, [.ref ts, .int (jI tn), .int (jI 0), .int (jI tw)])), (ts, .inl (cA, 400, .inl (jA tf)))] H := hP
  have hD : va_D A [(ta, .inr (3, [.ref ts, .int (jI tn), .int (jI 0), .int (jI tw)])), (ts, .inl (cA, 400, .inl (jA tf)))] := hD
  have hP9 := hP.sub (ws' := [(ta, .inr (3, [.ref ts, .int (jI tn), .int (jI 0), .int (jI tw)])), (ts, .inl (cA, 400, .inl (jA tf)))]) [0, 1] rfl
  have hD9 := hD.sub (ws' := [(ta, .inr (3, [.ref ts, .int (jI tn), .int (jI 0), .int (jI tw)])), (ts, .inl (cA, 400, .inl (jA tf)))]) [0, 1] (by decide) rfl
  subst hAe
  subst hQ
  exact W.vret hx hb hr (fun t ht hW => ⟨⟨0, rfl, Eq.trans (by rw [f_XT_rewind_s]; try rfl) rfl, ⟨by rw [ht]; exact hP9, va_K.moved hW.alike hK, hD9⟩⟩, hS.F ht⟩) hS.2.2 dXT_rewind_5
noncomputable def g_XT_wrongPlace (tn : Int) (tp : Int) (tw : Int) (tf : Int → Int) : Int :=
  tw
noncomputable def f_XT_wrongPlace : Int → Int → Int → (Int → Int) → Int := jopq g_XT_wrongPlace
theorem f_XT_wrongPlace_q : f_XT_wrongPlace = g_XT_wrongPlace := jopq_eq _
theorem f_XT_wrongPlace_s (tn : Int) (tp : Int) (tw : Int) (tf : Int → Int) : f_XT_wrongPlace tn tp tw tf = (
    tw
  : Int) := by rw [f_XT_wrongPlace_q]; rfl
set_option maxHeartbeats 4000000 in
set_option maxRecDepth 100000 in
theorem c_XT_wrongPlace (l : Launch) (dC : Nat → ClassId) (dI : Nat → Nat → Nat) (cA : ClassId) (ta : Nat) (ts : Nat) (tn : Int) (tp : Int) (tw : Int) (tf : Int → Int) : Met l yXT_wrongPlace (Cond.code yXT_wrongPlace cXT_wrongPlace 1 (some .int) :: TBL) ({ frames := 0, cells := 0, slots := 0, locals := 0 } : Room) (va_Pc [.ref ta] (jB (dC, dI) [(cA, .int)] [(ta, .inr (3, [.ref ts, .int (jI tn), .int (jI tp), .int (jI tw)])), (ts, .inl (cA, 400, .inl (jA tf)))])) (vp_Si (fun r => r = jI (f_XT_wrongPlace tn tp tw tf))) 0 0 (fun _ => False) := by
  refine jMet (cc := cXT_wrongPlace) (maxL := 1) (ret := some .int) (by decide) rfl ?_
  intro p e s m args below meth c s₁ R Q hR hQ B hml hv
  obtain ⟨rfl, hP, hK, hN⟩ := hv
  have hx := B.exec
  have hb := B.bytes
  have hr := B.returns
  have hts := atoms_spec (ws := Cond.code yXT_wrongPlace cXT_wrongPlace 1 (some .int) :: TBL) B.pre
  have hown : s.vm.findClass RXT = some m.cls := findClass_of_methodNamed B.named
  have hlocks := B.notSynchronized
  have hP : va_P (dC, dI) vwCl [(ta, .inr (3, [.ref ts, .int (jI tn), .int (jI tp), .int (jI tw)])), (ts, .inl (cA, 400, .inl (jA tf)))] s.heap := hP
  have hl := lv_entry ([.ref ta]) (n := 1) (Nat.le_of_ble_eq_true rfl)
  rw [lg_entry_eq]
  generalize (lg_sl ([.ref ta]) ++ List.replicate (1 - (lg_sl ([.ref ta])).length) Slot.unset).toArray = ls at hl ⊢
  have hl : lv_has ls 1 [(0, .ref ta)] := hl
  refine lv_aload_n hx hb dXT_wrongPlace_0 rfl (lv_at hl 0 rfl) ?_
  refine va_get (D := (dC, dI)) (ci := 3) (v := .int (jI tw)) (C := RXT) (T := TXT) (N := 4) hx hb hts (fun w h => jmem (inXT w h)) hown hK hP 0 rfl rfl 3 (by decide) (hts _ (jmem tw_33)) (fun _ h9 => h9) rfl dXT_wrongPlace_1 ?_
  subst hQ
  exact W.iret (v := jI tw) hx hb hr (fun t ht hW => ⟨_, rfl, congrArg jI (Eq.trans (by rw [f_XT_wrongPlace_s]; try rfl) rfl), ht⟩) (fun _ h => nomatch h) dXT_wrongPlace_4
noncomputable def g_XT_refuse (tn : Int) (tp : Int) (tw : Int) (tf : Int → Int) : Int × Int :=
  (0, tp)
noncomputable def f_XT_refuse : Int → Int → Int → (Int → Int) → Int × Int := jopq g_XT_refuse
theorem f_XT_refuse_q : f_XT_refuse = g_XT_refuse := jopq_eq _
theorem f_XT_refuse_s (tn : Int) (tp : Int) (tw : Int) (tf : Int → Int) : f_XT_refuse tn tp tw tf = (
    (0, tp)
  : Int × Int) := by rw [f_XT_refuse_q]; rfl
theorem f_XT_refuse_b (tn tp tw : Int) (tf : Int → Int) : (f_XT_refuse tn tp tw tf).1 = 0 := by rw [f_XT_refuse_s]
set_option maxHeartbeats 4000000 in
set_option maxRecDepth 100000 in
theorem c_XT_refuse (l : Launch) (dC : Nat → ClassId) (dI : Nat → Nat → Nat) (cA : ClassId) (sz : Nat) (ta : Nat) (ts : Nat) (tn : Int) (tp : Int) (tw : Int) (tf : Int → Int) : Met l yXT_refuse (Cond.code yXT_refuse cXT_refuse 1 (some .boolean) :: TBL) ({ frames := 0, cells := 0, slots := 0, locals := 0 } : Room) (va_Pc [.ref ta] (jBw (dC, dI) [(cA, .int)] [(ta, .inr (3, [.ref ts, .int (jI tn), .int (jI tp), .int (jI tw)])), (ts, .inl (cA, 400, .inl (jA tf)))] sz)) (va_Qi (fun (r : Int32) (u : Int × Int) => r = jI u.1 ∧ u = f_XT_refuse tn tp tw tf) (fun u t => jE (dC, dI) [(cA, .int)] [(ta, .inr (3, [.ref ts, .int (jI tn), .int (jI tp), .int (jI tw)])), (ts, .inl (cA, 400, .inl (jA tf)))] sz [(ta, .inr (3, [.ref ts, .int (jI tn), .int (jI tp), .int (jI u.2)])), (ts, .inl (cA, 400, .inl (jA tf)))] t) (va_A [(ta, .inr (3, [.ref ts, .int (jI tn), .int (jI tp), .int (jI tw)])), (ts, .inl (cA, 400, .inl (jA tf)))] sz)) 0 0 (va_A [(ta, .inr (3, [.ref ts, .int (jI tn), .int (jI tp), .int (jI tw)])), (ts, .inl (cA, 400, .inl (jA tf)))] sz) := by
  refine jMet (cc := cXT_refuse) (maxL := 1) (ret := some .boolean) (by decide) rfl ?_
  intro p e s m args below meth c s₁ R Q hR hQ B hml hv
  obtain ⟨rfl, hsz, hP, hK, hD0, hN⟩ := hv
  have hx := B.exec
  have hb := B.bytes
  have hr := B.returns
  have hts := atoms_spec (ws := Cond.code yXT_refuse cXT_refuse 1 (some .boolean) :: TBL) B.pre
  have hown : s.vm.findClass RXT = some m.cls := findClass_of_methodNamed B.named
  have hlocks := B.notSynchronized
  subst hsz
  obtain ⟨A, hAe⟩ : ∃ A, A = va_A [(ta, .inr (3, [.ref ts, .int (jI tn), .int (jI tp), .int (jI tw)])), (ts, .inl (cA, 400, .inl (jA tf)))] s.heap.size := ⟨_, rfl⟩
  have hD : va_D A [(ta, .inr (3, [.ref ts, .int (jI tn), .int (jI tp), .int (jI tw)])), (ts, .inl (cA, 400, .inl (jA tf)))] := by rw [hAe]; exact hD0.self
  have hA : ∀ q : Nat, s.heap.size ≤ q → A q := fun q h => by rw [hAe]; exact Or.inr h
  have hS : va_S A s.heap s.heap [] := va_S.rf
  have hP : va_P (dC, dI) vwCl [(ta, .inr (3, [.ref ts, .int (jI tn), .int (jI tp), .int (jI tw)])), (ts, .inl (cA, 400, .inl (jA tf)))] s.heap := hP
  have hl := lv_entry ([.ref ta]) (n := 1) (Nat.le_of_ble_eq_true rfl)
  rw [lg_entry_eq]
  generalize (lg_sl ([.ref ta]) ++ List.replicate (1 - (lg_sl ([.ref ta])).length) Slot.unset).toArray = ls at hl ⊢
  have hl : lv_has ls 1 [(0, .ref ta)] := hl
  refine lv_aload_n hx hb dXT_refuse_0 rfl (lv_at hl 0 rfl) ?_
  refine lv_aload_n hx hb dXT_refuse_1 rfl (lv_at hl 0 rfl) ?_
  refine va_get (D := (dC, dI)) (ci := 3) (v := .int (jI tp)) (C := RXT) (T := TXT) (N := 4) hx hb hts (fun w h => jmem (inXT w h)) hown hK hP 0 rfl rfl 2 (by decide) (hts _ (jmem tw_32)) (fun _ h9 => h9) rfl dXT_refuse_2 ?_
  refine va_put (D := (dC, dI)) (ci := 3) (v := .int (jI tp)) (ty := (.int)) (C := RXT) (T := TXT) (N := 4) hx hb hts (fun w h => jmem (inXT w h)) tyXT tyXT_ok nXT hown hK hP hD hS 0 rfl rfl 3 (by decide) (hts _ (jmem tw_33)) (fun _ h9 => h9) rfl (by decide +kernel) rfl rfl (Nat.le_of_ble_eq_true rfl) dXT_refuse_5 (fun H locs hP hD hS => ?_)
  have hP : va_P (dC, dI) vwCl [(ta, .inr (3, [.ref ts, .int (jI tn), .int (jI tp), .int (jI tp)])), (ts, .inl (cA, 400, .inl (jA tf)))] H := hP
  have hD : va_D A [(ta, .inr (3, [.ref ts, .int (jI tn), .int (jI tp), .int (jI tp)])), (ts, .inl (cA, 400, .inl (jA tf)))] := hD
  refine ji_iconst hx hb dXT_refuse_8 ?_
  have hP9 := hP.sub (ws' := [(ta, .inr (3, [.ref ts, .int (jI tn), .int (jI tp), .int (jI tp)])), (ts, .inl (cA, 400, .inl (jA tf)))]) [0, 1] rfl
  have hD9 := hD.sub (ws' := [(ta, .inr (3, [.ref ts, .int (jI tn), .int (jI tp), .int (jI tp)])), (ts, .inl (cA, 400, .inl (jA tf)))]) [0, 1] (by decide) rfl
  subst hAe
  subst hQ
  exact W.zret (v := jI 0) hx hb hr (by first | decide | exact jz (by omega)) (fun t ht hW => ⟨⟨_, (0, tp), rfl, ⟨rfl, Eq.trans (by rw [f_XT_refuse_s]; try rfl) rfl⟩, ⟨by rw [ht]; exact hP9, va_K.moved hW.alike hK, hD9⟩⟩, hS.F ht⟩) hS.2.2 dXT_refuse_9
noncomputable def g_XT_refuseLast (tn : Int) (tp : Int) (tw : Int) (tf : Int → Int) : Int × Int :=
  (0, tp - 1)
noncomputable def f_XT_refuseLast : Int → Int → Int → (Int → Int) → Int × Int := jopq g_XT_refuseLast
theorem f_XT_refuseLast_q : f_XT_refuseLast = g_XT_refuseLast := jopq_eq _
theorem f_XT_refuseLast_s (tn : Int) (tp : Int) (tw : Int) (tf : Int → Int) : f_XT_refuseLast tn tp tw tf = (
    (0, tp - 1)
  : Int × Int) := by rw [f_XT_refuseLast_q]; rfl
theorem f_XT_refuseLast_b (tn tp tw : Int) (tf : Int → Int) : (f_XT_refuseLast tn tp tw tf).1 = 0 := by rw [f_XT_refuseLast_s]
set_option maxHeartbeats 4000000 in
set_option maxRecDepth 100000 in
theorem c_XT_refuseLast (l : Launch) (dC : Nat → ClassId) (dI : Nat → Nat → Nat) (cA : ClassId) (sz : Nat) (ta : Nat) (ts : Nat) (tn : Int) (tp : Int) (tw : Int) (tf : Int → Int) : Met l yXT_refuseLast (Cond.code yXT_refuseLast cXT_refuseLast 1 (some .boolean) :: TBL) ({ frames := 0, cells := 0, slots := 0, locals := 0 } : Room) (va_Pc [.ref ta] (jBw (dC, dI) [(cA, .int)] [(ta, .inr (3, [.ref ts, .int (jI tn), .int (jI tp), .int (jI tw)])), (ts, .inl (cA, 400, .inl (jA tf)))] sz)) (va_Qi (fun (r : Int32) (u : Int × Int) => r = jI u.1 ∧ u = f_XT_refuseLast tn tp tw tf) (fun u t => jE (dC, dI) [(cA, .int)] [(ta, .inr (3, [.ref ts, .int (jI tn), .int (jI tp), .int (jI tw)])), (ts, .inl (cA, 400, .inl (jA tf)))] sz [(ta, .inr (3, [.ref ts, .int (jI tn), .int (jI tp), .int (jI u.2)])), (ts, .inl (cA, 400, .inl (jA tf)))] t) (va_A [(ta, .inr (3, [.ref ts, .int (jI tn), .int (jI tp), .int (jI tw)])), (ts, .inl (cA, 400, .inl (jA tf)))] sz)) 0 0 (va_A [(ta, .inr (3, [.ref ts, .int (jI tn), .int (jI tp), .int (jI tw)])), (ts, .inl (cA, 400, .inl (jA tf)))] sz) := by
  refine jMet (cc := cXT_refuseLast) (maxL := 1) (ret := some .boolean) (by decide) rfl ?_
  intro p e s m args below meth c s₁ R Q hR hQ B hml hv
  obtain ⟨rfl, hsz, hP, hK, hD0, hN⟩ := hv
  have hx := B.exec
  have hb := B.bytes
  have hr := B.returns
  have hts := atoms_spec (ws := Cond.code yXT_refuseLast cXT_refuseLast 1 (some .boolean) :: TBL) B.pre
  have hown : s.vm.findClass RXT = some m.cls := findClass_of_methodNamed B.named
  have hlocks := B.notSynchronized
  subst hsz
  obtain ⟨A, hAe⟩ : ∃ A, A = va_A [(ta, .inr (3, [.ref ts, .int (jI tn), .int (jI tp), .int (jI tw)])), (ts, .inl (cA, 400, .inl (jA tf)))] s.heap.size := ⟨_, rfl⟩
  have hD : va_D A [(ta, .inr (3, [.ref ts, .int (jI tn), .int (jI tp), .int (jI tw)])), (ts, .inl (cA, 400, .inl (jA tf)))] := by rw [hAe]; exact hD0.self
  have hA : ∀ q : Nat, s.heap.size ≤ q → A q := fun q h => by rw [hAe]; exact Or.inr h
  have hS : va_S A s.heap s.heap [] := va_S.rf
  have hP : va_P (dC, dI) vwCl [(ta, .inr (3, [.ref ts, .int (jI tn), .int (jI tp), .int (jI tw)])), (ts, .inl (cA, 400, .inl (jA tf)))] s.heap := hP
  have hl := lv_entry ([.ref ta]) (n := 1) (Nat.le_of_ble_eq_true rfl)
  rw [lg_entry_eq]
  generalize (lg_sl ([.ref ta]) ++ List.replicate (1 - (lg_sl ([.ref ta])).length) Slot.unset).toArray = ls at hl ⊢
  have hl : lv_has ls 1 [(0, .ref ta)] := hl
  refine lv_aload_n hx hb dXT_refuseLast_0 rfl (lv_at hl 0 rfl) ?_
  refine lv_aload_n hx hb dXT_refuseLast_1 rfl (lv_at hl 0 rfl) ?_
  refine va_get (D := (dC, dI)) (ci := 3) (v := .int (jI tp)) (C := RXT) (T := TXT) (N := 4) hx hb hts (fun w h => jmem (inXT w h)) hown hK hP 0 rfl rfl 2 (by decide) (hts _ (jmem tw_32)) (fun _ h9 => h9) rfl dXT_refuseLast_2 ?_
  refine ji_iconst hx hb dXT_refuseLast_5 ?_
  refine ji_isub hx hb dXT_refuseLast_6 ?_
  refine va_put (D := (dC, dI)) (ci := 3) (v := .int (jI (tp - 1))) (ty := (.int)) (C := RXT) (T := TXT) (N := 4) hx hb hts (fun w h => jmem (inXT w h)) tyXT tyXT_ok nXT hown hK hP hD hS 0 rfl rfl 3 (by decide) (hts _ (jmem tw_33)) (fun _ h9 => h9) rfl (by decide +kernel) rfl rfl (Nat.le_of_ble_eq_true rfl) dXT_refuseLast_7 (fun H locs hP hD hS => ?_)
  have hP : va_P (dC, dI) vwCl [(ta, .inr (3, [.ref ts, .int (jI tn), .int (jI tp), .int (jI (tp - 1))])), (ts, .inl (cA, 400, .inl (jA tf)))] H := hP
  have hD : va_D A [(ta, .inr (3, [.ref ts, .int (jI tn), .int (jI tp), .int (jI (tp - 1))])), (ts, .inl (cA, 400, .inl (jA tf)))] := hD
  refine ji_iconst hx hb dXT_refuseLast_10 ?_
  have hP9 := hP.sub (ws' := [(ta, .inr (3, [.ref ts, .int (jI tn), .int (jI tp), .int (jI (tp - 1))])), (ts, .inl (cA, 400, .inl (jA tf)))]) [0, 1] rfl
  have hD9 := hD.sub (ws' := [(ta, .inr (3, [.ref ts, .int (jI tn), .int (jI tp), .int (jI (tp - 1))])), (ts, .inl (cA, 400, .inl (jA tf)))]) [0, 1] (by decide) rfl
  subst hAe
  subst hQ
  exact W.zret (v := jI 0) hx hb hr (by first | decide | exact jz (by omega)) (fun t ht hW => ⟨⟨_, (0, tp - 1), rfl, ⟨rfl, Eq.trans (by rw [f_XT_refuseLast_s]; try rfl) rfl⟩, ⟨by rw [ht]; exact hP9, va_K.moved hW.alike hK, hD9⟩⟩, hS.F ht⟩) hS.2.2 dXT_refuseLast_11
noncomputable def g_XT_hasRoom (tn : Int) (tp : Int) (tw : Int) (tf : Int → Int) (zn : Int) : Int :=
  if (400 - tn) < zn then
    0
  else
    1
noncomputable def f_XT_hasRoom : Int → Int → Int → (Int → Int) → Int → Int := jopq g_XT_hasRoom
theorem f_XT_hasRoom_q : f_XT_hasRoom = g_XT_hasRoom := jopq_eq _
theorem f_XT_hasRoom_s (tn : Int) (tp : Int) (tw : Int) (tf : Int → Int) (zn : Int) : f_XT_hasRoom tn tp tw tf zn = (
    if (400 - tn) < zn then
      0
    else
      1
  : Int) := by rw [f_XT_hasRoom_q]; rfl
theorem f_XT_hasRoom_b (tn : Int) (tp : Int) (tw : Int) (tf : Int → Int) (zn : Int) (hn : 0 ≤ tn ∧ tn ≤ 400) (hz : i32 zn) : ((f_XT_hasRoom tn tp tw tf zn) = 1 ∧ tn + zn ≤ 400) ∨ ((f_XT_hasRoom tn tp tw tf zn) = 0 ∧ 400 < tn + zn) := by rw [f_XT_hasRoom_s]; split <;> omega
set_option maxHeartbeats 4000000 in
set_option maxRecDepth 100000 in
theorem c_XT_hasRoom (l : Launch) (dC : Nat → ClassId) (dI : Nat → Nat → Nat) (cA : ClassId) (ta : Nat) (ts : Nat) (tn : Int) (tp : Int) (tw : Int) (tf : Int → Int) (zn : Int) (hn : 0 ≤ tn ∧ tn ≤ 400) (hz : i32 zn) : Met l yXT_hasRoom (Cond.code yXT_hasRoom cXT_hasRoom 2 (some .boolean) :: TBL) ({ frames := 0, cells := 0, slots := 0, locals := 0 } : Room) (va_Pc [.ref ta, .int (jI zn)] (jB (dC, dI) [(cA, .int)] [(ta, .inr (3, [.ref ts, .int (jI tn), .int (jI tp), .int (jI tw)])), (ts, .inl (cA, 400, .inl (jA tf)))])) (vp_Si (fun r => r = jI (f_XT_hasRoom tn tp tw tf zn))) 0 0 (fun _ => False) := by
  refine jMet (cc := cXT_hasRoom) (maxL := 2) (ret := some .boolean) (by decide) rfl ?_
  intro p e s m args below meth c s₁ R Q hR hQ B hml hv
  obtain ⟨rfl, hP, hK, hN⟩ := hv
  have hx := B.exec
  have hb := B.bytes
  have hr := B.returns
  have hts := atoms_spec (ws := Cond.code yXT_hasRoom cXT_hasRoom 2 (some .boolean) :: TBL) B.pre
  have hown : s.vm.findClass RXT = some m.cls := findClass_of_methodNamed B.named
  have hlocks := B.notSynchronized
  have hP : va_P (dC, dI) vwCl [(ta, .inr (3, [.ref ts, .int (jI tn), .int (jI tp), .int (jI tw)])), (ts, .inl (cA, 400, .inl (jA tf)))] s.heap := hP
  have hl := lv_entry ([.ref ta, .int (jI zn)]) (n := 2) (Nat.le_of_ble_eq_true rfl)
  rw [lg_entry_eq]
  generalize (lg_sl ([.ref ta, .int (jI zn)]) ++ List.replicate (2 - (lg_sl ([.ref ta, .int (jI zn)])).length) Slot.unset).toArray = ls at hl ⊢
  have hl : lv_has ls 2 [(0, .ref ta), (1, .int (jI zn))] := hl
  refine lv_iload_n hx hb dXT_hasRoom_0 rfl (lv_at hl 1 rfl) ?_
  refine ji_sipush hx hb dXT_hasRoom_1 (by decide) ?_
  refine lv_aload_n hx hb dXT_hasRoom_4 rfl (lv_at hl 0 rfl) ?_
  refine va_get (D := (dC, dI)) (ci := 3) (v := .int (jI tn)) (C := RXT) (T := TXT) (N := 4) hx hb hts (fun w h => jmem (inXT w h)) hown hK hP 0 rfl rfl 1 (by decide) (hts _ (jmem tw_31)) (fun _ h9 => h9) rfl dXT_hasRoom_5 ?_
  refine ji_isub hx hb dXT_hasRoom_8 ?_
  refine ji_icmp_gt (tgt := 16) hx hb dXT_hasRoom_9 (by decide) (by omega) (by omega) (fun c9_ => ?_) (fun c9_ => ?_)
  · refine ji_iconst hx hb dXT_hasRoom_16 ?_
    subst hQ
    exact W.zret (v := jI 0) hx hb hr (by first | decide | exact jz (by omega)) (fun t ht hW => ⟨_, rfl, congrArg jI (Eq.trans (by rw [f_XT_hasRoom_s]; rw [if_pos c9_]; try rfl) rfl), ht⟩) (fun _ h => nomatch h) dXT_hasRoom_17
  · refine ji_iconst hx hb dXT_hasRoom_12 ?_
    refine lv_goto (tgt := 17) hx hb dXT_hasRoom_13 (by decide) ?_
    subst hQ
    exact W.zret (v := jI 1) hx hb hr (by first | decide | exact jz (by omega)) (fun t ht hW => ⟨_, rfl, congrArg jI (Eq.trans (by rw [f_XT_hasRoom_s]; rw [if_neg (Int.not_lt.mpr c9_)]; try rfl) rfl), ht⟩) (fun _ h => nomatch h) dXT_hasRoom_17
noncomputable def g_XT_here (tn : Int) (tp : Int) (tw : Int) (tf : Int → Int) : Int :=
  if tp < tn then
    tf tp
  else
    -1
noncomputable def f_XT_here : Int → Int → Int → (Int → Int) → Int := jopq g_XT_here
theorem f_XT_here_q : f_XT_here = g_XT_here := jopq_eq _
theorem f_XT_here_s (tn : Int) (tp : Int) (tw : Int) (tf : Int → Int) : f_XT_here tn tp tw tf = (
    if tp < tn then
      tf tp
    else
      -1
  : Int) := by rw [f_XT_here_q]; rfl
theorem f_XT_here_b (tn tp tw : Int) (tf : Int → Int) (hn : 0 ≤ tn ∧ tn ≤ 400) (hp : 0 ≤ tp ∧ tp ≤ tn) (hf : ∀ i, 0 ≤ tf i ∧ tf i < 256) : -1 ≤ f_XT_here tn tp tw tf ∧ f_XT_here tn tp tw tf < 256 ∧ (0 ≤ f_XT_here tn tp tw tf → tp < tn) := by have := hf tp; rw [f_XT_here_s]; split <;> omega
set_option maxHeartbeats 4000000 in
set_option maxRecDepth 100000 in
theorem c_XT_here (l : Launch) (dC : Nat → ClassId) (dI : Nat → Nat → Nat) (cA : ClassId) (ta : Nat) (ts : Nat) (tn : Int) (tp : Int) (tw : Int) (tf : Int → Int) (hn : 0 ≤ tn ∧ tn ≤ 400) (hp : 0 ≤ tp ∧ tp ≤ tn) (hf : ∀ i, 0 ≤ tf i ∧ tf i < 256) : Met l yXT_here (Cond.code yXT_here cXT_here 1 (some .int) :: TBL) ({ frames := 0, cells := 0, slots := 0, locals := 0 } : Room) (va_Pc [.ref ta] (jB (dC, dI) [(cA, .int)] [(ta, .inr (3, [.ref ts, .int (jI tn), .int (jI tp), .int (jI tw)])), (ts, .inl (cA, 400, .inl (jA tf)))])) (vp_Si (fun r => r = jI (f_XT_here tn tp tw tf))) 0 0 (fun _ => False) := by
  refine jMet (cc := cXT_here) (maxL := 1) (ret := some .int) (by decide) rfl ?_
  intro p e s m args below meth c s₁ R Q hR hQ B hml hv
  obtain ⟨rfl, hP, hK, hN⟩ := hv
  have hx := B.exec
  have hb := B.bytes
  have hr := B.returns
  have hts := atoms_spec (ws := Cond.code yXT_here cXT_here 1 (some .int) :: TBL) B.pre
  have hown : s.vm.findClass RXT = some m.cls := findClass_of_methodNamed B.named
  have hlocks := B.notSynchronized
  have hP : va_P (dC, dI) vwCl [(ta, .inr (3, [.ref ts, .int (jI tn), .int (jI tp), .int (jI tw)])), (ts, .inl (cA, 400, .inl (jA tf)))] s.heap := hP
  have hl := lv_entry ([.ref ta]) (n := 1) (Nat.le_of_ble_eq_true rfl)
  rw [lg_entry_eq]
  generalize (lg_sl ([.ref ta]) ++ List.replicate (1 - (lg_sl ([.ref ta])).length) Slot.unset).toArray = ls at hl ⊢
  have hl : lv_has ls 1 [(0, .ref ta)] := hl
  refine lv_aload_n hx hb dXT_here_0 rfl (lv_at hl 0 rfl) ?_
  refine va_get (D := (dC, dI)) (ci := 3) (v := .int (jI tp)) (C := RXT) (T := TXT) (N := 4) hx hb hts (fun w h => jmem (inXT w h)) hown hK hP 0 rfl rfl 2 (by decide) (hts _ (jmem tw_32)) (fun _ h9 => h9) rfl dXT_here_1 ?_
  refine lv_aload_n hx hb dXT_here_4 rfl (lv_at hl 0 rfl) ?_
  refine va_get (D := (dC, dI)) (ci := 3) (v := .int (jI tn)) (C := RXT) (T := TXT) (N := 4) hx hb hts (fun w h => jmem (inXT w h)) hown hK hP 0 rfl rfl 1 (by decide) (hts _ (jmem tw_31)) (fun _ h9 => h9) rfl dXT_here_5 ?_
  refine ji_icmp_ge (tgt := 23) hx hb dXT_here_8 (by decide) (by omega) (by omega) (fun c8_ => ?_) (fun c8_ => ?_)
  · refine ji_iconst hx hb dXT_here_23 ?_
    subst hQ
    exact W.iret (v := jI (-1)) hx hb hr (fun t ht hW => ⟨_, rfl, congrArg jI (Eq.trans (by rw [f_XT_here_s]; rw [if_neg (Int.not_lt.mpr c8_)]; try rfl) rfl), ht⟩) (fun _ h => nomatch h) dXT_here_24
  · refine lv_aload_n hx hb dXT_here_11 rfl (lv_at hl 0 rfl) ?_
    refine va_get (D := (dC, dI)) (ci := 3) (v := .ref ts) (C := RXT) (T := TXT) (N := 4) hx hb hts (fun w h => jmem (inXT w h)) hown hK hP 0 rfl rfl 0 (by decide) (hts _ (jmem tw_30)) (fun _ h9 => h9) rfl dXT_here_12 ?_
    refine lv_aload_n hx hb dXT_here_15 rfl (lv_at hl 0 rfl) ?_
    refine va_get (D := (dC, dI)) (ci := 3) (v := .int (jI tp)) (C := RXT) (T := TXT) (N := 4) hx hb hts (fun w h => jmem (inXT w h)) hown hK hP 0 rfl rfl 2 (by decide) (hts _ (jmem tw_32)) (fun _ h9 => h9) rfl dXT_here_16 ?_
    refine ji_iald hx hb hK hP 1 0 rfl rfl ⟨by omega, by omega⟩ (by decide) dXT_here_19 ?_
    have rb := hf tp
    refine lv_goto (tgt := 24) hx hb dXT_here_20 (by decide) ?_
    subst hQ
    exact W.iret (v := jI (tf tp)) hx hb hr (fun t ht hW => ⟨_, rfl, congrArg jI (Eq.trans (by rw [f_XT_here_s]; rw [if_pos c8_]; try rfl) rfl), ht⟩) (fun _ h => nomatch h) dXT_here_24
noncomputable def g_XT_next_L0 (tn : Int) (tp : Int) (tw : Int) (tf : Int → Int) : Nat → Int → Int × Int
  | 0, _ => (0, 0)
  | n9 + 1, q =>
    if q < tn then
      if (tf q) = 32 then
        g_XT_next_L0 tn tp tw tf n9 (q + 1)
      else
        if q < tn then
          (tf q, q)
        else
          (-1, q)
    else
      if q < tn then
        (tf q, q)
      else
        (-1, q)
noncomputable def f_XT_next_L0 : Int → Int → Int → (Int → Int) → Nat → Int → Int × Int := jopq g_XT_next_L0
theorem f_XT_next_L0_q : f_XT_next_L0 = g_XT_next_L0 := jopq_eq _
theorem f_XT_next_L0_s (tn : Int) (tp : Int) (tw : Int) (tf : Int → Int) (n9 : Nat) (q : Int) : f_XT_next_L0 tn tp tw tf (n9 + 1) q = (
    if q < tn then
      if (tf q) = 32 then
        f_XT_next_L0 tn tp tw tf n9 (q + 1)
      else
        if q < tn then
          (tf q, q)
        else
          (-1, q)
    else
      if q < tn then
        (tf q, q)
      else
        (-1, q)
  : Int × Int) := by rw [f_XT_next_L0_q]; rfl
theorem f_XT_next_L0_z (tn : Int) (tp : Int) (tw : Int) (tf : Int → Int) (q : Int) : f_XT_next_L0 tn tp tw tf 0 q = (0, 0) := by rw [f_XT_next_L0_q]; rfl
noncomputable def g_XT_next (tn : Int) (tp : Int) (tw : Int) (tf : Int → Int) : Int × Int :=
  f_XT_next_L0 tn tp tw tf (Int.toNat (tn - tp) + 1) tp
noncomputable def f_XT_next : Int → Int → Int → (Int → Int) → Int × Int := jopq g_XT_next
theorem f_XT_next_q : f_XT_next = g_XT_next := jopq_eq _
theorem f_XT_next_s (tn : Int) (tp : Int) (tw : Int) (tf : Int → Int) : f_XT_next tn tp tw tf = (
    f_XT_next_L0 tn tp tw tf (Int.toNat (tn - tp) + 1) tp
  : Int × Int) := by rw [f_XT_next_q]; rfl
theorem f_XT_next_L_b (tn tp tw : Int) (tf : Int → Int) (hf : ∀ i, 0 ≤ tf i ∧ tf i < 256) : ∀ (n : Nat) (q : Int), tn - q < (n : Int) → 0 ≤ q → q ≤ tn → (q ≤ (f_XT_next_L0 tn tp tw tf n q).2 ∧ (f_XT_next_L0 tn tp tw tf n q).2 ≤ tn ∧ -1 ≤ (f_XT_next_L0 tn tp tw tf n q).1 ∧ (f_XT_next_L0 tn tp tw tf n q).1 < 256 ∧ (0 ≤ (f_XT_next_L0 tn tp tw tf n q).1 → (f_XT_next_L0 tn tp tw tf n q).2 < tn)) := by
  intro n
  induction n with
  | zero => intro q h; omega
  | succ n ih =>
    intro q h h1 h2
    have hq := hf q
    rw [f_XT_next_L0_s]
    split
    · split
      · have := ih (q + 1) (by omega) (by omega) (by omega)
        omega
      · (try split) <;> dsimp only <;> omega
    · (try split) <;> dsimp only <;> omega
theorem f_XT_next_b (tn tp tw : Int) (tf : Int → Int) (hn : 0 ≤ tn ∧ tn ≤ 400) (hp : 0 ≤ tp ∧ tp ≤ tn) (hf : ∀ i, 0 ≤ tf i ∧ tf i < 256) : tp ≤ (f_XT_next tn tp tw tf).2 ∧ (f_XT_next tn tp tw tf).2 ≤ tn ∧ -1 ≤ (f_XT_next tn tp tw tf).1 ∧ (f_XT_next tn tp tw tf).1 < 256 ∧ (0 ≤ (f_XT_next tn tp tw tf).1 → (f_XT_next tn tp tw tf).2 < tn) := by rw [f_XT_next_s]; exact f_XT_next_L_b tn tp tw tf hf _ _ (by omega) (by omega) (by omega)
set_option maxHeartbeats 4000000 in
set_option maxRecDepth 100000 in
theorem c_XT_next (l : Launch) (dC : Nat → ClassId) (dI : Nat → Nat → Nat) (cA : ClassId) (sz : Nat) (ta : Nat) (ts : Nat) (tn : Int) (tp : Int) (tw : Int) (tf : Int → Int) (hn : 0 ≤ tn ∧ tn ≤ 400) (hp : 0 ≤ tp ∧ tp ≤ tn) (hf : ∀ i, 0 ≤ tf i ∧ tf i < 256) : Met l yXT_next (Cond.code yXT_next cXT_next 1 (some .int) :: TBL) ({ frames := 0, cells := 0, slots := 0, locals := 0 } : Room) (va_Pc [.ref ta] (jBw (dC, dI) [(cA, .int)] [(ta, .inr (3, [.ref ts, .int (jI tn), .int (jI tp), .int (jI tw)])), (ts, .inl (cA, 400, .inl (jA tf)))] sz)) (va_Qi (fun (r : Int32) (u : Int × Int) => r = jI u.1 ∧ u = f_XT_next tn tp tw tf) (fun u t => jE (dC, dI) [(cA, .int)] [(ta, .inr (3, [.ref ts, .int (jI tn), .int (jI tp), .int (jI tw)])), (ts, .inl (cA, 400, .inl (jA tf)))] sz [(ta, .inr (3, [.ref ts, .int (jI tn), .int (jI u.2), .int (jI tw)])), (ts, .inl (cA, 400, .inl (jA tf)))] t) (va_A [(ta, .inr (3, [.ref ts, .int (jI tn), .int (jI tp), .int (jI tw)])), (ts, .inl (cA, 400, .inl (jA tf)))] sz)) 0 0 (va_A [(ta, .inr (3, [.ref ts, .int (jI tn), .int (jI tp), .int (jI tw)])), (ts, .inl (cA, 400, .inl (jA tf)))] sz) := by
  refine jMet (cc := cXT_next) (maxL := 1) (ret := some .int) (by decide) rfl ?_
  intro p e s m args below meth c s₁ R Q hR hQ B hml hv
  obtain ⟨rfl, hsz, hP, hK, hD0, hN⟩ := hv
  have hx := B.exec
  have hb := B.bytes
  have hr := B.returns
  have hts := atoms_spec (ws := Cond.code yXT_next cXT_next 1 (some .int) :: TBL) B.pre
  have hown : s.vm.findClass RXT = some m.cls := findClass_of_methodNamed B.named
  have hlocks := B.notSynchronized
  subst hsz
  obtain ⟨A, hAe⟩ : ∃ A, A = va_A [(ta, .inr (3, [.ref ts, .int (jI tn), .int (jI tp), .int (jI tw)])), (ts, .inl (cA, 400, .inl (jA tf)))] s.heap.size := ⟨_, rfl⟩
  have hD : va_D A [(ta, .inr (3, [.ref ts, .int (jI tn), .int (jI tp), .int (jI tw)])), (ts, .inl (cA, 400, .inl (jA tf)))] := by rw [hAe]; exact hD0.self
  have hA : ∀ q : Nat, s.heap.size ≤ q → A q := fun q h => by rw [hAe]; exact Or.inr h
  have hS : va_S A s.heap s.heap [] := va_S.rf
  have hP : va_P (dC, dI) vwCl [(ta, .inr (3, [.ref ts, .int (jI tn), .int (jI tp), .int (jI tw)])), (ts, .inl (cA, 400, .inl (jA tf)))] s.heap := hP
  have hl := lv_entry ([.ref ta]) (n := 1) (Nat.le_of_ble_eq_true rfl)
  rw [lg_entry_eq]
  generalize (lg_sl ([.ref ta]) ++ List.replicate (1 - (lg_sl ([.ref ta])).length) Slot.unset).toArray = ls at hl ⊢
  have hl : lv_has ls 1 [(0, .ref ta)] := hl
  have loop0 : ∀ (n9 : Nat) (q : Int) , tn - q < (n9 : Int) → f_XT_next_L0 tn tp tw tf n9 q = f_XT_next tn tp tw tf → (tp ≤ q ∧ q ≤ tn) → ∀ (H : Heap) (locs : List Loc), va_P (dC, dI) vwCl [(ta, .inr (3, [.ref ts, .int (jI tn), .int (jI q), .int (jI tw)])), (ts, .inl (cA, 400, .inl (jA tf)))] H → va_D A [(ta, .inr (3, [.ref ts, .int (jI tn), .int (jI q), .int (jI tw)])), (ts, .inl (cA, 400, .inl (jA tf)))] → va_S A s.heap H locs → ∀ ls : Array Slot, lv_has ls 1 [(0, .ref ta)] → W p l e R s m ([.ref ta] : List Value).toArray below meth c H locs 0 0 Q (F0 m 0 ls []) := by
    intro n9
    induction n9 with
    | zero =>
      intro q hm hF hq
      exact absurd hm (by omega)
    | succ n9 ih0 =>
      intro q hm hF hq H locs hP hD hS ls hl
      refine lv_aload_n hx hb dXT_next_0 rfl (lv_at hl 0 rfl) ?_
      refine va_get (D := (dC, dI)) (ci := 3) (v := .int (jI q)) (C := RXT) (T := TXT) (N := 4) hx hb hts (fun w h => jmem (inXT w h)) hown hK hP 0 rfl rfl 2 (by decide) (hts _ (jmem tw_32)) (fun _ h9 => h9) rfl dXT_next_1 ?_
      refine lv_aload_n hx hb dXT_next_4 rfl (lv_at hl 0 rfl) ?_
      refine va_get (D := (dC, dI)) (ci := 3) (v := .int (jI tn)) (C := RXT) (T := TXT) (N := 4) hx hb hts (fun w h => jmem (inXT w h)) hown hK hP 0 rfl rfl 1 (by decide) (hts _ (jmem tw_31)) (fun _ h9 => h9) rfl dXT_next_5 ?_
      refine ji_icmp_ge (tgt := 38) hx hb dXT_next_8 (by decide) (by omega) (by omega) (fun c8_ => ?_) (fun c8_ => ?_)
      · refine lv_aload_n hx hb dXT_next_38 rfl (lv_at hl 0 rfl) ?_
        refine va_get (D := (dC, dI)) (ci := 3) (v := .int (jI q)) (C := RXT) (T := TXT) (N := 4) hx hb hts (fun w h => jmem (inXT w h)) hown hK hP 0 rfl rfl 2 (by decide) (hts _ (jmem tw_32)) (fun _ h9 => h9) rfl dXT_next_39 ?_
        refine lv_aload_n hx hb dXT_next_42 rfl (lv_at hl 0 rfl) ?_
        refine va_get (D := (dC, dI)) (ci := 3) (v := .int (jI tn)) (C := RXT) (T := TXT) (N := 4) hx hb hts (fun w h => jmem (inXT w h)) hown hK hP 0 rfl rfl 1 (by decide) (hts _ (jmem tw_31)) (fun _ h9 => h9) rfl dXT_next_43 ?_
        refine ji_icmp_ge (tgt := 61) hx hb dXT_next_46 (by decide) (by omega) (by omega) (fun c46_ => ?_) (fun c46_ => ?_)
        · refine ji_iconst hx hb dXT_next_61 ?_
          have hP9 := hP.sub (ws' := [(ta, .inr (3, [.ref ts, .int (jI tn), .int (jI q), .int (jI tw)])), (ts, .inl (cA, 400, .inl (jA tf)))]) [0, 1] rfl
          have hD9 := hD.sub (ws' := [(ta, .inr (3, [.ref ts, .int (jI tn), .int (jI q), .int (jI tw)])), (ts, .inl (cA, 400, .inl (jA tf)))]) [0, 1] (by decide) rfl
          subst hAe
          subst hQ
          exact W.iret (v := jI (-1)) hx hb hr (fun t ht hW => ⟨⟨_, (-1, q), rfl, ⟨rfl, Eq.trans (by rw [f_XT_next_L0_s]; rw [if_neg (Int.not_lt.mpr c8_), if_neg (Int.not_lt.mpr c46_)]; try rfl) hF⟩, ⟨by rw [ht]; exact hP9, va_K.moved hW.alike hK, hD9⟩⟩, hS.F ht⟩) hS.2.2 dXT_next_62
        · refine lv_aload_n hx hb dXT_next_49 rfl (lv_at hl 0 rfl) ?_
          refine va_get (D := (dC, dI)) (ci := 3) (v := .ref ts) (C := RXT) (T := TXT) (N := 4) hx hb hts (fun w h => jmem (inXT w h)) hown hK hP 0 rfl rfl 0 (by decide) (hts _ (jmem tw_30)) (fun _ h9 => h9) rfl dXT_next_50 ?_
          refine lv_aload_n hx hb dXT_next_53 rfl (lv_at hl 0 rfl) ?_
          refine va_get (D := (dC, dI)) (ci := 3) (v := .int (jI q)) (C := RXT) (T := TXT) (N := 4) hx hb hts (fun w h => jmem (inXT w h)) hown hK hP 0 rfl rfl 2 (by decide) (hts _ (jmem tw_32)) (fun _ h9 => h9) rfl dXT_next_54 ?_
          refine ji_iald hx hb hK hP 1 0 rfl rfl ⟨by omega, by omega⟩ (by decide) dXT_next_57 ?_
          have rb := hf q
          refine lv_goto (tgt := 62) hx hb dXT_next_58 (by decide) ?_
          have hP9 := hP.sub (ws' := [(ta, .inr (3, [.ref ts, .int (jI tn), .int (jI q), .int (jI tw)])), (ts, .inl (cA, 400, .inl (jA tf)))]) [0, 1] rfl
          have hD9 := hD.sub (ws' := [(ta, .inr (3, [.ref ts, .int (jI tn), .int (jI q), .int (jI tw)])), (ts, .inl (cA, 400, .inl (jA tf)))]) [0, 1] (by decide) rfl
          subst hAe
          subst hQ
          exact W.iret (v := jI (tf q)) hx hb hr (fun t ht hW => ⟨⟨_, (tf q, q), rfl, ⟨rfl, Eq.trans (by rw [f_XT_next_L0_s]; rw [if_neg (Int.not_lt.mpr c8_), if_pos c46_]; try rfl) hF⟩, ⟨by rw [ht]; exact hP9, va_K.moved hW.alike hK, hD9⟩⟩, hS.F ht⟩) hS.2.2 dXT_next_62
      · refine lv_aload_n hx hb dXT_next_11 rfl (lv_at hl 0 rfl) ?_
        refine va_get (D := (dC, dI)) (ci := 3) (v := .ref ts) (C := RXT) (T := TXT) (N := 4) hx hb hts (fun w h => jmem (inXT w h)) hown hK hP 0 rfl rfl 0 (by decide) (hts _ (jmem tw_30)) (fun _ h9 => h9) rfl dXT_next_12 ?_
        refine lv_aload_n hx hb dXT_next_15 rfl (lv_at hl 0 rfl) ?_
        refine va_get (D := (dC, dI)) (ci := 3) (v := .int (jI q)) (C := RXT) (T := TXT) (N := 4) hx hb hts (fun w h => jmem (inXT w h)) hown hK hP 0 rfl rfl 2 (by decide) (hts _ (jmem tw_32)) (fun _ h9 => h9) rfl dXT_next_16 ?_
        refine ji_iald hx hb hK hP 1 0 rfl rfl ⟨by omega, by omega⟩ (by decide) dXT_next_19 ?_
        have rb1 := hf q
        refine ji_bipush hx hb dXT_next_20 (by decide) ?_
        refine ji_icmp_ne (tgt := 38) hx hb dXT_next_22 (by decide) (by omega) (by omega) (fun c22_ => ?_) (fun c22_ => ?_)
        · refine lv_aload_n hx hb dXT_next_38 rfl (lv_at hl 0 rfl) ?_
          refine va_get (D := (dC, dI)) (ci := 3) (v := .int (jI q)) (C := RXT) (T := TXT) (N := 4) hx hb hts (fun w h => jmem (inXT w h)) hown hK hP 0 rfl rfl 2 (by decide) (hts _ (jmem tw_32)) (fun _ h9 => h9) rfl dXT_next_39 ?_
          refine lv_aload_n hx hb dXT_next_42 rfl (lv_at hl 0 rfl) ?_
          refine va_get (D := (dC, dI)) (ci := 3) (v := .int (jI tn)) (C := RXT) (T := TXT) (N := 4) hx hb hts (fun w h => jmem (inXT w h)) hown hK hP 0 rfl rfl 1 (by decide) (hts _ (jmem tw_31)) (fun _ h9 => h9) rfl dXT_next_43 ?_
          refine ji_icmp_ge (tgt := 61) hx hb dXT_next_46 (by decide) (by omega) (by omega) (fun c46_2 => ?_) (fun c46_2 => ?_)
          · refine ji_iconst hx hb dXT_next_61 ?_
            have hP9 := hP.sub (ws' := [(ta, .inr (3, [.ref ts, .int (jI tn), .int (jI q), .int (jI tw)])), (ts, .inl (cA, 400, .inl (jA tf)))]) [0, 1] rfl
            have hD9 := hD.sub (ws' := [(ta, .inr (3, [.ref ts, .int (jI tn), .int (jI q), .int (jI tw)])), (ts, .inl (cA, 400, .inl (jA tf)))]) [0, 1] (by decide) rfl
            subst hAe
            subst hQ
            exact W.iret (v := jI (-1)) hx hb hr (fun t ht hW => ⟨⟨_, (-1, q), rfl, ⟨rfl, Eq.trans (by rw [f_XT_next_L0_s]; rw [if_pos c8_, if_neg c22_, if_neg (Int.not_lt.mpr c46_2)]; try rfl) hF⟩, ⟨by rw [ht]; exact hP9, va_K.moved hW.alike hK, hD9⟩⟩, hS.F ht⟩) hS.2.2 dXT_next_62
          · refine lv_aload_n hx hb dXT_next_49 rfl (lv_at hl 0 rfl) ?_
            refine va_get (D := (dC, dI)) (ci := 3) (v := .ref ts) (C := RXT) (T := TXT) (N := 4) hx hb hts (fun w h => jmem (inXT w h)) hown hK hP 0 rfl rfl 0 (by decide) (hts _ (jmem tw_30)) (fun _ h9 => h9) rfl dXT_next_50 ?_
            refine lv_aload_n hx hb dXT_next_53 rfl (lv_at hl 0 rfl) ?_
            refine va_get (D := (dC, dI)) (ci := 3) (v := .int (jI q)) (C := RXT) (T := TXT) (N := 4) hx hb hts (fun w h => jmem (inXT w h)) hown hK hP 0 rfl rfl 2 (by decide) (hts _ (jmem tw_32)) (fun _ h9 => h9) rfl dXT_next_54 ?_
            refine ji_iald hx hb hK hP 1 0 rfl rfl ⟨by omega, by omega⟩ (by decide) dXT_next_57 ?_
            have rb3 := hf q
            refine lv_goto (tgt := 62) hx hb dXT_next_58 (by decide) ?_
            have hP9 := hP.sub (ws' := [(ta, .inr (3, [.ref ts, .int (jI tn), .int (jI q), .int (jI tw)])), (ts, .inl (cA, 400, .inl (jA tf)))]) [0, 1] rfl
            have hD9 := hD.sub (ws' := [(ta, .inr (3, [.ref ts, .int (jI tn), .int (jI q), .int (jI tw)])), (ts, .inl (cA, 400, .inl (jA tf)))]) [0, 1] (by decide) rfl
            subst hAe
            subst hQ
            exact W.iret (v := jI (tf q)) hx hb hr (fun t ht hW => ⟨⟨_, (tf q, q), rfl, ⟨rfl, Eq.trans (by rw [f_XT_next_L0_s]; rw [if_pos c8_, if_neg c22_, if_pos c46_2]; try rfl) hF⟩, ⟨by rw [ht]; exact hP9, va_K.moved hW.alike hK, hD9⟩⟩, hS.F ht⟩) hS.2.2 dXT_next_62
        · refine lv_aload_n hx hb dXT_next_25 rfl (lv_at hl 0 rfl) ?_
          refine lv_dup hx hb dXT_next_26 rfl ?_
          refine va_get (D := (dC, dI)) (ci := 3) (v := .int (jI q)) (C := RXT) (T := TXT) (N := 4) hx hb hts (fun w h => jmem (inXT w h)) hown hK hP 0 rfl rfl 2 (by decide) (hts _ (jmem tw_32)) (fun _ h9 => h9) rfl dXT_next_27 ?_
          refine ji_iconst hx hb dXT_next_30 ?_
          refine ji_iadd hx hb dXT_next_31 ?_
          refine va_put (D := (dC, dI)) (ci := 3) (v := .int (jI (q + 1))) (ty := (.int)) (C := RXT) (T := TXT) (N := 4) hx hb hts (fun w h => jmem (inXT w h)) tyXT tyXT_ok nXT hown hK hP hD hS 0 rfl rfl 2 (by decide) (hts _ (jmem tw_32)) (fun _ h9 => h9) rfl (by decide +kernel) rfl rfl (Nat.le_of_ble_eq_true rfl) dXT_next_32 (fun H locs hP hD hS => ?_)
          have hP : va_P (dC, dI) vwCl [(ta, .inr (3, [.ref ts, .int (jI tn), .int (jI (q + 1)), .int (jI tw)])), (ts, .inl (cA, 400, .inl (jA tf)))] H := hP
          have hD : va_D A [(ta, .inr (3, [.ref ts, .int (jI tn), .int (jI (q + 1)), .int (jI tw)])), (ts, .inl (cA, 400, .inl (jA tf)))] := hD
          refine lv_goto (tgt := 0) hx hb dXT_next_35 (by decide) ?_
          exact ih0 (q + 1) (by omega) (Eq.trans (by rw [f_XT_next_L0_s]; rw [if_pos c8_, if_pos c22_]; try rfl) hF) (by first | assumption | omega) _ _ hP hD hS ls (lv_sub hl [0] rfl)
  exact loop0 (Int.toNat (tn - tp) + 1) tp (by omega) (Eq.trans (by rw [f_XT_next_s]; try rfl) rfl) (by first | assumption | omega) _ _ hP hD hS ls (lv_sub hl [0] rfl)
