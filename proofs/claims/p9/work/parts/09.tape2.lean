noncomputable def g_XT_skipIf (tn : Int) (tp : Int) (tw : Int) (tf : Int → Int) (zs : Int) : Int × Int :=
  match f_XT_next tn tp tw tf with
  | (r, tp1') =>
    if r = zs then
      (1, tp1' + 1)
    else
      (0, tp1')
noncomputable def f_XT_skipIf : Int → Int → Int → (Int → Int) → Int → Int × Int := jopq g_XT_skipIf
theorem f_XT_skipIf_q : f_XT_skipIf = g_XT_skipIf := jopq_eq _
theorem f_XT_skipIf_s (tn : Int) (tp : Int) (tw : Int) (tf : Int → Int) (zs : Int) : f_XT_skipIf tn tp tw tf zs = (
    match f_XT_next tn tp tw tf with
    | (r, tp1') =>
      if r = zs then
        (1, tp1' + 1)
      else
        (0, tp1')
  : Int × Int) := by rw [f_XT_skipIf_q]; rfl
theorem f_XT_skipIf_b (tn tp tw : Int) (tf : Int → Int) (zs : Int) (hn : 0 ≤ tn ∧ tn ≤ 400) (hp : 0 ≤ tp ∧ tp ≤ tn) (hf : ∀ i, 0 ≤ tf i ∧ tf i < 256) (hz : i32 zs) (hz0 : 0 ≤ zs) : (0 ≤ (f_XT_skipIf tn tp tw tf zs).1 ∧ (f_XT_skipIf tn tp tw tf zs).1 ≤ 1) ∧ 0 ≤ (f_XT_skipIf tn tp tw tf zs).2 ∧ (f_XT_skipIf tn tp tw tf zs).2 ≤ tn := by
  have h := f_XT_next_b tn tp tw tf hn hp hf
  rw [f_XT_skipIf_s]
  repeat' split
  all_goals (rename_i e _; rw [e] at h; dsimp only at h ⊢; omega)
set_option maxHeartbeats 4000000 in
set_option maxRecDepth 100000 in
theorem c_XT_skipIf (l : Launch) (dC : Nat → ClassId) (dI : Nat → Nat → Nat) (cA : ClassId) (sz : Nat) (ta : Nat) (ts : Nat) (tn : Int) (tp : Int) (tw : Int) (tf : Int → Int) (zs : Int) (hn : 0 ≤ tn ∧ tn ≤ 400) (hp : 0 ≤ tp ∧ tp ≤ tn) (hf : ∀ i, 0 ≤ tf i ∧ tf i < 256) (hz : i32 zs) (hz0 : 0 ≤ zs) : Met l yXT_skipIf (Cond.code yXT_skipIf cXT_skipIf 2 (some .boolean) :: TBL) ({ frames := 1, cells := 0, slots := 0, locals := 20 } : Room) (va_Pc [.ref ta, .int (jI zs)] (jBw (dC, dI) [(cA, .int)] [(ta, .inr (3, [.ref ts, .int (jI tn), .int (jI tp), .int (jI tw)])), (ts, .inl (cA, 400, .inl (jA tf)))] sz)) (va_Qi (fun (r : Int32) (u : Int × Int) => r = jI u.1 ∧ u = f_XT_skipIf tn tp tw tf zs) (fun u t => jE (dC, dI) [(cA, .int)] [(ta, .inr (3, [.ref ts, .int (jI tn), .int (jI tp), .int (jI tw)])), (ts, .inl (cA, 400, .inl (jA tf)))] sz [(ta, .inr (3, [.ref ts, .int (jI tn), .int (jI u.2), .int (jI tw)])), (ts, .inl (cA, 400, .inl (jA tf)))] t) (va_A [(ta, .inr (3, [.ref ts, .int (jI tn), .int (jI tp), .int (jI tw)])), (ts, .inl (cA, 400, .inl (jA tf)))] sz)) 0 0 (va_A [(ta, .inr (3, [.ref ts, .int (jI tn), .int (jI tp), .int (jI tw)])), (ts, .inl (cA, 400, .inl (jA tf)))] sz) := by
  refine jMet (cc := cXT_skipIf) (maxL := 2) (ret := some .boolean) (by decide) rfl ?_
  intro p e s m args below meth c s₁ R Q hR hQ B hml hv
  obtain ⟨rfl, hsz, hP, hK, hD0, hN⟩ := hv
  have hx := B.exec
  have hb := B.bytes
  have hr := B.returns
  have hts := atoms_spec (ws := Cond.code yXT_skipIf cXT_skipIf 2 (some .boolean) :: TBL) B.pre
  have hown : s.vm.findClass RXT = some m.cls := findClass_of_methodNamed B.named
  have hlocks := B.notSynchronized
  subst hsz
  obtain ⟨A, hAe⟩ : ∃ A, A = va_A [(ta, .inr (3, [.ref ts, .int (jI tn), .int (jI tp), .int (jI tw)])), (ts, .inl (cA, 400, .inl (jA tf)))] s.heap.size := ⟨_, rfl⟩
  have hD : va_D A [(ta, .inr (3, [.ref ts, .int (jI tn), .int (jI tp), .int (jI tw)])), (ts, .inl (cA, 400, .inl (jA tf)))] := by rw [hAe]; exact hD0.self
  have hA : ∀ q : Nat, s.heap.size ≤ q → A q := fun q h => by rw [hAe]; exact Or.inr h
  have hS : va_S A s.heap s.heap [] := va_S.rf
  have hP : va_P (dC, dI) vwCl [(ta, .inr (3, [.ref ts, .int (jI tn), .int (jI tp), .int (jI tw)])), (ts, .inl (cA, 400, .inl (jA tf)))] s.heap := hP
  have hl := lv_entry ([.ref ta, .int (jI zs)]) (n := 2) (Nat.le_of_ble_eq_true rfl)
  rw [lg_entry_eq]
  generalize (lg_sl ([.ref ta, .int (jI zs)]) ++ List.replicate (2 - (lg_sl ([.ref ta, .int (jI zs)])).length) Slot.unset).toArray = ls at hl ⊢
  have hl : lv_has ls 2 [(0, .ref ta), (1, .int (jI zs))] := hl
  refine lv_aload_n hx hb dXT_skipIf_0 rfl (lv_at hl 0 rfl) ?_
  refine jwVi (rest := []) (wr := []) ⟨hx, hb, hml, hown, hts⟩ (c_XT_next l dC dI cA _ ta ts tn tp tw tf (by first | assumption | omega) (by first | assumption | omega) (by first | assumption | omega)) (cwV 0 hts (jG_V tw_154 tw_143 tw_144 tw_2 tw_145) rfl rfl rfl (by decide +kernel) (by rw [hR]; exact ⟨Nat.le_of_ble_eq_true rfl, Nat.le_of_ble_eq_true rfl⟩)) hK hP hD hS hA hN [0, 1] [] rfl rfl (by decide) (by decide) (by decide) 0 3 rfl rfl rfl rfl hl.1 rfl (Nat.le_of_ble_eq_true rfl) dXT_skipIf_1 (by rw [hR]; exact ⟨Nat.le_of_ble_eq_true rfl, Nat.le_of_ble_eq_true rfl⟩) (fun v u H locs hwb hP hD hS => ?_)
  obtain ⟨r, tp1'⟩ := u
  try dsimp only at hwb
  obtain ⟨er, hwb⟩ := hwb
  subst er
  have hP : va_P (dC, dI) vwCl [(ta, .inr (3, [.ref ts, .int (jI tn), .int (jI tp1'), .int (jI tw)])), (ts, .inl (cA, 400, .inl (jA tf)))] H := hP
  have hD : va_D A [(ta, .inr (3, [.ref ts, .int (jI tn), .int (jI tp1'), .int (jI tw)])), (ts, .inl (cA, 400, .inl (jA tf)))] := hD
  have f := f_XT_next_b tn tp tw tf (by first | assumption | omega) (by first | assumption | omega) (by first | assumption | omega)
  rw [← hwb] at f; try dsimp only at f
  refine lv_iload_n hx hb dXT_skipIf_4 rfl (lv_at hl 1 rfl) ?_
  refine ji_icmp_eq (tgt := 10) hx hb dXT_skipIf_5 (by decide) (by omega) (by omega) (fun c5_ => ?_) (fun c5_ => ?_)
  · refine lv_aload_n hx hb dXT_skipIf_10 rfl (lv_at hl 0 rfl) ?_
    refine lv_dup hx hb dXT_skipIf_11 rfl ?_
    refine va_get (D := (dC, dI)) (ci := 3) (v := .int (jI tp1')) (C := RXT) (T := TXT) (N := 4) hx hb hts (fun w h => jmem (inXT w h)) hown hK hP 0 rfl rfl 2 (by decide) (hts _ (jmem tw_32)) (fun _ h9 => h9) rfl dXT_skipIf_12 ?_
    refine ji_iconst hx hb dXT_skipIf_15 ?_
    refine ji_iadd hx hb dXT_skipIf_16 ?_
    refine va_put (D := (dC, dI)) (ci := 3) (v := .int (jI (tp1' + 1))) (ty := (.int)) (C := RXT) (T := TXT) (N := 4) hx hb hts (fun w h => jmem (inXT w h)) tyXT tyXT_ok nXT hown hK hP hD hS 0 rfl rfl 2 (by decide) (hts _ (jmem tw_32)) (fun _ h9 => h9) rfl (by decide +kernel) rfl rfl (Nat.le_of_ble_eq_true rfl) dXT_skipIf_17 (fun H locs hP hD hS => ?_)
    have hP : va_P (dC, dI) vwCl [(ta, .inr (3, [.ref ts, .int (jI tn), .int (jI (tp1' + 1)), .int (jI tw)])), (ts, .inl (cA, 400, .inl (jA tf)))] H := hP
    have hD : va_D A [(ta, .inr (3, [.ref ts, .int (jI tn), .int (jI (tp1' + 1)), .int (jI tw)])), (ts, .inl (cA, 400, .inl (jA tf)))] := hD
    refine ji_iconst hx hb dXT_skipIf_20 ?_
    have hP9 := hP.sub (ws' := [(ta, .inr (3, [.ref ts, .int (jI tn), .int (jI (tp1' + 1)), .int (jI tw)])), (ts, .inl (cA, 400, .inl (jA tf)))]) [0, 1] rfl
    have hD9 := hD.sub (ws' := [(ta, .inr (3, [.ref ts, .int (jI tn), .int (jI (tp1' + 1)), .int (jI tw)])), (ts, .inl (cA, 400, .inl (jA tf)))]) [0, 1] (by decide) rfl
    subst hAe
    subst hQ
    exact W.zret (v := jI 1) hx hb hr (by first | decide | exact jz (by omega)) (fun t ht hW => ⟨⟨_, (1, tp1' + 1), rfl, ⟨rfl, Eq.trans (by rw [f_XT_skipIf_s]; rw [← hwb]; try dsimp only; rw [if_pos c5_]; try rfl) rfl⟩, ⟨by rw [ht]; exact hP9, va_K.moved hW.alike hK, hD9⟩⟩, hS.F ht⟩) hS.2.2 dXT_skipIf_21
  · refine ji_iconst hx hb dXT_skipIf_8 ?_
    have hP9 := hP.sub (ws' := [(ta, .inr (3, [.ref ts, .int (jI tn), .int (jI tp1'), .int (jI tw)])), (ts, .inl (cA, 400, .inl (jA tf)))]) [0, 1] rfl
    have hD9 := hD.sub (ws' := [(ta, .inr (3, [.ref ts, .int (jI tn), .int (jI tp1'), .int (jI tw)])), (ts, .inl (cA, 400, .inl (jA tf)))]) [0, 1] (by decide) rfl
    subst hAe
    subst hQ
    exact W.zret (v := jI 0) hx hb hr (by first | decide | exact jz (by omega)) (fun t ht hW => ⟨⟨_, (0, tp1'), rfl, ⟨rfl, Eq.trans (by rw [f_XT_skipIf_s]; rw [← hwb]; try dsimp only; rw [if_neg c5_]; try rfl) rfl⟩, ⟨by rw [ht]; exact hP9, va_K.moved hW.alike hK, hD9⟩⟩, hS.F ht⟩) hS.2.2 dXT_skipIf_9
noncomputable def g_XT_take (tn : Int) (tp : Int) (tw : Int) (tf : Int → Int) (zs : Int) : Int × Int × Int :=
  match f_XT_next tn tp tw tf with
  | (r, tp1') =>
    if r = zs then
      (1, tp1' + 1, tw)
    else
      match f_XT_refuse tn tp1' tw tf with
      | (r1, tw1') =>
        (r1, tp1', tw1')
noncomputable def f_XT_take : Int → Int → Int → (Int → Int) → Int → Int × Int × Int := jopq g_XT_take
theorem f_XT_take_q : f_XT_take = g_XT_take := jopq_eq _
theorem f_XT_take_s (tn : Int) (tp : Int) (tw : Int) (tf : Int → Int) (zs : Int) : f_XT_take tn tp tw tf zs = (
    match f_XT_next tn tp tw tf with
    | (r, tp1') =>
      if r = zs then
        (1, tp1' + 1, tw)
      else
        match f_XT_refuse tn tp1' tw tf with
        | (r1, tw1') =>
          (r1, tp1', tw1')
  : Int × Int × Int) := by rw [f_XT_take_q]; rfl
theorem f_XT_take_b (tn tp tw : Int) (tf : Int → Int) (zs : Int) (hn : 0 ≤ tn ∧ tn ≤ 400) (hp : 0 ≤ tp ∧ tp ≤ tn) (hf : ∀ i, 0 ≤ tf i ∧ tf i < 256) (hz : i32 zs) (hz0 : 0 ≤ zs) : (0 ≤ (f_XT_take tn tp tw tf zs).1 ∧ (f_XT_take tn tp tw tf zs).1 ≤ 1) ∧ 0 ≤ (f_XT_take tn tp tw tf zs).2.1 ∧ (f_XT_take tn tp tw tf zs).2.1 ≤ tn := by
  have h := f_XT_next_b tn tp tw tf hn hp hf
  simp only [f_XT_take_s, f_XT_refuse_s]
  (repeat' split) <;> (try dsimp only) <;> omega
set_option maxHeartbeats 4000000 in
set_option maxRecDepth 100000 in
theorem c_XT_take (l : Launch) (dC : Nat → ClassId) (dI : Nat → Nat → Nat) (cA : ClassId) (sz : Nat) (ta : Nat) (ts : Nat) (tn : Int) (tp : Int) (tw : Int) (tf : Int → Int) (zs : Int) (hn : 0 ≤ tn ∧ tn ≤ 400) (hp : 0 ≤ tp ∧ tp ≤ tn) (hf : ∀ i, 0 ≤ tf i ∧ tf i < 256) (hz : i32 zs) (hz0 : 0 ≤ zs) : Met l yXT_take (Cond.code yXT_take cXT_take 2 (some .boolean) :: TBL) ({ frames := 1, cells := 0, slots := 0, locals := 20 } : Room) (va_Pc [.ref ta, .int (jI zs)] (jBw (dC, dI) [(cA, .int)] [(ta, .inr (3, [.ref ts, .int (jI tn), .int (jI tp), .int (jI tw)])), (ts, .inl (cA, 400, .inl (jA tf)))] sz)) (va_Qi (fun (r : Int32) (u : Int × Int × Int) => r = jI u.1 ∧ u = f_XT_take tn tp tw tf zs) (fun u t => jE (dC, dI) [(cA, .int)] [(ta, .inr (3, [.ref ts, .int (jI tn), .int (jI tp), .int (jI tw)])), (ts, .inl (cA, 400, .inl (jA tf)))] sz [(ta, .inr (3, [.ref ts, .int (jI tn), .int (jI u.2.1), .int (jI u.2.2)])), (ts, .inl (cA, 400, .inl (jA tf)))] t) (va_A [(ta, .inr (3, [.ref ts, .int (jI tn), .int (jI tp), .int (jI tw)])), (ts, .inl (cA, 400, .inl (jA tf)))] sz)) 0 0 (va_A [(ta, .inr (3, [.ref ts, .int (jI tn), .int (jI tp), .int (jI tw)])), (ts, .inl (cA, 400, .inl (jA tf)))] sz) := by
  refine jMet (cc := cXT_take) (maxL := 2) (ret := some .boolean) (by decide) rfl ?_
  intro p e s m args below meth c s₁ R Q hR hQ B hml hv
  obtain ⟨rfl, hsz, hP, hK, hD0, hN⟩ := hv
  have hx := B.exec
  have hb := B.bytes
  have hr := B.returns
  have hts := atoms_spec (ws := Cond.code yXT_take cXT_take 2 (some .boolean) :: TBL) B.pre
  have hown : s.vm.findClass RXT = some m.cls := findClass_of_methodNamed B.named
  have hlocks := B.notSynchronized
  subst hsz
  obtain ⟨A, hAe⟩ : ∃ A, A = va_A [(ta, .inr (3, [.ref ts, .int (jI tn), .int (jI tp), .int (jI tw)])), (ts, .inl (cA, 400, .inl (jA tf)))] s.heap.size := ⟨_, rfl⟩
  have hD : va_D A [(ta, .inr (3, [.ref ts, .int (jI tn), .int (jI tp), .int (jI tw)])), (ts, .inl (cA, 400, .inl (jA tf)))] := by rw [hAe]; exact hD0.self
  have hA : ∀ q : Nat, s.heap.size ≤ q → A q := fun q h => by rw [hAe]; exact Or.inr h
  have hS : va_S A s.heap s.heap [] := va_S.rf
  have hP : va_P (dC, dI) vwCl [(ta, .inr (3, [.ref ts, .int (jI tn), .int (jI tp), .int (jI tw)])), (ts, .inl (cA, 400, .inl (jA tf)))] s.heap := hP
  have hl := lv_entry ([.ref ta, .int (jI zs)]) (n := 2) (Nat.le_of_ble_eq_true rfl)
  rw [lg_entry_eq]
  generalize (lg_sl ([.ref ta, .int (jI zs)]) ++ List.replicate (2 - (lg_sl ([.ref ta, .int (jI zs)])).length) Slot.unset).toArray = ls at hl ⊢
  have hl : lv_has ls 2 [(0, .ref ta), (1, .int (jI zs))] := hl
  refine lv_aload_n hx hb dXT_take_0 rfl (lv_at hl 0 rfl) ?_
  refine jwVi (rest := []) (wr := []) ⟨hx, hb, hml, hown, hts⟩ (c_XT_next l dC dI cA _ ta ts tn tp tw tf (by first | assumption | omega) (by first | assumption | omega) (by first | assumption | omega)) (cwV 0 hts (jG_V tw_154 tw_143 tw_144 tw_2 tw_145) rfl rfl rfl (by decide +kernel) (by rw [hR]; exact ⟨Nat.le_of_ble_eq_true rfl, Nat.le_of_ble_eq_true rfl⟩)) hK hP hD hS hA hN [0, 1] [] rfl rfl (by decide) (by decide) (by decide) 0 3 rfl rfl rfl rfl hl.1 rfl (Nat.le_of_ble_eq_true rfl) dXT_take_1 (by rw [hR]; exact ⟨Nat.le_of_ble_eq_true rfl, Nat.le_of_ble_eq_true rfl⟩) (fun v u H locs hwb hP hD hS => ?_)
  obtain ⟨r, tp1'⟩ := u
  try dsimp only at hwb
  obtain ⟨er, hwb⟩ := hwb
  subst er
  have hP : va_P (dC, dI) vwCl [(ta, .inr (3, [.ref ts, .int (jI tn), .int (jI tp1'), .int (jI tw)])), (ts, .inl (cA, 400, .inl (jA tf)))] H := hP
  have hD : va_D A [(ta, .inr (3, [.ref ts, .int (jI tn), .int (jI tp1'), .int (jI tw)])), (ts, .inl (cA, 400, .inl (jA tf)))] := hD
  have f := f_XT_next_b tn tp tw tf (by first | assumption | omega) (by first | assumption | omega) (by first | assumption | omega)
  rw [← hwb] at f; try dsimp only at f
  refine lv_iload_n hx hb dXT_take_4 rfl (lv_at hl 1 rfl) ?_
  refine ji_icmp_eq (tgt := 13) hx hb dXT_take_5 (by decide) (by omega) (by omega) (fun c5_ => ?_) (fun c5_ => ?_)
  · refine lv_aload_n hx hb dXT_take_13 rfl (lv_at hl 0 rfl) ?_
    refine lv_dup hx hb dXT_take_14 rfl ?_
    refine va_get (D := (dC, dI)) (ci := 3) (v := .int (jI tp1')) (C := RXT) (T := TXT) (N := 4) hx hb hts (fun w h => jmem (inXT w h)) hown hK hP 0 rfl rfl 2 (by decide) (hts _ (jmem tw_32)) (fun _ h9 => h9) rfl dXT_take_15 ?_
    refine ji_iconst hx hb dXT_take_18 ?_
    refine ji_iadd hx hb dXT_take_19 ?_
    refine va_put (D := (dC, dI)) (ci := 3) (v := .int (jI (tp1' + 1))) (ty := (.int)) (C := RXT) (T := TXT) (N := 4) hx hb hts (fun w h => jmem (inXT w h)) tyXT tyXT_ok nXT hown hK hP hD hS 0 rfl rfl 2 (by decide) (hts _ (jmem tw_32)) (fun _ h9 => h9) rfl (by decide +kernel) rfl rfl (Nat.le_of_ble_eq_true rfl) dXT_take_20 (fun H locs hP hD hS => ?_)
    have hP : va_P (dC, dI) vwCl [(ta, .inr (3, [.ref ts, .int (jI tn), .int (jI (tp1' + 1)), .int (jI tw)])), (ts, .inl (cA, 400, .inl (jA tf)))] H := hP
    have hD : va_D A [(ta, .inr (3, [.ref ts, .int (jI tn), .int (jI (tp1' + 1)), .int (jI tw)])), (ts, .inl (cA, 400, .inl (jA tf)))] := hD
    refine ji_iconst hx hb dXT_take_23 ?_
    have hP9 := hP.sub (ws' := [(ta, .inr (3, [.ref ts, .int (jI tn), .int (jI (tp1' + 1)), .int (jI tw)])), (ts, .inl (cA, 400, .inl (jA tf)))]) [0, 1] rfl
    have hD9 := hD.sub (ws' := [(ta, .inr (3, [.ref ts, .int (jI tn), .int (jI (tp1' + 1)), .int (jI tw)])), (ts, .inl (cA, 400, .inl (jA tf)))]) [0, 1] (by decide) rfl
    subst hAe
    subst hQ
    exact W.zret (v := jI 1) hx hb hr (by first | decide | exact jz (by omega)) (fun t ht hW => ⟨⟨_, (1, tp1' + 1, tw), rfl, ⟨rfl, Eq.trans (by rw [f_XT_take_s]; rw [← hwb]; try dsimp only; rw [if_pos c5_]; try rfl) rfl⟩, ⟨by rw [ht]; exact hP9, va_K.moved hW.alike hK, hD9⟩⟩, hS.F ht⟩) hS.2.2 dXT_take_24
  · refine lv_aload_n hx hb dXT_take_8 rfl (lv_at hl 0 rfl) ?_
    refine jwVi (rest := []) (wr := []) ⟨hx, hb, hml, hown, hts⟩ (c_XT_refuse l dC dI cA _ ta ts tn tp1' tw tf) (cwV 0 hts (jG_V tw_163 tw_164 tw_165 tw_2 tw_166) rfl rfl rfl (by decide +kernel) (by rw [hR]; exact ⟨Nat.le_of_ble_eq_true rfl, Nat.le_of_ble_eq_true rfl⟩)) hK hP hD hS hA hN [0, 1] [] rfl rfl (by decide) (by decide) (by decide) 0 3 rfl rfl rfl rfl hl.1 rfl (Nat.le_of_ble_eq_true rfl) dXT_take_9 (by rw [hR]; exact ⟨Nat.le_of_ble_eq_true rfl, Nat.le_of_ble_eq_true rfl⟩) (fun v3 u2 H locs hwb4 hP hD hS => ?_)
    obtain ⟨r1, tw1'⟩ := u2
    try dsimp only at hwb4
    obtain ⟨er, hwb4⟩ := hwb4
    subst er
    have hP : va_P (dC, dI) vwCl [(ta, .inr (3, [.ref ts, .int (jI tn), .int (jI tp1'), .int (jI tw1')])), (ts, .inl (cA, 400, .inl (jA tf)))] H := hP
    have hD : va_D A [(ta, .inr (3, [.ref ts, .int (jI tn), .int (jI tp1'), .int (jI tw1')])), (ts, .inl (cA, 400, .inl (jA tf)))] := hD
    have f5 := f_XT_refuse_b tn tp1' tw tf
    rw [← hwb4] at f5; try dsimp only at f5
    have hP9 := hP.sub (ws' := [(ta, .inr (3, [.ref ts, .int (jI tn), .int (jI tp1'), .int (jI tw1')])), (ts, .inl (cA, 400, .inl (jA tf)))]) [0, 1] rfl
    have hD9 := hD.sub (ws' := [(ta, .inr (3, [.ref ts, .int (jI tn), .int (jI tp1'), .int (jI tw1')])), (ts, .inl (cA, 400, .inl (jA tf)))]) [0, 1] (by decide) rfl
    subst hAe
    subst hQ
    exact W.zret (v := jI r1) hx hb hr (by first | decide | exact jz (by omega)) (fun t ht hW => ⟨⟨_, (r1, tp1', tw1'), rfl, ⟨rfl, Eq.trans (by rw [f_XT_take_s]; rw [← hwb]; try dsimp only; rw [if_neg c5_]; rw [← hwb4]; try dsimp only; try rfl) rfl⟩, ⟨by rw [ht]; exact hP9, va_K.moved hW.alike hK, hD9⟩⟩, hS.F ht⟩) hS.2.2 dXT_take_12
noncomputable def g_XT_takeOneOf (tn : Int) (tp : Int) (tw : Int) (tf : Int → Int) (zs : Int) (zc : Int) : Int × Int × Int :=
  match f_XT_next tn tp tw tf with
  | (r, tp1') =>
    if (r - zs) < 0 then
      match f_XT_refuse tn tp1' tw tf with
      | (r1, tw1') =>
        (-1, tp1', tw1')
    else
      if (r - zs) < zc then
        (r - zs, tp1' + 1, tw)
      else
        match f_XT_refuse tn tp1' tw tf with
        | (r6, tw1'7) =>
          (-1, tp1', tw1'7)
noncomputable def f_XT_takeOneOf : Int → Int → Int → (Int → Int) → Int → Int → Int × Int × Int := jopq g_XT_takeOneOf
theorem f_XT_takeOneOf_q : f_XT_takeOneOf = g_XT_takeOneOf := jopq_eq _
theorem f_XT_takeOneOf_s (tn : Int) (tp : Int) (tw : Int) (tf : Int → Int) (zs : Int) (zc : Int) : f_XT_takeOneOf tn tp tw tf zs zc = (
    match f_XT_next tn tp tw tf with
    | (r, tp1') =>
      if (r - zs) < 0 then
        match f_XT_refuse tn tp1' tw tf with
        | (r1, tw1') =>
          (-1, tp1', tw1')
      else
        if (r - zs) < zc then
          (r - zs, tp1' + 1, tw)
        else
          match f_XT_refuse tn tp1' tw tf with
          | (r6, tw1'7) =>
            (-1, tp1', tw1'7)
  : Int × Int × Int) := by rw [f_XT_takeOneOf_q]; rfl
theorem f_XT_takeOneOf_b (tn tp tw : Int) (tf : Int → Int) (zs zc : Int) (hn : 0 ≤ tn ∧ tn ≤ 400) (hp : 0 ≤ tp ∧ tp ≤ tn) (hf : ∀ i, 0 ≤ tf i ∧ tf i < 256) (hz : 0 ≤ zs ∧ zs < 256) (hc : 0 ≤ zc ∧ zc < 256) : (-1 ≤ (f_XT_takeOneOf tn tp tw tf zs zc).1 ∧ ((f_XT_takeOneOf tn tp tw tf zs zc).1 < zc ∨ (f_XT_takeOneOf tn tp tw tf zs zc).1 = -1)) ∧ 0 ≤ (f_XT_takeOneOf tn tp tw tf zs zc).2.1 ∧ (f_XT_takeOneOf tn tp tw tf zs zc).2.1 ≤ tn := by
  have h := f_XT_next_b tn tp tw tf hn hp hf
  simp only [f_XT_takeOneOf_s, f_XT_refuse_s]
  (repeat' split) <;> (try dsimp only) <;> omega
set_option maxHeartbeats 4000000 in
set_option maxRecDepth 100000 in
theorem c_XT_takeOneOf (l : Launch) (dC : Nat → ClassId) (dI : Nat → Nat → Nat) (cA : ClassId) (sz : Nat) (ta : Nat) (ts : Nat) (tn : Int) (tp : Int) (tw : Int) (tf : Int → Int) (zs : Int) (zc : Int) (hn : 0 ≤ tn ∧ tn ≤ 400) (hp : 0 ≤ tp ∧ tp ≤ tn) (hf : ∀ i, 0 ≤ tf i ∧ tf i < 256) (hz : 0 ≤ zs ∧ zs < 256) (hc : 0 ≤ zc ∧ zc < 256) : Met l yXT_takeOneOf (Cond.code yXT_takeOneOf cXT_takeOneOf 4 (some .int) :: TBL) ({ frames := 1, cells := 0, slots := 0, locals := 20 } : Room) (va_Pc [.ref ta, .int (jI zs), .int (jI zc)] (jBw (dC, dI) [(cA, .int)] [(ta, .inr (3, [.ref ts, .int (jI tn), .int (jI tp), .int (jI tw)])), (ts, .inl (cA, 400, .inl (jA tf)))] sz)) (va_Qi (fun (r : Int32) (u : Int × Int × Int) => r = jI u.1 ∧ u = f_XT_takeOneOf tn tp tw tf zs zc) (fun u t => jE (dC, dI) [(cA, .int)] [(ta, .inr (3, [.ref ts, .int (jI tn), .int (jI tp), .int (jI tw)])), (ts, .inl (cA, 400, .inl (jA tf)))] sz [(ta, .inr (3, [.ref ts, .int (jI tn), .int (jI u.2.1), .int (jI u.2.2)])), (ts, .inl (cA, 400, .inl (jA tf)))] t) (va_A [(ta, .inr (3, [.ref ts, .int (jI tn), .int (jI tp), .int (jI tw)])), (ts, .inl (cA, 400, .inl (jA tf)))] sz)) 0 0 (va_A [(ta, .inr (3, [.ref ts, .int (jI tn), .int (jI tp), .int (jI tw)])), (ts, .inl (cA, 400, .inl (jA tf)))] sz) := by
  refine jMet (cc := cXT_takeOneOf) (maxL := 4) (ret := some .int) (by decide) rfl ?_
  intro p e s m args below meth c s₁ R Q hR hQ B hml hv
  obtain ⟨rfl, hsz, hP, hK, hD0, hN⟩ := hv
  have hx := B.exec
  have hb := B.bytes
  have hr := B.returns
  have hts := atoms_spec (ws := Cond.code yXT_takeOneOf cXT_takeOneOf 4 (some .int) :: TBL) B.pre
  have hown : s.vm.findClass RXT = some m.cls := findClass_of_methodNamed B.named
  have hlocks := B.notSynchronized
  subst hsz
  obtain ⟨A, hAe⟩ : ∃ A, A = va_A [(ta, .inr (3, [.ref ts, .int (jI tn), .int (jI tp), .int (jI tw)])), (ts, .inl (cA, 400, .inl (jA tf)))] s.heap.size := ⟨_, rfl⟩
  have hD : va_D A [(ta, .inr (3, [.ref ts, .int (jI tn), .int (jI tp), .int (jI tw)])), (ts, .inl (cA, 400, .inl (jA tf)))] := by rw [hAe]; exact hD0.self
  have hA : ∀ q : Nat, s.heap.size ≤ q → A q := fun q h => by rw [hAe]; exact Or.inr h
  have hS : va_S A s.heap s.heap [] := va_S.rf
  have hP : va_P (dC, dI) vwCl [(ta, .inr (3, [.ref ts, .int (jI tn), .int (jI tp), .int (jI tw)])), (ts, .inl (cA, 400, .inl (jA tf)))] s.heap := hP
  have hl := lv_entry ([.ref ta, .int (jI zs), .int (jI zc)]) (n := 4) (Nat.le_of_ble_eq_true rfl)
  rw [lg_entry_eq]
  generalize (lg_sl ([.ref ta, .int (jI zs), .int (jI zc)]) ++ List.replicate (4 - (lg_sl ([.ref ta, .int (jI zs), .int (jI zc)])).length) Slot.unset).toArray = ls at hl ⊢
  have hl : lv_has ls 4 [(0, .ref ta), (1, .int (jI zs)), (2, .int (jI zc))] := hl
  refine lv_aload_n hx hb dXT_takeOneOf_0 rfl (lv_at hl 0 rfl) ?_
  refine jwVi (rest := []) (wr := []) ⟨hx, hb, hml, hown, hts⟩ (c_XT_next l dC dI cA _ ta ts tn tp tw tf (by first | assumption | omega) (by first | assumption | omega) (by first | assumption | omega)) (cwV 0 hts (jG_V tw_154 tw_143 tw_144 tw_2 tw_145) rfl rfl rfl (by decide +kernel) (by rw [hR]; exact ⟨Nat.le_of_ble_eq_true rfl, Nat.le_of_ble_eq_true rfl⟩)) hK hP hD hS hA hN [0, 1] [] rfl rfl (by decide) (by decide) (by decide) 0 3 rfl rfl rfl rfl hl.1 rfl (Nat.le_of_ble_eq_true rfl) dXT_takeOneOf_1 (by rw [hR]; exact ⟨Nat.le_of_ble_eq_true rfl, Nat.le_of_ble_eq_true rfl⟩) (fun v u H locs hwb hP hD hS => ?_)
  obtain ⟨r, tp1'⟩ := u
  try dsimp only at hwb
  obtain ⟨er, hwb⟩ := hwb
  subst er
  have hP : va_P (dC, dI) vwCl [(ta, .inr (3, [.ref ts, .int (jI tn), .int (jI tp1'), .int (jI tw)])), (ts, .inl (cA, 400, .inl (jA tf)))] H := hP
  have hD : va_D A [(ta, .inr (3, [.ref ts, .int (jI tn), .int (jI tp1'), .int (jI tw)])), (ts, .inl (cA, 400, .inl (jA tf)))] := hD
  have f := f_XT_next_b tn tp tw tf (by first | assumption | omega) (by first | assumption | omega) (by first | assumption | omega)
  rw [← hwb] at f; try dsimp only at f
  refine lv_iload_n hx hb dXT_takeOneOf_4 rfl (lv_at hl 1 rfl) ?_
  refine ji_isub hx hb dXT_takeOneOf_5 ?_
  refine lv_istore_n (lv' := [(3, .int (jI (r - zs))), (0, .ref ta), (1, .int (jI zs)), (2, .int (jI zc))]) hx hb dXT_takeOneOf_6 rfl hl (by decide) rfl (fun ls hl => ?_)
  refine lv_iload_n hx hb dXT_takeOneOf_7 rfl (lv_at hl 0 rfl) ?_
  refine ji_if_lt (tgt := 16) hx hb dXT_takeOneOf_8 (by decide) (by omega) (fun c8_ => ?_) (fun c8_ => ?_)
  · refine lv_aload_n hx hb dXT_takeOneOf_16 rfl (lv_at hl 1 rfl) ?_
    refine jwVi (rest := []) (wr := []) ⟨hx, hb, hml, hown, hts⟩ (c_XT_refuse l dC dI cA _ ta ts tn tp1' tw tf) (cwV 0 hts (jG_V tw_163 tw_164 tw_165 tw_2 tw_166) rfl rfl rfl (by decide +kernel) (by rw [hR]; exact ⟨Nat.le_of_ble_eq_true rfl, Nat.le_of_ble_eq_true rfl⟩)) hK hP hD hS hA hN [0, 1] [] rfl rfl (by decide) (by decide) (by decide) 0 3 rfl rfl rfl rfl hl.1 rfl (Nat.le_of_ble_eq_true rfl) dXT_takeOneOf_17 (by rw [hR]; exact ⟨Nat.le_of_ble_eq_true rfl, Nat.le_of_ble_eq_true rfl⟩) (fun v3 u2 H locs hwb4 hP hD hS => ?_)
    obtain ⟨r1, tw1'⟩ := u2
    try dsimp only at hwb4
    obtain ⟨er, hwb4⟩ := hwb4
    subst er
    have hP : va_P (dC, dI) vwCl [(ta, .inr (3, [.ref ts, .int (jI tn), .int (jI tp1'), .int (jI tw1')])), (ts, .inl (cA, 400, .inl (jA tf)))] H := hP
    have hD : va_D A [(ta, .inr (3, [.ref ts, .int (jI tn), .int (jI tp1'), .int (jI tw1')])), (ts, .inl (cA, 400, .inl (jA tf)))] := hD
    have f5 := f_XT_refuse_b tn tp1' tw tf
    rw [← hwb4] at f5; try dsimp only at f5
    refine lv_pop hx hb dXT_takeOneOf_20 rfl ?_
    refine ji_iconst hx hb dXT_takeOneOf_21 ?_
    have hP9 := hP.sub (ws' := [(ta, .inr (3, [.ref ts, .int (jI tn), .int (jI tp1'), .int (jI tw1')])), (ts, .inl (cA, 400, .inl (jA tf)))]) [0, 1] rfl
    have hD9 := hD.sub (ws' := [(ta, .inr (3, [.ref ts, .int (jI tn), .int (jI tp1'), .int (jI tw1')])), (ts, .inl (cA, 400, .inl (jA tf)))]) [0, 1] (by decide) rfl
    subst hAe
    subst hQ
    exact W.iret (v := jI (-1)) hx hb hr (fun t ht hW => ⟨⟨_, (-1, tp1', tw1'), rfl, ⟨rfl, Eq.trans (by rw [f_XT_takeOneOf_s]; rw [← hwb]; try dsimp only; rw [if_pos c8_]; rw [← hwb4]; try dsimp only; try rfl) rfl⟩, ⟨by rw [ht]; exact hP9, va_K.moved hW.alike hK, hD9⟩⟩, hS.F ht⟩) hS.2.2 dXT_takeOneOf_22
  · refine lv_iload_n hx hb dXT_takeOneOf_11 rfl (lv_at hl 0 rfl) ?_
    refine lv_iload_n hx hb dXT_takeOneOf_12 rfl (lv_at hl 3 rfl) ?_
    refine ji_icmp_lt (tgt := 23) hx hb dXT_takeOneOf_13 (by decide) (by omega) (by omega) (fun c13_ => ?_) (fun c13_ => ?_)
    · refine lv_aload_n hx hb dXT_takeOneOf_23 rfl (lv_at hl 1 rfl) ?_
      refine lv_dup hx hb dXT_takeOneOf_24 rfl ?_
      refine va_get (D := (dC, dI)) (ci := 3) (v := .int (jI tp1')) (C := RXT) (T := TXT) (N := 4) hx hb hts (fun w h => jmem (inXT w h)) hown hK hP 0 rfl rfl 2 (by decide) (hts _ (jmem tw_32)) (fun _ h9 => h9) rfl dXT_takeOneOf_25 ?_
      refine ji_iconst hx hb dXT_takeOneOf_28 ?_
      refine ji_iadd hx hb dXT_takeOneOf_29 ?_
      refine va_put (D := (dC, dI)) (ci := 3) (v := .int (jI (tp1' + 1))) (ty := (.int)) (C := RXT) (T := TXT) (N := 4) hx hb hts (fun w h => jmem (inXT w h)) tyXT tyXT_ok nXT hown hK hP hD hS 0 rfl rfl 2 (by decide) (hts _ (jmem tw_32)) (fun _ h9 => h9) rfl (by decide +kernel) rfl rfl (Nat.le_of_ble_eq_true rfl) dXT_takeOneOf_30 (fun H locs hP hD hS => ?_)
      have hP : va_P (dC, dI) vwCl [(ta, .inr (3, [.ref ts, .int (jI tn), .int (jI (tp1' + 1)), .int (jI tw)])), (ts, .inl (cA, 400, .inl (jA tf)))] H := hP
      have hD : va_D A [(ta, .inr (3, [.ref ts, .int (jI tn), .int (jI (tp1' + 1)), .int (jI tw)])), (ts, .inl (cA, 400, .inl (jA tf)))] := hD
      refine lv_iload_n hx hb dXT_takeOneOf_33 rfl (lv_at hl 0 rfl) ?_
      have hP9 := hP.sub (ws' := [(ta, .inr (3, [.ref ts, .int (jI tn), .int (jI (tp1' + 1)), .int (jI tw)])), (ts, .inl (cA, 400, .inl (jA tf)))]) [0, 1] rfl
      have hD9 := hD.sub (ws' := [(ta, .inr (3, [.ref ts, .int (jI tn), .int (jI (tp1' + 1)), .int (jI tw)])), (ts, .inl (cA, 400, .inl (jA tf)))]) [0, 1] (by decide) rfl
      subst hAe
      subst hQ
      exact W.iret (v := jI (r - zs)) hx hb hr (fun t ht hW => ⟨⟨_, (r - zs, tp1' + 1, tw), rfl, ⟨rfl, Eq.trans (by rw [f_XT_takeOneOf_s]; rw [← hwb]; try dsimp only; rw [if_neg (Int.not_lt.mpr c8_), if_pos c13_]; try rfl) rfl⟩, ⟨by rw [ht]; exact hP9, va_K.moved hW.alike hK, hD9⟩⟩, hS.F ht⟩) hS.2.2 dXT_takeOneOf_34
    · refine lv_aload_n hx hb dXT_takeOneOf_16 rfl (lv_at hl 1 rfl) ?_
      refine jwVi (rest := []) (wr := []) ⟨hx, hb, hml, hown, hts⟩ (c_XT_refuse l dC dI cA _ ta ts tn tp1' tw tf) (cwV 0 hts (jG_V tw_163 tw_164 tw_165 tw_2 tw_166) rfl rfl rfl (by decide +kernel) (by rw [hR]; exact ⟨Nat.le_of_ble_eq_true rfl, Nat.le_of_ble_eq_true rfl⟩)) hK hP hD hS hA hN [0, 1] [] rfl rfl (by decide) (by decide) (by decide) 0 3 rfl rfl rfl rfl hl.1 rfl (Nat.le_of_ble_eq_true rfl) dXT_takeOneOf_17 (by rw [hR]; exact ⟨Nat.le_of_ble_eq_true rfl, Nat.le_of_ble_eq_true rfl⟩) (fun v9 u8 H locs hwb10 hP hD hS => ?_)
      obtain ⟨r6, tw1'7⟩ := u8
      try dsimp only at hwb10
      obtain ⟨er, hwb10⟩ := hwb10
      subst er
      have hP : va_P (dC, dI) vwCl [(ta, .inr (3, [.ref ts, .int (jI tn), .int (jI tp1'), .int (jI tw1'7)])), (ts, .inl (cA, 400, .inl (jA tf)))] H := hP
      have hD : va_D A [(ta, .inr (3, [.ref ts, .int (jI tn), .int (jI tp1'), .int (jI tw1'7)])), (ts, .inl (cA, 400, .inl (jA tf)))] := hD
      have f11 := f_XT_refuse_b tn tp1' tw tf
      rw [← hwb10] at f11; try dsimp only at f11
      refine lv_pop hx hb dXT_takeOneOf_20 rfl ?_
      refine ji_iconst hx hb dXT_takeOneOf_21 ?_
      have hP9 := hP.sub (ws' := [(ta, .inr (3, [.ref ts, .int (jI tn), .int (jI tp1'), .int (jI tw1'7)])), (ts, .inl (cA, 400, .inl (jA tf)))]) [0, 1] rfl
      have hD9 := hD.sub (ws' := [(ta, .inr (3, [.ref ts, .int (jI tn), .int (jI tp1'), .int (jI tw1'7)])), (ts, .inl (cA, 400, .inl (jA tf)))]) [0, 1] (by decide) rfl
      subst hAe
      subst hQ
      exact W.iret (v := jI (-1)) hx hb hr (fun t ht hW => ⟨⟨_, (-1, tp1', tw1'7), rfl, ⟨rfl, Eq.trans (by rw [f_XT_takeOneOf_s]; rw [← hwb]; try dsimp only; rw [if_neg (Int.not_lt.mpr c8_), if_neg (Int.not_lt.mpr c13_)]; rw [← hwb10]; try dsimp only; try rfl) rfl⟩, ⟨by rw [ht]; exact hP9, va_K.moved hW.alike hK, hD9⟩⟩, hS.F ht⟩) hS.2.2 dXT_takeOneOf_22
noncomputable def g_XT_number_L22 (tn : Int) (tp : Int) (tw : Int) (tf : Int → Int) (zl : Int) (zm : Int) : Nat → Int → Int → Int → Int × Int × Int
  | 0, _, _, _ => (0, 0, 0)
  | n9 + 1, v, k, q =>
    if k < 6 then
      if (f_XG_isDigit (f_XT_here tn q tw tf)) = 0 then
        if v < zl then
          match f_XT_refuseLast tn q tw tf with
          | (r24, tw1'25) =>
            (-1, q, tw1'25)
        else
          if zm < v then
            match f_XT_refuseLast tn q tw tf with
            | (r40, tw1'41) =>
              (-1, q, tw1'41)
          else
            if (f_XG_isDigit (f_XT_here tn q tw tf)) = 0 then
              (v, q, tw)
            else
              match f_XT_refuse tn q tw tf with
              | (r34, tw1'35) =>
                (-1, q, tw1'35)
      else
        if 0 < k then
          if v = 0 then
            if v < zl then
              match f_XT_refuseLast tn q tw tf with
              | (r49, tw1'50) =>
                (-1, q, tw1'50)
            else
              if zm < v then
                match f_XT_refuseLast tn q tw tf with
                | (r65, tw1'66) =>
                  (-1, q, tw1'66)
              else
                if (f_XG_isDigit (f_XT_here tn q tw tf)) = 0 then
                  (v, q, tw)
                else
                  match f_XT_refuse tn q tw tf with
                  | (r59, tw1'60) =>
                    (-1, q, tw1'60)
          else
            g_XT_number_L22 tn tp tw tf zl zm n9 (((v * 10) + (f_XT_here tn q tw tf)) - 48) (k + 1) (q + 1)
        else
          g_XT_number_L22 tn tp tw tf zl zm n9 (((v * 10) + (f_XT_here tn q tw tf)) - 48) (k + 1) (q + 1)
    else
      if v < zl then
        match f_XT_refuseLast tn q tw tf with
        | (r2, tw1') =>
          (-1, q, tw1')
      else
        if zm < v then
          match f_XT_refuseLast tn q tw tf with
          | (r15, tw1'16) =>
            (-1, q, tw1'16)
        else
          if (f_XG_isDigit (f_XT_here tn q tw tf)) = 0 then
            (v, q, tw)
          else
            match f_XT_refuse tn q tw tf with
            | (r9, tw1'10) =>
              (-1, q, tw1'10)
noncomputable def f_XT_number_L22 : Int → Int → Int → (Int → Int) → Int → Int → Nat → Int → Int → Int → Int × Int × Int := jopq g_XT_number_L22
theorem f_XT_number_L22_q : f_XT_number_L22 = g_XT_number_L22 := jopq_eq _
theorem f_XT_number_L22_s (tn : Int) (tp : Int) (tw : Int) (tf : Int → Int) (zl : Int) (zm : Int) (n9 : Nat) (v : Int) (k : Int) (q : Int) : f_XT_number_L22 tn tp tw tf zl zm (n9 + 1) v k q = (
    if k < 6 then
      if (f_XG_isDigit (f_XT_here tn q tw tf)) = 0 then
        if v < zl then
          match f_XT_refuseLast tn q tw tf with
          | (r24, tw1'25) =>
            (-1, q, tw1'25)
        else
          if zm < v then
            match f_XT_refuseLast tn q tw tf with
            | (r40, tw1'41) =>
              (-1, q, tw1'41)
          else
            if (f_XG_isDigit (f_XT_here tn q tw tf)) = 0 then
              (v, q, tw)
            else
              match f_XT_refuse tn q tw tf with
              | (r34, tw1'35) =>
                (-1, q, tw1'35)
      else
        if 0 < k then
          if v = 0 then
            if v < zl then
              match f_XT_refuseLast tn q tw tf with
              | (r49, tw1'50) =>
                (-1, q, tw1'50)
            else
              if zm < v then
                match f_XT_refuseLast tn q tw tf with
                | (r65, tw1'66) =>
                  (-1, q, tw1'66)
              else
                if (f_XG_isDigit (f_XT_here tn q tw tf)) = 0 then
                  (v, q, tw)
                else
                  match f_XT_refuse tn q tw tf with
                  | (r59, tw1'60) =>
                    (-1, q, tw1'60)
          else
            f_XT_number_L22 tn tp tw tf zl zm n9 (((v * 10) + (f_XT_here tn q tw tf)) - 48) (k + 1) (q + 1)
        else
          f_XT_number_L22 tn tp tw tf zl zm n9 (((v * 10) + (f_XT_here tn q tw tf)) - 48) (k + 1) (q + 1)
    else
      if v < zl then
        match f_XT_refuseLast tn q tw tf with
        | (r2, tw1') =>
          (-1, q, tw1')
      else
        if zm < v then
          match f_XT_refuseLast tn q tw tf with
          | (r15, tw1'16) =>
            (-1, q, tw1'16)
        else
          if (f_XG_isDigit (f_XT_here tn q tw tf)) = 0 then
            (v, q, tw)
          else
            match f_XT_refuse tn q tw tf with
            | (r9, tw1'10) =>
              (-1, q, tw1'10)
  : Int × Int × Int) := by rw [f_XT_number_L22_q]; rfl
theorem f_XT_number_L22_z (tn : Int) (tp : Int) (tw : Int) (tf : Int → Int) (zl : Int) (zm : Int) (v : Int) (k : Int) (q : Int) : f_XT_number_L22 tn tp tw tf zl zm 0 v k q = (0, 0, 0) := by rw [f_XT_number_L22_q]; rfl
noncomputable def g_XT_number (tn : Int) (tp : Int) (tw : Int) (tf : Int → Int) (zl : Int) (zm : Int) : Int × Int × Int :=
  match f_XT_next tn tp tw tf with
  | (r, tp1') =>
    if (f_XG_isDigit r) = 0 then
      match f_XT_refuse tn tp1' tw tf with
      | (r71, tw1'72) =>
        (-1, tp1', tw1'72)
    else
      f_XT_number_L22 tn tp tw tf zl zm (Int.toNat (6 - 0) + 1) 0 0 tp1'
noncomputable def f_XT_number : Int → Int → Int → (Int → Int) → Int → Int → Int × Int × Int := jopq g_XT_number
theorem f_XT_number_q : f_XT_number = g_XT_number := jopq_eq _
theorem f_XT_number_s (tn : Int) (tp : Int) (tw : Int) (tf : Int → Int) (zl : Int) (zm : Int) : f_XT_number tn tp tw tf zl zm = (
    match f_XT_next tn tp tw tf with
    | (r, tp1') =>
      if (f_XG_isDigit r) = 0 then
        match f_XT_refuse tn tp1' tw tf with
        | (r71, tw1'72) =>
          (-1, tp1', tw1'72)
      else
        f_XT_number_L22 tn tp tw tf zl zm (Int.toNat (6 - 0) + 1) 0 0 tp1'
  : Int × Int × Int) := by rw [f_XT_number_q]; rfl
theorem f_XT_number_L_b (tn tp tw : Int) (tf : Int → Int) (zl zm : Int) (hn : 0 ≤ tn ∧ tn ≤ 400) (hf : ∀ i, 0 ≤ tf i ∧ tf i < 256) (hz : 0 ≤ zl ∧ zl < 1000000) : ∀ (n : Nat) (v k q : Int), 6 - k < (n : Int) → 0 ≤ k → k ≤ 6 → 0 ≤ v → 0 ≤ q ∧ q ≤ tn → (((f_XT_number_L22 tn tp tw tf zl zm n v k q).1 = -1 ∨ (zl ≤ (f_XT_number_L22 tn tp tw tf zl zm n v k q).1 ∧ (f_XT_number_L22 tn tp tw tf zl zm n v k q).1 ≤ zm)) ∧ 0 ≤ (f_XT_number_L22 tn tp tw tf zl zm n v k q).2.1 ∧ (f_XT_number_L22 tn tp tw tf zl zm n v k q).2.1 ≤ tn) := by
  intro n
  induction n with
  | zero => intro v k q h; omega
  | succ n ih =>
    intro v k q h h1 h2 h3 h4
    have hh := f_XT_here_b tn q tw tf hn h4 hf
    have hd := f_XG_isDigit_01 (f_XT_here tn q tw tf) (by omega)
    rw [f_XT_number_L22_s]; simp only [f_XT_refuse_s, f_XT_refuseLast_s]
    repeat' split
    all_goals first | (exact ih _ _ _ (by omega) (by omega) (by omega) (by omega) (by omega)) | (dsimp only; omega)
theorem f_XT_number_b (tn tp tw : Int) (tf : Int → Int) (zl zm : Int) (hn : 0 ≤ tn ∧ tn ≤ 400) (hp : 0 ≤ tp ∧ tp ≤ tn) (hf : ∀ i, 0 ≤ tf i ∧ tf i < 256) (hz : 0 ≤ zl ∧ zl < 1000000) (hc : 0 ≤ zm ∧ zm < 1000000) : ((f_XT_number tn tp tw tf zl zm).1 = -1 ∨ (zl ≤ (f_XT_number tn tp tw tf zl zm).1 ∧ (f_XT_number tn tp tw tf zl zm).1 ≤ zm)) ∧ 0 ≤ (f_XT_number tn tp tw tf zl zm).2.1 ∧ (f_XT_number tn tp tw tf zl zm).2.1 ≤ tn := by
  have h := f_XT_next_b tn tp tw tf hn hp hf
  simp only [f_XT_number_s, f_XT_refuse_s]
  split
  · dsimp only; omega
  · exact f_XT_number_L_b tn tp tw tf zl zm hn hf hz _ _ _ _ (by omega) (by omega) (by omega) (by omega) (by omega)
set_option maxHeartbeats 4000000 in
set_option maxRecDepth 100000 in
theorem c_XT_number (l : Launch) (dC : Nat → ClassId) (dI : Nat → Nat → Nat) (cA : ClassId) (sz : Nat) (ta : Nat) (ts : Nat) (tn : Int) (tp : Int) (tw : Int) (tf : Int → Int) (zl : Int) (zm : Int) (hn : 0 ≤ tn ∧ tn ≤ 400) (hp : 0 ≤ tp ∧ tp ≤ tn) (hf : ∀ i, 0 ≤ tf i ∧ tf i < 256) (hz : 0 ≤ zl ∧ zl < 1000000) (hc : 0 ≤ zm ∧ zm < 1000000) : Met l yXT_number (Cond.code yXT_number cXT_number 5 (some .int) :: TBL) ({ frames := 1, cells := 0, slots := 0, locals := 20 } : Room) (va_Pc [.ref ta, .int (jI zl), .int (jI zm)] (jBw (dC, dI) [(cA, .int)] [(ta, .inr (3, [.ref ts, .int (jI tn), .int (jI tp), .int (jI tw)])), (ts, .inl (cA, 400, .inl (jA tf)))] sz)) (va_Qi (fun (r : Int32) (u : Int × Int × Int) => r = jI u.1 ∧ u = f_XT_number tn tp tw tf zl zm) (fun u t => jE (dC, dI) [(cA, .int)] [(ta, .inr (3, [.ref ts, .int (jI tn), .int (jI tp), .int (jI tw)])), (ts, .inl (cA, 400, .inl (jA tf)))] sz [(ta, .inr (3, [.ref ts, .int (jI tn), .int (jI u.2.1), .int (jI u.2.2)])), (ts, .inl (cA, 400, .inl (jA tf)))] t) (va_A [(ta, .inr (3, [.ref ts, .int (jI tn), .int (jI tp), .int (jI tw)])), (ts, .inl (cA, 400, .inl (jA tf)))] sz)) 0 0 (va_A [(ta, .inr (3, [.ref ts, .int (jI tn), .int (jI tp), .int (jI tw)])), (ts, .inl (cA, 400, .inl (jA tf)))] sz) := by
  refine jMet (cc := cXT_number) (maxL := 5) (ret := some .int) (by decide) rfl ?_
  intro p e s m args below meth c s₁ R Q hR hQ B hml hv
  obtain ⟨rfl, hsz, hP, hK, hD0, hN⟩ := hv
  have hx := B.exec
  have hb := B.bytes
  have hr := B.returns
  have hts := atoms_spec (ws := Cond.code yXT_number cXT_number 5 (some .int) :: TBL) B.pre
  have hown : s.vm.findClass RXT = some m.cls := findClass_of_methodNamed B.named
  have hlocks := B.notSynchronized
  subst hsz
  obtain ⟨A, hAe⟩ : ∃ A, A = va_A [(ta, .inr (3, [.ref ts, .int (jI tn), .int (jI tp), .int (jI tw)])), (ts, .inl (cA, 400, .inl (jA tf)))] s.heap.size := ⟨_, rfl⟩
  have hD : va_D A [(ta, .inr (3, [.ref ts, .int (jI tn), .int (jI tp), .int (jI tw)])), (ts, .inl (cA, 400, .inl (jA tf)))] := by rw [hAe]; exact hD0.self
  have hA : ∀ q : Nat, s.heap.size ≤ q → A q := fun q h => by rw [hAe]; exact Or.inr h
  have hS : va_S A s.heap s.heap [] := va_S.rf
  have hP : va_P (dC, dI) vwCl [(ta, .inr (3, [.ref ts, .int (jI tn), .int (jI tp), .int (jI tw)])), (ts, .inl (cA, 400, .inl (jA tf)))] s.heap := hP
  have hl := lv_entry ([.ref ta, .int (jI zl), .int (jI zm)]) (n := 5) (Nat.le_of_ble_eq_true rfl)
  rw [lg_entry_eq]
  generalize (lg_sl ([.ref ta, .int (jI zl), .int (jI zm)]) ++ List.replicate (5 - (lg_sl ([.ref ta, .int (jI zl), .int (jI zm)])).length) Slot.unset).toArray = ls at hl ⊢
  have hl : lv_has ls 5 [(0, .ref ta), (1, .int (jI zl)), (2, .int (jI zm))] := hl
  refine lv_aload_n hx hb dXT_number_0 rfl (lv_at hl 0 rfl) ?_
  refine jwVi (rest := []) (wr := []) ⟨hx, hb, hml, hown, hts⟩ (c_XT_next l dC dI cA _ ta ts tn tp tw tf (by first | assumption | omega) (by first | assumption | omega) (by first | assumption | omega)) (cwV 0 hts (jG_V tw_154 tw_143 tw_144 tw_2 tw_145) rfl rfl rfl (by decide +kernel) (by rw [hR]; exact ⟨Nat.le_of_ble_eq_true rfl, Nat.le_of_ble_eq_true rfl⟩)) hK hP hD hS hA hN [0, 1] [] rfl rfl (by decide) (by decide) (by decide) 0 3 rfl rfl rfl rfl hl.1 rfl (Nat.le_of_ble_eq_true rfl) dXT_number_1 (by rw [hR]; exact ⟨Nat.le_of_ble_eq_true rfl, Nat.le_of_ble_eq_true rfl⟩) (fun v u H locs hwb hP hD hS => ?_)
  obtain ⟨r, tp1'⟩ := u
  try dsimp only at hwb
  obtain ⟨er, hwb⟩ := hwb
  subst er
  have hP : va_P (dC, dI) vwCl [(ta, .inr (3, [.ref ts, .int (jI tn), .int (jI tp1'), .int (jI tw)])), (ts, .inl (cA, 400, .inl (jA tf)))] H := hP
  have hD : va_D A [(ta, .inr (3, [.ref ts, .int (jI tn), .int (jI tp1'), .int (jI tw)])), (ts, .inl (cA, 400, .inl (jA tf)))] := hD
  have f := f_XT_next_b tn tp tw tf (by first | assumption | omega) (by first | assumption | omega) (by first | assumption | omega)
  rw [← hwb] at f; try dsimp only at f
  refine jrNi (rest := []) ⟨hx, hb, hml, hown, hts⟩ (c_XG_isDigit l dC dI cA r (by first | assumption | omega)) ⟨va_cnB 1 hts (jG (jG_c tw_200)) rfl rfl rfl (jN.n198 hN) (hts _ (jmem tw_1)) (by decide +kernel) (by rw [hR]; exact ⟨Nat.le_of_ble_eq_true rfl, Nat.le_of_ble_eq_true rfl⟩), hts _ (jmem tw_199), trivial⟩ hK hP hN [] rfl rfl hl.1 rfl (Nat.le_of_ble_eq_true rfl) dXT_number_4 (by rw [hR]; exact ⟨Nat.le_of_ble_eq_true rfl, Nat.le_of_ble_eq_true rfl⟩) ?_
  have f1 := f_XG_isDigit_01 r (by first | assumption | omega)
  refine ji_if_ne (tgt := 17) hx hb dXT_number_7 (by decide) (by omega) (fun c7_ => ?_) (fun c7_ => ?_)
  · refine ji_iconst hx hb dXT_number_17 ?_
    refine lv_istore_n (lv' := [(3, .int (jI 0)), (0, .ref ta), (1, .int (jI zl)), (2, .int (jI zm))]) hx hb dXT_number_18 rfl hl (by decide) rfl (fun ls hl => ?_)
    refine ji_iconst hx hb dXT_number_19 ?_
    refine lv_istore (lv' := [(4, .int (jI 0)), (3, .int (jI 0)), (0, .ref ta), (1, .int (jI zl)), (2, .int (jI zm))]) hx hb dXT_number_20 hl (by decide) rfl (fun ls hl => ?_)
    have loop22 : ∀ (n9 : Nat) (v : Int) (k : Int) (q : Int) , 6 - k < (n9 : Int) → f_XT_number_L22 tn tp tw tf zl zm n9 v k q = f_XT_number tn tp tw tf zl zm → (0 ≤ k ∧ k ≤ 6) → (0 ≤ v) → ((k < 1 → v < 1) ∧ (k < 2 → v < 10) ∧ (k < 3 → v < 100) ∧ (k < 4 → v < 1000) ∧ (k < 5 → v < 10000) ∧ (k < 6 → v < 100000) ∧ v < 1000000) → (0 ≤ q ∧ q ≤ tn) → ∀ (H : Heap) (locs : List Loc), va_P (dC, dI) vwCl [(ta, .inr (3, [.ref ts, .int (jI tn), .int (jI q), .int (jI tw)])), (ts, .inl (cA, 400, .inl (jA tf)))] H → va_D A [(ta, .inr (3, [.ref ts, .int (jI tn), .int (jI q), .int (jI tw)])), (ts, .inl (cA, 400, .inl (jA tf)))] → va_S A s.heap H locs → ∀ ls : Array Slot, lv_has ls 5 [(4, .int (jI k)), (3, .int (jI v)), (0, .ref ta), (1, .int (jI zl)), (2, .int (jI zm))] → W p l e R s m ([.ref ta, .int (jI zl), .int (jI zm)] : List Value).toArray below meth c H locs 0 0 Q (F0 m 22 ls []) := by
      intro n9
      induction n9 with
      | zero =>
        intro v k q hm hF hk hv hw hq
        exact absurd hm (by omega)
      | succ n9 ih22 =>
        intro v k q hm hF hk hv hw hq H locs hP hD hS ls hl
        refine lv_iload hx hb dXT_number_22 (lv_at hl 0 rfl) ?_
        refine ji_bipush hx hb dXT_number_24 (by decide) ?_
        refine ji_icmp_ge (tgt := 80) hx hb dXT_number_26 (by decide) (by omega) (by omega) (fun c26_ => ?_) (fun c26_ => ?_)
        · refine lv_iload_n hx hb dXT_number_80 rfl (lv_at hl 1 rfl) ?_
          refine lv_iload_n hx hb dXT_number_81 rfl (lv_at hl 3 rfl) ?_
          refine ji_icmp_lt (tgt := 90) hx hb dXT_number_82 (by decide) (by omega) (by omega) (fun c82_ => ?_) (fun c82_ => ?_)
          · refine lv_aload_n hx hb dXT_number_90 rfl (lv_at hl 2 rfl) ?_
            refine jwVi (rest := []) (wr := []) ⟨hx, hb, hml, hown, hts⟩ (c_XT_refuseLast l dC dI cA _ ta ts tn q tw tf) (cwV 0 hts (jG_V tw_205 tw_175 tw_176 tw_2 tw_177) rfl rfl rfl (by decide +kernel) (by rw [hR]; exact ⟨Nat.le_of_ble_eq_true rfl, Nat.le_of_ble_eq_true rfl⟩)) hK hP hD hS hA hN [0, 1] [] rfl rfl (by decide) (by decide) (by decide) 0 3 rfl rfl rfl rfl hl.1 rfl (Nat.le_of_ble_eq_true rfl) dXT_number_91 (by rw [hR]; exact ⟨Nat.le_of_ble_eq_true rfl, Nat.le_of_ble_eq_true rfl⟩) (fun v4 u3 H locs hwb5 hP hD hS => ?_)
            obtain ⟨r2, tw1'⟩ := u3
            try dsimp only at hwb5
            obtain ⟨er, hwb5⟩ := hwb5
            subst er
            have hP : va_P (dC, dI) vwCl [(ta, .inr (3, [.ref ts, .int (jI tn), .int (jI q), .int (jI tw1')])), (ts, .inl (cA, 400, .inl (jA tf)))] H := hP
            have hD : va_D A [(ta, .inr (3, [.ref ts, .int (jI tn), .int (jI q), .int (jI tw1')])), (ts, .inl (cA, 400, .inl (jA tf)))] := hD
            have f6 := f_XT_refuseLast_b tn q tw tf
            rw [← hwb5] at f6; try dsimp only at f6
            refine lv_pop hx hb dXT_number_94 rfl ?_
            refine ji_iconst hx hb dXT_number_95 ?_
            have hP9 := hP.sub (ws' := [(ta, .inr (3, [.ref ts, .int (jI tn), .int (jI q), .int (jI tw1')])), (ts, .inl (cA, 400, .inl (jA tf)))]) [0, 1] rfl
            have hD9 := hD.sub (ws' := [(ta, .inr (3, [.ref ts, .int (jI tn), .int (jI q), .int (jI tw1')])), (ts, .inl (cA, 400, .inl (jA tf)))]) [0, 1] (by decide) rfl
            subst hAe
            subst hQ
            exact W.iret (v := jI (-1)) hx hb hr (fun t ht hW => ⟨⟨_, (-1, q, tw1'), rfl, ⟨rfl, Eq.trans (by rw [f_XT_number_L22_s]; rw [if_neg (Int.not_lt.mpr c26_), if_pos c82_]; rw [← hwb5]; try dsimp only; try rfl) hF⟩, ⟨by rw [ht]; exact hP9, va_K.moved hW.alike hK, hD9⟩⟩, hS.F ht⟩) hS.2.2 dXT_number_96
          · refine lv_iload_n hx hb dXT_number_85 rfl (lv_at hl 1 rfl) ?_
            refine lv_iload_n hx hb dXT_number_86 rfl (lv_at hl 4 rfl) ?_
            refine ji_icmp_le (tgt := 97) hx hb dXT_number_87 (by decide) (by omega) (by omega) (fun c87_ => ?_) (fun c87_ => ?_)
            · refine lv_aload_n hx hb dXT_number_97 rfl (lv_at hl 2 rfl) ?_
              refine jrVi (rest := []) ⟨hx, hb, hml, hown, hts⟩ (c_XT_here l dC dI cA ta ts tn q tw tf (by first | assumption | omega) (by first | assumption | omega) (by first | assumption | omega)) (cwV 0 hts (jG_V tw_201 tw_202 tw_203 tw_2 tw_204) rfl rfl rfl (by decide +kernel) (by rw [hR]; exact ⟨Nat.le_of_ble_eq_true rfl, Nat.le_of_ble_eq_true rfl⟩)) hK hP hN [0, 1] rfl 0 3 rfl rfl rfl rfl hl.1 rfl (Nat.le_of_ble_eq_true rfl) dXT_number_98 (by rw [hR]; exact ⟨Nat.le_of_ble_eq_true rfl, Nat.le_of_ble_eq_true rfl⟩) ?_
              have f7 := f_XT_here_b tn q tw tf (by first | assumption | omega) (by first | assumption | omega) (by first | assumption | omega)
              refine jrNi (rest := []) ⟨hx, hb, hml, hown, hts⟩ (c_XG_isDigit l dC dI cA (f_XT_here tn q tw tf) (by first | assumption | omega)) ⟨va_cnB 1 hts (jG (jG_c tw_200)) rfl rfl rfl (jN.n198 hN) (hts _ (jmem tw_1)) (by decide +kernel) (by rw [hR]; exact ⟨Nat.le_of_ble_eq_true rfl, Nat.le_of_ble_eq_true rfl⟩), hts _ (jmem tw_199), trivial⟩ hK hP hN [] rfl rfl hl.1 rfl (Nat.le_of_ble_eq_true rfl) dXT_number_101 (by rw [hR]; exact ⟨Nat.le_of_ble_eq_true rfl, Nat.le_of_ble_eq_true rfl⟩) ?_
              have f8 := f_XG_isDigit_01 (f_XT_here tn q tw tf) (by first | assumption | omega)
              refine ji_if_eq (tgt := 114) hx hb dXT_number_104 (by decide) (by omega) (fun c104_ => ?_) (fun c104_ => ?_)
              · refine lv_iload_n hx hb dXT_number_114 rfl (lv_at hl 1 rfl) ?_
                have hP9 := hP.sub (ws' := [(ta, .inr (3, [.ref ts, .int (jI tn), .int (jI q), .int (jI tw)])), (ts, .inl (cA, 400, .inl (jA tf)))]) [0, 1] rfl
                have hD9 := hD.sub (ws' := [(ta, .inr (3, [.ref ts, .int (jI tn), .int (jI q), .int (jI tw)])), (ts, .inl (cA, 400, .inl (jA tf)))]) [0, 1] (by decide) rfl
                subst hAe
                subst hQ
                exact W.iret (v := jI v) hx hb hr (fun t ht hW => ⟨⟨_, (v, q, tw), rfl, ⟨rfl, Eq.trans (by rw [f_XT_number_L22_s]; rw [if_neg (Int.not_lt.mpr c26_), if_neg (Int.not_lt.mpr c82_), if_neg (Int.not_lt.mpr c87_), if_pos c104_]; try rfl) hF⟩, ⟨by rw [ht]; exact hP9, va_K.moved hW.alike hK, hD9⟩⟩, hS.F ht⟩) hS.2.2 dXT_number_115
              · refine lv_aload_n hx hb dXT_number_107 rfl (lv_at hl 2 rfl) ?_
                refine jwVi (rest := []) (wr := []) ⟨hx, hb, hml, hown, hts⟩ (c_XT_refuse l dC dI cA _ ta ts tn q tw tf) (cwV 0 hts (jG_V tw_163 tw_164 tw_165 tw_2 tw_166) rfl rfl rfl (by decide +kernel) (by rw [hR]; exact ⟨Nat.le_of_ble_eq_true rfl, Nat.le_of_ble_eq_true rfl⟩)) hK hP hD hS hA hN [0, 1] [] rfl rfl (by decide) (by decide) (by decide) 0 3 rfl rfl rfl rfl hl.1 rfl (Nat.le_of_ble_eq_true rfl) dXT_number_108 (by rw [hR]; exact ⟨Nat.le_of_ble_eq_true rfl, Nat.le_of_ble_eq_true rfl⟩) (fun v12 u11 H locs hwb13 hP hD hS => ?_)
                obtain ⟨r9, tw1'10⟩ := u11
                try dsimp only at hwb13
                obtain ⟨er, hwb13⟩ := hwb13
                subst er
                have hP : va_P (dC, dI) vwCl [(ta, .inr (3, [.ref ts, .int (jI tn), .int (jI q), .int (jI tw1'10)])), (ts, .inl (cA, 400, .inl (jA tf)))] H := hP
                have hD : va_D A [(ta, .inr (3, [.ref ts, .int (jI tn), .int (jI q), .int (jI tw1'10)])), (ts, .inl (cA, 400, .inl (jA tf)))] := hD
                have f14 := f_XT_refuse_b tn q tw tf
                rw [← hwb13] at f14; try dsimp only at f14
                refine lv_pop hx hb dXT_number_111 rfl ?_
                refine ji_iconst hx hb dXT_number_112 ?_
                have hP9 := hP.sub (ws' := [(ta, .inr (3, [.ref ts, .int (jI tn), .int (jI q), .int (jI tw1'10)])), (ts, .inl (cA, 400, .inl (jA tf)))]) [0, 1] rfl
                have hD9 := hD.sub (ws' := [(ta, .inr (3, [.ref ts, .int (jI tn), .int (jI q), .int (jI tw1'10)])), (ts, .inl (cA, 400, .inl (jA tf)))]) [0, 1] (by decide) rfl
                subst hAe
                subst hQ
                exact W.iret (v := jI (-1)) hx hb hr (fun t ht hW => ⟨⟨_, (-1, q, tw1'10), rfl, ⟨rfl, Eq.trans (by rw [f_XT_number_L22_s]; rw [if_neg (Int.not_lt.mpr c26_), if_neg (Int.not_lt.mpr c82_), if_neg (Int.not_lt.mpr c87_), if_neg c104_]; rw [← hwb13]; try dsimp only; try rfl) hF⟩, ⟨by rw [ht]; exact hP9, va_K.moved hW.alike hK, hD9⟩⟩, hS.F ht⟩) hS.2.2 dXT_number_113
            · refine lv_aload_n hx hb dXT_number_90 rfl (lv_at hl 2 rfl) ?_
              refine jwVi (rest := []) (wr := []) ⟨hx, hb, hml, hown, hts⟩ (c_XT_refuseLast l dC dI cA _ ta ts tn q tw tf) (cwV 0 hts (jG_V tw_205 tw_175 tw_176 tw_2 tw_177) rfl rfl rfl (by decide +kernel) (by rw [hR]; exact ⟨Nat.le_of_ble_eq_true rfl, Nat.le_of_ble_eq_true rfl⟩)) hK hP hD hS hA hN [0, 1] [] rfl rfl (by decide) (by decide) (by decide) 0 3 rfl rfl rfl rfl hl.1 rfl (Nat.le_of_ble_eq_true rfl) dXT_number_91 (by rw [hR]; exact ⟨Nat.le_of_ble_eq_true rfl, Nat.le_of_ble_eq_true rfl⟩) (fun v18 u17 H locs hwb19 hP hD hS => ?_)
              obtain ⟨r15, tw1'16⟩ := u17
              try dsimp only at hwb19
              obtain ⟨er, hwb19⟩ := hwb19
              subst er
              have hP : va_P (dC, dI) vwCl [(ta, .inr (3, [.ref ts, .int (jI tn), .int (jI q), .int (jI tw1'16)])), (ts, .inl (cA, 400, .inl (jA tf)))] H := hP
              have hD : va_D A [(ta, .inr (3, [.ref ts, .int (jI tn), .int (jI q), .int (jI tw1'16)])), (ts, .inl (cA, 400, .inl (jA tf)))] := hD
              have f20 := f_XT_refuseLast_b tn q tw tf
              rw [← hwb19] at f20; try dsimp only at f20
              refine lv_pop hx hb dXT_number_94 rfl ?_
              refine ji_iconst hx hb dXT_number_95 ?_
              have hP9 := hP.sub (ws' := [(ta, .inr (3, [.ref ts, .int (jI tn), .int (jI q), .int (jI tw1'16)])), (ts, .inl (cA, 400, .inl (jA tf)))]) [0, 1] rfl
              have hD9 := hD.sub (ws' := [(ta, .inr (3, [.ref ts, .int (jI tn), .int (jI q), .int (jI tw1'16)])), (ts, .inl (cA, 400, .inl (jA tf)))]) [0, 1] (by decide) rfl
              subst hAe
              subst hQ
              exact W.iret (v := jI (-1)) hx hb hr (fun t ht hW => ⟨⟨_, (-1, q, tw1'16), rfl, ⟨rfl, Eq.trans (by rw [f_XT_number_L22_s]; rw [if_neg (Int.not_lt.mpr c26_), if_neg (Int.not_lt.mpr c82_), if_pos c87_]; rw [← hwb19]; try dsimp only; try rfl) hF⟩, ⟨by rw [ht]; exact hP9, va_K.moved hW.alike hK, hD9⟩⟩, hS.F ht⟩) hS.2.2 dXT_number_96
        · refine lv_aload_n hx hb dXT_number_29 rfl (lv_at hl 2 rfl) ?_
          refine jrVi (rest := []) ⟨hx, hb, hml, hown, hts⟩ (c_XT_here l dC dI cA ta ts tn q tw tf (by first | assumption | omega) (by first | assumption | omega) (by first | assumption | omega)) (cwV 0 hts (jG_V tw_201 tw_202 tw_203 tw_2 tw_204) rfl rfl rfl (by decide +kernel) (by rw [hR]; exact ⟨Nat.le_of_ble_eq_true rfl, Nat.le_of_ble_eq_true rfl⟩)) hK hP hN [0, 1] rfl 0 3 rfl rfl rfl rfl hl.1 rfl (Nat.le_of_ble_eq_true rfl) dXT_number_30 (by rw [hR]; exact ⟨Nat.le_of_ble_eq_true rfl, Nat.le_of_ble_eq_true rfl⟩) ?_
          have f21 := f_XT_here_b tn q tw tf (by first | assumption | omega) (by first | assumption | omega) (by first | assumption | omega)
          refine jrNi (rest := []) ⟨hx, hb, hml, hown, hts⟩ (c_XG_isDigit l dC dI cA (f_XT_here tn q tw tf) (by first | assumption | omega)) ⟨va_cnB 1 hts (jG (jG_c tw_200)) rfl rfl rfl (jN.n198 hN) (hts _ (jmem tw_1)) (by decide +kernel) (by rw [hR]; exact ⟨Nat.le_of_ble_eq_true rfl, Nat.le_of_ble_eq_true rfl⟩), hts _ (jmem tw_199), trivial⟩ hK hP hN [] rfl rfl hl.1 rfl (Nat.le_of_ble_eq_true rfl) dXT_number_33 (by rw [hR]; exact ⟨Nat.le_of_ble_eq_true rfl, Nat.le_of_ble_eq_true rfl⟩) ?_
          have f22 := f_XG_isDigit_01 (f_XT_here tn q tw tf) (by first | assumption | omega)
          refine ji_if_eq (tgt := 80) hx hb dXT_number_36 (by decide) (by omega) (fun c36_ => ?_) (fun c36_ => ?_)
          · refine lv_iload_n hx hb dXT_number_80 rfl (lv_at hl 1 rfl) ?_
            refine lv_iload_n hx hb dXT_number_81 rfl (lv_at hl 3 rfl) ?_
            refine ji_icmp_lt (tgt := 90) hx hb dXT_number_82 (by decide) (by omega) (by omega) (fun c82_23 => ?_) (fun c82_23 => ?_)
            · refine lv_aload_n hx hb dXT_number_90 rfl (lv_at hl 2 rfl) ?_
              refine jwVi (rest := []) (wr := []) ⟨hx, hb, hml, hown, hts⟩ (c_XT_refuseLast l dC dI cA _ ta ts tn q tw tf) (cwV 0 hts (jG_V tw_205 tw_175 tw_176 tw_2 tw_177) rfl rfl rfl (by decide +kernel) (by rw [hR]; exact ⟨Nat.le_of_ble_eq_true rfl, Nat.le_of_ble_eq_true rfl⟩)) hK hP hD hS hA hN [0, 1] [] rfl rfl (by decide) (by decide) (by decide) 0 3 rfl rfl rfl rfl hl.1 rfl (Nat.le_of_ble_eq_true rfl) dXT_number_91 (by rw [hR]; exact ⟨Nat.le_of_ble_eq_true rfl, Nat.le_of_ble_eq_true rfl⟩) (fun v27 u26 H locs hwb28 hP hD hS => ?_)
              obtain ⟨r24, tw1'25⟩ := u26
              try dsimp only at hwb28
              obtain ⟨er, hwb28⟩ := hwb28
              subst er
              have hP : va_P (dC, dI) vwCl [(ta, .inr (3, [.ref ts, .int (jI tn), .int (jI q), .int (jI tw1'25)])), (ts, .inl (cA, 400, .inl (jA tf)))] H := hP
              have hD : va_D A [(ta, .inr (3, [.ref ts, .int (jI tn), .int (jI q), .int (jI tw1'25)])), (ts, .inl (cA, 400, .inl (jA tf)))] := hD
              have f29 := f_XT_refuseLast_b tn q tw tf
              rw [← hwb28] at f29; try dsimp only at f29
              refine lv_pop hx hb dXT_number_94 rfl ?_
              refine ji_iconst hx hb dXT_number_95 ?_
              have hP9 := hP.sub (ws' := [(ta, .inr (3, [.ref ts, .int (jI tn), .int (jI q), .int (jI tw1'25)])), (ts, .inl (cA, 400, .inl (jA tf)))]) [0, 1] rfl
              have hD9 := hD.sub (ws' := [(ta, .inr (3, [.ref ts, .int (jI tn), .int (jI q), .int (jI tw1'25)])), (ts, .inl (cA, 400, .inl (jA tf)))]) [0, 1] (by decide) rfl
              subst hAe
              subst hQ
              exact W.iret (v := jI (-1)) hx hb hr (fun t ht hW => ⟨⟨_, (-1, q, tw1'25), rfl, ⟨rfl, Eq.trans (by rw [f_XT_number_L22_s]; rw [if_pos c26_, if_pos c36_, if_pos c82_23]; rw [← hwb28]; try dsimp only; try rfl) hF⟩, ⟨by rw [ht]; exact hP9, va_K.moved hW.alike hK, hD9⟩⟩, hS.F ht⟩) hS.2.2 dXT_number_96
            · refine lv_iload_n hx hb dXT_number_85 rfl (lv_at hl 1 rfl) ?_
              refine lv_iload_n hx hb dXT_number_86 rfl (lv_at hl 4 rfl) ?_
              refine ji_icmp_le (tgt := 97) hx hb dXT_number_87 (by decide) (by omega) (by omega) (fun c87_30 => ?_) (fun c87_30 => ?_)
              · refine lv_aload_n hx hb dXT_number_97 rfl (lv_at hl 2 rfl) ?_
                refine jrVi (rest := []) ⟨hx, hb, hml, hown, hts⟩ (c_XT_here l dC dI cA ta ts tn q tw tf (by first | assumption | omega) (by first | assumption | omega) (by first | assumption | omega)) (cwV 0 hts (jG_V tw_201 tw_202 tw_203 tw_2 tw_204) rfl rfl rfl (by decide +kernel) (by rw [hR]; exact ⟨Nat.le_of_ble_eq_true rfl, Nat.le_of_ble_eq_true rfl⟩)) hK hP hN [0, 1] rfl 0 3 rfl rfl rfl rfl hl.1 rfl (Nat.le_of_ble_eq_true rfl) dXT_number_98 (by rw [hR]; exact ⟨Nat.le_of_ble_eq_true rfl, Nat.le_of_ble_eq_true rfl⟩) ?_
                have f31 := f_XT_here_b tn q tw tf (by first | assumption | omega) (by first | assumption | omega) (by first | assumption | omega)
                refine jrNi (rest := []) ⟨hx, hb, hml, hown, hts⟩ (c_XG_isDigit l dC dI cA (f_XT_here tn q tw tf) (by first | assumption | omega)) ⟨va_cnB 1 hts (jG (jG_c tw_200)) rfl rfl rfl (jN.n198 hN) (hts _ (jmem tw_1)) (by decide +kernel) (by rw [hR]; exact ⟨Nat.le_of_ble_eq_true rfl, Nat.le_of_ble_eq_true rfl⟩), hts _ (jmem tw_199), trivial⟩ hK hP hN [] rfl rfl hl.1 rfl (Nat.le_of_ble_eq_true rfl) dXT_number_101 (by rw [hR]; exact ⟨Nat.le_of_ble_eq_true rfl, Nat.le_of_ble_eq_true rfl⟩) ?_
                have f32 := f_XG_isDigit_01 (f_XT_here tn q tw tf) (by first | assumption | omega)
                refine ji_if_eq (tgt := 114) hx hb dXT_number_104 (by decide) (by omega) (fun c104_33 => ?_) (fun c104_33 => ?_)
                · refine lv_iload_n hx hb dXT_number_114 rfl (lv_at hl 1 rfl) ?_
                  have hP9 := hP.sub (ws' := [(ta, .inr (3, [.ref ts, .int (jI tn), .int (jI q), .int (jI tw)])), (ts, .inl (cA, 400, .inl (jA tf)))]) [0, 1] rfl
                  have hD9 := hD.sub (ws' := [(ta, .inr (3, [.ref ts, .int (jI tn), .int (jI q), .int (jI tw)])), (ts, .inl (cA, 400, .inl (jA tf)))]) [0, 1] (by decide) rfl
                  subst hAe
                  subst hQ
                  exact W.iret (v := jI v) hx hb hr (fun t ht hW => ⟨⟨_, (v, q, tw), rfl, ⟨rfl, Eq.trans (by rw [f_XT_number_L22_s]; rw [if_pos c26_, if_pos c36_, if_neg (Int.not_lt.mpr c82_23), if_neg (Int.not_lt.mpr c87_30), if_pos c104_33]; try rfl) hF⟩, ⟨by rw [ht]; exact hP9, va_K.moved hW.alike hK, hD9⟩⟩, hS.F ht⟩) hS.2.2 dXT_number_115
                · refine lv_aload_n hx hb dXT_number_107 rfl (lv_at hl 2 rfl) ?_
                  refine jwVi (rest := []) (wr := []) ⟨hx, hb, hml, hown, hts⟩ (c_XT_refuse l dC dI cA _ ta ts tn q tw tf) (cwV 0 hts (jG_V tw_163 tw_164 tw_165 tw_2 tw_166) rfl rfl rfl (by decide +kernel) (by rw [hR]; exact ⟨Nat.le_of_ble_eq_true rfl, Nat.le_of_ble_eq_true rfl⟩)) hK hP hD hS hA hN [0, 1] [] rfl rfl (by decide) (by decide) (by decide) 0 3 rfl rfl rfl rfl hl.1 rfl (Nat.le_of_ble_eq_true rfl) dXT_number_108 (by rw [hR]; exact ⟨Nat.le_of_ble_eq_true rfl, Nat.le_of_ble_eq_true rfl⟩) (fun v37 u36 H locs hwb38 hP hD hS => ?_)
                  obtain ⟨r34, tw1'35⟩ := u36
                  try dsimp only at hwb38
                  obtain ⟨er, hwb38⟩ := hwb38
                  subst er
                  have hP : va_P (dC, dI) vwCl [(ta, .inr (3, [.ref ts, .int (jI tn), .int (jI q), .int (jI tw1'35)])), (ts, .inl (cA, 400, .inl (jA tf)))] H := hP
                  have hD : va_D A [(ta, .inr (3, [.ref ts, .int (jI tn), .int (jI q), .int (jI tw1'35)])), (ts, .inl (cA, 400, .inl (jA tf)))] := hD
                  have f39 := f_XT_refuse_b tn q tw tf
                  rw [← hwb38] at f39; try dsimp only at f39
                  refine lv_pop hx hb dXT_number_111 rfl ?_
                  refine ji_iconst hx hb dXT_number_112 ?_
                  have hP9 := hP.sub (ws' := [(ta, .inr (3, [.ref ts, .int (jI tn), .int (jI q), .int (jI tw1'35)])), (ts, .inl (cA, 400, .inl (jA tf)))]) [0, 1] rfl
                  have hD9 := hD.sub (ws' := [(ta, .inr (3, [.ref ts, .int (jI tn), .int (jI q), .int (jI tw1'35)])), (ts, .inl (cA, 400, .inl (jA tf)))]) [0, 1] (by decide) rfl
                  subst hAe
                  subst hQ
                  exact W.iret (v := jI (-1)) hx hb hr (fun t ht hW => ⟨⟨_, (-1, q, tw1'35), rfl, ⟨rfl, Eq.trans (by rw [f_XT_number_L22_s]; rw [if_pos c26_, if_pos c36_, if_neg (Int.not_lt.mpr c82_23), if_neg (Int.not_lt.mpr c87_30), if_neg c104_33]; rw [← hwb38]; try dsimp only; try rfl) hF⟩, ⟨by rw [ht]; exact hP9, va_K.moved hW.alike hK, hD9⟩⟩, hS.F ht⟩) hS.2.2 dXT_number_113
              · refine lv_aload_n hx hb dXT_number_90 rfl (lv_at hl 2 rfl) ?_
                refine jwVi (rest := []) (wr := []) ⟨hx, hb, hml, hown, hts⟩ (c_XT_refuseLast l dC dI cA _ ta ts tn q tw tf) (cwV 0 hts (jG_V tw_205 tw_175 tw_176 tw_2 tw_177) rfl rfl rfl (by decide +kernel) (by rw [hR]; exact ⟨Nat.le_of_ble_eq_true rfl, Nat.le_of_ble_eq_true rfl⟩)) hK hP hD hS hA hN [0, 1] [] rfl rfl (by decide) (by decide) (by decide) 0 3 rfl rfl rfl rfl hl.1 rfl (Nat.le_of_ble_eq_true rfl) dXT_number_91 (by rw [hR]; exact ⟨Nat.le_of_ble_eq_true rfl, Nat.le_of_ble_eq_true rfl⟩) (fun v43 u42 H locs hwb44 hP hD hS => ?_)
                obtain ⟨r40, tw1'41⟩ := u42
                try dsimp only at hwb44
                obtain ⟨er, hwb44⟩ := hwb44
                subst er
                have hP : va_P (dC, dI) vwCl [(ta, .inr (3, [.ref ts, .int (jI tn), .int (jI q), .int (jI tw1'41)])), (ts, .inl (cA, 400, .inl (jA tf)))] H := hP
                have hD : va_D A [(ta, .inr (3, [.ref ts, .int (jI tn), .int (jI q), .int (jI tw1'41)])), (ts, .inl (cA, 400, .inl (jA tf)))] := hD
                have f45 := f_XT_refuseLast_b tn q tw tf
                rw [← hwb44] at f45; try dsimp only at f45
                refine lv_pop hx hb dXT_number_94 rfl ?_
                refine ji_iconst hx hb dXT_number_95 ?_
                have hP9 := hP.sub (ws' := [(ta, .inr (3, [.ref ts, .int (jI tn), .int (jI q), .int (jI tw1'41)])), (ts, .inl (cA, 400, .inl (jA tf)))]) [0, 1] rfl
                have hD9 := hD.sub (ws' := [(ta, .inr (3, [.ref ts, .int (jI tn), .int (jI q), .int (jI tw1'41)])), (ts, .inl (cA, 400, .inl (jA tf)))]) [0, 1] (by decide) rfl
                subst hAe
                subst hQ
                exact W.iret (v := jI (-1)) hx hb hr (fun t ht hW => ⟨⟨_, (-1, q, tw1'41), rfl, ⟨rfl, Eq.trans (by rw [f_XT_number_L22_s]; rw [if_pos c26_, if_pos c36_, if_neg (Int.not_lt.mpr c82_23), if_pos c87_30]; rw [← hwb44]; try dsimp only; try rfl) hF⟩, ⟨by rw [ht]; exact hP9, va_K.moved hW.alike hK, hD9⟩⟩, hS.F ht⟩) hS.2.2 dXT_number_96
          · refine lv_iload hx hb dXT_number_39 (lv_at hl 0 rfl) ?_
            refine ji_if_le (tgt := 51) hx hb dXT_number_41 (by decide) (by omega) (fun c41_ => ?_) (fun c41_ => ?_)
            · refine lv_iload_n hx hb dXT_number_51 rfl (lv_at hl 1 rfl) ?_
              refine ji_bipush hx hb dXT_number_52 (by decide) ?_
              refine ji_imul hx hb dXT_number_54 ?_
              refine lv_aload_n hx hb dXT_number_55 rfl (lv_at hl 2 rfl) ?_
              refine jrVi (rest := [.int (jI (v * 10))]) ⟨hx, hb, hml, hown, hts⟩ (c_XT_here l dC dI cA ta ts tn q tw tf (by first | assumption | omega) (by first | assumption | omega) (by first | assumption | omega)) (cwV 0 hts (jG_V tw_201 tw_202 tw_203 tw_2 tw_204) rfl rfl rfl (by decide +kernel) (by rw [hR]; exact ⟨Nat.le_of_ble_eq_true rfl, Nat.le_of_ble_eq_true rfl⟩)) hK hP hN [0, 1] rfl 0 3 rfl rfl rfl rfl hl.1 rfl (Nat.le_of_ble_eq_true rfl) dXT_number_56 (by rw [hR]; exact ⟨Nat.le_of_ble_eq_true rfl, Nat.le_of_ble_eq_true rfl⟩) ?_
              have f46 := f_XT_here_b tn q tw tf (by first | assumption | omega) (by first | assumption | omega) (by first | assumption | omega)
              refine ji_iadd hx hb dXT_number_59 ?_
              refine ji_bipush hx hb dXT_number_60 (by decide) ?_
              refine ji_isub hx hb dXT_number_62 ?_
              refine lv_istore_n (lv' := [(3, .int (jI (((v * 10) + (f_XT_here tn q tw tf)) - 48))), (4, .int (jI k)), (0, .ref ta), (1, .int (jI zl)), (2, .int (jI zm))]) hx hb dXT_number_63 rfl hl (by decide) rfl (fun ls hl => ?_)
              refine lv_aload_n hx hb dXT_number_64 rfl (lv_at hl 2 rfl) ?_
              refine lv_dup hx hb dXT_number_65 rfl ?_
              refine va_get (D := (dC, dI)) (ci := 3) (v := .int (jI q)) (C := RXT) (T := TXT) (N := 4) hx hb hts (fun w h => jmem (inXT w h)) hown hK hP 0 rfl rfl 2 (by decide) (hts _ (jmem tw_32)) (fun _ h9 => h9) rfl dXT_number_66 ?_
              refine ji_iconst hx hb dXT_number_69 ?_
              refine ji_iadd hx hb dXT_number_70 ?_
              refine va_put (D := (dC, dI)) (ci := 3) (v := .int (jI (q + 1))) (ty := (.int)) (C := RXT) (T := TXT) (N := 4) hx hb hts (fun w h => jmem (inXT w h)) tyXT tyXT_ok nXT hown hK hP hD hS 0 rfl rfl 2 (by decide) (hts _ (jmem tw_32)) (fun _ h9 => h9) rfl (by decide +kernel) rfl rfl (Nat.le_of_ble_eq_true rfl) dXT_number_71 (fun H locs hP hD hS => ?_)
              have hP : va_P (dC, dI) vwCl [(ta, .inr (3, [.ref ts, .int (jI tn), .int (jI (q + 1)), .int (jI tw)])), (ts, .inl (cA, 400, .inl (jA tf)))] H := hP
              have hD : va_D A [(ta, .inr (3, [.ref ts, .int (jI tn), .int (jI (q + 1)), .int (jI tw)])), (ts, .inl (cA, 400, .inl (jA tf)))] := hD
              refine ji_iinc (k := 1) (lv' := [(4, .int (jI (k + 1))), (3, .int (jI (((v * 10) + (f_XT_here tn q tw tf)) - 48))), (0, .ref ta), (1, .int (jI zl)), (2, .int (jI zm))]) hx hb dXT_number_74 hl rfl (by decide) rfl (fun ls hl => ?_)
              refine lv_goto (tgt := 22) hx hb dXT_number_77 (by decide) ?_
              exact ih22 (((v * 10) + (f_XT_here tn q tw tf)) - 48) (k + 1) (q + 1) (by omega) (Eq.trans (by rw [f_XT_number_L22_s]; rw [if_pos c26_, if_neg c36_, if_neg (Int.not_lt.mpr c41_)]; try rfl) hF) (by first | assumption | omega) (by first | assumption | omega) (by first | assumption | omega) (by first | assumption | omega) _ _ hP hD hS ls (lv_sub hl [0, 1, 2, 3, 4] rfl)
            · refine lv_iload_n hx hb dXT_number_44 rfl (lv_at hl 1 rfl) ?_
              refine ji_if_ne (tgt := 51) hx hb dXT_number_45 (by decide) (by omega) (fun c45_ => ?_) (fun c45_ => ?_)
              · refine lv_iload_n hx hb dXT_number_51 rfl (lv_at hl 1 rfl) ?_
                refine ji_bipush hx hb dXT_number_52 (by decide) ?_
                refine ji_imul hx hb dXT_number_54 ?_
                refine lv_aload_n hx hb dXT_number_55 rfl (lv_at hl 2 rfl) ?_
                refine jrVi (rest := [.int (jI (v * 10))]) ⟨hx, hb, hml, hown, hts⟩ (c_XT_here l dC dI cA ta ts tn q tw tf (by first | assumption | omega) (by first | assumption | omega) (by first | assumption | omega)) (cwV 0 hts (jG_V tw_201 tw_202 tw_203 tw_2 tw_204) rfl rfl rfl (by decide +kernel) (by rw [hR]; exact ⟨Nat.le_of_ble_eq_true rfl, Nat.le_of_ble_eq_true rfl⟩)) hK hP hN [0, 1] rfl 0 3 rfl rfl rfl rfl hl.1 rfl (Nat.le_of_ble_eq_true rfl) dXT_number_56 (by rw [hR]; exact ⟨Nat.le_of_ble_eq_true rfl, Nat.le_of_ble_eq_true rfl⟩) ?_
                have f47 := f_XT_here_b tn q tw tf (by first | assumption | omega) (by first | assumption | omega) (by first | assumption | omega)
                refine ji_iadd hx hb dXT_number_59 ?_
                refine ji_bipush hx hb dXT_number_60 (by decide) ?_
                refine ji_isub hx hb dXT_number_62 ?_
                refine lv_istore_n (lv' := [(3, .int (jI (((v * 10) + (f_XT_here tn q tw tf)) - 48))), (4, .int (jI k)), (0, .ref ta), (1, .int (jI zl)), (2, .int (jI zm))]) hx hb dXT_number_63 rfl hl (by decide) rfl (fun ls hl => ?_)
                refine lv_aload_n hx hb dXT_number_64 rfl (lv_at hl 2 rfl) ?_
                refine lv_dup hx hb dXT_number_65 rfl ?_
                refine va_get (D := (dC, dI)) (ci := 3) (v := .int (jI q)) (C := RXT) (T := TXT) (N := 4) hx hb hts (fun w h => jmem (inXT w h)) hown hK hP 0 rfl rfl 2 (by decide) (hts _ (jmem tw_32)) (fun _ h9 => h9) rfl dXT_number_66 ?_
                refine ji_iconst hx hb dXT_number_69 ?_
                refine ji_iadd hx hb dXT_number_70 ?_
                refine va_put (D := (dC, dI)) (ci := 3) (v := .int (jI (q + 1))) (ty := (.int)) (C := RXT) (T := TXT) (N := 4) hx hb hts (fun w h => jmem (inXT w h)) tyXT tyXT_ok nXT hown hK hP hD hS 0 rfl rfl 2 (by decide) (hts _ (jmem tw_32)) (fun _ h9 => h9) rfl (by decide +kernel) rfl rfl (Nat.le_of_ble_eq_true rfl) dXT_number_71 (fun H locs hP hD hS => ?_)
                have hP : va_P (dC, dI) vwCl [(ta, .inr (3, [.ref ts, .int (jI tn), .int (jI (q + 1)), .int (jI tw)])), (ts, .inl (cA, 400, .inl (jA tf)))] H := hP
                have hD : va_D A [(ta, .inr (3, [.ref ts, .int (jI tn), .int (jI (q + 1)), .int (jI tw)])), (ts, .inl (cA, 400, .inl (jA tf)))] := hD
                refine ji_iinc (k := 1) (lv' := [(4, .int (jI (k + 1))), (3, .int (jI (((v * 10) + (f_XT_here tn q tw tf)) - 48))), (0, .ref ta), (1, .int (jI zl)), (2, .int (jI zm))]) hx hb dXT_number_74 hl rfl (by decide) rfl (fun ls hl => ?_)
                refine lv_goto (tgt := 22) hx hb dXT_number_77 (by decide) ?_
                exact ih22 (((v * 10) + (f_XT_here tn q tw tf)) - 48) (k + 1) (q + 1) (by omega) (Eq.trans (by rw [f_XT_number_L22_s]; rw [if_pos c26_, if_neg c36_, if_pos c41_, if_neg c45_]; try rfl) hF) (by first | assumption | omega) (by first | assumption | omega) (by first | assumption | omega) (by first | assumption | omega) _ _ hP hD hS ls (lv_sub hl [0, 1, 2, 3, 4] rfl)
              · refine lv_goto (tgt := 80) hx hb dXT_number_48 (by decide) ?_
                refine lv_iload_n hx hb dXT_number_80 rfl (lv_at hl 1 rfl) ?_
                refine lv_iload_n hx hb dXT_number_81 rfl (lv_at hl 3 rfl) ?_
                refine ji_icmp_lt (tgt := 90) hx hb dXT_number_82 (by decide) (by omega) (by omega) (fun c82_48 => ?_) (fun c82_48 => ?_)
                · refine lv_aload_n hx hb dXT_number_90 rfl (lv_at hl 2 rfl) ?_
                  refine jwVi (rest := []) (wr := []) ⟨hx, hb, hml, hown, hts⟩ (c_XT_refuseLast l dC dI cA _ ta ts tn q tw tf) (cwV 0 hts (jG_V tw_205 tw_175 tw_176 tw_2 tw_177) rfl rfl rfl (by decide +kernel) (by rw [hR]; exact ⟨Nat.le_of_ble_eq_true rfl, Nat.le_of_ble_eq_true rfl⟩)) hK hP hD hS hA hN [0, 1] [] rfl rfl (by decide) (by decide) (by decide) 0 3 rfl rfl rfl rfl hl.1 rfl (Nat.le_of_ble_eq_true rfl) dXT_number_91 (by rw [hR]; exact ⟨Nat.le_of_ble_eq_true rfl, Nat.le_of_ble_eq_true rfl⟩) (fun v52 u51 H locs hwb53 hP hD hS => ?_)
                  obtain ⟨r49, tw1'50⟩ := u51
                  try dsimp only at hwb53
                  obtain ⟨er, hwb53⟩ := hwb53
                  subst er
                  have hP : va_P (dC, dI) vwCl [(ta, .inr (3, [.ref ts, .int (jI tn), .int (jI q), .int (jI tw1'50)])), (ts, .inl (cA, 400, .inl (jA tf)))] H := hP
                  have hD : va_D A [(ta, .inr (3, [.ref ts, .int (jI tn), .int (jI q), .int (jI tw1'50)])), (ts, .inl (cA, 400, .inl (jA tf)))] := hD
                  have f54 := f_XT_refuseLast_b tn q tw tf
                  rw [← hwb53] at f54; try dsimp only at f54
                  refine lv_pop hx hb dXT_number_94 rfl ?_
                  refine ji_iconst hx hb dXT_number_95 ?_
                  have hP9 := hP.sub (ws' := [(ta, .inr (3, [.ref ts, .int (jI tn), .int (jI q), .int (jI tw1'50)])), (ts, .inl (cA, 400, .inl (jA tf)))]) [0, 1] rfl
                  have hD9 := hD.sub (ws' := [(ta, .inr (3, [.ref ts, .int (jI tn), .int (jI q), .int (jI tw1'50)])), (ts, .inl (cA, 400, .inl (jA tf)))]) [0, 1] (by decide) rfl
                  subst hAe
                  subst hQ
                  exact W.iret (v := jI (-1)) hx hb hr (fun t ht hW => ⟨⟨_, (-1, q, tw1'50), rfl, ⟨rfl, Eq.trans (by rw [f_XT_number_L22_s]; rw [if_pos c26_, if_neg c36_, if_pos c41_, if_pos c45_, if_pos c82_48]; rw [← hwb53]; try dsimp only; try rfl) hF⟩, ⟨by rw [ht]; exact hP9, va_K.moved hW.alike hK, hD9⟩⟩, hS.F ht⟩) hS.2.2 dXT_number_96
                · refine lv_iload_n hx hb dXT_number_85 rfl (lv_at hl 1 rfl) ?_
                  refine lv_iload_n hx hb dXT_number_86 rfl (lv_at hl 4 rfl) ?_
                  refine ji_icmp_le (tgt := 97) hx hb dXT_number_87 (by decide) (by omega) (by omega) (fun c87_55 => ?_) (fun c87_55 => ?_)
                  · refine lv_aload_n hx hb dXT_number_97 rfl (lv_at hl 2 rfl) ?_
                    refine jrVi (rest := []) ⟨hx, hb, hml, hown, hts⟩ (c_XT_here l dC dI cA ta ts tn q tw tf (by first | assumption | omega) (by first | assumption | omega) (by first | assumption | omega)) (cwV 0 hts (jG_V tw_201 tw_202 tw_203 tw_2 tw_204) rfl rfl rfl (by decide +kernel) (by rw [hR]; exact ⟨Nat.le_of_ble_eq_true rfl, Nat.le_of_ble_eq_true rfl⟩)) hK hP hN [0, 1] rfl 0 3 rfl rfl rfl rfl hl.1 rfl (Nat.le_of_ble_eq_true rfl) dXT_number_98 (by rw [hR]; exact ⟨Nat.le_of_ble_eq_true rfl, Nat.le_of_ble_eq_true rfl⟩) ?_
                    have f56 := f_XT_here_b tn q tw tf (by first | assumption | omega) (by first | assumption | omega) (by first | assumption | omega)
                    refine jrNi (rest := []) ⟨hx, hb, hml, hown, hts⟩ (c_XG_isDigit l dC dI cA (f_XT_here tn q tw tf) (by first | assumption | omega)) ⟨va_cnB 1 hts (jG (jG_c tw_200)) rfl rfl rfl (jN.n198 hN) (hts _ (jmem tw_1)) (by decide +kernel) (by rw [hR]; exact ⟨Nat.le_of_ble_eq_true rfl, Nat.le_of_ble_eq_true rfl⟩), hts _ (jmem tw_199), trivial⟩ hK hP hN [] rfl rfl hl.1 rfl (Nat.le_of_ble_eq_true rfl) dXT_number_101 (by rw [hR]; exact ⟨Nat.le_of_ble_eq_true rfl, Nat.le_of_ble_eq_true rfl⟩) ?_
                    have f57 := f_XG_isDigit_01 (f_XT_here tn q tw tf) (by first | assumption | omega)
                    refine ji_if_eq (tgt := 114) hx hb dXT_number_104 (by decide) (by omega) (fun c104_58 => ?_) (fun c104_58 => ?_)
                    · refine lv_iload_n hx hb dXT_number_114 rfl (lv_at hl 1 rfl) ?_
                      have hP9 := hP.sub (ws' := [(ta, .inr (3, [.ref ts, .int (jI tn), .int (jI q), .int (jI tw)])), (ts, .inl (cA, 400, .inl (jA tf)))]) [0, 1] rfl
                      have hD9 := hD.sub (ws' := [(ta, .inr (3, [.ref ts, .int (jI tn), .int (jI q), .int (jI tw)])), (ts, .inl (cA, 400, .inl (jA tf)))]) [0, 1] (by decide) rfl
                      subst hAe
                      subst hQ
                      exact W.iret (v := jI v) hx hb hr (fun t ht hW => ⟨⟨_, (v, q, tw), rfl, ⟨rfl, Eq.trans (by rw [f_XT_number_L22_s]; rw [if_pos c26_, if_neg c36_, if_pos c41_, if_pos c45_, if_neg (Int.not_lt.mpr c82_48), if_neg (Int.not_lt.mpr c87_55), if_pos c104_58]; try rfl) hF⟩, ⟨by rw [ht]; exact hP9, va_K.moved hW.alike hK, hD9⟩⟩, hS.F ht⟩) hS.2.2 dXT_number_115
                    · refine lv_aload_n hx hb dXT_number_107 rfl (lv_at hl 2 rfl) ?_
                      refine jwVi (rest := []) (wr := []) ⟨hx, hb, hml, hown, hts⟩ (c_XT_refuse l dC dI cA _ ta ts tn q tw tf) (cwV 0 hts (jG_V tw_163 tw_164 tw_165 tw_2 tw_166) rfl rfl rfl (by decide +kernel) (by rw [hR]; exact ⟨Nat.le_of_ble_eq_true rfl, Nat.le_of_ble_eq_true rfl⟩)) hK hP hD hS hA hN [0, 1] [] rfl rfl (by decide) (by decide) (by decide) 0 3 rfl rfl rfl rfl hl.1 rfl (Nat.le_of_ble_eq_true rfl) dXT_number_108 (by rw [hR]; exact ⟨Nat.le_of_ble_eq_true rfl, Nat.le_of_ble_eq_true rfl⟩) (fun v62 u61 H locs hwb63 hP hD hS => ?_)
                      obtain ⟨r59, tw1'60⟩ := u61
                      try dsimp only at hwb63
                      obtain ⟨er, hwb63⟩ := hwb63
                      subst er
                      have hP : va_P (dC, dI) vwCl [(ta, .inr (3, [.ref ts, .int (jI tn), .int (jI q), .int (jI tw1'60)])), (ts, .inl (cA, 400, .inl (jA tf)))] H := hP
                      have hD : va_D A [(ta, .inr (3, [.ref ts, .int (jI tn), .int (jI q), .int (jI tw1'60)])), (ts, .inl (cA, 400, .inl (jA tf)))] := hD
                      have f64 := f_XT_refuse_b tn q tw tf
                      rw [← hwb63] at f64; try dsimp only at f64
                      refine lv_pop hx hb dXT_number_111 rfl ?_
                      refine ji_iconst hx hb dXT_number_112 ?_
                      have hP9 := hP.sub (ws' := [(ta, .inr (3, [.ref ts, .int (jI tn), .int (jI q), .int (jI tw1'60)])), (ts, .inl (cA, 400, .inl (jA tf)))]) [0, 1] rfl
                      have hD9 := hD.sub (ws' := [(ta, .inr (3, [.ref ts, .int (jI tn), .int (jI q), .int (jI tw1'60)])), (ts, .inl (cA, 400, .inl (jA tf)))]) [0, 1] (by decide) rfl
                      subst hAe
                      subst hQ
                      exact W.iret (v := jI (-1)) hx hb hr (fun t ht hW => ⟨⟨_, (-1, q, tw1'60), rfl, ⟨rfl, Eq.trans (by rw [f_XT_number_L22_s]; rw [if_pos c26_, if_neg c36_, if_pos c41_, if_pos c45_, if_neg (Int.not_lt.mpr c82_48), if_neg (Int.not_lt.mpr c87_55), if_neg c104_58]; rw [← hwb63]; try dsimp only; try rfl) hF⟩, ⟨by rw [ht]; exact hP9, va_K.moved hW.alike hK, hD9⟩⟩, hS.F ht⟩) hS.2.2 dXT_number_113
                  · refine lv_aload_n hx hb dXT_number_90 rfl (lv_at hl 2 rfl) ?_
                    refine jwVi (rest := []) (wr := []) ⟨hx, hb, hml, hown, hts⟩ (c_XT_refuseLast l dC dI cA _ ta ts tn q tw tf) (cwV 0 hts (jG_V tw_205 tw_175 tw_176 tw_2 tw_177) rfl rfl rfl (by decide +kernel) (by rw [hR]; exact ⟨Nat.le_of_ble_eq_true rfl, Nat.le_of_ble_eq_true rfl⟩)) hK hP hD hS hA hN [0, 1] [] rfl rfl (by decide) (by decide) (by decide) 0 3 rfl rfl rfl rfl hl.1 rfl (Nat.le_of_ble_eq_true rfl) dXT_number_91 (by rw [hR]; exact ⟨Nat.le_of_ble_eq_true rfl, Nat.le_of_ble_eq_true rfl⟩) (fun v68 u67 H locs hwb69 hP hD hS => ?_)
                    obtain ⟨r65, tw1'66⟩ := u67
                    try dsimp only at hwb69
                    obtain ⟨er, hwb69⟩ := hwb69
                    subst er
                    have hP : va_P (dC, dI) vwCl [(ta, .inr (3, [.ref ts, .int (jI tn), .int (jI q), .int (jI tw1'66)])), (ts, .inl (cA, 400, .inl (jA tf)))] H := hP
                    have hD : va_D A [(ta, .inr (3, [.ref ts, .int (jI tn), .int (jI q), .int (jI tw1'66)])), (ts, .inl (cA, 400, .inl (jA tf)))] := hD
                    have f70 := f_XT_refuseLast_b tn q tw tf
                    rw [← hwb69] at f70; try dsimp only at f70
                    refine lv_pop hx hb dXT_number_94 rfl ?_
                    refine ji_iconst hx hb dXT_number_95 ?_
                    have hP9 := hP.sub (ws' := [(ta, .inr (3, [.ref ts, .int (jI tn), .int (jI q), .int (jI tw1'66)])), (ts, .inl (cA, 400, .inl (jA tf)))]) [0, 1] rfl
                    have hD9 := hD.sub (ws' := [(ta, .inr (3, [.ref ts, .int (jI tn), .int (jI q), .int (jI tw1'66)])), (ts, .inl (cA, 400, .inl (jA tf)))]) [0, 1] (by decide) rfl
                    subst hAe
                    subst hQ
                    exact W.iret (v := jI (-1)) hx hb hr (fun t ht hW => ⟨⟨_, (-1, q, tw1'66), rfl, ⟨rfl, Eq.trans (by rw [f_XT_number_L22_s]; rw [if_pos c26_, if_neg c36_, if_pos c41_, if_pos c45_, if_neg (Int.not_lt.mpr c82_48), if_pos c87_55]; rw [← hwb69]; try dsimp only; try rfl) hF⟩, ⟨by rw [ht]; exact hP9, va_K.moved hW.alike hK, hD9⟩⟩, hS.F ht⟩) hS.2.2 dXT_number_96
    exact loop22 (Int.toNat (6 - 0) + 1) 0 0 tp1' (by omega) (Eq.trans (by rw [f_XT_number_s]; rw [← hwb]; try dsimp only; rw [if_neg c7_]; try rfl) rfl) (by first | assumption | omega) (by first | assumption | omega) (by first | assumption | omega) (by first | assumption | omega) _ _ hP hD hS ls (lv_sub hl [0, 1, 2, 3, 4] rfl)
  · refine lv_aload_n hx hb dXT_number_10 rfl (lv_at hl 0 rfl) ?_
    refine jwVi (rest := []) (wr := []) ⟨hx, hb, hml, hown, hts⟩ (c_XT_refuse l dC dI cA _ ta ts tn tp1' tw tf) (cwV 0 hts (jG_V tw_163 tw_164 tw_165 tw_2 tw_166) rfl rfl rfl (by decide +kernel) (by rw [hR]; exact ⟨Nat.le_of_ble_eq_true rfl, Nat.le_of_ble_eq_true rfl⟩)) hK hP hD hS hA hN [0, 1] [] rfl rfl (by decide) (by decide) (by decide) 0 3 rfl rfl rfl rfl hl.1 rfl (Nat.le_of_ble_eq_true rfl) dXT_number_11 (by rw [hR]; exact ⟨Nat.le_of_ble_eq_true rfl, Nat.le_of_ble_eq_true rfl⟩) (fun v74 u73 H locs hwb75 hP hD hS => ?_)
    obtain ⟨r71, tw1'72⟩ := u73
    try dsimp only at hwb75
    obtain ⟨er, hwb75⟩ := hwb75
    subst er
    have hP : va_P (dC, dI) vwCl [(ta, .inr (3, [.ref ts, .int (jI tn), .int (jI tp1'), .int (jI tw1'72)])), (ts, .inl (cA, 400, .inl (jA tf)))] H := hP
    have hD : va_D A [(ta, .inr (3, [.ref ts, .int (jI tn), .int (jI tp1'), .int (jI tw1'72)])), (ts, .inl (cA, 400, .inl (jA tf)))] := hD
    have f76 := f_XT_refuse_b tn tp1' tw tf
    rw [← hwb75] at f76; try dsimp only at f76
    refine lv_pop hx hb dXT_number_14 rfl ?_
    refine ji_iconst hx hb dXT_number_15 ?_
    have hP9 := hP.sub (ws' := [(ta, .inr (3, [.ref ts, .int (jI tn), .int (jI tp1'), .int (jI tw1'72)])), (ts, .inl (cA, 400, .inl (jA tf)))]) [0, 1] rfl
    have hD9 := hD.sub (ws' := [(ta, .inr (3, [.ref ts, .int (jI tn), .int (jI tp1'), .int (jI tw1'72)])), (ts, .inl (cA, 400, .inl (jA tf)))]) [0, 1] (by decide) rfl
    subst hAe
    subst hQ
    exact W.iret (v := jI (-1)) hx hb hr (fun t ht hW => ⟨⟨_, (-1, tp1', tw1'72), rfl, ⟨rfl, Eq.trans (by rw [f_XT_number_s]; rw [← hwb]; try dsimp only; rw [if_pos c7_]; rw [← hwb75]; try dsimp only; try rfl) rfl⟩, ⟨by rw [ht]; exact hP9, va_K.moved hW.alike hK, hD9⟩⟩, hS.F ht⟩) hS.2.2 dXT_number_16
