set_option maxHeartbeats 4000000 in
set_option maxRecDepth 100000 in
theorem c_XM_spanF (l : Launch) (dC : Nat → ClassId) (dI : Nat → Nat → Nat) (cA cZ : ClassId) (sz : Nat) (ma : Nat) (a0 : Nat) (a1 : Nat) (a2 : Nat) (a3 : Nat) (a4 : Nat) (a5 : Nat) (a6 : Nat) (a7 : Nat) (a8 : Nat) (a9 : Nat) (a10 : Nat) (a11 : Nat) (mth : Int) (mn : Int) (mp : Int) (mw : Int) (mu : Int) (md : Int) (mo : Int) (y1 : Int → Int) (z1 : Int) (z2 : Int) (z3 : Int) (hy1 : ∀ i, 0 ≤ y1 i ∧ y1 i ≤ 1) (hg0 : ∀ i, y1 i = 0) (hiz1 : i32 z1) (hiz2 : i32 z2) (hiz3 : i32 z3) : Met l yXM_span (Cond.code yXM_span cXM_span 4 (some .int) :: TBL) ({ frames := 2, cells := 0, slots := 0, locals := 43 } : Room) (va_Pc [.ref ma, .int (jI z1), .int (jI z2), .int (jI z3)] (jBw (dC, dI) [(cA, .int), (cZ, .boolean)] [(ma, .inr (5, [.int (jI mth), .int (jI mn), .ref a0, .int (jI mp), .int (jI mw), .ref a1, .ref a2, .ref a3, .ref a4, .ref a5, .ref a6, .ref a7, .ref a8, .ref a9, .ref a10, .long (jL mu), .long (jL md), .int (jI mo), .ref a11])), (a1, .inl (cZ, 62, .inl (jA y1)))] sz)) (va_Qi (fun (r : Int32) (u : Int × Int) => r = jI u.1 ∧ (u.2 = 1)) (fun u t => jE (dC, dI) [(cA, .int), (cZ, .boolean)] [(ma, .inr (5, [.int (jI mth), .int (jI mn), .ref a0, .int (jI mp), .int (jI mw), .ref a1, .ref a2, .ref a3, .ref a4, .ref a5, .ref a6, .ref a7, .ref a8, .ref a9, .ref a10, .long (jL mu), .long (jL md), .int (jI mo), .ref a11])), (a1, .inl (cZ, 62, .inl (jA y1)))] sz [(ma, .inr (5, [.int (jI u.2), .int (jI mn), .ref a0, .int (jI mp), .int (jI mw), .ref a1, .ref a2, .ref a3, .ref a4, .ref a5, .ref a6, .ref a7, .ref a8, .ref a9, .ref a10, .long (jL mu), .long (jL md), .int (jI mo), .ref a11])), (a1, .inl (cZ, 62, .inl (jA y1)))] t) (va_A [(ma, .inr (5, [.int (jI mth), .int (jI mn), .ref a0, .int (jI mp), .int (jI mw), .ref a1, .ref a2, .ref a3, .ref a4, .ref a5, .ref a6, .ref a7, .ref a8, .ref a9, .ref a10, .long (jL mu), .long (jL md), .int (jI mo), .ref a11])), (a1, .inl (cZ, 62, .inl (jA y1)))] sz)) 0 0 (va_A [(ma, .inr (5, [.int (jI mth), .int (jI mn), .ref a0, .int (jI mp), .int (jI mw), .ref a1, .ref a2, .ref a3, .ref a4, .ref a5, .ref a6, .ref a7, .ref a8, .ref a9, .ref a10, .long (jL mu), .long (jL md), .int (jI mo), .ref a11])), (a1, .inl (cZ, 62, .inl (jA y1)))] sz) := by
  refine jMet (cc := cXM_span) (maxL := 4) (ret := some .int) (by decide) rfl ?_
  intro p e s m args below meth c s₁ R Q hR hQ B hml hv
  obtain ⟨rfl, hsz, hP, hK, hD0, hN⟩ := hv
  have hx := B.exec
  have hb := B.bytes
  have hr := B.returns
  have hts := atoms_spec (ws := Cond.code yXM_span cXM_span 4 (some .int) :: TBL) B.pre
  have hown : s.vm.findClass RXM = some m.cls := findClass_of_methodNamed B.named
  have hlocks := B.notSynchronized
  subst hsz
  obtain ⟨A, hAe⟩ : ∃ A, A = va_A [(ma, .inr (5, [.int (jI mth), .int (jI mn), .ref a0, .int (jI mp), .int (jI mw), .ref a1, .ref a2, .ref a3, .ref a4, .ref a5, .ref a6, .ref a7, .ref a8, .ref a9, .ref a10, .long (jL mu), .long (jL md), .int (jI mo), .ref a11])), (a1, .inl (cZ, 62, .inl (jA y1)))] s.heap.size := ⟨_, rfl⟩
  have hD : va_D A [(ma, .inr (5, [.int (jI mth), .int (jI mn), .ref a0, .int (jI mp), .int (jI mw), .ref a1, .ref a2, .ref a3, .ref a4, .ref a5, .ref a6, .ref a7, .ref a8, .ref a9, .ref a10, .long (jL mu), .long (jL md), .int (jI mo), .ref a11])), (a1, .inl (cZ, 62, .inl (jA y1)))] := by rw [hAe]; exact hD0.self
  have hA : ∀ q : Nat, s.heap.size ≤ q → A q := fun q h => by rw [hAe]; exact Or.inr h
  have hS : va_S A s.heap s.heap [] := va_S.rf
  have hP : va_P (dC, dI) vwCl [(ma, .inr (5, [.int (jI mth), .int (jI mn), .ref a0, .int (jI mp), .int (jI mw), .ref a1, .ref a2, .ref a3, .ref a4, .ref a5, .ref a6, .ref a7, .ref a8, .ref a9, .ref a10, .long (jL mu), .long (jL md), .int (jI mo), .ref a11])), (a1, .inl (cZ, 62, .inl (jA y1)))] s.heap := hP
  have hl := lv_entry ([.ref ma, .int (jI z1), .int (jI z2), .int (jI z3)]) (n := 4) (Nat.le_of_ble_eq_true rfl)
  rw [lg_entry_eq]
  generalize (lg_sl ([.ref ma, .int (jI z1), .int (jI z2), .int (jI z3)]) ++ List.replicate (4 - (lg_sl ([.ref ma, .int (jI z1), .int (jI z2), .int (jI z3)])).length) Slot.unset).toArray = ls at hl ⊢
  have hl : lv_has ls 4 [(0, .ref ma), (1, .int (jI z1)), (2, .int (jI z2)), (3, .int (jI z3))] := hl
  refine lv_aload_n hx hb dXM_span_0 rfl (lv_at hl 0 rfl) ?_
  refine lv_aload_n hx hb dXM_span_1 rfl (lv_at hl 0 rfl) ?_
  refine lv_iload_n hx hb dXM_span_2 rfl (lv_at hl 1 rfl) ?_
  refine jrVi (rest := [.ref ma]) ⟨hx, hb, hml, hown, hts⟩ (c_XM_isTold l dC dI cA cZ ma a0 a1 a2 a3 a4 a5 a6 a7 a8 a9 a10 a11 mth mn mp mw mu md mo y1 z1 (by first | assumption | omega) (by first | assumption | omega)) (cwV 1 hts (jG_V tw_768 tw_770 ts_29 tw_6 tw_771) rfl rfl rfl (by decide +kernel) (by rw [hR]; exact ⟨Nat.le_of_ble_eq_true rfl, Nat.le_of_ble_eq_true rfl⟩)) hK hP hN [0, 1] rfl 0 5 rfl rfl rfl rfl hl.1 rfl (Nat.le_of_ble_eq_true rfl) dXM_span_3 (by rw [hR]; exact ⟨Nat.le_of_ble_eq_true rfl, Nat.le_of_ble_eq_true rfl⟩) ?_
  have f := f_XM_isTold_b mth mn mp mw mu md mo y1 z1 (by first | assumption | omega) (by first | assumption | omega)
  refine ji_if_eq (tgt := 29) hx hb dXM_span_6 (by decide) (by first | omega | decide) (fun c6_ => ?_) (fun c6_ => absurd c6_ (by have h8 := hg0 z1; omega))
  refine ji_iconst hx hb dXM_span_29 ?_
  refine ji_iconst hx hb dXM_span_30 ?_
  refine jwVi (rest := []) (wr := [(a1, .inl (cZ, 62, .inl (jA y1)))]) ⟨hx, hb, hml, hown, hts⟩ (c_XM_goes l dC dI cA cZ _ ma a0 a1 a2 a3 a4 a5 a6 a7 a8 a9 a10 a11 mth mn mp mw mu md mo 0 1 (by first | assumption | omega | exact jset_b (by assumption) (by omega)) (by first | assumption | omega | exact jset_b (by assumption) (by omega))) (cwV 2 hts (jG_V tw_698 tw_700 ts_14 tw_6 tw_701) rfl rfl rfl (by decide +kernel) (by rw [hR]; exact ⟨Nat.le_of_ble_eq_true rfl, Nat.le_of_ble_eq_true rfl⟩)) hK hP hD hS hA hN [0] [1] rfl rfl (by decide) (by decide) (by decide) 0 5 rfl rfl rfl rfl hl.1 rfl (Nat.le_of_ble_eq_true rfl) dXM_span_31 (by rw [hR]; exact ⟨Nat.le_of_ble_eq_true rfl, Nat.le_of_ble_eq_true rfl⟩) (fun v u H locs hwb hP hD hS => ?_)
  obtain ⟨r, mth1'⟩ := u
  try dsimp only at hwb
  obtain ⟨er, f1⟩ := hwb
  subst er
  have f1 : (r = 0 ∧ mth1' = 1 ∧ (0 : Int) = 0) ∨ (r = 0 ∧ mth1' = 2 ∧ (0 : Int) = 1 ∧ (1 : Int) = 0) ∨ (r = 1 ∧ mth1' = 0 ∧ (0 : Int) = 1 ∧ (1 : Int) = 1) := f1
  have hP : va_P (dC, dI) vwCl [(a1, .inl (cZ, 62, .inl (jA y1))), (ma, .inr (5, [.int (jI mth1'), .int (jI mn), .ref a0, .int (jI mp), .int (jI mw), .ref a1, .ref a2, .ref a3, .ref a4, .ref a5, .ref a6, .ref a7, .ref a8, .ref a9, .ref a10, .long (jL mu), .long (jL md), .int (jI mo), .ref a11]))] H := hP
  have hD : va_D A [(a1, .inl (cZ, 62, .inl (jA y1))), (ma, .inr (5, [.int (jI mth1'), .int (jI mn), .ref a0, .int (jI mp), .int (jI mw), .ref a1, .ref a2, .ref a3, .ref a4, .ref a5, .ref a6, .ref a7, .ref a8, .ref a9, .ref a10, .long (jL mu), .long (jL md), .int (jI mo), .ref a11]))] := hD
  refine ji_if_ne (tgt := 39) hx hb dXM_span_34 (by decide) (by first | omega | decide) (fun c34_ => absurd c34_ (by omega)) (fun c34_ => ?_)
  refine ji_iconst hx hb dXM_span_37 ?_
  have hP9 := hP.sub (ws' := [(ma, .inr (5, [.int (jI mth1'), .int (jI mn), .ref a0, .int (jI mp), .int (jI mw), .ref a1, .ref a2, .ref a3, .ref a4, .ref a5, .ref a6, .ref a7, .ref a8, .ref a9, .ref a10, .long (jL mu), .long (jL md), .int (jI mo), .ref a11])), (a1, .inl (cZ, 62, .inl (jA y1)))]) [1, 0] rfl
  have hD9 := hD.sub (ws' := [(ma, .inr (5, [.int (jI mth1'), .int (jI mn), .ref a0, .int (jI mp), .int (jI mw), .ref a1, .ref a2, .ref a3, .ref a4, .ref a5, .ref a6, .ref a7, .ref a8, .ref a9, .ref a10, .long (jL mu), .long (jL md), .int (jI mo), .ref a11])), (a1, .inl (cZ, 62, .inl (jA y1)))]) [1, 0] (by decide) rfl
  subst hAe
  subst hQ
  exact W.iret (v := jI 0) hx hb hr (fun t ht hW => ⟨⟨_, (0, mth1'), rfl, ⟨rfl, (show mth1' = 1 from by first | assumption | omega | exact jset_b (by assumption) (by omega))⟩, ⟨by rw [ht]; exact hP9, va_K.moved hW.alike hK, hD9⟩⟩, hS.F ht⟩) hS.2.2 dXM_span_38
set_option maxHeartbeats 4000000 in
set_option maxRecDepth 100000 in
theorem c_XM_limitF (l : Launch) (dC : Nat → ClassId) (dI : Nat → Nat → Nat) (cA cZ : ClassId) (sz : Nat) (ma : Nat) (a0 : Nat) (a1 : Nat) (a2 : Nat) (a3 : Nat) (a4 : Nat) (a5 : Nat) (a6 : Nat) (a7 : Nat) (a8 : Nat) (a9 : Nat) (a10 : Nat) (a11 : Nat) (mth : Int) (mn : Int) (mp : Int) (mw : Int) (mu : Int) (md : Int) (mo : Int) (y1 : Int → Int) (z1 : Int) (z2 : Int) (hy1 : ∀ i, 0 ≤ y1 i ∧ y1 i ≤ 1) (hg0 : ∀ i, y1 i = 0) (hiz1 : i32 z1) (hiz2 : i32 z2) : Met l yXM_limit (Cond.code yXM_limit cXM_limit 3 (some .int) :: TBL) ({ frames := 2, cells := 0, slots := 0, locals := 43 } : Room) (va_Pc [.ref ma, .int (jI z1), .int (jI z2)] (jBw (dC, dI) [(cA, .int), (cZ, .boolean)] [(ma, .inr (5, [.int (jI mth), .int (jI mn), .ref a0, .int (jI mp), .int (jI mw), .ref a1, .ref a2, .ref a3, .ref a4, .ref a5, .ref a6, .ref a7, .ref a8, .ref a9, .ref a10, .long (jL mu), .long (jL md), .int (jI mo), .ref a11])), (a1, .inl (cZ, 62, .inl (jA y1)))] sz)) (va_Qi (fun (r : Int32) (u : Int × Int) => r = jI u.1 ∧ (u.2 = 1)) (fun u t => jE (dC, dI) [(cA, .int), (cZ, .boolean)] [(ma, .inr (5, [.int (jI mth), .int (jI mn), .ref a0, .int (jI mp), .int (jI mw), .ref a1, .ref a2, .ref a3, .ref a4, .ref a5, .ref a6, .ref a7, .ref a8, .ref a9, .ref a10, .long (jL mu), .long (jL md), .int (jI mo), .ref a11])), (a1, .inl (cZ, 62, .inl (jA y1)))] sz [(ma, .inr (5, [.int (jI u.2), .int (jI mn), .ref a0, .int (jI mp), .int (jI mw), .ref a1, .ref a2, .ref a3, .ref a4, .ref a5, .ref a6, .ref a7, .ref a8, .ref a9, .ref a10, .long (jL mu), .long (jL md), .int (jI mo), .ref a11])), (a1, .inl (cZ, 62, .inl (jA y1)))] t) (va_A [(ma, .inr (5, [.int (jI mth), .int (jI mn), .ref a0, .int (jI mp), .int (jI mw), .ref a1, .ref a2, .ref a3, .ref a4, .ref a5, .ref a6, .ref a7, .ref a8, .ref a9, .ref a10, .long (jL mu), .long (jL md), .int (jI mo), .ref a11])), (a1, .inl (cZ, 62, .inl (jA y1)))] sz)) 0 0 (va_A [(ma, .inr (5, [.int (jI mth), .int (jI mn), .ref a0, .int (jI mp), .int (jI mw), .ref a1, .ref a2, .ref a3, .ref a4, .ref a5, .ref a6, .ref a7, .ref a8, .ref a9, .ref a10, .long (jL mu), .long (jL md), .int (jI mo), .ref a11])), (a1, .inl (cZ, 62, .inl (jA y1)))] sz) := by
  refine jMet (cc := cXM_limit) (maxL := 3) (ret := some .int) (by decide) rfl ?_
  intro p e s m args below meth c s₁ R Q hR hQ B hml hv
  obtain ⟨rfl, hsz, hP, hK, hD0, hN⟩ := hv
  have hx := B.exec
  have hb := B.bytes
  have hr := B.returns
  have hts := atoms_spec (ws := Cond.code yXM_limit cXM_limit 3 (some .int) :: TBL) B.pre
  have hown : s.vm.findClass RXM = some m.cls := findClass_of_methodNamed B.named
  have hlocks := B.notSynchronized
  subst hsz
  obtain ⟨A, hAe⟩ : ∃ A, A = va_A [(ma, .inr (5, [.int (jI mth), .int (jI mn), .ref a0, .int (jI mp), .int (jI mw), .ref a1, .ref a2, .ref a3, .ref a4, .ref a5, .ref a6, .ref a7, .ref a8, .ref a9, .ref a10, .long (jL mu), .long (jL md), .int (jI mo), .ref a11])), (a1, .inl (cZ, 62, .inl (jA y1)))] s.heap.size := ⟨_, rfl⟩
  have hD : va_D A [(ma, .inr (5, [.int (jI mth), .int (jI mn), .ref a0, .int (jI mp), .int (jI mw), .ref a1, .ref a2, .ref a3, .ref a4, .ref a5, .ref a6, .ref a7, .ref a8, .ref a9, .ref a10, .long (jL mu), .long (jL md), .int (jI mo), .ref a11])), (a1, .inl (cZ, 62, .inl (jA y1)))] := by rw [hAe]; exact hD0.self
  have hA : ∀ q : Nat, s.heap.size ≤ q → A q := fun q h => by rw [hAe]; exact Or.inr h
  have hS : va_S A s.heap s.heap [] := va_S.rf
  have hP : va_P (dC, dI) vwCl [(ma, .inr (5, [.int (jI mth), .int (jI mn), .ref a0, .int (jI mp), .int (jI mw), .ref a1, .ref a2, .ref a3, .ref a4, .ref a5, .ref a6, .ref a7, .ref a8, .ref a9, .ref a10, .long (jL mu), .long (jL md), .int (jI mo), .ref a11])), (a1, .inl (cZ, 62, .inl (jA y1)))] s.heap := hP
  have hl := lv_entry ([.ref ma, .int (jI z1), .int (jI z2)]) (n := 3) (Nat.le_of_ble_eq_true rfl)
  rw [lg_entry_eq]
  generalize (lg_sl ([.ref ma, .int (jI z1), .int (jI z2)]) ++ List.replicate (3 - (lg_sl ([.ref ma, .int (jI z1), .int (jI z2)])).length) Slot.unset).toArray = ls at hl ⊢
  have hl : lv_has ls 3 [(0, .ref ma), (1, .int (jI z1)), (2, .int (jI z2))] := hl
  refine lv_aload_n hx hb dXM_limit_0 rfl (lv_at hl 0 rfl) ?_
  refine lv_aload_n hx hb dXM_limit_1 rfl (lv_at hl 0 rfl) ?_
  refine lv_iload_n hx hb dXM_limit_2 rfl (lv_at hl 1 rfl) ?_
  refine jrVi (rest := [.ref ma]) ⟨hx, hb, hml, hown, hts⟩ (c_XM_isTold l dC dI cA cZ ma a0 a1 a2 a3 a4 a5 a6 a7 a8 a9 a10 a11 mth mn mp mw mu md mo y1 z1 (by first | assumption | omega) (by first | assumption | omega)) (cwV 1 hts (jG_V tw_768 tw_770 ts_29 tw_6 tw_771) rfl rfl rfl (by decide +kernel) (by rw [hR]; exact ⟨Nat.le_of_ble_eq_true rfl, Nat.le_of_ble_eq_true rfl⟩)) hK hP hN [0, 1] rfl 0 5 rfl rfl rfl rfl hl.1 rfl (Nat.le_of_ble_eq_true rfl) dXM_limit_3 (by rw [hR]; exact ⟨Nat.le_of_ble_eq_true rfl, Nat.le_of_ble_eq_true rfl⟩) ?_
  have f := f_XM_isTold_b mth mn mp mw mu md mo y1 z1 (by first | assumption | omega) (by first | assumption | omega)
  refine ji_if_eq (tgt := 20) hx hb dXM_limit_6 (by decide) (by first | omega | decide) (fun c6_ => ?_) (fun c6_ => absurd c6_ (by have h8 := hg0 z1; omega))
  refine ji_iconst hx hb dXM_limit_20 ?_
  refine ji_iconst hx hb dXM_limit_21 ?_
  refine jwVi (rest := []) (wr := [(a1, .inl (cZ, 62, .inl (jA y1)))]) ⟨hx, hb, hml, hown, hts⟩ (c_XM_goes l dC dI cA cZ _ ma a0 a1 a2 a3 a4 a5 a6 a7 a8 a9 a10 a11 mth mn mp mw mu md mo 0 1 (by first | assumption | omega | exact jset_b (by assumption) (by omega)) (by first | assumption | omega | exact jset_b (by assumption) (by omega))) (cwV 2 hts (jG_V tw_698 tw_700 ts_14 tw_6 tw_701) rfl rfl rfl (by decide +kernel) (by rw [hR]; exact ⟨Nat.le_of_ble_eq_true rfl, Nat.le_of_ble_eq_true rfl⟩)) hK hP hD hS hA hN [0] [1] rfl rfl (by decide) (by decide) (by decide) 0 5 rfl rfl rfl rfl hl.1 rfl (Nat.le_of_ble_eq_true rfl) dXM_limit_22 (by rw [hR]; exact ⟨Nat.le_of_ble_eq_true rfl, Nat.le_of_ble_eq_true rfl⟩) (fun v u H locs hwb hP hD hS => ?_)
  obtain ⟨r, mth1'⟩ := u
  try dsimp only at hwb
  obtain ⟨er, f1⟩ := hwb
  subst er
  have f1 : (r = 0 ∧ mth1' = 1 ∧ (0 : Int) = 0) ∨ (r = 0 ∧ mth1' = 2 ∧ (0 : Int) = 1 ∧ (1 : Int) = 0) ∨ (r = 1 ∧ mth1' = 0 ∧ (0 : Int) = 1 ∧ (1 : Int) = 1) := f1
  have hP : va_P (dC, dI) vwCl [(a1, .inl (cZ, 62, .inl (jA y1))), (ma, .inr (5, [.int (jI mth1'), .int (jI mn), .ref a0, .int (jI mp), .int (jI mw), .ref a1, .ref a2, .ref a3, .ref a4, .ref a5, .ref a6, .ref a7, .ref a8, .ref a9, .ref a10, .long (jL mu), .long (jL md), .int (jI mo), .ref a11]))] H := hP
  have hD : va_D A [(a1, .inl (cZ, 62, .inl (jA y1))), (ma, .inr (5, [.int (jI mth1'), .int (jI mn), .ref a0, .int (jI mp), .int (jI mw), .ref a1, .ref a2, .ref a3, .ref a4, .ref a5, .ref a6, .ref a7, .ref a8, .ref a9, .ref a10, .long (jL mu), .long (jL md), .int (jI mo), .ref a11]))] := hD
  refine ji_if_ne (tgt := 30) hx hb dXM_limit_25 (by decide) (by first | omega | decide) (fun c25_ => absurd c25_ (by omega)) (fun c25_ => ?_)
  refine ji_iconst hx hb dXM_limit_28 ?_
  have hP9 := hP.sub (ws' := [(ma, .inr (5, [.int (jI mth1'), .int (jI mn), .ref a0, .int (jI mp), .int (jI mw), .ref a1, .ref a2, .ref a3, .ref a4, .ref a5, .ref a6, .ref a7, .ref a8, .ref a9, .ref a10, .long (jL mu), .long (jL md), .int (jI mo), .ref a11])), (a1, .inl (cZ, 62, .inl (jA y1)))]) [1, 0] rfl
  have hD9 := hD.sub (ws' := [(ma, .inr (5, [.int (jI mth1'), .int (jI mn), .ref a0, .int (jI mp), .int (jI mw), .ref a1, .ref a2, .ref a3, .ref a4, .ref a5, .ref a6, .ref a7, .ref a8, .ref a9, .ref a10, .long (jL mu), .long (jL md), .int (jI mo), .ref a11])), (a1, .inl (cZ, 62, .inl (jA y1)))]) [1, 0] (by decide) rfl
  subst hAe
  subst hQ
  exact W.iret (v := jI 0) hx hb hr (fun t ht hW => ⟨⟨_, (0, mth1'), rfl, ⟨rfl, (show mth1' = 1 from by first | assumption | omega | exact jset_b (by assumption) (by omega))⟩, ⟨by rw [ht]; exact hP9, va_K.moved hW.alike hK, hD9⟩⟩, hS.F ht⟩) hS.2.2 dXM_limit_29
set_option maxHeartbeats 4000000 in
set_option maxRecDepth 100000 in
theorem c_XM_equivalentF (l : Launch) (dC : Nat → ClassId) (dI : Nat → Nat → Nat) (cA cZ : ClassId) (sz : Nat) (ma : Nat) (a0 : Nat) (a1 : Nat) (a2 : Nat) (a3 : Nat) (a4 : Nat) (a5 : Nat) (a6 : Nat) (a7 : Nat) (a8 : Nat) (a9 : Nat) (a10 : Nat) (a11 : Nat) (mth : Int) (mn : Int) (mp : Int) (mw : Int) (mu : Int) (md : Int) (mo : Int) (y1 : Int → Int) (y8 : Int → Int) (z1 : Int) (z2 : Int) (z3 : Int) (z4 : Int) (hy1 : ∀ i, 0 ≤ y1 i ∧ y1 i ≤ 1) (hy8 : ∀ i, 0 ≤ y8 i ∧ y8 i ≤ 1) (hg0 : ∀ i, y1 i = 0) (hiz1 : i32 z1) (hiz2 : i32 z2) (hiz3 : i32 z3) (hiz4 : i32 z4) : Met l yXM_equivalent (Cond.code yXM_equivalent cXM_equivalent 6 (some .long) :: TBL) ({ frames := 2, cells := 0, slots := 0, locals := 43 } : Room) (va_Pc [.ref ma, .int (jI z1), .int (jI z2), .int (jI z3), .int (jI z4)] (jBw (dC, dI) [(cA, .int), (cZ, .boolean)] [(ma, .inr (5, [.int (jI mth), .int (jI mn), .ref a0, .int (jI mp), .int (jI mw), .ref a1, .ref a2, .ref a3, .ref a4, .ref a5, .ref a6, .ref a7, .ref a8, .ref a9, .ref a10, .long (jL mu), .long (jL md), .int (jI mo), .ref a11])), (a1, .inl (cZ, 62, .inl (jA y1))), (a8, .inl (cZ, 8, .inl (jA y8)))] sz)) (va_Ql (fun (r : Int64) (u : Int × Int) => r = jL u.1 ∧ (u.2 = 1)) (fun u t => jE (dC, dI) [(cA, .int), (cZ, .boolean)] [(ma, .inr (5, [.int (jI mth), .int (jI mn), .ref a0, .int (jI mp), .int (jI mw), .ref a1, .ref a2, .ref a3, .ref a4, .ref a5, .ref a6, .ref a7, .ref a8, .ref a9, .ref a10, .long (jL mu), .long (jL md), .int (jI mo), .ref a11])), (a1, .inl (cZ, 62, .inl (jA y1))), (a8, .inl (cZ, 8, .inl (jA y8)))] sz [(ma, .inr (5, [.int (jI u.2), .int (jI mn), .ref a0, .int (jI mp), .int (jI mw), .ref a1, .ref a2, .ref a3, .ref a4, .ref a5, .ref a6, .ref a7, .ref a8, .ref a9, .ref a10, .long (jL mu), .long (jL md), .int (jI mo), .ref a11])), (a1, .inl (cZ, 62, .inl (jA y1))), (a8, .inl (cZ, 8, .inl (jA y8)))] t) (va_A [(ma, .inr (5, [.int (jI mth), .int (jI mn), .ref a0, .int (jI mp), .int (jI mw), .ref a1, .ref a2, .ref a3, .ref a4, .ref a5, .ref a6, .ref a7, .ref a8, .ref a9, .ref a10, .long (jL mu), .long (jL md), .int (jI mo), .ref a11])), (a1, .inl (cZ, 62, .inl (jA y1))), (a8, .inl (cZ, 8, .inl (jA y8)))] sz)) 0 0 (va_A [(ma, .inr (5, [.int (jI mth), .int (jI mn), .ref a0, .int (jI mp), .int (jI mw), .ref a1, .ref a2, .ref a3, .ref a4, .ref a5, .ref a6, .ref a7, .ref a8, .ref a9, .ref a10, .long (jL mu), .long (jL md), .int (jI mo), .ref a11])), (a1, .inl (cZ, 62, .inl (jA y1))), (a8, .inl (cZ, 8, .inl (jA y8)))] sz) := by
  refine jMet (cc := cXM_equivalent) (maxL := 6) (ret := some .long) (by decide) rfl ?_
  intro p e s m args below meth c s₁ R Q hR hQ B hml hv
  obtain ⟨rfl, hsz, hP, hK, hD0, hN⟩ := hv
  have hx := B.exec
  have hb := B.bytes
  have hr := B.returns
  have hts := atoms_spec (ws := Cond.code yXM_equivalent cXM_equivalent 6 (some .long) :: TBL) B.pre
  have hown : s.vm.findClass RXM = some m.cls := findClass_of_methodNamed B.named
  have hlocks := B.notSynchronized
  subst hsz
  obtain ⟨A, hAe⟩ : ∃ A, A = va_A [(ma, .inr (5, [.int (jI mth), .int (jI mn), .ref a0, .int (jI mp), .int (jI mw), .ref a1, .ref a2, .ref a3, .ref a4, .ref a5, .ref a6, .ref a7, .ref a8, .ref a9, .ref a10, .long (jL mu), .long (jL md), .int (jI mo), .ref a11])), (a1, .inl (cZ, 62, .inl (jA y1))), (a8, .inl (cZ, 8, .inl (jA y8)))] s.heap.size := ⟨_, rfl⟩
  have hD : va_D A [(ma, .inr (5, [.int (jI mth), .int (jI mn), .ref a0, .int (jI mp), .int (jI mw), .ref a1, .ref a2, .ref a3, .ref a4, .ref a5, .ref a6, .ref a7, .ref a8, .ref a9, .ref a10, .long (jL mu), .long (jL md), .int (jI mo), .ref a11])), (a1, .inl (cZ, 62, .inl (jA y1))), (a8, .inl (cZ, 8, .inl (jA y8)))] := by rw [hAe]; exact hD0.self
  have hA : ∀ q : Nat, s.heap.size ≤ q → A q := fun q h => by rw [hAe]; exact Or.inr h
  have hS : va_S A s.heap s.heap [] := va_S.rf
  have hP : va_P (dC, dI) vwCl [(ma, .inr (5, [.int (jI mth), .int (jI mn), .ref a0, .int (jI mp), .int (jI mw), .ref a1, .ref a2, .ref a3, .ref a4, .ref a5, .ref a6, .ref a7, .ref a8, .ref a9, .ref a10, .long (jL mu), .long (jL md), .int (jI mo), .ref a11])), (a1, .inl (cZ, 62, .inl (jA y1))), (a8, .inl (cZ, 8, .inl (jA y8)))] s.heap := hP
  have hl := lv_entry ([.ref ma, .int (jI z1), .int (jI z2), .int (jI z3), .int (jI z4)]) (n := 6) (Nat.le_of_ble_eq_true rfl)
  rw [lg_entry_eq]
  generalize (lg_sl ([.ref ma, .int (jI z1), .int (jI z2), .int (jI z3), .int (jI z4)]) ++ List.replicate (6 - (lg_sl ([.ref ma, .int (jI z1), .int (jI z2), .int (jI z3), .int (jI z4)])).length) Slot.unset).toArray = ls at hl ⊢
  have hl : lv_has ls 6 [(0, .ref ma), (1, .int (jI z1)), (2, .int (jI z2)), (3, .int (jI z3)), (4, .int (jI z4))] := hl
  refine lv_aload_n hx hb dXM_equivalent_0 rfl (lv_at hl 0 rfl) ?_
  refine lv_iload_n hx hb dXM_equivalent_1 rfl (lv_at hl 1 rfl) ?_
  refine jrVi (rest := []) ⟨hx, hb, hml, hown, hts⟩ (c_XM_isTold l dC dI cA cZ ma a0 a1 a2 a3 a4 a5 a6 a7 a8 a9 a10 a11 mth mn mp mw mu md mo y1 z1 (by first | assumption | omega) (by first | assumption | omega)) (cwV 1 hts (jG_V tw_768 tw_770 ts_29 tw_6 tw_771) rfl rfl rfl (by decide +kernel) (by rw [hR]; exact ⟨Nat.le_of_ble_eq_true rfl, Nat.le_of_ble_eq_true rfl⟩)) hK hP hN [0, 1] rfl 0 5 rfl rfl rfl rfl hl.1 rfl (Nat.le_of_ble_eq_true rfl) dXM_equivalent_2 (by rw [hR]; exact ⟨Nat.le_of_ble_eq_true rfl, Nat.le_of_ble_eq_true rfl⟩) ?_
  have f := f_XM_isTold_b mth mn mp mw mu md mo y1 z1 (by first | assumption | omega) (by first | assumption | omega)
  refine ji_if_eq (tgt := 38) hx hb dXM_equivalent_5 (by decide) (by first | omega | decide) (fun c5_ => ?_) (fun c5_ => absurd c5_ (by have h8 := hg0 z1; omega))
  refine ji_iconst hx hb dXM_equivalent_38 ?_
  refine lv_istore (lv' := [(5, .int (jI 0)), (0, .ref ma), (1, .int (jI z1)), (2, .int (jI z2)), (3, .int (jI z3)), (4, .int (jI z4))]) hx hb dXM_equivalent_39 hl (by decide) rfl (fun ls hl => ?_)
  refine lv_aload_n hx hb dXM_equivalent_41 rfl (lv_at hl 1 rfl) ?_
  refine lv_iload hx hb dXM_equivalent_42 (lv_at hl 0 rfl) ?_
  refine lv_iload hx hb dXM_equivalent_44 (lv_at hl 0 rfl) ?_
  refine ji_if_eq (tgt := 62) hx hb dXM_equivalent_46 (by decide) (by first | omega | decide) (fun c46_ => ?_) (fun c46_ => absurd c46_ (by decide))
  refine ji_iconst hx hb dXM_equivalent_62 ?_
  refine jwVi (rest := []) (wr := [(a1, .inl (cZ, 62, .inl (jA y1))), (a8, .inl (cZ, 8, .inl (jA y8)))]) ⟨hx, hb, hml, hown, hts⟩ (c_XM_goes l dC dI cA cZ _ ma a0 a1 a2 a3 a4 a5 a6 a7 a8 a9 a10 a11 mth mn mp mw mu md mo 0 0 (by first | assumption | omega | exact jset_b (by assumption) (by omega)) (by first | assumption | omega | exact jset_b (by assumption) (by omega))) (cwV 2 hts (jG_V tw_698 tw_700 ts_14 tw_6 tw_701) rfl rfl rfl (by decide +kernel) (by rw [hR]; exact ⟨Nat.le_of_ble_eq_true rfl, Nat.le_of_ble_eq_true rfl⟩)) hK hP hD hS hA hN [0] [1, 2] rfl rfl (by decide) (by decide) (by decide) 0 5 rfl rfl rfl rfl hl.1 rfl (Nat.le_of_ble_eq_true rfl) dXM_equivalent_63 (by rw [hR]; exact ⟨Nat.le_of_ble_eq_true rfl, Nat.le_of_ble_eq_true rfl⟩) (fun v u H locs hwb hP hD hS => ?_)
  obtain ⟨r, mth1'⟩ := u
  try dsimp only at hwb
  obtain ⟨er, f1⟩ := hwb
  subst er
  have f1 : (r = 0 ∧ mth1' = 1 ∧ (0 : Int) = 0) ∨ (r = 0 ∧ mth1' = 2 ∧ (0 : Int) = 1 ∧ (0 : Int) = 0) ∨ (r = 1 ∧ mth1' = 0 ∧ (0 : Int) = 1 ∧ (0 : Int) = 1) := f1
  have hP : va_P (dC, dI) vwCl [(a1, .inl (cZ, 62, .inl (jA y1))), (a8, .inl (cZ, 8, .inl (jA y8))), (ma, .inr (5, [.int (jI mth1'), .int (jI mn), .ref a0, .int (jI mp), .int (jI mw), .ref a1, .ref a2, .ref a3, .ref a4, .ref a5, .ref a6, .ref a7, .ref a8, .ref a9, .ref a10, .long (jL mu), .long (jL md), .int (jI mo), .ref a11]))] H := hP
  have hD : va_D A [(a1, .inl (cZ, 62, .inl (jA y1))), (a8, .inl (cZ, 8, .inl (jA y8))), (ma, .inr (5, [.int (jI mth1'), .int (jI mn), .ref a0, .int (jI mp), .int (jI mw), .ref a1, .ref a2, .ref a3, .ref a4, .ref a5, .ref a6, .ref a7, .ref a8, .ref a9, .ref a10, .long (jL mu), .long (jL md), .int (jI mo), .ref a11]))] := hD
  refine ji_if_ne (tgt := 71) hx hb dXM_equivalent_66 (by decide) (by first | omega | decide) (fun c66_ => absurd c66_ (by omega)) (fun c66_ => ?_)
  refine ji_lconst (z := 0) hx hb dXM_equivalent_69 rfl ?_
  have hP9 := hP.sub (ws' := [(ma, .inr (5, [.int (jI mth1'), .int (jI mn), .ref a0, .int (jI mp), .int (jI mw), .ref a1, .ref a2, .ref a3, .ref a4, .ref a5, .ref a6, .ref a7, .ref a8, .ref a9, .ref a10, .long (jL mu), .long (jL md), .int (jI mo), .ref a11])), (a1, .inl (cZ, 62, .inl (jA y1))), (a8, .inl (cZ, 8, .inl (jA y8)))]) [2, 0, 1] rfl
  have hD9 := hD.sub (ws' := [(ma, .inr (5, [.int (jI mth1'), .int (jI mn), .ref a0, .int (jI mp), .int (jI mw), .ref a1, .ref a2, .ref a3, .ref a4, .ref a5, .ref a6, .ref a7, .ref a8, .ref a9, .ref a10, .long (jL mu), .long (jL md), .int (jI mo), .ref a11])), (a1, .inl (cZ, 62, .inl (jA y1))), (a8, .inl (cZ, 8, .inl (jA y8)))]) [2, 0, 1] (by decide) rfl
  subst hAe
  subst hQ
  exact W.lret (v := jL 0) hx hb hr (fun t ht hW => ⟨⟨_, (0, mth1'), rfl, ⟨rfl, (show mth1' = 1 from by first | assumption | omega | exact jset_b (by assumption) (by omega))⟩, ⟨by rw [ht]; exact hP9, va_K.moved hW.alike hK, hD9⟩⟩, hS.F ht⟩) hS.2.2 dXM_equivalent_70
set_option maxHeartbeats 4000000 in
set_option maxRecDepth 100000 in
theorem c_XM_fitsF (l : Launch) (dC : Nat → ClassId) (dI : Nat → Nat → Nat) (cA cZ : ClassId) (sz : Nat) (ma : Nat) (a0 : Nat) (a1 : Nat) (a2 : Nat) (a3 : Nat) (a4 : Nat) (a5 : Nat) (a6 : Nat) (a7 : Nat) (a8 : Nat) (a9 : Nat) (a10 : Nat) (a11 : Nat) (mth : Int) (mn : Int) (mp : Int) (mw : Int) (mu : Int) (md : Int) (mo : Int) (y1 : Int → Int) (z1 : Int) (hy1 : ∀ i, 0 ≤ y1 i ∧ y1 i ≤ 1) (hg0 : ∀ i, y1 i = 0) (hiz1 : i32 z1) : Met l yXM_fits (Cond.code yXM_fits cXM_fits 3 (some .int) :: TBL) ({ frames := 2, cells := 0, slots := 0, locals := 43 } : Room) (va_Pc [.ref ma, .int (jI z1)] (jBw (dC, dI) [(cA, .int), (cZ, .boolean)] [(ma, .inr (5, [.int (jI mth), .int (jI mn), .ref a0, .int (jI mp), .int (jI mw), .ref a1, .ref a2, .ref a3, .ref a4, .ref a5, .ref a6, .ref a7, .ref a8, .ref a9, .ref a10, .long (jL mu), .long (jL md), .int (jI mo), .ref a11])), (a1, .inl (cZ, 62, .inl (jA y1)))] sz)) (va_Qi (fun (r : Int32) (u : Int × Int) => r = jI u.1 ∧ (u.2 = 1)) (fun u t => jE (dC, dI) [(cA, .int), (cZ, .boolean)] [(ma, .inr (5, [.int (jI mth), .int (jI mn), .ref a0, .int (jI mp), .int (jI mw), .ref a1, .ref a2, .ref a3, .ref a4, .ref a5, .ref a6, .ref a7, .ref a8, .ref a9, .ref a10, .long (jL mu), .long (jL md), .int (jI mo), .ref a11])), (a1, .inl (cZ, 62, .inl (jA y1)))] sz [(ma, .inr (5, [.int (jI u.2), .int (jI mn), .ref a0, .int (jI mp), .int (jI mw), .ref a1, .ref a2, .ref a3, .ref a4, .ref a5, .ref a6, .ref a7, .ref a8, .ref a9, .ref a10, .long (jL mu), .long (jL md), .int (jI mo), .ref a11])), (a1, .inl (cZ, 62, .inl (jA y1)))] t) (va_A [(ma, .inr (5, [.int (jI mth), .int (jI mn), .ref a0, .int (jI mp), .int (jI mw), .ref a1, .ref a2, .ref a3, .ref a4, .ref a5, .ref a6, .ref a7, .ref a8, .ref a9, .ref a10, .long (jL mu), .long (jL md), .int (jI mo), .ref a11])), (a1, .inl (cZ, 62, .inl (jA y1)))] sz)) 0 0 (va_A [(ma, .inr (5, [.int (jI mth), .int (jI mn), .ref a0, .int (jI mp), .int (jI mw), .ref a1, .ref a2, .ref a3, .ref a4, .ref a5, .ref a6, .ref a7, .ref a8, .ref a9, .ref a10, .long (jL mu), .long (jL md), .int (jI mo), .ref a11])), (a1, .inl (cZ, 62, .inl (jA y1)))] sz) := by
  refine jMet (cc := cXM_fits) (maxL := 3) (ret := some .int) (by decide) rfl ?_
  intro p e s m args below meth c s₁ R Q hR hQ B hml hv
  obtain ⟨rfl, hsz, hP, hK, hD0, hN⟩ := hv
  have hx := B.exec
  have hb := B.bytes
  have hr := B.returns
  have hts := atoms_spec (ws := Cond.code yXM_fits cXM_fits 3 (some .int) :: TBL) B.pre
  have hown : s.vm.findClass RXM = some m.cls := findClass_of_methodNamed B.named
  have hlocks := B.notSynchronized
  subst hsz
  obtain ⟨A, hAe⟩ : ∃ A, A = va_A [(ma, .inr (5, [.int (jI mth), .int (jI mn), .ref a0, .int (jI mp), .int (jI mw), .ref a1, .ref a2, .ref a3, .ref a4, .ref a5, .ref a6, .ref a7, .ref a8, .ref a9, .ref a10, .long (jL mu), .long (jL md), .int (jI mo), .ref a11])), (a1, .inl (cZ, 62, .inl (jA y1)))] s.heap.size := ⟨_, rfl⟩
  have hD : va_D A [(ma, .inr (5, [.int (jI mth), .int (jI mn), .ref a0, .int (jI mp), .int (jI mw), .ref a1, .ref a2, .ref a3, .ref a4, .ref a5, .ref a6, .ref a7, .ref a8, .ref a9, .ref a10, .long (jL mu), .long (jL md), .int (jI mo), .ref a11])), (a1, .inl (cZ, 62, .inl (jA y1)))] := by rw [hAe]; exact hD0.self
  have hA : ∀ q : Nat, s.heap.size ≤ q → A q := fun q h => by rw [hAe]; exact Or.inr h
  have hS : va_S A s.heap s.heap [] := va_S.rf
  have hP : va_P (dC, dI) vwCl [(ma, .inr (5, [.int (jI mth), .int (jI mn), .ref a0, .int (jI mp), .int (jI mw), .ref a1, .ref a2, .ref a3, .ref a4, .ref a5, .ref a6, .ref a7, .ref a8, .ref a9, .ref a10, .long (jL mu), .long (jL md), .int (jI mo), .ref a11])), (a1, .inl (cZ, 62, .inl (jA y1)))] s.heap := hP
  have hl := lv_entry ([.ref ma, .int (jI z1)]) (n := 3) (Nat.le_of_ble_eq_true rfl)
  rw [lg_entry_eq]
  generalize (lg_sl ([.ref ma, .int (jI z1)]) ++ List.replicate (3 - (lg_sl ([.ref ma, .int (jI z1)])).length) Slot.unset).toArray = ls at hl ⊢
  have hl : lv_has ls 3 [(0, .ref ma), (1, .int (jI z1))] := hl
  refine lv_aload_n hx hb dXM_fits_0 rfl (lv_at hl 0 rfl) ?_
  refine lv_aload_n hx hb dXM_fits_1 rfl (lv_at hl 0 rfl) ?_
  refine lv_iload_n hx hb dXM_fits_2 rfl (lv_at hl 1 rfl) ?_
  refine jrVi (rest := [.ref ma]) ⟨hx, hb, hml, hown, hts⟩ (c_XM_isTold l dC dI cA cZ ma a0 a1 a2 a3 a4 a5 a6 a7 a8 a9 a10 a11 mth mn mp mw mu md mo y1 z1 (by first | assumption | omega) (by first | assumption | omega)) (cwV 1 hts (jG_V tw_768 tw_770 ts_29 tw_6 tw_771) rfl rfl rfl (by decide +kernel) (by rw [hR]; exact ⟨Nat.le_of_ble_eq_true rfl, Nat.le_of_ble_eq_true rfl⟩)) hK hP hN [0, 1] rfl 0 5 rfl rfl rfl rfl hl.1 rfl (Nat.le_of_ble_eq_true rfl) dXM_fits_3 (by rw [hR]; exact ⟨Nat.le_of_ble_eq_true rfl, Nat.le_of_ble_eq_true rfl⟩) ?_
  have f := f_XM_isTold_b mth mn mp mw mu md mo y1 z1 (by first | assumption | omega) (by first | assumption | omega)
  refine ji_iconst hx hb dXM_fits_6 ?_
  refine jwVi (rest := []) (wr := [(a1, .inl (cZ, 62, .inl (jA y1)))]) ⟨hx, hb, hml, hown, hts⟩ (c_XM_goes l dC dI cA cZ _ ma a0 a1 a2 a3 a4 a5 a6 a7 a8 a9 a10 a11 mth mn mp mw mu md mo (f_XM_isTold mth mn mp mw mu md mo y1 z1) 1 (by first | assumption | omega | exact jset_b (by assumption) (by omega)) (by first | assumption | omega | exact jset_b (by assumption) (by omega))) (cwV 2 hts (jG_V tw_698 tw_700 ts_14 tw_6 tw_701) rfl rfl rfl (by decide +kernel) (by rw [hR]; exact ⟨Nat.le_of_ble_eq_true rfl, Nat.le_of_ble_eq_true rfl⟩)) hK hP hD hS hA hN [0] [1] rfl rfl (by decide) (by decide) (by decide) 0 5 rfl rfl rfl rfl hl.1 rfl (Nat.le_of_ble_eq_true rfl) dXM_fits_7 (by rw [hR]; exact ⟨Nat.le_of_ble_eq_true rfl, Nat.le_of_ble_eq_true rfl⟩) (fun v u H locs hwb hP hD hS => ?_)
  obtain ⟨r, mth1'⟩ := u
  try dsimp only at hwb
  obtain ⟨er, f1⟩ := hwb
  subst er
  have f1 : (r = 0 ∧ mth1' = 1 ∧ (f_XM_isTold mth mn mp mw mu md mo y1 z1) = 0) ∨ (r = 0 ∧ mth1' = 2 ∧ (f_XM_isTold mth mn mp mw mu md mo y1 z1) = 1 ∧ (1 : Int) = 0) ∨ (r = 1 ∧ mth1' = 0 ∧ (f_XM_isTold mth mn mp mw mu md mo y1 z1) = 1 ∧ (1 : Int) = 1) := f1
  have hP : va_P (dC, dI) vwCl [(a1, .inl (cZ, 62, .inl (jA y1))), (ma, .inr (5, [.int (jI mth1'), .int (jI mn), .ref a0, .int (jI mp), .int (jI mw), .ref a1, .ref a2, .ref a3, .ref a4, .ref a5, .ref a6, .ref a7, .ref a8, .ref a9, .ref a10, .long (jL mu), .long (jL md), .int (jI mo), .ref a11]))] H := hP
  have hD : va_D A [(a1, .inl (cZ, 62, .inl (jA y1))), (ma, .inr (5, [.int (jI mth1'), .int (jI mn), .ref a0, .int (jI mp), .int (jI mw), .ref a1, .ref a2, .ref a3, .ref a4, .ref a5, .ref a6, .ref a7, .ref a8, .ref a9, .ref a10, .long (jL mu), .long (jL md), .int (jI mo), .ref a11]))] := hD
  refine ji_if_ne (tgt := 15) hx hb dXM_fits_10 (by decide) (by first | omega | decide) (fun c10_ => absurd c10_ (by have h8 := hg0 z1; omega)) (fun c10_ => ?_)
  refine ji_iconst hx hb dXM_fits_13 ?_
  have hP9 := hP.sub (ws' := [(ma, .inr (5, [.int (jI mth1'), .int (jI mn), .ref a0, .int (jI mp), .int (jI mw), .ref a1, .ref a2, .ref a3, .ref a4, .ref a5, .ref a6, .ref a7, .ref a8, .ref a9, .ref a10, .long (jL mu), .long (jL md), .int (jI mo), .ref a11])), (a1, .inl (cZ, 62, .inl (jA y1)))]) [1, 0] rfl
  have hD9 := hD.sub (ws' := [(ma, .inr (5, [.int (jI mth1'), .int (jI mn), .ref a0, .int (jI mp), .int (jI mw), .ref a1, .ref a2, .ref a3, .ref a4, .ref a5, .ref a6, .ref a7, .ref a8, .ref a9, .ref a10, .long (jL mu), .long (jL md), .int (jI mo), .ref a11])), (a1, .inl (cZ, 62, .inl (jA y1)))]) [1, 0] (by decide) rfl
  subst hAe
  subst hQ
  exact W.iret (v := jI 0) hx hb hr (fun t ht hW => ⟨⟨_, (0, mth1'), rfl, ⟨rfl, (show mth1' = 1 from by first | assumption | omega | exact jset_b (by assumption) (by omega))⟩, ⟨by rw [ht]; exact hP9, va_K.moved hW.alike hK, hD9⟩⟩, hS.F ht⟩) hS.2.2 dXM_fits_14
set_option maxHeartbeats 4000000 in
set_option maxRecDepth 100000 in
theorem c_XM_holdsF (l : Launch) (dC : Nat → ClassId) (dI : Nat → Nat → Nat) (cA cZ : ClassId) (sz : Nat) (ma : Nat) (a0 : Nat) (a1 : Nat) (a2 : Nat) (a3 : Nat) (a4 : Nat) (a5 : Nat) (a6 : Nat) (a7 : Nat) (a8 : Nat) (a9 : Nat) (a10 : Nat) (a11 : Nat) (mth : Int) (mn : Int) (mp : Int) (mw : Int) (mu : Int) (md : Int) (mo : Int) (y1 : Int → Int) (z1 : Int) (z2 : Int) (hy1 : ∀ i, 0 ≤ y1 i ∧ y1 i ≤ 1) (hg0 : ∀ i, y1 i = 0) (hiz1 : i32 z1) (hiz2 : i32 z2) : Met l yXM_holds (Cond.code yXM_holds cXM_holds 4 (some .boolean) :: TBL) ({ frames := 2, cells := 0, slots := 0, locals := 43 } : Room) (va_Pc [.ref ma, .int (jI z1), .int (jI z2)] (jBw (dC, dI) [(cA, .int), (cZ, .boolean)] [(ma, .inr (5, [.int (jI mth), .int (jI mn), .ref a0, .int (jI mp), .int (jI mw), .ref a1, .ref a2, .ref a3, .ref a4, .ref a5, .ref a6, .ref a7, .ref a8, .ref a9, .ref a10, .long (jL mu), .long (jL md), .int (jI mo), .ref a11])), (a1, .inl (cZ, 62, .inl (jA y1)))] sz)) (va_Qi (fun (r : Int32) (u : Int × Int) => r = jI u.1 ∧ (u.2 = 1)) (fun u t => jE (dC, dI) [(cA, .int), (cZ, .boolean)] [(ma, .inr (5, [.int (jI mth), .int (jI mn), .ref a0, .int (jI mp), .int (jI mw), .ref a1, .ref a2, .ref a3, .ref a4, .ref a5, .ref a6, .ref a7, .ref a8, .ref a9, .ref a10, .long (jL mu), .long (jL md), .int (jI mo), .ref a11])), (a1, .inl (cZ, 62, .inl (jA y1)))] sz [(ma, .inr (5, [.int (jI u.2), .int (jI mn), .ref a0, .int (jI mp), .int (jI mw), .ref a1, .ref a2, .ref a3, .ref a4, .ref a5, .ref a6, .ref a7, .ref a8, .ref a9, .ref a10, .long (jL mu), .long (jL md), .int (jI mo), .ref a11])), (a1, .inl (cZ, 62, .inl (jA y1)))] t) (va_A [(ma, .inr (5, [.int (jI mth), .int (jI mn), .ref a0, .int (jI mp), .int (jI mw), .ref a1, .ref a2, .ref a3, .ref a4, .ref a5, .ref a6, .ref a7, .ref a8, .ref a9, .ref a10, .long (jL mu), .long (jL md), .int (jI mo), .ref a11])), (a1, .inl (cZ, 62, .inl (jA y1)))] sz)) 0 0 (va_A [(ma, .inr (5, [.int (jI mth), .int (jI mn), .ref a0, .int (jI mp), .int (jI mw), .ref a1, .ref a2, .ref a3, .ref a4, .ref a5, .ref a6, .ref a7, .ref a8, .ref a9, .ref a10, .long (jL mu), .long (jL md), .int (jI mo), .ref a11])), (a1, .inl (cZ, 62, .inl (jA y1)))] sz) := by
  refine jMet (cc := cXM_holds) (maxL := 4) (ret := some .boolean) (by decide) rfl ?_
  intro p e s m args below meth c s₁ R Q hR hQ B hml hv
  obtain ⟨rfl, hsz, hP, hK, hD0, hN⟩ := hv
  have hx := B.exec
  have hb := B.bytes
  have hr := B.returns
  have hts := atoms_spec (ws := Cond.code yXM_holds cXM_holds 4 (some .boolean) :: TBL) B.pre
  have hown : s.vm.findClass RXM = some m.cls := findClass_of_methodNamed B.named
  have hlocks := B.notSynchronized
  subst hsz
  obtain ⟨A, hAe⟩ : ∃ A, A = va_A [(ma, .inr (5, [.int (jI mth), .int (jI mn), .ref a0, .int (jI mp), .int (jI mw), .ref a1, .ref a2, .ref a3, .ref a4, .ref a5, .ref a6, .ref a7, .ref a8, .ref a9, .ref a10, .long (jL mu), .long (jL md), .int (jI mo), .ref a11])), (a1, .inl (cZ, 62, .inl (jA y1)))] s.heap.size := ⟨_, rfl⟩
  have hD : va_D A [(ma, .inr (5, [.int (jI mth), .int (jI mn), .ref a0, .int (jI mp), .int (jI mw), .ref a1, .ref a2, .ref a3, .ref a4, .ref a5, .ref a6, .ref a7, .ref a8, .ref a9, .ref a10, .long (jL mu), .long (jL md), .int (jI mo), .ref a11])), (a1, .inl (cZ, 62, .inl (jA y1)))] := by rw [hAe]; exact hD0.self
  have hA : ∀ q : Nat, s.heap.size ≤ q → A q := fun q h => by rw [hAe]; exact Or.inr h
  have hS : va_S A s.heap s.heap [] := va_S.rf
  have hP : va_P (dC, dI) vwCl [(ma, .inr (5, [.int (jI mth), .int (jI mn), .ref a0, .int (jI mp), .int (jI mw), .ref a1, .ref a2, .ref a3, .ref a4, .ref a5, .ref a6, .ref a7, .ref a8, .ref a9, .ref a10, .long (jL mu), .long (jL md), .int (jI mo), .ref a11])), (a1, .inl (cZ, 62, .inl (jA y1)))] s.heap := hP
  have hl := lv_entry ([.ref ma, .int (jI z1), .int (jI z2)]) (n := 4) (Nat.le_of_ble_eq_true rfl)
  rw [lg_entry_eq]
  generalize (lg_sl ([.ref ma, .int (jI z1), .int (jI z2)]) ++ List.replicate (4 - (lg_sl ([.ref ma, .int (jI z1), .int (jI z2)])).length) Slot.unset).toArray = ls at hl ⊢
  have hl : lv_has ls 4 [(0, .ref ma), (1, .int (jI z1)), (2, .int (jI z2))] := hl
  refine lv_aload_n hx hb dXM_holds_0 rfl (lv_at hl 0 rfl) ?_
  refine lv_aload_n hx hb dXM_holds_1 rfl (lv_at hl 0 rfl) ?_
  refine lv_iload_n hx hb dXM_holds_2 rfl (lv_at hl 1 rfl) ?_
  refine jrVi (rest := [.ref ma]) ⟨hx, hb, hml, hown, hts⟩ (c_XM_isTold l dC dI cA cZ ma a0 a1 a2 a3 a4 a5 a6 a7 a8 a9 a10 a11 mth mn mp mw mu md mo y1 z1 (by first | assumption | omega) (by first | assumption | omega)) (cwV 1 hts (jG_V tw_768 tw_770 ts_29 tw_6 tw_771) rfl rfl rfl (by decide +kernel) (by rw [hR]; exact ⟨Nat.le_of_ble_eq_true rfl, Nat.le_of_ble_eq_true rfl⟩)) hK hP hN [0, 1] rfl 0 5 rfl rfl rfl rfl hl.1 rfl (Nat.le_of_ble_eq_true rfl) dXM_holds_3 (by rw [hR]; exact ⟨Nat.le_of_ble_eq_true rfl, Nat.le_of_ble_eq_true rfl⟩) ?_
  have f := f_XM_isTold_b mth mn mp mw mu md mo y1 z1 (by first | assumption | omega) (by first | assumption | omega)
  refine ji_if_eq (tgt := 21) hx hb dXM_holds_6 (by decide) (by first | omega | decide) (fun c6_ => ?_) (fun c6_ => absurd c6_ (by have h8 := hg0 z1; omega))
  refine ji_iconst hx hb dXM_holds_21 ?_
  refine ji_iconst hx hb dXM_holds_22 ?_
  refine jwVi (rest := []) (wr := [(a1, .inl (cZ, 62, .inl (jA y1)))]) ⟨hx, hb, hml, hown, hts⟩ (c_XM_goes l dC dI cA cZ _ ma a0 a1 a2 a3 a4 a5 a6 a7 a8 a9 a10 a11 mth mn mp mw mu md mo 0 1 (by first | assumption | omega | exact jset_b (by assumption) (by omega)) (by first | assumption | omega | exact jset_b (by assumption) (by omega))) (cwV 2 hts (jG_V tw_698 tw_700 ts_14 tw_6 tw_701) rfl rfl rfl (by decide +kernel) (by rw [hR]; exact ⟨Nat.le_of_ble_eq_true rfl, Nat.le_of_ble_eq_true rfl⟩)) hK hP hD hS hA hN [0] [1] rfl rfl (by decide) (by decide) (by decide) 0 5 rfl rfl rfl rfl hl.1 rfl (Nat.le_of_ble_eq_true rfl) dXM_holds_23 (by rw [hR]; exact ⟨Nat.le_of_ble_eq_true rfl, Nat.le_of_ble_eq_true rfl⟩) (fun v u H locs hwb hP hD hS => ?_)
  obtain ⟨r, mth1'⟩ := u
  try dsimp only at hwb
  obtain ⟨er, f1⟩ := hwb
  subst er
  have f1 : (r = 0 ∧ mth1' = 1 ∧ (0 : Int) = 0) ∨ (r = 0 ∧ mth1' = 2 ∧ (0 : Int) = 1 ∧ (1 : Int) = 0) ∨ (r = 1 ∧ mth1' = 0 ∧ (0 : Int) = 1 ∧ (1 : Int) = 1) := f1
  have hP : va_P (dC, dI) vwCl [(a1, .inl (cZ, 62, .inl (jA y1))), (ma, .inr (5, [.int (jI mth1'), .int (jI mn), .ref a0, .int (jI mp), .int (jI mw), .ref a1, .ref a2, .ref a3, .ref a4, .ref a5, .ref a6, .ref a7, .ref a8, .ref a9, .ref a10, .long (jL mu), .long (jL md), .int (jI mo), .ref a11]))] H := hP
  have hD : va_D A [(a1, .inl (cZ, 62, .inl (jA y1))), (ma, .inr (5, [.int (jI mth1'), .int (jI mn), .ref a0, .int (jI mp), .int (jI mw), .ref a1, .ref a2, .ref a3, .ref a4, .ref a5, .ref a6, .ref a7, .ref a8, .ref a9, .ref a10, .long (jL mu), .long (jL md), .int (jI mo), .ref a11]))] := hD
  refine ji_if_ne (tgt := 31) hx hb dXM_holds_26 (by decide) (by first | omega | decide) (fun c26_ => absurd c26_ (by omega)) (fun c26_ => ?_)
  refine ji_iconst hx hb dXM_holds_29 ?_
  have hP9 := hP.sub (ws' := [(ma, .inr (5, [.int (jI mth1'), .int (jI mn), .ref a0, .int (jI mp), .int (jI mw), .ref a1, .ref a2, .ref a3, .ref a4, .ref a5, .ref a6, .ref a7, .ref a8, .ref a9, .ref a10, .long (jL mu), .long (jL md), .int (jI mo), .ref a11])), (a1, .inl (cZ, 62, .inl (jA y1)))]) [1, 0] rfl
  have hD9 := hD.sub (ws' := [(ma, .inr (5, [.int (jI mth1'), .int (jI mn), .ref a0, .int (jI mp), .int (jI mw), .ref a1, .ref a2, .ref a3, .ref a4, .ref a5, .ref a6, .ref a7, .ref a8, .ref a9, .ref a10, .long (jL mu), .long (jL md), .int (jI mo), .ref a11])), (a1, .inl (cZ, 62, .inl (jA y1)))]) [1, 0] (by decide) rfl
  subst hAe
  subst hQ
  exact W.zret (v := jI 0) hx hb hr (by first | decide | exact jz (by omega)) (fun t ht hW => ⟨⟨_, (0, mth1'), rfl, ⟨rfl, (show mth1' = 1 from by first | assumption | omega | exact jset_b (by assumption) (by omega))⟩, ⟨by rw [ht]; exact hP9, va_K.moved hW.alike hK, hD9⟩⟩, hS.F ht⟩) hS.2.2 dXM_holds_30
set_option maxHeartbeats 4000000 in
set_option maxRecDepth 100000 in
theorem c_XM_routeF (l : Launch) (dC : Nat → ClassId) (dI : Nat → Nat → Nat) (cA cZ : ClassId) (sz : Nat) (ma : Nat) (a0 : Nat) (a1 : Nat) (a2 : Nat) (a3 : Nat) (a4 : Nat) (a5 : Nat) (a6 : Nat) (a7 : Nat) (a8 : Nat) (a9 : Nat) (a10 : Nat) (a11 : Nat) (mth : Int) (mn : Int) (mp : Int) (mw : Int) (mu : Int) (md : Int) (mo : Int) (y1 : Int → Int) (z1 : Int) (z2 : Int) (hy1 : ∀ i, 0 ≤ y1 i ∧ y1 i ≤ 1) (hg0 : ∀ i, y1 i = 0) (hiz1 : i32 z1) (hiz2 : i32 z2) : Met l yXM_route (Cond.code yXM_route cXM_route 6 (some .int) :: TBL) ({ frames := 2, cells := 0, slots := 0, locals := 43 } : Room) (va_Pc [.ref ma, .int (jI z1), .int (jI z2)] (jBw (dC, dI) [(cA, .int), (cZ, .boolean)] [(ma, .inr (5, [.int (jI mth), .int (jI mn), .ref a0, .int (jI mp), .int (jI mw), .ref a1, .ref a2, .ref a3, .ref a4, .ref a5, .ref a6, .ref a7, .ref a8, .ref a9, .ref a10, .long (jL mu), .long (jL md), .int (jI mo), .ref a11])), (a1, .inl (cZ, 62, .inl (jA y1)))] sz)) (va_Qi (fun (r : Int32) (u : Int × Int) => r = jI u.1 ∧ (u.2 = 1)) (fun u t => jE (dC, dI) [(cA, .int), (cZ, .boolean)] [(ma, .inr (5, [.int (jI mth), .int (jI mn), .ref a0, .int (jI mp), .int (jI mw), .ref a1, .ref a2, .ref a3, .ref a4, .ref a5, .ref a6, .ref a7, .ref a8, .ref a9, .ref a10, .long (jL mu), .long (jL md), .int (jI mo), .ref a11])), (a1, .inl (cZ, 62, .inl (jA y1)))] sz [(ma, .inr (5, [.int (jI u.2), .int (jI mn), .ref a0, .int (jI mp), .int (jI mw), .ref a1, .ref a2, .ref a3, .ref a4, .ref a5, .ref a6, .ref a7, .ref a8, .ref a9, .ref a10, .long (jL mu), .long (jL md), .int (jI mo), .ref a11])), (a1, .inl (cZ, 62, .inl (jA y1)))] t) (va_A [(ma, .inr (5, [.int (jI mth), .int (jI mn), .ref a0, .int (jI mp), .int (jI mw), .ref a1, .ref a2, .ref a3, .ref a4, .ref a5, .ref a6, .ref a7, .ref a8, .ref a9, .ref a10, .long (jL mu), .long (jL md), .int (jI mo), .ref a11])), (a1, .inl (cZ, 62, .inl (jA y1)))] sz)) 0 0 (va_A [(ma, .inr (5, [.int (jI mth), .int (jI mn), .ref a0, .int (jI mp), .int (jI mw), .ref a1, .ref a2, .ref a3, .ref a4, .ref a5, .ref a6, .ref a7, .ref a8, .ref a9, .ref a10, .long (jL mu), .long (jL md), .int (jI mo), .ref a11])), (a1, .inl (cZ, 62, .inl (jA y1)))] sz) := by
  refine jMet (cc := cXM_route) (maxL := 6) (ret := some .int) (by decide) rfl ?_
  intro p e s m args below meth c s₁ R Q hR hQ B hml hv
  obtain ⟨rfl, hsz, hP, hK, hD0, hN⟩ := hv
  have hx := B.exec
  have hb := B.bytes
  have hr := B.returns
  have hts := atoms_spec (ws := Cond.code yXM_route cXM_route 6 (some .int) :: TBL) B.pre
  have hown : s.vm.findClass RXM = some m.cls := findClass_of_methodNamed B.named
  have hlocks := B.notSynchronized
  subst hsz
  obtain ⟨A, hAe⟩ : ∃ A, A = va_A [(ma, .inr (5, [.int (jI mth), .int (jI mn), .ref a0, .int (jI mp), .int (jI mw), .ref a1, .ref a2, .ref a3, .ref a4, .ref a5, .ref a6, .ref a7, .ref a8, .ref a9, .ref a10, .long (jL mu), .long (jL md), .int (jI mo), .ref a11])), (a1, .inl (cZ, 62, .inl (jA y1)))] s.heap.size := ⟨_, rfl⟩
  have hD : va_D A [(ma, .inr (5, [.int (jI mth), .int (jI mn), .ref a0, .int (jI mp), .int (jI mw), .ref a1, .ref a2, .ref a3, .ref a4, .ref a5, .ref a6, .ref a7, .ref a8, .ref a9, .ref a10, .long (jL mu), .long (jL md), .int (jI mo), .ref a11])), (a1, .inl (cZ, 62, .inl (jA y1)))] := by rw [hAe]; exact hD0.self
  have hA : ∀ q : Nat, s.heap.size ≤ q → A q := fun q h => by rw [hAe]; exact Or.inr h
  have hS : va_S A s.heap s.heap [] := va_S.rf
  have hP : va_P (dC, dI) vwCl [(ma, .inr (5, [.int (jI mth), .int (jI mn), .ref a0, .int (jI mp), .int (jI mw), .ref a1, .ref a2, .ref a3, .ref a4, .ref a5, .ref a6, .ref a7, .ref a8, .ref a9, .ref a10, .long (jL mu), .long (jL md), .int (jI mo), .ref a11])), (a1, .inl (cZ, 62, .inl (jA y1)))] s.heap := hP
  have hl := lv_entry ([.ref ma, .int (jI z1), .int (jI z2)]) (n := 6) (Nat.le_of_ble_eq_true rfl)
  rw [lg_entry_eq]
  generalize (lg_sl ([.ref ma, .int (jI z1), .int (jI z2)]) ++ List.replicate (6 - (lg_sl ([.ref ma, .int (jI z1), .int (jI z2)])).length) Slot.unset).toArray = ls at hl ⊢
  have hl : lv_has ls 6 [(0, .ref ma), (1, .int (jI z1)), (2, .int (jI z2))] := hl
  refine lv_aload_n hx hb dXM_route_0 rfl (lv_at hl 0 rfl) ?_
  refine lv_aload_n hx hb dXM_route_1 rfl (lv_at hl 0 rfl) ?_
  refine lv_iload_n hx hb dXM_route_2 rfl (lv_at hl 1 rfl) ?_
  refine jrVi (rest := [.ref ma]) ⟨hx, hb, hml, hown, hts⟩ (c_XM_isTold l dC dI cA cZ ma a0 a1 a2 a3 a4 a5 a6 a7 a8 a9 a10 a11 mth mn mp mw mu md mo y1 z1 (by first | assumption | omega) (by first | assumption | omega)) (cwV 1 hts (jG_V tw_768 tw_770 ts_29 tw_6 tw_771) rfl rfl rfl (by decide +kernel) (by rw [hR]; exact ⟨Nat.le_of_ble_eq_true rfl, Nat.le_of_ble_eq_true rfl⟩)) hK hP hN [0, 1] rfl 0 5 rfl rfl rfl rfl hl.1 rfl (Nat.le_of_ble_eq_true rfl) dXM_route_3 (by rw [hR]; exact ⟨Nat.le_of_ble_eq_true rfl, Nat.le_of_ble_eq_true rfl⟩) ?_
  have f := f_XM_isTold_b mth mn mp mw mu md mo y1 z1 (by first | assumption | omega) (by first | assumption | omega)
  refine ji_if_eq (tgt := 17) hx hb dXM_route_6 (by decide) (by first | omega | decide) (fun c6_ => ?_) (fun c6_ => absurd c6_ (by have h8 := hg0 z1; omega))
  refine ji_iconst hx hb dXM_route_17 ?_
  refine ji_iconst hx hb dXM_route_18 ?_
  refine jwVi (rest := []) (wr := [(a1, .inl (cZ, 62, .inl (jA y1)))]) ⟨hx, hb, hml, hown, hts⟩ (c_XM_goes l dC dI cA cZ _ ma a0 a1 a2 a3 a4 a5 a6 a7 a8 a9 a10 a11 mth mn mp mw mu md mo 0 1 (by first | assumption | omega | exact jset_b (by assumption) (by omega)) (by first | assumption | omega | exact jset_b (by assumption) (by omega))) (cwV 2 hts (jG_V tw_698 tw_700 ts_14 tw_6 tw_701) rfl rfl rfl (by decide +kernel) (by rw [hR]; exact ⟨Nat.le_of_ble_eq_true rfl, Nat.le_of_ble_eq_true rfl⟩)) hK hP hD hS hA hN [0] [1] rfl rfl (by decide) (by decide) (by decide) 0 5 rfl rfl rfl rfl hl.1 rfl (Nat.le_of_ble_eq_true rfl) dXM_route_19 (by rw [hR]; exact ⟨Nat.le_of_ble_eq_true rfl, Nat.le_of_ble_eq_true rfl⟩) (fun v u H locs hwb hP hD hS => ?_)
  obtain ⟨r, mth1'⟩ := u
  try dsimp only at hwb
  obtain ⟨er, f1⟩ := hwb
  subst er
  have f1 : (r = 0 ∧ mth1' = 1 ∧ (0 : Int) = 0) ∨ (r = 0 ∧ mth1' = 2 ∧ (0 : Int) = 1 ∧ (1 : Int) = 0) ∨ (r = 1 ∧ mth1' = 0 ∧ (0 : Int) = 1 ∧ (1 : Int) = 1) := f1
  have hP : va_P (dC, dI) vwCl [(a1, .inl (cZ, 62, .inl (jA y1))), (ma, .inr (5, [.int (jI mth1'), .int (jI mn), .ref a0, .int (jI mp), .int (jI mw), .ref a1, .ref a2, .ref a3, .ref a4, .ref a5, .ref a6, .ref a7, .ref a8, .ref a9, .ref a10, .long (jL mu), .long (jL md), .int (jI mo), .ref a11]))] H := hP
  have hD : va_D A [(a1, .inl (cZ, 62, .inl (jA y1))), (ma, .inr (5, [.int (jI mth1'), .int (jI mn), .ref a0, .int (jI mp), .int (jI mw), .ref a1, .ref a2, .ref a3, .ref a4, .ref a5, .ref a6, .ref a7, .ref a8, .ref a9, .ref a10, .long (jL mu), .long (jL md), .int (jI mo), .ref a11]))] := hD
  refine ji_if_ne (tgt := 27) hx hb dXM_route_22 (by decide) (by first | omega | decide) (fun c22_ => absurd c22_ (by omega)) (fun c22_ => ?_)
  refine ji_iconst hx hb dXM_route_25 ?_
  have hP9 := hP.sub (ws' := [(ma, .inr (5, [.int (jI mth1'), .int (jI mn), .ref a0, .int (jI mp), .int (jI mw), .ref a1, .ref a2, .ref a3, .ref a4, .ref a5, .ref a6, .ref a7, .ref a8, .ref a9, .ref a10, .long (jL mu), .long (jL md), .int (jI mo), .ref a11])), (a1, .inl (cZ, 62, .inl (jA y1)))]) [1, 0] rfl
  have hD9 := hD.sub (ws' := [(ma, .inr (5, [.int (jI mth1'), .int (jI mn), .ref a0, .int (jI mp), .int (jI mw), .ref a1, .ref a2, .ref a3, .ref a4, .ref a5, .ref a6, .ref a7, .ref a8, .ref a9, .ref a10, .long (jL mu), .long (jL md), .int (jI mo), .ref a11])), (a1, .inl (cZ, 62, .inl (jA y1)))]) [1, 0] (by decide) rfl
  subst hAe
  subst hQ
  exact W.iret (v := jI 0) hx hb hr (fun t ht hW => ⟨⟨_, (0, mth1'), rfl, ⟨rfl, (show mth1' = 1 from by first | assumption | omega | exact jset_b (by assumption) (by omega))⟩, ⟨by rw [ht]; exact hP9, va_K.moved hW.alike hK, hD9⟩⟩, hS.F ht⟩) hS.2.2 dXM_route_26
set_option maxHeartbeats 4000000 in
set_option maxRecDepth 100000 in
theorem c_XM_differenceF (l : Launch) (dC : Nat → ClassId) (dI : Nat → Nat → Nat) (cA cZ : ClassId) (sz : Nat) (ma : Nat) (a0 : Nat) (a1 : Nat) (a2 : Nat) (a3 : Nat) (a4 : Nat) (a5 : Nat) (a6 : Nat) (a7 : Nat) (a8 : Nat) (a9 : Nat) (a10 : Nat) (a11 : Nat) (mth : Int) (mn : Int) (mp : Int) (mw : Int) (mu : Int) (md : Int) (mo : Int) (y1 : Int → Int) (z1 : Int) (z2 : Int) (z3 : Int) (hy1 : ∀ i, 0 ≤ y1 i ∧ y1 i ≤ 1) (hg0 : ∀ i, y1 i = 0) (hiz1 : i32 z1) (hiz2 : i32 z2) (hiz3 : i32 z3) : Met l yXM_difference (Cond.code yXM_difference cXM_difference 6 (some .int) :: TBL) ({ frames := 2, cells := 0, slots := 0, locals := 43 } : Room) (va_Pc [.ref ma, .int (jI z1), .int (jI z2), .int (jI z3)] (jBw (dC, dI) [(cA, .int), (cZ, .boolean)] [(ma, .inr (5, [.int (jI mth), .int (jI mn), .ref a0, .int (jI mp), .int (jI mw), .ref a1, .ref a2, .ref a3, .ref a4, .ref a5, .ref a6, .ref a7, .ref a8, .ref a9, .ref a10, .long (jL mu), .long (jL md), .int (jI mo), .ref a11])), (a1, .inl (cZ, 62, .inl (jA y1)))] sz)) (va_Qi (fun (r : Int32) (u : Int × Int) => r = jI u.1 ∧ (u.2 = 1)) (fun u t => jE (dC, dI) [(cA, .int), (cZ, .boolean)] [(ma, .inr (5, [.int (jI mth), .int (jI mn), .ref a0, .int (jI mp), .int (jI mw), .ref a1, .ref a2, .ref a3, .ref a4, .ref a5, .ref a6, .ref a7, .ref a8, .ref a9, .ref a10, .long (jL mu), .long (jL md), .int (jI mo), .ref a11])), (a1, .inl (cZ, 62, .inl (jA y1)))] sz [(ma, .inr (5, [.int (jI u.2), .int (jI mn), .ref a0, .int (jI mp), .int (jI mw), .ref a1, .ref a2, .ref a3, .ref a4, .ref a5, .ref a6, .ref a7, .ref a8, .ref a9, .ref a10, .long (jL mu), .long (jL md), .int (jI mo), .ref a11])), (a1, .inl (cZ, 62, .inl (jA y1)))] t) (va_A [(ma, .inr (5, [.int (jI mth), .int (jI mn), .ref a0, .int (jI mp), .int (jI mw), .ref a1, .ref a2, .ref a3, .ref a4, .ref a5, .ref a6, .ref a7, .ref a8, .ref a9, .ref a10, .long (jL mu), .long (jL md), .int (jI mo), .ref a11])), (a1, .inl (cZ, 62, .inl (jA y1)))] sz)) 0 0 (va_A [(ma, .inr (5, [.int (jI mth), .int (jI mn), .ref a0, .int (jI mp), .int (jI mw), .ref a1, .ref a2, .ref a3, .ref a4, .ref a5, .ref a6, .ref a7, .ref a8, .ref a9, .ref a10, .long (jL mu), .long (jL md), .int (jI mo), .ref a11])), (a1, .inl (cZ, 62, .inl (jA y1)))] sz) := by
  refine jMet (cc := cXM_difference) (maxL := 6) (ret := some .int) (by decide) rfl ?_
  intro p e s m args below meth c s₁ R Q hR hQ B hml hv
  obtain ⟨rfl, hsz, hP, hK, hD0, hN⟩ := hv
  have hx := B.exec
  have hb := B.bytes
  have hr := B.returns
  have hts := atoms_spec (ws := Cond.code yXM_difference cXM_difference 6 (some .int) :: TBL) B.pre
  have hown : s.vm.findClass RXM = some m.cls := findClass_of_methodNamed B.named
  have hlocks := B.notSynchronized
  subst hsz
  obtain ⟨A, hAe⟩ : ∃ A, A = va_A [(ma, .inr (5, [.int (jI mth), .int (jI mn), .ref a0, .int (jI mp), .int (jI mw), .ref a1, .ref a2, .ref a3, .ref a4, .ref a5, .ref a6, .ref a7, .ref a8, .ref a9, .ref a10, .long (jL mu), .long (jL md), .int (jI mo), .ref a11])), (a1, .inl (cZ, 62, .inl (jA y1)))] s.heap.size := ⟨_, rfl⟩
  have hD : va_D A [(ma, .inr (5, [.int (jI mth), .int (jI mn), .ref a0, .int (jI mp), .int (jI mw), .ref a1, .ref a2, .ref a3, .ref a4, .ref a5, .ref a6, .ref a7, .ref a8, .ref a9, .ref a10, .long (jL mu), .long (jL md), .int (jI mo), .ref a11])), (a1, .inl (cZ, 62, .inl (jA y1)))] := by rw [hAe]; exact hD0.self
  have hA : ∀ q : Nat, s.heap.size ≤ q → A q := fun q h => by rw [hAe]; exact Or.inr h
  have hS : va_S A s.heap s.heap [] := va_S.rf
  have hP : va_P (dC, dI) vwCl [(ma, .inr (5, [.int (jI mth), .int (jI mn), .ref a0, .int (jI mp), .int (jI mw), .ref a1, .ref a2, .ref a3, .ref a4, .ref a5, .ref a6, .ref a7, .ref a8, .ref a9, .ref a10, .long (jL mu), .long (jL md), .int (jI mo), .ref a11])), (a1, .inl (cZ, 62, .inl (jA y1)))] s.heap := hP
  have hl := lv_entry ([.ref ma, .int (jI z1), .int (jI z2), .int (jI z3)]) (n := 6) (Nat.le_of_ble_eq_true rfl)
  rw [lg_entry_eq]
  generalize (lg_sl ([.ref ma, .int (jI z1), .int (jI z2), .int (jI z3)]) ++ List.replicate (6 - (lg_sl ([.ref ma, .int (jI z1), .int (jI z2), .int (jI z3)])).length) Slot.unset).toArray = ls at hl ⊢
  have hl : lv_has ls 6 [(0, .ref ma), (1, .int (jI z1)), (2, .int (jI z2)), (3, .int (jI z3))] := hl
  refine lv_aload_n hx hb dXM_difference_0 rfl (lv_at hl 0 rfl) ?_
  refine lv_aload_n hx hb dXM_difference_1 rfl (lv_at hl 0 rfl) ?_
  refine lv_iload_n hx hb dXM_difference_2 rfl (lv_at hl 1 rfl) ?_
  refine jrVi (rest := [.ref ma]) ⟨hx, hb, hml, hown, hts⟩ (c_XM_isTold l dC dI cA cZ ma a0 a1 a2 a3 a4 a5 a6 a7 a8 a9 a10 a11 mth mn mp mw mu md mo y1 z1 (by first | assumption | omega) (by first | assumption | omega)) (cwV 1 hts (jG_V tw_768 tw_770 ts_29 tw_6 tw_771) rfl rfl rfl (by decide +kernel) (by rw [hR]; exact ⟨Nat.le_of_ble_eq_true rfl, Nat.le_of_ble_eq_true rfl⟩)) hK hP hN [0, 1] rfl 0 5 rfl rfl rfl rfl hl.1 rfl (Nat.le_of_ble_eq_true rfl) dXM_difference_3 (by rw [hR]; exact ⟨Nat.le_of_ble_eq_true rfl, Nat.le_of_ble_eq_true rfl⟩) ?_
  have f := f_XM_isTold_b mth mn mp mw mu md mo y1 z1 (by first | assumption | omega) (by first | assumption | omega)
  refine ji_if_eq (tgt := 25) hx hb dXM_difference_6 (by decide) (by first | omega | decide) (fun c6_ => ?_) (fun c6_ => absurd c6_ (by have h8 := hg0 z1; omega))
  refine ji_iconst hx hb dXM_difference_25 ?_
  refine ji_iconst hx hb dXM_difference_26 ?_
  refine jwVi (rest := []) (wr := [(a1, .inl (cZ, 62, .inl (jA y1)))]) ⟨hx, hb, hml, hown, hts⟩ (c_XM_goes l dC dI cA cZ _ ma a0 a1 a2 a3 a4 a5 a6 a7 a8 a9 a10 a11 mth mn mp mw mu md mo 0 1 (by first | assumption | omega | exact jset_b (by assumption) (by omega)) (by first | assumption | omega | exact jset_b (by assumption) (by omega))) (cwV 2 hts (jG_V tw_698 tw_700 ts_14 tw_6 tw_701) rfl rfl rfl (by decide +kernel) (by rw [hR]; exact ⟨Nat.le_of_ble_eq_true rfl, Nat.le_of_ble_eq_true rfl⟩)) hK hP hD hS hA hN [0] [1] rfl rfl (by decide) (by decide) (by decide) 0 5 rfl rfl rfl rfl hl.1 rfl (Nat.le_of_ble_eq_true rfl) dXM_difference_27 (by rw [hR]; exact ⟨Nat.le_of_ble_eq_true rfl, Nat.le_of_ble_eq_true rfl⟩) (fun v u H locs hwb hP hD hS => ?_)
  obtain ⟨r, mth1'⟩ := u
  try dsimp only at hwb
  obtain ⟨er, f1⟩ := hwb
  subst er
  have f1 : (r = 0 ∧ mth1' = 1 ∧ (0 : Int) = 0) ∨ (r = 0 ∧ mth1' = 2 ∧ (0 : Int) = 1 ∧ (1 : Int) = 0) ∨ (r = 1 ∧ mth1' = 0 ∧ (0 : Int) = 1 ∧ (1 : Int) = 1) := f1
  have hP : va_P (dC, dI) vwCl [(a1, .inl (cZ, 62, .inl (jA y1))), (ma, .inr (5, [.int (jI mth1'), .int (jI mn), .ref a0, .int (jI mp), .int (jI mw), .ref a1, .ref a2, .ref a3, .ref a4, .ref a5, .ref a6, .ref a7, .ref a8, .ref a9, .ref a10, .long (jL mu), .long (jL md), .int (jI mo), .ref a11]))] H := hP
  have hD : va_D A [(a1, .inl (cZ, 62, .inl (jA y1))), (ma, .inr (5, [.int (jI mth1'), .int (jI mn), .ref a0, .int (jI mp), .int (jI mw), .ref a1, .ref a2, .ref a3, .ref a4, .ref a5, .ref a6, .ref a7, .ref a8, .ref a9, .ref a10, .long (jL mu), .long (jL md), .int (jI mo), .ref a11]))] := hD
  refine ji_if_ne (tgt := 35) hx hb dXM_difference_30 (by decide) (by first | omega | decide) (fun c30_ => absurd c30_ (by omega)) (fun c30_ => ?_)
  refine ji_iconst hx hb dXM_difference_33 ?_
  have hP9 := hP.sub (ws' := [(ma, .inr (5, [.int (jI mth1'), .int (jI mn), .ref a0, .int (jI mp), .int (jI mw), .ref a1, .ref a2, .ref a3, .ref a4, .ref a5, .ref a6, .ref a7, .ref a8, .ref a9, .ref a10, .long (jL mu), .long (jL md), .int (jI mo), .ref a11])), (a1, .inl (cZ, 62, .inl (jA y1)))]) [1, 0] rfl
  have hD9 := hD.sub (ws' := [(ma, .inr (5, [.int (jI mth1'), .int (jI mn), .ref a0, .int (jI mp), .int (jI mw), .ref a1, .ref a2, .ref a3, .ref a4, .ref a5, .ref a6, .ref a7, .ref a8, .ref a9, .ref a10, .long (jL mu), .long (jL md), .int (jI mo), .ref a11])), (a1, .inl (cZ, 62, .inl (jA y1)))]) [1, 0] (by decide) rfl
  subst hAe
  subst hQ
  exact W.iret (v := jI 0) hx hb hr (fun t ht hW => ⟨⟨_, (0, mth1'), rfl, ⟨rfl, (show mth1' = 1 from by first | assumption | omega | exact jset_b (by assumption) (by omega))⟩, ⟨by rw [ht]; exact hP9, va_K.moved hW.alike hK, hD9⟩⟩, hS.F ht⟩) hS.2.2 dXM_difference_34
set_option maxHeartbeats 4000000 in
set_option maxRecDepth 100000 in
theorem c_XM_writeF (l : Launch) (dC : Nat → ClassId) (dI : Nat → Nat → Nat) (cA cZ : ClassId) (sz : Nat) (ma : Nat) (a0 : Nat) (a1 : Nat) (a2 : Nat) (a3 : Nat) (a4 : Nat) (a5 : Nat) (a6 : Nat) (a7 : Nat) (a8 : Nat) (a9 : Nat) (a10 : Nat) (a11 : Nat) (mth : Int) (mn : Int) (mp : Int) (mw : Int) (mu : Int) (md : Int) (mo : Int) (y1 : Int → Int) (z1 : Int) (hy1 : ∀ i, 0 ≤ y1 i ∧ y1 i ≤ 1) (hg0 : ∀ i, y1 i = 0) (hiz1 : i32 z1) : Met l yXM_write (Cond.code yXM_write cXM_write 3 (some .int) :: TBL) ({ frames := 2, cells := 0, slots := 0, locals := 43 } : Room) (va_Pc [.ref ma, .int (jI z1)] (jBw (dC, dI) [(cA, .int), (cZ, .boolean)] [(ma, .inr (5, [.int (jI mth), .int (jI mn), .ref a0, .int (jI mp), .int (jI mw), .ref a1, .ref a2, .ref a3, .ref a4, .ref a5, .ref a6, .ref a7, .ref a8, .ref a9, .ref a10, .long (jL mu), .long (jL md), .int (jI mo), .ref a11])), (a1, .inl (cZ, 62, .inl (jA y1)))] sz)) (va_Qi (fun (r : Int32) (u : Int × Int) => r = jI u.1 ∧ (u.2 = 1)) (fun u t => jE (dC, dI) [(cA, .int), (cZ, .boolean)] [(ma, .inr (5, [.int (jI mth), .int (jI mn), .ref a0, .int (jI mp), .int (jI mw), .ref a1, .ref a2, .ref a3, .ref a4, .ref a5, .ref a6, .ref a7, .ref a8, .ref a9, .ref a10, .long (jL mu), .long (jL md), .int (jI mo), .ref a11])), (a1, .inl (cZ, 62, .inl (jA y1)))] sz [(ma, .inr (5, [.int (jI u.2), .int (jI mn), .ref a0, .int (jI mp), .int (jI mw), .ref a1, .ref a2, .ref a3, .ref a4, .ref a5, .ref a6, .ref a7, .ref a8, .ref a9, .ref a10, .long (jL mu), .long (jL md), .int (jI mo), .ref a11])), (a1, .inl (cZ, 62, .inl (jA y1)))] t) (va_A [(ma, .inr (5, [.int (jI mth), .int (jI mn), .ref a0, .int (jI mp), .int (jI mw), .ref a1, .ref a2, .ref a3, .ref a4, .ref a5, .ref a6, .ref a7, .ref a8, .ref a9, .ref a10, .long (jL mu), .long (jL md), .int (jI mo), .ref a11])), (a1, .inl (cZ, 62, .inl (jA y1)))] sz)) 0 0 (va_A [(ma, .inr (5, [.int (jI mth), .int (jI mn), .ref a0, .int (jI mp), .int (jI mw), .ref a1, .ref a2, .ref a3, .ref a4, .ref a5, .ref a6, .ref a7, .ref a8, .ref a9, .ref a10, .long (jL mu), .long (jL md), .int (jI mo), .ref a11])), (a1, .inl (cZ, 62, .inl (jA y1)))] sz) := by
  refine jMet (cc := cXM_write) (maxL := 3) (ret := some .int) (by decide) rfl ?_
  intro p e s m args below meth c s₁ R Q hR hQ B hml hv
  obtain ⟨rfl, hsz, hP, hK, hD0, hN⟩ := hv
  have hx := B.exec
  have hb := B.bytes
  have hr := B.returns
  have hts := atoms_spec (ws := Cond.code yXM_write cXM_write 3 (some .int) :: TBL) B.pre
  have hown : s.vm.findClass RXM = some m.cls := findClass_of_methodNamed B.named
  have hlocks := B.notSynchronized
  subst hsz
  obtain ⟨A, hAe⟩ : ∃ A, A = va_A [(ma, .inr (5, [.int (jI mth), .int (jI mn), .ref a0, .int (jI mp), .int (jI mw), .ref a1, .ref a2, .ref a3, .ref a4, .ref a5, .ref a6, .ref a7, .ref a8, .ref a9, .ref a10, .long (jL mu), .long (jL md), .int (jI mo), .ref a11])), (a1, .inl (cZ, 62, .inl (jA y1)))] s.heap.size := ⟨_, rfl⟩
  have hD : va_D A [(ma, .inr (5, [.int (jI mth), .int (jI mn), .ref a0, .int (jI mp), .int (jI mw), .ref a1, .ref a2, .ref a3, .ref a4, .ref a5, .ref a6, .ref a7, .ref a8, .ref a9, .ref a10, .long (jL mu), .long (jL md), .int (jI mo), .ref a11])), (a1, .inl (cZ, 62, .inl (jA y1)))] := by rw [hAe]; exact hD0.self
  have hA : ∀ q : Nat, s.heap.size ≤ q → A q := fun q h => by rw [hAe]; exact Or.inr h
  have hS : va_S A s.heap s.heap [] := va_S.rf
  have hP : va_P (dC, dI) vwCl [(ma, .inr (5, [.int (jI mth), .int (jI mn), .ref a0, .int (jI mp), .int (jI mw), .ref a1, .ref a2, .ref a3, .ref a4, .ref a5, .ref a6, .ref a7, .ref a8, .ref a9, .ref a10, .long (jL mu), .long (jL md), .int (jI mo), .ref a11])), (a1, .inl (cZ, 62, .inl (jA y1)))] s.heap := hP
  have hl := lv_entry ([.ref ma, .int (jI z1)]) (n := 3) (Nat.le_of_ble_eq_true rfl)
  rw [lg_entry_eq]
  generalize (lg_sl ([.ref ma, .int (jI z1)]) ++ List.replicate (3 - (lg_sl ([.ref ma, .int (jI z1)])).length) Slot.unset).toArray = ls at hl ⊢
  have hl : lv_has ls 3 [(0, .ref ma), (1, .int (jI z1))] := hl
  refine lv_aload_n hx hb dXM_write_0 rfl (lv_at hl 0 rfl) ?_
  refine lv_aload_n hx hb dXM_write_1 rfl (lv_at hl 0 rfl) ?_
  refine lv_iload_n hx hb dXM_write_2 rfl (lv_at hl 1 rfl) ?_
  refine jrVi (rest := [.ref ma]) ⟨hx, hb, hml, hown, hts⟩ (c_XM_isTold l dC dI cA cZ ma a0 a1 a2 a3 a4 a5 a6 a7 a8 a9 a10 a11 mth mn mp mw mu md mo y1 z1 (by first | assumption | omega) (by first | assumption | omega)) (cwV 1 hts (jG_V tw_768 tw_770 ts_29 tw_6 tw_771) rfl rfl rfl (by decide +kernel) (by rw [hR]; exact ⟨Nat.le_of_ble_eq_true rfl, Nat.le_of_ble_eq_true rfl⟩)) hK hP hN [0, 1] rfl 0 5 rfl rfl rfl rfl hl.1 rfl (Nat.le_of_ble_eq_true rfl) dXM_write_3 (by rw [hR]; exact ⟨Nat.le_of_ble_eq_true rfl, Nat.le_of_ble_eq_true rfl⟩) ?_
  have f := f_XM_isTold_b mth mn mp mw mu md mo y1 z1 (by first | assumption | omega) (by first | assumption | omega)
  refine ji_iconst hx hb dXM_write_6 ?_
  refine jwVi (rest := []) (wr := [(a1, .inl (cZ, 62, .inl (jA y1)))]) ⟨hx, hb, hml, hown, hts⟩ (c_XM_goes l dC dI cA cZ _ ma a0 a1 a2 a3 a4 a5 a6 a7 a8 a9 a10 a11 mth mn mp mw mu md mo (f_XM_isTold mth mn mp mw mu md mo y1 z1) 1 (by first | assumption | omega | exact jset_b (by assumption) (by omega)) (by first | assumption | omega | exact jset_b (by assumption) (by omega))) (cwV 2 hts (jG_V tw_698 tw_700 ts_14 tw_6 tw_701) rfl rfl rfl (by decide +kernel) (by rw [hR]; exact ⟨Nat.le_of_ble_eq_true rfl, Nat.le_of_ble_eq_true rfl⟩)) hK hP hD hS hA hN [0] [1] rfl rfl (by decide) (by decide) (by decide) 0 5 rfl rfl rfl rfl hl.1 rfl (Nat.le_of_ble_eq_true rfl) dXM_write_7 (by rw [hR]; exact ⟨Nat.le_of_ble_eq_true rfl, Nat.le_of_ble_eq_true rfl⟩) (fun v u H locs hwb hP hD hS => ?_)
  obtain ⟨r, mth1'⟩ := u
  try dsimp only at hwb
  obtain ⟨er, f1⟩ := hwb
  subst er
  have f1 : (r = 0 ∧ mth1' = 1 ∧ (f_XM_isTold mth mn mp mw mu md mo y1 z1) = 0) ∨ (r = 0 ∧ mth1' = 2 ∧ (f_XM_isTold mth mn mp mw mu md mo y1 z1) = 1 ∧ (1 : Int) = 0) ∨ (r = 1 ∧ mth1' = 0 ∧ (f_XM_isTold mth mn mp mw mu md mo y1 z1) = 1 ∧ (1 : Int) = 1) := f1
  have hP : va_P (dC, dI) vwCl [(a1, .inl (cZ, 62, .inl (jA y1))), (ma, .inr (5, [.int (jI mth1'), .int (jI mn), .ref a0, .int (jI mp), .int (jI mw), .ref a1, .ref a2, .ref a3, .ref a4, .ref a5, .ref a6, .ref a7, .ref a8, .ref a9, .ref a10, .long (jL mu), .long (jL md), .int (jI mo), .ref a11]))] H := hP
  have hD : va_D A [(a1, .inl (cZ, 62, .inl (jA y1))), (ma, .inr (5, [.int (jI mth1'), .int (jI mn), .ref a0, .int (jI mp), .int (jI mw), .ref a1, .ref a2, .ref a3, .ref a4, .ref a5, .ref a6, .ref a7, .ref a8, .ref a9, .ref a10, .long (jL mu), .long (jL md), .int (jI mo), .ref a11]))] := hD
  refine ji_if_ne (tgt := 15) hx hb dXM_write_10 (by decide) (by first | omega | decide) (fun c10_ => absurd c10_ (by have h8 := hg0 z1; omega)) (fun c10_ => ?_)
  refine ji_iconst hx hb dXM_write_13 ?_
  have hP9 := hP.sub (ws' := [(ma, .inr (5, [.int (jI mth1'), .int (jI mn), .ref a0, .int (jI mp), .int (jI mw), .ref a1, .ref a2, .ref a3, .ref a4, .ref a5, .ref a6, .ref a7, .ref a8, .ref a9, .ref a10, .long (jL mu), .long (jL md), .int (jI mo), .ref a11])), (a1, .inl (cZ, 62, .inl (jA y1)))]) [1, 0] rfl
  have hD9 := hD.sub (ws' := [(ma, .inr (5, [.int (jI mth1'), .int (jI mn), .ref a0, .int (jI mp), .int (jI mw), .ref a1, .ref a2, .ref a3, .ref a4, .ref a5, .ref a6, .ref a7, .ref a8, .ref a9, .ref a10, .long (jL mu), .long (jL md), .int (jI mo), .ref a11])), (a1, .inl (cZ, 62, .inl (jA y1)))]) [1, 0] (by decide) rfl
  subst hAe
  subst hQ
  exact W.iret (v := jI 0) hx hb hr (fun t ht hW => ⟨⟨_, (0, mth1'), rfl, ⟨rfl, (show mth1' = 1 from by first | assumption | omega | exact jset_b (by assumption) (by omega))⟩, ⟨by rw [ht]; exact hP9, va_K.moved hW.alike hK, hD9⟩⟩, hS.F ht⟩) hS.2.2 dXM_write_14
set_option maxHeartbeats 4000000 in
set_option maxRecDepth 100000 in
theorem c_XM_valueF (l : Launch) (dC : Nat → ClassId) (dI : Nat → Nat → Nat) (cA cZ : ClassId) (sz : Nat) (ma : Nat) (a0 : Nat) (a1 : Nat) (a2 : Nat) (a3 : Nat) (a4 : Nat) (a5 : Nat) (a6 : Nat) (a7 : Nat) (a8 : Nat) (a9 : Nat) (a10 : Nat) (a11 : Nat) (mth : Int) (mn : Int) (mp : Int) (mw : Int) (mu : Int) (md : Int) (mo : Int) (y8 : Int → Int) (z1 : Int) (z2 : Int) (hy8 : ∀ i, 0 ≤ y8 i ∧ y8 i ≤ 1) (hf0 : ∀ i, y8 i = 0) (hiz1 : i32 z1) (hiz2 : i32 z2) : Met l yXM_value (Cond.code yXM_value cXM_value 4 (some .long) :: TBL) ({ frames := 2, cells := 0, slots := 0, locals := 42 } : Room) (va_Pc [.ref ma, .int (jI z1), .int (jI z2)] (jBw (dC, dI) [(cA, .int), (cZ, .boolean)] [(ma, .inr (5, [.int (jI mth), .int (jI mn), .ref a0, .int (jI mp), .int (jI mw), .ref a1, .ref a2, .ref a3, .ref a4, .ref a5, .ref a6, .ref a7, .ref a8, .ref a9, .ref a10, .long (jL mu), .long (jL md), .int (jI mo), .ref a11])), (a8, .inl (cZ, 8, .inl (jA y8)))] sz)) (va_Ql (fun (r : Int64) (u : Int × Int) => r = jL u.1 ∧ ((u.2 = 1 ∧ (z1 < 0 ∨ 3 < z1 ∨ z2 < 0 ∨ 1 < z2)) ∨ (u.2 = 2 ∧ 0 ≤ z1 ∧ z1 ≤ 3 ∧ 0 ≤ z2 ∧ z2 ≤ 1))) (fun u t => jE (dC, dI) [(cA, .int), (cZ, .boolean)] [(ma, .inr (5, [.int (jI mth), .int (jI mn), .ref a0, .int (jI mp), .int (jI mw), .ref a1, .ref a2, .ref a3, .ref a4, .ref a5, .ref a6, .ref a7, .ref a8, .ref a9, .ref a10, .long (jL mu), .long (jL md), .int (jI mo), .ref a11])), (a8, .inl (cZ, 8, .inl (jA y8)))] sz [(ma, .inr (5, [.int (jI u.2), .int (jI mn), .ref a0, .int (jI mp), .int (jI mw), .ref a1, .ref a2, .ref a3, .ref a4, .ref a5, .ref a6, .ref a7, .ref a8, .ref a9, .ref a10, .long (jL mu), .long (jL md), .int (jI mo), .ref a11])), (a8, .inl (cZ, 8, .inl (jA y8)))] t) (va_A [(ma, .inr (5, [.int (jI mth), .int (jI mn), .ref a0, .int (jI mp), .int (jI mw), .ref a1, .ref a2, .ref a3, .ref a4, .ref a5, .ref a6, .ref a7, .ref a8, .ref a9, .ref a10, .long (jL mu), .long (jL md), .int (jI mo), .ref a11])), (a8, .inl (cZ, 8, .inl (jA y8)))] sz)) 0 0 (va_A [(ma, .inr (5, [.int (jI mth), .int (jI mn), .ref a0, .int (jI mp), .int (jI mw), .ref a1, .ref a2, .ref a3, .ref a4, .ref a5, .ref a6, .ref a7, .ref a8, .ref a9, .ref a10, .long (jL mu), .long (jL md), .int (jI mo), .ref a11])), (a8, .inl (cZ, 8, .inl (jA y8)))] sz) := by
  refine jMet (cc := cXM_value) (maxL := 4) (ret := some .long) (by decide) rfl ?_
  intro p e s m args below meth c s₁ R Q hR hQ B hml hv
  obtain ⟨rfl, hsz, hP, hK, hD0, hN⟩ := hv
  have hx := B.exec
  have hb := B.bytes
  have hr := B.returns
  have hts := atoms_spec (ws := Cond.code yXM_value cXM_value 4 (some .long) :: TBL) B.pre
  have hown : s.vm.findClass RXM = some m.cls := findClass_of_methodNamed B.named
  have hlocks := B.notSynchronized
  subst hsz
  obtain ⟨A, hAe⟩ : ∃ A, A = va_A [(ma, .inr (5, [.int (jI mth), .int (jI mn), .ref a0, .int (jI mp), .int (jI mw), .ref a1, .ref a2, .ref a3, .ref a4, .ref a5, .ref a6, .ref a7, .ref a8, .ref a9, .ref a10, .long (jL mu), .long (jL md), .int (jI mo), .ref a11])), (a8, .inl (cZ, 8, .inl (jA y8)))] s.heap.size := ⟨_, rfl⟩
  have hD : va_D A [(ma, .inr (5, [.int (jI mth), .int (jI mn), .ref a0, .int (jI mp), .int (jI mw), .ref a1, .ref a2, .ref a3, .ref a4, .ref a5, .ref a6, .ref a7, .ref a8, .ref a9, .ref a10, .long (jL mu), .long (jL md), .int (jI mo), .ref a11])), (a8, .inl (cZ, 8, .inl (jA y8)))] := by rw [hAe]; exact hD0.self
  have hA : ∀ q : Nat, s.heap.size ≤ q → A q := fun q h => by rw [hAe]; exact Or.inr h
  have hS : va_S A s.heap s.heap [] := va_S.rf
  have hP : va_P (dC, dI) vwCl [(ma, .inr (5, [.int (jI mth), .int (jI mn), .ref a0, .int (jI mp), .int (jI mw), .ref a1, .ref a2, .ref a3, .ref a4, .ref a5, .ref a6, .ref a7, .ref a8, .ref a9, .ref a10, .long (jL mu), .long (jL md), .int (jI mo), .ref a11])), (a8, .inl (cZ, 8, .inl (jA y8)))] s.heap := hP
  have hl := lv_entry ([.ref ma, .int (jI z1), .int (jI z2)]) (n := 4) (Nat.le_of_ble_eq_true rfl)
  rw [lg_entry_eq]
  generalize (lg_sl ([.ref ma, .int (jI z1), .int (jI z2)]) ++ List.replicate (4 - (lg_sl ([.ref ma, .int (jI z1), .int (jI z2)])).length) Slot.unset).toArray = ls at hl ⊢
  have hl : lv_has ls 4 [(0, .ref ma), (1, .int (jI z1)), (2, .int (jI z2))] := hl
  refine lv_iload_n hx hb dXM_value_0 rfl (lv_at hl 1 rfl) ?_
  refine jrSi (rest := []) ⟨hx, hb, hml, hown, hts⟩ (c_XM_isKind l dC dI cA cZ z1 (by first | assumption | omega)) (cwS 1 hts (jG_S tw_795 tw_796 tw_6 tw_797) rfl rfl rfl (by decide +kernel) (by rw [hR]; exact ⟨Nat.le_of_ble_eq_true rfl, Nat.le_of_ble_eq_true rfl⟩)) hK hP hN [] rfl rfl hl.1 rfl (Nat.le_of_ble_eq_true rfl) dXM_value_1 (by rw [hR]; exact ⟨Nat.le_of_ble_eq_true rfl, Nat.le_of_ble_eq_true rfl⟩) ?_
  have f := f_XM_isKind_b z1 (by first | assumption | omega)
  refine ji_if_eq (tgt := 20) hx hb dXM_value_4 (by decide) (by first | omega | decide) (fun c4_ => ?_) (fun c4_ => ?_)
  · refine ji_iconst hx hb dXM_value_20 ?_
    refine lv_istore_n (lv' := [(3, .int (jI 0)), (0, .ref ma), (1, .int (jI z1)), (2, .int (jI z2))]) hx hb dXM_value_21 rfl hl (by decide) rfl (fun ls hl => ?_)
    refine lv_aload_n hx hb dXM_value_22 rfl (lv_at hl 1 rfl) ?_
    refine lv_iload_n hx hb dXM_value_23 rfl (lv_at hl 0 rfl) ?_
    refine lv_iload_n hx hb dXM_value_24 rfl (lv_at hl 0 rfl) ?_
    refine ji_if_eq (tgt := 41) hx hb dXM_value_25 (by decide) (by first | omega | decide) (fun c25_ => ?_) (fun c25_ => absurd c25_ (by decide))
    refine ji_iconst hx hb dXM_value_41 ?_
    refine jwVi (rest := []) (wr := [(a8, .inl (cZ, 8, .inl (jA y8)))]) ⟨hx, hb, hml, hown, hts⟩ (c_XM_goes l dC dI cA cZ _ ma a0 a1 a2 a3 a4 a5 a6 a7 a8 a9 a10 a11 mth mn mp mw mu md mo 0 0 (by first | assumption | omega | exact jset_b (by assumption) (by omega)) (by first | assumption | omega | exact jset_b (by assumption) (by omega))) (cwV 2 hts (jG_V tw_698 tw_700 ts_14 tw_6 tw_701) rfl rfl rfl (by decide +kernel) (by rw [hR]; exact ⟨Nat.le_of_ble_eq_true rfl, Nat.le_of_ble_eq_true rfl⟩)) hK hP hD hS hA hN [0] [1] rfl rfl (by decide) (by decide) (by decide) 0 5 rfl rfl rfl rfl hl.1 rfl (Nat.le_of_ble_eq_true rfl) dXM_value_42 (by rw [hR]; exact ⟨Nat.le_of_ble_eq_true rfl, Nat.le_of_ble_eq_true rfl⟩) (fun v u H locs hwb hP hD hS => ?_)
    obtain ⟨r, mth1'⟩ := u
    try dsimp only at hwb
    obtain ⟨er, f1⟩ := hwb
    subst er
    have f1 : (r = 0 ∧ mth1' = 1 ∧ (0 : Int) = 0) ∨ (r = 0 ∧ mth1' = 2 ∧ (0 : Int) = 1 ∧ (0 : Int) = 0) ∨ (r = 1 ∧ mth1' = 0 ∧ (0 : Int) = 1 ∧ (0 : Int) = 1) := f1
    have hP : va_P (dC, dI) vwCl [(a8, .inl (cZ, 8, .inl (jA y8))), (ma, .inr (5, [.int (jI mth1'), .int (jI mn), .ref a0, .int (jI mp), .int (jI mw), .ref a1, .ref a2, .ref a3, .ref a4, .ref a5, .ref a6, .ref a7, .ref a8, .ref a9, .ref a10, .long (jL mu), .long (jL md), .int (jI mo), .ref a11]))] H := hP
    have hD : va_D A [(a8, .inl (cZ, 8, .inl (jA y8))), (ma, .inr (5, [.int (jI mth1'), .int (jI mn), .ref a0, .int (jI mp), .int (jI mw), .ref a1, .ref a2, .ref a3, .ref a4, .ref a5, .ref a6, .ref a7, .ref a8, .ref a9, .ref a10, .long (jL mu), .long (jL md), .int (jI mo), .ref a11]))] := hD
    refine ji_if_ne (tgt := 50) hx hb dXM_value_45 (by decide) (by first | omega | decide) (fun c45_ => absurd c45_ (by omega)) (fun c45_ => ?_)
    refine ji_lconst (z := 0) hx hb dXM_value_48 rfl ?_
    have hP9 := hP.sub (ws' := [(ma, .inr (5, [.int (jI mth1'), .int (jI mn), .ref a0, .int (jI mp), .int (jI mw), .ref a1, .ref a2, .ref a3, .ref a4, .ref a5, .ref a6, .ref a7, .ref a8, .ref a9, .ref a10, .long (jL mu), .long (jL md), .int (jI mo), .ref a11])), (a8, .inl (cZ, 8, .inl (jA y8)))]) [1, 0] rfl
    have hD9 := hD.sub (ws' := [(ma, .inr (5, [.int (jI mth1'), .int (jI mn), .ref a0, .int (jI mp), .int (jI mw), .ref a1, .ref a2, .ref a3, .ref a4, .ref a5, .ref a6, .ref a7, .ref a8, .ref a9, .ref a10, .long (jL mu), .long (jL md), .int (jI mo), .ref a11])), (a8, .inl (cZ, 8, .inl (jA y8)))]) [1, 0] (by decide) rfl
    subst hAe
    subst hQ
    exact W.lret (v := jL 0) hx hb hr (fun t ht hW => ⟨⟨_, (0, mth1'), rfl, ⟨rfl, (show (mth1' = 1 ∧ (z1 < 0 ∨ 3 < z1 ∨ z2 < 0 ∨ 1 < z2)) ∨ (mth1' = 2 ∧ 0 ≤ z1 ∧ z1 ≤ 3 ∧ 0 ≤ z2 ∧ z2 ≤ 1) from by first | assumption | omega | exact jset_b (by assumption) (by omega))⟩, ⟨by rw [ht]; exact hP9, va_K.moved hW.alike hK, hD9⟩⟩, hS.F ht⟩) hS.2.2 dXM_value_49
  · refine lv_iload_n hx hb dXM_value_7 rfl (lv_at hl 2 rfl) ?_
    refine ji_iconst hx hb dXM_value_8 ?_
    refine ji_iconst hx hb dXM_value_9 ?_
    refine jrSi (rest := []) ⟨hx, hb, hml, hown, hts⟩ (c_XM_in l dC dI cA cZ z2 0 1 (by first | assumption | omega) (by first | assumption | omega) (by first | assumption | omega)) (cwS 3 hts (jG_S tw_695 tw_696 tw_6 tw_697) rfl rfl rfl (by decide +kernel) (by rw [hR]; exact ⟨Nat.le_of_ble_eq_true rfl, Nat.le_of_ble_eq_true rfl⟩)) hK hP hN [] rfl rfl hl.1 rfl (Nat.le_of_ble_eq_true rfl) dXM_value_10 (by rw [hR]; exact ⟨Nat.le_of_ble_eq_true rfl, Nat.le_of_ble_eq_true rfl⟩) ?_
    have f2 := f_XM_in_b z2 0 1 (by first | assumption | omega) (by first | assumption | omega) (by first | assumption | omega)
    refine ji_if_eq (tgt := 20) hx hb dXM_value_13 (by decide) (by first | omega | decide) (fun c13_ => ?_) (fun c13_ => ?_)
    · refine ji_iconst hx hb dXM_value_20 ?_
      refine lv_istore_n (lv' := [(3, .int (jI 0)), (0, .ref ma), (1, .int (jI z1)), (2, .int (jI z2))]) hx hb dXM_value_21 rfl hl (by decide) rfl (fun ls hl => ?_)
      refine lv_aload_n hx hb dXM_value_22 rfl (lv_at hl 1 rfl) ?_
      refine lv_iload_n hx hb dXM_value_23 rfl (lv_at hl 0 rfl) ?_
      refine lv_iload_n hx hb dXM_value_24 rfl (lv_at hl 0 rfl) ?_
      refine ji_if_eq (tgt := 41) hx hb dXM_value_25 (by decide) (by first | omega | decide) (fun c25_3 => ?_) (fun c25_3 => absurd c25_3 (by decide))
      refine ji_iconst hx hb dXM_value_41 ?_
      refine jwVi (rest := []) (wr := [(a8, .inl (cZ, 8, .inl (jA y8)))]) ⟨hx, hb, hml, hown, hts⟩ (c_XM_goes l dC dI cA cZ _ ma a0 a1 a2 a3 a4 a5 a6 a7 a8 a9 a10 a11 mth mn mp mw mu md mo 0 0 (by first | assumption | omega | exact jset_b (by assumption) (by omega)) (by first | assumption | omega | exact jset_b (by assumption) (by omega))) (cwV 2 hts (jG_V tw_698 tw_700 ts_14 tw_6 tw_701) rfl rfl rfl (by decide +kernel) (by rw [hR]; exact ⟨Nat.le_of_ble_eq_true rfl, Nat.le_of_ble_eq_true rfl⟩)) hK hP hD hS hA hN [0] [1] rfl rfl (by decide) (by decide) (by decide) 0 5 rfl rfl rfl rfl hl.1 rfl (Nat.le_of_ble_eq_true rfl) dXM_value_42 (by rw [hR]; exact ⟨Nat.le_of_ble_eq_true rfl, Nat.le_of_ble_eq_true rfl⟩) (fun v7 u6 H locs hwb8 hP hD hS => ?_)
      obtain ⟨r4, mth1'5⟩ := u6
      try dsimp only at hwb8
      obtain ⟨er, f9⟩ := hwb8
      subst er
      have f9 : (r4 = 0 ∧ mth1'5 = 1 ∧ (0 : Int) = 0) ∨ (r4 = 0 ∧ mth1'5 = 2 ∧ (0 : Int) = 1 ∧ (0 : Int) = 0) ∨ (r4 = 1 ∧ mth1'5 = 0 ∧ (0 : Int) = 1 ∧ (0 : Int) = 1) := f9
      have hP : va_P (dC, dI) vwCl [(a8, .inl (cZ, 8, .inl (jA y8))), (ma, .inr (5, [.int (jI mth1'5), .int (jI mn), .ref a0, .int (jI mp), .int (jI mw), .ref a1, .ref a2, .ref a3, .ref a4, .ref a5, .ref a6, .ref a7, .ref a8, .ref a9, .ref a10, .long (jL mu), .long (jL md), .int (jI mo), .ref a11]))] H := hP
      have hD : va_D A [(a8, .inl (cZ, 8, .inl (jA y8))), (ma, .inr (5, [.int (jI mth1'5), .int (jI mn), .ref a0, .int (jI mp), .int (jI mw), .ref a1, .ref a2, .ref a3, .ref a4, .ref a5, .ref a6, .ref a7, .ref a8, .ref a9, .ref a10, .long (jL mu), .long (jL md), .int (jI mo), .ref a11]))] := hD
      refine ji_if_ne (tgt := 50) hx hb dXM_value_45 (by decide) (by first | omega | decide) (fun c45_10 => absurd c45_10 (by omega)) (fun c45_10 => ?_)
      refine ji_lconst (z := 0) hx hb dXM_value_48 rfl ?_
      have hP9 := hP.sub (ws' := [(ma, .inr (5, [.int (jI mth1'5), .int (jI mn), .ref a0, .int (jI mp), .int (jI mw), .ref a1, .ref a2, .ref a3, .ref a4, .ref a5, .ref a6, .ref a7, .ref a8, .ref a9, .ref a10, .long (jL mu), .long (jL md), .int (jI mo), .ref a11])), (a8, .inl (cZ, 8, .inl (jA y8)))]) [1, 0] rfl
      have hD9 := hD.sub (ws' := [(ma, .inr (5, [.int (jI mth1'5), .int (jI mn), .ref a0, .int (jI mp), .int (jI mw), .ref a1, .ref a2, .ref a3, .ref a4, .ref a5, .ref a6, .ref a7, .ref a8, .ref a9, .ref a10, .long (jL mu), .long (jL md), .int (jI mo), .ref a11])), (a8, .inl (cZ, 8, .inl (jA y8)))]) [1, 0] (by decide) rfl
      subst hAe
      subst hQ
      exact W.lret (v := jL 0) hx hb hr (fun t ht hW => ⟨⟨_, (0, mth1'5), rfl, ⟨rfl, (show (mth1'5 = 1 ∧ (z1 < 0 ∨ 3 < z1 ∨ z2 < 0 ∨ 1 < z2)) ∨ (mth1'5 = 2 ∧ 0 ≤ z1 ∧ z1 ≤ 3 ∧ 0 ≤ z2 ∧ z2 ≤ 1) from by first | assumption | omega | exact jset_b (by assumption) (by omega))⟩, ⟨by rw [ht]; exact hP9, va_K.moved hW.alike hK, hD9⟩⟩, hS.F ht⟩) hS.2.2 dXM_value_49
    · refine ji_iconst hx hb dXM_value_16 ?_
      refine lv_goto (tgt := 21) hx hb dXM_value_17 (by decide) ?_
      refine lv_istore_n (lv' := [(3, .int (jI 1)), (0, .ref ma), (1, .int (jI z1)), (2, .int (jI z2))]) hx hb dXM_value_21 rfl hl (by decide) rfl (fun ls hl => ?_)
      refine lv_aload_n hx hb dXM_value_22 rfl (lv_at hl 1 rfl) ?_
      refine lv_iload_n hx hb dXM_value_23 rfl (lv_at hl 0 rfl) ?_
      refine lv_iload_n hx hb dXM_value_24 rfl (lv_at hl 0 rfl) ?_
      refine ji_if_eq (tgt := 41) hx hb dXM_value_25 (by decide) (by first | omega | decide) (fun c25_11 => absurd c25_11 (by decide)) (fun c25_11 => ?_)
      refine lv_aload_n hx hb dXM_value_28 rfl (lv_at hl 1 rfl) ?_
      refine va_get (D := (dC, dI)) (ci := 5) (v := .ref a8) (C := RXM) (T := TXM) (N := 19) hx hb hts (fun w h => jmem (inXM w h)) hown hK hP 0 rfl rfl 12 (by decide) (hts _ (jmem tw_640)) (fun _ h9 => h9) rfl dXM_value_29 ?_
      refine lv_iload_n hx hb dXM_value_32 rfl (lv_at hl 2 rfl) ?_
      refine ji_zald hx hb hK hP 1 1 rfl rfl ⟨by omega, by omega⟩ (by decide) dXM_value_33 ?_
      have rb := hy8 z1
      refine ji_if_eq (tgt := 41) hx hb dXM_value_34 (by decide) (by first | omega | decide) (fun c34_ => ?_) (fun c34_ => absurd c34_ (by have h8 := hf0 z1; omega))
      refine ji_iconst hx hb dXM_value_41 ?_
      refine jwVi (rest := []) (wr := [(a8, .inl (cZ, 8, .inl (jA y8)))]) ⟨hx, hb, hml, hown, hts⟩ (c_XM_goes l dC dI cA cZ _ ma a0 a1 a2 a3 a4 a5 a6 a7 a8 a9 a10 a11 mth mn mp mw mu md mo 1 0 (by first | assumption | omega | exact jset_b (by assumption) (by omega)) (by first | assumption | omega | exact jset_b (by assumption) (by omega))) (cwV 2 hts (jG_V tw_698 tw_700 ts_14 tw_6 tw_701) rfl rfl rfl (by decide +kernel) (by rw [hR]; exact ⟨Nat.le_of_ble_eq_true rfl, Nat.le_of_ble_eq_true rfl⟩)) hK hP hD hS hA hN [0] [1] rfl rfl (by decide) (by decide) (by decide) 0 5 rfl rfl rfl rfl hl.1 rfl (Nat.le_of_ble_eq_true rfl) dXM_value_42 (by rw [hR]; exact ⟨Nat.le_of_ble_eq_true rfl, Nat.le_of_ble_eq_true rfl⟩) (fun v15 u14 H locs hwb16 hP hD hS => ?_)
      obtain ⟨r12, mth1'13⟩ := u14
      try dsimp only at hwb16
      obtain ⟨er, f17⟩ := hwb16
      subst er
      have f17 : (r12 = 0 ∧ mth1'13 = 1 ∧ (1 : Int) = 0) ∨ (r12 = 0 ∧ mth1'13 = 2 ∧ (1 : Int) = 1 ∧ (0 : Int) = 0) ∨ (r12 = 1 ∧ mth1'13 = 0 ∧ (1 : Int) = 1 ∧ (0 : Int) = 1) := f17
      have hP : va_P (dC, dI) vwCl [(a8, .inl (cZ, 8, .inl (jA y8))), (ma, .inr (5, [.int (jI mth1'13), .int (jI mn), .ref a0, .int (jI mp), .int (jI mw), .ref a1, .ref a2, .ref a3, .ref a4, .ref a5, .ref a6, .ref a7, .ref a8, .ref a9, .ref a10, .long (jL mu), .long (jL md), .int (jI mo), .ref a11]))] H := hP
      have hD : va_D A [(a8, .inl (cZ, 8, .inl (jA y8))), (ma, .inr (5, [.int (jI mth1'13), .int (jI mn), .ref a0, .int (jI mp), .int (jI mw), .ref a1, .ref a2, .ref a3, .ref a4, .ref a5, .ref a6, .ref a7, .ref a8, .ref a9, .ref a10, .long (jL mu), .long (jL md), .int (jI mo), .ref a11]))] := hD
      refine ji_if_ne (tgt := 50) hx hb dXM_value_45 (by decide) (by first | omega | decide) (fun c45_18 => absurd c45_18 (by omega)) (fun c45_18 => ?_)
      refine ji_lconst (z := 0) hx hb dXM_value_48 rfl ?_
      have hP9 := hP.sub (ws' := [(ma, .inr (5, [.int (jI mth1'13), .int (jI mn), .ref a0, .int (jI mp), .int (jI mw), .ref a1, .ref a2, .ref a3, .ref a4, .ref a5, .ref a6, .ref a7, .ref a8, .ref a9, .ref a10, .long (jL mu), .long (jL md), .int (jI mo), .ref a11])), (a8, .inl (cZ, 8, .inl (jA y8)))]) [1, 0] rfl
      have hD9 := hD.sub (ws' := [(ma, .inr (5, [.int (jI mth1'13), .int (jI mn), .ref a0, .int (jI mp), .int (jI mw), .ref a1, .ref a2, .ref a3, .ref a4, .ref a5, .ref a6, .ref a7, .ref a8, .ref a9, .ref a10, .long (jL mu), .long (jL md), .int (jI mo), .ref a11])), (a8, .inl (cZ, 8, .inl (jA y8)))]) [1, 0] (by decide) rfl
      subst hAe
      subst hQ
      exact W.lret (v := jL 0) hx hb hr (fun t ht hW => ⟨⟨_, (0, mth1'13), rfl, ⟨rfl, (show (mth1'13 = 1 ∧ (z1 < 0 ∨ 3 < z1 ∨ z2 < 0 ∨ 1 < z2)) ∨ (mth1'13 = 2 ∧ 0 ≤ z1 ∧ z1 ≤ 3 ∧ 0 ≤ z2 ∧ z2 ≤ 1) from by first | assumption | omega | exact jset_b (by assumption) (by omega))⟩, ⟨by rw [ht]; exact hP9, va_K.moved hW.alike hK, hD9⟩⟩, hS.F ht⟩) hS.2.2 dXM_value_49
set_option maxHeartbeats 4000000 in
set_option maxRecDepth 100000 in
theorem c_XM_ringF (l : Launch) (dC : Nat → ClassId) (dI : Nat → Nat → Nat) (cA cZ : ClassId) (sz : Nat) (ma : Nat) (a0 : Nat) (a1 : Nat) (a2 : Nat) (a3 : Nat) (a4 : Nat) (a5 : Nat) (a6 : Nat) (a7 : Nat) (a8 : Nat) (a9 : Nat) (a10 : Nat) (a11 : Nat) (mth : Int) (mn : Int) (mp : Int) (mw : Int) (mu : Int) (md : Int) (mo : Int) (y1 : Int → Int) (z1 : Int) (hy1 : ∀ i, 0 ≤ y1 i ∧ y1 i ≤ 1) (hg0 : ∀ i, y1 i = 0) (hiz1 : i32 z1) : Met l yXM_ring (Cond.code yXM_ring cXM_ring 4 (some .int) :: TBL) ({ frames := 1, cells := 0, slots := 0, locals := 22 } : Room) (va_Pc [.ref ma, .int (jI z1)] (jBw (dC, dI) [(cA, .int), (cZ, .boolean)] [(ma, .inr (5, [.int (jI mth), .int (jI mn), .ref a0, .int (jI mp), .int (jI mw), .ref a1, .ref a2, .ref a3, .ref a4, .ref a5, .ref a6, .ref a7, .ref a8, .ref a9, .ref a10, .long (jL mu), .long (jL md), .int (jI mo), .ref a11])), (a1, .inl (cZ, 62, .inl (jA y1)))] sz)) (va_Qi (fun (r : Int32) (u : Int × Int) => r = jI u.1 ∧ ((u.2 = 1 ∧ z1 < 0) ∨ (u.2 = 0 ∧ 0 ≤ z1 ∧ u.1 = -1))) (fun u t => jE (dC, dI) [(cA, .int), (cZ, .boolean)] [(ma, .inr (5, [.int (jI mth), .int (jI mn), .ref a0, .int (jI mp), .int (jI mw), .ref a1, .ref a2, .ref a3, .ref a4, .ref a5, .ref a6, .ref a7, .ref a8, .ref a9, .ref a10, .long (jL mu), .long (jL md), .int (jI mo), .ref a11])), (a1, .inl (cZ, 62, .inl (jA y1)))] sz [(ma, .inr (5, [.int (jI u.2), .int (jI mn), .ref a0, .int (jI mp), .int (jI mw), .ref a1, .ref a2, .ref a3, .ref a4, .ref a5, .ref a6, .ref a7, .ref a8, .ref a9, .ref a10, .long (jL mu), .long (jL md), .int (jI mo), .ref a11])), (a1, .inl (cZ, 62, .inl (jA y1)))] t) (va_A [(ma, .inr (5, [.int (jI mth), .int (jI mn), .ref a0, .int (jI mp), .int (jI mw), .ref a1, .ref a2, .ref a3, .ref a4, .ref a5, .ref a6, .ref a7, .ref a8, .ref a9, .ref a10, .long (jL mu), .long (jL md), .int (jI mo), .ref a11])), (a1, .inl (cZ, 62, .inl (jA y1)))] sz)) 0 0 (va_A [(ma, .inr (5, [.int (jI mth), .int (jI mn), .ref a0, .int (jI mp), .int (jI mw), .ref a1, .ref a2, .ref a3, .ref a4, .ref a5, .ref a6, .ref a7, .ref a8, .ref a9, .ref a10, .long (jL mu), .long (jL md), .int (jI mo), .ref a11])), (a1, .inl (cZ, 62, .inl (jA y1)))] sz) := by
  refine jMet (cc := cXM_ring) (maxL := 4) (ret := some .int) (by decide) rfl ?_
  intro p e s m args below meth c s₁ R Q hR hQ B hml hv
  obtain ⟨rfl, hsz, hP, hK, hD0, hN⟩ := hv
  have hx := B.exec
  have hb := B.bytes
  have hr := B.returns
  have hts := atoms_spec (ws := Cond.code yXM_ring cXM_ring 4 (some .int) :: TBL) B.pre
  have hown : s.vm.findClass RXM = some m.cls := findClass_of_methodNamed B.named
  have hlocks := B.notSynchronized
  subst hsz
  obtain ⟨A, hAe⟩ : ∃ A, A = va_A [(ma, .inr (5, [.int (jI mth), .int (jI mn), .ref a0, .int (jI mp), .int (jI mw), .ref a1, .ref a2, .ref a3, .ref a4, .ref a5, .ref a6, .ref a7, .ref a8, .ref a9, .ref a10, .long (jL mu), .long (jL md), .int (jI mo), .ref a11])), (a1, .inl (cZ, 62, .inl (jA y1)))] s.heap.size := ⟨_, rfl⟩
  have hD : va_D A [(ma, .inr (5, [.int (jI mth), .int (jI mn), .ref a0, .int (jI mp), .int (jI mw), .ref a1, .ref a2, .ref a3, .ref a4, .ref a5, .ref a6, .ref a7, .ref a8, .ref a9, .ref a10, .long (jL mu), .long (jL md), .int (jI mo), .ref a11])), (a1, .inl (cZ, 62, .inl (jA y1)))] := by rw [hAe]; exact hD0.self
  have hA : ∀ q : Nat, s.heap.size ≤ q → A q := fun q h => by rw [hAe]; exact Or.inr h
  have hS : va_S A s.heap s.heap [] := va_S.rf
  have hP : va_P (dC, dI) vwCl [(ma, .inr (5, [.int (jI mth), .int (jI mn), .ref a0, .int (jI mp), .int (jI mw), .ref a1, .ref a2, .ref a3, .ref a4, .ref a5, .ref a6, .ref a7, .ref a8, .ref a9, .ref a10, .long (jL mu), .long (jL md), .int (jI mo), .ref a11])), (a1, .inl (cZ, 62, .inl (jA y1)))] s.heap := hP
  have hl := lv_entry ([.ref ma, .int (jI z1)]) (n := 4) (Nat.le_of_ble_eq_true rfl)
  rw [lg_entry_eq]
  generalize (lg_sl ([.ref ma, .int (jI z1)]) ++ List.replicate (4 - (lg_sl ([.ref ma, .int (jI z1)])).length) Slot.unset).toArray = ls at hl ⊢
  have hl : lv_has ls 4 [(0, .ref ma), (1, .int (jI z1))] := hl
  refine lv_aload_n hx hb dXM_ring_0 rfl (lv_at hl 0 rfl) ?_
  refine lv_iload_n hx hb dXM_ring_1 rfl (lv_at hl 1 rfl) ?_
  refine ji_if_lt (tgt := 9) hx hb dXM_ring_2 (by decide) (by first | omega | decide) (fun c2_ => ?_) (fun c2_ => ?_)
  · refine ji_iconst hx hb dXM_ring_9 ?_
    refine ji_iconst hx hb dXM_ring_10 ?_
    refine jwVi (rest := []) (wr := [(a1, .inl (cZ, 62, .inl (jA y1)))]) ⟨hx, hb, hml, hown, hts⟩ (c_XM_goes l dC dI cA cZ _ ma a0 a1 a2 a3 a4 a5 a6 a7 a8 a9 a10 a11 mth mn mp mw mu md mo 0 1 (by first | assumption | omega | exact jset_b (by assumption) (by omega)) (by first | assumption | omega | exact jset_b (by assumption) (by omega))) (cwV 2 hts (jG_V tw_698 tw_700 ts_14 tw_6 tw_701) rfl rfl rfl (by decide +kernel) (by rw [hR]; exact ⟨Nat.le_of_ble_eq_true rfl, Nat.le_of_ble_eq_true rfl⟩)) hK hP hD hS hA hN [0] [1] rfl rfl (by decide) (by decide) (by decide) 0 5 rfl rfl rfl rfl hl.1 rfl (Nat.le_of_ble_eq_true rfl) dXM_ring_11 (by rw [hR]; exact ⟨Nat.le_of_ble_eq_true rfl, Nat.le_of_ble_eq_true rfl⟩) (fun v u H locs hwb hP hD hS => ?_)
    obtain ⟨r, mth1'⟩ := u
    try dsimp only at hwb
    obtain ⟨er, f⟩ := hwb
    subst er
    have f : (r = 0 ∧ mth1' = 1 ∧ (0 : Int) = 0) ∨ (r = 0 ∧ mth1' = 2 ∧ (0 : Int) = 1 ∧ (1 : Int) = 0) ∨ (r = 1 ∧ mth1' = 0 ∧ (0 : Int) = 1 ∧ (1 : Int) = 1) := f
    have hP : va_P (dC, dI) vwCl [(a1, .inl (cZ, 62, .inl (jA y1))), (ma, .inr (5, [.int (jI mth1'), .int (jI mn), .ref a0, .int (jI mp), .int (jI mw), .ref a1, .ref a2, .ref a3, .ref a4, .ref a5, .ref a6, .ref a7, .ref a8, .ref a9, .ref a10, .long (jL mu), .long (jL md), .int (jI mo), .ref a11]))] H := hP
    have hD : va_D A [(a1, .inl (cZ, 62, .inl (jA y1))), (ma, .inr (5, [.int (jI mth1'), .int (jI mn), .ref a0, .int (jI mp), .int (jI mw), .ref a1, .ref a2, .ref a3, .ref a4, .ref a5, .ref a6, .ref a7, .ref a8, .ref a9, .ref a10, .long (jL mu), .long (jL md), .int (jI mo), .ref a11]))] := hD
    refine ji_if_ne (tgt := 19) hx hb dXM_ring_14 (by decide) (by first | omega | decide) (fun c14_ => ?_) (fun c14_ => ?_)
    · refine lv_iload_n hx hb dXM_ring_19 rfl (lv_at hl 1 rfl) ?_
      refine lv_istore_n (lv' := [(2, .int (jI z1)), (0, .ref ma), (1, .int (jI z1))]) hx hb dXM_ring_20 rfl hl (by decide) rfl (fun ls hl => ?_)
      refine ji_iconst hx hb dXM_ring_21 ?_
      refine lv_istore_n (lv' := [(3, .int (jI 1)), (2, .int (jI z1)), (0, .ref ma), (1, .int (jI z1))]) hx hb dXM_ring_22 rfl hl (by decide) rfl (fun ls hl => ?_)
      have loop23 : ∀ (n9 : Nat) (k : Int) , 31 - k < (n9 : Int) → (1 ≤ k ∧ k ≤ 31) → ∀ (H : Heap) (locs : List Loc), va_P (dC, dI) vwCl [(a1, .inl (cZ, 62, .inl (jA y1))), (ma, .inr (5, [.int (jI mth1'), .int (jI mn), .ref a0, .int (jI mp), .int (jI mw), .ref a1, .ref a2, .ref a3, .ref a4, .ref a5, .ref a6, .ref a7, .ref a8, .ref a9, .ref a10, .long (jL mu), .long (jL md), .int (jI mo), .ref a11]))] H → va_D A [(a1, .inl (cZ, 62, .inl (jA y1))), (ma, .inr (5, [.int (jI mth1'), .int (jI mn), .ref a0, .int (jI mp), .int (jI mw), .ref a1, .ref a2, .ref a3, .ref a4, .ref a5, .ref a6, .ref a7, .ref a8, .ref a9, .ref a10, .long (jL mu), .long (jL md), .int (jI mo), .ref a11]))] → va_S A s.heap H locs → ∀ ls : Array Slot, lv_has ls 4 [(3, .int (jI k)), (2, .int (jI z1)), (0, .ref ma), (1, .int (jI z1))] → W p l e R s m ([.ref ma, .int (jI z1)] : List Value).toArray below meth c H locs 0 0 Q (F0 m 23 ls []) := by
        intro n9
        induction n9 with
        | zero =>
          intro k hm hk
          exact absurd hm (by omega)
        | succ n9 ih23 =>
          intro k hm hk H locs hP hD hS ls hl
          refine lv_iload_n hx hb dXM_ring_23 rfl (lv_at hl 0 rfl) ?_
          refine ji_bipush hx hb dXM_ring_24 (by decide) ?_
          refine ji_icmp_ge (tgt := 64) hx hb dXM_ring_26 (by decide) (by first | omega | decide) (by first | omega | decide) (fun c26_ => ?_) (fun c26_ => ?_)
          · refine ji_iconst hx hb dXM_ring_64 ?_
            have hP9 := hP.sub (ws' := [(ma, .inr (5, [.int (jI mth1'), .int (jI mn), .ref a0, .int (jI mp), .int (jI mw), .ref a1, .ref a2, .ref a3, .ref a4, .ref a5, .ref a6, .ref a7, .ref a8, .ref a9, .ref a10, .long (jL mu), .long (jL md), .int (jI mo), .ref a11])), (a1, .inl (cZ, 62, .inl (jA y1)))]) [1, 0] rfl
            have hD9 := hD.sub (ws' := [(ma, .inr (5, [.int (jI mth1'), .int (jI mn), .ref a0, .int (jI mp), .int (jI mw), .ref a1, .ref a2, .ref a3, .ref a4, .ref a5, .ref a6, .ref a7, .ref a8, .ref a9, .ref a10, .long (jL mu), .long (jL md), .int (jI mo), .ref a11])), (a1, .inl (cZ, 62, .inl (jA y1)))]) [1, 0] (by decide) rfl
            subst hAe
            subst hQ
            exact W.iret (v := jI (-1)) hx hb hr (fun t ht hW => ⟨⟨_, (-1, mth1'), rfl, ⟨rfl, (show (mth1' = 1 ∧ z1 < 0) ∨ (mth1' = 0 ∧ 0 ≤ z1 ∧ (-1 : Int) = -1) from by first | assumption | omega | exact jset_b (by assumption) (by omega))⟩, ⟨by rw [ht]; exact hP9, va_K.moved hW.alike hK, hD9⟩⟩, hS.F ht⟩) hS.2.2 dXM_ring_65
          · refine lv_aload_n hx hb dXM_ring_29 rfl (lv_at hl 2 rfl) ?_
            refine va_get (D := (dC, dI)) (ci := 5) (v := .ref a1) (C := RXM) (T := TXM) (N := 19) hx hb hts (fun w h => jmem (inXM w h)) hown hK hP 1 rfl rfl 5 (by decide) (hts _ (jmem tw_633)) (fun _ h9 => h9) rfl dXM_ring_30 ?_
            refine lv_iload_n hx hb dXM_ring_33 rfl (lv_at hl 0 rfl) ?_
            refine ji_zald hx hb hK hP 0 1 rfl rfl ⟨by omega, by omega⟩ (by decide) dXM_ring_34 ?_
            have rb := hy1 k
            refine ji_if_eq (tgt := 58) hx hb dXM_ring_35 (by decide) (by first | omega | decide) (fun c35_ => ?_) (fun c35_ => absurd c35_ (by have h8 := hg0 k; omega))
            refine ji_iinc (k := 0) (lv' := [(3, .int (jI (k + 1))), (2, .int (jI z1)), (0, .ref ma), (1, .int (jI z1))]) hx hb dXM_ring_58 hl rfl (by decide) rfl (fun ls hl => ?_)
            refine lv_goto (tgt := 23) hx hb dXM_ring_61 (by decide) ?_
            exact ih23 (k + 1) (by omega) (by first | assumption | omega | exact jset_b (by assumption) (by omega)) _ _ hP hD hS ls (lv_sub hl [0, 1, 2, 3] rfl)
      exact loop23 (Int.toNat (31 - 1) + 1) 1 (by omega) (by first | assumption | omega | exact jset_b (by assumption) (by omega)) _ _ hP hD hS ls (lv_sub hl [0, 1, 2, 3] rfl)
    · refine ji_iconst hx hb dXM_ring_17 ?_
      have hP9 := hP.sub (ws' := [(ma, .inr (5, [.int (jI mth1'), .int (jI mn), .ref a0, .int (jI mp), .int (jI mw), .ref a1, .ref a2, .ref a3, .ref a4, .ref a5, .ref a6, .ref a7, .ref a8, .ref a9, .ref a10, .long (jL mu), .long (jL md), .int (jI mo), .ref a11])), (a1, .inl (cZ, 62, .inl (jA y1)))]) [1, 0] rfl
      have hD9 := hD.sub (ws' := [(ma, .inr (5, [.int (jI mth1'), .int (jI mn), .ref a0, .int (jI mp), .int (jI mw), .ref a1, .ref a2, .ref a3, .ref a4, .ref a5, .ref a6, .ref a7, .ref a8, .ref a9, .ref a10, .long (jL mu), .long (jL md), .int (jI mo), .ref a11])), (a1, .inl (cZ, 62, .inl (jA y1)))]) [1, 0] (by decide) rfl
      subst hAe
      subst hQ
      exact W.iret (v := jI 0) hx hb hr (fun t ht hW => ⟨⟨_, (0, mth1'), rfl, ⟨rfl, (show (mth1' = 1 ∧ z1 < 0) ∨ (mth1' = 0 ∧ 0 ≤ z1 ∧ (0 : Int) = -1) from by first | assumption | omega | exact jset_b (by assumption) (by omega))⟩, ⟨by rw [ht]; exact hP9, va_K.moved hW.alike hK, hD9⟩⟩, hS.F ht⟩) hS.2.2 dXM_ring_18
  · refine ji_iconst hx hb dXM_ring_5 ?_
    refine lv_goto (tgt := 10) hx hb dXM_ring_6 (by decide) ?_
    refine ji_iconst hx hb dXM_ring_10 ?_
    refine jwVi (rest := []) (wr := [(a1, .inl (cZ, 62, .inl (jA y1)))]) ⟨hx, hb, hml, hown, hts⟩ (c_XM_goes l dC dI cA cZ _ ma a0 a1 a2 a3 a4 a5 a6 a7 a8 a9 a10 a11 mth mn mp mw mu md mo 1 1 (by first | assumption | omega | exact jset_b (by assumption) (by omega)) (by first | assumption | omega | exact jset_b (by assumption) (by omega))) (cwV 2 hts (jG_V tw_698 tw_700 ts_14 tw_6 tw_701) rfl rfl rfl (by decide +kernel) (by rw [hR]; exact ⟨Nat.le_of_ble_eq_true rfl, Nat.le_of_ble_eq_true rfl⟩)) hK hP hD hS hA hN [0] [1] rfl rfl (by decide) (by decide) (by decide) 0 5 rfl rfl rfl rfl hl.1 rfl (Nat.le_of_ble_eq_true rfl) dXM_ring_11 (by rw [hR]; exact ⟨Nat.le_of_ble_eq_true rfl, Nat.le_of_ble_eq_true rfl⟩) (fun v4 u3 H locs hwb5 hP hD hS => ?_)
    obtain ⟨r1, mth1'2⟩ := u3
    try dsimp only at hwb5
    obtain ⟨er, f6⟩ := hwb5
    subst er
    have f6 : (r1 = 0 ∧ mth1'2 = 1 ∧ (1 : Int) = 0) ∨ (r1 = 0 ∧ mth1'2 = 2 ∧ (1 : Int) = 1 ∧ (1 : Int) = 0) ∨ (r1 = 1 ∧ mth1'2 = 0 ∧ (1 : Int) = 1 ∧ (1 : Int) = 1) := f6
    have hP : va_P (dC, dI) vwCl [(a1, .inl (cZ, 62, .inl (jA y1))), (ma, .inr (5, [.int (jI mth1'2), .int (jI mn), .ref a0, .int (jI mp), .int (jI mw), .ref a1, .ref a2, .ref a3, .ref a4, .ref a5, .ref a6, .ref a7, .ref a8, .ref a9, .ref a10, .long (jL mu), .long (jL md), .int (jI mo), .ref a11]))] H := hP
    have hD : va_D A [(a1, .inl (cZ, 62, .inl (jA y1))), (ma, .inr (5, [.int (jI mth1'2), .int (jI mn), .ref a0, .int (jI mp), .int (jI mw), .ref a1, .ref a2, .ref a3, .ref a4, .ref a5, .ref a6, .ref a7, .ref a8, .ref a9, .ref a10, .long (jL mu), .long (jL md), .int (jI mo), .ref a11]))] := hD
    refine ji_if_ne (tgt := 19) hx hb dXM_ring_14 (by decide) (by first | omega | decide) (fun c14_7 => ?_) (fun c14_7 => ?_)
    · refine lv_iload_n hx hb dXM_ring_19 rfl (lv_at hl 1 rfl) ?_
      refine lv_istore_n (lv' := [(2, .int (jI z1)), (0, .ref ma), (1, .int (jI z1))]) hx hb dXM_ring_20 rfl hl (by decide) rfl (fun ls hl => ?_)
      refine ji_iconst hx hb dXM_ring_21 ?_
      refine lv_istore_n (lv' := [(3, .int (jI 1)), (2, .int (jI z1)), (0, .ref ma), (1, .int (jI z1))]) hx hb dXM_ring_22 rfl hl (by decide) rfl (fun ls hl => ?_)
      have loop23 : ∀ (n9 : Nat) (k : Int) , 31 - k < (n9 : Int) → (1 ≤ k ∧ k ≤ 31) → ∀ (H : Heap) (locs : List Loc), va_P (dC, dI) vwCl [(a1, .inl (cZ, 62, .inl (jA y1))), (ma, .inr (5, [.int (jI mth1'2), .int (jI mn), .ref a0, .int (jI mp), .int (jI mw), .ref a1, .ref a2, .ref a3, .ref a4, .ref a5, .ref a6, .ref a7, .ref a8, .ref a9, .ref a10, .long (jL mu), .long (jL md), .int (jI mo), .ref a11]))] H → va_D A [(a1, .inl (cZ, 62, .inl (jA y1))), (ma, .inr (5, [.int (jI mth1'2), .int (jI mn), .ref a0, .int (jI mp), .int (jI mw), .ref a1, .ref a2, .ref a3, .ref a4, .ref a5, .ref a6, .ref a7, .ref a8, .ref a9, .ref a10, .long (jL mu), .long (jL md), .int (jI mo), .ref a11]))] → va_S A s.heap H locs → ∀ ls : Array Slot, lv_has ls 4 [(3, .int (jI k)), (2, .int (jI z1)), (0, .ref ma), (1, .int (jI z1))] → W p l e R s m ([.ref ma, .int (jI z1)] : List Value).toArray below meth c H locs 0 0 Q (F0 m 23 ls []) := by
        intro n9
        induction n9 with
        | zero =>
          intro k hm hk
          exact absurd hm (by omega)
        | succ n9 ih23 =>
          intro k hm hk H locs hP hD hS ls hl
          refine lv_iload_n hx hb dXM_ring_23 rfl (lv_at hl 0 rfl) ?_
          refine ji_bipush hx hb dXM_ring_24 (by decide) ?_
          refine ji_icmp_ge (tgt := 64) hx hb dXM_ring_26 (by decide) (by first | omega | decide) (by first | omega | decide) (fun c26_8 => ?_) (fun c26_8 => ?_)
          · refine ji_iconst hx hb dXM_ring_64 ?_
            have hP9 := hP.sub (ws' := [(ma, .inr (5, [.int (jI mth1'2), .int (jI mn), .ref a0, .int (jI mp), .int (jI mw), .ref a1, .ref a2, .ref a3, .ref a4, .ref a5, .ref a6, .ref a7, .ref a8, .ref a9, .ref a10, .long (jL mu), .long (jL md), .int (jI mo), .ref a11])), (a1, .inl (cZ, 62, .inl (jA y1)))]) [1, 0] rfl
            have hD9 := hD.sub (ws' := [(ma, .inr (5, [.int (jI mth1'2), .int (jI mn), .ref a0, .int (jI mp), .int (jI mw), .ref a1, .ref a2, .ref a3, .ref a4, .ref a5, .ref a6, .ref a7, .ref a8, .ref a9, .ref a10, .long (jL mu), .long (jL md), .int (jI mo), .ref a11])), (a1, .inl (cZ, 62, .inl (jA y1)))]) [1, 0] (by decide) rfl
            subst hAe
            subst hQ
            exact W.iret (v := jI (-1)) hx hb hr (fun t ht hW => ⟨⟨_, (-1, mth1'2), rfl, ⟨rfl, (show (mth1'2 = 1 ∧ z1 < 0) ∨ (mth1'2 = 0 ∧ 0 ≤ z1 ∧ (-1 : Int) = -1) from by first | assumption | omega | exact jset_b (by assumption) (by omega))⟩, ⟨by rw [ht]; exact hP9, va_K.moved hW.alike hK, hD9⟩⟩, hS.F ht⟩) hS.2.2 dXM_ring_65
          · refine lv_aload_n hx hb dXM_ring_29 rfl (lv_at hl 2 rfl) ?_
            refine va_get (D := (dC, dI)) (ci := 5) (v := .ref a1) (C := RXM) (T := TXM) (N := 19) hx hb hts (fun w h => jmem (inXM w h)) hown hK hP 1 rfl rfl 5 (by decide) (hts _ (jmem tw_633)) (fun _ h9 => h9) rfl dXM_ring_30 ?_
            refine lv_iload_n hx hb dXM_ring_33 rfl (lv_at hl 0 rfl) ?_
            refine ji_zald hx hb hK hP 0 1 rfl rfl ⟨by omega, by omega⟩ (by decide) dXM_ring_34 ?_
            have rb9 := hy1 k
            refine ji_if_eq (tgt := 58) hx hb dXM_ring_35 (by decide) (by first | omega | decide) (fun c35_10 => ?_) (fun c35_10 => absurd c35_10 (by have h8 := hg0 k; omega))
            refine ji_iinc (k := 0) (lv' := [(3, .int (jI (k + 1))), (2, .int (jI z1)), (0, .ref ma), (1, .int (jI z1))]) hx hb dXM_ring_58 hl rfl (by decide) rfl (fun ls hl => ?_)
            refine lv_goto (tgt := 23) hx hb dXM_ring_61 (by decide) ?_
            exact ih23 (k + 1) (by omega) (by first | assumption | omega | exact jset_b (by assumption) (by omega)) _ _ hP hD hS ls (lv_sub hl [0, 1, 2, 3] rfl)
      exact loop23 (Int.toNat (31 - 1) + 1) 1 (by omega) (by first | assumption | omega | exact jset_b (by assumption) (by omega)) _ _ hP hD hS ls (lv_sub hl [0, 1, 2, 3] rfl)
    · refine ji_iconst hx hb dXM_ring_17 ?_
      have hP9 := hP.sub (ws' := [(ma, .inr (5, [.int (jI mth1'2), .int (jI mn), .ref a0, .int (jI mp), .int (jI mw), .ref a1, .ref a2, .ref a3, .ref a4, .ref a5, .ref a6, .ref a7, .ref a8, .ref a9, .ref a10, .long (jL mu), .long (jL md), .int (jI mo), .ref a11])), (a1, .inl (cZ, 62, .inl (jA y1)))]) [1, 0] rfl
      have hD9 := hD.sub (ws' := [(ma, .inr (5, [.int (jI mth1'2), .int (jI mn), .ref a0, .int (jI mp), .int (jI mw), .ref a1, .ref a2, .ref a3, .ref a4, .ref a5, .ref a6, .ref a7, .ref a8, .ref a9, .ref a10, .long (jL mu), .long (jL md), .int (jI mo), .ref a11])), (a1, .inl (cZ, 62, .inl (jA y1)))]) [1, 0] (by decide) rfl
      subst hAe
      subst hQ
      exact W.iret (v := jI 0) hx hb hr (fun t ht hW => ⟨⟨_, (0, mth1'2), rfl, ⟨rfl, (show (mth1'2 = 1 ∧ z1 < 0) ∨ (mth1'2 = 0 ∧ 0 ≤ z1 ∧ (0 : Int) = -1) from by first | assumption | omega | exact jset_b (by assumption) (by omega))⟩, ⟨by rw [ht]; exact hP9, va_K.moved hW.alike hK, hD9⟩⟩, hS.F ht⟩) hS.2.2 dXM_ring_18
set_option maxHeartbeats 4000000 in
set_option maxRecDepth 100000 in
theorem c_XM_readF (l : Launch) (dC : Nat → ClassId) (dI : Nat → Nat → Nat) (cA cZ : ClassId) (sz : Nat) (ma : Nat) (a0 : Nat) (a1 : Nat) (a2 : Nat) (a3 : Nat) (a4 : Nat) (a5 : Nat) (a6 : Nat) (a7 : Nat) (a8 : Nat) (a9 : Nat) (a10 : Nat) (a11 : Nat) (mth : Int) (mn : Int) (mp : Int) (mw : Int) (mu : Int) (md : Int) (mo : Int) (y0 : Int → Int) (y1 : Int → Int) (y2 : Int → Int) (y3 : Int → Int) (y4 : Int → Int) (y5 : Int → Int) (y6 : Int → Int) (y7 : Int → Int) (y8 : Int → Int) (y9 : Int → Int) (hy0 : ∀ i, 0 ≤ y0 i ∧ y0 i ≤ 255) (hy1 : ∀ i, 0 ≤ y1 i ∧ y1 i ≤ 1) (hy2 : ∀ i, 0 ≤ y2 i ∧ y2 i ≤ 30) (hy3 : ∀ i, 0 ≤ y3 i ∧ y3 i ≤ 1) (hy4 : ∀ i, 0 ≤ y4 i ∧ y4 i ≤ 100000) (hy5 : ∀ i, 0 ≤ y5 i ∧ y5 i ≤ 100000) (hy6 : ∀ i, 0 ≤ y6 i ∧ y6 i ≤ 255) (hy7 : ∀ i, -1 ≤ y7 i ∧ y7 i ≤ 999999) (hy8 : ∀ i, 0 ≤ y8 i ∧ y8 i ≤ 1) (hy9 : ∀ i, 0 ≤ y9 i ∧ y9 i ≤ 20) (hg0 : ∀ i, y1 i = 0) (hmn0 : mn = 0) : Met l yXM_read (Cond.code yXM_read cXM_read 3 (some .int) :: TBL) ({ frames := 2, cells := 0, slots := 0, locals := 40 } : Room) (va_Pc [.ref ma] (jBw (dC, dI) [(cA, .int), (cZ, .boolean)] [(ma, .inr (5, [.int (jI mth), .int (jI mn), .ref a0, .int (jI mp), .int (jI mw), .ref a1, .ref a2, .ref a3, .ref a4, .ref a5, .ref a6, .ref a7, .ref a8, .ref a9, .ref a10, .long (jL mu), .long (jL md), .int (jI mo), .ref a11])), (a0, .inl (cA, 400, .inl (jA y0))), (a1, .inl (cZ, 62, .inl (jA y1))), (a2, .inl (cA, 62, .inl (jA y2))), (a3, .inl (cZ, 496, .inl (jA y3))), (a4, .inl (cA, 496, .inl (jA y4))), (a5, .inl (cA, 496, .inl (jA y5))), (a6, .inl (cA, 62, .inl (jA y6))), (a7, .inl (cA, 248, .inl (jA y7))), (a8, .inl (cZ, 8, .inl (jA y8))), (a9, .inl (cA, 64, .inl (jA y9)))] sz)) (va_Qi (fun (r : Int32) (u : Int × Int × Int × Int × Int × (Int → Int) × (Int → Int) × (Int → Int) × (Int → Int) × (Int → Int) × (Int → Int) × (Int → Int) × (Int → Int) × (Int → Int)) => r = jI u.1 ∧ (u.1 = 0)) (fun u t => jE (dC, dI) [(cA, .int), (cZ, .boolean)] [(ma, .inr (5, [.int (jI mth), .int (jI mn), .ref a0, .int (jI mp), .int (jI mw), .ref a1, .ref a2, .ref a3, .ref a4, .ref a5, .ref a6, .ref a7, .ref a8, .ref a9, .ref a10, .long (jL mu), .long (jL md), .int (jI mo), .ref a11])), (a0, .inl (cA, 400, .inl (jA y0))), (a1, .inl (cZ, 62, .inl (jA y1))), (a2, .inl (cA, 62, .inl (jA y2))), (a3, .inl (cZ, 496, .inl (jA y3))), (a4, .inl (cA, 496, .inl (jA y4))), (a5, .inl (cA, 496, .inl (jA y5))), (a6, .inl (cA, 62, .inl (jA y6))), (a7, .inl (cA, 248, .inl (jA y7))), (a8, .inl (cZ, 8, .inl (jA y8))), (a9, .inl (cA, 64, .inl (jA y9)))] sz [(ma, .inr (5, [.int (jI u.2.1), .int (jI u.2.2.1), .ref a0, .int (jI u.2.2.2.1), .int (jI u.2.2.2.2.1), .ref a1, .ref a2, .ref a3, .ref a4, .ref a5, .ref a6, .ref a7, .ref a8, .ref a9, .ref a10, .long (jL mu), .long (jL md), .int (jI mo), .ref a11])), (a0, .inl (cA, 400, .inl (jA y0))), (a1, .inl (cZ, 62, .inl (jA u.2.2.2.2.2.1))), (a2, .inl (cA, 62, .inl (jA u.2.2.2.2.2.2.1))), (a3, .inl (cZ, 496, .inl (jA u.2.2.2.2.2.2.2.1))), (a4, .inl (cA, 496, .inl (jA u.2.2.2.2.2.2.2.2.1))), (a5, .inl (cA, 496, .inl (jA u.2.2.2.2.2.2.2.2.2.1))), (a6, .inl (cA, 62, .inl (jA u.2.2.2.2.2.2.2.2.2.2.1))), (a7, .inl (cA, 248, .inl (jA u.2.2.2.2.2.2.2.2.2.2.2.1))), (a8, .inl (cZ, 8, .inl (jA u.2.2.2.2.2.2.2.2.2.2.2.2.1))), (a9, .inl (cA, 64, .inl (jA u.2.2.2.2.2.2.2.2.2.2.2.2.2)))] t) (va_A [(ma, .inr (5, [.int (jI mth), .int (jI mn), .ref a0, .int (jI mp), .int (jI mw), .ref a1, .ref a2, .ref a3, .ref a4, .ref a5, .ref a6, .ref a7, .ref a8, .ref a9, .ref a10, .long (jL mu), .long (jL md), .int (jI mo), .ref a11])), (a0, .inl (cA, 400, .inl (jA y0))), (a1, .inl (cZ, 62, .inl (jA y1))), (a2, .inl (cA, 62, .inl (jA y2))), (a3, .inl (cZ, 496, .inl (jA y3))), (a4, .inl (cA, 496, .inl (jA y4))), (a5, .inl (cA, 496, .inl (jA y5))), (a6, .inl (cA, 62, .inl (jA y6))), (a7, .inl (cA, 248, .inl (jA y7))), (a8, .inl (cZ, 8, .inl (jA y8))), (a9, .inl (cA, 64, .inl (jA y9)))] sz)) 0 0 (va_A [(ma, .inr (5, [.int (jI mth), .int (jI mn), .ref a0, .int (jI mp), .int (jI mw), .ref a1, .ref a2, .ref a3, .ref a4, .ref a5, .ref a6, .ref a7, .ref a8, .ref a9, .ref a10, .long (jL mu), .long (jL md), .int (jI mo), .ref a11])), (a0, .inl (cA, 400, .inl (jA y0))), (a1, .inl (cZ, 62, .inl (jA y1))), (a2, .inl (cA, 62, .inl (jA y2))), (a3, .inl (cZ, 496, .inl (jA y3))), (a4, .inl (cA, 496, .inl (jA y4))), (a5, .inl (cA, 496, .inl (jA y5))), (a6, .inl (cA, 62, .inl (jA y6))), (a7, .inl (cA, 248, .inl (jA y7))), (a8, .inl (cZ, 8, .inl (jA y8))), (a9, .inl (cA, 64, .inl (jA y9)))] sz) := by
  refine jMet (cc := cXM_read) (maxL := 3) (ret := some .int) (by decide) rfl ?_
  intro p e s m args below meth c s₁ R Q hR hQ B hml hv
  obtain ⟨rfl, hsz, hP, hK, hD0, hN⟩ := hv
  have hx := B.exec
  have hb := B.bytes
  have hr := B.returns
  have hts := atoms_spec (ws := Cond.code yXM_read cXM_read 3 (some .int) :: TBL) B.pre
  have hown : s.vm.findClass RXM = some m.cls := findClass_of_methodNamed B.named
  have hlocks := B.notSynchronized
  subst hsz
  obtain ⟨A, hAe⟩ : ∃ A, A = va_A [(ma, .inr (5, [.int (jI mth), .int (jI mn), .ref a0, .int (jI mp), .int (jI mw), .ref a1, .ref a2, .ref a3, .ref a4, .ref a5, .ref a6, .ref a7, .ref a8, .ref a9, .ref a10, .long (jL mu), .long (jL md), .int (jI mo), .ref a11])), (a0, .inl (cA, 400, .inl (jA y0))), (a1, .inl (cZ, 62, .inl (jA y1))), (a2, .inl (cA, 62, .inl (jA y2))), (a3, .inl (cZ, 496, .inl (jA y3))), (a4, .inl (cA, 496, .inl (jA y4))), (a5, .inl (cA, 496, .inl (jA y5))), (a6, .inl (cA, 62, .inl (jA y6))), (a7, .inl (cA, 248, .inl (jA y7))), (a8, .inl (cZ, 8, .inl (jA y8))), (a9, .inl (cA, 64, .inl (jA y9)))] s.heap.size := ⟨_, rfl⟩
  have hD : va_D A [(ma, .inr (5, [.int (jI mth), .int (jI mn), .ref a0, .int (jI mp), .int (jI mw), .ref a1, .ref a2, .ref a3, .ref a4, .ref a5, .ref a6, .ref a7, .ref a8, .ref a9, .ref a10, .long (jL mu), .long (jL md), .int (jI mo), .ref a11])), (a0, .inl (cA, 400, .inl (jA y0))), (a1, .inl (cZ, 62, .inl (jA y1))), (a2, .inl (cA, 62, .inl (jA y2))), (a3, .inl (cZ, 496, .inl (jA y3))), (a4, .inl (cA, 496, .inl (jA y4))), (a5, .inl (cA, 496, .inl (jA y5))), (a6, .inl (cA, 62, .inl (jA y6))), (a7, .inl (cA, 248, .inl (jA y7))), (a8, .inl (cZ, 8, .inl (jA y8))), (a9, .inl (cA, 64, .inl (jA y9)))] := by rw [hAe]; exact hD0.self
  have hA : ∀ q : Nat, s.heap.size ≤ q → A q := fun q h => by rw [hAe]; exact Or.inr h
  have hS : va_S A s.heap s.heap [] := va_S.rf
  have hP : va_P (dC, dI) vwCl [(ma, .inr (5, [.int (jI mth), .int (jI mn), .ref a0, .int (jI mp), .int (jI mw), .ref a1, .ref a2, .ref a3, .ref a4, .ref a5, .ref a6, .ref a7, .ref a8, .ref a9, .ref a10, .long (jL mu), .long (jL md), .int (jI mo), .ref a11])), (a0, .inl (cA, 400, .inl (jA y0))), (a1, .inl (cZ, 62, .inl (jA y1))), (a2, .inl (cA, 62, .inl (jA y2))), (a3, .inl (cZ, 496, .inl (jA y3))), (a4, .inl (cA, 496, .inl (jA y4))), (a5, .inl (cA, 496, .inl (jA y5))), (a6, .inl (cA, 62, .inl (jA y6))), (a7, .inl (cA, 248, .inl (jA y7))), (a8, .inl (cZ, 8, .inl (jA y8))), (a9, .inl (cA, 64, .inl (jA y9)))] s.heap := hP
  have hl := lv_entry ([.ref ma]) (n := 3) (Nat.le_of_ble_eq_true rfl)
  rw [lg_entry_eq]
  generalize (lg_sl ([.ref ma]) ++ List.replicate (3 - (lg_sl ([.ref ma])).length) Slot.unset).toArray = ls at hl ⊢
  have hl : lv_has ls 3 [(0, .ref ma)] := hl
  refine lv_aload_n hx hb dXM_read_0 rfl (lv_at hl 0 rfl) ?_
  refine ji_iconst hx hb dXM_read_1 ?_
  refine va_put (D := (dC, dI)) (ci := 5) (v := .int (jI 0)) (ty := (.int)) (C := RXM) (T := TXM) (N := 19) hx hb hts (fun w h => jmem (inXM w h)) tyXM tyXM_ok nXM hown hK hP hD hS 0 rfl rfl 0 (by decide) (hts _ (jmem tw_628)) (fun _ h9 => h9) rfl (by decide +kernel) rfl rfl (Nat.le_of_ble_eq_true rfl) dXM_read_2 (fun H locs hP hD hS => ?_)
  have hP : va_P (dC, dI) vwCl [(ma, .inr (5, [.int (jI 0), .int (jI mn), .ref a0, .int (jI mp), .int (jI mw), .ref a1, .ref a2, .ref a3, .ref a4, .ref a5, .ref a6, .ref a7, .ref a8, .ref a9, .ref a10, .long (jL mu), .long (jL md), .int (jI mo), .ref a11])), (a0, .inl (cA, 400, .inl (jA y0))), (a1, .inl (cZ, 62, .inl (jA y1))), (a2, .inl (cA, 62, .inl (jA y2))), (a3, .inl (cZ, 496, .inl (jA y3))), (a4, .inl (cA, 496, .inl (jA y4))), (a5, .inl (cA, 496, .inl (jA y5))), (a6, .inl (cA, 62, .inl (jA y6))), (a7, .inl (cA, 248, .inl (jA y7))), (a8, .inl (cZ, 8, .inl (jA y8))), (a9, .inl (cA, 64, .inl (jA y9)))] H := hP
  have hD : va_D A [(ma, .inr (5, [.int (jI 0), .int (jI mn), .ref a0, .int (jI mp), .int (jI mw), .ref a1, .ref a2, .ref a3, .ref a4, .ref a5, .ref a6, .ref a7, .ref a8, .ref a9, .ref a10, .long (jL mu), .long (jL md), .int (jI mo), .ref a11])), (a0, .inl (cA, 400, .inl (jA y0))), (a1, .inl (cZ, 62, .inl (jA y1))), (a2, .inl (cA, 62, .inl (jA y2))), (a3, .inl (cZ, 496, .inl (jA y3))), (a4, .inl (cA, 496, .inl (jA y4))), (a5, .inl (cA, 496, .inl (jA y5))), (a6, .inl (cA, 62, .inl (jA y6))), (a7, .inl (cA, 248, .inl (jA y7))), (a8, .inl (cZ, 8, .inl (jA y8))), (a9, .inl (cA, 64, .inl (jA y9)))] := hD
  refine lv_aload_n hx hb dXM_read_5 rfl (lv_at hl 0 rfl) ?_
  refine ji_iconst hx hb dXM_read_6 ?_
  refine jwVv (rest := []) (wr := [(a0, .inl (cA, 400, .inl (jA y0))), (a4, .inl (cA, 496, .inl (jA y4))), (a5, .inl (cA, 496, .inl (jA y5)))]) ⟨hx, hb, hml, hown, hts⟩ (c_XM_forget l dC dI cA cZ _ ma a0 a1 a2 a3 a4 a5 a6 a7 a8 a9 a10 a11 0 mn mp mw mu md mo y1 y2 y3 y6 y7 y8 y9 1 (by first | assumption | omega | exact jset_b (by assumption) (by omega)) (by first | assumption | omega | exact jset_b (by assumption) (by omega)) (by first | assumption | omega | exact jset_b (by assumption) (by omega)) (by first | assumption | omega | exact jset_b (by assumption) (by omega)) (by first | assumption | omega | exact jset_b (by assumption) (by omega)) (by first | assumption | omega | exact jset_b (by assumption) (by omega)) (by first | assumption | omega | exact jset_b (by assumption) (by omega)) (by first | assumption | omega | exact jset_b (by assumption) (by omega))) (cwV 1 hts (jG_V tw_706 tw_708 ts_15 tw_6 tw_709) rfl rfl rfl (by decide +kernel) (by rw [hR]; exact ⟨Nat.le_of_ble_eq_true rfl, Nat.le_of_ble_eq_true rfl⟩)) hK hP hD hS hA hN [0, 2, 3, 4, 7, 8, 9, 10] [1, 5, 6] rfl rfl (by decide) (by decide) (by decide) 0 5 rfl rfl rfl rfl hl.1 rfl (Nat.le_of_ble_eq_true rfl) dXM_read_7 (by rw [hR]; exact ⟨Nat.le_of_ble_eq_true rfl, Nat.le_of_ble_eq_true rfl⟩) (fun u H locs hwb hP hD hS => ?_)
  obtain ⟨y1n', y2n', y3n', y6n', y7n', y8n', y9n'⟩ := u
  try dsimp only at hwb
  obtain ⟨f, f1, f2, f3, f4, f5, f6, f7⟩ := hwb
  have f : ∀ i, 0 ≤ y1n' i ∧ y1n' i ≤ 1 := f
  have f1 : ∀ i, 0 ≤ y2n' i ∧ y2n' i ≤ 30 := f1
  have f2 : ∀ i, 0 ≤ y3n' i ∧ y3n' i ≤ 1 := f2
  have f3 : ∀ i, 0 ≤ y6n' i ∧ y6n' i ≤ 255 := f3
  have f4 : ∀ i, -1 ≤ y7n' i ∧ y7n' i ≤ 999999 := f4
  have f5 : ∀ i, 0 ≤ y8n' i ∧ y8n' i ≤ 1 := f5
  have f6 : ∀ i, 0 ≤ y9n' i ∧ y9n' i ≤ 20 := f6
  have f7 : ∀ b9, (∀ i, y1 i ≤ b9) → ∀ i, y1n' i ≤ b9 := f7
  have hP : va_P (dC, dI) vwCl [(a0, .inl (cA, 400, .inl (jA y0))), (a4, .inl (cA, 496, .inl (jA y4))), (a5, .inl (cA, 496, .inl (jA y5))), (ma, .inr (5, [.int (jI 0), .int (jI mn), .ref a0, .int (jI mp), .int (jI mw), .ref a1, .ref a2, .ref a3, .ref a4, .ref a5, .ref a6, .ref a7, .ref a8, .ref a9, .ref a10, .long (jL mu), .long (jL md), .int (jI mo), .ref a11])), (a1, .inl (cZ, 62, .inl (jA y1n'))), (a2, .inl (cA, 62, .inl (jA y2n'))), (a3, .inl (cZ, 496, .inl (jA y3n'))), (a6, .inl (cA, 62, .inl (jA y6n'))), (a7, .inl (cA, 248, .inl (jA y7n'))), (a8, .inl (cZ, 8, .inl (jA y8n'))), (a9, .inl (cA, 64, .inl (jA y9n')))] H := hP
  have hD : va_D A [(a0, .inl (cA, 400, .inl (jA y0))), (a4, .inl (cA, 496, .inl (jA y4))), (a5, .inl (cA, 496, .inl (jA y5))), (ma, .inr (5, [.int (jI 0), .int (jI mn), .ref a0, .int (jI mp), .int (jI mw), .ref a1, .ref a2, .ref a3, .ref a4, .ref a5, .ref a6, .ref a7, .ref a8, .ref a9, .ref a10, .long (jL mu), .long (jL md), .int (jI mo), .ref a11])), (a1, .inl (cZ, 62, .inl (jA y1n'))), (a2, .inl (cA, 62, .inl (jA y2n'))), (a3, .inl (cZ, 496, .inl (jA y3n'))), (a6, .inl (cA, 62, .inl (jA y6n'))), (a7, .inl (cA, 248, .inl (jA y7n'))), (a8, .inl (cZ, 8, .inl (jA y8n'))), (a9, .inl (cA, 64, .inl (jA y9n')))] := hD
  have hz7 : ∀ i, y1n' i ≤ 0 := fun i => (by assumption : ∀ b9, (∀ i, y1 i ≤ b9) → ∀ i, y1n' i ≤ b9) 0 (fun j => by have := hg0 j; omega) i
  refine lv_aload_n hx hb dXM_read_10 rfl (lv_at hl 0 rfl) ?_
  refine ji_iconst hx hb dXM_read_11 ?_
  refine va_put (D := (dC, dI)) (ci := 5) (v := .int (jI 0)) (ty := (.int)) (C := RXM) (T := TXM) (N := 19) hx hb hts (fun w h => jmem (inXM w h)) tyXM tyXM_ok nXM hown hK hP hD hS 3 rfl rfl 3 (by decide) (hts _ (jmem tw_631)) (fun _ h9 => h9) rfl (by decide +kernel) rfl rfl (Nat.le_of_ble_eq_true rfl) dXM_read_12 (fun H locs hP hD hS => ?_)
  have hP : va_P (dC, dI) vwCl [(a0, .inl (cA, 400, .inl (jA y0))), (a4, .inl (cA, 496, .inl (jA y4))), (a5, .inl (cA, 496, .inl (jA y5))), (ma, .inr (5, [.int (jI 0), .int (jI mn), .ref a0, .int (jI 0), .int (jI mw), .ref a1, .ref a2, .ref a3, .ref a4, .ref a5, .ref a6, .ref a7, .ref a8, .ref a9, .ref a10, .long (jL mu), .long (jL md), .int (jI mo), .ref a11])), (a1, .inl (cZ, 62, .inl (jA y1n'))), (a2, .inl (cA, 62, .inl (jA y2n'))), (a3, .inl (cZ, 496, .inl (jA y3n'))), (a6, .inl (cA, 62, .inl (jA y6n'))), (a7, .inl (cA, 248, .inl (jA y7n'))), (a8, .inl (cZ, 8, .inl (jA y8n'))), (a9, .inl (cA, 64, .inl (jA y9n')))] H := hP
  have hD : va_D A [(a0, .inl (cA, 400, .inl (jA y0))), (a4, .inl (cA, 496, .inl (jA y4))), (a5, .inl (cA, 496, .inl (jA y5))), (ma, .inr (5, [.int (jI 0), .int (jI mn), .ref a0, .int (jI 0), .int (jI mw), .ref a1, .ref a2, .ref a3, .ref a4, .ref a5, .ref a6, .ref a7, .ref a8, .ref a9, .ref a10, .long (jL mu), .long (jL md), .int (jI mo), .ref a11])), (a1, .inl (cZ, 62, .inl (jA y1n'))), (a2, .inl (cA, 62, .inl (jA y2n'))), (a3, .inl (cZ, 496, .inl (jA y3n'))), (a6, .inl (cA, 62, .inl (jA y6n'))), (a7, .inl (cA, 248, .inl (jA y7n'))), (a8, .inl (cZ, 8, .inl (jA y8n'))), (a9, .inl (cA, 64, .inl (jA y9n')))] := hD
  refine lv_aload_n hx hb dXM_read_15 rfl (lv_at hl 0 rfl) ?_
  refine ji_iconst hx hb dXM_read_16 ?_
  refine va_put (D := (dC, dI)) (ci := 5) (v := .int (jI (-1))) (ty := (.int)) (C := RXM) (T := TXM) (N := 19) hx hb hts (fun w h => jmem (inXM w h)) tyXM tyXM_ok nXM hown hK hP hD hS 3 rfl rfl 4 (by decide) (hts _ (jmem tw_632)) (fun _ h9 => h9) rfl (by decide +kernel) rfl rfl (Nat.le_of_ble_eq_true rfl) dXM_read_17 (fun H locs hP hD hS => ?_)
  have hP : va_P (dC, dI) vwCl [(a0, .inl (cA, 400, .inl (jA y0))), (a4, .inl (cA, 496, .inl (jA y4))), (a5, .inl (cA, 496, .inl (jA y5))), (ma, .inr (5, [.int (jI 0), .int (jI mn), .ref a0, .int (jI 0), .int (jI (-1)), .ref a1, .ref a2, .ref a3, .ref a4, .ref a5, .ref a6, .ref a7, .ref a8, .ref a9, .ref a10, .long (jL mu), .long (jL md), .int (jI mo), .ref a11])), (a1, .inl (cZ, 62, .inl (jA y1n'))), (a2, .inl (cA, 62, .inl (jA y2n'))), (a3, .inl (cZ, 496, .inl (jA y3n'))), (a6, .inl (cA, 62, .inl (jA y6n'))), (a7, .inl (cA, 248, .inl (jA y7n'))), (a8, .inl (cZ, 8, .inl (jA y8n'))), (a9, .inl (cA, 64, .inl (jA y9n')))] H := hP
  have hD : va_D A [(a0, .inl (cA, 400, .inl (jA y0))), (a4, .inl (cA, 496, .inl (jA y4))), (a5, .inl (cA, 496, .inl (jA y5))), (ma, .inr (5, [.int (jI 0), .int (jI mn), .ref a0, .int (jI 0), .int (jI (-1)), .ref a1, .ref a2, .ref a3, .ref a4, .ref a5, .ref a6, .ref a7, .ref a8, .ref a9, .ref a10, .long (jL mu), .long (jL md), .int (jI mo), .ref a11])), (a1, .inl (cZ, 62, .inl (jA y1n'))), (a2, .inl (cA, 62, .inl (jA y2n'))), (a3, .inl (cZ, 496, .inl (jA y3n'))), (a6, .inl (cA, 62, .inl (jA y6n'))), (a7, .inl (cA, 248, .inl (jA y7n'))), (a8, .inl (cZ, 8, .inl (jA y8n'))), (a9, .inl (cA, 64, .inl (jA y9n')))] := hD
  refine lv_aload_n hx hb dXM_read_20 rfl (lv_at hl 0 rfl) ?_
  refine va_get (D := (dC, dI)) (ci := 5) (v := .int (jI (-1))) (C := RXM) (T := TXM) (N := 19) hx hb hts (fun w h => jmem (inXM w h)) hown hK hP 3 rfl rfl 4 (by decide) (hts _ (jmem tw_632)) (fun _ h9 => h9) rfl dXM_read_21 ?_
  refine ji_if_ge (tgt := 77) hx hb dXM_read_24 (by decide) (by first | omega | decide) (fun c24_ => absurd c24_ (by decide)) (fun c24_ => ?_)
  refine lv_aload_n hx hb dXM_read_27 rfl (lv_at hl 0 rfl) ?_
  refine jwVi (rest := []) (wr := [(a4, .inl (cA, 496, .inl (jA y4))), (a5, .inl (cA, 496, .inl (jA y5))), (a1, .inl (cZ, 62, .inl (jA y1n'))), (a2, .inl (cA, 62, .inl (jA y2n'))), (a3, .inl (cZ, 496, .inl (jA y3n'))), (a6, .inl (cA, 62, .inl (jA y6n'))), (a7, .inl (cA, 248, .inl (jA y7n'))), (a8, .inl (cZ, 8, .inl (jA y8n'))), (a9, .inl (cA, 64, .inl (jA y9n')))]) ⟨hx, hb, hml, hown, hts⟩ (c_XM_see l dC dI cA cZ _ ma a0 a1 a2 a3 a4 a5 a6 a7 a8 a9 a10 a11 0 mn 0 (-1) mu md mo y0 (by first | assumption | omega | exact jset_b (by assumption) (by omega)) (by first | assumption | omega | exact jset_b (by assumption) (by omega)) (by first | assumption | omega | exact jset_b (by assumption) (by omega))) (cwV 0 hts (jG_V tw_710 tw_712 ts_16 tw_6 tw_713) rfl rfl rfl (by decide +kernel) (by rw [hR]; exact ⟨Nat.le_of_ble_eq_true rfl, Nat.le_of_ble_eq_true rfl⟩)) hK hP hD hS hA hN [3, 0] [1, 2, 4, 5, 6, 7, 8, 9, 10] rfl rfl (by decide) (by decide) (by decide) 3 5 rfl rfl rfl rfl hl.1 rfl (Nat.le_of_ble_eq_true rfl) dXM_read_28 (by rw [hR]; exact ⟨Nat.le_of_ble_eq_true rfl, Nat.le_of_ble_eq_true rfl⟩) (fun v u8 H locs hwb9 hP hD hS => ?_)
  obtain ⟨r, mp1'⟩ := u8
  try dsimp only at hwb9
  obtain ⟨er, f10, f11⟩ := hwb9
  subst er
  have f10 : -1 ≤ r ∧ r ≤ 255 ∧ (0 ≤ r → mp1' < mn) := f10
  have f11 : (0 : Int) ≤ mp1' ∧ mp1' ≤ mn := f11
  have hP : va_P (dC, dI) vwCl [(a4, .inl (cA, 496, .inl (jA y4))), (a5, .inl (cA, 496, .inl (jA y5))), (a1, .inl (cZ, 62, .inl (jA y1n'))), (a2, .inl (cA, 62, .inl (jA y2n'))), (a3, .inl (cZ, 496, .inl (jA y3n'))), (a6, .inl (cA, 62, .inl (jA y6n'))), (a7, .inl (cA, 248, .inl (jA y7n'))), (a8, .inl (cZ, 8, .inl (jA y8n'))), (a9, .inl (cA, 64, .inl (jA y9n'))), (ma, .inr (5, [.int (jI 0), .int (jI mn), .ref a0, .int (jI mp1'), .int (jI (-1)), .ref a1, .ref a2, .ref a3, .ref a4, .ref a5, .ref a6, .ref a7, .ref a8, .ref a9, .ref a10, .long (jL mu), .long (jL md), .int (jI mo), .ref a11])), (a0, .inl (cA, 400, .inl (jA y0)))] H := hP
  have hD : va_D A [(a4, .inl (cA, 496, .inl (jA y4))), (a5, .inl (cA, 496, .inl (jA y5))), (a1, .inl (cZ, 62, .inl (jA y1n'))), (a2, .inl (cA, 62, .inl (jA y2n'))), (a3, .inl (cZ, 496, .inl (jA y3n'))), (a6, .inl (cA, 62, .inl (jA y6n'))), (a7, .inl (cA, 248, .inl (jA y7n'))), (a8, .inl (cZ, 8, .inl (jA y8n'))), (a9, .inl (cA, 64, .inl (jA y9n'))), (ma, .inr (5, [.int (jI 0), .int (jI mn), .ref a0, .int (jI mp1'), .int (jI (-1)), .ref a1, .ref a2, .ref a3, .ref a4, .ref a5, .ref a6, .ref a7, .ref a8, .ref a9, .ref a10, .long (jL mu), .long (jL md), .int (jI mo), .ref a11])), (a0, .inl (cA, 400, .inl (jA y0)))] := hD
  refine ji_if_lt (tgt := 77) hx hb dXM_read_31 (by decide) (by first | omega | decide) (fun c31_ => ?_) (fun c31_ => absurd c31_ (by omega))
  refine lv_aload_n hx hb dXM_read_77 rfl (lv_at hl 0 rfl) ?_
  refine ji_iconst hx hb dXM_read_78 ?_
  refine va_put (D := (dC, dI)) (ci := 5) (v := .int (jI 0)) (ty := (.int)) (C := RXM) (T := TXM) (N := 19) hx hb hts (fun w h => jmem (inXM w h)) tyXM tyXM_ok nXM hown hK hP hD hS 9 rfl rfl 1 (by decide) (hts _ (jmem tw_629)) (fun _ h9 => h9) rfl (by decide +kernel) rfl rfl (Nat.le_of_ble_eq_true rfl) dXM_read_79 (fun H locs hP hD hS => ?_)
  have hP : va_P (dC, dI) vwCl [(a4, .inl (cA, 496, .inl (jA y4))), (a5, .inl (cA, 496, .inl (jA y5))), (a1, .inl (cZ, 62, .inl (jA y1n'))), (a2, .inl (cA, 62, .inl (jA y2n'))), (a3, .inl (cZ, 496, .inl (jA y3n'))), (a6, .inl (cA, 62, .inl (jA y6n'))), (a7, .inl (cA, 248, .inl (jA y7n'))), (a8, .inl (cZ, 8, .inl (jA y8n'))), (a9, .inl (cA, 64, .inl (jA y9n'))), (ma, .inr (5, [.int (jI 0), .int (jI 0), .ref a0, .int (jI mp1'), .int (jI (-1)), .ref a1, .ref a2, .ref a3, .ref a4, .ref a5, .ref a6, .ref a7, .ref a8, .ref a9, .ref a10, .long (jL mu), .long (jL md), .int (jI mo), .ref a11])), (a0, .inl (cA, 400, .inl (jA y0)))] H := hP
  have hD : va_D A [(a4, .inl (cA, 496, .inl (jA y4))), (a5, .inl (cA, 496, .inl (jA y5))), (a1, .inl (cZ, 62, .inl (jA y1n'))), (a2, .inl (cA, 62, .inl (jA y2n'))), (a3, .inl (cZ, 496, .inl (jA y3n'))), (a6, .inl (cA, 62, .inl (jA y6n'))), (a7, .inl (cA, 248, .inl (jA y7n'))), (a8, .inl (cZ, 8, .inl (jA y8n'))), (a9, .inl (cA, 64, .inl (jA y9n'))), (ma, .inr (5, [.int (jI 0), .int (jI 0), .ref a0, .int (jI mp1'), .int (jI (-1)), .ref a1, .ref a2, .ref a3, .ref a4, .ref a5, .ref a6, .ref a7, .ref a8, .ref a9, .ref a10, .long (jL mu), .long (jL md), .int (jI mo), .ref a11])), (a0, .inl (cA, 400, .inl (jA y0)))] := hD
  refine lv_aload_n hx hb dXM_read_82 rfl (lv_at hl 0 rfl) ?_
  refine va_get (D := (dC, dI)) (ci := 5) (v := .int (jI (-1))) (C := RXM) (T := TXM) (N := 19) hx hb hts (fun w h => jmem (inXM w h)) hown hK hP 9 rfl rfl 4 (by decide) (hts _ (jmem tw_632)) (fun _ h9 => h9) rfl dXM_read_83 ?_
  refine ji_if_lt (tgt := 96) hx hb dXM_read_86 (by decide) (by first | omega | decide) (fun c86_ => ?_) (fun c86_ => absurd c86_ (by decide))
  refine lv_aload_n hx hb dXM_read_96 rfl (lv_at hl 0 rfl) ?_
  refine jwVv (rest := []) (wr := [(a0, .inl (cA, 400, .inl (jA y0)))]) ⟨hx, hb, hml, hown, hts⟩ (c_XM_copy l dC dI cA cZ _ ma a0 a1 a2 a3 a4 a5 a6 a7 a8 a9 a10 a11 0 0 mp1' (-1) mu md mo y1n' y2n' y3n' y4 y5 y6n' y7n' y8n' y9n' (by first | assumption | omega | exact jset_b (by assumption) (by omega)) (by first | assumption | omega | exact jset_b (by assumption) (by omega)) (by first | assumption | omega | exact jset_b (by assumption) (by omega)) (by first | assumption | omega | exact jset_b (by assumption) (by omega)) (by first | assumption | omega | exact jset_b (by assumption) (by omega)) (by first | assumption | omega | exact jset_b (by assumption) (by omega)) (by first | assumption | omega | exact jset_b (by assumption) (by omega)) (by first | assumption | omega | exact jset_b (by assumption) (by omega)) (by first | assumption | omega | exact jset_b (by assumption) (by omega))) (cwV 0 hts (jG_V tw_760 tw_762 ts_28 tw_6 tw_763) rfl rfl rfl (by decide +kernel) (by rw [hR]; exact ⟨Nat.le_of_ble_eq_true rfl, Nat.le_of_ble_eq_true rfl⟩)) hK hP hD hS hA hN [9, 2, 3, 4, 0, 1, 5, 6, 7, 8] [10] rfl rfl (by decide) (by decide) (by decide) 9 5 rfl rfl rfl rfl hl.1 rfl (Nat.le_of_ble_eq_true rfl) dXM_read_97 (by rw [hR]; exact ⟨Nat.le_of_ble_eq_true rfl, Nat.le_of_ble_eq_true rfl⟩) (fun u19 H locs hwb20 hP hD hS => ?_)
  obtain ⟨y1n'12, y2n'13, y3n'14, y4n', y5n', y6n'15, y7n'16, y8n'17, y9n'18⟩ := u19
  try dsimp only at hwb20
  obtain ⟨f21, f22, f23, f24, f25, f26, f27, f28, f29, f30⟩ := hwb20
  have f21 : ∀ i, 0 ≤ y1n'12 i ∧ y1n'12 i ≤ 1 := f21
  have f22 : ∀ i, 0 ≤ y2n'13 i ∧ y2n'13 i ≤ 30 := f22
  have f23 : ∀ i, 0 ≤ y3n'14 i ∧ y3n'14 i ≤ 1 := f23
  have f24 : ∀ i, 0 ≤ y4n' i ∧ y4n' i ≤ 100000 := f24
  have f25 : ∀ i, 0 ≤ y5n' i ∧ y5n' i ≤ 100000 := f25
  have f26 : ∀ i, 0 ≤ y6n'15 i ∧ y6n'15 i ≤ 255 := f26
  have f27 : ∀ i, -1 ≤ y7n'16 i ∧ y7n'16 i ≤ 999999 := f27
  have f28 : ∀ i, 0 ≤ y8n'17 i ∧ y8n'17 i ≤ 1 := f28
  have f29 : ∀ i, 0 ≤ y9n'18 i ∧ y9n'18 i ≤ 20 := f29
  have f30 : ∀ b9, (∀ i, y1n' i ≤ b9) → ∀ i, y1n'12 i ≤ b9 := f30
  have hP : va_P (dC, dI) vwCl [(a0, .inl (cA, 400, .inl (jA y0))), (ma, .inr (5, [.int (jI 0), .int (jI 0), .ref a0, .int (jI mp1'), .int (jI (-1)), .ref a1, .ref a2, .ref a3, .ref a4, .ref a5, .ref a6, .ref a7, .ref a8, .ref a9, .ref a10, .long (jL mu), .long (jL md), .int (jI mo), .ref a11])), (a1, .inl (cZ, 62, .inl (jA y1n'12))), (a2, .inl (cA, 62, .inl (jA y2n'13))), (a3, .inl (cZ, 496, .inl (jA y3n'14))), (a4, .inl (cA, 496, .inl (jA y4n'))), (a5, .inl (cA, 496, .inl (jA y5n'))), (a6, .inl (cA, 62, .inl (jA y6n'15))), (a7, .inl (cA, 248, .inl (jA y7n'16))), (a8, .inl (cZ, 8, .inl (jA y8n'17))), (a9, .inl (cA, 64, .inl (jA y9n'18)))] H := hP
  have hD : va_D A [(a0, .inl (cA, 400, .inl (jA y0))), (ma, .inr (5, [.int (jI 0), .int (jI 0), .ref a0, .int (jI mp1'), .int (jI (-1)), .ref a1, .ref a2, .ref a3, .ref a4, .ref a5, .ref a6, .ref a7, .ref a8, .ref a9, .ref a10, .long (jL mu), .long (jL md), .int (jI mo), .ref a11])), (a1, .inl (cZ, 62, .inl (jA y1n'12))), (a2, .inl (cA, 62, .inl (jA y2n'13))), (a3, .inl (cZ, 496, .inl (jA y3n'14))), (a4, .inl (cA, 496, .inl (jA y4n'))), (a5, .inl (cA, 496, .inl (jA y5n'))), (a6, .inl (cA, 62, .inl (jA y6n'15))), (a7, .inl (cA, 248, .inl (jA y7n'16))), (a8, .inl (cZ, 8, .inl (jA y8n'17))), (a9, .inl (cA, 64, .inl (jA y9n'18)))] := hD
  have hz97 : ∀ i, y1n'12 i ≤ 0 := fun i => (by assumption : ∀ b9, (∀ i, y1n' i ≤ b9) → ∀ i, y1n'12 i ≤ b9) 0 hz7 i
  have hyz : ∀ i, 0 ≤ y1n'12 i ∧ y1n'12 i ≤ 1 := by assumption
  refine ji_iconst hx hb dXM_read_100 ?_
  refine lv_istore_n (lv' := [(1, .int (jI 0)), (0, .ref ma)]) hx hb dXM_read_101 rfl hl (by decide) rfl (fun ls hl => ?_)
  refine ji_iconst hx hb dXM_read_102 ?_
  refine lv_istore_n (lv' := [(2, .int (jI 0)), (1, .int (jI 0)), (0, .ref ma)]) hx hb dXM_read_103 rfl hl (by decide) rfl (fun ls hl => ?_)
  have loop104 : ∀ (n9 : Nat) (k : Int) , 31 - k < (n9 : Int) → (0 ≤ k ∧ k ≤ 31) → ∀ (H : Heap) (locs : List Loc), va_P (dC, dI) vwCl [(a0, .inl (cA, 400, .inl (jA y0))), (ma, .inr (5, [.int (jI 0), .int (jI 0), .ref a0, .int (jI mp1'), .int (jI (-1)), .ref a1, .ref a2, .ref a3, .ref a4, .ref a5, .ref a6, .ref a7, .ref a8, .ref a9, .ref a10, .long (jL mu), .long (jL md), .int (jI mo), .ref a11])), (a1, .inl (cZ, 62, .inl (jA y1n'12))), (a2, .inl (cA, 62, .inl (jA y2n'13))), (a3, .inl (cZ, 496, .inl (jA y3n'14))), (a4, .inl (cA, 496, .inl (jA y4n'))), (a5, .inl (cA, 496, .inl (jA y5n'))), (a6, .inl (cA, 62, .inl (jA y6n'15))), (a7, .inl (cA, 248, .inl (jA y7n'16))), (a8, .inl (cZ, 8, .inl (jA y8n'17))), (a9, .inl (cA, 64, .inl (jA y9n'18)))] H → va_D A [(a0, .inl (cA, 400, .inl (jA y0))), (ma, .inr (5, [.int (jI 0), .int (jI 0), .ref a0, .int (jI mp1'), .int (jI (-1)), .ref a1, .ref a2, .ref a3, .ref a4, .ref a5, .ref a6, .ref a7, .ref a8, .ref a9, .ref a10, .long (jL mu), .long (jL md), .int (jI mo), .ref a11])), (a1, .inl (cZ, 62, .inl (jA y1n'12))), (a2, .inl (cA, 62, .inl (jA y2n'13))), (a3, .inl (cZ, 496, .inl (jA y3n'14))), (a4, .inl (cA, 496, .inl (jA y4n'))), (a5, .inl (cA, 496, .inl (jA y5n'))), (a6, .inl (cA, 62, .inl (jA y6n'15))), (a7, .inl (cA, 248, .inl (jA y7n'16))), (a8, .inl (cZ, 8, .inl (jA y8n'17))), (a9, .inl (cA, 64, .inl (jA y9n'18)))] → va_S A s.heap H locs → ∀ ls : Array Slot, lv_has ls 3 [(2, .int (jI k)), (1, .int (jI 0)), (0, .ref ma)] → W p l e R s m ([.ref ma] : List Value).toArray below meth c H locs 0 0 Q (F0 m 104 ls []) := by
    intro n9
    induction n9 with
    | zero =>
      intro k hm hk
      exact absurd hm (by omega)
    | succ n9 ih104 =>
      intro k hm hk H locs hP hD hS ls hl
      refine lv_iload_n hx hb dXM_read_104 rfl (lv_at hl 0 rfl) ?_
      refine ji_bipush hx hb dXM_read_105 (by decide) ?_
      refine ji_icmp_ge (tgt := 128) hx hb dXM_read_107 (by decide) (by first | omega | decide) (by first | omega | decide) (fun c107_ => ?_) (fun c107_ => ?_)
      · refine lv_iload_n hx hb dXM_read_128 rfl (lv_at hl 1 rfl) ?_
        have hP9 := hP.sub (ws' := [(ma, .inr (5, [.int (jI 0), .int (jI 0), .ref a0, .int (jI mp1'), .int (jI (-1)), .ref a1, .ref a2, .ref a3, .ref a4, .ref a5, .ref a6, .ref a7, .ref a8, .ref a9, .ref a10, .long (jL mu), .long (jL md), .int (jI mo), .ref a11])), (a0, .inl (cA, 400, .inl (jA y0))), (a1, .inl (cZ, 62, .inl (jA y1n'12))), (a2, .inl (cA, 62, .inl (jA y2n'13))), (a3, .inl (cZ, 496, .inl (jA y3n'14))), (a4, .inl (cA, 496, .inl (jA y4n'))), (a5, .inl (cA, 496, .inl (jA y5n'))), (a6, .inl (cA, 62, .inl (jA y6n'15))), (a7, .inl (cA, 248, .inl (jA y7n'16))), (a8, .inl (cZ, 8, .inl (jA y8n'17))), (a9, .inl (cA, 64, .inl (jA y9n'18)))]) [1, 0, 2, 3, 4, 5, 6, 7, 8, 9, 10] rfl
        have hD9 := hD.sub (ws' := [(ma, .inr (5, [.int (jI 0), .int (jI 0), .ref a0, .int (jI mp1'), .int (jI (-1)), .ref a1, .ref a2, .ref a3, .ref a4, .ref a5, .ref a6, .ref a7, .ref a8, .ref a9, .ref a10, .long (jL mu), .long (jL md), .int (jI mo), .ref a11])), (a0, .inl (cA, 400, .inl (jA y0))), (a1, .inl (cZ, 62, .inl (jA y1n'12))), (a2, .inl (cA, 62, .inl (jA y2n'13))), (a3, .inl (cZ, 496, .inl (jA y3n'14))), (a4, .inl (cA, 496, .inl (jA y4n'))), (a5, .inl (cA, 496, .inl (jA y5n'))), (a6, .inl (cA, 62, .inl (jA y6n'15))), (a7, .inl (cA, 248, .inl (jA y7n'16))), (a8, .inl (cZ, 8, .inl (jA y8n'17))), (a9, .inl (cA, 64, .inl (jA y9n'18)))]) [1, 0, 2, 3, 4, 5, 6, 7, 8, 9, 10] (by decide) rfl
        subst hAe
        subst hQ
        exact W.iret (v := jI 0) hx hb hr (fun t ht hW => ⟨⟨_, (0, 0, 0, mp1', -1, y1n'12, y2n'13, y3n'14, y4n', y5n', y6n'15, y7n'16, y8n'17, y9n'18), rfl, ⟨rfl, (show (0 : Int) = 0 from by first | assumption | omega | exact jset_b (by assumption) (by omega))⟩, ⟨by rw [ht]; exact hP9, va_K.moved hW.alike hK, hD9⟩⟩, hS.F ht⟩) hS.2.2 dXM_read_129
      · refine lv_aload_n hx hb dXM_read_110 rfl (lv_at hl 2 rfl) ?_
        refine va_get (D := (dC, dI)) (ci := 5) (v := .ref a1) (C := RXM) (T := TXM) (N := 19) hx hb hts (fun w h => jmem (inXM w h)) hown hK hP 1 rfl rfl 5 (by decide) (hts _ (jmem tw_633)) (fun _ h9 => h9) rfl dXM_read_111 ?_
        refine lv_iload_n hx hb dXM_read_114 rfl (lv_at hl 0 rfl) ?_
        refine ji_zald hx hb hK hP 2 1 rfl rfl ⟨by omega, by omega⟩ (by decide) dXM_read_115 ?_
        have rb := hy1 k
        refine ji_if_eq (tgt := 122) hx hb dXM_read_116 (by decide) (by have h9 := hyz k; omega) (fun c116_ => ?_) (fun c116_ => absurd c116_ (by have h8 := hz97 k; have h9 := hyz k; omega))
        refine ji_iinc (k := 0) (lv' := [(2, .int (jI (k + 1))), (1, .int (jI 0)), (0, .ref ma)]) hx hb dXM_read_122 hl rfl (by decide) rfl (fun ls hl => ?_)
        refine lv_goto (tgt := 104) hx hb dXM_read_125 (by decide) ?_
        exact ih104 (k + 1) (by omega) (by first | assumption | omega | exact jset_b (by assumption) (by omega)) _ _ hP hD hS ls (lv_sub hl [0, 1, 2] rfl)
  exact loop104 (Int.toNat (31 - 0) + 1) 0 (by omega) (by first | assumption | omega | exact jset_b (by assumption) (by omega)) _ _ hP hD hS ls (lv_sub hl [0, 1, 2] rfl)
