set_option maxHeartbeats 4000000 in
set_option maxRecDepth 100000 in
theorem c_XM_lowOf (l : Launch) (dC : Nat → ClassId) (dI : Nat → Nat → Nat) (cA cZ : ClassId) (sz : Nat) (ma : Nat) (a0 : Nat) (a1 : Nat) (a2 : Nat) (a3 : Nat) (a4 : Nat) (a5 : Nat) (a6 : Nat) (a7 : Nat) (a8 : Nat) (a9 : Nat) (a10 : Nat) (a11 : Nat) (mth : Int) (mn : Int) (mp : Int) (mw : Int) (mu : Int) (md : Int) (mo : Int) (y1 : Int → Int) (y2 : Int → Int) (y3 : Int → Int) (y4 : Int → Int) (z1 : Int) (z2 : Int) (hy1 : ∀ i, 0 ≤ y1 i ∧ y1 i ≤ 1) (hy2 : ∀ i, 0 ≤ y2 i ∧ y2 i ≤ 30) (hy3 : ∀ i, 0 ≤ y3 i ∧ y3 i ≤ 1) (hy4 : ∀ i, 0 ≤ y4 i ∧ y4 i ≤ 100000) (hz1 : 1 ≤ z1 ∧ z1 ≤ 30) (hz2 : 0 ≤ z2 ∧ z2 ≤ 7) : Met l yXM_lowOf (Cond.code yXM_lowOf cXM_lowOf 4 (some .int) :: TBL) ({ frames := 4, cells := 0, slots := 0, locals := 87 } : Room) (va_Pc [.ref ma, .int (jI z1), .int (jI z2)] (jBw (dC, dI) [(cA, .int), (cZ, .boolean)] [(ma, .inr (5, [.int (jI mth), .int (jI mn), .ref a0, .int (jI mp), .int (jI mw), .ref a1, .ref a2, .ref a3, .ref a4, .ref a5, .ref a6, .ref a7, .ref a8, .ref a9, .ref a10, .long (jL mu), .long (jL md), .int (jI mo), .ref a11])), (a1, .inl (cZ, 62, .inl (jA y1))), (a2, .inl (cA, 62, .inl (jA y2))), (a3, .inl (cZ, 496, .inl (jA y3))), (a4, .inl (cA, 496, .inl (jA y4)))] sz)) (va_Qi (fun (r : Int32) (u : Int) => r = jI u ∧ (0 ≤ u ∧ u ≤ 100000)) (fun u t => jE (dC, dI) [(cA, .int), (cZ, .boolean)] [(ma, .inr (5, [.int (jI mth), .int (jI mn), .ref a0, .int (jI mp), .int (jI mw), .ref a1, .ref a2, .ref a3, .ref a4, .ref a5, .ref a6, .ref a7, .ref a8, .ref a9, .ref a10, .long (jL mu), .long (jL md), .int (jI mo), .ref a11])), (a1, .inl (cZ, 62, .inl (jA y1))), (a2, .inl (cA, 62, .inl (jA y2))), (a3, .inl (cZ, 496, .inl (jA y3))), (a4, .inl (cA, 496, .inl (jA y4)))] sz [(ma, .inr (5, [.int (jI mth), .int (jI mn), .ref a0, .int (jI mp), .int (jI mw), .ref a1, .ref a2, .ref a3, .ref a4, .ref a5, .ref a6, .ref a7, .ref a8, .ref a9, .ref a10, .long (jL mu), .long (jL md), .int (jI mo), .ref a11])), (a1, .inl (cZ, 62, .inl (jA y1))), (a2, .inl (cA, 62, .inl (jA y2))), (a3, .inl (cZ, 496, .inl (jA y3))), (a4, .inl (cA, 496, .inl (jA y4)))] t) (va_A [(ma, .inr (5, [.int (jI mth), .int (jI mn), .ref a0, .int (jI mp), .int (jI mw), .ref a1, .ref a2, .ref a3, .ref a4, .ref a5, .ref a6, .ref a7, .ref a8, .ref a9, .ref a10, .long (jL mu), .long (jL md), .int (jI mo), .ref a11])), (a1, .inl (cZ, 62, .inl (jA y1))), (a2, .inl (cA, 62, .inl (jA y2))), (a3, .inl (cZ, 496, .inl (jA y3))), (a4, .inl (cA, 496, .inl (jA y4)))] sz)) 0 0 (va_A [(ma, .inr (5, [.int (jI mth), .int (jI mn), .ref a0, .int (jI mp), .int (jI mw), .ref a1, .ref a2, .ref a3, .ref a4, .ref a5, .ref a6, .ref a7, .ref a8, .ref a9, .ref a10, .long (jL mu), .long (jL md), .int (jI mo), .ref a11])), (a1, .inl (cZ, 62, .inl (jA y1))), (a2, .inl (cA, 62, .inl (jA y2))), (a3, .inl (cZ, 496, .inl (jA y3))), (a4, .inl (cA, 496, .inl (jA y4)))] sz) := by
  refine jMet (cc := cXM_lowOf) (maxL := 4) (ret := some .int) (by decide) rfl ?_
  intro p e s m args below meth c s₁ R Q hR hQ B hml hv
  obtain ⟨rfl, hsz, hP, hK, hD0, hN⟩ := hv
  have hx := B.exec
  have hb := B.bytes
  have hr := B.returns
  have hts := atoms_spec (ws := Cond.code yXM_lowOf cXM_lowOf 4 (some .int) :: TBL) B.pre
  have hown : s.vm.findClass RXM = some m.cls := findClass_of_methodNamed B.named
  have hlocks := B.notSynchronized
  subst hsz
  obtain ⟨A, hAe⟩ : ∃ A, A = va_A [(ma, .inr (5, [.int (jI mth), .int (jI mn), .ref a0, .int (jI mp), .int (jI mw), .ref a1, .ref a2, .ref a3, .ref a4, .ref a5, .ref a6, .ref a7, .ref a8, .ref a9, .ref a10, .long (jL mu), .long (jL md), .int (jI mo), .ref a11])), (a1, .inl (cZ, 62, .inl (jA y1))), (a2, .inl (cA, 62, .inl (jA y2))), (a3, .inl (cZ, 496, .inl (jA y3))), (a4, .inl (cA, 496, .inl (jA y4)))] s.heap.size := ⟨_, rfl⟩
  have hD : va_D A [(ma, .inr (5, [.int (jI mth), .int (jI mn), .ref a0, .int (jI mp), .int (jI mw), .ref a1, .ref a2, .ref a3, .ref a4, .ref a5, .ref a6, .ref a7, .ref a8, .ref a9, .ref a10, .long (jL mu), .long (jL md), .int (jI mo), .ref a11])), (a1, .inl (cZ, 62, .inl (jA y1))), (a2, .inl (cA, 62, .inl (jA y2))), (a3, .inl (cZ, 496, .inl (jA y3))), (a4, .inl (cA, 496, .inl (jA y4)))] := by rw [hAe]; exact hD0.self
  have hA : ∀ q : Nat, s.heap.size ≤ q → A q := fun q h => by rw [hAe]; exact Or.inr h
  have hS : va_S A s.heap s.heap [] := va_S.rf
  have hP : va_P (dC, dI) vwCl [(ma, .inr (5, [.int (jI mth), .int (jI mn), .ref a0, .int (jI mp), .int (jI mw), .ref a1, .ref a2, .ref a3, .ref a4, .ref a5, .ref a6, .ref a7, .ref a8, .ref a9, .ref a10, .long (jL mu), .long (jL md), .int (jI mo), .ref a11])), (a1, .inl (cZ, 62, .inl (jA y1))), (a2, .inl (cA, 62, .inl (jA y2))), (a3, .inl (cZ, 496, .inl (jA y3))), (a4, .inl (cA, 496, .inl (jA y4)))] s.heap := hP
  have hl := lv_entry ([.ref ma, .int (jI z1), .int (jI z2)]) (n := 4) (Nat.le_of_ble_eq_true rfl)
  rw [lg_entry_eq]
  generalize (lg_sl ([.ref ma, .int (jI z1), .int (jI z2)]) ++ List.replicate (4 - (lg_sl ([.ref ma, .int (jI z1), .int (jI z2)])).length) Slot.unset).toArray = ls at hl ⊢
  have hl : lv_has ls 4 [(0, .ref ma), (1, .int (jI z1)), (2, .int (jI z2))] := hl
  refine lv_iload_n hx hb dXM_lowOf_0 rfl (lv_at hl 1 rfl) ?_
  refine lv_istore_n (lv' := [(3, .int (jI z1)), (0, .ref ma), (1, .int (jI z1)), (2, .int (jI z2))]) hx hb dXM_lowOf_1 rfl hl (by decide) rfl (fun ls hl => ?_)
  have loop2 : ∀ (n9 : Nat) (k : Int) , jdp (fun x => f_XM_from mth mn mp mw mu md mo y1 y2 x) 41 k < (n9 : Int) → (0 ≤ k ∧ k ≤ 30) → ∀ (H : Heap) (locs : List Loc), va_P (dC, dI) vwCl [(ma, .inr (5, [.int (jI mth), .int (jI mn), .ref a0, .int (jI mp), .int (jI mw), .ref a1, .ref a2, .ref a3, .ref a4, .ref a5, .ref a6, .ref a7, .ref a8, .ref a9, .ref a10, .long (jL mu), .long (jL md), .int (jI mo), .ref a11])), (a1, .inl (cZ, 62, .inl (jA y1))), (a2, .inl (cA, 62, .inl (jA y2))), (a3, .inl (cZ, 496, .inl (jA y3))), (a4, .inl (cA, 496, .inl (jA y4)))] H → va_D A [(ma, .inr (5, [.int (jI mth), .int (jI mn), .ref a0, .int (jI mp), .int (jI mw), .ref a1, .ref a2, .ref a3, .ref a4, .ref a5, .ref a6, .ref a7, .ref a8, .ref a9, .ref a10, .long (jL mu), .long (jL md), .int (jI mo), .ref a11])), (a1, .inl (cZ, 62, .inl (jA y1))), (a2, .inl (cA, 62, .inl (jA y2))), (a3, .inl (cZ, 496, .inl (jA y3))), (a4, .inl (cA, 496, .inl (jA y4)))] → va_S A s.heap H locs → ∀ ls : Array Slot, lv_has ls 4 [(3, .int (jI k)), (0, .ref ma), (1, .int (jI z1)), (2, .int (jI z2))] → W p l e R s m ([.ref ma, .int (jI z1), .int (jI z2)] : List Value).toArray below meth c H locs 0 0 Q (F0 m 2 ls []) := by
    intro n9
    induction n9 with
    | zero =>
      intro k hm hk
      exact absurd hm (by have h8 := jdp_nn (fun x => f_XM_from mth mn mp mw mu md mo y1 y2 x) 41 k; omega)
    | succ n9 ih2 =>
      intro k hm hk H locs hP hD hS ls hl
      refine lv_iload_n hx hb dXM_lowOf_2 rfl (lv_at hl 0 rfl) ?_
      refine ji_if_le (tgt := 41) hx hb dXM_lowOf_3 (by decide) (by first | omega | decide) (fun c3_ => ?_) (fun c3_ => ?_)
      · refine ji_iconst hx hb dXM_lowOf_41 ?_
        have hP9 := hP.sub (ws' := [(ma, .inr (5, [.int (jI mth), .int (jI mn), .ref a0, .int (jI mp), .int (jI mw), .ref a1, .ref a2, .ref a3, .ref a4, .ref a5, .ref a6, .ref a7, .ref a8, .ref a9, .ref a10, .long (jL mu), .long (jL md), .int (jI mo), .ref a11])), (a1, .inl (cZ, 62, .inl (jA y1))), (a2, .inl (cA, 62, .inl (jA y2))), (a3, .inl (cZ, 496, .inl (jA y3))), (a4, .inl (cA, 496, .inl (jA y4)))]) [0, 1, 2, 3, 4] rfl
        have hD9 := hD.sub (ws' := [(ma, .inr (5, [.int (jI mth), .int (jI mn), .ref a0, .int (jI mp), .int (jI mw), .ref a1, .ref a2, .ref a3, .ref a4, .ref a5, .ref a6, .ref a7, .ref a8, .ref a9, .ref a10, .long (jL mu), .long (jL md), .int (jI mo), .ref a11])), (a1, .inl (cZ, 62, .inl (jA y1))), (a2, .inl (cA, 62, .inl (jA y2))), (a3, .inl (cZ, 496, .inl (jA y3))), (a4, .inl (cA, 496, .inl (jA y4)))]) [0, 1, 2, 3, 4] (by decide) rfl
        subst hAe
        subst hQ
        exact W.iret (v := jI 0) hx hb hr (fun t ht hW => ⟨⟨_, 0, rfl, ⟨rfl, (show 0 ≤ (0 : Int) ∧ (0 : Int) ≤ 100000 from by first | assumption | omega | exact jset_b (by assumption) (by omega))⟩, ⟨by rw [ht]; exact hP9, va_K.moved hW.alike hK, hD9⟩⟩, hS.F ht⟩) hS.2.2 dXM_lowOf_42
      · refine lv_aload_n hx hb dXM_lowOf_6 rfl (lv_at hl 1 rfl) ?_
        refine va_get (D := (dC, dI)) (ci := 5) (v := .ref a3) (C := RXM) (T := TXM) (N := 19) hx hb hts (fun w h => jmem (inXM w h)) hown hK hP 0 rfl rfl 7 (by decide) (hts _ (jmem tw_635)) (fun _ h9 => h9) rfl dXM_lowOf_7 ?_
        refine ji_bipush hx hb dXM_lowOf_10 (by decide) ?_
        refine lv_iload_n hx hb dXM_lowOf_12 rfl (lv_at hl 0 rfl) ?_
        refine ji_imul hx hb dXM_lowOf_13 ?_
        refine lv_iload_n hx hb dXM_lowOf_14 rfl (lv_at hl 3 rfl) ?_
        refine ji_iadd hx hb dXM_lowOf_15 ?_
        refine ji_zald hx hb hK hP 3 1 rfl rfl ⟨by omega, by omega⟩ (by decide) dXM_lowOf_16 ?_
        have rb := hy3 ((8 * k) + z2)
        refine ji_if_eq (tgt := 32) hx hb dXM_lowOf_17 (by decide) (by first | omega | decide) (fun c17_ => ?_) (fun c17_ => ?_)
        · refine lv_aload_n hx hb dXM_lowOf_32 rfl (lv_at hl 1 rfl) ?_
          refine lv_iload_n hx hb dXM_lowOf_33 rfl (lv_at hl 0 rfl) ?_
          refine jrVi (rest := []) ⟨hx, hb, hml, hown, hts⟩ (c_XM_from l dC dI cA cZ ma a0 a1 a2 a3 a4 a5 a6 a7 a8 a9 a10 a11 mth mn mp mw mu md mo y1 y2 k (by first | assumption | omega) (by first | assumption | omega) (by first | assumption | omega)) (cwV 1 hts (jG_V tw_779 tw_781 ts_31 tw_6 tw_782) rfl rfl rfl (by decide +kernel) (by rw [hR]; exact ⟨Nat.le_of_ble_eq_true rfl, Nat.le_of_ble_eq_true rfl⟩)) hK hP hN [0, 1, 2] rfl 0 5 rfl rfl rfl rfl hl.1 rfl (Nat.le_of_ble_eq_true rfl) dXM_lowOf_34 (by rw [hR]; exact ⟨Nat.le_of_ble_eq_true rfl, Nat.le_of_ble_eq_true rfl⟩) ?_
          have f := f_XM_from_b mth mn mp mw mu md mo y1 y2 k (by first | assumption | omega) (by first | assumption | omega) (by first | assumption | omega)
          refine lv_istore_n (lv' := [(3, .int (jI (f_XM_from mth mn mp mw mu md mo y1 y2 k))), (0, .ref ma), (1, .int (jI z1)), (2, .int (jI z2))]) hx hb dXM_lowOf_37 rfl hl (by decide) rfl (fun ls hl => ?_)
          refine lv_goto (tgt := 2) hx hb dXM_lowOf_38 (by decide) ?_
          exact ih2 (f_XM_from mth mn mp mw mu md mo y1 y2 k) (by have h8 := from_dec mth mn mp mw mu md mo y1 y2 hy1 hy2 k (by omega); omega) (by first | assumption | omega | exact jset_b (by assumption) (by omega)) _ _ hP hD hS ls (lv_sub hl [0, 1, 2, 3] rfl)
        · refine lv_aload_n hx hb dXM_lowOf_20 rfl (lv_at hl 1 rfl) ?_
          refine va_get (D := (dC, dI)) (ci := 5) (v := .ref a4) (C := RXM) (T := TXM) (N := 19) hx hb hts (fun w h => jmem (inXM w h)) hown hK hP 0 rfl rfl 8 (by decide) (hts _ (jmem tw_636)) (fun _ h9 => h9) rfl dXM_lowOf_21 ?_
          refine ji_bipush hx hb dXM_lowOf_24 (by decide) ?_
          refine lv_iload_n hx hb dXM_lowOf_26 rfl (lv_at hl 0 rfl) ?_
          refine ji_imul hx hb dXM_lowOf_27 ?_
          refine lv_iload_n hx hb dXM_lowOf_28 rfl (lv_at hl 3 rfl) ?_
          refine ji_iadd hx hb dXM_lowOf_29 ?_
          refine ji_iald hx hb hK hP 4 0 rfl rfl ⟨by omega, by omega⟩ (by decide) dXM_lowOf_30 ?_
          have rb1 := hy4 ((8 * k) + z2)
          have hP9 := hP.sub (ws' := [(ma, .inr (5, [.int (jI mth), .int (jI mn), .ref a0, .int (jI mp), .int (jI mw), .ref a1, .ref a2, .ref a3, .ref a4, .ref a5, .ref a6, .ref a7, .ref a8, .ref a9, .ref a10, .long (jL mu), .long (jL md), .int (jI mo), .ref a11])), (a1, .inl (cZ, 62, .inl (jA y1))), (a2, .inl (cA, 62, .inl (jA y2))), (a3, .inl (cZ, 496, .inl (jA y3))), (a4, .inl (cA, 496, .inl (jA y4)))]) [0, 1, 2, 3, 4] rfl
          have hD9 := hD.sub (ws' := [(ma, .inr (5, [.int (jI mth), .int (jI mn), .ref a0, .int (jI mp), .int (jI mw), .ref a1, .ref a2, .ref a3, .ref a4, .ref a5, .ref a6, .ref a7, .ref a8, .ref a9, .ref a10, .long (jL mu), .long (jL md), .int (jI mo), .ref a11])), (a1, .inl (cZ, 62, .inl (jA y1))), (a2, .inl (cA, 62, .inl (jA y2))), (a3, .inl (cZ, 496, .inl (jA y3))), (a4, .inl (cA, 496, .inl (jA y4)))]) [0, 1, 2, 3, 4] (by decide) rfl
          subst hAe
          subst hQ
          exact W.iret (v := jI (y4 ((8 * k) + z2))) hx hb hr (fun t ht hW => ⟨⟨_, (y4 ((8 * k) + z2)), rfl, ⟨rfl, (show 0 ≤ (y4 ((8 * k) + z2)) ∧ (y4 ((8 * k) + z2)) ≤ 100000 from by first | assumption | omega | exact jset_b (by assumption) (by omega))⟩, ⟨by rw [ht]; exact hP9, va_K.moved hW.alike hK, hD9⟩⟩, hS.F ht⟩) hS.2.2 dXM_lowOf_31
  exact loop2 (Int.toNat (jdp (fun x => f_XM_from mth mn mp mw mu md mo y1 y2 x) 41 z1) + 1) z1 (by omega) (by first | assumption | omega | exact jset_b (by assumption) (by omega)) _ _ hP hD hS ls (lv_sub hl [0, 1, 2, 3] rfl)
set_option maxHeartbeats 4000000 in
set_option maxRecDepth 100000 in
theorem c_XM_highOf (l : Launch) (dC : Nat → ClassId) (dI : Nat → Nat → Nat) (cA cZ : ClassId) (sz : Nat) (ma : Nat) (a0 : Nat) (a1 : Nat) (a2 : Nat) (a3 : Nat) (a4 : Nat) (a5 : Nat) (a6 : Nat) (a7 : Nat) (a8 : Nat) (a9 : Nat) (a10 : Nat) (a11 : Nat) (mth : Int) (mn : Int) (mp : Int) (mw : Int) (mu : Int) (md : Int) (mo : Int) (y1 : Int → Int) (y2 : Int → Int) (y3 : Int → Int) (y5 : Int → Int) (z1 : Int) (z2 : Int) (hy1 : ∀ i, 0 ≤ y1 i ∧ y1 i ≤ 1) (hy2 : ∀ i, 0 ≤ y2 i ∧ y2 i ≤ 30) (hy3 : ∀ i, 0 ≤ y3 i ∧ y3 i ≤ 1) (hy5 : ∀ i, 0 ≤ y5 i ∧ y5 i ≤ 100000) (hz1 : 1 ≤ z1 ∧ z1 ≤ 30) (hz2 : 0 ≤ z2 ∧ z2 ≤ 7) : Met l yXM_highOf (Cond.code yXM_highOf cXM_highOf 4 (some .int) :: TBL) ({ frames := 4, cells := 0, slots := 0, locals := 87 } : Room) (va_Pc [.ref ma, .int (jI z1), .int (jI z2)] (jBw (dC, dI) [(cA, .int), (cZ, .boolean)] [(ma, .inr (5, [.int (jI mth), .int (jI mn), .ref a0, .int (jI mp), .int (jI mw), .ref a1, .ref a2, .ref a3, .ref a4, .ref a5, .ref a6, .ref a7, .ref a8, .ref a9, .ref a10, .long (jL mu), .long (jL md), .int (jI mo), .ref a11])), (a1, .inl (cZ, 62, .inl (jA y1))), (a2, .inl (cA, 62, .inl (jA y2))), (a3, .inl (cZ, 496, .inl (jA y3))), (a5, .inl (cA, 496, .inl (jA y5)))] sz)) (va_Qi (fun (r : Int32) (u : Int) => r = jI u ∧ (0 ≤ u ∧ u ≤ 100000)) (fun u t => jE (dC, dI) [(cA, .int), (cZ, .boolean)] [(ma, .inr (5, [.int (jI mth), .int (jI mn), .ref a0, .int (jI mp), .int (jI mw), .ref a1, .ref a2, .ref a3, .ref a4, .ref a5, .ref a6, .ref a7, .ref a8, .ref a9, .ref a10, .long (jL mu), .long (jL md), .int (jI mo), .ref a11])), (a1, .inl (cZ, 62, .inl (jA y1))), (a2, .inl (cA, 62, .inl (jA y2))), (a3, .inl (cZ, 496, .inl (jA y3))), (a5, .inl (cA, 496, .inl (jA y5)))] sz [(ma, .inr (5, [.int (jI mth), .int (jI mn), .ref a0, .int (jI mp), .int (jI mw), .ref a1, .ref a2, .ref a3, .ref a4, .ref a5, .ref a6, .ref a7, .ref a8, .ref a9, .ref a10, .long (jL mu), .long (jL md), .int (jI mo), .ref a11])), (a1, .inl (cZ, 62, .inl (jA y1))), (a2, .inl (cA, 62, .inl (jA y2))), (a3, .inl (cZ, 496, .inl (jA y3))), (a5, .inl (cA, 496, .inl (jA y5)))] t) (va_A [(ma, .inr (5, [.int (jI mth), .int (jI mn), .ref a0, .int (jI mp), .int (jI mw), .ref a1, .ref a2, .ref a3, .ref a4, .ref a5, .ref a6, .ref a7, .ref a8, .ref a9, .ref a10, .long (jL mu), .long (jL md), .int (jI mo), .ref a11])), (a1, .inl (cZ, 62, .inl (jA y1))), (a2, .inl (cA, 62, .inl (jA y2))), (a3, .inl (cZ, 496, .inl (jA y3))), (a5, .inl (cA, 496, .inl (jA y5)))] sz)) 0 0 (va_A [(ma, .inr (5, [.int (jI mth), .int (jI mn), .ref a0, .int (jI mp), .int (jI mw), .ref a1, .ref a2, .ref a3, .ref a4, .ref a5, .ref a6, .ref a7, .ref a8, .ref a9, .ref a10, .long (jL mu), .long (jL md), .int (jI mo), .ref a11])), (a1, .inl (cZ, 62, .inl (jA y1))), (a2, .inl (cA, 62, .inl (jA y2))), (a3, .inl (cZ, 496, .inl (jA y3))), (a5, .inl (cA, 496, .inl (jA y5)))] sz) := by
  refine jMet (cc := cXM_highOf) (maxL := 4) (ret := some .int) (by decide) rfl ?_
  intro p e s m args below meth c s₁ R Q hR hQ B hml hv
  obtain ⟨rfl, hsz, hP, hK, hD0, hN⟩ := hv
  have hx := B.exec
  have hb := B.bytes
  have hr := B.returns
  have hts := atoms_spec (ws := Cond.code yXM_highOf cXM_highOf 4 (some .int) :: TBL) B.pre
  have hown : s.vm.findClass RXM = some m.cls := findClass_of_methodNamed B.named
  have hlocks := B.notSynchronized
  subst hsz
  obtain ⟨A, hAe⟩ : ∃ A, A = va_A [(ma, .inr (5, [.int (jI mth), .int (jI mn), .ref a0, .int (jI mp), .int (jI mw), .ref a1, .ref a2, .ref a3, .ref a4, .ref a5, .ref a6, .ref a7, .ref a8, .ref a9, .ref a10, .long (jL mu), .long (jL md), .int (jI mo), .ref a11])), (a1, .inl (cZ, 62, .inl (jA y1))), (a2, .inl (cA, 62, .inl (jA y2))), (a3, .inl (cZ, 496, .inl (jA y3))), (a5, .inl (cA, 496, .inl (jA y5)))] s.heap.size := ⟨_, rfl⟩
  have hD : va_D A [(ma, .inr (5, [.int (jI mth), .int (jI mn), .ref a0, .int (jI mp), .int (jI mw), .ref a1, .ref a2, .ref a3, .ref a4, .ref a5, .ref a6, .ref a7, .ref a8, .ref a9, .ref a10, .long (jL mu), .long (jL md), .int (jI mo), .ref a11])), (a1, .inl (cZ, 62, .inl (jA y1))), (a2, .inl (cA, 62, .inl (jA y2))), (a3, .inl (cZ, 496, .inl (jA y3))), (a5, .inl (cA, 496, .inl (jA y5)))] := by rw [hAe]; exact hD0.self
  have hA : ∀ q : Nat, s.heap.size ≤ q → A q := fun q h => by rw [hAe]; exact Or.inr h
  have hS : va_S A s.heap s.heap [] := va_S.rf
  have hP : va_P (dC, dI) vwCl [(ma, .inr (5, [.int (jI mth), .int (jI mn), .ref a0, .int (jI mp), .int (jI mw), .ref a1, .ref a2, .ref a3, .ref a4, .ref a5, .ref a6, .ref a7, .ref a8, .ref a9, .ref a10, .long (jL mu), .long (jL md), .int (jI mo), .ref a11])), (a1, .inl (cZ, 62, .inl (jA y1))), (a2, .inl (cA, 62, .inl (jA y2))), (a3, .inl (cZ, 496, .inl (jA y3))), (a5, .inl (cA, 496, .inl (jA y5)))] s.heap := hP
  have hl := lv_entry ([.ref ma, .int (jI z1), .int (jI z2)]) (n := 4) (Nat.le_of_ble_eq_true rfl)
  rw [lg_entry_eq]
  generalize (lg_sl ([.ref ma, .int (jI z1), .int (jI z2)]) ++ List.replicate (4 - (lg_sl ([.ref ma, .int (jI z1), .int (jI z2)])).length) Slot.unset).toArray = ls at hl ⊢
  have hl : lv_has ls 4 [(0, .ref ma), (1, .int (jI z1)), (2, .int (jI z2))] := hl
  refine lv_iload_n hx hb dXM_highOf_0 rfl (lv_at hl 1 rfl) ?_
  refine lv_istore_n (lv' := [(3, .int (jI z1)), (0, .ref ma), (1, .int (jI z1)), (2, .int (jI z2))]) hx hb dXM_highOf_1 rfl hl (by decide) rfl (fun ls hl => ?_)
  have loop2 : ∀ (n9 : Nat) (k : Int) , jdp (fun x => f_XM_from mth mn mp mw mu md mo y1 y2 x) 41 k < (n9 : Int) → (0 ≤ k ∧ k ≤ 30) → ∀ (H : Heap) (locs : List Loc), va_P (dC, dI) vwCl [(ma, .inr (5, [.int (jI mth), .int (jI mn), .ref a0, .int (jI mp), .int (jI mw), .ref a1, .ref a2, .ref a3, .ref a4, .ref a5, .ref a6, .ref a7, .ref a8, .ref a9, .ref a10, .long (jL mu), .long (jL md), .int (jI mo), .ref a11])), (a1, .inl (cZ, 62, .inl (jA y1))), (a2, .inl (cA, 62, .inl (jA y2))), (a3, .inl (cZ, 496, .inl (jA y3))), (a5, .inl (cA, 496, .inl (jA y5)))] H → va_D A [(ma, .inr (5, [.int (jI mth), .int (jI mn), .ref a0, .int (jI mp), .int (jI mw), .ref a1, .ref a2, .ref a3, .ref a4, .ref a5, .ref a6, .ref a7, .ref a8, .ref a9, .ref a10, .long (jL mu), .long (jL md), .int (jI mo), .ref a11])), (a1, .inl (cZ, 62, .inl (jA y1))), (a2, .inl (cA, 62, .inl (jA y2))), (a3, .inl (cZ, 496, .inl (jA y3))), (a5, .inl (cA, 496, .inl (jA y5)))] → va_S A s.heap H locs → ∀ ls : Array Slot, lv_has ls 4 [(3, .int (jI k)), (0, .ref ma), (1, .int (jI z1)), (2, .int (jI z2))] → W p l e R s m ([.ref ma, .int (jI z1), .int (jI z2)] : List Value).toArray below meth c H locs 0 0 Q (F0 m 2 ls []) := by
    intro n9
    induction n9 with
    | zero =>
      intro k hm hk
      exact absurd hm (by have h8 := jdp_nn (fun x => f_XM_from mth mn mp mw mu md mo y1 y2 x) 41 k; omega)
    | succ n9 ih2 =>
      intro k hm hk H locs hP hD hS ls hl
      refine lv_iload_n hx hb dXM_highOf_2 rfl (lv_at hl 0 rfl) ?_
      refine ji_if_le (tgt := 41) hx hb dXM_highOf_3 (by decide) (by first | omega | decide) (fun c3_ => ?_) (fun c3_ => ?_)
      · refine lv_ldc hx hb hown (hts _ (jmem tw_754)) dXM_highOf_41 ?_
        refine ji_re (y := 100000) (by decide) ?_
        have hP9 := hP.sub (ws' := [(ma, .inr (5, [.int (jI mth), .int (jI mn), .ref a0, .int (jI mp), .int (jI mw), .ref a1, .ref a2, .ref a3, .ref a4, .ref a5, .ref a6, .ref a7, .ref a8, .ref a9, .ref a10, .long (jL mu), .long (jL md), .int (jI mo), .ref a11])), (a1, .inl (cZ, 62, .inl (jA y1))), (a2, .inl (cA, 62, .inl (jA y2))), (a3, .inl (cZ, 496, .inl (jA y3))), (a5, .inl (cA, 496, .inl (jA y5)))]) [0, 1, 2, 3, 4] rfl
        have hD9 := hD.sub (ws' := [(ma, .inr (5, [.int (jI mth), .int (jI mn), .ref a0, .int (jI mp), .int (jI mw), .ref a1, .ref a2, .ref a3, .ref a4, .ref a5, .ref a6, .ref a7, .ref a8, .ref a9, .ref a10, .long (jL mu), .long (jL md), .int (jI mo), .ref a11])), (a1, .inl (cZ, 62, .inl (jA y1))), (a2, .inl (cA, 62, .inl (jA y2))), (a3, .inl (cZ, 496, .inl (jA y3))), (a5, .inl (cA, 496, .inl (jA y5)))]) [0, 1, 2, 3, 4] (by decide) rfl
        subst hAe
        subst hQ
        exact W.iret (v := jI 100000) hx hb hr (fun t ht hW => ⟨⟨_, 100000, rfl, ⟨rfl, (show 0 ≤ (100000 : Int) ∧ (100000 : Int) ≤ 100000 from by first | assumption | omega | exact jset_b (by assumption) (by omega))⟩, ⟨by rw [ht]; exact hP9, va_K.moved hW.alike hK, hD9⟩⟩, hS.F ht⟩) hS.2.2 dXM_highOf_43
      · refine lv_aload_n hx hb dXM_highOf_6 rfl (lv_at hl 1 rfl) ?_
        refine va_get (D := (dC, dI)) (ci := 5) (v := .ref a3) (C := RXM) (T := TXM) (N := 19) hx hb hts (fun w h => jmem (inXM w h)) hown hK hP 0 rfl rfl 7 (by decide) (hts _ (jmem tw_635)) (fun _ h9 => h9) rfl dXM_highOf_7 ?_
        refine ji_bipush hx hb dXM_highOf_10 (by decide) ?_
        refine lv_iload_n hx hb dXM_highOf_12 rfl (lv_at hl 0 rfl) ?_
        refine ji_imul hx hb dXM_highOf_13 ?_
        refine lv_iload_n hx hb dXM_highOf_14 rfl (lv_at hl 3 rfl) ?_
        refine ji_iadd hx hb dXM_highOf_15 ?_
        refine ji_zald hx hb hK hP 3 1 rfl rfl ⟨by omega, by omega⟩ (by decide) dXM_highOf_16 ?_
        have rb := hy3 ((8 * k) + z2)
        refine ji_if_eq (tgt := 32) hx hb dXM_highOf_17 (by decide) (by first | omega | decide) (fun c17_ => ?_) (fun c17_ => ?_)
        · refine lv_aload_n hx hb dXM_highOf_32 rfl (lv_at hl 1 rfl) ?_
          refine lv_iload_n hx hb dXM_highOf_33 rfl (lv_at hl 0 rfl) ?_
          refine jrVi (rest := []) ⟨hx, hb, hml, hown, hts⟩ (c_XM_from l dC dI cA cZ ma a0 a1 a2 a3 a4 a5 a6 a7 a8 a9 a10 a11 mth mn mp mw mu md mo y1 y2 k (by first | assumption | omega) (by first | assumption | omega) (by first | assumption | omega)) (cwV 1 hts (jG_V tw_779 tw_781 ts_31 tw_6 tw_782) rfl rfl rfl (by decide +kernel) (by rw [hR]; exact ⟨Nat.le_of_ble_eq_true rfl, Nat.le_of_ble_eq_true rfl⟩)) hK hP hN [0, 1, 2] rfl 0 5 rfl rfl rfl rfl hl.1 rfl (Nat.le_of_ble_eq_true rfl) dXM_highOf_34 (by rw [hR]; exact ⟨Nat.le_of_ble_eq_true rfl, Nat.le_of_ble_eq_true rfl⟩) ?_
          have f := f_XM_from_b mth mn mp mw mu md mo y1 y2 k (by first | assumption | omega) (by first | assumption | omega) (by first | assumption | omega)
          refine lv_istore_n (lv' := [(3, .int (jI (f_XM_from mth mn mp mw mu md mo y1 y2 k))), (0, .ref ma), (1, .int (jI z1)), (2, .int (jI z2))]) hx hb dXM_highOf_37 rfl hl (by decide) rfl (fun ls hl => ?_)
          refine lv_goto (tgt := 2) hx hb dXM_highOf_38 (by decide) ?_
          exact ih2 (f_XM_from mth mn mp mw mu md mo y1 y2 k) (by have h8 := from_dec mth mn mp mw mu md mo y1 y2 hy1 hy2 k (by omega); omega) (by first | assumption | omega | exact jset_b (by assumption) (by omega)) _ _ hP hD hS ls (lv_sub hl [0, 1, 2, 3] rfl)
        · refine lv_aload_n hx hb dXM_highOf_20 rfl (lv_at hl 1 rfl) ?_
          refine va_get (D := (dC, dI)) (ci := 5) (v := .ref a5) (C := RXM) (T := TXM) (N := 19) hx hb hts (fun w h => jmem (inXM w h)) hown hK hP 0 rfl rfl 9 (by decide) (hts _ (jmem tw_637)) (fun _ h9 => h9) rfl dXM_highOf_21 ?_
          refine ji_bipush hx hb dXM_highOf_24 (by decide) ?_
          refine lv_iload_n hx hb dXM_highOf_26 rfl (lv_at hl 0 rfl) ?_
          refine ji_imul hx hb dXM_highOf_27 ?_
          refine lv_iload_n hx hb dXM_highOf_28 rfl (lv_at hl 3 rfl) ?_
          refine ji_iadd hx hb dXM_highOf_29 ?_
          refine ji_iald hx hb hK hP 4 0 rfl rfl ⟨by omega, by omega⟩ (by decide) dXM_highOf_30 ?_
          have rb1 := hy5 ((8 * k) + z2)
          have hP9 := hP.sub (ws' := [(ma, .inr (5, [.int (jI mth), .int (jI mn), .ref a0, .int (jI mp), .int (jI mw), .ref a1, .ref a2, .ref a3, .ref a4, .ref a5, .ref a6, .ref a7, .ref a8, .ref a9, .ref a10, .long (jL mu), .long (jL md), .int (jI mo), .ref a11])), (a1, .inl (cZ, 62, .inl (jA y1))), (a2, .inl (cA, 62, .inl (jA y2))), (a3, .inl (cZ, 496, .inl (jA y3))), (a5, .inl (cA, 496, .inl (jA y5)))]) [0, 1, 2, 3, 4] rfl
          have hD9 := hD.sub (ws' := [(ma, .inr (5, [.int (jI mth), .int (jI mn), .ref a0, .int (jI mp), .int (jI mw), .ref a1, .ref a2, .ref a3, .ref a4, .ref a5, .ref a6, .ref a7, .ref a8, .ref a9, .ref a10, .long (jL mu), .long (jL md), .int (jI mo), .ref a11])), (a1, .inl (cZ, 62, .inl (jA y1))), (a2, .inl (cA, 62, .inl (jA y2))), (a3, .inl (cZ, 496, .inl (jA y3))), (a5, .inl (cA, 496, .inl (jA y5)))]) [0, 1, 2, 3, 4] (by decide) rfl
          subst hAe
          subst hQ
          exact W.iret (v := jI (y5 ((8 * k) + z2))) hx hb hr (fun t ht hW => ⟨⟨_, (y5 ((8 * k) + z2)), rfl, ⟨rfl, (show 0 ≤ (y5 ((8 * k) + z2)) ∧ (y5 ((8 * k) + z2)) ≤ 100000 from by first | assumption | omega | exact jset_b (by assumption) (by omega))⟩, ⟨by rw [ht]; exact hP9, va_K.moved hW.alike hK, hD9⟩⟩, hS.F ht⟩) hS.2.2 dXM_highOf_31
  exact loop2 (Int.toNat (jdp (fun x => f_XM_from mth mn mp mw mu md mo y1 y2 x) 41 z1) + 1) z1 (by omega) (by first | assumption | omega | exact jset_b (by assumption) (by omega)) _ _ hP hD hS ls (lv_sub hl [0, 1, 2, 3] rfl)
set_option maxHeartbeats 4000000 in
set_option maxRecDepth 100000 in
theorem c_XM_limitOf (l : Launch) (dC : Nat → ClassId) (dI : Nat → Nat → Nat) (cA cZ : ClassId) (sz : Nat) (ma : Nat) (a0 : Nat) (a1 : Nat) (a2 : Nat) (a3 : Nat) (a4 : Nat) (a5 : Nat) (a6 : Nat) (a7 : Nat) (a8 : Nat) (a9 : Nat) (a10 : Nat) (a11 : Nat) (mth : Int) (mn : Int) (mp : Int) (mw : Int) (mu : Int) (md : Int) (mo : Int) (y1 : Int → Int) (y2 : Int → Int) (y7 : Int → Int) (z1 : Int) (z2 : Int) (hy1 : ∀ i, 0 ≤ y1 i ∧ y1 i ≤ 1) (hy2 : ∀ i, 0 ≤ y2 i ∧ y2 i ≤ 30) (hy7 : ∀ i, -1 ≤ y7 i ∧ y7 i ≤ 999999) (hz1 : 1 ≤ z1 ∧ z1 ≤ 30) (hz2 : 0 ≤ z2 ∧ z2 ≤ 3) : Met l yXM_limitOf (Cond.code yXM_limitOf cXM_limitOf 4 (some .int) :: TBL) ({ frames := 4, cells := 0, slots := 0, locals := 87 } : Room) (va_Pc [.ref ma, .int (jI z1), .int (jI z2)] (jBw (dC, dI) [(cA, .int), (cZ, .boolean)] [(ma, .inr (5, [.int (jI mth), .int (jI mn), .ref a0, .int (jI mp), .int (jI mw), .ref a1, .ref a2, .ref a3, .ref a4, .ref a5, .ref a6, .ref a7, .ref a8, .ref a9, .ref a10, .long (jL mu), .long (jL md), .int (jI mo), .ref a11])), (a1, .inl (cZ, 62, .inl (jA y1))), (a2, .inl (cA, 62, .inl (jA y2))), (a7, .inl (cA, 248, .inl (jA y7)))] sz)) (va_Qi (fun (r : Int32) (u : Int) => r = jI u ∧ (-1 ≤ u ∧ u ≤ 999999)) (fun u t => jE (dC, dI) [(cA, .int), (cZ, .boolean)] [(ma, .inr (5, [.int (jI mth), .int (jI mn), .ref a0, .int (jI mp), .int (jI mw), .ref a1, .ref a2, .ref a3, .ref a4, .ref a5, .ref a6, .ref a7, .ref a8, .ref a9, .ref a10, .long (jL mu), .long (jL md), .int (jI mo), .ref a11])), (a1, .inl (cZ, 62, .inl (jA y1))), (a2, .inl (cA, 62, .inl (jA y2))), (a7, .inl (cA, 248, .inl (jA y7)))] sz [(ma, .inr (5, [.int (jI mth), .int (jI mn), .ref a0, .int (jI mp), .int (jI mw), .ref a1, .ref a2, .ref a3, .ref a4, .ref a5, .ref a6, .ref a7, .ref a8, .ref a9, .ref a10, .long (jL mu), .long (jL md), .int (jI mo), .ref a11])), (a1, .inl (cZ, 62, .inl (jA y1))), (a2, .inl (cA, 62, .inl (jA y2))), (a7, .inl (cA, 248, .inl (jA y7)))] t) (va_A [(ma, .inr (5, [.int (jI mth), .int (jI mn), .ref a0, .int (jI mp), .int (jI mw), .ref a1, .ref a2, .ref a3, .ref a4, .ref a5, .ref a6, .ref a7, .ref a8, .ref a9, .ref a10, .long (jL mu), .long (jL md), .int (jI mo), .ref a11])), (a1, .inl (cZ, 62, .inl (jA y1))), (a2, .inl (cA, 62, .inl (jA y2))), (a7, .inl (cA, 248, .inl (jA y7)))] sz)) 0 0 (va_A [(ma, .inr (5, [.int (jI mth), .int (jI mn), .ref a0, .int (jI mp), .int (jI mw), .ref a1, .ref a2, .ref a3, .ref a4, .ref a5, .ref a6, .ref a7, .ref a8, .ref a9, .ref a10, .long (jL mu), .long (jL md), .int (jI mo), .ref a11])), (a1, .inl (cZ, 62, .inl (jA y1))), (a2, .inl (cA, 62, .inl (jA y2))), (a7, .inl (cA, 248, .inl (jA y7)))] sz) := by
  refine jMet (cc := cXM_limitOf) (maxL := 4) (ret := some .int) (by decide) rfl ?_
  intro p e s m args below meth c s₁ R Q hR hQ B hml hv
  obtain ⟨rfl, hsz, hP, hK, hD0, hN⟩ := hv
  have hx := B.exec
  have hb := B.bytes
  have hr := B.returns
  have hts := atoms_spec (ws := Cond.code yXM_limitOf cXM_limitOf 4 (some .int) :: TBL) B.pre
  have hown : s.vm.findClass RXM = some m.cls := findClass_of_methodNamed B.named
  have hlocks := B.notSynchronized
  subst hsz
  obtain ⟨A, hAe⟩ : ∃ A, A = va_A [(ma, .inr (5, [.int (jI mth), .int (jI mn), .ref a0, .int (jI mp), .int (jI mw), .ref a1, .ref a2, .ref a3, .ref a4, .ref a5, .ref a6, .ref a7, .ref a8, .ref a9, .ref a10, .long (jL mu), .long (jL md), .int (jI mo), .ref a11])), (a1, .inl (cZ, 62, .inl (jA y1))), (a2, .inl (cA, 62, .inl (jA y2))), (a7, .inl (cA, 248, .inl (jA y7)))] s.heap.size := ⟨_, rfl⟩
  have hD : va_D A [(ma, .inr (5, [.int (jI mth), .int (jI mn), .ref a0, .int (jI mp), .int (jI mw), .ref a1, .ref a2, .ref a3, .ref a4, .ref a5, .ref a6, .ref a7, .ref a8, .ref a9, .ref a10, .long (jL mu), .long (jL md), .int (jI mo), .ref a11])), (a1, .inl (cZ, 62, .inl (jA y1))), (a2, .inl (cA, 62, .inl (jA y2))), (a7, .inl (cA, 248, .inl (jA y7)))] := by rw [hAe]; exact hD0.self
  have hA : ∀ q : Nat, s.heap.size ≤ q → A q := fun q h => by rw [hAe]; exact Or.inr h
  have hS : va_S A s.heap s.heap [] := va_S.rf
  have hP : va_P (dC, dI) vwCl [(ma, .inr (5, [.int (jI mth), .int (jI mn), .ref a0, .int (jI mp), .int (jI mw), .ref a1, .ref a2, .ref a3, .ref a4, .ref a5, .ref a6, .ref a7, .ref a8, .ref a9, .ref a10, .long (jL mu), .long (jL md), .int (jI mo), .ref a11])), (a1, .inl (cZ, 62, .inl (jA y1))), (a2, .inl (cA, 62, .inl (jA y2))), (a7, .inl (cA, 248, .inl (jA y7)))] s.heap := hP
  have hl := lv_entry ([.ref ma, .int (jI z1), .int (jI z2)]) (n := 4) (Nat.le_of_ble_eq_true rfl)
  rw [lg_entry_eq]
  generalize (lg_sl ([.ref ma, .int (jI z1), .int (jI z2)]) ++ List.replicate (4 - (lg_sl ([.ref ma, .int (jI z1), .int (jI z2)])).length) Slot.unset).toArray = ls at hl ⊢
  have hl : lv_has ls 4 [(0, .ref ma), (1, .int (jI z1)), (2, .int (jI z2))] := hl
  refine lv_iload_n hx hb dXM_limitOf_0 rfl (lv_at hl 1 rfl) ?_
  refine lv_istore_n (lv' := [(3, .int (jI z1)), (0, .ref ma), (1, .int (jI z1)), (2, .int (jI z2))]) hx hb dXM_limitOf_1 rfl hl (by decide) rfl (fun ls hl => ?_)
  have loop2 : ∀ (n9 : Nat) (k : Int) , jdp (fun x => f_XM_from mth mn mp mw mu md mo y1 y2 x) 41 k < (n9 : Int) → (0 ≤ k ∧ k ≤ 30) → ∀ (H : Heap) (locs : List Loc), va_P (dC, dI) vwCl [(ma, .inr (5, [.int (jI mth), .int (jI mn), .ref a0, .int (jI mp), .int (jI mw), .ref a1, .ref a2, .ref a3, .ref a4, .ref a5, .ref a6, .ref a7, .ref a8, .ref a9, .ref a10, .long (jL mu), .long (jL md), .int (jI mo), .ref a11])), (a1, .inl (cZ, 62, .inl (jA y1))), (a2, .inl (cA, 62, .inl (jA y2))), (a7, .inl (cA, 248, .inl (jA y7)))] H → va_D A [(ma, .inr (5, [.int (jI mth), .int (jI mn), .ref a0, .int (jI mp), .int (jI mw), .ref a1, .ref a2, .ref a3, .ref a4, .ref a5, .ref a6, .ref a7, .ref a8, .ref a9, .ref a10, .long (jL mu), .long (jL md), .int (jI mo), .ref a11])), (a1, .inl (cZ, 62, .inl (jA y1))), (a2, .inl (cA, 62, .inl (jA y2))), (a7, .inl (cA, 248, .inl (jA y7)))] → va_S A s.heap H locs → ∀ ls : Array Slot, lv_has ls 4 [(3, .int (jI k)), (0, .ref ma), (1, .int (jI z1)), (2, .int (jI z2))] → W p l e R s m ([.ref ma, .int (jI z1), .int (jI z2)] : List Value).toArray below meth c H locs 0 0 Q (F0 m 2 ls []) := by
    intro n9
    induction n9 with
    | zero =>
      intro k hm hk
      exact absurd hm (by have h8 := jdp_nn (fun x => f_XM_from mth mn mp mw mu md mo y1 y2 x) 41 k; omega)
    | succ n9 ih2 =>
      intro k hm hk H locs hP hD hS ls hl
      refine lv_iload_n hx hb dXM_limitOf_2 rfl (lv_at hl 0 rfl) ?_
      refine ji_if_le (tgt := 39) hx hb dXM_limitOf_3 (by decide) (by first | omega | decide) (fun c3_ => ?_) (fun c3_ => ?_)
      · refine ji_iconst hx hb dXM_limitOf_39 ?_
        have hP9 := hP.sub (ws' := [(ma, .inr (5, [.int (jI mth), .int (jI mn), .ref a0, .int (jI mp), .int (jI mw), .ref a1, .ref a2, .ref a3, .ref a4, .ref a5, .ref a6, .ref a7, .ref a8, .ref a9, .ref a10, .long (jL mu), .long (jL md), .int (jI mo), .ref a11])), (a1, .inl (cZ, 62, .inl (jA y1))), (a2, .inl (cA, 62, .inl (jA y2))), (a7, .inl (cA, 248, .inl (jA y7)))]) [0, 1, 2, 3] rfl
        have hD9 := hD.sub (ws' := [(ma, .inr (5, [.int (jI mth), .int (jI mn), .ref a0, .int (jI mp), .int (jI mw), .ref a1, .ref a2, .ref a3, .ref a4, .ref a5, .ref a6, .ref a7, .ref a8, .ref a9, .ref a10, .long (jL mu), .long (jL md), .int (jI mo), .ref a11])), (a1, .inl (cZ, 62, .inl (jA y1))), (a2, .inl (cA, 62, .inl (jA y2))), (a7, .inl (cA, 248, .inl (jA y7)))]) [0, 1, 2, 3] (by decide) rfl
        subst hAe
        subst hQ
        exact W.iret (v := jI (-1)) hx hb hr (fun t ht hW => ⟨⟨_, (-1), rfl, ⟨rfl, (show -1 ≤ (-1 : Int) ∧ (-1 : Int) ≤ 999999 from by first | assumption | omega | exact jset_b (by assumption) (by omega))⟩, ⟨by rw [ht]; exact hP9, va_K.moved hW.alike hK, hD9⟩⟩, hS.F ht⟩) hS.2.2 dXM_limitOf_40
      · refine lv_aload_n hx hb dXM_limitOf_6 rfl (lv_at hl 1 rfl) ?_
        refine va_get (D := (dC, dI)) (ci := 5) (v := .ref a7) (C := RXM) (T := TXM) (N := 19) hx hb hts (fun w h => jmem (inXM w h)) hown hK hP 0 rfl rfl 11 (by decide) (hts _ (jmem tw_639)) (fun _ h9 => h9) rfl dXM_limitOf_7 ?_
        refine ji_iconst hx hb dXM_limitOf_10 ?_
        refine lv_iload_n hx hb dXM_limitOf_11 rfl (lv_at hl 0 rfl) ?_
        refine ji_imul hx hb dXM_limitOf_12 ?_
        refine lv_iload_n hx hb dXM_limitOf_13 rfl (lv_at hl 3 rfl) ?_
        refine ji_iadd hx hb dXM_limitOf_14 ?_
        refine ji_iald hx hb hK hP 3 0 rfl rfl ⟨by omega, by omega⟩ (by decide) dXM_limitOf_15 ?_
        have rb := hy7 ((4 * k) + z2)
        refine ji_if_lt (tgt := 30) hx hb dXM_limitOf_16 (by decide) (by first | omega | decide) (fun c16_ => ?_) (fun c16_ => ?_)
        · refine lv_aload_n hx hb dXM_limitOf_30 rfl (lv_at hl 1 rfl) ?_
          refine lv_iload_n hx hb dXM_limitOf_31 rfl (lv_at hl 0 rfl) ?_
          refine jrVi (rest := []) ⟨hx, hb, hml, hown, hts⟩ (c_XM_from l dC dI cA cZ ma a0 a1 a2 a3 a4 a5 a6 a7 a8 a9 a10 a11 mth mn mp mw mu md mo y1 y2 k (by first | assumption | omega) (by first | assumption | omega) (by first | assumption | omega)) (cwV 1 hts (jG_V tw_779 tw_781 ts_31 tw_6 tw_782) rfl rfl rfl (by decide +kernel) (by rw [hR]; exact ⟨Nat.le_of_ble_eq_true rfl, Nat.le_of_ble_eq_true rfl⟩)) hK hP hN [0, 1, 2] rfl 0 5 rfl rfl rfl rfl hl.1 rfl (Nat.le_of_ble_eq_true rfl) dXM_limitOf_32 (by rw [hR]; exact ⟨Nat.le_of_ble_eq_true rfl, Nat.le_of_ble_eq_true rfl⟩) ?_
          have f := f_XM_from_b mth mn mp mw mu md mo y1 y2 k (by first | assumption | omega) (by first | assumption | omega) (by first | assumption | omega)
          refine lv_istore_n (lv' := [(3, .int (jI (f_XM_from mth mn mp mw mu md mo y1 y2 k))), (0, .ref ma), (1, .int (jI z1)), (2, .int (jI z2))]) hx hb dXM_limitOf_35 rfl hl (by decide) rfl (fun ls hl => ?_)
          refine lv_goto (tgt := 2) hx hb dXM_limitOf_36 (by decide) ?_
          exact ih2 (f_XM_from mth mn mp mw mu md mo y1 y2 k) (by have h8 := from_dec mth mn mp mw mu md mo y1 y2 hy1 hy2 k (by omega); omega) (by first | assumption | omega | exact jset_b (by assumption) (by omega)) _ _ hP hD hS ls (lv_sub hl [0, 1, 2, 3] rfl)
        · refine lv_aload_n hx hb dXM_limitOf_19 rfl (lv_at hl 1 rfl) ?_
          refine va_get (D := (dC, dI)) (ci := 5) (v := .ref a7) (C := RXM) (T := TXM) (N := 19) hx hb hts (fun w h => jmem (inXM w h)) hown hK hP 0 rfl rfl 11 (by decide) (hts _ (jmem tw_639)) (fun _ h9 => h9) rfl dXM_limitOf_20 ?_
          refine ji_iconst hx hb dXM_limitOf_23 ?_
          refine lv_iload_n hx hb dXM_limitOf_24 rfl (lv_at hl 0 rfl) ?_
          refine ji_imul hx hb dXM_limitOf_25 ?_
          refine lv_iload_n hx hb dXM_limitOf_26 rfl (lv_at hl 3 rfl) ?_
          refine ji_iadd hx hb dXM_limitOf_27 ?_
          refine ji_iald hx hb hK hP 3 0 rfl rfl ⟨by omega, by omega⟩ (by decide) dXM_limitOf_28 ?_
          have rb1 := hy7 ((4 * k) + z2)
          have hP9 := hP.sub (ws' := [(ma, .inr (5, [.int (jI mth), .int (jI mn), .ref a0, .int (jI mp), .int (jI mw), .ref a1, .ref a2, .ref a3, .ref a4, .ref a5, .ref a6, .ref a7, .ref a8, .ref a9, .ref a10, .long (jL mu), .long (jL md), .int (jI mo), .ref a11])), (a1, .inl (cZ, 62, .inl (jA y1))), (a2, .inl (cA, 62, .inl (jA y2))), (a7, .inl (cA, 248, .inl (jA y7)))]) [0, 1, 2, 3] rfl
          have hD9 := hD.sub (ws' := [(ma, .inr (5, [.int (jI mth), .int (jI mn), .ref a0, .int (jI mp), .int (jI mw), .ref a1, .ref a2, .ref a3, .ref a4, .ref a5, .ref a6, .ref a7, .ref a8, .ref a9, .ref a10, .long (jL mu), .long (jL md), .int (jI mo), .ref a11])), (a1, .inl (cZ, 62, .inl (jA y1))), (a2, .inl (cA, 62, .inl (jA y2))), (a7, .inl (cA, 248, .inl (jA y7)))]) [0, 1, 2, 3] (by decide) rfl
          subst hAe
          subst hQ
          exact W.iret (v := jI (y7 ((4 * k) + z2))) hx hb hr (fun t ht hW => ⟨⟨_, (y7 ((4 * k) + z2)), rfl, ⟨rfl, (show -1 ≤ (y7 ((4 * k) + z2)) ∧ (y7 ((4 * k) + z2)) ≤ 999999 from by first | assumption | omega | exact jset_b (by assumption) (by omega))⟩, ⟨by rw [ht]; exact hP9, va_K.moved hW.alike hK, hD9⟩⟩, hS.F ht⟩) hS.2.2 dXM_limitOf_29
  exact loop2 (Int.toNat (jdp (fun x => f_XM_from mth mn mp mw mu md mo y1 y2 x) 41 z1) + 1) z1 (by omega) (by first | assumption | omega | exact jset_b (by assumption) (by omega)) _ _ hP hD hS ls (lv_sub hl [0, 1, 2, 3] rfl)
