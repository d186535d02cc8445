theorem jand255 (x : Int32) : 0 ≤ (x &&& jI 255).toInt ∧ (x &&& jI 255).toInt ≤ 255 := by
  have h : (x &&& jI 255).toInt = ((x.toBitVec &&& 255#32).toNat : Int) := by
    have h1 : (x &&& jI 255).toBitVec = x.toBitVec &&& 255#32 := rfl
    have h2 : (x.toBitVec &&& 255#32).toNat < 256 := by
      rw [BitVec.toNat_and]
      exact Nat.lt_of_le_of_lt Nat.and_le_right (by decide)
    show (x &&& jI 255).toBitVec.toInt = _
    rw [h1, BitVec.toInt_eq_toNat_of_lt (by omega)]
  have h2 : (x.toBitVec &&& 255#32).toNat ≤ 255 := by
    rw [BitVec.toNat_and]
    exact Nat.and_le_right
  omega
set_option maxHeartbeats 4000000 in
set_option maxRecDepth 100000 in
theorem c_XM_share (l : Launch) (dC : Nat → ClassId) (dI : Nat → Nat → Nat) (cA cZ : ClassId) (sz : Nat) (ma : Nat) (a0 : Nat) (a1 : Nat) (a2 : Nat) (a3 : Nat) (a4 : Nat) (a5 : Nat) (a6 : Nat) (a7 : Nat) (a8 : Nat) (a9 : Nat) (a10 : Nat) (a11 : Nat) (mth : Int) (mn : Int) (mp : Int) (mw : Int) (mu : Int) (md : Int) (mo : Int) (y10 : Int → Int) (z1 : Int) (z2 : Int) (hy10 : ∀ i, 0 ≤ y10 i ∧ y10 i ≤ 100000) (hi1 : i32 z1) (hi2 : i32 z2) : Met l yXM_share (Cond.code yXM_share cXM_share 3 none :: TBL) ({ frames := 2, cells := 0, slots := 0, locals := 42 } : Room) (va_Pc [.ref ma, .int (jI z1), .int (jI z2)] (jBw (dC, dI) [(cA, .int), (cZ, .boolean)] [(ma, .inr (5, [.int (jI mth), .int (jI mn), .ref a0, .int (jI mp), .int (jI mw), .ref a1, .ref a2, .ref a3, .ref a4, .ref a5, .ref a6, .ref a7, .ref a8, .ref a9, .ref a10, .long (jL mu), .long (jL md), .int (jI mo), .ref a11])), (a10, .inl (cA, 8, .inl (jA y10)))] sz)) (va_Qv (fun (u : Int × (Int → Int)) => ((u.1 = 1 ∧ (z1 < 0 ∨ 7 < z1)) ∨ (u.1 = 2 ∧ 0 ≤ z1 ∧ z1 ≤ 7 ∧ (z2 < 0 ∨ 100000 < z2)) ∨ (u.1 = 0 ∧ 0 ≤ z1 ∧ z1 ≤ 7 ∧ 0 ≤ z2 ∧ z2 ≤ 100000)) ∧ (∀ i, 0 ≤ u.2 i ∧ u.2 i ≤ 100000)) (fun u t => jE (dC, dI) [(cA, .int), (cZ, .boolean)] [(ma, .inr (5, [.int (jI mth), .int (jI mn), .ref a0, .int (jI mp), .int (jI mw), .ref a1, .ref a2, .ref a3, .ref a4, .ref a5, .ref a6, .ref a7, .ref a8, .ref a9, .ref a10, .long (jL mu), .long (jL md), .int (jI mo), .ref a11])), (a10, .inl (cA, 8, .inl (jA y10)))] sz [(ma, .inr (5, [.int (jI u.1), .int (jI mn), .ref a0, .int (jI mp), .int (jI mw), .ref a1, .ref a2, .ref a3, .ref a4, .ref a5, .ref a6, .ref a7, .ref a8, .ref a9, .ref a10, .long (jL mu), .long (jL md), .int (jI mo), .ref a11])), (a10, .inl (cA, 8, .inl (jA u.2)))] t) (va_A [(ma, .inr (5, [.int (jI mth), .int (jI mn), .ref a0, .int (jI mp), .int (jI mw), .ref a1, .ref a2, .ref a3, .ref a4, .ref a5, .ref a6, .ref a7, .ref a8, .ref a9, .ref a10, .long (jL mu), .long (jL md), .int (jI mo), .ref a11])), (a10, .inl (cA, 8, .inl (jA y10)))] sz)) 0 0 (va_A [(ma, .inr (5, [.int (jI mth), .int (jI mn), .ref a0, .int (jI mp), .int (jI mw), .ref a1, .ref a2, .ref a3, .ref a4, .ref a5, .ref a6, .ref a7, .ref a8, .ref a9, .ref a10, .long (jL mu), .long (jL md), .int (jI mo), .ref a11])), (a10, .inl (cA, 8, .inl (jA y10)))] sz) := by
  refine jMet (cc := cXM_share) (maxL := 3) (ret := none) (by decide) rfl ?_
  intro p e s m args below meth c s₁ R Q hR hQ B hml hv
  obtain ⟨rfl, hsz, hP, hK, hD0, hN⟩ := hv
  have hx := B.exec
  have hb := B.bytes
  have hr := B.returns
  have hts := atoms_spec (ws := Cond.code yXM_share cXM_share 3 none :: TBL) B.pre
  have hown : s.vm.findClass RXM = some m.cls := findClass_of_methodNamed B.named
  have hlocks := B.notSynchronized
  subst hsz
  obtain ⟨A, hAe⟩ : ∃ A, A = va_A [(ma, .inr (5, [.int (jI mth), .int (jI mn), .ref a0, .int (jI mp), .int (jI mw), .ref a1, .ref a2, .ref a3, .ref a4, .ref a5, .ref a6, .ref a7, .ref a8, .ref a9, .ref a10, .long (jL mu), .long (jL md), .int (jI mo), .ref a11])), (a10, .inl (cA, 8, .inl (jA y10)))] s.heap.size := ⟨_, rfl⟩
  have hD : va_D A [(ma, .inr (5, [.int (jI mth), .int (jI mn), .ref a0, .int (jI mp), .int (jI mw), .ref a1, .ref a2, .ref a3, .ref a4, .ref a5, .ref a6, .ref a7, .ref a8, .ref a9, .ref a10, .long (jL mu), .long (jL md), .int (jI mo), .ref a11])), (a10, .inl (cA, 8, .inl (jA y10)))] := by rw [hAe]; exact hD0.self
  have hA : ∀ q : Nat, s.heap.size ≤ q → A q := fun q h => by rw [hAe]; exact Or.inr h
  have hS : va_S A s.heap s.heap [] := va_S.rf
  have hP : va_P (dC, dI) vwCl [(ma, .inr (5, [.int (jI mth), .int (jI mn), .ref a0, .int (jI mp), .int (jI mw), .ref a1, .ref a2, .ref a3, .ref a4, .ref a5, .ref a6, .ref a7, .ref a8, .ref a9, .ref a10, .long (jL mu), .long (jL md), .int (jI mo), .ref a11])), (a10, .inl (cA, 8, .inl (jA y10)))] s.heap := hP
  have hl := lv_entry ([.ref ma, .int (jI z1), .int (jI z2)]) (n := 3) (Nat.le_of_ble_eq_true rfl)
  rw [lg_entry_eq]
  generalize (lg_sl ([.ref ma, .int (jI z1), .int (jI z2)]) ++ List.replicate (3 - (lg_sl ([.ref ma, .int (jI z1), .int (jI z2)])).length) Slot.unset).toArray = ls at hl ⊢
  have hl : lv_has ls 3 [(0, .ref ma), (1, .int (jI z1)), (2, .int (jI z2))] := hl
  refine lv_aload_n hx hb dXM_share_0 rfl (lv_at hl 0 rfl) ?_
  refine lv_iload_n hx hb dXM_share_1 rfl (lv_at hl 1 rfl) ?_
  refine jrSi (rest := [.ref ma]) ⟨hx, hb, hml, hown, hts⟩ (c_XM_isElement l dC dI cA cZ z1 (by first | assumption | omega)) (cwS 1 hts (jG_S tw_772 tw_773 tw_6 tw_774) rfl rfl rfl (by decide +kernel) (by rw [hR]; exact ⟨Nat.le_of_ble_eq_true rfl, Nat.le_of_ble_eq_true rfl⟩)) hK hP hN [] rfl rfl hl.1 rfl (Nat.le_of_ble_eq_true rfl) dXM_share_2 (by rw [hR]; exact ⟨Nat.le_of_ble_eq_true rfl, Nat.le_of_ble_eq_true rfl⟩) ?_
  have f := f_XM_isElement_b z1 (by first | assumption | omega)
  refine lv_iload_n hx hb dXM_share_5 rfl (lv_at hl 2 rfl) ?_
  refine ji_iconst hx hb dXM_share_6 ?_
  refine lv_ldc hx hb hown (hts _ (jmem tw_754)) dXM_share_7 ?_
  refine ji_re (y := 100000) (by decide) ?_
  refine jrSi (rest := [.int (jI (f_XM_isElement z1)), .ref ma]) ⟨hx, hb, hml, hown, hts⟩ (c_XM_in l dC dI cA cZ z2 0 100000 (by first | assumption | omega) (by first | assumption | omega) (by first | assumption | omega)) (cwS 3 hts (jG_S tw_695 tw_696 tw_6 tw_697) rfl rfl rfl (by decide +kernel) (by rw [hR]; exact ⟨Nat.le_of_ble_eq_true rfl, Nat.le_of_ble_eq_true rfl⟩)) hK hP hN [] rfl rfl hl.1 rfl (Nat.le_of_ble_eq_true rfl) dXM_share_9 (by rw [hR]; exact ⟨Nat.le_of_ble_eq_true rfl, Nat.le_of_ble_eq_true rfl⟩) ?_
  have f1 := f_XM_in_b z2 0 100000 (by first | assumption | omega) (by first | assumption | omega) (by first | assumption | omega)
  refine jwVi (rest := []) (wr := [(a10, .inl (cA, 8, .inl (jA y10)))]) ⟨hx, hb, hml, hown, hts⟩ (c_XM_goes l dC dI cA cZ _ ma a0 a1 a2 a3 a4 a5 a6 a7 a8 a9 a10 a11 mth mn mp mw mu md mo (f_XM_isElement z1) (f_XM_in z2 0 100000) (by first | assumption | omega | exact jset_b (by assumption) (by omega)) (by first | assumption | omega | exact jset_b (by assumption) (by omega))) (cwV 2 hts (jG_V tw_698 tw_700 ts_14 tw_6 tw_701) rfl rfl rfl (by decide +kernel) (by rw [hR]; exact ⟨Nat.le_of_ble_eq_true rfl, Nat.le_of_ble_eq_true rfl⟩)) hK hP hD hS hA hN [0] [1] rfl rfl (by decide) (by decide) (by decide) 0 5 rfl rfl rfl rfl hl.1 rfl (Nat.le_of_ble_eq_true rfl) dXM_share_12 (by rw [hR]; exact ⟨Nat.le_of_ble_eq_true rfl, Nat.le_of_ble_eq_true rfl⟩) (fun v u H locs hwb hP hD hS => ?_)
  obtain ⟨r, mth1'⟩ := u
  try dsimp only at hwb
  obtain ⟨er, f2⟩ := hwb
  subst er
  have f2 : (r = 0 ∧ mth1' = 1 ∧ (f_XM_isElement z1) = 0) ∨ (r = 0 ∧ mth1' = 2 ∧ (f_XM_isElement z1) = 1 ∧ (f_XM_in z2 0 100000) = 0) ∨ (r = 1 ∧ mth1' = 0 ∧ (f_XM_isElement z1) = 1 ∧ (f_XM_in z2 0 100000) = 1) := f2
  have hP : va_P (dC, dI) vwCl [(a10, .inl (cA, 8, .inl (jA y10))), (ma, .inr (5, [.int (jI mth1'), .int (jI mn), .ref a0, .int (jI mp), .int (jI mw), .ref a1, .ref a2, .ref a3, .ref a4, .ref a5, .ref a6, .ref a7, .ref a8, .ref a9, .ref a10, .long (jL mu), .long (jL md), .int (jI mo), .ref a11]))] H := hP
  have hD : va_D A [(a10, .inl (cA, 8, .inl (jA y10))), (ma, .inr (5, [.int (jI mth1'), .int (jI mn), .ref a0, .int (jI mp), .int (jI mw), .ref a1, .ref a2, .ref a3, .ref a4, .ref a5, .ref a6, .ref a7, .ref a8, .ref a9, .ref a10, .long (jL mu), .long (jL md), .int (jI mo), .ref a11]))] := hD
  refine ji_if_eq (tgt := 25) hx hb dXM_share_15 (by decide) (by first | omega | decide) (fun c15_ => ?_) (fun c15_ => ?_)
  · have hP9 := hP.sub (ws' := [(ma, .inr (5, [.int (jI mth1'), .int (jI mn), .ref a0, .int (jI mp), .int (jI mw), .ref a1, .ref a2, .ref a3, .ref a4, .ref a5, .ref a6, .ref a7, .ref a8, .ref a9, .ref a10, .long (jL mu), .long (jL md), .int (jI mo), .ref a11])), (a10, .inl (cA, 8, .inl (jA y10)))]) [1, 0] rfl
    have hD9 := hD.sub (ws' := [(ma, .inr (5, [.int (jI mth1'), .int (jI mn), .ref a0, .int (jI mp), .int (jI mw), .ref a1, .ref a2, .ref a3, .ref a4, .ref a5, .ref a6, .ref a7, .ref a8, .ref a9, .ref a10, .long (jL mu), .long (jL md), .int (jI mo), .ref a11])), (a10, .inl (cA, 8, .inl (jA y10)))]) [1, 0] (by decide) rfl
    subst hAe
    subst hQ
    exact W.vret hx hb hr (fun t ht hW => ⟨⟨(mth1', y10), rfl, ⟨(show (mth1' = 1 ∧ (z1 < 0 ∨ 7 < z1)) ∨ (mth1' = 2 ∧ 0 ≤ z1 ∧ z1 ≤ 7 ∧ (z2 < 0 ∨ 100000 < z2)) ∨ (mth1' = 0 ∧ 0 ≤ z1 ∧ z1 ≤ 7 ∧ 0 ≤ z2 ∧ z2 ≤ 100000) from by first | assumption | omega | exact jset_b (by assumption) (by omega)), (show ∀ i, 0 ≤ y10 i ∧ y10 i ≤ 100000 from by first | assumption | omega | exact jset_b (by assumption) (by omega))⟩, ⟨by rw [ht]; exact hP9, va_K.moved hW.alike hK, hD9⟩⟩, hS.F ht⟩) hS.2.2 dXM_share_25
  · refine lv_aload_n hx hb dXM_share_18 rfl (lv_at hl 0 rfl) ?_
    refine va_get (D := (dC, dI)) (ci := 5) (v := .ref a10) (C := RXM) (T := TXM) (N := 19) hx hb hts (fun w h => jmem (inXM w h)) hown hK hP 1 rfl rfl 14 (by decide) (hts _ (jmem tw_642)) (fun _ h9 => h9) rfl dXM_share_19 ?_
    refine lv_iload_n hx hb dXM_share_22 rfl (lv_at hl 1 rfl) ?_
    refine lv_iload_n hx hb dXM_share_23 rfl (lv_at hl 2 rfl) ?_
    refine ji_iast hx hb hK hP hD hS 0 0 rfl rfl ⟨by omega, by omega⟩ (by decide) dXM_share_24 (fun H locs hP hD hS => ?_)
    have hP : va_P (dC, dI) vwCl [(a10, .inl (cA, 8, .inl (jA (jset y10 z1 z2)))), (ma, .inr (5, [.int (jI mth1'), .int (jI mn), .ref a0, .int (jI mp), .int (jI mw), .ref a1, .ref a2, .ref a3, .ref a4, .ref a5, .ref a6, .ref a7, .ref a8, .ref a9, .ref a10, .long (jL mu), .long (jL md), .int (jI mo), .ref a11]))] H := hP
    have hD : va_D A [(a10, .inl (cA, 8, .inl (jA (jset y10 z1 z2)))), (ma, .inr (5, [.int (jI mth1'), .int (jI mn), .ref a0, .int (jI mp), .int (jI mw), .ref a1, .ref a2, .ref a3, .ref a4, .ref a5, .ref a6, .ref a7, .ref a8, .ref a9, .ref a10, .long (jL mu), .long (jL md), .int (jI mo), .ref a11]))] := hD
    have hP9 := hP.sub (ws' := [(ma, .inr (5, [.int (jI mth1'), .int (jI mn), .ref a0, .int (jI mp), .int (jI mw), .ref a1, .ref a2, .ref a3, .ref a4, .ref a5, .ref a6, .ref a7, .ref a8, .ref a9, .ref a10, .long (jL mu), .long (jL md), .int (jI mo), .ref a11])), (a10, .inl (cA, 8, .inl (jA (jset y10 z1 z2))))]) [1, 0] rfl
    have hD9 := hD.sub (ws' := [(ma, .inr (5, [.int (jI mth1'), .int (jI mn), .ref a0, .int (jI mp), .int (jI mw), .ref a1, .ref a2, .ref a3, .ref a4, .ref a5, .ref a6, .ref a7, .ref a8, .ref a9, .ref a10, .long (jL mu), .long (jL md), .int (jI mo), .ref a11])), (a10, .inl (cA, 8, .inl (jA (jset y10 z1 z2))))]) [1, 0] (by decide) rfl
    subst hAe
    subst hQ
    exact W.vret hx hb hr (fun t ht hW => ⟨⟨(mth1', jset y10 z1 z2), rfl, ⟨(show (mth1' = 1 ∧ (z1 < 0 ∨ 7 < z1)) ∨ (mth1' = 2 ∧ 0 ≤ z1 ∧ z1 ≤ 7 ∧ (z2 < 0 ∨ 100000 < z2)) ∨ (mth1' = 0 ∧ 0 ≤ z1 ∧ z1 ≤ 7 ∧ 0 ≤ z2 ∧ z2 ≤ 100000) from by first | assumption | omega | exact jset_b (by assumption) (by omega)), (show ∀ i, 0 ≤ (jset y10 z1 z2) i ∧ (jset y10 z1 z2) i ≤ 100000 from by first | assumption | omega | exact jset_b (by assumption) (by omega))⟩, ⟨by rw [ht]; exact hP9, va_K.moved hW.alike hK, hD9⟩⟩, hS.F ht⟩) hS.2.2 dXM_share_25
set_option maxHeartbeats 4000000 in
set_option maxRecDepth 100000 in
theorem c_XM_at (l : Launch) (dC : Nat → ClassId) (dI : Nat → Nat → Nat) (cA cZ : ClassId) (sz : Nat) (ma : Nat) (a0 : Nat) (a1 : Nat) (a2 : Nat) (a3 : Nat) (a4 : Nat) (a5 : Nat) (a6 : Nat) (a7 : Nat) (a8 : Nat) (a9 : Nat) (a10 : Nat) (a11 : Nat) (mth : Int) (mn : Int) (mp : Int) (mw : Int) (mu : Int) (md : Int) (mo : Int) (y11 : Int → Int) (z1 : Int) (hmo : 0 ≤ mo ∧ mo ≤ 300) (hi1 : i32 z1) : Met l yXM_at (Cond.code yXM_at cXM_at 2 (some .int) :: TBL) ({ frames := 1, cells := 0, slots := 0, locals := 22 } : Room) (va_Pc [.ref ma, .int (jI z1)] (jBw (dC, dI) [(cA, .int), (cZ, .boolean)] [(ma, .inr (5, [.int (jI mth), .int (jI mn), .ref a0, .int (jI mp), .int (jI mw), .ref a1, .ref a2, .ref a3, .ref a4, .ref a5, .ref a6, .ref a7, .ref a8, .ref a9, .ref a10, .long (jL mu), .long (jL md), .int (jI mo), .ref a11])), (a11, .inl (cA, 300, .inl (jA y11)))] sz)) (va_Qi (fun (r : Int32) (u : Int × Int) => r = jI u.1 ∧ ((u.2 = 1 ∧ z1 < 0) ∨ (u.2 = 0 ∧ 0 ≤ z1)) ∧ (mo = 0 → 0 ≤ z1 → u.1 = -1)) (fun u t => jE (dC, dI) [(cA, .int), (cZ, .boolean)] [(ma, .inr (5, [.int (jI mth), .int (jI mn), .ref a0, .int (jI mp), .int (jI mw), .ref a1, .ref a2, .ref a3, .ref a4, .ref a5, .ref a6, .ref a7, .ref a8, .ref a9, .ref a10, .long (jL mu), .long (jL md), .int (jI mo), .ref a11])), (a11, .inl (cA, 300, .inl (jA y11)))] sz [(ma, .inr (5, [.int (jI u.2), .int (jI mn), .ref a0, .int (jI mp), .int (jI mw), .ref a1, .ref a2, .ref a3, .ref a4, .ref a5, .ref a6, .ref a7, .ref a8, .ref a9, .ref a10, .long (jL mu), .long (jL md), .int (jI mo), .ref a11])), (a11, .inl (cA, 300, .inl (jA y11)))] t) (va_A [(ma, .inr (5, [.int (jI mth), .int (jI mn), .ref a0, .int (jI mp), .int (jI mw), .ref a1, .ref a2, .ref a3, .ref a4, .ref a5, .ref a6, .ref a7, .ref a8, .ref a9, .ref a10, .long (jL mu), .long (jL md), .int (jI mo), .ref a11])), (a11, .inl (cA, 300, .inl (jA y11)))] sz)) 0 0 (va_A [(ma, .inr (5, [.int (jI mth), .int (jI mn), .ref a0, .int (jI mp), .int (jI mw), .ref a1, .ref a2, .ref a3, .ref a4, .ref a5, .ref a6, .ref a7, .ref a8, .ref a9, .ref a10, .long (jL mu), .long (jL md), .int (jI mo), .ref a11])), (a11, .inl (cA, 300, .inl (jA y11)))] sz) := by
  refine jMet (cc := cXM_at) (maxL := 2) (ret := some .int) (by decide) rfl ?_
  intro p e s m args below meth c s₁ R Q hR hQ B hml hv
  obtain ⟨rfl, hsz, hP, hK, hD0, hN⟩ := hv
  have hx := B.exec
  have hb := B.bytes
  have hr := B.returns
  have hts := atoms_spec (ws := Cond.code yXM_at cXM_at 2 (some .int) :: TBL) B.pre
  have hown : s.vm.findClass RXM = some m.cls := findClass_of_methodNamed B.named
  have hlocks := B.notSynchronized
  subst hsz
  obtain ⟨A, hAe⟩ : ∃ A, A = va_A [(ma, .inr (5, [.int (jI mth), .int (jI mn), .ref a0, .int (jI mp), .int (jI mw), .ref a1, .ref a2, .ref a3, .ref a4, .ref a5, .ref a6, .ref a7, .ref a8, .ref a9, .ref a10, .long (jL mu), .long (jL md), .int (jI mo), .ref a11])), (a11, .inl (cA, 300, .inl (jA y11)))] s.heap.size := ⟨_, rfl⟩
  have hD : va_D A [(ma, .inr (5, [.int (jI mth), .int (jI mn), .ref a0, .int (jI mp), .int (jI mw), .ref a1, .ref a2, .ref a3, .ref a4, .ref a5, .ref a6, .ref a7, .ref a8, .ref a9, .ref a10, .long (jL mu), .long (jL md), .int (jI mo), .ref a11])), (a11, .inl (cA, 300, .inl (jA y11)))] := by rw [hAe]; exact hD0.self
  have hA : ∀ q : Nat, s.heap.size ≤ q → A q := fun q h => by rw [hAe]; exact Or.inr h
  have hS : va_S A s.heap s.heap [] := va_S.rf
  have hP : va_P (dC, dI) vwCl [(ma, .inr (5, [.int (jI mth), .int (jI mn), .ref a0, .int (jI mp), .int (jI mw), .ref a1, .ref a2, .ref a3, .ref a4, .ref a5, .ref a6, .ref a7, .ref a8, .ref a9, .ref a10, .long (jL mu), .long (jL md), .int (jI mo), .ref a11])), (a11, .inl (cA, 300, .inl (jA y11)))] s.heap := hP
  have hl := lv_entry ([.ref ma, .int (jI z1)]) (n := 2) (Nat.le_of_ble_eq_true rfl)
  rw [lg_entry_eq]
  generalize (lg_sl ([.ref ma, .int (jI z1)]) ++ List.replicate (2 - (lg_sl ([.ref ma, .int (jI z1)])).length) Slot.unset).toArray = ls at hl ⊢
  have hl : lv_has ls 2 [(0, .ref ma), (1, .int (jI z1))] := hl
  refine lv_aload_n hx hb dXM_at_0 rfl (lv_at hl 0 rfl) ?_
  refine lv_iload_n hx hb dXM_at_1 rfl (lv_at hl 1 rfl) ?_
  refine ji_if_lt (tgt := 9) hx hb dXM_at_2 (by decide) (by first | omega | decide) (fun c2_ => ?_) (fun c2_ => ?_)
  · refine ji_iconst hx hb dXM_at_9 ?_
    refine ji_iconst hx hb dXM_at_10 ?_
    refine jwVi (rest := []) (wr := [(a11, .inl (cA, 300, .inl (jA y11)))]) ⟨hx, hb, hml, hown, hts⟩ (c_XM_goes l dC dI cA cZ _ ma a0 a1 a2 a3 a4 a5 a6 a7 a8 a9 a10 a11 mth mn mp mw mu md mo 0 1 (by first | assumption | omega | exact jset_b (by assumption) (by omega)) (by first | assumption | omega | exact jset_b (by assumption) (by omega))) (cwV 2 hts (jG_V tw_698 tw_700 ts_14 tw_6 tw_701) rfl rfl rfl (by decide +kernel) (by rw [hR]; exact ⟨Nat.le_of_ble_eq_true rfl, Nat.le_of_ble_eq_true rfl⟩)) hK hP hD hS hA hN [0] [1] rfl rfl (by decide) (by decide) (by decide) 0 5 rfl rfl rfl rfl hl.1 rfl (Nat.le_of_ble_eq_true rfl) dXM_at_11 (by rw [hR]; exact ⟨Nat.le_of_ble_eq_true rfl, Nat.le_of_ble_eq_true rfl⟩) (fun v u H locs hwb hP hD hS => ?_)
    obtain ⟨r, mth1'⟩ := u
    try dsimp only at hwb
    obtain ⟨er, f⟩ := hwb
    subst er
    have f : (r = 0 ∧ mth1' = 1 ∧ (0 : Int) = 0) ∨ (r = 0 ∧ mth1' = 2 ∧ (0 : Int) = 1 ∧ (1 : Int) = 0) ∨ (r = 1 ∧ mth1' = 0 ∧ (0 : Int) = 1 ∧ (1 : Int) = 1) := f
    have hP : va_P (dC, dI) vwCl [(a11, .inl (cA, 300, .inl (jA y11))), (ma, .inr (5, [.int (jI mth1'), .int (jI mn), .ref a0, .int (jI mp), .int (jI mw), .ref a1, .ref a2, .ref a3, .ref a4, .ref a5, .ref a6, .ref a7, .ref a8, .ref a9, .ref a10, .long (jL mu), .long (jL md), .int (jI mo), .ref a11]))] H := hP
    have hD : va_D A [(a11, .inl (cA, 300, .inl (jA y11))), (ma, .inr (5, [.int (jI mth1'), .int (jI mn), .ref a0, .int (jI mp), .int (jI mw), .ref a1, .ref a2, .ref a3, .ref a4, .ref a5, .ref a6, .ref a7, .ref a8, .ref a9, .ref a10, .long (jL mu), .long (jL md), .int (jI mo), .ref a11]))] := hD
    refine ji_if_ne (tgt := 19) hx hb dXM_at_14 (by decide) (by first | omega | decide) (fun c14_ => ?_) (fun c14_ => ?_)
    · refine lv_iload_n hx hb dXM_at_19 rfl (lv_at hl 1 rfl) ?_
      refine lv_aload_n hx hb dXM_at_20 rfl (lv_at hl 0 rfl) ?_
      refine va_get (D := (dC, dI)) (ci := 5) (v := .int (jI mo)) (C := RXM) (T := TXM) (N := 19) hx hb hts (fun w h => jmem (inXM w h)) hown hK hP 1 rfl rfl 17 (by decide) (hts _ (jmem tw_645)) (fun _ h9 => h9) rfl dXM_at_21 ?_
      refine ji_icmp_ge (tgt := 36) hx hb dXM_at_24 (by decide) (by first | omega | decide) (by first | omega | decide) (fun c24_ => ?_) (fun c24_ => ?_)
      · refine ji_iconst hx hb dXM_at_36 ?_
        have hP9 := hP.sub (ws' := [(ma, .inr (5, [.int (jI mth1'), .int (jI mn), .ref a0, .int (jI mp), .int (jI mw), .ref a1, .ref a2, .ref a3, .ref a4, .ref a5, .ref a6, .ref a7, .ref a8, .ref a9, .ref a10, .long (jL mu), .long (jL md), .int (jI mo), .ref a11])), (a11, .inl (cA, 300, .inl (jA y11)))]) [1, 0] rfl
        have hD9 := hD.sub (ws' := [(ma, .inr (5, [.int (jI mth1'), .int (jI mn), .ref a0, .int (jI mp), .int (jI mw), .ref a1, .ref a2, .ref a3, .ref a4, .ref a5, .ref a6, .ref a7, .ref a8, .ref a9, .ref a10, .long (jL mu), .long (jL md), .int (jI mo), .ref a11])), (a11, .inl (cA, 300, .inl (jA y11)))]) [1, 0] (by decide) rfl
        subst hAe
        subst hQ
        exact W.iret (v := jI (-1)) hx hb hr (fun t ht hW => ⟨⟨_, (-1, mth1'), rfl, ⟨rfl, (show (mth1' = 1 ∧ z1 < 0) ∨ (mth1' = 0 ∧ 0 ≤ z1) from by first | assumption | omega | exact jset_b (by assumption) (by omega)), (show mo = 0 → 0 ≤ z1 → (-1 : Int) = -1 from by first | assumption | omega | exact jset_b (by assumption) (by omega))⟩, ⟨by rw [ht]; exact hP9, va_K.moved hW.alike hK, hD9⟩⟩, hS.F ht⟩) hS.2.2 dXM_at_37
      · refine lv_aload_n hx hb dXM_at_27 rfl (lv_at hl 0 rfl) ?_
        refine va_get (D := (dC, dI)) (ci := 5) (v := .ref a11) (C := RXM) (T := TXM) (N := 19) hx hb hts (fun w h => jmem (inXM w h)) hown hK hP 1 rfl rfl 18 (by decide) (hts _ (jmem tw_646)) (fun _ h9 => h9) rfl dXM_at_28 ?_
        refine lv_iload_n hx hb dXM_at_31 rfl (lv_at hl 1 rfl) ?_
        refine ji_iald hx hb hK hP 0 0 rfl rfl ⟨by omega, by omega⟩ (by decide) dXM_at_32 ?_
        refine lv_goto (tgt := 37) hx hb dXM_at_33 (by decide) ?_
        have hP9 := hP.sub (ws' := [(ma, .inr (5, [.int (jI mth1'), .int (jI mn), .ref a0, .int (jI mp), .int (jI mw), .ref a1, .ref a2, .ref a3, .ref a4, .ref a5, .ref a6, .ref a7, .ref a8, .ref a9, .ref a10, .long (jL mu), .long (jL md), .int (jI mo), .ref a11])), (a11, .inl (cA, 300, .inl (jA y11)))]) [1, 0] rfl
        have hD9 := hD.sub (ws' := [(ma, .inr (5, [.int (jI mth1'), .int (jI mn), .ref a0, .int (jI mp), .int (jI mw), .ref a1, .ref a2, .ref a3, .ref a4, .ref a5, .ref a6, .ref a7, .ref a8, .ref a9, .ref a10, .long (jL mu), .long (jL md), .int (jI mo), .ref a11])), (a11, .inl (cA, 300, .inl (jA y11)))]) [1, 0] (by decide) rfl
        subst hAe
        subst hQ
        exact W.iret (v := jI (y11 z1)) hx hb hr (fun t ht hW => ⟨⟨_, (y11 z1, mth1'), rfl, ⟨rfl, (show (mth1' = 1 ∧ z1 < 0) ∨ (mth1' = 0 ∧ 0 ≤ z1) from by first | assumption | omega | exact jset_b (by assumption) (by omega)), (show mo = 0 → 0 ≤ z1 → (y11 z1) = -1 from by first | assumption | omega | exact jset_b (by assumption) (by omega))⟩, ⟨by rw [ht]; exact hP9, va_K.moved hW.alike hK, hD9⟩⟩, hS.F ht⟩) hS.2.2 dXM_at_37
    · refine ji_iconst hx hb dXM_at_17 ?_
      have hP9 := hP.sub (ws' := [(ma, .inr (5, [.int (jI mth1'), .int (jI mn), .ref a0, .int (jI mp), .int (jI mw), .ref a1, .ref a2, .ref a3, .ref a4, .ref a5, .ref a6, .ref a7, .ref a8, .ref a9, .ref a10, .long (jL mu), .long (jL md), .int (jI mo), .ref a11])), (a11, .inl (cA, 300, .inl (jA y11)))]) [1, 0] rfl
      have hD9 := hD.sub (ws' := [(ma, .inr (5, [.int (jI mth1'), .int (jI mn), .ref a0, .int (jI mp), .int (jI mw), .ref a1, .ref a2, .ref a3, .ref a4, .ref a5, .ref a6, .ref a7, .ref a8, .ref a9, .ref a10, .long (jL mu), .long (jL md), .int (jI mo), .ref a11])), (a11, .inl (cA, 300, .inl (jA y11)))]) [1, 0] (by decide) rfl
      subst hAe
      subst hQ
      exact W.iret (v := jI 0) hx hb hr (fun t ht hW => ⟨⟨_, (0, mth1'), rfl, ⟨rfl, (show (mth1' = 1 ∧ z1 < 0) ∨ (mth1' = 0 ∧ 0 ≤ z1) from by first | assumption | omega | exact jset_b (by assumption) (by omega)), (show mo = 0 → 0 ≤ z1 → (0 : Int) = -1 from by first | assumption | omega | exact jset_b (by assumption) (by omega))⟩, ⟨by rw [ht]; exact hP9, va_K.moved hW.alike hK, hD9⟩⟩, hS.F ht⟩) hS.2.2 dXM_at_18
  · refine ji_iconst hx hb dXM_at_5 ?_
    refine lv_goto (tgt := 10) hx hb dXM_at_6 (by decide) ?_
    refine ji_iconst hx hb dXM_at_10 ?_
    refine jwVi (rest := []) (wr := [(a11, .inl (cA, 300, .inl (jA y11)))]) ⟨hx, hb, hml, hown, hts⟩ (c_XM_goes l dC dI cA cZ _ ma a0 a1 a2 a3 a4 a5 a6 a7 a8 a9 a10 a11 mth mn mp mw mu md mo 1 1 (by first | assumption | omega | exact jset_b (by assumption) (by omega)) (by first | assumption | omega | exact jset_b (by assumption) (by omega))) (cwV 2 hts (jG_V tw_698 tw_700 ts_14 tw_6 tw_701) rfl rfl rfl (by decide +kernel) (by rw [hR]; exact ⟨Nat.le_of_ble_eq_true rfl, Nat.le_of_ble_eq_true rfl⟩)) hK hP hD hS hA hN [0] [1] rfl rfl (by decide) (by decide) (by decide) 0 5 rfl rfl rfl rfl hl.1 rfl (Nat.le_of_ble_eq_true rfl) dXM_at_11 (by rw [hR]; exact ⟨Nat.le_of_ble_eq_true rfl, Nat.le_of_ble_eq_true rfl⟩) (fun v4 u3 H locs hwb5 hP hD hS => ?_)
    obtain ⟨r1, mth1'2⟩ := u3
    try dsimp only at hwb5
    obtain ⟨er, f6⟩ := hwb5
    subst er
    have f6 : (r1 = 0 ∧ mth1'2 = 1 ∧ (1 : Int) = 0) ∨ (r1 = 0 ∧ mth1'2 = 2 ∧ (1 : Int) = 1 ∧ (1 : Int) = 0) ∨ (r1 = 1 ∧ mth1'2 = 0 ∧ (1 : Int) = 1 ∧ (1 : Int) = 1) := f6
    have hP : va_P (dC, dI) vwCl [(a11, .inl (cA, 300, .inl (jA y11))), (ma, .inr (5, [.int (jI mth1'2), .int (jI mn), .ref a0, .int (jI mp), .int (jI mw), .ref a1, .ref a2, .ref a3, .ref a4, .ref a5, .ref a6, .ref a7, .ref a8, .ref a9, .ref a10, .long (jL mu), .long (jL md), .int (jI mo), .ref a11]))] H := hP
    have hD : va_D A [(a11, .inl (cA, 300, .inl (jA y11))), (ma, .inr (5, [.int (jI mth1'2), .int (jI mn), .ref a0, .int (jI mp), .int (jI mw), .ref a1, .ref a2, .ref a3, .ref a4, .ref a5, .ref a6, .ref a7, .ref a8, .ref a9, .ref a10, .long (jL mu), .long (jL md), .int (jI mo), .ref a11]))] := hD
    refine ji_if_ne (tgt := 19) hx hb dXM_at_14 (by decide) (by first | omega | decide) (fun c14_7 => ?_) (fun c14_7 => ?_)
    · refine lv_iload_n hx hb dXM_at_19 rfl (lv_at hl 1 rfl) ?_
      refine lv_aload_n hx hb dXM_at_20 rfl (lv_at hl 0 rfl) ?_
      refine va_get (D := (dC, dI)) (ci := 5) (v := .int (jI mo)) (C := RXM) (T := TXM) (N := 19) hx hb hts (fun w h => jmem (inXM w h)) hown hK hP 1 rfl rfl 17 (by decide) (hts _ (jmem tw_645)) (fun _ h9 => h9) rfl dXM_at_21 ?_
      refine ji_icmp_ge (tgt := 36) hx hb dXM_at_24 (by decide) (by first | omega | decide) (by first | omega | decide) (fun c24_8 => ?_) (fun c24_8 => ?_)
      · refine ji_iconst hx hb dXM_at_36 ?_
        have hP9 := hP.sub (ws' := [(ma, .inr (5, [.int (jI mth1'2), .int (jI mn), .ref a0, .int (jI mp), .int (jI mw), .ref a1, .ref a2, .ref a3, .ref a4, .ref a5, .ref a6, .ref a7, .ref a8, .ref a9, .ref a10, .long (jL mu), .long (jL md), .int (jI mo), .ref a11])), (a11, .inl (cA, 300, .inl (jA y11)))]) [1, 0] rfl
        have hD9 := hD.sub (ws' := [(ma, .inr (5, [.int (jI mth1'2), .int (jI mn), .ref a0, .int (jI mp), .int (jI mw), .ref a1, .ref a2, .ref a3, .ref a4, .ref a5, .ref a6, .ref a7, .ref a8, .ref a9, .ref a10, .long (jL mu), .long (jL md), .int (jI mo), .ref a11])), (a11, .inl (cA, 300, .inl (jA y11)))]) [1, 0] (by decide) rfl
        subst hAe
        subst hQ
        exact W.iret (v := jI (-1)) hx hb hr (fun t ht hW => ⟨⟨_, (-1, mth1'2), rfl, ⟨rfl, (show (mth1'2 = 1 ∧ z1 < 0) ∨ (mth1'2 = 0 ∧ 0 ≤ z1) from by first | assumption | omega | exact jset_b (by assumption) (by omega)), (show mo = 0 → 0 ≤ z1 → (-1 : Int) = -1 from by first | assumption | omega | exact jset_b (by assumption) (by omega))⟩, ⟨by rw [ht]; exact hP9, va_K.moved hW.alike hK, hD9⟩⟩, hS.F ht⟩) hS.2.2 dXM_at_37
      · refine lv_aload_n hx hb dXM_at_27 rfl (lv_at hl 0 rfl) ?_
        refine va_get (D := (dC, dI)) (ci := 5) (v := .ref a11) (C := RXM) (T := TXM) (N := 19) hx hb hts (fun w h => jmem (inXM w h)) hown hK hP 1 rfl rfl 18 (by decide) (hts _ (jmem tw_646)) (fun _ h9 => h9) rfl dXM_at_28 ?_
        refine lv_iload_n hx hb dXM_at_31 rfl (lv_at hl 1 rfl) ?_
        refine ji_iald hx hb hK hP 0 0 rfl rfl ⟨by omega, by omega⟩ (by decide) dXM_at_32 ?_
        refine lv_goto (tgt := 37) hx hb dXM_at_33 (by decide) ?_
        have hP9 := hP.sub (ws' := [(ma, .inr (5, [.int (jI mth1'2), .int (jI mn), .ref a0, .int (jI mp), .int (jI mw), .ref a1, .ref a2, .ref a3, .ref a4, .ref a5, .ref a6, .ref a7, .ref a8, .ref a9, .ref a10, .long (jL mu), .long (jL md), .int (jI mo), .ref a11])), (a11, .inl (cA, 300, .inl (jA y11)))]) [1, 0] rfl
        have hD9 := hD.sub (ws' := [(ma, .inr (5, [.int (jI mth1'2), .int (jI mn), .ref a0, .int (jI mp), .int (jI mw), .ref a1, .ref a2, .ref a3, .ref a4, .ref a5, .ref a6, .ref a7, .ref a8, .ref a9, .ref a10, .long (jL mu), .long (jL md), .int (jI mo), .ref a11])), (a11, .inl (cA, 300, .inl (jA y11)))]) [1, 0] (by decide) rfl
        subst hAe
        subst hQ
        exact W.iret (v := jI (y11 z1)) hx hb hr (fun t ht hW => ⟨⟨_, (y11 z1, mth1'2), rfl, ⟨rfl, (show (mth1'2 = 1 ∧ z1 < 0) ∨ (mth1'2 = 0 ∧ 0 ≤ z1) from by first | assumption | omega | exact jset_b (by assumption) (by omega)), (show mo = 0 → 0 ≤ z1 → (y11 z1) = -1 from by first | assumption | omega | exact jset_b (by assumption) (by omega))⟩, ⟨by rw [ht]; exact hP9, va_K.moved hW.alike hK, hD9⟩⟩, hS.F ht⟩) hS.2.2 dXM_at_37
    · refine ji_iconst hx hb dXM_at_17 ?_
      have hP9 := hP.sub (ws' := [(ma, .inr (5, [.int (jI mth1'2), .int (jI mn), .ref a0, .int (jI mp), .int (jI mw), .ref a1, .ref a2, .ref a3, .ref a4, .ref a5, .ref a6, .ref a7, .ref a8, .ref a9, .ref a10, .long (jL mu), .long (jL md), .int (jI mo), .ref a11])), (a11, .inl (cA, 300, .inl (jA y11)))]) [1, 0] rfl
      have hD9 := hD.sub (ws' := [(ma, .inr (5, [.int (jI mth1'2), .int (jI mn), .ref a0, .int (jI mp), .int (jI mw), .ref a1, .ref a2, .ref a3, .ref a4, .ref a5, .ref a6, .ref a7, .ref a8, .ref a9, .ref a10, .long (jL mu), .long (jL md), .int (jI mo), .ref a11])), (a11, .inl (cA, 300, .inl (jA y11)))]) [1, 0] (by decide) rfl
      subst hAe
      subst hQ
      exact W.iret (v := jI 0) hx hb hr (fun t ht hW => ⟨⟨_, (0, mth1'2), rfl, ⟨rfl, (show (mth1'2 = 1 ∧ z1 < 0) ∨ (mth1'2 = 0 ∧ 0 ≤ z1) from by first | assumption | omega | exact jset_b (by assumption) (by omega)), (show mo = 0 → 0 ≤ z1 → (0 : Int) = -1 from by first | assumption | omega | exact jset_b (by assumption) (by omega))⟩, ⟨by rw [ht]; exact hP9, va_K.moved hW.alike hK, hD9⟩⟩, hS.F ht⟩) hS.2.2 dXM_at_18
set_option maxHeartbeats 4000000 in
set_option maxRecDepth 100000 in
theorem c_XM_sign (l : Launch) (dC : Nat → ClassId) (dI : Nat → Nat → Nat) (cA cZ : ClassId) (sz : Nat) (ma : Nat) (a0 : Nat) (a1 : Nat) (a2 : Nat) (a3 : Nat) (a4 : Nat) (a5 : Nat) (a6 : Nat) (a7 : Nat) (a8 : Nat) (a9 : Nat) (a10 : Nat) (a11 : Nat) (mth : Int) (mn : Int) (mp : Int) (mw : Int) (mu : Int) (md : Int) (mo : Int) (y0 : Int → Int) (zy : Int) (z1 : Int) (hy0 : ∀ i, 0 ≤ y0 i ∧ y0 i ≤ 255) (hmn : 0 ≤ mn ∧ mn ≤ 400) (hi1 : i32 z1) : Met l yXM_sign (Cond.code yXM_sign cXM_sign 5 (some .int) :: TBL) ({ frames := 1, cells := 0, slots := 0, locals := 22 } : Room) (va_Pc [.ref ma, .long (jL zy), .int (jI z1)] (jBw (dC, dI) [(cA, .int), (cZ, .boolean)] [(ma, .inr (5, [.int (jI mth), .int (jI mn), .ref a0, .int (jI mp), .int (jI mw), .ref a1, .ref a2, .ref a3, .ref a4, .ref a5, .ref a6, .ref a7, .ref a8, .ref a9, .ref a10, .long (jL mu), .long (jL md), .int (jI mo), .ref a11])), (a0, .inl (cA, 400, .inl (jA y0)))] sz)) (va_Qi (fun (r : Int32) (u : Int × Int × Int × (Int → Int)) => r = jI u.1 ∧ ((u.2.1 = 1 ∧ (z1 < 1 ∨ 8 < z1) ∧ u.2.2.1 = mn) ∨ (u.2.1 = 2 ∧ 1 ≤ z1 ∧ z1 ≤ 8 ∧ 400 < mn + z1 ∧ u.2.2.1 = mn) ∨ (u.2.1 = 0 ∧ 1 ≤ z1 ∧ z1 ≤ 8 ∧ mn + z1 ≤ 400 ∧ u.2.2.1 = mn + z1 ∧ u.1 = mn + z1)) ∧ (0 ≤ u.2.2.1 ∧ u.2.2.1 ≤ 400) ∧ (∀ i, 0 ≤ u.2.2.2 i ∧ u.2.2.2 i ≤ 255)) (fun u t => jE (dC, dI) [(cA, .int), (cZ, .boolean)] [(ma, .inr (5, [.int (jI mth), .int (jI mn), .ref a0, .int (jI mp), .int (jI mw), .ref a1, .ref a2, .ref a3, .ref a4, .ref a5, .ref a6, .ref a7, .ref a8, .ref a9, .ref a10, .long (jL mu), .long (jL md), .int (jI mo), .ref a11])), (a0, .inl (cA, 400, .inl (jA y0)))] sz [(ma, .inr (5, [.int (jI u.2.1), .int (jI u.2.2.1), .ref a0, .int (jI mp), .int (jI mw), .ref a1, .ref a2, .ref a3, .ref a4, .ref a5, .ref a6, .ref a7, .ref a8, .ref a9, .ref a10, .long (jL mu), .long (jL md), .int (jI mo), .ref a11])), (a0, .inl (cA, 400, .inl (jA u.2.2.2)))] t) (va_A [(ma, .inr (5, [.int (jI mth), .int (jI mn), .ref a0, .int (jI mp), .int (jI mw), .ref a1, .ref a2, .ref a3, .ref a4, .ref a5, .ref a6, .ref a7, .ref a8, .ref a9, .ref a10, .long (jL mu), .long (jL md), .int (jI mo), .ref a11])), (a0, .inl (cA, 400, .inl (jA y0)))] sz)) 0 0 (va_A [(ma, .inr (5, [.int (jI mth), .int (jI mn), .ref a0, .int (jI mp), .int (jI mw), .ref a1, .ref a2, .ref a3, .ref a4, .ref a5, .ref a6, .ref a7, .ref a8, .ref a9, .ref a10, .long (jL mu), .long (jL md), .int (jI mo), .ref a11])), (a0, .inl (cA, 400, .inl (jA y0)))] sz) := by
  refine jMet (cc := cXM_sign) (maxL := 5) (ret := some .int) (by decide) rfl ?_
  intro p e s m args below meth c s₁ R Q hR hQ B hml hv
  obtain ⟨rfl, hsz, hP, hK, hD0, hN⟩ := hv
  have hx := B.exec
  have hb := B.bytes
  have hr := B.returns
  have hts := atoms_spec (ws := Cond.code yXM_sign cXM_sign 5 (some .int) :: TBL) B.pre
  have hown : s.vm.findClass RXM = some m.cls := findClass_of_methodNamed B.named
  have hlocks := B.notSynchronized
  subst hsz
  obtain ⟨A, hAe⟩ : ∃ A, A = va_A [(ma, .inr (5, [.int (jI mth), .int (jI mn), .ref a0, .int (jI mp), .int (jI mw), .ref a1, .ref a2, .ref a3, .ref a4, .ref a5, .ref a6, .ref a7, .ref a8, .ref a9, .ref a10, .long (jL mu), .long (jL md), .int (jI mo), .ref a11])), (a0, .inl (cA, 400, .inl (jA y0)))] s.heap.size := ⟨_, rfl⟩
  have hD : va_D A [(ma, .inr (5, [.int (jI mth), .int (jI mn), .ref a0, .int (jI mp), .int (jI mw), .ref a1, .ref a2, .ref a3, .ref a4, .ref a5, .ref a6, .ref a7, .ref a8, .ref a9, .ref a10, .long (jL mu), .long (jL md), .int (jI mo), .ref a11])), (a0, .inl (cA, 400, .inl (jA y0)))] := by rw [hAe]; exact hD0.self
  have hA : ∀ q : Nat, s.heap.size ≤ q → A q := fun q h => by rw [hAe]; exact Or.inr h
  have hS : va_S A s.heap s.heap [] := va_S.rf
  have hP : va_P (dC, dI) vwCl [(ma, .inr (5, [.int (jI mth), .int (jI mn), .ref a0, .int (jI mp), .int (jI mw), .ref a1, .ref a2, .ref a3, .ref a4, .ref a5, .ref a6, .ref a7, .ref a8, .ref a9, .ref a10, .long (jL mu), .long (jL md), .int (jI mo), .ref a11])), (a0, .inl (cA, 400, .inl (jA y0)))] s.heap := hP
  have hl := lv_entry ([.ref ma, .long (jL zy), .int (jI z1)]) (n := 5) (Nat.le_of_ble_eq_true rfl)
  rw [lg_entry_eq]
  generalize (lg_sl ([.ref ma, .long (jL zy), .int (jI z1)]) ++ List.replicate (5 - (lg_sl ([.ref ma, .long (jL zy), .int (jI z1)])).length) Slot.unset).toArray = ls at hl ⊢
  have hl : lv_has ls 5 [(0, .ref ma), (1, .long (jL zy)), (3, .int (jI z1))] := hl
  refine lv_aload_n hx hb dXM_sign_0 rfl (lv_at hl 0 rfl) ?_
  refine lv_iload_n hx hb dXM_sign_1 rfl (lv_at hl 2 rfl) ?_
  refine ji_iconst hx hb dXM_sign_2 ?_
  refine ji_bipush hx hb dXM_sign_3 (by decide) ?_
  refine jrSi (rest := [.ref ma]) ⟨hx, hb, hml, hown, hts⟩ (c_XM_in l dC dI cA cZ z1 1 8 (by first | assumption | omega) (by first | assumption | omega) (by first | assumption | omega)) (cwS 3 hts (jG_S tw_695 tw_696 tw_6 tw_697) rfl rfl rfl (by decide +kernel) (by rw [hR]; exact ⟨Nat.le_of_ble_eq_true rfl, Nat.le_of_ble_eq_true rfl⟩)) hK hP hN [] rfl rfl hl.1 rfl (Nat.le_of_ble_eq_true rfl) dXM_sign_5 (by rw [hR]; exact ⟨Nat.le_of_ble_eq_true rfl, Nat.le_of_ble_eq_true rfl⟩) ?_
  have f := f_XM_in_b z1 1 8 (by first | assumption | omega) (by first | assumption | omega) (by first | assumption | omega)
  refine lv_aload_n hx hb dXM_sign_8 rfl (lv_at hl 0 rfl) ?_
  refine va_get (D := (dC, dI)) (ci := 5) (v := .int (jI mn)) (C := RXM) (T := TXM) (N := 19) hx hb hts (fun w h => jmem (inXM w h)) hown hK hP 0 rfl rfl 1 (by decide) (hts _ (jmem tw_629)) (fun _ h9 => h9) rfl dXM_sign_9 ?_
  refine lv_iload_n hx hb dXM_sign_12 rfl (lv_at hl 2 rfl) ?_
  refine ji_iadd hx hb dXM_sign_13 ?_
  refine ji_re (y := jw (mn + z1)) (jI_jw _).symm ?_
  have rb := jw_or (mn + z1)
  refine ji_sipush hx hb dXM_sign_14 (by decide) ?_
  refine ji_icmp_gt (tgt := 24) hx hb dXM_sign_17 (by decide) (by first | omega | decide) (by first | omega | decide) (fun c17_ => ?_) (fun c17_ => ?_)
  · refine ji_iconst hx hb dXM_sign_24 ?_
    refine jwVi (rest := []) (wr := [(a0, .inl (cA, 400, .inl (jA y0)))]) ⟨hx, hb, hml, hown, hts⟩ (c_XM_goes l dC dI cA cZ _ ma a0 a1 a2 a3 a4 a5 a6 a7 a8 a9 a10 a11 mth mn mp mw mu md mo (f_XM_in z1 1 8) 0 (by first | assumption | omega | exact jset_b (by assumption) (by omega)) (by first | assumption | omega | exact jset_b (by assumption) (by omega))) (cwV 2 hts (jG_V tw_698 tw_700 ts_14 tw_6 tw_701) rfl rfl rfl (by decide +kernel) (by rw [hR]; exact ⟨Nat.le_of_ble_eq_true rfl, Nat.le_of_ble_eq_true rfl⟩)) hK hP hD hS hA hN [0] [1] rfl rfl (by decide) (by decide) (by decide) 0 5 rfl rfl rfl rfl hl.1 rfl (Nat.le_of_ble_eq_true rfl) dXM_sign_25 (by rw [hR]; exact ⟨Nat.le_of_ble_eq_true rfl, Nat.le_of_ble_eq_true rfl⟩) (fun v u H locs hwb hP hD hS => ?_)
    obtain ⟨r, mth1'⟩ := u
    try dsimp only at hwb
    obtain ⟨er, f1⟩ := hwb
    subst er
    have f1 : (r = 0 ∧ mth1' = 1 ∧ (f_XM_in z1 1 8) = 0) ∨ (r = 0 ∧ mth1' = 2 ∧ (f_XM_in z1 1 8) = 1 ∧ (0 : Int) = 0) ∨ (r = 1 ∧ mth1' = 0 ∧ (f_XM_in z1 1 8) = 1 ∧ (0 : Int) = 1) := f1
    have hP : va_P (dC, dI) vwCl [(a0, .inl (cA, 400, .inl (jA y0))), (ma, .inr (5, [.int (jI mth1'), .int (jI mn), .ref a0, .int (jI mp), .int (jI mw), .ref a1, .ref a2, .ref a3, .ref a4, .ref a5, .ref a6, .ref a7, .ref a8, .ref a9, .ref a10, .long (jL mu), .long (jL md), .int (jI mo), .ref a11]))] H := hP
    have hD : va_D A [(a0, .inl (cA, 400, .inl (jA y0))), (ma, .inr (5, [.int (jI mth1'), .int (jI mn), .ref a0, .int (jI mp), .int (jI mw), .ref a1, .ref a2, .ref a3, .ref a4, .ref a5, .ref a6, .ref a7, .ref a8, .ref a9, .ref a10, .long (jL mu), .long (jL md), .int (jI mo), .ref a11]))] := hD
    refine ji_if_ne (tgt := 33) hx hb dXM_sign_28 (by decide) (by first | omega | decide) (fun c28_ => ?_) (fun c28_ => ?_)
    · refine lv_iload_n hx hb dXM_sign_33 rfl (lv_at hl 2 rfl) ?_
      refine ji_iconst hx hb dXM_sign_34 ?_
      refine ji_isub hx hb dXM_sign_35 ?_
      refine lv_istore (lv' := [(4, .int (jI (z1 - 1))), (0, .ref ma), (1, .long (jL zy)), (3, .int (jI z1))]) hx hb dXM_sign_36 hl (by decide) rfl (fun ls hl => ?_)
      have loop38 : ∀ (n9 : Nat) (k : Int) (mn9 : Int) (w0 : Int → Int) , k + 1 < (n9 : Int) → (-1 ≤ k ∧ k < 8) → (mn9 + k + 1 = mn + z1) → (∀ i, 0 ≤ w0 i ∧ w0 i ≤ 255) → (0 ≤ mn9 ∧ mn + z1 ≤ 400) → ∀ (H : Heap) (locs : List Loc), va_P (dC, dI) vwCl [(a0, .inl (cA, 400, .inl (jA w0))), (ma, .inr (5, [.int (jI mth1'), .int (jI mn9), .ref a0, .int (jI mp), .int (jI mw), .ref a1, .ref a2, .ref a3, .ref a4, .ref a5, .ref a6, .ref a7, .ref a8, .ref a9, .ref a10, .long (jL mu), .long (jL md), .int (jI mo), .ref a11]))] H → va_D A [(a0, .inl (cA, 400, .inl (jA w0))), (ma, .inr (5, [.int (jI mth1'), .int (jI mn9), .ref a0, .int (jI mp), .int (jI mw), .ref a1, .ref a2, .ref a3, .ref a4, .ref a5, .ref a6, .ref a7, .ref a8, .ref a9, .ref a10, .long (jL mu), .long (jL md), .int (jI mo), .ref a11]))] → va_S A s.heap H locs → ∀ ls : Array Slot, lv_has ls 5 [(4, .int (jI k)), (0, .ref ma), (1, .long (jL zy)), (3, .int (jI z1))] → W p l e R s m ([.ref ma, .long (jL zy), .int (jI z1)] : List Value).toArray below meth c H locs 0 0 Q (F0 m 38 ls []) := by
        intro n9
        induction n9 with
        | zero =>
          intro k mn9 w0 hm hk hs9 hw0 hn9
          exact absurd hm (by omega)
        | succ n9 ih38 =>
          intro k mn9 w0 hm hk hs9 hw0 hn9 H locs hP hD hS ls hl
          refine lv_iload hx hb dXM_sign_38 (lv_at hl 0 rfl) ?_
          refine ji_if_lt (tgt := 80) hx hb dXM_sign_40 (by decide) (by first | omega | decide) (fun c40_ => ?_) (fun c40_ => ?_)
          · refine lv_aload_n hx hb dXM_sign_80 rfl (lv_at hl 1 rfl) ?_
            refine va_get (D := (dC, dI)) (ci := 5) (v := .int (jI mn9)) (C := RXM) (T := TXM) (N := 19) hx hb hts (fun w h => jmem (inXM w h)) hown hK hP 1 rfl rfl 1 (by decide) (hts _ (jmem tw_629)) (fun _ h9 => h9) rfl dXM_sign_81 ?_
            have hP9 := hP.sub (ws' := [(ma, .inr (5, [.int (jI mth1'), .int (jI mn9), .ref a0, .int (jI mp), .int (jI mw), .ref a1, .ref a2, .ref a3, .ref a4, .ref a5, .ref a6, .ref a7, .ref a8, .ref a9, .ref a10, .long (jL mu), .long (jL md), .int (jI mo), .ref a11])), (a0, .inl (cA, 400, .inl (jA w0)))]) [1, 0] rfl
            have hD9 := hD.sub (ws' := [(ma, .inr (5, [.int (jI mth1'), .int (jI mn9), .ref a0, .int (jI mp), .int (jI mw), .ref a1, .ref a2, .ref a3, .ref a4, .ref a5, .ref a6, .ref a7, .ref a8, .ref a9, .ref a10, .long (jL mu), .long (jL md), .int (jI mo), .ref a11])), (a0, .inl (cA, 400, .inl (jA w0)))]) [1, 0] (by decide) rfl
            subst hAe
            subst hQ
            exact W.iret (v := jI mn9) hx hb hr (fun t ht hW => ⟨⟨_, (mn9, mth1', mn9, w0), rfl, ⟨rfl, (show (mth1' = 1 ∧ (z1 < 1 ∨ 8 < z1) ∧ mn9 = mn) ∨ (mth1' = 2 ∧ 1 ≤ z1 ∧ z1 ≤ 8 ∧ 400 < mn + z1 ∧ mn9 = mn) ∨ (mth1' = 0 ∧ 1 ≤ z1 ∧ z1 ≤ 8 ∧ mn + z1 ≤ 400 ∧ mn9 = mn + z1 ∧ mn9 = mn + z1) from by first | assumption | omega | exact jset_b (by assumption) (by omega)), (show 0 ≤ mn9 ∧ mn9 ≤ 400 from by first | assumption | omega | exact jset_b (by assumption) (by omega)), (show ∀ i, 0 ≤ w0 i ∧ w0 i ≤ 255 from by first | assumption | omega | exact jset_b (by assumption) (by omega))⟩, ⟨by rw [ht]; exact hP9, va_K.moved hW.alike hK, hD9⟩⟩, hS.F ht⟩) hS.2.2 dXM_sign_84
          · refine lv_aload_n hx hb dXM_sign_43 rfl (lv_at hl 1 rfl) ?_
            refine va_get (D := (dC, dI)) (ci := 5) (v := .ref a0) (C := RXM) (T := TXM) (N := 19) hx hb hts (fun w h => jmem (inXM w h)) hown hK hP 1 rfl rfl 2 (by decide) (hts _ (jmem tw_630)) (fun _ h9 => h9) rfl dXM_sign_44 ?_
            refine lv_aload_n hx hb dXM_sign_47 rfl (lv_at hl 1 rfl) ?_
            refine va_get (D := (dC, dI)) (ci := 5) (v := .int (jI mn9)) (C := RXM) (T := TXM) (N := 19) hx hb hts (fun w h => jmem (inXM w h)) hown hK hP 1 rfl rfl 1 (by decide) (hts _ (jmem tw_629)) (fun _ h9 => h9) rfl dXM_sign_48 ?_
            refine lv_lload_n hx hb dXM_sign_51 rfl (lv_at hl 2 rfl) ?_
            refine ji_bipush hx hb dXM_sign_52 (by decide) ?_
            refine lv_iload hx hb dXM_sign_54 (lv_at hl 0 rfl) ?_
            refine ji_imul hx hb dXM_sign_56 ?_
            refine lv_lshr (v := (jL zy >>> ((jI (8 * k)).toInt64 &&& 63))) hx hb dXM_sign_57 rfl ?_
            refine ji_revl ?_
            refine ji_l2i hx hb dXM_sign_58 ?_
            refine ji_sipush hx hb dXM_sign_59 (by decide) ?_
            refine lv_iand hx hb dXM_sign_62 ?_
            refine ji_rev ?_
            have rb2 := jand255 (jI ((jL zy >>> ((jI (8 * k)).toInt64 &&& 63)).toInt))
            refine ji_iast hx hb hK hP hD hS 0 0 rfl rfl ⟨by omega, by omega⟩ (by decide) dXM_sign_63 (fun H locs hP hD hS => ?_)
            have hP : va_P (dC, dI) vwCl [(a0, .inl (cA, 400, .inl (jA (jset w0 mn9 ((jI ((jL zy >>> ((jI (8 * k)).toInt64 &&& 63)).toInt) &&& jI 255).toInt))))), (ma, .inr (5, [.int (jI mth1'), .int (jI mn9), .ref a0, .int (jI mp), .int (jI mw), .ref a1, .ref a2, .ref a3, .ref a4, .ref a5, .ref a6, .ref a7, .ref a8, .ref a9, .ref a10, .long (jL mu), .long (jL md), .int (jI mo), .ref a11]))] H := hP
            have hD : va_D A [(a0, .inl (cA, 400, .inl (jA (jset w0 mn9 ((jI ((jL zy >>> ((jI (8 * k)).toInt64 &&& 63)).toInt) &&& jI 255).toInt))))), (ma, .inr (5, [.int (jI mth1'), .int (jI mn9), .ref a0, .int (jI mp), .int (jI mw), .ref a1, .ref a2, .ref a3, .ref a4, .ref a5, .ref a6, .ref a7, .ref a8, .ref a9, .ref a10, .long (jL mu), .long (jL md), .int (jI mo), .ref a11]))] := hD
            refine lv_aload_n hx hb dXM_sign_64 rfl (lv_at hl 1 rfl) ?_
            refine lv_dup hx hb dXM_sign_65 rfl ?_
            refine va_get (D := (dC, dI)) (ci := 5) (v := .int (jI mn9)) (C := RXM) (T := TXM) (N := 19) hx hb hts (fun w h => jmem (inXM w h)) hown hK hP 1 rfl rfl 1 (by decide) (hts _ (jmem tw_629)) (fun _ h9 => h9) rfl dXM_sign_66 ?_
            refine ji_iconst hx hb dXM_sign_69 ?_
            refine ji_iadd hx hb dXM_sign_70 ?_
            refine va_put (D := (dC, dI)) (ci := 5) (v := .int (jI (mn9 + 1))) (ty := (.int)) (C := RXM) (T := TXM) (N := 19) hx hb hts (fun w h => jmem (inXM w h)) tyXM tyXM_ok nXM hown hK hP hD hS 1 rfl rfl 1 (by decide) (hts _ (jmem tw_629)) (fun _ h9 => h9) rfl (by decide +kernel) rfl rfl (Nat.le_of_ble_eq_true rfl) dXM_sign_71 (fun H locs hP hD hS => ?_)
            have hP : va_P (dC, dI) vwCl [(a0, .inl (cA, 400, .inl (jA (jset w0 mn9 ((jI ((jL zy >>> ((jI (8 * k)).toInt64 &&& 63)).toInt) &&& jI 255).toInt))))), (ma, .inr (5, [.int (jI mth1'), .int (jI (mn9 + 1)), .ref a0, .int (jI mp), .int (jI mw), .ref a1, .ref a2, .ref a3, .ref a4, .ref a5, .ref a6, .ref a7, .ref a8, .ref a9, .ref a10, .long (jL mu), .long (jL md), .int (jI mo), .ref a11]))] H := hP
            have hD : va_D A [(a0, .inl (cA, 400, .inl (jA (jset w0 mn9 ((jI ((jL zy >>> ((jI (8 * k)).toInt64 &&& 63)).toInt) &&& jI 255).toInt))))), (ma, .inr (5, [.int (jI mth1'), .int (jI (mn9 + 1)), .ref a0, .int (jI mp), .int (jI mw), .ref a1, .ref a2, .ref a3, .ref a4, .ref a5, .ref a6, .ref a7, .ref a8, .ref a9, .ref a10, .long (jL mu), .long (jL md), .int (jI mo), .ref a11]))] := hD
            refine ji_iinc (k := 0) (lv' := [(4, .int (jI (k + (-1)))), (0, .ref ma), (1, .long (jL zy)), (3, .int (jI z1))]) hx hb dXM_sign_74 hl rfl (by decide) rfl (fun ls hl => ?_)
            refine lv_goto (tgt := 38) hx hb dXM_sign_77 (by decide) ?_
            exact ih38 (k + (-1)) (mn9 + 1) (jset w0 mn9 ((jI ((jL zy >>> ((jI (8 * k)).toInt64 &&& 63)).toInt) &&& jI 255).toInt)) (by omega) (by first | assumption | omega | exact jset_b (by assumption) (by omega)) (by first | assumption | omega | exact jset_b (by assumption) (by omega)) (by first | assumption | omega | exact jset_b (by assumption) (by omega)) (by first | assumption | omega | exact jset_b (by assumption) (by omega)) _ _ hP hD hS ls (lv_sub hl [0, 1, 2, 3] rfl)
      exact loop38 (Int.toNat ((z1 - 1) + 1) + 1) (z1 - 1) mn y0 (by omega) (by first | assumption | omega | exact jset_b (by assumption) (by omega)) (by first | assumption | omega | exact jset_b (by assumption) (by omega)) (by first | assumption | omega | exact jset_b (by assumption) (by omega)) (by first | assumption | omega | exact jset_b (by assumption) (by omega)) _ _ hP hD hS ls (lv_sub hl [0, 1, 2, 3] rfl)
    · refine ji_iconst hx hb dXM_sign_31 ?_
      have hP9 := hP.sub (ws' := [(ma, .inr (5, [.int (jI mth1'), .int (jI mn), .ref a0, .int (jI mp), .int (jI mw), .ref a1, .ref a2, .ref a3, .ref a4, .ref a5, .ref a6, .ref a7, .ref a8, .ref a9, .ref a10, .long (jL mu), .long (jL md), .int (jI mo), .ref a11])), (a0, .inl (cA, 400, .inl (jA y0)))]) [1, 0] rfl
      have hD9 := hD.sub (ws' := [(ma, .inr (5, [.int (jI mth1'), .int (jI mn), .ref a0, .int (jI mp), .int (jI mw), .ref a1, .ref a2, .ref a3, .ref a4, .ref a5, .ref a6, .ref a7, .ref a8, .ref a9, .ref a10, .long (jL mu), .long (jL md), .int (jI mo), .ref a11])), (a0, .inl (cA, 400, .inl (jA y0)))]) [1, 0] (by decide) rfl
      subst hAe
      subst hQ
      exact W.iret (v := jI 0) hx hb hr (fun t ht hW => ⟨⟨_, (0, mth1', mn, y0), rfl, ⟨rfl, (show (mth1' = 1 ∧ (z1 < 1 ∨ 8 < z1) ∧ mn = mn) ∨ (mth1' = 2 ∧ 1 ≤ z1 ∧ z1 ≤ 8 ∧ 400 < mn + z1 ∧ mn = mn) ∨ (mth1' = 0 ∧ 1 ≤ z1 ∧ z1 ≤ 8 ∧ mn + z1 ≤ 400 ∧ mn = mn + z1 ∧ (0 : Int) = mn + z1) from by first | assumption | omega | exact jset_b (by assumption) (by omega)), (show 0 ≤ mn ∧ mn ≤ 400 from by first | assumption | omega | exact jset_b (by assumption) (by omega)), (show ∀ i, 0 ≤ y0 i ∧ y0 i ≤ 255 from by first | assumption | omega | exact jset_b (by assumption) (by omega))⟩, ⟨by rw [ht]; exact hP9, va_K.moved hW.alike hK, hD9⟩⟩, hS.F ht⟩) hS.2.2 dXM_sign_32
  · refine ji_iconst hx hb dXM_sign_20 ?_
    refine lv_goto (tgt := 25) hx hb dXM_sign_21 (by decide) ?_
    refine jwVi (rest := []) (wr := [(a0, .inl (cA, 400, .inl (jA y0)))]) ⟨hx, hb, hml, hown, hts⟩ (c_XM_goes l dC dI cA cZ _ ma a0 a1 a2 a3 a4 a5 a6 a7 a8 a9 a10 a11 mth mn mp mw mu md mo (f_XM_in z1 1 8) 1 (by first | assumption | omega | exact jset_b (by assumption) (by omega)) (by first | assumption | omega | exact jset_b (by assumption) (by omega))) (cwV 2 hts (jG_V tw_698 tw_700 ts_14 tw_6 tw_701) rfl rfl rfl (by decide +kernel) (by rw [hR]; exact ⟨Nat.le_of_ble_eq_true rfl, Nat.le_of_ble_eq_true rfl⟩)) hK hP hD hS hA hN [0] [1] rfl rfl (by decide) (by decide) (by decide) 0 5 rfl rfl rfl rfl hl.1 rfl (Nat.le_of_ble_eq_true rfl) dXM_sign_25 (by rw [hR]; exact ⟨Nat.le_of_ble_eq_true rfl, Nat.le_of_ble_eq_true rfl⟩) (fun v6 u5 H locs hwb7 hP hD hS => ?_)
    obtain ⟨r3, mth1'4⟩ := u5
    try dsimp only at hwb7
    obtain ⟨er, f8⟩ := hwb7
    subst er
    have f8 : (r3 = 0 ∧ mth1'4 = 1 ∧ (f_XM_in z1 1 8) = 0) ∨ (r3 = 0 ∧ mth1'4 = 2 ∧ (f_XM_in z1 1 8) = 1 ∧ (1 : Int) = 0) ∨ (r3 = 1 ∧ mth1'4 = 0 ∧ (f_XM_in z1 1 8) = 1 ∧ (1 : Int) = 1) := f8
    have hP : va_P (dC, dI) vwCl [(a0, .inl (cA, 400, .inl (jA y0))), (ma, .inr (5, [.int (jI mth1'4), .int (jI mn), .ref a0, .int (jI mp), .int (jI mw), .ref a1, .ref a2, .ref a3, .ref a4, .ref a5, .ref a6, .ref a7, .ref a8, .ref a9, .ref a10, .long (jL mu), .long (jL md), .int (jI mo), .ref a11]))] H := hP
    have hD : va_D A [(a0, .inl (cA, 400, .inl (jA y0))), (ma, .inr (5, [.int (jI mth1'4), .int (jI mn), .ref a0, .int (jI mp), .int (jI mw), .ref a1, .ref a2, .ref a3, .ref a4, .ref a5, .ref a6, .ref a7, .ref a8, .ref a9, .ref a10, .long (jL mu), .long (jL md), .int (jI mo), .ref a11]))] := hD
    refine ji_if_ne (tgt := 33) hx hb dXM_sign_28 (by decide) (by first | omega | decide) (fun c28_9 => ?_) (fun c28_9 => ?_)
    · refine lv_iload_n hx hb dXM_sign_33 rfl (lv_at hl 2 rfl) ?_
      refine ji_iconst hx hb dXM_sign_34 ?_
      refine ji_isub hx hb dXM_sign_35 ?_
      refine lv_istore (lv' := [(4, .int (jI (z1 - 1))), (0, .ref ma), (1, .long (jL zy)), (3, .int (jI z1))]) hx hb dXM_sign_36 hl (by decide) rfl (fun ls hl => ?_)
      have loop38 : ∀ (n9 : Nat) (k : Int) (mn9 : Int) (w0 : Int → Int) , k + 1 < (n9 : Int) → (-1 ≤ k ∧ k < 8) → (mn9 + k + 1 = mn + z1) → (∀ i, 0 ≤ w0 i ∧ w0 i ≤ 255) → (0 ≤ mn9 ∧ mn + z1 ≤ 400) → ∀ (H : Heap) (locs : List Loc), va_P (dC, dI) vwCl [(a0, .inl (cA, 400, .inl (jA w0))), (ma, .inr (5, [.int (jI mth1'4), .int (jI mn9), .ref a0, .int (jI mp), .int (jI mw), .ref a1, .ref a2, .ref a3, .ref a4, .ref a5, .ref a6, .ref a7, .ref a8, .ref a9, .ref a10, .long (jL mu), .long (jL md), .int (jI mo), .ref a11]))] H → va_D A [(a0, .inl (cA, 400, .inl (jA w0))), (ma, .inr (5, [.int (jI mth1'4), .int (jI mn9), .ref a0, .int (jI mp), .int (jI mw), .ref a1, .ref a2, .ref a3, .ref a4, .ref a5, .ref a6, .ref a7, .ref a8, .ref a9, .ref a10, .long (jL mu), .long (jL md), .int (jI mo), .ref a11]))] → va_S A s.heap H locs → ∀ ls : Array Slot, lv_has ls 5 [(4, .int (jI k)), (0, .ref ma), (1, .long (jL zy)), (3, .int (jI z1))] → W p l e R s m ([.ref ma, .long (jL zy), .int (jI z1)] : List Value).toArray below meth c H locs 0 0 Q (F0 m 38 ls []) := by
        intro n9
        induction n9 with
        | zero =>
          intro k mn9 w0 hm hk hs9 hw0 hn9
          exact absurd hm (by omega)
        | succ n9 ih38 =>
          intro k mn9 w0 hm hk hs9 hw0 hn9 H locs hP hD hS ls hl
          refine lv_iload hx hb dXM_sign_38 (lv_at hl 0 rfl) ?_
          refine ji_if_lt (tgt := 80) hx hb dXM_sign_40 (by decide) (by first | omega | decide) (fun c40_10 => ?_) (fun c40_10 => ?_)
          · refine lv_aload_n hx hb dXM_sign_80 rfl (lv_at hl 1 rfl) ?_
            refine va_get (D := (dC, dI)) (ci := 5) (v := .int (jI mn9)) (C := RXM) (T := TXM) (N := 19) hx hb hts (fun w h => jmem (inXM w h)) hown hK hP 1 rfl rfl 1 (by decide) (hts _ (jmem tw_629)) (fun _ h9 => h9) rfl dXM_sign_81 ?_
            have hP9 := hP.sub (ws' := [(ma, .inr (5, [.int (jI mth1'4), .int (jI mn9), .ref a0, .int (jI mp), .int (jI mw), .ref a1, .ref a2, .ref a3, .ref a4, .ref a5, .ref a6, .ref a7, .ref a8, .ref a9, .ref a10, .long (jL mu), .long (jL md), .int (jI mo), .ref a11])), (a0, .inl (cA, 400, .inl (jA w0)))]) [1, 0] rfl
            have hD9 := hD.sub (ws' := [(ma, .inr (5, [.int (jI mth1'4), .int (jI mn9), .ref a0, .int (jI mp), .int (jI mw), .ref a1, .ref a2, .ref a3, .ref a4, .ref a5, .ref a6, .ref a7, .ref a8, .ref a9, .ref a10, .long (jL mu), .long (jL md), .int (jI mo), .ref a11])), (a0, .inl (cA, 400, .inl (jA w0)))]) [1, 0] (by decide) rfl
            subst hAe
            subst hQ
            exact W.iret (v := jI mn9) hx hb hr (fun t ht hW => ⟨⟨_, (mn9, mth1'4, mn9, w0), rfl, ⟨rfl, (show (mth1'4 = 1 ∧ (z1 < 1 ∨ 8 < z1) ∧ mn9 = mn) ∨ (mth1'4 = 2 ∧ 1 ≤ z1 ∧ z1 ≤ 8 ∧ 400 < mn + z1 ∧ mn9 = mn) ∨ (mth1'4 = 0 ∧ 1 ≤ z1 ∧ z1 ≤ 8 ∧ mn + z1 ≤ 400 ∧ mn9 = mn + z1 ∧ mn9 = mn + z1) from by first | assumption | omega | exact jset_b (by assumption) (by omega)), (show 0 ≤ mn9 ∧ mn9 ≤ 400 from by first | assumption | omega | exact jset_b (by assumption) (by omega)), (show ∀ i, 0 ≤ w0 i ∧ w0 i ≤ 255 from by first | assumption | omega | exact jset_b (by assumption) (by omega))⟩, ⟨by rw [ht]; exact hP9, va_K.moved hW.alike hK, hD9⟩⟩, hS.F ht⟩) hS.2.2 dXM_sign_84
          · refine lv_aload_n hx hb dXM_sign_43 rfl (lv_at hl 1 rfl) ?_
            refine va_get (D := (dC, dI)) (ci := 5) (v := .ref a0) (C := RXM) (T := TXM) (N := 19) hx hb hts (fun w h => jmem (inXM w h)) hown hK hP 1 rfl rfl 2 (by decide) (hts _ (jmem tw_630)) (fun _ h9 => h9) rfl dXM_sign_44 ?_
            refine lv_aload_n hx hb dXM_sign_47 rfl (lv_at hl 1 rfl) ?_
            refine va_get (D := (dC, dI)) (ci := 5) (v := .int (jI mn9)) (C := RXM) (T := TXM) (N := 19) hx hb hts (fun w h => jmem (inXM w h)) hown hK hP 1 rfl rfl 1 (by decide) (hts _ (jmem tw_629)) (fun _ h9 => h9) rfl dXM_sign_48 ?_
            refine lv_lload_n hx hb dXM_sign_51 rfl (lv_at hl 2 rfl) ?_
            refine ji_bipush hx hb dXM_sign_52 (by decide) ?_
            refine lv_iload hx hb dXM_sign_54 (lv_at hl 0 rfl) ?_
            refine ji_imul hx hb dXM_sign_56 ?_
            refine lv_lshr (v := (jL zy >>> ((jI (8 * k)).toInt64 &&& 63))) hx hb dXM_sign_57 rfl ?_
            refine ji_revl ?_
            refine ji_l2i hx hb dXM_sign_58 ?_
            refine ji_sipush hx hb dXM_sign_59 (by decide) ?_
            refine lv_iand hx hb dXM_sign_62 ?_
            refine ji_rev ?_
            have rb11 := jand255 (jI ((jL zy >>> ((jI (8 * k)).toInt64 &&& 63)).toInt))
            refine ji_iast hx hb hK hP hD hS 0 0 rfl rfl ⟨by omega, by omega⟩ (by decide) dXM_sign_63 (fun H locs hP hD hS => ?_)
            have hP : va_P (dC, dI) vwCl [(a0, .inl (cA, 400, .inl (jA (jset w0 mn9 ((jI ((jL zy >>> ((jI (8 * k)).toInt64 &&& 63)).toInt) &&& jI 255).toInt))))), (ma, .inr (5, [.int (jI mth1'4), .int (jI mn9), .ref a0, .int (jI mp), .int (jI mw), .ref a1, .ref a2, .ref a3, .ref a4, .ref a5, .ref a6, .ref a7, .ref a8, .ref a9, .ref a10, .long (jL mu), .long (jL md), .int (jI mo), .ref a11]))] H := hP
            have hD : va_D A [(a0, .inl (cA, 400, .inl (jA (jset w0 mn9 ((jI ((jL zy >>> ((jI (8 * k)).toInt64 &&& 63)).toInt) &&& jI 255).toInt))))), (ma, .inr (5, [.int (jI mth1'4), .int (jI mn9), .ref a0, .int (jI mp), .int (jI mw), .ref a1, .ref a2, .ref a3, .ref a4, .ref a5, .ref a6, .ref a7, .ref a8, .ref a9, .ref a10, .long (jL mu), .long (jL md), .int (jI mo), .ref a11]))] := hD
            refine lv_aload_n hx hb dXM_sign_64 rfl (lv_at hl 1 rfl) ?_
            refine lv_dup hx hb dXM_sign_65 rfl ?_
            refine va_get (D := (dC, dI)) (ci := 5) (v := .int (jI mn9)) (C := RXM) (T := TXM) (N := 19) hx hb hts (fun w h => jmem (inXM w h)) hown hK hP 1 rfl rfl 1 (by decide) (hts _ (jmem tw_629)) (fun _ h9 => h9) rfl dXM_sign_66 ?_
            refine ji_iconst hx hb dXM_sign_69 ?_
            refine ji_iadd hx hb dXM_sign_70 ?_
            refine va_put (D := (dC, dI)) (ci := 5) (v := .int (jI (mn9 + 1))) (ty := (.int)) (C := RXM) (T := TXM) (N := 19) hx hb hts (fun w h => jmem (inXM w h)) tyXM tyXM_ok nXM hown hK hP hD hS 1 rfl rfl 1 (by decide) (hts _ (jmem tw_629)) (fun _ h9 => h9) rfl (by decide +kernel) rfl rfl (Nat.le_of_ble_eq_true rfl) dXM_sign_71 (fun H locs hP hD hS => ?_)
            have hP : va_P (dC, dI) vwCl [(a0, .inl (cA, 400, .inl (jA (jset w0 mn9 ((jI ((jL zy >>> ((jI (8 * k)).toInt64 &&& 63)).toInt) &&& jI 255).toInt))))), (ma, .inr (5, [.int (jI mth1'4), .int (jI (mn9 + 1)), .ref a0, .int (jI mp), .int (jI mw), .ref a1, .ref a2, .ref a3, .ref a4, .ref a5, .ref a6, .ref a7, .ref a8, .ref a9, .ref a10, .long (jL mu), .long (jL md), .int (jI mo), .ref a11]))] H := hP
            have hD : va_D A [(a0, .inl (cA, 400, .inl (jA (jset w0 mn9 ((jI ((jL zy >>> ((jI (8 * k)).toInt64 &&& 63)).toInt) &&& jI 255).toInt))))), (ma, .inr (5, [.int (jI mth1'4), .int (jI (mn9 + 1)), .ref a0, .int (jI mp), .int (jI mw), .ref a1, .ref a2, .ref a3, .ref a4, .ref a5, .ref a6, .ref a7, .ref a8, .ref a9, .ref a10, .long (jL mu), .long (jL md), .int (jI mo), .ref a11]))] := hD
            refine ji_iinc (k := 0) (lv' := [(4, .int (jI (k + (-1)))), (0, .ref ma), (1, .long (jL zy)), (3, .int (jI z1))]) hx hb dXM_sign_74 hl rfl (by decide) rfl (fun ls hl => ?_)
            refine lv_goto (tgt := 38) hx hb dXM_sign_77 (by decide) ?_
            exact ih38 (k + (-1)) (mn9 + 1) (jset w0 mn9 ((jI ((jL zy >>> ((jI (8 * k)).toInt64 &&& 63)).toInt) &&& jI 255).toInt)) (by omega) (by first | assumption | omega | exact jset_b (by assumption) (by omega)) (by first | assumption | omega | exact jset_b (by assumption) (by omega)) (by first | assumption | omega | exact jset_b (by assumption) (by omega)) (by first | assumption | omega | exact jset_b (by assumption) (by omega)) _ _ hP hD hS ls (lv_sub hl [0, 1, 2, 3] rfl)
      exact loop38 (Int.toNat ((z1 - 1) + 1) + 1) (z1 - 1) mn y0 (by omega) (by first | assumption | omega | exact jset_b (by assumption) (by omega)) (by first | assumption | omega | exact jset_b (by assumption) (by omega)) (by first | assumption | omega | exact jset_b (by assumption) (by omega)) (by first | assumption | omega | exact jset_b (by assumption) (by omega)) _ _ hP hD hS ls (lv_sub hl [0, 1, 2, 3] rfl)
    · refine ji_iconst hx hb dXM_sign_31 ?_
      have hP9 := hP.sub (ws' := [(ma, .inr (5, [.int (jI mth1'4), .int (jI mn), .ref a0, .int (jI mp), .int (jI mw), .ref a1, .ref a2, .ref a3, .ref a4, .ref a5, .ref a6, .ref a7, .ref a8, .ref a9, .ref a10, .long (jL mu), .long (jL md), .int (jI mo), .ref a11])), (a0, .inl (cA, 400, .inl (jA y0)))]) [1, 0] rfl
      have hD9 := hD.sub (ws' := [(ma, .inr (5, [.int (jI mth1'4), .int (jI mn), .ref a0, .int (jI mp), .int (jI mw), .ref a1, .ref a2, .ref a3, .ref a4, .ref a5, .ref a6, .ref a7, .ref a8, .ref a9, .ref a10, .long (jL mu), .long (jL md), .int (jI mo), .ref a11])), (a0, .inl (cA, 400, .inl (jA y0)))]) [1, 0] (by decide) rfl
      subst hAe
      subst hQ
      exact W.iret (v := jI 0) hx hb hr (fun t ht hW => ⟨⟨_, (0, mth1'4, mn, y0), rfl, ⟨rfl, (show (mth1'4 = 1 ∧ (z1 < 1 ∨ 8 < z1) ∧ mn = mn) ∨ (mth1'4 = 2 ∧ 1 ≤ z1 ∧ z1 ≤ 8 ∧ 400 < mn + z1 ∧ mn = mn) ∨ (mth1'4 = 0 ∧ 1 ≤ z1 ∧ z1 ≤ 8 ∧ mn + z1 ≤ 400 ∧ mn = mn + z1 ∧ (0 : Int) = mn + z1) from by first | assumption | omega | exact jset_b (by assumption) (by omega)), (show 0 ≤ mn ∧ mn ≤ 400 from by first | assumption | omega | exact jset_b (by assumption) (by omega)), (show ∀ i, 0 ≤ y0 i ∧ y0 i ≤ 255 from by first | assumption | omega | exact jset_b (by assumption) (by omega))⟩, ⟨by rw [ht]; exact hP9, va_K.moved hW.alike hK, hD9⟩⟩, hS.F ht⟩) hS.2.2 dXM_sign_32
