section
theorem jset_l {f g : Int → Int} {b k v : Int} (h : ∀ i, i < b → f i = g i) (hk : b ≤ k) : ∀ i, i < b → jset f k v i = g i := by
  intro i hi; unfold jset; rw [if_neg (by omega)]; exact h i hi
theorem l_trans {f g h : Int → Int} {b : Int} (h1 : ∀ i, i < b → f i = g i) (h2 : ∀ i, i < b → g i = h i) : ∀ i, i < b → f i = h i := fun i hi => (h1 i hi).trans (h2 i hi)
noncomputable def g_XM_seeP_L0 (mth : Int) (mn : Int) (mp : Int) (mw : Int) (mu : Int) (md : Int) (mo : Int) (y0 : Int → Int) : Nat → Int → Int × Int
  | 0, _ => (0, 0)
  | n9 + 1, k =>
    if (f_XM_here mth mn k mw mu md mo y0) = 32 then
      g_XM_seeP_L0 mth mn mp mw mu md mo y0 n9 (k + 1)
    else
      (f_XM_here mth mn k mw mu md mo y0, k)
noncomputable def f_XM_seeP_L0 : Int → Int → Int → Int → Int → Int → Int → (Int → Int) → Nat → Int → Int × Int := jopq g_XM_seeP_L0
theorem f_XM_seeP_L0_q : f_XM_seeP_L0 = g_XM_seeP_L0 := jopq_eq _
theorem f_XM_seeP_L0_s (mth : Int) (mn : Int) (mp : Int) (mw : Int) (mu : Int) (md : Int) (mo : Int) (y0 : Int → Int) (n9 : Nat) (k : Int) : f_XM_seeP_L0 mth mn mp mw mu md mo y0 (n9 + 1) k = (
    if (f_XM_here mth mn k mw mu md mo y0) = 32 then
      f_XM_seeP_L0 mth mn mp mw mu md mo y0 n9 (k + 1)
    else
      (f_XM_here mth mn k mw mu md mo y0, k)
  : Int × Int) := by rw [f_XM_seeP_L0_q]; rfl
noncomputable def g_XM_seeP (mth : Int) (mn : Int) (mp : Int) (mw : Int) (mu : Int) (md : Int) (mo : Int) (y0 : Int → Int) : Int × Int :=
  f_XM_seeP_L0 mth mn mp mw mu md mo y0 (Int.toNat (mn - mp) + 1) mp
noncomputable def f_XM_seeP : Int → Int → Int → Int → Int → Int → Int → (Int → Int) → Int × Int := jopq g_XM_seeP
theorem f_XM_seeP_q : f_XM_seeP = g_XM_seeP := jopq_eq _
theorem f_XM_seeP_s (mth : Int) (mn : Int) (mp : Int) (mw : Int) (mu : Int) (md : Int) (mo : Int) (y0 : Int → Int) : f_XM_seeP mth mn mp mw mu md mo y0 = (
    f_XM_seeP_L0 mth mn mp mw mu md mo y0 (Int.toNat (mn - mp) + 1) mp
  : Int × Int) := by rw [f_XM_seeP_q]; rfl
set_option maxHeartbeats 4000000 in
set_option maxRecDepth 100000 in
theorem c_XM_seeP (l : Launch) (dC : Nat → ClassId) (dI : Nat → Nat → Nat) (cA cZ : ClassId) (sz : Nat) (ma : Nat) (a0 : Nat) (a1 : Nat) (a2 : Nat) (a3 : Nat) (a4 : Nat) (a5 : Nat) (a6 : Nat) (a7 : Nat) (a8 : Nat) (a9 : Nat) (a10 : Nat) (a11 : Nat) (mth : Int) (mn : Int) (mp : Int) (mw : Int) (mu : Int) (md : Int) (mo : Int) (y0 : Int → Int) (hy0 : ∀ i, 0 ≤ y0 i ∧ y0 i ≤ 255) (hmn : 0 ≤ mn ∧ mn ≤ 400) (hmp : 0 ≤ mp ∧ mp ≤ mn) : Met l yXM_see (Cond.code yXM_see cXM_see 1 (some .int) :: TBL) ({ frames := 1, cells := 0, slots := 0, locals := 20 } : Room) (va_Pc [.ref ma] (jBw (dC, dI) [(cA, .int), (cZ, .boolean)] [(ma, .inr (5, [.int (jI mth), .int (jI mn), .ref a0, .int (jI mp), .int (jI mw), .ref a1, .ref a2, .ref a3, .ref a4, .ref a5, .ref a6, .ref a7, .ref a8, .ref a9, .ref a10, .long (jL mu), .long (jL md), .int (jI mo), .ref a11])), (a0, .inl (cA, 400, .inl (jA y0)))] sz)) (va_Qi (fun (r : Int32) (u : Int × Int) => r = jI u.1 ∧ u = f_XM_seeP mth mn mp mw mu md mo y0 ∧ (-1 ≤ u.1 ∧ u.1 ≤ 255 ∧ (0 ≤ u.1 → u.2 < mn)) ∧ (mp ≤ u.2 ∧ u.2 ≤ mn) ∧ ((u.2 < mn ∧ u.1 = y0 u.2) ∨ (u.2 = mn ∧ u.1 = -1))) (fun u t => jE (dC, dI) [(cA, .int), (cZ, .boolean)] [(ma, .inr (5, [.int (jI mth), .int (jI mn), .ref a0, .int (jI mp), .int (jI mw), .ref a1, .ref a2, .ref a3, .ref a4, .ref a5, .ref a6, .ref a7, .ref a8, .ref a9, .ref a10, .long (jL mu), .long (jL md), .int (jI mo), .ref a11])), (a0, .inl (cA, 400, .inl (jA y0)))] sz [(ma, .inr (5, [.int (jI mth), .int (jI mn), .ref a0, .int (jI u.2), .int (jI mw), .ref a1, .ref a2, .ref a3, .ref a4, .ref a5, .ref a6, .ref a7, .ref a8, .ref a9, .ref a10, .long (jL mu), .long (jL md), .int (jI mo), .ref a11])), (a0, .inl (cA, 400, .inl (jA y0)))] t) (va_A [(ma, .inr (5, [.int (jI mth), .int (jI mn), .ref a0, .int (jI mp), .int (jI mw), .ref a1, .ref a2, .ref a3, .ref a4, .ref a5, .ref a6, .ref a7, .ref a8, .ref a9, .ref a10, .long (jL mu), .long (jL md), .int (jI mo), .ref a11])), (a0, .inl (cA, 400, .inl (jA y0)))] sz)) 0 0 (va_A [(ma, .inr (5, [.int (jI mth), .int (jI mn), .ref a0, .int (jI mp), .int (jI mw), .ref a1, .ref a2, .ref a3, .ref a4, .ref a5, .ref a6, .ref a7, .ref a8, .ref a9, .ref a10, .long (jL mu), .long (jL md), .int (jI mo), .ref a11])), (a0, .inl (cA, 400, .inl (jA y0)))] sz) := by
  refine jMet (cc := cXM_see) (maxL := 1) (ret := some .int) (by decide) rfl ?_
  intro p e s m args below meth c s₁ R Q hR hQ B hml hv
  obtain ⟨rfl, hsz, hP, hK, hD0, hN⟩ := hv
  have hx := B.exec
  have hb := B.bytes
  have hr := B.returns
  have hts := atoms_spec (ws := Cond.code yXM_see cXM_see 1 (some .int) :: TBL) B.pre
  have hown : s.vm.findClass RXM = some m.cls := findClass_of_methodNamed B.named
  have hlocks := B.notSynchronized
  subst hsz
  obtain ⟨A, hAe⟩ : ∃ A, A = va_A [(ma, .inr (5, [.int (jI mth), .int (jI mn), .ref a0, .int (jI mp), .int (jI mw), .ref a1, .ref a2, .ref a3, .ref a4, .ref a5, .ref a6, .ref a7, .ref a8, .ref a9, .ref a10, .long (jL mu), .long (jL md), .int (jI mo), .ref a11])), (a0, .inl (cA, 400, .inl (jA y0)))] s.heap.size := ⟨_, rfl⟩
  have hD : va_D A [(ma, .inr (5, [.int (jI mth), .int (jI mn), .ref a0, .int (jI mp), .int (jI mw), .ref a1, .ref a2, .ref a3, .ref a4, .ref a5, .ref a6, .ref a7, .ref a8, .ref a9, .ref a10, .long (jL mu), .long (jL md), .int (jI mo), .ref a11])), (a0, .inl (cA, 400, .inl (jA y0)))] := by rw [hAe]; exact hD0.self
  have hA : ∀ q : Nat, s.heap.size ≤ q → A q := fun q h => by rw [hAe]; exact Or.inr h
  have hS : va_S A s.heap s.heap [] := va_S.rf
  have hP : va_P (dC, dI) vwCl [(ma, .inr (5, [.int (jI mth), .int (jI mn), .ref a0, .int (jI mp), .int (jI mw), .ref a1, .ref a2, .ref a3, .ref a4, .ref a5, .ref a6, .ref a7, .ref a8, .ref a9, .ref a10, .long (jL mu), .long (jL md), .int (jI mo), .ref a11])), (a0, .inl (cA, 400, .inl (jA y0)))] s.heap := hP
  have hl := lv_entry ([.ref ma]) (n := 1) (Nat.le_of_ble_eq_true rfl)
  rw [lg_entry_eq]
  generalize (lg_sl ([.ref ma]) ++ List.replicate (1 - (lg_sl ([.ref ma])).length) Slot.unset).toArray = ls at hl ⊢
  have hl : lv_has ls 1 [(0, .ref ma)] := hl
  have loop0 : ∀ (n9 : Nat) (k : Int) , mn - k < (n9 : Int) → f_XM_seeP_L0 mth mn mp mw mu md mo y0 n9 k = f_XM_seeP mth mn mp mw mu md mo y0 → (0 ≤ k ∧ k ≤ mn) → (mp ≤ k) → ∀ (H : Heap) (locs : List Loc), va_P (dC, dI) vwCl [(ma, .inr (5, [.int (jI mth), .int (jI mn), .ref a0, .int (jI k), .int (jI mw), .ref a1, .ref a2, .ref a3, .ref a4, .ref a5, .ref a6, .ref a7, .ref a8, .ref a9, .ref a10, .long (jL mu), .long (jL md), .int (jI mo), .ref a11])), (a0, .inl (cA, 400, .inl (jA y0)))] H → va_D A [(ma, .inr (5, [.int (jI mth), .int (jI mn), .ref a0, .int (jI k), .int (jI mw), .ref a1, .ref a2, .ref a3, .ref a4, .ref a5, .ref a6, .ref a7, .ref a8, .ref a9, .ref a10, .long (jL mu), .long (jL md), .int (jI mo), .ref a11])), (a0, .inl (cA, 400, .inl (jA y0)))] → va_S A s.heap H locs → ∀ ls : Array Slot, lv_has ls 1 [(0, .ref ma)] → W p l e R s m ([.ref ma] : List Value).toArray below meth c H locs 0 0 Q (F0 m 0 ls []) := by
    intro n9
    induction n9 with
    | zero =>
      intro k hm hF hk hk2
      exact absurd hm (by omega)
    | succ n9 ih0 =>
      intro k hm hF hk hk2 H locs hP hD hS ls hl
      refine lv_aload_n hx hb dXM_see_0 rfl (lv_at hl 0 rfl) ?_
      refine jrVi (rest := []) ⟨hx, hb, hml, hown, hts⟩ (c_XM_here l dC dI cA cZ ma a0 a1 a2 a3 a4 a5 a6 a7 a8 a9 a10 a11 mth mn k mw mu md mo y0 (by first | assumption | omega) (by first | assumption | omega) (by first | assumption | omega)) (cwV 0 hts (jG_V tw_714 tw_716 ts_17 tw_6 tw_717) rfl rfl rfl (by decide +kernel) (by rw [hR]; exact ⟨Nat.le_of_ble_eq_true rfl, Nat.le_of_ble_eq_true rfl⟩)) hK hP hN [0, 1] rfl 0 5 rfl rfl rfl rfl hl.1 rfl (Nat.le_of_ble_eq_true rfl) dXM_see_1 (by rw [hR]; exact ⟨Nat.le_of_ble_eq_true rfl, Nat.le_of_ble_eq_true rfl⟩) ?_
      have f := f_XM_here_b mth mn k mw mu md mo y0 (by first | assumption | omega) (by first | assumption | omega) (by first | assumption | omega)
      have f1 := f_XM_here_v mth mn k mw mu md mo y0 (by first | assumption | omega) (by first | assumption | omega) (by first | assumption | omega)
      refine ji_bipush hx hb dXM_see_4 (by decide) ?_
      refine ji_icmp_ne (tgt := 22) hx hb dXM_see_6 (by decide) (by omega) (by omega) (fun c6_ => ?_) (fun c6_ => ?_)
      · refine lv_aload_n hx hb dXM_see_22 rfl (lv_at hl 0 rfl) ?_
        refine jrVi (rest := []) ⟨hx, hb, hml, hown, hts⟩ (c_XM_here l dC dI cA cZ ma a0 a1 a2 a3 a4 a5 a6 a7 a8 a9 a10 a11 mth mn k mw mu md mo y0 (by first | assumption | omega) (by first | assumption | omega) (by first | assumption | omega)) (cwV 0 hts (jG_V tw_714 tw_716 ts_17 tw_6 tw_717) rfl rfl rfl (by decide +kernel) (by rw [hR]; exact ⟨Nat.le_of_ble_eq_true rfl, Nat.le_of_ble_eq_true rfl⟩)) hK hP hN [0, 1] rfl 0 5 rfl rfl rfl rfl hl.1 rfl (Nat.le_of_ble_eq_true rfl) dXM_see_23 (by rw [hR]; exact ⟨Nat.le_of_ble_eq_true rfl, Nat.le_of_ble_eq_true rfl⟩) ?_
        have f2 := f_XM_here_b mth mn k mw mu md mo y0 (by first | assumption | omega) (by first | assumption | omega) (by first | assumption | omega)
        have f3 := f_XM_here_v mth mn k mw mu md mo y0 (by first | assumption | omega) (by first | assumption | omega) (by first | assumption | omega)
        have hP9 := hP.sub (ws' := [(ma, .inr (5, [.int (jI mth), .int (jI mn), .ref a0, .int (jI k), .int (jI mw), .ref a1, .ref a2, .ref a3, .ref a4, .ref a5, .ref a6, .ref a7, .ref a8, .ref a9, .ref a10, .long (jL mu), .long (jL md), .int (jI mo), .ref a11])), (a0, .inl (cA, 400, .inl (jA y0)))]) [0, 1] rfl
        have hD9 := hD.sub (ws' := [(ma, .inr (5, [.int (jI mth), .int (jI mn), .ref a0, .int (jI k), .int (jI mw), .ref a1, .ref a2, .ref a3, .ref a4, .ref a5, .ref a6, .ref a7, .ref a8, .ref a9, .ref a10, .long (jL mu), .long (jL md), .int (jI mo), .ref a11])), (a0, .inl (cA, 400, .inl (jA y0)))]) [0, 1] (by decide) rfl
        subst hAe
        subst hQ
        exact W.iret (v := jI (f_XM_here mth mn k mw mu md mo y0)) hx hb hr (fun t ht hW => ⟨⟨_, (f_XM_here mth mn k mw mu md mo y0, k), rfl, ⟨rfl, Eq.trans (by rw [f_XM_seeP_L0_s]; rw [if_neg c6_]; try rfl) hF, show -1 ≤ (f_XM_here mth mn k mw mu md mo y0) ∧ (f_XM_here mth mn k mw mu md mo y0) ≤ 255 ∧ (0 ≤ (f_XM_here mth mn k mw mu md mo y0) → k < mn) from by first | assumption | omega | exact jset_b (by assumption) (by omega) | exact jset_l (by assumption) (by omega) | exact jset_l (fun _ _ => rfl) (by omega) | exact fun _ _ => rfl | exact l_trans (by assumption) (by assumption), show mp ≤ k ∧ k ≤ mn from by first | assumption | omega | exact jset_b (by assumption) (by omega) | exact jset_l (by assumption) (by omega) | exact jset_l (fun _ _ => rfl) (by omega) | exact fun _ _ => rfl | exact l_trans (by assumption) (by assumption), show (k < mn ∧ (f_XM_here mth mn k mw mu md mo y0) = y0 k) ∨ (k = mn ∧ (f_XM_here mth mn k mw mu md mo y0) = -1) from by first | assumption | omega | exact jset_b (by assumption) (by omega) | exact jset_l (by assumption) (by omega) | exact jset_l (fun _ _ => rfl) (by omega) | exact fun _ _ => rfl | exact l_trans (by assumption) (by assumption)⟩, ⟨by rw [ht]; exact hP9, va_K.moved hW.alike hK, hD9⟩⟩, hS.F ht⟩) hS.2.2 dXM_see_26
      · refine lv_aload_n hx hb dXM_see_9 rfl (lv_at hl 0 rfl) ?_
        refine lv_dup hx hb dXM_see_10 rfl ?_
        refine va_get (D := (dC, dI)) (ci := 5) (v := .int (jI k)) (C := RXM) (T := TXM) (N := 19) hx hb hts (fun w h => jmem (inXM w h)) hown hK hP 0 rfl rfl 3 (by decide) (hts _ (jmem tw_631)) (fun _ h9 => h9) rfl dXM_see_11 ?_
        refine ji_iconst hx hb dXM_see_14 ?_
        refine ji_iadd hx hb dXM_see_15 ?_
        refine va_put (D := (dC, dI)) (ci := 5) (v := .int (jI (k + 1))) (ty := (.int)) (C := RXM) (T := TXM) (N := 19) hx hb hts (fun w h => jmem (inXM w h)) tyXM tyXM_ok nXM hown hK hP hD hS 0 rfl rfl 3 (by decide) (hts _ (jmem tw_631)) (fun _ h9 => h9) rfl (by decide +kernel) rfl rfl (Nat.le_of_ble_eq_true rfl) dXM_see_16 (fun H locs hP hD hS => ?_)
        have hP : va_P (dC, dI) vwCl [(ma, .inr (5, [.int (jI mth), .int (jI mn), .ref a0, .int (jI (k + 1)), .int (jI mw), .ref a1, .ref a2, .ref a3, .ref a4, .ref a5, .ref a6, .ref a7, .ref a8, .ref a9, .ref a10, .long (jL mu), .long (jL md), .int (jI mo), .ref a11])), (a0, .inl (cA, 400, .inl (jA y0)))] H := hP
        have hD : va_D A [(ma, .inr (5, [.int (jI mth), .int (jI mn), .ref a0, .int (jI (k + 1)), .int (jI mw), .ref a1, .ref a2, .ref a3, .ref a4, .ref a5, .ref a6, .ref a7, .ref a8, .ref a9, .ref a10, .long (jL mu), .long (jL md), .int (jI mo), .ref a11])), (a0, .inl (cA, 400, .inl (jA y0)))] := hD
        refine lv_goto (tgt := 0) hx hb dXM_see_19 (by decide) ?_
        exact ih0 (k + 1) (by omega) (Eq.trans (by rw [f_XM_seeP_L0_s]; rw [if_pos c6_]; try rfl) hF) (by first | assumption | omega) (by first | assumption | omega) _ _ hP hD hS ls (lv_sub hl [0] rfl)
  exact loop0 (Int.toNat (mn - mp) + 1) mp (by omega) (Eq.trans (by rw [f_XM_seeP_s]; try rfl) rfl) (by first | assumption | omega) (by first | assumption | omega) _ _ hP hD hS ls (lv_sub hl [0] rfl)
noncomputable def g_XM_failP (mth : Int) (mn : Int) (mp : Int) (mw : Int) (mu : Int) (md : Int) (mo : Int) (z1 : Int) : Int :=
  if mw < 0 then
    z1
  else
    mw
noncomputable def f_XM_failP : Int → Int → Int → Int → Int → Int → Int → Int → Int := jopq g_XM_failP
theorem f_XM_failP_q : f_XM_failP = g_XM_failP := jopq_eq _
theorem f_XM_failP_s (mth : Int) (mn : Int) (mp : Int) (mw : Int) (mu : Int) (md : Int) (mo : Int) (z1 : Int) : f_XM_failP mth mn mp mw mu md mo z1 = (
    if mw < 0 then
      z1
    else
      mw
  : Int) := by rw [f_XM_failP_q]; rfl
set_option maxHeartbeats 4000000 in
set_option maxRecDepth 100000 in
theorem c_XM_failP (l : Launch) (dC : Nat → ClassId) (dI : Nat → Nat → Nat) (cA cZ : ClassId) (sz : Nat) (ma : Nat) (a0 : Nat) (a1 : Nat) (a2 : Nat) (a3 : Nat) (a4 : Nat) (a5 : Nat) (a6 : Nat) (a7 : Nat) (a8 : Nat) (a9 : Nat) (a10 : Nat) (a11 : Nat) (mth : Int) (mn : Int) (mp : Int) (mw : Int) (mu : Int) (md : Int) (mo : Int) (z1 : Int) (hmw : -1 ≤ mw ∧ mw ≤ 400) (hz1 : -1 ≤ z1 ∧ z1 ≤ 400) : Met l yXM_fail (Cond.code yXM_fail cXM_fail 2 none :: TBL) ({ frames := 0, cells := 0, slots := 0, locals := 0 } : Room) (va_Pc [.ref ma, .int (jI z1)] (jBw (dC, dI) [(cA, .int), (cZ, .boolean)] [(ma, .inr (5, [.int (jI mth), .int (jI mn), .ref a0, .int (jI mp), .int (jI mw), .ref a1, .ref a2, .ref a3, .ref a4, .ref a5, .ref a6, .ref a7, .ref a8, .ref a9, .ref a10, .long (jL mu), .long (jL md), .int (jI mo), .ref a11]))] sz)) (va_Qv (fun (u : Int) => u = f_XM_failP mth mn mp mw mu md mo z1 ∧ ((0 ≤ mw ∧ u = mw) ∨ (mw < 0 ∧ u = z1))) (fun u t => jE (dC, dI) [(cA, .int), (cZ, .boolean)] [(ma, .inr (5, [.int (jI mth), .int (jI mn), .ref a0, .int (jI mp), .int (jI mw), .ref a1, .ref a2, .ref a3, .ref a4, .ref a5, .ref a6, .ref a7, .ref a8, .ref a9, .ref a10, .long (jL mu), .long (jL md), .int (jI mo), .ref a11]))] sz [(ma, .inr (5, [.int (jI mth), .int (jI mn), .ref a0, .int (jI mp), .int (jI u), .ref a1, .ref a2, .ref a3, .ref a4, .ref a5, .ref a6, .ref a7, .ref a8, .ref a9, .ref a10, .long (jL mu), .long (jL md), .int (jI mo), .ref a11]))] t) (va_A [(ma, .inr (5, [.int (jI mth), .int (jI mn), .ref a0, .int (jI mp), .int (jI mw), .ref a1, .ref a2, .ref a3, .ref a4, .ref a5, .ref a6, .ref a7, .ref a8, .ref a9, .ref a10, .long (jL mu), .long (jL md), .int (jI mo), .ref a11]))] sz)) 0 0 (va_A [(ma, .inr (5, [.int (jI mth), .int (jI mn), .ref a0, .int (jI mp), .int (jI mw), .ref a1, .ref a2, .ref a3, .ref a4, .ref a5, .ref a6, .ref a7, .ref a8, .ref a9, .ref a10, .long (jL mu), .long (jL md), .int (jI mo), .ref a11]))] sz) := by
  refine jMet (cc := cXM_fail) (maxL := 2) (ret := none) (by decide) rfl ?_
  intro p e s m args below meth c s₁ R Q hR hQ B hml hv
  obtain ⟨rfl, hsz, hP, hK, hD0, hN⟩ := hv
  have hx := B.exec
  have hb := B.bytes
  have hr := B.returns
  have hts := atoms_spec (ws := Cond.code yXM_fail cXM_fail 2 none :: TBL) B.pre
  have hown : s.vm.findClass RXM = some m.cls := findClass_of_methodNamed B.named
  have hlocks := B.notSynchronized
  subst hsz
  obtain ⟨A, hAe⟩ : ∃ A, A = va_A [(ma, .inr (5, [.int (jI mth), .int (jI mn), .ref a0, .int (jI mp), .int (jI mw), .ref a1, .ref a2, .ref a3, .ref a4, .ref a5, .ref a6, .ref a7, .ref a8, .ref a9, .ref a10, .long (jL mu), .long (jL md), .int (jI mo), .ref a11]))] s.heap.size := ⟨_, rfl⟩
  have hD : va_D A [(ma, .inr (5, [.int (jI mth), .int (jI mn), .ref a0, .int (jI mp), .int (jI mw), .ref a1, .ref a2, .ref a3, .ref a4, .ref a5, .ref a6, .ref a7, .ref a8, .ref a9, .ref a10, .long (jL mu), .long (jL md), .int (jI mo), .ref a11]))] := by rw [hAe]; exact hD0.self
  have hA : ∀ q : Nat, s.heap.size ≤ q → A q := fun q h => by rw [hAe]; exact Or.inr h
  have hS : va_S A s.heap s.heap [] := va_S.rf
  have hP : va_P (dC, dI) vwCl [(ma, .inr (5, [.int (jI mth), .int (jI mn), .ref a0, .int (jI mp), .int (jI mw), .ref a1, .ref a2, .ref a3, .ref a4, .ref a5, .ref a6, .ref a7, .ref a8, .ref a9, .ref a10, .long (jL mu), .long (jL md), .int (jI mo), .ref a11]))] s.heap := hP
  have hl := lv_entry ([.ref ma, .int (jI z1)]) (n := 2) (Nat.le_of_ble_eq_true rfl)
  rw [lg_entry_eq]
  generalize (lg_sl ([.ref ma, .int (jI z1)]) ++ List.replicate (2 - (lg_sl ([.ref ma, .int (jI z1)])).length) Slot.unset).toArray = ls at hl ⊢
  have hl : lv_has ls 2 [(0, .ref ma), (1, .int (jI z1))] := hl
  refine lv_aload_n hx hb dXM_fail_0 rfl (lv_at hl 0 rfl) ?_
  refine va_get (D := (dC, dI)) (ci := 5) (v := .int (jI mw)) (C := RXM) (T := TXM) (N := 19) hx hb hts (fun w h => jmem (inXM w h)) hown hK hP 0 rfl rfl 4 (by decide) (hts _ (jmem tw_632)) (fun _ h9 => h9) rfl dXM_fail_1 ?_
  refine ji_if_ge (tgt := 12) hx hb dXM_fail_4 (by decide) (by omega) (fun c4_ => ?_) (fun c4_ => ?_)
  · have hP9 := hP.sub (ws' := [(ma, .inr (5, [.int (jI mth), .int (jI mn), .ref a0, .int (jI mp), .int (jI mw), .ref a1, .ref a2, .ref a3, .ref a4, .ref a5, .ref a6, .ref a7, .ref a8, .ref a9, .ref a10, .long (jL mu), .long (jL md), .int (jI mo), .ref a11]))]) [0] rfl
    have hD9 := hD.sub (ws' := [(ma, .inr (5, [.int (jI mth), .int (jI mn), .ref a0, .int (jI mp), .int (jI mw), .ref a1, .ref a2, .ref a3, .ref a4, .ref a5, .ref a6, .ref a7, .ref a8, .ref a9, .ref a10, .long (jL mu), .long (jL md), .int (jI mo), .ref a11]))]) [0] (by decide) rfl
    subst hAe
    subst hQ
    exact W.vret hx hb hr (fun t ht hW => ⟨⟨mw, rfl, ⟨Eq.trans (by rw [f_XM_failP_s]; rw [if_neg (Int.not_lt.mpr c4_)]; try rfl) rfl, show (0 ≤ mw ∧ mw = mw) ∨ (mw < 0 ∧ mw = z1) from by first | assumption | omega | exact jset_b (by assumption) (by omega) | exact jset_l (by assumption) (by omega) | exact jset_l (fun _ _ => rfl) (by omega) | exact fun _ _ => rfl | exact l_trans (by assumption) (by assumption)⟩, ⟨by rw [ht]; exact hP9, va_K.moved hW.alike hK, hD9⟩⟩, hS.F ht⟩) hS.2.2 dXM_fail_12
  · refine lv_aload_n hx hb dXM_fail_7 rfl (lv_at hl 0 rfl) ?_
    refine lv_iload_n hx hb dXM_fail_8 rfl (lv_at hl 1 rfl) ?_
    refine va_put (D := (dC, dI)) (ci := 5) (v := .int (jI z1)) (ty := (.int)) (C := RXM) (T := TXM) (N := 19) hx hb hts (fun w h => jmem (inXM w h)) tyXM tyXM_ok nXM hown hK hP hD hS 0 rfl rfl 4 (by decide) (hts _ (jmem tw_632)) (fun _ h9 => h9) rfl (by decide +kernel) rfl rfl (Nat.le_of_ble_eq_true rfl) dXM_fail_9 (fun H locs hP hD hS => ?_)
    have hP : va_P (dC, dI) vwCl [(ma, .inr (5, [.int (jI mth), .int (jI mn), .ref a0, .int (jI mp), .int (jI z1), .ref a1, .ref a2, .ref a3, .ref a4, .ref a5, .ref a6, .ref a7, .ref a8, .ref a9, .ref a10, .long (jL mu), .long (jL md), .int (jI mo), .ref a11]))] H := hP
    have hD : va_D A [(ma, .inr (5, [.int (jI mth), .int (jI mn), .ref a0, .int (jI mp), .int (jI z1), .ref a1, .ref a2, .ref a3, .ref a4, .ref a5, .ref a6, .ref a7, .ref a8, .ref a9, .ref a10, .long (jL mu), .long (jL md), .int (jI mo), .ref a11]))] := hD
    have hP9 := hP.sub (ws' := [(ma, .inr (5, [.int (jI mth), .int (jI mn), .ref a0, .int (jI mp), .int (jI z1), .ref a1, .ref a2, .ref a3, .ref a4, .ref a5, .ref a6, .ref a7, .ref a8, .ref a9, .ref a10, .long (jL mu), .long (jL md), .int (jI mo), .ref a11]))]) [0] rfl
    have hD9 := hD.sub (ws' := [(ma, .inr (5, [.int (jI mth), .int (jI mn), .ref a0, .int (jI mp), .int (jI z1), .ref a1, .ref a2, .ref a3, .ref a4, .ref a5, .ref a6, .ref a7, .ref a8, .ref a9, .ref a10, .long (jL mu), .long (jL md), .int (jI mo), .ref a11]))]) [0] (by decide) rfl
    subst hAe
    subst hQ
    exact W.vret hx hb hr (fun t ht hW => ⟨⟨z1, rfl, ⟨Eq.trans (by rw [f_XM_failP_s]; rw [if_pos c4_]; try rfl) rfl, show (0 ≤ mw ∧ z1 = mw) ∨ (mw < 0 ∧ z1 = z1) from by first | assumption | omega | exact jset_b (by assumption) (by omega) | exact jset_l (by assumption) (by omega) | exact jset_l (fun _ _ => rfl) (by omega) | exact fun _ _ => rfl | exact l_trans (by assumption) (by assumption)⟩, ⟨by rw [ht]; exact hP9, va_K.moved hW.alike hK, hD9⟩⟩, hS.F ht⟩) hS.2.2 dXM_fail_12
noncomputable def g_XM_takesP (mth : Int) (mn : Int) (mp : Int) (mw : Int) (mu : Int) (md : Int) (mo : Int) (y0 : Int → Int) (z1 : Int) : Int × Int :=
  if mw < 0 then
    match f_XM_seeP mth mn mp mw mu md mo y0 with
    | (r, mp1') =>
      if r = z1 then
        (1, mp1' + 1)
      else
        (0, mp1')
  else
    (0, mp)
noncomputable def f_XM_takesP : Int → Int → Int → Int → Int → Int → Int → (Int → Int) → Int → Int × Int := jopq g_XM_takesP
theorem f_XM_takesP_q : f_XM_takesP = g_XM_takesP := jopq_eq _
theorem f_XM_takesP_s (mth : Int) (mn : Int) (mp : Int) (mw : Int) (mu : Int) (md : Int) (mo : Int) (y0 : Int → Int) (z1 : Int) : f_XM_takesP mth mn mp mw mu md mo y0 z1 = (
    if mw < 0 then
      match f_XM_seeP mth mn mp mw mu md mo y0 with
      | (r, mp1') =>
        if r = z1 then
          (1, mp1' + 1)
        else
          (0, mp1')
    else
      (0, mp)
  : Int × Int) := by rw [f_XM_takesP_q]; rfl
set_option maxHeartbeats 4000000 in
set_option maxRecDepth 100000 in
theorem c_XM_takesP (l : Launch) (dC : Nat → ClassId) (dI : Nat → Nat → Nat) (cA cZ : ClassId) (sz : Nat) (ma : Nat) (a0 : Nat) (a1 : Nat) (a2 : Nat) (a3 : Nat) (a4 : Nat) (a5 : Nat) (a6 : Nat) (a7 : Nat) (a8 : Nat) (a9 : Nat) (a10 : Nat) (a11 : Nat) (mth : Int) (mn : Int) (mp : Int) (mw : Int) (mu : Int) (md : Int) (mo : Int) (y0 : Int → Int) (z1 : Int) (hy0 : ∀ i, 0 ≤ y0 i ∧ y0 i ≤ 255) (hmn : 0 ≤ mn ∧ mn ≤ 400) (hmp : 0 ≤ mp ∧ mp ≤ mn) (hmw : -1 ≤ mw ∧ mw ≤ 400) (hz1 : 0 ≤ z1 ∧ z1 ≤ 255) : Met l yXM_takes (Cond.code yXM_takes cXM_takes 2 (some .boolean) :: TBL) ({ frames := 2, cells := 0, slots := 0, locals := 40 } : Room) (va_Pc [.ref ma, .int (jI z1)] (jBw (dC, dI) [(cA, .int), (cZ, .boolean)] [(ma, .inr (5, [.int (jI mth), .int (jI mn), .ref a0, .int (jI mp), .int (jI mw), .ref a1, .ref a2, .ref a3, .ref a4, .ref a5, .ref a6, .ref a7, .ref a8, .ref a9, .ref a10, .long (jL mu), .long (jL md), .int (jI mo), .ref a11])), (a0, .inl (cA, 400, .inl (jA y0)))] sz)) (va_Qi (fun (r : Int32) (u : Int × Int) => r = jI u.1 ∧ u = f_XM_takesP mth mn mp mw mu md mo y0 z1 ∧ ((u.1 = 0 ∧ mp ≤ u.2 ∧ u.2 ≤ mn) ∨ (u.1 = 1 ∧ mp < u.2 ∧ u.2 ≤ mn ∧ mw < 0))) (fun u t => jE (dC, dI) [(cA, .int), (cZ, .boolean)] [(ma, .inr (5, [.int (jI mth), .int (jI mn), .ref a0, .int (jI mp), .int (jI mw), .ref a1, .ref a2, .ref a3, .ref a4, .ref a5, .ref a6, .ref a7, .ref a8, .ref a9, .ref a10, .long (jL mu), .long (jL md), .int (jI mo), .ref a11])), (a0, .inl (cA, 400, .inl (jA y0)))] sz [(ma, .inr (5, [.int (jI mth), .int (jI mn), .ref a0, .int (jI u.2), .int (jI mw), .ref a1, .ref a2, .ref a3, .ref a4, .ref a5, .ref a6, .ref a7, .ref a8, .ref a9, .ref a10, .long (jL mu), .long (jL md), .int (jI mo), .ref a11])), (a0, .inl (cA, 400, .inl (jA y0)))] t) (va_A [(ma, .inr (5, [.int (jI mth), .int (jI mn), .ref a0, .int (jI mp), .int (jI mw), .ref a1, .ref a2, .ref a3, .ref a4, .ref a5, .ref a6, .ref a7, .ref a8, .ref a9, .ref a10, .long (jL mu), .long (jL md), .int (jI mo), .ref a11])), (a0, .inl (cA, 400, .inl (jA y0)))] sz)) 0 0 (va_A [(ma, .inr (5, [.int (jI mth), .int (jI mn), .ref a0, .int (jI mp), .int (jI mw), .ref a1, .ref a2, .ref a3, .ref a4, .ref a5, .ref a6, .ref a7, .ref a8, .ref a9, .ref a10, .long (jL mu), .long (jL md), .int (jI mo), .ref a11])), (a0, .inl (cA, 400, .inl (jA y0)))] sz) := by
  refine jMet (cc := cXM_takes) (maxL := 2) (ret := some .boolean) (by decide) rfl ?_
  intro p e s m args below meth c s₁ R Q hR hQ B hml hv
  obtain ⟨rfl, hsz, hP, hK, hD0, hN⟩ := hv
  have hx := B.exec
  have hb := B.bytes
  have hr := B.returns
  have hts := atoms_spec (ws := Cond.code yXM_takes cXM_takes 2 (some .boolean) :: TBL) B.pre
  have hown : s.vm.findClass RXM = some m.cls := findClass_of_methodNamed B.named
  have hlocks := B.notSynchronized
  subst hsz
  obtain ⟨A, hAe⟩ : ∃ A, A = va_A [(ma, .inr (5, [.int (jI mth), .int (jI mn), .ref a0, .int (jI mp), .int (jI mw), .ref a1, .ref a2, .ref a3, .ref a4, .ref a5, .ref a6, .ref a7, .ref a8, .ref a9, .ref a10, .long (jL mu), .long (jL md), .int (jI mo), .ref a11])), (a0, .inl (cA, 400, .inl (jA y0)))] s.heap.size := ⟨_, rfl⟩
  have hD : va_D A [(ma, .inr (5, [.int (jI mth), .int (jI mn), .ref a0, .int (jI mp), .int (jI mw), .ref a1, .ref a2, .ref a3, .ref a4, .ref a5, .ref a6, .ref a7, .ref a8, .ref a9, .ref a10, .long (jL mu), .long (jL md), .int (jI mo), .ref a11])), (a0, .inl (cA, 400, .inl (jA y0)))] := by rw [hAe]; exact hD0.self
  have hA : ∀ q : Nat, s.heap.size ≤ q → A q := fun q h => by rw [hAe]; exact Or.inr h
  have hS : va_S A s.heap s.heap [] := va_S.rf
  have hP : va_P (dC, dI) vwCl [(ma, .inr (5, [.int (jI mth), .int (jI mn), .ref a0, .int (jI mp), .int (jI mw), .ref a1, .ref a2, .ref a3, .ref a4, .ref a5, .ref a6, .ref a7, .ref a8, .ref a9, .ref a10, .long (jL mu), .long (jL md), .int (jI mo), .ref a11])), (a0, .inl (cA, 400, .inl (jA y0)))] s.heap := hP
  have hl := lv_entry ([.ref ma, .int (jI z1)]) (n := 2) (Nat.le_of_ble_eq_true rfl)
  rw [lg_entry_eq]
  generalize (lg_sl ([.ref ma, .int (jI z1)]) ++ List.replicate (2 - (lg_sl ([.ref ma, .int (jI z1)])).length) Slot.unset).toArray = ls at hl ⊢
  have hl : lv_has ls 2 [(0, .ref ma), (1, .int (jI z1))] := hl
  refine lv_aload_n hx hb dXM_takes_0 rfl (lv_at hl 0 rfl) ?_
  refine va_get (D := (dC, dI)) (ci := 5) (v := .int (jI mw)) (C := RXM) (T := TXM) (N := 19) hx hb hts (fun w h => jmem (inXM w h)) hown hK hP 0 rfl rfl 4 (by decide) (hts _ (jmem tw_632)) (fun _ h9 => h9) rfl dXM_takes_1 ?_
  refine ji_if_ge (tgt := 15) hx hb dXM_takes_4 (by decide) (by omega) (fun c4_ => ?_) (fun c4_ => ?_)
  · refine ji_iconst hx hb dXM_takes_15 ?_
    have hP9 := hP.sub (ws' := [(ma, .inr (5, [.int (jI mth), .int (jI mn), .ref a0, .int (jI mp), .int (jI mw), .ref a1, .ref a2, .ref a3, .ref a4, .ref a5, .ref a6, .ref a7, .ref a8, .ref a9, .ref a10, .long (jL mu), .long (jL md), .int (jI mo), .ref a11])), (a0, .inl (cA, 400, .inl (jA y0)))]) [0, 1] rfl
    have hD9 := hD.sub (ws' := [(ma, .inr (5, [.int (jI mth), .int (jI mn), .ref a0, .int (jI mp), .int (jI mw), .ref a1, .ref a2, .ref a3, .ref a4, .ref a5, .ref a6, .ref a7, .ref a8, .ref a9, .ref a10, .long (jL mu), .long (jL md), .int (jI mo), .ref a11])), (a0, .inl (cA, 400, .inl (jA y0)))]) [0, 1] (by decide) rfl
    subst hAe
    subst hQ
    exact W.zret (v := jI 0) hx hb hr (by first | decide | exact jz (by omega)) (fun t ht hW => ⟨⟨_, (0, mp), rfl, ⟨rfl, Eq.trans (by rw [f_XM_takesP_s]; rw [if_neg (Int.not_lt.mpr c4_)]; try rfl) rfl, show (0 = 0 ∧ mp ≤ mp ∧ mp ≤ mn) ∨ (0 = 1 ∧ mp < mp ∧ mp ≤ mn ∧ mw < 0) from by first | assumption | omega | exact jset_b (by assumption) (by omega) | exact jset_l (by assumption) (by omega) | exact jset_l (fun _ _ => rfl) (by omega) | exact fun _ _ => rfl | exact l_trans (by assumption) (by assumption)⟩, ⟨by rw [ht]; exact hP9, va_K.moved hW.alike hK, hD9⟩⟩, hS.F ht⟩) hS.2.2 dXM_takes_16
  · refine lv_aload_n hx hb dXM_takes_7 rfl (lv_at hl 0 rfl) ?_
    refine jwVi (rest := []) (wr := []) ⟨hx, hb, hml, hown, hts⟩ (c_XM_seeP l dC dI cA cZ _ ma a0 a1 a2 a3 a4 a5 a6 a7 a8 a9 a10 a11 mth mn mp mw mu md mo y0 (by first | assumption | omega) (by first | assumption | omega) (by first | assumption | omega)) (cwV 0 hts (jG_V tw_710 tw_712 ts_16 tw_6 tw_713) rfl rfl rfl (by decide +kernel) (by rw [hR]; exact ⟨Nat.le_of_ble_eq_true rfl, Nat.le_of_ble_eq_true rfl⟩)) hK hP hD hS hA hN [0, 1] [] rfl rfl (by decide) (by decide) (by decide) 0 5 rfl rfl rfl rfl hl.1 rfl (Nat.le_of_ble_eq_true rfl) dXM_takes_8 (by rw [hR]; exact ⟨Nat.le_of_ble_eq_true rfl, Nat.le_of_ble_eq_true rfl⟩) (fun v u H locs hwb hP hD hS => ?_)
    obtain ⟨r, mp1'⟩ := u
    try dsimp only at hwb
    obtain ⟨er, hwb, f, f1, f2⟩ := hwb
    subst er
    have f : -1 ≤ r ∧ r ≤ 255 ∧ (0 ≤ r → mp1' < mn) := f
    have f1 : mp ≤ mp1' ∧ mp1' ≤ mn := f1
    have f2 : (mp1' < mn ∧ r = y0 mp1') ∨ (mp1' = mn ∧ r = -1) := f2
    have hP : va_P (dC, dI) vwCl [(ma, .inr (5, [.int (jI mth), .int (jI mn), .ref a0, .int (jI mp1'), .int (jI mw), .ref a1, .ref a2, .ref a3, .ref a4, .ref a5, .ref a6, .ref a7, .ref a8, .ref a9, .ref a10, .long (jL mu), .long (jL md), .int (jI mo), .ref a11])), (a0, .inl (cA, 400, .inl (jA y0)))] H := hP
    have hD : va_D A [(ma, .inr (5, [.int (jI mth), .int (jI mn), .ref a0, .int (jI mp1'), .int (jI mw), .ref a1, .ref a2, .ref a3, .ref a4, .ref a5, .ref a6, .ref a7, .ref a8, .ref a9, .ref a10, .long (jL mu), .long (jL md), .int (jI mo), .ref a11])), (a0, .inl (cA, 400, .inl (jA y0)))] := hD
    refine lv_iload_n hx hb dXM_takes_11 rfl (lv_at hl 1 rfl) ?_
    refine ji_icmp_eq (tgt := 17) hx hb dXM_takes_12 (by decide) (by omega) (by omega) (fun c12_ => ?_) (fun c12_ => ?_)
    · refine lv_aload_n hx hb dXM_takes_17 rfl (lv_at hl 0 rfl) ?_
      refine lv_dup hx hb dXM_takes_18 rfl ?_
      refine va_get (D := (dC, dI)) (ci := 5) (v := .int (jI mp1')) (C := RXM) (T := TXM) (N := 19) hx hb hts (fun w h => jmem (inXM w h)) hown hK hP 0 rfl rfl 3 (by decide) (hts _ (jmem tw_631)) (fun _ h9 => h9) rfl dXM_takes_19 ?_
      refine ji_iconst hx hb dXM_takes_22 ?_
      refine ji_iadd hx hb dXM_takes_23 ?_
      refine va_put (D := (dC, dI)) (ci := 5) (v := .int (jI (mp1' + 1))) (ty := (.int)) (C := RXM) (T := TXM) (N := 19) hx hb hts (fun w h => jmem (inXM w h)) tyXM tyXM_ok nXM hown hK hP hD hS 0 rfl rfl 3 (by decide) (hts _ (jmem tw_631)) (fun _ h9 => h9) rfl (by decide +kernel) rfl rfl (Nat.le_of_ble_eq_true rfl) dXM_takes_24 (fun H locs hP hD hS => ?_)
      have hP : va_P (dC, dI) vwCl [(ma, .inr (5, [.int (jI mth), .int (jI mn), .ref a0, .int (jI (mp1' + 1)), .int (jI mw), .ref a1, .ref a2, .ref a3, .ref a4, .ref a5, .ref a6, .ref a7, .ref a8, .ref a9, .ref a10, .long (jL mu), .long (jL md), .int (jI mo), .ref a11])), (a0, .inl (cA, 400, .inl (jA y0)))] H := hP
      have hD : va_D A [(ma, .inr (5, [.int (jI mth), .int (jI mn), .ref a0, .int (jI (mp1' + 1)), .int (jI mw), .ref a1, .ref a2, .ref a3, .ref a4, .ref a5, .ref a6, .ref a7, .ref a8, .ref a9, .ref a10, .long (jL mu), .long (jL md), .int (jI mo), .ref a11])), (a0, .inl (cA, 400, .inl (jA y0)))] := hD
      refine ji_iconst hx hb dXM_takes_27 ?_
      have hP9 := hP.sub (ws' := [(ma, .inr (5, [.int (jI mth), .int (jI mn), .ref a0, .int (jI (mp1' + 1)), .int (jI mw), .ref a1, .ref a2, .ref a3, .ref a4, .ref a5, .ref a6, .ref a7, .ref a8, .ref a9, .ref a10, .long (jL mu), .long (jL md), .int (jI mo), .ref a11])), (a0, .inl (cA, 400, .inl (jA y0)))]) [0, 1] rfl
      have hD9 := hD.sub (ws' := [(ma, .inr (5, [.int (jI mth), .int (jI mn), .ref a0, .int (jI (mp1' + 1)), .int (jI mw), .ref a1, .ref a2, .ref a3, .ref a4, .ref a5, .ref a6, .ref a7, .ref a8, .ref a9, .ref a10, .long (jL mu), .long (jL md), .int (jI mo), .ref a11])), (a0, .inl (cA, 400, .inl (jA y0)))]) [0, 1] (by decide) rfl
      subst hAe
      subst hQ
      exact W.zret (v := jI 1) hx hb hr (by first | decide | exact jz (by omega)) (fun t ht hW => ⟨⟨_, (1, mp1' + 1), rfl, ⟨rfl, Eq.trans (by rw [f_XM_takesP_s]; rw [if_pos c4_]; rw [← hwb]; try dsimp only; rw [if_pos c12_]; try rfl) rfl, show (1 = 0 ∧ mp ≤ (mp1' + 1) ∧ (mp1' + 1) ≤ mn) ∨ (1 = 1 ∧ mp < (mp1' + 1) ∧ (mp1' + 1) ≤ mn ∧ mw < 0) from by first | assumption | omega | exact jset_b (by assumption) (by omega) | exact jset_l (by assumption) (by omega) | exact jset_l (fun _ _ => rfl) (by omega) | exact fun _ _ => rfl | exact l_trans (by assumption) (by assumption)⟩, ⟨by rw [ht]; exact hP9, va_K.moved hW.alike hK, hD9⟩⟩, hS.F ht⟩) hS.2.2 dXM_takes_28
    · refine ji_iconst hx hb dXM_takes_15 ?_
      have hP9 := hP.sub (ws' := [(ma, .inr (5, [.int (jI mth), .int (jI mn), .ref a0, .int (jI mp1'), .int (jI mw), .ref a1, .ref a2, .ref a3, .ref a4, .ref a5, .ref a6, .ref a7, .ref a8, .ref a9, .ref a10, .long (jL mu), .long (jL md), .int (jI mo), .ref a11])), (a0, .inl (cA, 400, .inl (jA y0)))]) [0, 1] rfl
      have hD9 := hD.sub (ws' := [(ma, .inr (5, [.int (jI mth), .int (jI mn), .ref a0, .int (jI mp1'), .int (jI mw), .ref a1, .ref a2, .ref a3, .ref a4, .ref a5, .ref a6, .ref a7, .ref a8, .ref a9, .ref a10, .long (jL mu), .long (jL md), .int (jI mo), .ref a11])), (a0, .inl (cA, 400, .inl (jA y0)))]) [0, 1] (by decide) rfl
      subst hAe
      subst hQ
      exact W.zret (v := jI 0) hx hb hr (by first | decide | exact jz (by omega)) (fun t ht hW => ⟨⟨_, (0, mp1'), rfl, ⟨rfl, Eq.trans (by rw [f_XM_takesP_s]; rw [if_pos c4_]; rw [← hwb]; try dsimp only; rw [if_neg c12_]; try rfl) rfl, show (0 = 0 ∧ mp ≤ mp1' ∧ mp1' ≤ mn) ∨ (0 = 1 ∧ mp < mp1' ∧ mp1' ≤ mn ∧ mw < 0) from by first | assumption | omega | exact jset_b (by assumption) (by omega) | exact jset_l (by assumption) (by omega) | exact jset_l (fun _ _ => rfl) (by omega) | exact fun _ _ => rfl | exact l_trans (by assumption) (by assumption)⟩, ⟨by rw [ht]; exact hP9, va_K.moved hW.alike hK, hD9⟩⟩, hS.F ht⟩) hS.2.2 dXM_takes_16
noncomputable def g_XM_takeP (mth : Int) (mn : Int) (mp : Int) (mw : Int) (mu : Int) (md : Int) (mo : Int) (y0 : Int → Int) (z1 : Int) : Int × Int :=
  if mw < 0 then
    match f_XM_seeP mth mn mp mw mu md mo y0 with
    | (r, mp1') =>
      if r = z1 then
        (mp1' + 1, mw)
      else
        (mp1', f_XM_failP mth mn mp1' mw mu md mo mp1')
  else
    (mp, mw)
noncomputable def f_XM_takeP : Int → Int → Int → Int → Int → Int → Int → (Int → Int) → Int → Int × Int := jopq g_XM_takeP
theorem f_XM_takeP_q : f_XM_takeP = g_XM_takeP := jopq_eq _
theorem f_XM_takeP_s (mth : Int) (mn : Int) (mp : Int) (mw : Int) (mu : Int) (md : Int) (mo : Int) (y0 : Int → Int) (z1 : Int) : f_XM_takeP mth mn mp mw mu md mo y0 z1 = (
    if mw < 0 then
      match f_XM_seeP mth mn mp mw mu md mo y0 with
      | (r, mp1') =>
        if r = z1 then
          (mp1' + 1, mw)
        else
          (mp1', f_XM_failP mth mn mp1' mw mu md mo mp1')
    else
      (mp, mw)
  : Int × Int) := by rw [f_XM_takeP_q]; rfl
set_option maxHeartbeats 4000000 in
set_option maxRecDepth 100000 in
theorem c_XM_takeP (l : Launch) (dC : Nat → ClassId) (dI : Nat → Nat → Nat) (cA cZ : ClassId) (sz : Nat) (ma : Nat) (a0 : Nat) (a1 : Nat) (a2 : Nat) (a3 : Nat) (a4 : Nat) (a5 : Nat) (a6 : Nat) (a7 : Nat) (a8 : Nat) (a9 : Nat) (a10 : Nat) (a11 : Nat) (mth : Int) (mn : Int) (mp : Int) (mw : Int) (mu : Int) (md : Int) (mo : Int) (y0 : Int → Int) (z1 : Int) (hy0 : ∀ i, 0 ≤ y0 i ∧ y0 i ≤ 255) (hmn : 0 ≤ mn ∧ mn ≤ 400) (hmp : 0 ≤ mp ∧ mp ≤ mn) (hmw : -1 ≤ mw ∧ mw ≤ 400) (hz1 : 0 ≤ z1 ∧ z1 ≤ 255) : Met l yXM_take (Cond.code yXM_take cXM_take 2 none :: TBL) ({ frames := 2, cells := 0, slots := 0, locals := 40 } : Room) (va_Pc [.ref ma, .int (jI z1)] (jBw (dC, dI) [(cA, .int), (cZ, .boolean)] [(ma, .inr (5, [.int (jI mth), .int (jI mn), .ref a0, .int (jI mp), .int (jI mw), .ref a1, .ref a2, .ref a3, .ref a4, .ref a5, .ref a6, .ref a7, .ref a8, .ref a9, .ref a10, .long (jL mu), .long (jL md), .int (jI mo), .ref a11])), (a0, .inl (cA, 400, .inl (jA y0)))] sz)) (va_Qv (fun (u : Int × Int) => u = f_XM_takeP mth mn mp mw mu md mo y0 z1 ∧ (mp ≤ u.1 ∧ u.1 ≤ mn) ∧ (-1 ≤ u.2 ∧ u.2 ≤ 400 ∧ mw ≤ u.2) ∧ (u.2 < 0 → mp < u.1)) (fun u t => jE (dC, dI) [(cA, .int), (cZ, .boolean)] [(ma, .inr (5, [.int (jI mth), .int (jI mn), .ref a0, .int (jI mp), .int (jI mw), .ref a1, .ref a2, .ref a3, .ref a4, .ref a5, .ref a6, .ref a7, .ref a8, .ref a9, .ref a10, .long (jL mu), .long (jL md), .int (jI mo), .ref a11])), (a0, .inl (cA, 400, .inl (jA y0)))] sz [(ma, .inr (5, [.int (jI mth), .int (jI mn), .ref a0, .int (jI u.1), .int (jI u.2), .ref a1, .ref a2, .ref a3, .ref a4, .ref a5, .ref a6, .ref a7, .ref a8, .ref a9, .ref a10, .long (jL mu), .long (jL md), .int (jI mo), .ref a11])), (a0, .inl (cA, 400, .inl (jA y0)))] t) (va_A [(ma, .inr (5, [.int (jI mth), .int (jI mn), .ref a0, .int (jI mp), .int (jI mw), .ref a1, .ref a2, .ref a3, .ref a4, .ref a5, .ref a6, .ref a7, .ref a8, .ref a9, .ref a10, .long (jL mu), .long (jL md), .int (jI mo), .ref a11])), (a0, .inl (cA, 400, .inl (jA y0)))] sz)) 0 0 (va_A [(ma, .inr (5, [.int (jI mth), .int (jI mn), .ref a0, .int (jI mp), .int (jI mw), .ref a1, .ref a2, .ref a3, .ref a4, .ref a5, .ref a6, .ref a7, .ref a8, .ref a9, .ref a10, .long (jL mu), .long (jL md), .int (jI mo), .ref a11])), (a0, .inl (cA, 400, .inl (jA y0)))] sz) := by
  refine jMet (cc := cXM_take) (maxL := 2) (ret := none) (by decide) rfl ?_
  intro p e s m args below meth c s₁ R Q hR hQ B hml hv
  obtain ⟨rfl, hsz, hP, hK, hD0, hN⟩ := hv
  have hx := B.exec
  have hb := B.bytes
  have hr := B.returns
  have hts := atoms_spec (ws := Cond.code yXM_take cXM_take 2 none :: TBL) B.pre
  have hown : s.vm.findClass RXM = some m.cls := findClass_of_methodNamed B.named
  have hlocks := B.notSynchronized
  subst hsz
  obtain ⟨A, hAe⟩ : ∃ A, A = va_A [(ma, .inr (5, [.int (jI mth), .int (jI mn), .ref a0, .int (jI mp), .int (jI mw), .ref a1, .ref a2, .ref a3, .ref a4, .ref a5, .ref a6, .ref a7, .ref a8, .ref a9, .ref a10, .long (jL mu), .long (jL md), .int (jI mo), .ref a11])), (a0, .inl (cA, 400, .inl (jA y0)))] s.heap.size := ⟨_, rfl⟩
  have hD : va_D A [(ma, .inr (5, [.int (jI mth), .int (jI mn), .ref a0, .int (jI mp), .int (jI mw), .ref a1, .ref a2, .ref a3, .ref a4, .ref a5, .ref a6, .ref a7, .ref a8, .ref a9, .ref a10, .long (jL mu), .long (jL md), .int (jI mo), .ref a11])), (a0, .inl (cA, 400, .inl (jA y0)))] := by rw [hAe]; exact hD0.self
  have hA : ∀ q : Nat, s.heap.size ≤ q → A q := fun q h => by rw [hAe]; exact Or.inr h
  have hS : va_S A s.heap s.heap [] := va_S.rf
  have hP : va_P (dC, dI) vwCl [(ma, .inr (5, [.int (jI mth), .int (jI mn), .ref a0, .int (jI mp), .int (jI mw), .ref a1, .ref a2, .ref a3, .ref a4, .ref a5, .ref a6, .ref a7, .ref a8, .ref a9, .ref a10, .long (jL mu), .long (jL md), .int (jI mo), .ref a11])), (a0, .inl (cA, 400, .inl (jA y0)))] s.heap := hP
  have hl := lv_entry ([.ref ma, .int (jI z1)]) (n := 2) (Nat.le_of_ble_eq_true rfl)
  rw [lg_entry_eq]
  generalize (lg_sl ([.ref ma, .int (jI z1)]) ++ List.replicate (2 - (lg_sl ([.ref ma, .int (jI z1)])).length) Slot.unset).toArray = ls at hl ⊢
  have hl : lv_has ls 2 [(0, .ref ma), (1, .int (jI z1))] := hl
  refine lv_aload_n hx hb dXM_take_0 rfl (lv_at hl 0 rfl) ?_
  refine va_get (D := (dC, dI)) (ci := 5) (v := .int (jI mw)) (C := RXM) (T := TXM) (N := 19) hx hb hts (fun w h => jmem (inXM w h)) hown hK hP 0 rfl rfl 4 (by decide) (hts _ (jmem tw_632)) (fun _ h9 => h9) rfl dXM_take_1 ?_
  refine ji_if_lt (tgt := 8) hx hb dXM_take_4 (by decide) (by omega) (fun c4_ => ?_) (fun c4_ => ?_)
  · refine lv_aload_n hx hb dXM_take_8 rfl (lv_at hl 0 rfl) ?_
    refine jwVi (rest := []) (wr := []) ⟨hx, hb, hml, hown, hts⟩ (c_XM_seeP l dC dI cA cZ _ ma a0 a1 a2 a3 a4 a5 a6 a7 a8 a9 a10 a11 mth mn mp mw mu md mo y0 (by first | assumption | omega) (by first | assumption | omega) (by first | assumption | omega)) (cwV 0 hts (jG_V tw_710 tw_712 ts_16 tw_6 tw_713) rfl rfl rfl (by decide +kernel) (by rw [hR]; exact ⟨Nat.le_of_ble_eq_true rfl, Nat.le_of_ble_eq_true rfl⟩)) hK hP hD hS hA hN [0, 1] [] rfl rfl (by decide) (by decide) (by decide) 0 5 rfl rfl rfl rfl hl.1 rfl (Nat.le_of_ble_eq_true rfl) dXM_take_9 (by rw [hR]; exact ⟨Nat.le_of_ble_eq_true rfl, Nat.le_of_ble_eq_true rfl⟩) (fun v u H locs hwb hP hD hS => ?_)
    obtain ⟨r, mp1'⟩ := u
    try dsimp only at hwb
    obtain ⟨er, hwb, f, f1, f2⟩ := hwb
    subst er
    have f : -1 ≤ r ∧ r ≤ 255 ∧ (0 ≤ r → mp1' < mn) := f
    have f1 : mp ≤ mp1' ∧ mp1' ≤ mn := f1
    have f2 : (mp1' < mn ∧ r = y0 mp1') ∨ (mp1' = mn ∧ r = -1) := f2
    have hP : va_P (dC, dI) vwCl [(ma, .inr (5, [.int (jI mth), .int (jI mn), .ref a0, .int (jI mp1'), .int (jI mw), .ref a1, .ref a2, .ref a3, .ref a4, .ref a5, .ref a6, .ref a7, .ref a8, .ref a9, .ref a10, .long (jL mu), .long (jL md), .int (jI mo), .ref a11])), (a0, .inl (cA, 400, .inl (jA y0)))] H := hP
    have hD : va_D A [(ma, .inr (5, [.int (jI mth), .int (jI mn), .ref a0, .int (jI mp1'), .int (jI mw), .ref a1, .ref a2, .ref a3, .ref a4, .ref a5, .ref a6, .ref a7, .ref a8, .ref a9, .ref a10, .long (jL mu), .long (jL md), .int (jI mo), .ref a11])), (a0, .inl (cA, 400, .inl (jA y0)))] := hD
    refine lv_iload_n hx hb dXM_take_12 rfl (lv_at hl 1 rfl) ?_
    refine ji_icmp_eq (tgt := 27) hx hb dXM_take_13 (by decide) (by omega) (by omega) (fun c13_ => ?_) (fun c13_ => ?_)
    · refine lv_aload_n hx hb dXM_take_27 rfl (lv_at hl 0 rfl) ?_
      refine lv_dup hx hb dXM_take_28 rfl ?_
      refine va_get (D := (dC, dI)) (ci := 5) (v := .int (jI mp1')) (C := RXM) (T := TXM) (N := 19) hx hb hts (fun w h => jmem (inXM w h)) hown hK hP 0 rfl rfl 3 (by decide) (hts _ (jmem tw_631)) (fun _ h9 => h9) rfl dXM_take_29 ?_
      refine ji_iconst hx hb dXM_take_32 ?_
      refine ji_iadd hx hb dXM_take_33 ?_
      refine va_put (D := (dC, dI)) (ci := 5) (v := .int (jI (mp1' + 1))) (ty := (.int)) (C := RXM) (T := TXM) (N := 19) hx hb hts (fun w h => jmem (inXM w h)) tyXM tyXM_ok nXM hown hK hP hD hS 0 rfl rfl 3 (by decide) (hts _ (jmem tw_631)) (fun _ h9 => h9) rfl (by decide +kernel) rfl rfl (Nat.le_of_ble_eq_true rfl) dXM_take_34 (fun H locs hP hD hS => ?_)
      have hP : va_P (dC, dI) vwCl [(ma, .inr (5, [.int (jI mth), .int (jI mn), .ref a0, .int (jI (mp1' + 1)), .int (jI mw), .ref a1, .ref a2, .ref a3, .ref a4, .ref a5, .ref a6, .ref a7, .ref a8, .ref a9, .ref a10, .long (jL mu), .long (jL md), .int (jI mo), .ref a11])), (a0, .inl (cA, 400, .inl (jA y0)))] H := hP
      have hD : va_D A [(ma, .inr (5, [.int (jI mth), .int (jI mn), .ref a0, .int (jI (mp1' + 1)), .int (jI mw), .ref a1, .ref a2, .ref a3, .ref a4, .ref a5, .ref a6, .ref a7, .ref a8, .ref a9, .ref a10, .long (jL mu), .long (jL md), .int (jI mo), .ref a11])), (a0, .inl (cA, 400, .inl (jA y0)))] := hD
      have hP9 := hP.sub (ws' := [(ma, .inr (5, [.int (jI mth), .int (jI mn), .ref a0, .int (jI (mp1' + 1)), .int (jI mw), .ref a1, .ref a2, .ref a3, .ref a4, .ref a5, .ref a6, .ref a7, .ref a8, .ref a9, .ref a10, .long (jL mu), .long (jL md), .int (jI mo), .ref a11])), (a0, .inl (cA, 400, .inl (jA y0)))]) [0, 1] rfl
      have hD9 := hD.sub (ws' := [(ma, .inr (5, [.int (jI mth), .int (jI mn), .ref a0, .int (jI (mp1' + 1)), .int (jI mw), .ref a1, .ref a2, .ref a3, .ref a4, .ref a5, .ref a6, .ref a7, .ref a8, .ref a9, .ref a10, .long (jL mu), .long (jL md), .int (jI mo), .ref a11])), (a0, .inl (cA, 400, .inl (jA y0)))]) [0, 1] (by decide) rfl
      subst hAe
      subst hQ
      exact W.vret hx hb hr (fun t ht hW => ⟨⟨(mp1' + 1, mw), rfl, ⟨Eq.trans (by rw [f_XM_takeP_s]; rw [if_pos c4_]; rw [← hwb]; try dsimp only; rw [if_pos c13_]; try rfl) rfl, show mp ≤ (mp1' + 1) ∧ (mp1' + 1) ≤ mn from by first | assumption | omega | exact jset_b (by assumption) (by omega) | exact jset_l (by assumption) (by omega) | exact jset_l (fun _ _ => rfl) (by omega) | exact fun _ _ => rfl | exact l_trans (by assumption) (by assumption), show -1 ≤ mw ∧ mw ≤ 400 ∧ mw ≤ mw from by first | assumption | omega | exact jset_b (by assumption) (by omega) | exact jset_l (by assumption) (by omega) | exact jset_l (fun _ _ => rfl) (by omega) | exact fun _ _ => rfl | exact l_trans (by assumption) (by assumption), show mw < 0 → mp < (mp1' + 1) from by first | assumption | omega | exact jset_b (by assumption) (by omega) | exact jset_l (by assumption) (by omega) | exact jset_l (fun _ _ => rfl) (by omega) | exact fun _ _ => rfl | exact l_trans (by assumption) (by assumption)⟩, ⟨by rw [ht]; exact hP9, va_K.moved hW.alike hK, hD9⟩⟩, hS.F ht⟩) hS.2.2 dXM_take_37
    · refine lv_aload_n hx hb dXM_take_16 rfl (lv_at hl 0 rfl) ?_
      refine lv_aload_n hx hb dXM_take_17 rfl (lv_at hl 0 rfl) ?_
      refine va_get (D := (dC, dI)) (ci := 5) (v := .int (jI mp1')) (C := RXM) (T := TXM) (N := 19) hx hb hts (fun w h => jmem (inXM w h)) hown hK hP 0 rfl rfl 3 (by decide) (hts _ (jmem tw_631)) (fun _ h9 => h9) rfl dXM_take_18 ?_
      refine jwVv (rest := []) (wr := [(a0, .inl (cA, 400, .inl (jA y0)))]) ⟨hx, hb, hml, hown, hts⟩ (c_XM_failP l dC dI cA cZ _ ma a0 a1 a2 a3 a4 a5 a6 a7 a8 a9 a10 a11 mth mn mp1' mw mu md mo mp1' (by first | assumption | omega) (by first | assumption | omega)) (cwV 1 hts (jG_V tw_734 tw_736 ts_22 tw_6 tw_737) rfl rfl rfl (by decide +kernel) (by rw [hR]; exact ⟨Nat.le_of_ble_eq_true rfl, Nat.le_of_ble_eq_true rfl⟩)) hK hP hD hS hA hN [0] [1] rfl rfl (by decide) (by decide) (by decide) 0 5 rfl rfl rfl rfl hl.1 rfl (Nat.le_of_ble_eq_true rfl) dXM_take_21 (by rw [hR]; exact ⟨Nat.le_of_ble_eq_true rfl, Nat.le_of_ble_eq_true rfl⟩) (fun u3 H locs hw hP hD hS => ?_)
      obtain ⟨hw, f4⟩ := hw
      subst hw
      have f4 : (0 ≤ mw ∧ (f_XM_failP mth mn mp1' mw mu md mo mp1') = mw) ∨ (mw < 0 ∧ (f_XM_failP mth mn mp1' mw mu md mo mp1') = mp1') := f4
      have hP : va_P (dC, dI) vwCl [(a0, .inl (cA, 400, .inl (jA y0))), (ma, .inr (5, [.int (jI mth), .int (jI mn), .ref a0, .int (jI mp1'), .int (jI (f_XM_failP mth mn mp1' mw mu md mo mp1')), .ref a1, .ref a2, .ref a3, .ref a4, .ref a5, .ref a6, .ref a7, .ref a8, .ref a9, .ref a10, .long (jL mu), .long (jL md), .int (jI mo), .ref a11]))] H := hP
      have hD : va_D A [(a0, .inl (cA, 400, .inl (jA y0))), (ma, .inr (5, [.int (jI mth), .int (jI mn), .ref a0, .int (jI mp1'), .int (jI (f_XM_failP mth mn mp1' mw mu md mo mp1')), .ref a1, .ref a2, .ref a3, .ref a4, .ref a5, .ref a6, .ref a7, .ref a8, .ref a9, .ref a10, .long (jL mu), .long (jL md), .int (jI mo), .ref a11]))] := hD
      refine lv_goto (tgt := 37) hx hb dXM_take_24 (by decide) ?_
      have hP9 := hP.sub (ws' := [(ma, .inr (5, [.int (jI mth), .int (jI mn), .ref a0, .int (jI mp1'), .int (jI (f_XM_failP mth mn mp1' mw mu md mo mp1')), .ref a1, .ref a2, .ref a3, .ref a4, .ref a5, .ref a6, .ref a7, .ref a8, .ref a9, .ref a10, .long (jL mu), .long (jL md), .int (jI mo), .ref a11])), (a0, .inl (cA, 400, .inl (jA y0)))]) [1, 0] rfl
      have hD9 := hD.sub (ws' := [(ma, .inr (5, [.int (jI mth), .int (jI mn), .ref a0, .int (jI mp1'), .int (jI (f_XM_failP mth mn mp1' mw mu md mo mp1')), .ref a1, .ref a2, .ref a3, .ref a4, .ref a5, .ref a6, .ref a7, .ref a8, .ref a9, .ref a10, .long (jL mu), .long (jL md), .int (jI mo), .ref a11])), (a0, .inl (cA, 400, .inl (jA y0)))]) [1, 0] (by decide) rfl
      subst hAe
      subst hQ
      exact W.vret hx hb hr (fun t ht hW => ⟨⟨(mp1', f_XM_failP mth mn mp1' mw mu md mo mp1'), rfl, ⟨Eq.trans (by rw [f_XM_takeP_s]; rw [if_pos c4_]; rw [← hwb]; try dsimp only; rw [if_neg c13_]; try rfl) rfl, show mp ≤ mp1' ∧ mp1' ≤ mn from by first | assumption | omega | exact jset_b (by assumption) (by omega) | exact jset_l (by assumption) (by omega) | exact jset_l (fun _ _ => rfl) (by omega) | exact fun _ _ => rfl | exact l_trans (by assumption) (by assumption), show -1 ≤ (f_XM_failP mth mn mp1' mw mu md mo mp1') ∧ (f_XM_failP mth mn mp1' mw mu md mo mp1') ≤ 400 ∧ mw ≤ (f_XM_failP mth mn mp1' mw mu md mo mp1') from by first | assumption | omega | exact jset_b (by assumption) (by omega) | exact jset_l (by assumption) (by omega) | exact jset_l (fun _ _ => rfl) (by omega) | exact fun _ _ => rfl | exact l_trans (by assumption) (by assumption), show (f_XM_failP mth mn mp1' mw mu md mo mp1') < 0 → mp < mp1' from by first | assumption | omega | exact jset_b (by assumption) (by omega) | exact jset_l (by assumption) (by omega) | exact jset_l (fun _ _ => rfl) (by omega) | exact fun _ _ => rfl | exact l_trans (by assumption) (by assumption)⟩, ⟨by rw [ht]; exact hP9, va_K.moved hW.alike hK, hD9⟩⟩, hS.F ht⟩) hS.2.2 dXM_take_37
  · have hP9 := hP.sub (ws' := [(ma, .inr (5, [.int (jI mth), .int (jI mn), .ref a0, .int (jI mp), .int (jI mw), .ref a1, .ref a2, .ref a3, .ref a4, .ref a5, .ref a6, .ref a7, .ref a8, .ref a9, .ref a10, .long (jL mu), .long (jL md), .int (jI mo), .ref a11])), (a0, .inl (cA, 400, .inl (jA y0)))]) [0, 1] rfl
    have hD9 := hD.sub (ws' := [(ma, .inr (5, [.int (jI mth), .int (jI mn), .ref a0, .int (jI mp), .int (jI mw), .ref a1, .ref a2, .ref a3, .ref a4, .ref a5, .ref a6, .ref a7, .ref a8, .ref a9, .ref a10, .long (jL mu), .long (jL md), .int (jI mo), .ref a11])), (a0, .inl (cA, 400, .inl (jA y0)))]) [0, 1] (by decide) rfl
    subst hAe
    subst hQ
    exact W.vret hx hb hr (fun t ht hW => ⟨⟨(mp, mw), rfl, ⟨Eq.trans (by rw [f_XM_takeP_s]; rw [if_neg (Int.not_lt.mpr c4_)]; try rfl) rfl, show mp ≤ mp ∧ mp ≤ mn from by first | assumption | omega | exact jset_b (by assumption) (by omega) | exact jset_l (by assumption) (by omega) | exact jset_l (fun _ _ => rfl) (by omega) | exact fun _ _ => rfl | exact l_trans (by assumption) (by assumption), show -1 ≤ mw ∧ mw ≤ 400 ∧ mw ≤ mw from by first | assumption | omega | exact jset_b (by assumption) (by omega) | exact jset_l (by assumption) (by omega) | exact jset_l (fun _ _ => rfl) (by omega) | exact fun _ _ => rfl | exact l_trans (by assumption) (by assumption), show mw < 0 → mp < mp from by first | assumption | omega | exact jset_b (by assumption) (by omega) | exact jset_l (by assumption) (by omega) | exact jset_l (fun _ _ => rfl) (by omega) | exact fun _ _ => rfl | exact l_trans (by assumption) (by assumption)⟩, ⟨by rw [ht]; exact hP9, va_K.moved hW.alike hK, hD9⟩⟩, hS.F ht⟩) hS.2.2 dXM_take_7
noncomputable def g_XM_numberP_J134 (mth : Int) (mn : Int) (mp : Int) (mw : Int) (mu : Int) (md : Int) (mo : Int) (y0 : Int → Int) (z1 : Int) (z2 : Int) (vj : Int) (kj : Int) (w3 : Int) : Int × Int × Int :=
  if w3 < 0 then
    (vj, kj, w3)
  else
    (z1, kj, w3)
noncomputable def f_XM_numberP_J134 : Int → Int → Int → Int → Int → Int → Int → (Int → Int) → Int → Int → Int → Int → Int → Int × Int × Int := jopq g_XM_numberP_J134
theorem f_XM_numberP_J134_q : f_XM_numberP_J134 = g_XM_numberP_J134 := jopq_eq _
theorem f_XM_numberP_J134_s (mth : Int) (mn : Int) (mp : Int) (mw : Int) (mu : Int) (md : Int) (mo : Int) (y0 : Int → Int) (z1 : Int) (z2 : Int) (vj : Int) (kj : Int) (w3 : Int) : f_XM_numberP_J134 mth mn mp mw mu md mo y0 z1 z2 vj kj w3 = (
    if w3 < 0 then
      (vj, kj, w3)
    else
      (z1, kj, w3)
  : Int × Int × Int) := by rw [f_XM_numberP_J134_q]; rfl
noncomputable def g_XM_numberP_J112 (mth : Int) (mn : Int) (mp : Int) (mw : Int) (mu : Int) (md : Int) (mo : Int) (y0 : Int → Int) (z1 : Int) (z2 : Int) (vj : Int) (dj : Int) (kj : Int) (w2 : Int) : Int × Int × Int :=
  if dj = 6 then
    if (f_XM_isDigit mth mn kj w2 mu md mo y0) = 0 then
      f_XM_numberP_J134 mth mn mp mw mu md mo y0 z1 z2 vj kj w2
    else
      f_XM_numberP_J134 mth mn mp mw mu md mo y0 z1 z2 vj kj (f_XM_failP mth mn kj w2 mu md mo kj)
  else
    f_XM_numberP_J134 mth mn mp mw mu md mo y0 z1 z2 vj kj w2
noncomputable def f_XM_numberP_J112 : Int → Int → Int → Int → Int → Int → Int → (Int → Int) → Int → Int → Int → Int → Int → Int → Int × Int × Int := jopq g_XM_numberP_J112
theorem f_XM_numberP_J112_q : f_XM_numberP_J112 = g_XM_numberP_J112 := jopq_eq _
theorem f_XM_numberP_J112_s (mth : Int) (mn : Int) (mp : Int) (mw : Int) (mu : Int) (md : Int) (mo : Int) (y0 : Int → Int) (z1 : Int) (z2 : Int) (vj : Int) (dj : Int) (kj : Int) (w2 : Int) : f_XM_numberP_J112 mth mn mp mw mu md mo y0 z1 z2 vj dj kj w2 = (
    if dj = 6 then
      if (f_XM_isDigit mth mn kj w2 mu md mo y0) = 0 then
        f_XM_numberP_J134 mth mn mp mw mu md mo y0 z1 z2 vj kj w2
      else
        f_XM_numberP_J134 mth mn mp mw mu md mo y0 z1 z2 vj kj (f_XM_failP mth mn kj w2 mu md mo kj)
    else
      f_XM_numberP_J134 mth mn mp mw mu md mo y0 z1 z2 vj kj w2
  : Int × Int × Int) := by rw [f_XM_numberP_J112_q]; rfl
noncomputable def g_XM_numberP_J93 (mth : Int) (mn : Int) (mp : Int) (mw : Int) (mu : Int) (md : Int) (mo : Int) (y0 : Int → Int) (z1 : Int) (z2 : Int) (w1 : Int) (vj : Int) (dj : Int) (kj : Int) : Int × Int × Int :=
  if (f_XM_in vj z1 z2) = 0 then
    f_XM_numberP_J112 mth mn mp mw mu md mo y0 z1 z2 vj dj kj (f_XM_failP mth mn kj w1 mu md mo (kj - 1))
  else
    f_XM_numberP_J112 mth mn mp mw mu md mo y0 z1 z2 vj dj kj w1
noncomputable def f_XM_numberP_J93 : Int → Int → Int → Int → Int → Int → Int → (Int → Int) → Int → Int → Int → Int → Int → Int → Int × Int × Int := jopq g_XM_numberP_J93
theorem f_XM_numberP_J93_q : f_XM_numberP_J93 = g_XM_numberP_J93 := jopq_eq _
theorem f_XM_numberP_J93_s (mth : Int) (mn : Int) (mp : Int) (mw : Int) (mu : Int) (md : Int) (mo : Int) (y0 : Int → Int) (z1 : Int) (z2 : Int) (w1 : Int) (vj : Int) (dj : Int) (kj : Int) : f_XM_numberP_J93 mth mn mp mw mu md mo y0 z1 z2 w1 vj dj kj = (
    if (f_XM_in vj z1 z2) = 0 then
      f_XM_numberP_J112 mth mn mp mw mu md mo y0 z1 z2 vj dj kj (f_XM_failP mth mn kj w1 mu md mo (kj - 1))
    else
      f_XM_numberP_J112 mth mn mp mw mu md mo y0 z1 z2 vj dj kj w1
  : Int × Int × Int) := by rw [f_XM_numberP_J93_q]; rfl
noncomputable def g_XM_numberP_L34 (mth : Int) (mn : Int) (mp : Int) (mw : Int) (mu : Int) (md : Int) (mo : Int) (y0 : Int → Int) (z1 : Int) (z2 : Int) (w1 : Int) : Nat → Int → Int → Int → Int × Int × Int
  | 0, _, _, _ => (0, 0, 0)
  | n9 + 1, v, dg, k =>
    if w1 < 0 then
      if (f_XM_isDigit mth mn k w1 mu md mo y0) = 0 then
        f_XM_numberP_J93 mth mn mp mw mu md mo y0 z1 z2 w1 v dg k
      else
        if dg < 6 then
          if dg = 0 then
            g_XM_numberP_L34 mth mn mp mw mu md mo y0 z1 z2 w1 n9 (((10 * v) + (f_XM_here mth mn k w1 mu md mo y0)) - 48) (dg + 1) (k + 1)
          else
            if 0 < v then
              g_XM_numberP_L34 mth mn mp mw mu md mo y0 z1 z2 w1 n9 (((10 * v) + (f_XM_here mth mn k w1 mu md mo y0)) - 48) (dg + 1) (k + 1)
            else
              f_XM_numberP_J93 mth mn mp mw mu md mo y0 z1 z2 w1 v dg k
        else
          f_XM_numberP_J93 mth mn mp mw mu md mo y0 z1 z2 w1 v dg k
    else
      f_XM_numberP_J93 mth mn mp mw mu md mo y0 z1 z2 w1 v dg k
noncomputable def f_XM_numberP_L34 : Int → Int → Int → Int → Int → Int → Int → (Int → Int) → Int → Int → Int → Nat → Int → Int → Int → Int × Int × Int := jopq g_XM_numberP_L34
theorem f_XM_numberP_L34_q : f_XM_numberP_L34 = g_XM_numberP_L34 := jopq_eq _
theorem f_XM_numberP_L34_s (mth : Int) (mn : Int) (mp : Int) (mw : Int) (mu : Int) (md : Int) (mo : Int) (y0 : Int → Int) (z1 : Int) (z2 : Int) (w1 : Int) (n9 : Nat) (v : Int) (dg : Int) (k : Int) : f_XM_numberP_L34 mth mn mp mw mu md mo y0 z1 z2 w1 (n9 + 1) v dg k = (
    if w1 < 0 then
      if (f_XM_isDigit mth mn k w1 mu md mo y0) = 0 then
        f_XM_numberP_J93 mth mn mp mw mu md mo y0 z1 z2 w1 v dg k
      else
        if dg < 6 then
          if dg = 0 then
            f_XM_numberP_L34 mth mn mp mw mu md mo y0 z1 z2 w1 n9 (((10 * v) + (f_XM_here mth mn k w1 mu md mo y0)) - 48) (dg + 1) (k + 1)
          else
            if 0 < v then
              f_XM_numberP_L34 mth mn mp mw mu md mo y0 z1 z2 w1 n9 (((10 * v) + (f_XM_here mth mn k w1 mu md mo y0)) - 48) (dg + 1) (k + 1)
            else
              f_XM_numberP_J93 mth mn mp mw mu md mo y0 z1 z2 w1 v dg k
        else
          f_XM_numberP_J93 mth mn mp mw mu md mo y0 z1 z2 w1 v dg k
    else
      f_XM_numberP_J93 mth mn mp mw mu md mo y0 z1 z2 w1 v dg k
  : Int × Int × Int) := by rw [f_XM_numberP_L34_q]; rfl
noncomputable def g_XM_numberP_J29 (mth : Int) (mn : Int) (mp : Int) (mw : Int) (mu : Int) (md : Int) (mo : Int) (y0 : Int → Int) (z1 : Int) (z2 : Int) (mp1' : Int) (w1 : Int) : Int × Int × Int :=
  f_XM_numberP_L34 mth mn mp mw mu md mo y0 z1 z2 w1 (Int.toNat (6 - 0) + 1) 0 0 mp1'
noncomputable def f_XM_numberP_J29 : Int → Int → Int → Int → Int → Int → Int → (Int → Int) → Int → Int → Int → Int → Int × Int × Int := jopq g_XM_numberP_J29
theorem f_XM_numberP_J29_q : f_XM_numberP_J29 = g_XM_numberP_J29 := jopq_eq _
theorem f_XM_numberP_J29_s (mth : Int) (mn : Int) (mp : Int) (mw : Int) (mu : Int) (md : Int) (mo : Int) (y0 : Int → Int) (z1 : Int) (z2 : Int) (mp1' : Int) (w1 : Int) : f_XM_numberP_J29 mth mn mp mw mu md mo y0 z1 z2 mp1' w1 = (
    f_XM_numberP_L34 mth mn mp mw mu md mo y0 z1 z2 w1 (Int.toNat (6 - 0) + 1) 0 0 mp1'
  : Int × Int × Int) := by rw [f_XM_numberP_J29_q]; rfl
noncomputable def g_XM_numberP (mth : Int) (mn : Int) (mp : Int) (mw : Int) (mu : Int) (md : Int) (mo : Int) (y0 : Int → Int) (z1 : Int) (z2 : Int) : Int × Int × Int :=
  if mw < 0 then
    match f_XM_seeP mth mn mp mw mu md mo y0 with
    | (r, mp1') =>
      if (f_XM_isDigit mth mn mp1' mw mu md mo y0) = 0 then
        f_XM_numberP_J29 mth mn mp mw mu md mo y0 z1 z2 mp1' (f_XM_failP mth mn mp1' mw mu md mo mp1')
      else
        f_XM_numberP_J29 mth mn mp mw mu md mo y0 z1 z2 mp1' mw
  else
    (z1, mp, mw)
noncomputable def f_XM_numberP : Int → Int → Int → Int → Int → Int → Int → (Int → Int) → Int → Int → Int × Int × Int := jopq g_XM_numberP
theorem f_XM_numberP_q : f_XM_numberP = g_XM_numberP := jopq_eq _
theorem f_XM_numberP_s (mth : Int) (mn : Int) (mp : Int) (mw : Int) (mu : Int) (md : Int) (mo : Int) (y0 : Int → Int) (z1 : Int) (z2 : Int) : f_XM_numberP mth mn mp mw mu md mo y0 z1 z2 = (
    if mw < 0 then
      match f_XM_seeP mth mn mp mw mu md mo y0 with
      | (r, mp1') =>
        if (f_XM_isDigit mth mn mp1' mw mu md mo y0) = 0 then
          f_XM_numberP_J29 mth mn mp mw mu md mo y0 z1 z2 mp1' (f_XM_failP mth mn mp1' mw mu md mo mp1')
        else
          f_XM_numberP_J29 mth mn mp mw mu md mo y0 z1 z2 mp1' mw
    else
      (z1, mp, mw)
  : Int × Int × Int) := by rw [f_XM_numberP_q]; rfl
set_option maxHeartbeats 4000000 in
set_option maxRecDepth 100000 in
theorem c_XM_numberP (l : Launch) (dC : Nat → ClassId) (dI : Nat → Nat → Nat) (cA cZ : ClassId) (sz : Nat) (ma : Nat) (a0 : Nat) (a1 : Nat) (a2 : Nat) (a3 : Nat) (a4 : Nat) (a5 : Nat) (a6 : Nat) (a7 : Nat) (a8 : Nat) (a9 : Nat) (a10 : Nat) (a11 : Nat) (mth : Int) (mn : Int) (mp : Int) (mw : Int) (mu : Int) (md : Int) (mo : Int) (y0 : Int → Int) (z1 : Int) (z2 : Int) (hy0 : ∀ i, 0 ≤ y0 i ∧ y0 i ≤ 255) (hmn : 0 ≤ mn ∧ mn ≤ 400) (hmp : 0 ≤ mp ∧ mp ≤ mn) (hmw : -1 ≤ mw ∧ mw ≤ 400) (hz : 0 ≤ z1 ∧ z1 ≤ z2 ∧ z2 ≤ 999999) : Met l yXM_number (Cond.code yXM_number cXM_number 5 (some .int) :: TBL) ({ frames := 2, cells := 0, slots := 0, locals := 42 } : Room) (va_Pc [.ref ma, .int (jI z1), .int (jI z2)] (jBw (dC, dI) [(cA, .int), (cZ, .boolean)] [(ma, .inr (5, [.int (jI mth), .int (jI mn), .ref a0, .int (jI mp), .int (jI mw), .ref a1, .ref a2, .ref a3, .ref a4, .ref a5, .ref a6, .ref a7, .ref a8, .ref a9, .ref a10, .long (jL mu), .long (jL md), .int (jI mo), .ref a11])), (a0, .inl (cA, 400, .inl (jA y0)))] sz)) (va_Qi (fun (r : Int32) (u : Int × Int × Int) => r = jI u.1 ∧ u = f_XM_numberP mth mn mp mw mu md mo y0 z1 z2 ∧ (z1 ≤ u.1 ∧ u.1 ≤ z2) ∧ (mp ≤ u.2.1 ∧ u.2.1 ≤ mn) ∧ (-1 ≤ u.2.2 ∧ u.2.2 ≤ 400 ∧ mw ≤ u.2.2) ∧ (u.2.2 < 0 → mp < u.2.1)) (fun u t => jE (dC, dI) [(cA, .int), (cZ, .boolean)] [(ma, .inr (5, [.int (jI mth), .int (jI mn), .ref a0, .int (jI mp), .int (jI mw), .ref a1, .ref a2, .ref a3, .ref a4, .ref a5, .ref a6, .ref a7, .ref a8, .ref a9, .ref a10, .long (jL mu), .long (jL md), .int (jI mo), .ref a11])), (a0, .inl (cA, 400, .inl (jA y0)))] sz [(ma, .inr (5, [.int (jI mth), .int (jI mn), .ref a0, .int (jI u.2.1), .int (jI u.2.2), .ref a1, .ref a2, .ref a3, .ref a4, .ref a5, .ref a6, .ref a7, .ref a8, .ref a9, .ref a10, .long (jL mu), .long (jL md), .int (jI mo), .ref a11])), (a0, .inl (cA, 400, .inl (jA y0)))] t) (va_A [(ma, .inr (5, [.int (jI mth), .int (jI mn), .ref a0, .int (jI mp), .int (jI mw), .ref a1, .ref a2, .ref a3, .ref a4, .ref a5, .ref a6, .ref a7, .ref a8, .ref a9, .ref a10, .long (jL mu), .long (jL md), .int (jI mo), .ref a11])), (a0, .inl (cA, 400, .inl (jA y0)))] sz)) 0 0 (va_A [(ma, .inr (5, [.int (jI mth), .int (jI mn), .ref a0, .int (jI mp), .int (jI mw), .ref a1, .ref a2, .ref a3, .ref a4, .ref a5, .ref a6, .ref a7, .ref a8, .ref a9, .ref a10, .long (jL mu), .long (jL md), .int (jI mo), .ref a11])), (a0, .inl (cA, 400, .inl (jA y0)))] sz) := by
  refine jMet (cc := cXM_number) (maxL := 5) (ret := some .int) (by decide) rfl ?_
  intro p e s m args below meth c s₁ R Q hR hQ B hml hv
  obtain ⟨rfl, hsz, hP, hK, hD0, hN⟩ := hv
  have hx := B.exec
  have hb := B.bytes
  have hr := B.returns
  have hts := atoms_spec (ws := Cond.code yXM_number cXM_number 5 (some .int) :: TBL) B.pre
  have hown : s.vm.findClass RXM = some m.cls := findClass_of_methodNamed B.named
  have hlocks := B.notSynchronized
  subst hsz
  obtain ⟨A, hAe⟩ : ∃ A, A = va_A [(ma, .inr (5, [.int (jI mth), .int (jI mn), .ref a0, .int (jI mp), .int (jI mw), .ref a1, .ref a2, .ref a3, .ref a4, .ref a5, .ref a6, .ref a7, .ref a8, .ref a9, .ref a10, .long (jL mu), .long (jL md), .int (jI mo), .ref a11])), (a0, .inl (cA, 400, .inl (jA y0)))] s.heap.size := ⟨_, rfl⟩
  have hD : va_D A [(ma, .inr (5, [.int (jI mth), .int (jI mn), .ref a0, .int (jI mp), .int (jI mw), .ref a1, .ref a2, .ref a3, .ref a4, .ref a5, .ref a6, .ref a7, .ref a8, .ref a9, .ref a10, .long (jL mu), .long (jL md), .int (jI mo), .ref a11])), (a0, .inl (cA, 400, .inl (jA y0)))] := by rw [hAe]; exact hD0.self
  have hA : ∀ q : Nat, s.heap.size ≤ q → A q := fun q h => by rw [hAe]; exact Or.inr h
  have hS : va_S A s.heap s.heap [] := va_S.rf
  have hP : va_P (dC, dI) vwCl [(ma, .inr (5, [.int (jI mth), .int (jI mn), .ref a0, .int (jI mp), .int (jI mw), .ref a1, .ref a2, .ref a3, .ref a4, .ref a5, .ref a6, .ref a7, .ref a8, .ref a9, .ref a10, .long (jL mu), .long (jL md), .int (jI mo), .ref a11])), (a0, .inl (cA, 400, .inl (jA y0)))] s.heap := hP
  have hl := lv_entry ([.ref ma, .int (jI z1), .int (jI z2)]) (n := 5) (Nat.le_of_ble_eq_true rfl)
  rw [lg_entry_eq]
  generalize (lg_sl ([.ref ma, .int (jI z1), .int (jI z2)]) ++ List.replicate (5 - (lg_sl ([.ref ma, .int (jI z1), .int (jI z2)])).length) Slot.unset).toArray = ls at hl ⊢
  have hl : lv_has ls 5 [(0, .ref ma), (1, .int (jI z1)), (2, .int (jI z2))] := hl
  refine lv_aload_n hx hb dXM_number_0 rfl (lv_at hl 0 rfl) ?_
  refine va_get (D := (dC, dI)) (ci := 5) (v := .int (jI mw)) (C := RXM) (T := TXM) (N := 19) hx hb hts (fun w h => jmem (inXM w h)) hown hK hP 0 rfl rfl 4 (by decide) (hts _ (jmem tw_632)) (fun _ h9 => h9) rfl dXM_number_1 ?_
  refine ji_if_lt (tgt := 9) hx hb dXM_number_4 (by decide) (by omega) (fun c4_ => ?_) (fun c4_ => ?_)
  · refine lv_aload_n hx hb dXM_number_9 rfl (lv_at hl 0 rfl) ?_
    refine jwVi (rest := []) (wr := []) ⟨hx, hb, hml, hown, hts⟩ (c_XM_seeP l dC dI cA cZ _ ma a0 a1 a2 a3 a4 a5 a6 a7 a8 a9 a10 a11 mth mn mp mw mu md mo y0 (by first | assumption | omega) (by first | assumption | omega) (by first | assumption | omega)) (cwV 0 hts (jG_V tw_710 tw_712 ts_16 tw_6 tw_713) rfl rfl rfl (by decide +kernel) (by rw [hR]; exact ⟨Nat.le_of_ble_eq_true rfl, Nat.le_of_ble_eq_true rfl⟩)) hK hP hD hS hA hN [0, 1] [] rfl rfl (by decide) (by decide) (by decide) 0 5 rfl rfl rfl rfl hl.1 rfl (Nat.le_of_ble_eq_true rfl) dXM_number_10 (by rw [hR]; exact ⟨Nat.le_of_ble_eq_true rfl, Nat.le_of_ble_eq_true rfl⟩) (fun v u H locs hwb hP hD hS => ?_)
    obtain ⟨r, mp1'⟩ := u
    try dsimp only at hwb
    obtain ⟨er, hwb, f, f1, f2⟩ := hwb
    subst er
    have f : -1 ≤ r ∧ r ≤ 255 ∧ (0 ≤ r → mp1' < mn) := f
    have f1 : mp ≤ mp1' ∧ mp1' ≤ mn := f1
    have f2 : (mp1' < mn ∧ r = y0 mp1') ∨ (mp1' = mn ∧ r = -1) := f2
    have hP : va_P (dC, dI) vwCl [(ma, .inr (5, [.int (jI mth), .int (jI mn), .ref a0, .int (jI mp1'), .int (jI mw), .ref a1, .ref a2, .ref a3, .ref a4, .ref a5, .ref a6, .ref a7, .ref a8, .ref a9, .ref a10, .long (jL mu), .long (jL md), .int (jI mo), .ref a11])), (a0, .inl (cA, 400, .inl (jA y0)))] H := hP
    have hD : va_D A [(ma, .inr (5, [.int (jI mth), .int (jI mn), .ref a0, .int (jI mp1'), .int (jI mw), .ref a1, .ref a2, .ref a3, .ref a4, .ref a5, .ref a6, .ref a7, .ref a8, .ref a9, .ref a10, .long (jL mu), .long (jL md), .int (jI mo), .ref a11])), (a0, .inl (cA, 400, .inl (jA y0)))] := hD
    refine lv_pop hx hb dXM_number_13 rfl ?_
    refine lv_aload_n hx hb dXM_number_14 rfl (lv_at hl 0 rfl) ?_
    refine jrVi (rest := []) ⟨hx, hb, hml, hown, hts⟩ (c_XM_isDigit l dC dI cA cZ ma a0 a1 a2 a3 a4 a5 a6 a7 a8 a9 a10 a11 mth mn mp1' mw mu md mo y0 (by first | assumption | omega) (by first | assumption | omega) (by first | assumption | omega)) (cwV 0 hts (jG_V tw_730 tw_732 ts_21 tw_6 tw_733) rfl rfl rfl (by decide +kernel) (by rw [hR]; exact ⟨Nat.le_of_ble_eq_true rfl, Nat.le_of_ble_eq_true rfl⟩)) hK hP hN [0, 1] rfl 0 5 rfl rfl rfl rfl hl.1 rfl (Nat.le_of_ble_eq_true rfl) dXM_number_15 (by rw [hR]; exact ⟨Nat.le_of_ble_eq_true rfl, Nat.le_of_ble_eq_true rfl⟩) ?_
    have f3 := f_XM_isDigit_b mth mn mp1' mw mu md mo y0 (by first | assumption | omega) (by first | assumption | omega) (by first | assumption | omega)
    have join29 : ∀ (w1 : Int) , f_XM_numberP_J29 mth mn mp mw mu md mo y0 z1 z2 mp1' w1 = f_XM_numberP mth mn mp mw mu md mo y0 z1 z2 → (-1 ≤ w1 ∧ w1 ≤ 400 ∧ mw ≤ w1) → (w1 < 0 → (mp1' < mn ∧ 48 ≤ y0 mp1' ∧ y0 mp1' ≤ 57)) → ∀ (H : Heap) (locs : List Loc), va_P (dC, dI) vwCl [(ma, .inr (5, [.int (jI mth), .int (jI mn), .ref a0, .int (jI mp1'), .int (jI w1), .ref a1, .ref a2, .ref a3, .ref a4, .ref a5, .ref a6, .ref a7, .ref a8, .ref a9, .ref a10, .long (jL mu), .long (jL md), .int (jI mo), .ref a11])), (a0, .inl (cA, 400, .inl (jA y0)))] H → va_D A [(ma, .inr (5, [.int (jI mth), .int (jI mn), .ref a0, .int (jI mp1'), .int (jI w1), .ref a1, .ref a2, .ref a3, .ref a4, .ref a5, .ref a6, .ref a7, .ref a8, .ref a9, .ref a10, .long (jL mu), .long (jL md), .int (jI mo), .ref a11])), (a0, .inl (cA, 400, .inl (jA y0)))] → va_S A s.heap H locs → ∀ ls : Array Slot, lv_has ls 5 [(0, .ref ma), (1, .int (jI z1)), (2, .int (jI z2))] → W p l e R s m ([.ref ma, .int (jI z1), .int (jI z2)] : List Value).toArray below meth c H locs 0 0 Q (F0 m 29 ls []) := by
      intro w1 hF hw1 hw1d H locs hP hD hS ls hl
      have join93 : ∀ (vj : Int) (dj : Int) (kj : Int) , f_XM_numberP_J93 mth mn mp mw mu md mo y0 z1 z2 w1 vj dj kj = f_XM_numberP mth mn mp mw mu md mo y0 z1 z2 → (mp1' ≤ kj ∧ kj ≤ mn ∧ (0 < dj → mp1' < kj)) → (0 ≤ dj ∧ dj ≤ 6 ∧ 0 ≤ vj) → ((dj = 0 → vj = 0) ∧ (dj ≤ 1 → vj ≤ 9) ∧ (dj ≤ 2 → vj ≤ 99) ∧ (dj ≤ 3 → vj ≤ 999) ∧ (dj ≤ 4 → vj ≤ 9999) ∧ (dj ≤ 5 → vj ≤ 99999) ∧ vj ≤ 999999) → (w1 < 0 → 1 ≤ dj) → ∀ (H : Heap) (locs : List Loc), va_P (dC, dI) vwCl [(ma, .inr (5, [.int (jI mth), .int (jI mn), .ref a0, .int (jI kj), .int (jI w1), .ref a1, .ref a2, .ref a3, .ref a4, .ref a5, .ref a6, .ref a7, .ref a8, .ref a9, .ref a10, .long (jL mu), .long (jL md), .int (jI mo), .ref a11])), (a0, .inl (cA, 400, .inl (jA y0)))] H → va_D A [(ma, .inr (5, [.int (jI mth), .int (jI mn), .ref a0, .int (jI kj), .int (jI w1), .ref a1, .ref a2, .ref a3, .ref a4, .ref a5, .ref a6, .ref a7, .ref a8, .ref a9, .ref a10, .long (jL mu), .long (jL md), .int (jI mo), .ref a11])), (a0, .inl (cA, 400, .inl (jA y0)))] → va_S A s.heap H locs → ∀ ls : Array Slot, lv_has ls 5 [(0, .ref ma), (1, .int (jI z1)), (2, .int (jI z2)), (3, .int (jI vj)), (4, .int (jI dj))] → W p l e R s m ([.ref ma, .int (jI z1), .int (jI z2)] : List Value).toArray below meth c H locs 0 0 Q (F0 m 93 ls []) := by
        intro vj dj kj hF hk hd hv hx9 H locs hP hD hS ls hl
        have join112 : ∀ (w2 : Int) , f_XM_numberP_J112 mth mn mp mw mu md mo y0 z1 z2 vj dj kj w2 = f_XM_numberP mth mn mp mw mu md mo y0 z1 z2 → (-1 ≤ w2 ∧ w2 ≤ 400 ∧ w1 ≤ w2) → (w2 < 0 → z1 ≤ vj ∧ vj ≤ z2) → ∀ (H : Heap) (locs : List Loc), va_P (dC, dI) vwCl [(ma, .inr (5, [.int (jI mth), .int (jI mn), .ref a0, .int (jI kj), .int (jI w2), .ref a1, .ref a2, .ref a3, .ref a4, .ref a5, .ref a6, .ref a7, .ref a8, .ref a9, .ref a10, .long (jL mu), .long (jL md), .int (jI mo), .ref a11])), (a0, .inl (cA, 400, .inl (jA y0)))] H → va_D A [(ma, .inr (5, [.int (jI mth), .int (jI mn), .ref a0, .int (jI kj), .int (jI w2), .ref a1, .ref a2, .ref a3, .ref a4, .ref a5, .ref a6, .ref a7, .ref a8, .ref a9, .ref a10, .long (jL mu), .long (jL md), .int (jI mo), .ref a11])), (a0, .inl (cA, 400, .inl (jA y0)))] → va_S A s.heap H locs → ∀ ls : Array Slot, lv_has ls 5 [(0, .ref ma), (1, .int (jI z1)), (2, .int (jI z2)), (3, .int (jI vj)), (4, .int (jI dj))] → W p l e R s m ([.ref ma, .int (jI z1), .int (jI z2)] : List Value).toArray below meth c H locs 0 0 Q (F0 m 112 ls []) := by
          intro w2 hF hw2 hw2v H locs hP hD hS ls hl
          have join134 : ∀ (w3 : Int) , f_XM_numberP_J134 mth mn mp mw mu md mo y0 z1 z2 vj kj w3 = f_XM_numberP mth mn mp mw mu md mo y0 z1 z2 → (-1 ≤ w3 ∧ w3 ≤ 400 ∧ w2 ≤ w3) → ∀ (H : Heap) (locs : List Loc), va_P (dC, dI) vwCl [(ma, .inr (5, [.int (jI mth), .int (jI mn), .ref a0, .int (jI kj), .int (jI w3), .ref a1, .ref a2, .ref a3, .ref a4, .ref a5, .ref a6, .ref a7, .ref a8, .ref a9, .ref a10, .long (jL mu), .long (jL md), .int (jI mo), .ref a11])), (a0, .inl (cA, 400, .inl (jA y0)))] H → va_D A [(ma, .inr (5, [.int (jI mth), .int (jI mn), .ref a0, .int (jI kj), .int (jI w3), .ref a1, .ref a2, .ref a3, .ref a4, .ref a5, .ref a6, .ref a7, .ref a8, .ref a9, .ref a10, .long (jL mu), .long (jL md), .int (jI mo), .ref a11])), (a0, .inl (cA, 400, .inl (jA y0)))] → va_S A s.heap H locs → ∀ ls : Array Slot, lv_has ls 5 [(0, .ref ma), (1, .int (jI z1)), (2, .int (jI z2)), (3, .int (jI vj)), (4, .int (jI dj))] → W p l e R s m ([.ref ma, .int (jI z1), .int (jI z2)] : List Value).toArray below meth c H locs 0 0 Q (F0 m 134 ls []) := by
            intro w3 hF hw3 H locs hP hD hS ls hl
            refine lv_aload_n hx hb dXM_number_134 rfl (lv_at hl 0 rfl) ?_
            refine va_get (D := (dC, dI)) (ci := 5) (v := .int (jI w3)) (C := RXM) (T := TXM) (N := 19) hx hb hts (fun w h => jmem (inXM w h)) hown hK hP 0 rfl rfl 4 (by decide) (hts _ (jmem tw_632)) (fun _ h9 => h9) rfl dXM_number_135 ?_
            refine ji_if_ge (tgt := 145) hx hb dXM_number_138 (by decide) (by omega) (fun c138_ => ?_) (fun c138_ => ?_)
            · refine lv_iload_n hx hb dXM_number_145 rfl (lv_at hl 1 rfl) ?_
              have hP9 := hP.sub (ws' := [(ma, .inr (5, [.int (jI mth), .int (jI mn), .ref a0, .int (jI kj), .int (jI w3), .ref a1, .ref a2, .ref a3, .ref a4, .ref a5, .ref a6, .ref a7, .ref a8, .ref a9, .ref a10, .long (jL mu), .long (jL md), .int (jI mo), .ref a11])), (a0, .inl (cA, 400, .inl (jA y0)))]) [0, 1] rfl
              have hD9 := hD.sub (ws' := [(ma, .inr (5, [.int (jI mth), .int (jI mn), .ref a0, .int (jI kj), .int (jI w3), .ref a1, .ref a2, .ref a3, .ref a4, .ref a5, .ref a6, .ref a7, .ref a8, .ref a9, .ref a10, .long (jL mu), .long (jL md), .int (jI mo), .ref a11])), (a0, .inl (cA, 400, .inl (jA y0)))]) [0, 1] (by decide) rfl
              subst hAe
              subst hQ
              exact W.iret (v := jI z1) hx hb hr (fun t ht hW => ⟨⟨_, (z1, kj, w3), rfl, ⟨rfl, Eq.trans (by rw [f_XM_numberP_J134_s]; rw [if_neg (Int.not_lt.mpr c138_)]; try rfl) hF, show z1 ≤ z1 ∧ z1 ≤ z2 from by first | assumption | omega | exact jset_b (by assumption) (by omega) | exact jset_l (by assumption) (by omega) | exact jset_l (fun _ _ => rfl) (by omega) | exact fun _ _ => rfl | exact l_trans (by assumption) (by assumption), show mp ≤ kj ∧ kj ≤ mn from by first | assumption | omega | exact jset_b (by assumption) (by omega) | exact jset_l (by assumption) (by omega) | exact jset_l (fun _ _ => rfl) (by omega) | exact fun _ _ => rfl | exact l_trans (by assumption) (by assumption), show -1 ≤ w3 ∧ w3 ≤ 400 ∧ mw ≤ w3 from by first | assumption | omega | exact jset_b (by assumption) (by omega) | exact jset_l (by assumption) (by omega) | exact jset_l (fun _ _ => rfl) (by omega) | exact fun _ _ => rfl | exact l_trans (by assumption) (by assumption), show w3 < 0 → mp < kj from by first | assumption | omega | exact jset_b (by assumption) (by omega) | exact jset_l (by assumption) (by omega) | exact jset_l (fun _ _ => rfl) (by omega) | exact fun _ _ => rfl | exact l_trans (by assumption) (by assumption)⟩, ⟨by rw [ht]; exact hP9, va_K.moved hW.alike hK, hD9⟩⟩, hS.F ht⟩) hS.2.2 dXM_number_146
            · refine lv_iload_n hx hb dXM_number_141 rfl (lv_at hl 3 rfl) ?_
              refine lv_goto (tgt := 146) hx hb dXM_number_142 (by decide) ?_
              have hP9 := hP.sub (ws' := [(ma, .inr (5, [.int (jI mth), .int (jI mn), .ref a0, .int (jI kj), .int (jI w3), .ref a1, .ref a2, .ref a3, .ref a4, .ref a5, .ref a6, .ref a7, .ref a8, .ref a9, .ref a10, .long (jL mu), .long (jL md), .int (jI mo), .ref a11])), (a0, .inl (cA, 400, .inl (jA y0)))]) [0, 1] rfl
              have hD9 := hD.sub (ws' := [(ma, .inr (5, [.int (jI mth), .int (jI mn), .ref a0, .int (jI kj), .int (jI w3), .ref a1, .ref a2, .ref a3, .ref a4, .ref a5, .ref a6, .ref a7, .ref a8, .ref a9, .ref a10, .long (jL mu), .long (jL md), .int (jI mo), .ref a11])), (a0, .inl (cA, 400, .inl (jA y0)))]) [0, 1] (by decide) rfl
              subst hAe
              subst hQ
              exact W.iret (v := jI vj) hx hb hr (fun t ht hW => ⟨⟨_, (vj, kj, w3), rfl, ⟨rfl, Eq.trans (by rw [f_XM_numberP_J134_s]; rw [if_pos c138_]; try rfl) hF, show z1 ≤ vj ∧ vj ≤ z2 from by first | assumption | omega | exact jset_b (by assumption) (by omega) | exact jset_l (by assumption) (by omega) | exact jset_l (fun _ _ => rfl) (by omega) | exact fun _ _ => rfl | exact l_trans (by assumption) (by assumption), show mp ≤ kj ∧ kj ≤ mn from by first | assumption | omega | exact jset_b (by assumption) (by omega) | exact jset_l (by assumption) (by omega) | exact jset_l (fun _ _ => rfl) (by omega) | exact fun _ _ => rfl | exact l_trans (by assumption) (by assumption), show -1 ≤ w3 ∧ w3 ≤ 400 ∧ mw ≤ w3 from by first | assumption | omega | exact jset_b (by assumption) (by omega) | exact jset_l (by assumption) (by omega) | exact jset_l (fun _ _ => rfl) (by omega) | exact fun _ _ => rfl | exact l_trans (by assumption) (by assumption), show w3 < 0 → mp < kj from by first | assumption | omega | exact jset_b (by assumption) (by omega) | exact jset_l (by assumption) (by omega) | exact jset_l (fun _ _ => rfl) (by omega) | exact fun _ _ => rfl | exact l_trans (by assumption) (by assumption)⟩, ⟨by rw [ht]; exact hP9, va_K.moved hW.alike hK, hD9⟩⟩, hS.F ht⟩) hS.2.2 dXM_number_146
          refine lv_iload hx hb dXM_number_112 (lv_at hl 4 rfl) ?_
          refine ji_bipush hx hb dXM_number_114 (by decide) ?_
          refine ji_icmp_ne (tgt := 134) hx hb dXM_number_116 (by decide) (by omega) (by omega) (fun c116_ => ?_) (fun c116_ => ?_)
          · exact join134 w2 (Eq.trans (by rw [f_XM_numberP_J112_s]; rw [if_neg c116_]; try rfl) hF) (by first | assumption | omega | exact jset_b (by assumption) (by omega)) _ _ hP hD hS ls (lv_sub hl [0, 1, 2, 3, 4] rfl)
          · refine lv_aload_n hx hb dXM_number_119 rfl (lv_at hl 0 rfl) ?_
            refine jrVi (rest := []) ⟨hx, hb, hml, hown, hts⟩ (c_XM_isDigit l dC dI cA cZ ma a0 a1 a2 a3 a4 a5 a6 a7 a8 a9 a10 a11 mth mn kj w2 mu md mo y0 (by first | assumption | omega) (by first | assumption | omega) (by first | assumption | omega)) (cwV 0 hts (jG_V tw_730 tw_732 ts_21 tw_6 tw_733) rfl rfl rfl (by decide +kernel) (by rw [hR]; exact ⟨Nat.le_of_ble_eq_true rfl, Nat.le_of_ble_eq_true rfl⟩)) hK hP hN [0, 1] rfl 0 5 rfl rfl rfl rfl hl.1 rfl (Nat.le_of_ble_eq_true rfl) dXM_number_120 (by rw [hR]; exact ⟨Nat.le_of_ble_eq_true rfl, Nat.le_of_ble_eq_true rfl⟩) ?_
            have f4 := f_XM_isDigit_b mth mn kj w2 mu md mo y0 (by first | assumption | omega) (by first | assumption | omega) (by first | assumption | omega)
            refine ji_if_eq (tgt := 134) hx hb dXM_number_123 (by decide) (by omega) (fun c123_ => ?_) (fun c123_ => ?_)
            · exact join134 w2 (Eq.trans (by rw [f_XM_numberP_J112_s]; rw [if_pos c116_, if_pos c123_]; try rfl) hF) (by first | assumption | omega | exact jset_b (by assumption) (by omega)) _ _ hP hD hS ls (lv_sub hl [0, 1, 2, 3, 4] rfl)
            · refine lv_aload_n hx hb dXM_number_126 rfl (lv_at hl 0 rfl) ?_
              refine lv_aload_n hx hb dXM_number_127 rfl (lv_at hl 0 rfl) ?_
              refine va_get (D := (dC, dI)) (ci := 5) (v := .int (jI kj)) (C := RXM) (T := TXM) (N := 19) hx hb hts (fun w h => jmem (inXM w h)) hown hK hP 0 rfl rfl 3 (by decide) (hts _ (jmem tw_631)) (fun _ h9 => h9) rfl dXM_number_128 ?_
              refine jwVv (rest := []) (wr := [(a0, .inl (cA, 400, .inl (jA y0)))]) ⟨hx, hb, hml, hown, hts⟩ (c_XM_failP l dC dI cA cZ _ ma a0 a1 a2 a3 a4 a5 a6 a7 a8 a9 a10 a11 mth mn kj w2 mu md mo kj (by first | assumption | omega) (by first | assumption | omega)) (cwV 1 hts (jG_V tw_734 tw_736 ts_22 tw_6 tw_737) rfl rfl rfl (by decide +kernel) (by rw [hR]; exact ⟨Nat.le_of_ble_eq_true rfl, Nat.le_of_ble_eq_true rfl⟩)) hK hP hD hS hA hN [0] [1] rfl rfl (by decide) (by decide) (by decide) 0 5 rfl rfl rfl rfl hl.1 rfl (Nat.le_of_ble_eq_true rfl) dXM_number_131 (by rw [hR]; exact ⟨Nat.le_of_ble_eq_true rfl, Nat.le_of_ble_eq_true rfl⟩) (fun u5 H locs hw hP hD hS => ?_)
              obtain ⟨hw, f6⟩ := hw
              subst hw
              have f6 : (0 ≤ w2 ∧ (f_XM_failP mth mn kj w2 mu md mo kj) = w2) ∨ (w2 < 0 ∧ (f_XM_failP mth mn kj w2 mu md mo kj) = kj) := f6
              have hP : va_P (dC, dI) vwCl [(a0, .inl (cA, 400, .inl (jA y0))), (ma, .inr (5, [.int (jI mth), .int (jI mn), .ref a0, .int (jI kj), .int (jI (f_XM_failP mth mn kj w2 mu md mo kj)), .ref a1, .ref a2, .ref a3, .ref a4, .ref a5, .ref a6, .ref a7, .ref a8, .ref a9, .ref a10, .long (jL mu), .long (jL md), .int (jI mo), .ref a11]))] H := hP
              have hD : va_D A [(a0, .inl (cA, 400, .inl (jA y0))), (ma, .inr (5, [.int (jI mth), .int (jI mn), .ref a0, .int (jI kj), .int (jI (f_XM_failP mth mn kj w2 mu md mo kj)), .ref a1, .ref a2, .ref a3, .ref a4, .ref a5, .ref a6, .ref a7, .ref a8, .ref a9, .ref a10, .long (jL mu), .long (jL md), .int (jI mo), .ref a11]))] := hD
              exact join134 (f_XM_failP mth mn kj w2 mu md mo kj) (Eq.trans (by rw [f_XM_numberP_J112_s]; rw [if_pos c116_, if_neg c123_]; try rfl) hF) (by first | assumption | omega | exact jset_b (by assumption) (by omega)) _ _ (hP.sub [1, 0] rfl) (hD.sub [1, 0] (by decide) rfl) hS ls (lv_sub hl [0, 1, 2, 3, 4] rfl)
        refine lv_iload_n hx hb dXM_number_93 rfl (lv_at hl 3 rfl) ?_
        refine lv_iload_n hx hb dXM_number_94 rfl (lv_at hl 1 rfl) ?_
        refine lv_iload_n hx hb dXM_number_95 rfl (lv_at hl 2 rfl) ?_
        refine jrSi (rest := []) ⟨hx, hb, hml, hown, hts⟩ (c_XM_in l dC dI cA cZ vj z1 z2 (by first | assumption | omega) (by first | assumption | omega) (by first | assumption | omega)) (cwS 3 hts (jG_S tw_695 tw_696 tw_6 tw_697) rfl rfl rfl (by decide +kernel) (by rw [hR]; exact ⟨Nat.le_of_ble_eq_true rfl, Nat.le_of_ble_eq_true rfl⟩)) hK hP hN [] rfl rfl hl.1 rfl (Nat.le_of_ble_eq_true rfl) dXM_number_96 (by rw [hR]; exact ⟨Nat.le_of_ble_eq_true rfl, Nat.le_of_ble_eq_true rfl⟩) ?_
        have f7 := f_XM_in_b vj z1 z2 (by first | assumption | omega) (by first | assumption | omega) (by first | assumption | omega)
        refine ji_if_ne (tgt := 112) hx hb dXM_number_99 (by decide) (by omega) (fun c99_ => ?_) (fun c99_ => ?_)
        · exact join112 w1 (Eq.trans (by rw [f_XM_numberP_J93_s]; rw [if_neg c99_]; try rfl) hF) (by first | assumption | omega | exact jset_b (by assumption) (by omega)) (by first | assumption | omega | exact jset_b (by assumption) (by omega)) _ _ hP hD hS ls (lv_sub hl [0, 1, 2, 3, 4] rfl)
        · refine lv_aload_n hx hb dXM_number_102 rfl (lv_at hl 0 rfl) ?_
          refine lv_aload_n hx hb dXM_number_103 rfl (lv_at hl 0 rfl) ?_
          refine va_get (D := (dC, dI)) (ci := 5) (v := .int (jI kj)) (C := RXM) (T := TXM) (N := 19) hx hb hts (fun w h => jmem (inXM w h)) hown hK hP 0 rfl rfl 3 (by decide) (hts _ (jmem tw_631)) (fun _ h9 => h9) rfl dXM_number_104 ?_
          refine ji_iconst hx hb dXM_number_107 ?_
          refine ji_isub hx hb dXM_number_108 ?_
          refine jwVv (rest := []) (wr := [(a0, .inl (cA, 400, .inl (jA y0)))]) ⟨hx, hb, hml, hown, hts⟩ (c_XM_failP l dC dI cA cZ _ ma a0 a1 a2 a3 a4 a5 a6 a7 a8 a9 a10 a11 mth mn kj w1 mu md mo (kj - 1) (by first | assumption | omega) (by first | assumption | omega)) (cwV 1 hts (jG_V tw_734 tw_736 ts_22 tw_6 tw_737) rfl rfl rfl (by decide +kernel) (by rw [hR]; exact ⟨Nat.le_of_ble_eq_true rfl, Nat.le_of_ble_eq_true rfl⟩)) hK hP hD hS hA hN [0] [1] rfl rfl (by decide) (by decide) (by decide) 0 5 rfl rfl rfl rfl hl.1 rfl (Nat.le_of_ble_eq_true rfl) dXM_number_109 (by rw [hR]; exact ⟨Nat.le_of_ble_eq_true rfl, Nat.le_of_ble_eq_true rfl⟩) (fun u8 H locs hw hP hD hS => ?_)
          obtain ⟨hw, f9⟩ := hw
          subst hw
          have f9 : (0 ≤ w1 ∧ (f_XM_failP mth mn kj w1 mu md mo (kj - 1)) = w1) ∨ (w1 < 0 ∧ (f_XM_failP mth mn kj w1 mu md mo (kj - 1)) = (kj - 1)) := f9
          have hP : va_P (dC, dI) vwCl [(a0, .inl (cA, 400, .inl (jA y0))), (ma, .inr (5, [.int (jI mth), .int (jI mn), .ref a0, .int (jI kj), .int (jI (f_XM_failP mth mn kj w1 mu md mo (kj - 1))), .ref a1, .ref a2, .ref a3, .ref a4, .ref a5, .ref a6, .ref a7, .ref a8, .ref a9, .ref a10, .long (jL mu), .long (jL md), .int (jI mo), .ref a11]))] H := hP
          have hD : va_D A [(a0, .inl (cA, 400, .inl (jA y0))), (ma, .inr (5, [.int (jI mth), .int (jI mn), .ref a0, .int (jI kj), .int (jI (f_XM_failP mth mn kj w1 mu md mo (kj - 1))), .ref a1, .ref a2, .ref a3, .ref a4, .ref a5, .ref a6, .ref a7, .ref a8, .ref a9, .ref a10, .long (jL mu), .long (jL md), .int (jI mo), .ref a11]))] := hD
          exact join112 (f_XM_failP mth mn kj w1 mu md mo (kj - 1)) (Eq.trans (by rw [f_XM_numberP_J93_s]; rw [if_pos c99_]; try rfl) hF) (by first | assumption | omega | exact jset_b (by assumption) (by omega)) (by first | assumption | omega | exact jset_b (by assumption) (by omega)) _ _ (hP.sub [1, 0] rfl) (hD.sub [1, 0] (by decide) rfl) hS ls (lv_sub hl [0, 1, 2, 3, 4] rfl)
      refine ji_iconst hx hb dXM_number_29 ?_
      refine lv_istore_n (lv' := [(3, .int (jI 0)), (0, .ref ma), (1, .int (jI z1)), (2, .int (jI z2))]) hx hb dXM_number_30 rfl hl (by decide) rfl (fun ls hl => ?_)
      refine ji_iconst hx hb dXM_number_31 ?_
      refine lv_istore (lv' := [(4, .int (jI 0)), (3, .int (jI 0)), (0, .ref ma), (1, .int (jI z1)), (2, .int (jI z2))]) hx hb dXM_number_32 hl (by decide) rfl (fun ls hl => ?_)
      have loop34 : ∀ (n9 : Nat) (v : Int) (dg : Int) (k : Int) , 6 - dg < (n9 : Int) → f_XM_numberP_L34 mth mn mp mw mu md mo y0 z1 z2 w1 n9 v dg k = f_XM_numberP mth mn mp mw mu md mo y0 z1 z2 → (mp1' ≤ k ∧ k ≤ mn ∧ (0 < dg → mp1' < k)) → (0 ≤ dg ∧ dg ≤ 6 ∧ 0 ≤ v) → ((dg = 0 → v = 0) ∧ (dg ≤ 1 → v ≤ 9) ∧ (dg ≤ 2 → v ≤ 99) ∧ (dg ≤ 3 → v ≤ 999) ∧ (dg ≤ 4 → v ≤ 9999) ∧ (dg ≤ 5 → v ≤ 99999) ∧ v ≤ 999999) → (dg = 0 → w1 < 0 → (k < mn ∧ 48 ≤ y0 k ∧ y0 k ≤ 57)) → ∀ (H : Heap) (locs : List Loc), va_P (dC, dI) vwCl [(ma, .inr (5, [.int (jI mth), .int (jI mn), .ref a0, .int (jI k), .int (jI w1), .ref a1, .ref a2, .ref a3, .ref a4, .ref a5, .ref a6, .ref a7, .ref a8, .ref a9, .ref a10, .long (jL mu), .long (jL md), .int (jI mo), .ref a11])), (a0, .inl (cA, 400, .inl (jA y0)))] H → va_D A [(ma, .inr (5, [.int (jI mth), .int (jI mn), .ref a0, .int (jI k), .int (jI w1), .ref a1, .ref a2, .ref a3, .ref a4, .ref a5, .ref a6, .ref a7, .ref a8, .ref a9, .ref a10, .long (jL mu), .long (jL md), .int (jI mo), .ref a11])), (a0, .inl (cA, 400, .inl (jA y0)))] → va_S A s.heap H locs → ∀ ls : Array Slot, lv_has ls 5 [(4, .int (jI dg)), (3, .int (jI v)), (0, .ref ma), (1, .int (jI z1)), (2, .int (jI z2))] → W p l e R s m ([.ref ma, .int (jI z1), .int (jI z2)] : List Value).toArray below meth c H locs 0 0 Q (F0 m 34 ls []) := by
        intro n9
        induction n9 with
        | zero =>
          intro v dg k hm hF hk hd hv hq
          exact absurd hm (by omega)
        | succ n9 ih34 =>
          intro v dg k hm hF hk hd hv hq H locs hP hD hS ls hl
          refine lv_aload_n hx hb dXM_number_34 rfl (lv_at hl 2 rfl) ?_
          refine va_get (D := (dC, dI)) (ci := 5) (v := .int (jI w1)) (C := RXM) (T := TXM) (N := 19) hx hb hts (fun w h => jmem (inXM w h)) hown hK hP 0 rfl rfl 4 (by decide) (hts _ (jmem tw_632)) (fun _ h9 => h9) rfl dXM_number_35 ?_
          refine ji_if_ge (tgt := 93) hx hb dXM_number_38 (by decide) (by omega) (fun c38_ => ?_) (fun c38_ => ?_)
          · exact join93 v dg k (Eq.trans (by rw [f_XM_numberP_L34_s]; rw [if_neg (Int.not_lt.mpr c38_)]; try rfl) hF) (by first | assumption | omega | exact jset_b (by assumption) (by omega)) (by first | assumption | omega | exact jset_b (by assumption) (by omega)) (by first | assumption | omega | exact jset_b (by assumption) (by omega)) (by first | assumption | omega | exact jset_b (by assumption) (by omega)) _ _ hP hD hS ls (lv_sub hl [2, 3, 4, 1, 0] rfl)
          · refine lv_aload_n hx hb dXM_number_41 rfl (lv_at hl 2 rfl) ?_
            refine jrVi (rest := []) ⟨hx, hb, hml, hown, hts⟩ (c_XM_isDigit l dC dI cA cZ ma a0 a1 a2 a3 a4 a5 a6 a7 a8 a9 a10 a11 mth mn k w1 mu md mo y0 (by first | assumption | omega) (by first | assumption | omega) (by first | assumption | omega)) (cwV 0 hts (jG_V tw_730 tw_732 ts_21 tw_6 tw_733) rfl rfl rfl (by decide +kernel) (by rw [hR]; exact ⟨Nat.le_of_ble_eq_true rfl, Nat.le_of_ble_eq_true rfl⟩)) hK hP hN [0, 1] rfl 0 5 rfl rfl rfl rfl hl.1 rfl (Nat.le_of_ble_eq_true rfl) dXM_number_42 (by rw [hR]; exact ⟨Nat.le_of_ble_eq_true rfl, Nat.le_of_ble_eq_true rfl⟩) ?_
            have f10 := f_XM_isDigit_b mth mn k w1 mu md mo y0 (by first | assumption | omega) (by first | assumption | omega) (by first | assumption | omega)
            refine ji_if_eq (tgt := 93) hx hb dXM_number_45 (by decide) (by omega) (fun c45_ => ?_) (fun c45_ => ?_)
            · exact join93 v dg k (Eq.trans (by rw [f_XM_numberP_L34_s]; rw [if_pos c38_, if_pos c45_]; try rfl) hF) (by first | assumption | omega | exact jset_b (by assumption) (by omega)) (by first | assumption | omega | exact jset_b (by assumption) (by omega)) (by first | assumption | omega | exact jset_b (by assumption) (by omega)) (by first | assumption | omega | exact jset_b (by assumption) (by omega)) _ _ hP hD hS ls (lv_sub hl [2, 3, 4, 1, 0] rfl)
            · refine lv_iload hx hb dXM_number_48 (lv_at hl 0 rfl) ?_
              refine ji_bipush hx hb dXM_number_50 (by decide) ?_
              refine ji_icmp_ge (tgt := 93) hx hb dXM_number_52 (by decide) (by omega) (by omega) (fun c52_ => ?_) (fun c52_ => ?_)
              · exact join93 v dg k (Eq.trans (by rw [f_XM_numberP_L34_s]; rw [if_pos c38_, if_neg c45_, if_neg (Int.not_lt.mpr c52_)]; try rfl) hF) (by first | assumption | omega | exact jset_b (by assumption) (by omega)) (by first | assumption | omega | exact jset_b (by assumption) (by omega)) (by first | assumption | omega | exact jset_b (by assumption) (by omega)) (by first | assumption | omega | exact jset_b (by assumption) (by omega)) _ _ hP hD hS ls (lv_sub hl [2, 3, 4, 1, 0] rfl)
              · refine lv_iload hx hb dXM_number_55 (lv_at hl 0 rfl) ?_
                refine ji_if_eq (tgt := 64) hx hb dXM_number_57 (by decide) (by omega) (fun c57_ => ?_) (fun c57_ => ?_)
                · refine ji_bipush hx hb dXM_number_64 (by decide) ?_
                  refine lv_iload_n hx hb dXM_number_66 rfl (lv_at hl 1 rfl) ?_
                  refine ji_imul hx hb dXM_number_67 ?_
                  refine lv_aload_n hx hb dXM_number_68 rfl (lv_at hl 2 rfl) ?_
                  refine jrVi (rest := [.int (jI (10 * v))]) ⟨hx, hb, hml, hown, hts⟩ (c_XM_here l dC dI cA cZ ma a0 a1 a2 a3 a4 a5 a6 a7 a8 a9 a10 a11 mth mn k w1 mu md mo y0 (by first | assumption | omega) (by first | assumption | omega) (by first | assumption | omega)) (cwV 0 hts (jG_V tw_714 tw_716 ts_17 tw_6 tw_717) rfl rfl rfl (by decide +kernel) (by rw [hR]; exact ⟨Nat.le_of_ble_eq_true rfl, Nat.le_of_ble_eq_true rfl⟩)) hK hP hN [0, 1] rfl 0 5 rfl rfl rfl rfl hl.1 rfl (Nat.le_of_ble_eq_true rfl) dXM_number_69 (by rw [hR]; exact ⟨Nat.le_of_ble_eq_true rfl, Nat.le_of_ble_eq_true rfl⟩) ?_
                  have f11 := f_XM_here_b mth mn k w1 mu md mo y0 (by first | assumption | omega) (by first | assumption | omega) (by first | assumption | omega)
                  have f12 := f_XM_here_v mth mn k w1 mu md mo y0 (by first | assumption | omega) (by first | assumption | omega) (by first | assumption | omega)
                  refine ji_iadd hx hb dXM_number_72 ?_
                  refine ji_bipush hx hb dXM_number_73 (by decide) ?_
                  refine ji_isub hx hb dXM_number_75 ?_
                  refine lv_istore_n (lv' := [(3, .int (jI (((10 * v) + (f_XM_here mth mn k w1 mu md mo y0)) - 48))), (4, .int (jI dg)), (0, .ref ma), (1, .int (jI z1)), (2, .int (jI z2))]) hx hb dXM_number_76 rfl hl (by decide) rfl (fun ls hl => ?_)
                  refine ji_iinc (k := 1) (lv' := [(4, .int (jI (dg + 1))), (3, .int (jI (((10 * v) + (f_XM_here mth mn k w1 mu md mo y0)) - 48))), (0, .ref ma), (1, .int (jI z1)), (2, .int (jI z2))]) hx hb dXM_number_77 hl rfl (by decide) rfl (fun ls hl => ?_)
                  refine lv_aload_n hx hb dXM_number_80 rfl (lv_at hl 2 rfl) ?_
                  refine lv_dup hx hb dXM_number_81 rfl ?_
                  refine va_get (D := (dC, dI)) (ci := 5) (v := .int (jI k)) (C := RXM) (T := TXM) (N := 19) hx hb hts (fun w h => jmem (inXM w h)) hown hK hP 0 rfl rfl 3 (by decide) (hts _ (jmem tw_631)) (fun _ h9 => h9) rfl dXM_number_82 ?_
                  refine ji_iconst hx hb dXM_number_85 ?_
                  refine ji_iadd hx hb dXM_number_86 ?_
                  refine va_put (D := (dC, dI)) (ci := 5) (v := .int (jI (k + 1))) (ty := (.int)) (C := RXM) (T := TXM) (N := 19) hx hb hts (fun w h => jmem (inXM w h)) tyXM tyXM_ok nXM hown hK hP hD hS 0 rfl rfl 3 (by decide) (hts _ (jmem tw_631)) (fun _ h9 => h9) rfl (by decide +kernel) rfl rfl (Nat.le_of_ble_eq_true rfl) dXM_number_87 (fun H locs hP hD hS => ?_)
                  have hP : va_P (dC, dI) vwCl [(ma, .inr (5, [.int (jI mth), .int (jI mn), .ref a0, .int (jI (k + 1)), .int (jI w1), .ref a1, .ref a2, .ref a3, .ref a4, .ref a5, .ref a6, .ref a7, .ref a8, .ref a9, .ref a10, .long (jL mu), .long (jL md), .int (jI mo), .ref a11])), (a0, .inl (cA, 400, .inl (jA y0)))] H := hP
                  have hD : va_D A [(ma, .inr (5, [.int (jI mth), .int (jI mn), .ref a0, .int (jI (k + 1)), .int (jI w1), .ref a1, .ref a2, .ref a3, .ref a4, .ref a5, .ref a6, .ref a7, .ref a8, .ref a9, .ref a10, .long (jL mu), .long (jL md), .int (jI mo), .ref a11])), (a0, .inl (cA, 400, .inl (jA y0)))] := hD
                  refine lv_goto (tgt := 34) hx hb dXM_number_90 (by decide) ?_
                  exact ih34 (((10 * v) + (f_XM_here mth mn k w1 mu md mo y0)) - 48) (dg + 1) (k + 1) (by omega) (Eq.trans (by rw [f_XM_numberP_L34_s]; rw [if_pos c38_, if_neg c45_, if_pos c52_, if_pos c57_]; try rfl) hF) (by first | assumption | omega) (by first | assumption | omega) (by first | assumption | omega) (by first | assumption | omega) _ _ hP hD hS ls (lv_sub hl [0, 1, 2, 3, 4] rfl)
                · refine lv_iload_n hx hb dXM_number_60 rfl (lv_at hl 1 rfl) ?_
                  refine ji_if_le (tgt := 93) hx hb dXM_number_61 (by decide) (by omega) (fun c61_ => ?_) (fun c61_ => ?_)
                  · exact join93 v dg k (Eq.trans (by rw [f_XM_numberP_L34_s]; rw [if_pos c38_, if_neg c45_, if_pos c52_, if_neg c57_, if_neg (Int.not_lt.mpr c61_)]; try rfl) hF) (by first | assumption | omega | exact jset_b (by assumption) (by omega)) (by first | assumption | omega | exact jset_b (by assumption) (by omega)) (by first | assumption | omega | exact jset_b (by assumption) (by omega)) (by first | assumption | omega | exact jset_b (by assumption) (by omega)) _ _ hP hD hS ls (lv_sub hl [2, 3, 4, 1, 0] rfl)
                  · refine ji_bipush hx hb dXM_number_64 (by decide) ?_
                    refine lv_iload_n hx hb dXM_number_66 rfl (lv_at hl 1 rfl) ?_
                    refine ji_imul hx hb dXM_number_67 ?_
                    refine lv_aload_n hx hb dXM_number_68 rfl (lv_at hl 2 rfl) ?_
                    refine jrVi (rest := [.int (jI (10 * v))]) ⟨hx, hb, hml, hown, hts⟩ (c_XM_here l dC dI cA cZ ma a0 a1 a2 a3 a4 a5 a6 a7 a8 a9 a10 a11 mth mn k w1 mu md mo y0 (by first | assumption | omega) (by first | assumption | omega) (by first | assumption | omega)) (cwV 0 hts (jG_V tw_714 tw_716 ts_17 tw_6 tw_717) rfl rfl rfl (by decide +kernel) (by rw [hR]; exact ⟨Nat.le_of_ble_eq_true rfl, Nat.le_of_ble_eq_true rfl⟩)) hK hP hN [0, 1] rfl 0 5 rfl rfl rfl rfl hl.1 rfl (Nat.le_of_ble_eq_true rfl) dXM_number_69 (by rw [hR]; exact ⟨Nat.le_of_ble_eq_true rfl, Nat.le_of_ble_eq_true rfl⟩) ?_
                    have f13 := f_XM_here_b mth mn k w1 mu md mo y0 (by first | assumption | omega) (by first | assumption | omega) (by first | assumption | omega)
                    have f14 := f_XM_here_v mth mn k w1 mu md mo y0 (by first | assumption | omega) (by first | assumption | omega) (by first | assumption | omega)
                    refine ji_iadd hx hb dXM_number_72 ?_
                    refine ji_bipush hx hb dXM_number_73 (by decide) ?_
                    refine ji_isub hx hb dXM_number_75 ?_
                    refine lv_istore_n (lv' := [(3, .int (jI (((10 * v) + (f_XM_here mth mn k w1 mu md mo y0)) - 48))), (4, .int (jI dg)), (0, .ref ma), (1, .int (jI z1)), (2, .int (jI z2))]) hx hb dXM_number_76 rfl hl (by decide) rfl (fun ls hl => ?_)
                    refine ji_iinc (k := 1) (lv' := [(4, .int (jI (dg + 1))), (3, .int (jI (((10 * v) + (f_XM_here mth mn k w1 mu md mo y0)) - 48))), (0, .ref ma), (1, .int (jI z1)), (2, .int (jI z2))]) hx hb dXM_number_77 hl rfl (by decide) rfl (fun ls hl => ?_)
                    refine lv_aload_n hx hb dXM_number_80 rfl (lv_at hl 2 rfl) ?_
                    refine lv_dup hx hb dXM_number_81 rfl ?_
                    refine va_get (D := (dC, dI)) (ci := 5) (v := .int (jI k)) (C := RXM) (T := TXM) (N := 19) hx hb hts (fun w h => jmem (inXM w h)) hown hK hP 0 rfl rfl 3 (by decide) (hts _ (jmem tw_631)) (fun _ h9 => h9) rfl dXM_number_82 ?_
                    refine ji_iconst hx hb dXM_number_85 ?_
                    refine ji_iadd hx hb dXM_number_86 ?_
                    refine va_put (D := (dC, dI)) (ci := 5) (v := .int (jI (k + 1))) (ty := (.int)) (C := RXM) (T := TXM) (N := 19) hx hb hts (fun w h => jmem (inXM w h)) tyXM tyXM_ok nXM hown hK hP hD hS 0 rfl rfl 3 (by decide) (hts _ (jmem tw_631)) (fun _ h9 => h9) rfl (by decide +kernel) rfl rfl (Nat.le_of_ble_eq_true rfl) dXM_number_87 (fun H locs hP hD hS => ?_)
                    have hP : va_P (dC, dI) vwCl [(ma, .inr (5, [.int (jI mth), .int (jI mn), .ref a0, .int (jI (k + 1)), .int (jI w1), .ref a1, .ref a2, .ref a3, .ref a4, .ref a5, .ref a6, .ref a7, .ref a8, .ref a9, .ref a10, .long (jL mu), .long (jL md), .int (jI mo), .ref a11])), (a0, .inl (cA, 400, .inl (jA y0)))] H := hP
                    have hD : va_D A [(ma, .inr (5, [.int (jI mth), .int (jI mn), .ref a0, .int (jI (k + 1)), .int (jI w1), .ref a1, .ref a2, .ref a3, .ref a4, .ref a5, .ref a6, .ref a7, .ref a8, .ref a9, .ref a10, .long (jL mu), .long (jL md), .int (jI mo), .ref a11])), (a0, .inl (cA, 400, .inl (jA y0)))] := hD
                    refine lv_goto (tgt := 34) hx hb dXM_number_90 (by decide) ?_
                    exact ih34 (((10 * v) + (f_XM_here mth mn k w1 mu md mo y0)) - 48) (dg + 1) (k + 1) (by omega) (Eq.trans (by rw [f_XM_numberP_L34_s]; rw [if_pos c38_, if_neg c45_, if_pos c52_, if_neg c57_, if_pos c61_]; try rfl) hF) (by first | assumption | omega) (by first | assumption | omega) (by first | assumption | omega) (by first | assumption | omega) _ _ hP hD hS ls (lv_sub hl [0, 1, 2, 3, 4] rfl)
      exact loop34 (Int.toNat (6 - 0) + 1) 0 0 mp1' (by omega) (Eq.trans (by rw [f_XM_numberP_J29_s]; try rfl) hF) (by first | assumption | omega) (by first | assumption | omega) (by first | assumption | omega) (by first | assumption | omega) _ _ hP hD hS ls (lv_sub hl [0, 1, 2, 3, 4] rfl)
    refine ji_if_ne (tgt := 29) hx hb dXM_number_18 (by decide) (by omega) (fun c18_ => ?_) (fun c18_ => ?_)
    · exact join29 mw (Eq.trans (by rw [f_XM_numberP_s]; rw [if_pos c4_]; rw [← hwb]; try dsimp only; rw [if_neg c18_]; try rfl) rfl) (by first | assumption | omega | exact jset_b (by assumption) (by omega)) (by first | assumption | omega | exact jset_b (by assumption) (by omega)) _ _ hP hD hS ls (lv_sub hl [0, 1, 2] rfl)
    · refine lv_aload_n hx hb dXM_number_21 rfl (lv_at hl 0 rfl) ?_
      refine lv_aload_n hx hb dXM_number_22 rfl (lv_at hl 0 rfl) ?_
      refine va_get (D := (dC, dI)) (ci := 5) (v := .int (jI mp1')) (C := RXM) (T := TXM) (N := 19) hx hb hts (fun w h => jmem (inXM w h)) hown hK hP 0 rfl rfl 3 (by decide) (hts _ (jmem tw_631)) (fun _ h9 => h9) rfl dXM_number_23 ?_
      refine jwVv (rest := []) (wr := [(a0, .inl (cA, 400, .inl (jA y0)))]) ⟨hx, hb, hml, hown, hts⟩ (c_XM_failP l dC dI cA cZ _ ma a0 a1 a2 a3 a4 a5 a6 a7 a8 a9 a10 a11 mth mn mp1' mw mu md mo mp1' (by first | assumption | omega) (by first | assumption | omega)) (cwV 1 hts (jG_V tw_734 tw_736 ts_22 tw_6 tw_737) rfl rfl rfl (by decide +kernel) (by rw [hR]; exact ⟨Nat.le_of_ble_eq_true rfl, Nat.le_of_ble_eq_true rfl⟩)) hK hP hD hS hA hN [0] [1] rfl rfl (by decide) (by decide) (by decide) 0 5 rfl rfl rfl rfl hl.1 rfl (Nat.le_of_ble_eq_true rfl) dXM_number_26 (by rw [hR]; exact ⟨Nat.le_of_ble_eq_true rfl, Nat.le_of_ble_eq_true rfl⟩) (fun u15 H locs hw hP hD hS => ?_)
      obtain ⟨hw, f16⟩ := hw
      subst hw
      have f16 : (0 ≤ mw ∧ (f_XM_failP mth mn mp1' mw mu md mo mp1') = mw) ∨ (mw < 0 ∧ (f_XM_failP mth mn mp1' mw mu md mo mp1') = mp1') := f16
      have hP : va_P (dC, dI) vwCl [(a0, .inl (cA, 400, .inl (jA y0))), (ma, .inr (5, [.int (jI mth), .int (jI mn), .ref a0, .int (jI mp1'), .int (jI (f_XM_failP mth mn mp1' mw mu md mo mp1')), .ref a1, .ref a2, .ref a3, .ref a4, .ref a5, .ref a6, .ref a7, .ref a8, .ref a9, .ref a10, .long (jL mu), .long (jL md), .int (jI mo), .ref a11]))] H := hP
      have hD : va_D A [(a0, .inl (cA, 400, .inl (jA y0))), (ma, .inr (5, [.int (jI mth), .int (jI mn), .ref a0, .int (jI mp1'), .int (jI (f_XM_failP mth mn mp1' mw mu md mo mp1')), .ref a1, .ref a2, .ref a3, .ref a4, .ref a5, .ref a6, .ref a7, .ref a8, .ref a9, .ref a10, .long (jL mu), .long (jL md), .int (jI mo), .ref a11]))] := hD
      exact join29 (f_XM_failP mth mn mp1' mw mu md mo mp1') (Eq.trans (by rw [f_XM_numberP_s]; rw [if_pos c4_]; rw [← hwb]; try dsimp only; rw [if_pos c18_]; try rfl) rfl) (by first | assumption | omega | exact jset_b (by assumption) (by omega)) (by first | assumption | omega | exact jset_b (by assumption) (by omega)) _ _ (hP.sub [1, 0] rfl) (hD.sub [1, 0] (by decide) rfl) hS ls (lv_sub hl [0, 1, 2] rfl)
  · refine lv_iload_n hx hb dXM_number_7 rfl (lv_at hl 1 rfl) ?_
    have hP9 := hP.sub (ws' := [(ma, .inr (5, [.int (jI mth), .int (jI mn), .ref a0, .int (jI mp), .int (jI mw), .ref a1, .ref a2, .ref a3, .ref a4, .ref a5, .ref a6, .ref a7, .ref a8, .ref a9, .ref a10, .long (jL mu), .long (jL md), .int (jI mo), .ref a11])), (a0, .inl (cA, 400, .inl (jA y0)))]) [0, 1] rfl
    have hD9 := hD.sub (ws' := [(ma, .inr (5, [.int (jI mth), .int (jI mn), .ref a0, .int (jI mp), .int (jI mw), .ref a1, .ref a2, .ref a3, .ref a4, .ref a5, .ref a6, .ref a7, .ref a8, .ref a9, .ref a10, .long (jL mu), .long (jL md), .int (jI mo), .ref a11])), (a0, .inl (cA, 400, .inl (jA y0)))]) [0, 1] (by decide) rfl
    subst hAe
    subst hQ
    exact W.iret (v := jI z1) hx hb hr (fun t ht hW => ⟨⟨_, (z1, mp, mw), rfl, ⟨rfl, Eq.trans (by rw [f_XM_numberP_s]; rw [if_neg (Int.not_lt.mpr c4_)]; try rfl) rfl, show z1 ≤ z1 ∧ z1 ≤ z2 from by first | assumption | omega | exact jset_b (by assumption) (by omega) | exact jset_l (by assumption) (by omega) | exact jset_l (fun _ _ => rfl) (by omega) | exact fun _ _ => rfl | exact l_trans (by assumption) (by assumption), show mp ≤ mp ∧ mp ≤ mn from by first | assumption | omega | exact jset_b (by assumption) (by omega) | exact jset_l (by assumption) (by omega) | exact jset_l (fun _ _ => rfl) (by omega) | exact fun _ _ => rfl | exact l_trans (by assumption) (by assumption), show -1 ≤ mw ∧ mw ≤ 400 ∧ mw ≤ mw from by first | assumption | omega | exact jset_b (by assumption) (by omega) | exact jset_l (by assumption) (by omega) | exact jset_l (fun _ _ => rfl) (by omega) | exact fun _ _ => rfl | exact l_trans (by assumption) (by assumption), show mw < 0 → mp < mp from by first | assumption | omega | exact jset_b (by assumption) (by omega) | exact jset_l (by assumption) (by omega) | exact jset_l (fun _ _ => rfl) (by omega) | exact fun _ _ => rfl | exact l_trans (by assumption) (by assumption)⟩, ⟨by rw [ht]; exact hP9, va_K.moved hW.alike hK, hD9⟩⟩, hS.F ht⟩) hS.2.2 dXM_number_8
noncomputable def g_XM_elementP (mth : Int) (mn : Int) (mp : Int) (mw : Int) (mu : Int) (md : Int) (mo : Int) (y0 : Int → Int) (z1 : Int) : Int × Int × Int :=
  if mw < 0 then
    match f_XM_seeP mth mn mp mw mu md mo y0 with
    | (r, mp1') =>
      if (f_XM_in r 65 72) = 0 then
        (-1, mp1', mw)
      else
        if ((jI ((jI z1 >>> (jI ((f_XM_here mth mn mp1' mw mu md mo y0) - 65) &&& 31)).toInt) &&& jI 1).toInt) = 1 then
          ((f_XM_here mth mn mp1' mw mu md mo y0) - 65, mp1' + 1, f_XM_failP mth mn mp1' mw mu md mo mp1')
        else
          ((f_XM_here mth mn mp1' mw mu md mo y0) - 65, mp1' + 1, mw)
  else
    (-1, mp, mw)
noncomputable def f_XM_elementP : Int → Int → Int → Int → Int → Int → Int → (Int → Int) → Int → Int × Int × Int := jopq g_XM_elementP
theorem f_XM_elementP_q : f_XM_elementP = g_XM_elementP := jopq_eq _
theorem f_XM_elementP_s (mth : Int) (mn : Int) (mp : Int) (mw : Int) (mu : Int) (md : Int) (mo : Int) (y0 : Int → Int) (z1 : Int) : f_XM_elementP mth mn mp mw mu md mo y0 z1 = (
    if mw < 0 then
      match f_XM_seeP mth mn mp mw mu md mo y0 with
      | (r, mp1') =>
        if (f_XM_in r 65 72) = 0 then
          (-1, mp1', mw)
        else
          if ((jI ((jI z1 >>> (jI ((f_XM_here mth mn mp1' mw mu md mo y0) - 65) &&& 31)).toInt) &&& jI 1).toInt) = 1 then
            ((f_XM_here mth mn mp1' mw mu md mo y0) - 65, mp1' + 1, f_XM_failP mth mn mp1' mw mu md mo mp1')
          else
            ((f_XM_here mth mn mp1' mw mu md mo y0) - 65, mp1' + 1, mw)
    else
      (-1, mp, mw)
  : Int × Int × Int) := by rw [f_XM_elementP_q]; rfl
set_option maxHeartbeats 4000000 in
set_option maxRecDepth 100000 in
theorem c_XM_elementP (l : Launch) (dC : Nat → ClassId) (dI : Nat → Nat → Nat) (cA cZ : ClassId) (sz : Nat) (ma : Nat) (a0 : Nat) (a1 : Nat) (a2 : Nat) (a3 : Nat) (a4 : Nat) (a5 : Nat) (a6 : Nat) (a7 : Nat) (a8 : Nat) (a9 : Nat) (a10 : Nat) (a11 : Nat) (mth : Int) (mn : Int) (mp : Int) (mw : Int) (mu : Int) (md : Int) (mo : Int) (y0 : Int → Int) (z1 : Int) (hy0 : ∀ i, 0 ≤ y0 i ∧ y0 i ≤ 255) (hmn : 0 ≤ mn ∧ mn ≤ 400) (hmp : 0 ≤ mp ∧ mp ≤ mn) (hmw : -1 ≤ mw ∧ mw ≤ 400) (hz1 : i32 z1) : Met l yXM_element (Cond.code yXM_element cXM_element 3 (some .int) :: TBL) ({ frames := 2, cells := 0, slots := 0, locals := 40 } : Room) (va_Pc [.ref ma, .int (jI z1)] (jBw (dC, dI) [(cA, .int), (cZ, .boolean)] [(ma, .inr (5, [.int (jI mth), .int (jI mn), .ref a0, .int (jI mp), .int (jI mw), .ref a1, .ref a2, .ref a3, .ref a4, .ref a5, .ref a6, .ref a7, .ref a8, .ref a9, .ref a10, .long (jL mu), .long (jL md), .int (jI mo), .ref a11])), (a0, .inl (cA, 400, .inl (jA y0)))] sz)) (va_Qi (fun (r : Int32) (u : Int × Int × Int) => r = jI u.1 ∧ u = f_XM_elementP mth mn mp mw mu md mo y0 z1 ∧ (-1 ≤ u.1 ∧ u.1 ≤ 7) ∧ (mp ≤ u.2.1 ∧ u.2.1 ≤ mn) ∧ (-1 ≤ u.2.2 ∧ u.2.2 ≤ 400 ∧ mw ≤ u.2.2) ∧ (0 ≤ u.1 → mp < u.2.1)) (fun u t => jE (dC, dI) [(cA, .int), (cZ, .boolean)] [(ma, .inr (5, [.int (jI mth), .int (jI mn), .ref a0, .int (jI mp), .int (jI mw), .ref a1, .ref a2, .ref a3, .ref a4, .ref a5, .ref a6, .ref a7, .ref a8, .ref a9, .ref a10, .long (jL mu), .long (jL md), .int (jI mo), .ref a11])), (a0, .inl (cA, 400, .inl (jA y0)))] sz [(ma, .inr (5, [.int (jI mth), .int (jI mn), .ref a0, .int (jI u.2.1), .int (jI u.2.2), .ref a1, .ref a2, .ref a3, .ref a4, .ref a5, .ref a6, .ref a7, .ref a8, .ref a9, .ref a10, .long (jL mu), .long (jL md), .int (jI mo), .ref a11])), (a0, .inl (cA, 400, .inl (jA y0)))] t) (va_A [(ma, .inr (5, [.int (jI mth), .int (jI mn), .ref a0, .int (jI mp), .int (jI mw), .ref a1, .ref a2, .ref a3, .ref a4, .ref a5, .ref a6, .ref a7, .ref a8, .ref a9, .ref a10, .long (jL mu), .long (jL md), .int (jI mo), .ref a11])), (a0, .inl (cA, 400, .inl (jA y0)))] sz)) 0 0 (va_A [(ma, .inr (5, [.int (jI mth), .int (jI mn), .ref a0, .int (jI mp), .int (jI mw), .ref a1, .ref a2, .ref a3, .ref a4, .ref a5, .ref a6, .ref a7, .ref a8, .ref a9, .ref a10, .long (jL mu), .long (jL md), .int (jI mo), .ref a11])), (a0, .inl (cA, 400, .inl (jA y0)))] sz) := by
  refine jMet (cc := cXM_element) (maxL := 3) (ret := some .int) (by decide) rfl ?_
  intro p e s m args below meth c s₁ R Q hR hQ B hml hv
  obtain ⟨rfl, hsz, hP, hK, hD0, hN⟩ := hv
  have hx := B.exec
  have hb := B.bytes
  have hr := B.returns
  have hts := atoms_spec (ws := Cond.code yXM_element cXM_element 3 (some .int) :: TBL) B.pre
  have hown : s.vm.findClass RXM = some m.cls := findClass_of_methodNamed B.named
  have hlocks := B.notSynchronized
  subst hsz
  obtain ⟨A, hAe⟩ : ∃ A, A = va_A [(ma, .inr (5, [.int (jI mth), .int (jI mn), .ref a0, .int (jI mp), .int (jI mw), .ref a1, .ref a2, .ref a3, .ref a4, .ref a5, .ref a6, .ref a7, .ref a8, .ref a9, .ref a10, .long (jL mu), .long (jL md), .int (jI mo), .ref a11])), (a0, .inl (cA, 400, .inl (jA y0)))] s.heap.size := ⟨_, rfl⟩
  have hD : va_D A [(ma, .inr (5, [.int (jI mth), .int (jI mn), .ref a0, .int (jI mp), .int (jI mw), .ref a1, .ref a2, .ref a3, .ref a4, .ref a5, .ref a6, .ref a7, .ref a8, .ref a9, .ref a10, .long (jL mu), .long (jL md), .int (jI mo), .ref a11])), (a0, .inl (cA, 400, .inl (jA y0)))] := by rw [hAe]; exact hD0.self
  have hA : ∀ q : Nat, s.heap.size ≤ q → A q := fun q h => by rw [hAe]; exact Or.inr h
  have hS : va_S A s.heap s.heap [] := va_S.rf
  have hP : va_P (dC, dI) vwCl [(ma, .inr (5, [.int (jI mth), .int (jI mn), .ref a0, .int (jI mp), .int (jI mw), .ref a1, .ref a2, .ref a3, .ref a4, .ref a5, .ref a6, .ref a7, .ref a8, .ref a9, .ref a10, .long (jL mu), .long (jL md), .int (jI mo), .ref a11])), (a0, .inl (cA, 400, .inl (jA y0)))] s.heap := hP
  have hl := lv_entry ([.ref ma, .int (jI z1)]) (n := 3) (Nat.le_of_ble_eq_true rfl)
  rw [lg_entry_eq]
  generalize (lg_sl ([.ref ma, .int (jI z1)]) ++ List.replicate (3 - (lg_sl ([.ref ma, .int (jI z1)])).length) Slot.unset).toArray = ls at hl ⊢
  have hl : lv_has ls 3 [(0, .ref ma), (1, .int (jI z1))] := hl
  refine lv_aload_n hx hb dXM_element_0 rfl (lv_at hl 0 rfl) ?_
  refine va_get (D := (dC, dI)) (ci := 5) (v := .int (jI mw)) (C := RXM) (T := TXM) (N := 19) hx hb hts (fun w h => jmem (inXM w h)) hown hK hP 0 rfl rfl 4 (by decide) (hts _ (jmem tw_632)) (fun _ h9 => h9) rfl dXM_element_1 ?_
  refine ji_if_ge (tgt := 21) hx hb dXM_element_4 (by decide) (by omega) (fun c4_ => ?_) (fun c4_ => ?_)
  · refine ji_iconst hx hb dXM_element_21 ?_
    have hP9 := hP.sub (ws' := [(ma, .inr (5, [.int (jI mth), .int (jI mn), .ref a0, .int (jI mp), .int (jI mw), .ref a1, .ref a2, .ref a3, .ref a4, .ref a5, .ref a6, .ref a7, .ref a8, .ref a9, .ref a10, .long (jL mu), .long (jL md), .int (jI mo), .ref a11])), (a0, .inl (cA, 400, .inl (jA y0)))]) [0, 1] rfl
    have hD9 := hD.sub (ws' := [(ma, .inr (5, [.int (jI mth), .int (jI mn), .ref a0, .int (jI mp), .int (jI mw), .ref a1, .ref a2, .ref a3, .ref a4, .ref a5, .ref a6, .ref a7, .ref a8, .ref a9, .ref a10, .long (jL mu), .long (jL md), .int (jI mo), .ref a11])), (a0, .inl (cA, 400, .inl (jA y0)))]) [0, 1] (by decide) rfl
    subst hAe
    subst hQ
    exact W.iret (v := jI (-1)) hx hb hr (fun t ht hW => ⟨⟨_, (-1, mp, mw), rfl, ⟨rfl, Eq.trans (by rw [f_XM_elementP_s]; rw [if_neg (Int.not_lt.mpr c4_)]; try rfl) rfl, show -1 ≤ (-1) ∧ (-1) ≤ 7 from by first | assumption | omega | exact jset_b (by assumption) (by omega) | exact jset_l (by assumption) (by omega) | exact jset_l (fun _ _ => rfl) (by omega) | exact fun _ _ => rfl | exact l_trans (by assumption) (by assumption), show mp ≤ mp ∧ mp ≤ mn from by first | assumption | omega | exact jset_b (by assumption) (by omega) | exact jset_l (by assumption) (by omega) | exact jset_l (fun _ _ => rfl) (by omega) | exact fun _ _ => rfl | exact l_trans (by assumption) (by assumption), show -1 ≤ mw ∧ mw ≤ 400 ∧ mw ≤ mw from by first | assumption | omega | exact jset_b (by assumption) (by omega) | exact jset_l (by assumption) (by omega) | exact jset_l (fun _ _ => rfl) (by omega) | exact fun _ _ => rfl | exact l_trans (by assumption) (by assumption), show 0 ≤ (-1) → mp < mp from by first | assumption | omega | exact jset_b (by assumption) (by omega) | exact jset_l (by assumption) (by omega) | exact jset_l (fun _ _ => rfl) (by omega) | exact fun _ _ => rfl | exact l_trans (by assumption) (by assumption)⟩, ⟨by rw [ht]; exact hP9, va_K.moved hW.alike hK, hD9⟩⟩, hS.F ht⟩) hS.2.2 dXM_element_22
  · refine lv_aload_n hx hb dXM_element_7 rfl (lv_at hl 0 rfl) ?_
    refine jwVi (rest := []) (wr := []) ⟨hx, hb, hml, hown, hts⟩ (c_XM_seeP l dC dI cA cZ _ ma a0 a1 a2 a3 a4 a5 a6 a7 a8 a9 a10 a11 mth mn mp mw mu md mo y0 (by first | assumption | omega) (by first | assumption | omega) (by first | assumption | omega)) (cwV 0 hts (jG_V tw_710 tw_712 ts_16 tw_6 tw_713) rfl rfl rfl (by decide +kernel) (by rw [hR]; exact ⟨Nat.le_of_ble_eq_true rfl, Nat.le_of_ble_eq_true rfl⟩)) hK hP hD hS hA hN [0, 1] [] rfl rfl (by decide) (by decide) (by decide) 0 5 rfl rfl rfl rfl hl.1 rfl (Nat.le_of_ble_eq_true rfl) dXM_element_8 (by rw [hR]; exact ⟨Nat.le_of_ble_eq_true rfl, Nat.le_of_ble_eq_true rfl⟩) (fun v u H locs hwb hP hD hS => ?_)
    obtain ⟨r, mp1'⟩ := u
    try dsimp only at hwb
    obtain ⟨er, hwb, f, f1, f2⟩ := hwb
    subst er
    have f : -1 ≤ r ∧ r ≤ 255 ∧ (0 ≤ r → mp1' < mn) := f
    have f1 : mp ≤ mp1' ∧ mp1' ≤ mn := f1
    have f2 : (mp1' < mn ∧ r = y0 mp1') ∨ (mp1' = mn ∧ r = -1) := f2
    have hP : va_P (dC, dI) vwCl [(ma, .inr (5, [.int (jI mth), .int (jI mn), .ref a0, .int (jI mp1'), .int (jI mw), .ref a1, .ref a2, .ref a3, .ref a4, .ref a5, .ref a6, .ref a7, .ref a8, .ref a9, .ref a10, .long (jL mu), .long (jL md), .int (jI mo), .ref a11])), (a0, .inl (cA, 400, .inl (jA y0)))] H := hP
    have hD : va_D A [(ma, .inr (5, [.int (jI mth), .int (jI mn), .ref a0, .int (jI mp1'), .int (jI mw), .ref a1, .ref a2, .ref a3, .ref a4, .ref a5, .ref a6, .ref a7, .ref a8, .ref a9, .ref a10, .long (jL mu), .long (jL md), .int (jI mo), .ref a11])), (a0, .inl (cA, 400, .inl (jA y0)))] := hD
    refine ji_bipush hx hb dXM_element_11 (by decide) ?_
    refine ji_bipush hx hb dXM_element_13 (by decide) ?_
    refine jrSi (rest := []) ⟨hx, hb, hml, hown, hts⟩ (c_XM_in l dC dI cA cZ r 65 72 (by first | assumption | omega) (by first | assumption | omega) (by first | assumption | omega)) (cwS 3 hts (jG_S tw_695 tw_696 tw_6 tw_697) rfl rfl rfl (by decide +kernel) (by rw [hR]; exact ⟨Nat.le_of_ble_eq_true rfl, Nat.le_of_ble_eq_true rfl⟩)) hK hP hN [] rfl rfl hl.1 rfl (Nat.le_of_ble_eq_true rfl) dXM_element_15 (by rw [hR]; exact ⟨Nat.le_of_ble_eq_true rfl, Nat.le_of_ble_eq_true rfl⟩) ?_
    have f3 := f_XM_in_b r 65 72 (by first | assumption | omega) (by first | assumption | omega) (by first | assumption | omega)
    refine ji_if_ne (tgt := 23) hx hb dXM_element_18 (by decide) (by omega) (fun c18_ => ?_) (fun c18_ => ?_)
    · refine lv_aload_n hx hb dXM_element_23 rfl (lv_at hl 0 rfl) ?_
      refine jrVi (rest := []) ⟨hx, hb, hml, hown, hts⟩ (c_XM_here l dC dI cA cZ ma a0 a1 a2 a3 a4 a5 a6 a7 a8 a9 a10 a11 mth mn mp1' mw mu md mo y0 (by first | assumption | omega) (by first | assumption | omega) (by first | assumption | omega)) (cwV 0 hts (jG_V tw_714 tw_716 ts_17 tw_6 tw_717) rfl rfl rfl (by decide +kernel) (by rw [hR]; exact ⟨Nat.le_of_ble_eq_true rfl, Nat.le_of_ble_eq_true rfl⟩)) hK hP hN [0, 1] rfl 0 5 rfl rfl rfl rfl hl.1 rfl (Nat.le_of_ble_eq_true rfl) dXM_element_24 (by rw [hR]; exact ⟨Nat.le_of_ble_eq_true rfl, Nat.le_of_ble_eq_true rfl⟩) ?_
      have f4 := f_XM_here_b mth mn mp1' mw mu md mo y0 (by first | assumption | omega) (by first | assumption | omega) (by first | assumption | omega)
      have f5 := f_XM_here_v mth mn mp1' mw mu md mo y0 (by first | assumption | omega) (by first | assumption | omega) (by first | assumption | omega)
      refine ji_bipush hx hb dXM_element_27 (by decide) ?_
      refine ji_isub hx hb dXM_element_29 ?_
      refine lv_istore_n (lv' := [(2, .int (jI ((f_XM_here mth mn mp1' mw mu md mo y0) - 65))), (0, .ref ma), (1, .int (jI z1))]) hx hb dXM_element_30 rfl hl (by decide) rfl (fun ls hl => ?_)
      refine lv_iload_n hx hb dXM_element_31 rfl (lv_at hl 2 rfl) ?_
      refine lv_iload_n hx hb dXM_element_32 rfl (lv_at hl 0 rfl) ?_
      refine lv_ishr hx hb dXM_element_33 ?_
      refine ji_rev ?_
      have rb := jti32 (jI z1 >>> (jI ((f_XM_here mth mn mp1' mw mu md mo y0) - 65) &&& 31))
      refine ji_iconst hx hb dXM_element_34 ?_
      refine lv_iand hx hb dXM_element_35 ?_
      refine ji_rev ?_
      have rb6 := jti32 (jI ((jI z1 >>> (jI ((f_XM_here mth mn mp1' mw mu md mo y0) - 65) &&& 31)).toInt) &&& jI 1)
      refine ji_iconst hx hb dXM_element_36 ?_
      refine ji_icmp_ne (tgt := 48) hx hb dXM_element_37 (by decide) (by omega) (by omega) (fun c37_ => ?_) (fun c37_ => ?_)
      · refine lv_aload_n hx hb dXM_element_48 rfl (lv_at hl 1 rfl) ?_
        refine lv_dup hx hb dXM_element_49 rfl ?_
        refine va_get (D := (dC, dI)) (ci := 5) (v := .int (jI mp1')) (C := RXM) (T := TXM) (N := 19) hx hb hts (fun w h => jmem (inXM w h)) hown hK hP 0 rfl rfl 3 (by decide) (hts _ (jmem tw_631)) (fun _ h9 => h9) rfl dXM_element_50 ?_
        refine ji_iconst hx hb dXM_element_53 ?_
        refine ji_iadd hx hb dXM_element_54 ?_
        refine va_put (D := (dC, dI)) (ci := 5) (v := .int (jI (mp1' + 1))) (ty := (.int)) (C := RXM) (T := TXM) (N := 19) hx hb hts (fun w h => jmem (inXM w h)) tyXM tyXM_ok nXM hown hK hP hD hS 0 rfl rfl 3 (by decide) (hts _ (jmem tw_631)) (fun _ h9 => h9) rfl (by decide +kernel) rfl rfl (Nat.le_of_ble_eq_true rfl) dXM_element_55 (fun H locs hP hD hS => ?_)
        have hP : va_P (dC, dI) vwCl [(ma, .inr (5, [.int (jI mth), .int (jI mn), .ref a0, .int (jI (mp1' + 1)), .int (jI mw), .ref a1, .ref a2, .ref a3, .ref a4, .ref a5, .ref a6, .ref a7, .ref a8, .ref a9, .ref a10, .long (jL mu), .long (jL md), .int (jI mo), .ref a11])), (a0, .inl (cA, 400, .inl (jA y0)))] H := hP
        have hD : va_D A [(ma, .inr (5, [.int (jI mth), .int (jI mn), .ref a0, .int (jI (mp1' + 1)), .int (jI mw), .ref a1, .ref a2, .ref a3, .ref a4, .ref a5, .ref a6, .ref a7, .ref a8, .ref a9, .ref a10, .long (jL mu), .long (jL md), .int (jI mo), .ref a11])), (a0, .inl (cA, 400, .inl (jA y0)))] := hD
        refine lv_iload_n hx hb dXM_element_58 rfl (lv_at hl 0 rfl) ?_
        have hP9 := hP.sub (ws' := [(ma, .inr (5, [.int (jI mth), .int (jI mn), .ref a0, .int (jI (mp1' + 1)), .int (jI mw), .ref a1, .ref a2, .ref a3, .ref a4, .ref a5, .ref a6, .ref a7, .ref a8, .ref a9, .ref a10, .long (jL mu), .long (jL md), .int (jI mo), .ref a11])), (a0, .inl (cA, 400, .inl (jA y0)))]) [0, 1] rfl
        have hD9 := hD.sub (ws' := [(ma, .inr (5, [.int (jI mth), .int (jI mn), .ref a0, .int (jI (mp1' + 1)), .int (jI mw), .ref a1, .ref a2, .ref a3, .ref a4, .ref a5, .ref a6, .ref a7, .ref a8, .ref a9, .ref a10, .long (jL mu), .long (jL md), .int (jI mo), .ref a11])), (a0, .inl (cA, 400, .inl (jA y0)))]) [0, 1] (by decide) rfl
        subst hAe
        subst hQ
        exact W.iret (v := jI ((f_XM_here mth mn mp1' mw mu md mo y0) - 65)) hx hb hr (fun t ht hW => ⟨⟨_, ((f_XM_here mth mn mp1' mw mu md mo y0) - 65, mp1' + 1, mw), rfl, ⟨rfl, Eq.trans (by rw [f_XM_elementP_s]; rw [if_pos c4_]; rw [← hwb]; try dsimp only; rw [if_neg c18_, if_neg c37_]; try rfl) rfl, show -1 ≤ ((f_XM_here mth mn mp1' mw mu md mo y0) - 65) ∧ ((f_XM_here mth mn mp1' mw mu md mo y0) - 65) ≤ 7 from by first | assumption | omega | exact jset_b (by assumption) (by omega) | exact jset_l (by assumption) (by omega) | exact jset_l (fun _ _ => rfl) (by omega) | exact fun _ _ => rfl | exact l_trans (by assumption) (by assumption), show mp ≤ (mp1' + 1) ∧ (mp1' + 1) ≤ mn from by first | assumption | omega | exact jset_b (by assumption) (by omega) | exact jset_l (by assumption) (by omega) | exact jset_l (fun _ _ => rfl) (by omega) | exact fun _ _ => rfl | exact l_trans (by assumption) (by assumption), show -1 ≤ mw ∧ mw ≤ 400 ∧ mw ≤ mw from by first | assumption | omega | exact jset_b (by assumption) (by omega) | exact jset_l (by assumption) (by omega) | exact jset_l (fun _ _ => rfl) (by omega) | exact fun _ _ => rfl | exact l_trans (by assumption) (by assumption), show 0 ≤ ((f_XM_here mth mn mp1' mw mu md mo y0) - 65) → mp < (mp1' + 1) from by first | assumption | omega | exact jset_b (by assumption) (by omega) | exact jset_l (by assumption) (by omega) | exact jset_l (fun _ _ => rfl) (by omega) | exact fun _ _ => rfl | exact l_trans (by assumption) (by assumption)⟩, ⟨by rw [ht]; exact hP9, va_K.moved hW.alike hK, hD9⟩⟩, hS.F ht⟩) hS.2.2 dXM_element_59
      · refine lv_aload_n hx hb dXM_element_40 rfl (lv_at hl 1 rfl) ?_
        refine lv_aload_n hx hb dXM_element_41 rfl (lv_at hl 1 rfl) ?_
        refine va_get (D := (dC, dI)) (ci := 5) (v := .int (jI mp1')) (C := RXM) (T := TXM) (N := 19) hx hb hts (fun w h => jmem (inXM w h)) hown hK hP 0 rfl rfl 3 (by decide) (hts _ (jmem tw_631)) (fun _ h9 => h9) rfl dXM_element_42 ?_
        refine jwVv (rest := []) (wr := [(a0, .inl (cA, 400, .inl (jA y0)))]) ⟨hx, hb, hml, hown, hts⟩ (c_XM_failP l dC dI cA cZ _ ma a0 a1 a2 a3 a4 a5 a6 a7 a8 a9 a10 a11 mth mn mp1' mw mu md mo mp1' (by first | assumption | omega) (by first | assumption | omega)) (cwV 1 hts (jG_V tw_734 tw_736 ts_22 tw_6 tw_737) rfl rfl rfl (by decide +kernel) (by rw [hR]; exact ⟨Nat.le_of_ble_eq_true rfl, Nat.le_of_ble_eq_true rfl⟩)) hK hP hD hS hA hN [0] [1] rfl rfl (by decide) (by decide) (by decide) 0 5 rfl rfl rfl rfl hl.1 rfl (Nat.le_of_ble_eq_true rfl) dXM_element_45 (by rw [hR]; exact ⟨Nat.le_of_ble_eq_true rfl, Nat.le_of_ble_eq_true rfl⟩) (fun u7 H locs hw hP hD hS => ?_)
        obtain ⟨hw, f8⟩ := hw
        subst hw
        have f8 : (0 ≤ mw ∧ (f_XM_failP mth mn mp1' mw mu md mo mp1') = mw) ∨ (mw < 0 ∧ (f_XM_failP mth mn mp1' mw mu md mo mp1') = mp1') := f8
        have hP : va_P (dC, dI) vwCl [(a0, .inl (cA, 400, .inl (jA y0))), (ma, .inr (5, [.int (jI mth), .int (jI mn), .ref a0, .int (jI mp1'), .int (jI (f_XM_failP mth mn mp1' mw mu md mo mp1')), .ref a1, .ref a2, .ref a3, .ref a4, .ref a5, .ref a6, .ref a7, .ref a8, .ref a9, .ref a10, .long (jL mu), .long (jL md), .int (jI mo), .ref a11]))] H := hP
        have hD : va_D A [(a0, .inl (cA, 400, .inl (jA y0))), (ma, .inr (5, [.int (jI mth), .int (jI mn), .ref a0, .int (jI mp1'), .int (jI (f_XM_failP mth mn mp1' mw mu md mo mp1')), .ref a1, .ref a2, .ref a3, .ref a4, .ref a5, .ref a6, .ref a7, .ref a8, .ref a9, .ref a10, .long (jL mu), .long (jL md), .int (jI mo), .ref a11]))] := hD
        refine lv_aload_n hx hb dXM_element_48 rfl (lv_at hl 1 rfl) ?_
        refine lv_dup hx hb dXM_element_49 rfl ?_
        refine va_get (D := (dC, dI)) (ci := 5) (v := .int (jI mp1')) (C := RXM) (T := TXM) (N := 19) hx hb hts (fun w h => jmem (inXM w h)) hown hK hP 1 rfl rfl 3 (by decide) (hts _ (jmem tw_631)) (fun _ h9 => h9) rfl dXM_element_50 ?_
        refine ji_iconst hx hb dXM_element_53 ?_
        refine ji_iadd hx hb dXM_element_54 ?_
        refine va_put (D := (dC, dI)) (ci := 5) (v := .int (jI (mp1' + 1))) (ty := (.int)) (C := RXM) (T := TXM) (N := 19) hx hb hts (fun w h => jmem (inXM w h)) tyXM tyXM_ok nXM hown hK hP hD hS 1 rfl rfl 3 (by decide) (hts _ (jmem tw_631)) (fun _ h9 => h9) rfl (by decide +kernel) rfl rfl (Nat.le_of_ble_eq_true rfl) dXM_element_55 (fun H locs hP hD hS => ?_)
        have hP : va_P (dC, dI) vwCl [(a0, .inl (cA, 400, .inl (jA y0))), (ma, .inr (5, [.int (jI mth), .int (jI mn), .ref a0, .int (jI (mp1' + 1)), .int (jI (f_XM_failP mth mn mp1' mw mu md mo mp1')), .ref a1, .ref a2, .ref a3, .ref a4, .ref a5, .ref a6, .ref a7, .ref a8, .ref a9, .ref a10, .long (jL mu), .long (jL md), .int (jI mo), .ref a11]))] H := hP
        have hD : va_D A [(a0, .inl (cA, 400, .inl (jA y0))), (ma, .inr (5, [.int (jI mth), .int (jI mn), .ref a0, .int (jI (mp1' + 1)), .int (jI (f_XM_failP mth mn mp1' mw mu md mo mp1')), .ref a1, .ref a2, .ref a3, .ref a4, .ref a5, .ref a6, .ref a7, .ref a8, .ref a9, .ref a10, .long (jL mu), .long (jL md), .int (jI mo), .ref a11]))] := hD
        refine lv_iload_n hx hb dXM_element_58 rfl (lv_at hl 0 rfl) ?_
        have hP9 := hP.sub (ws' := [(ma, .inr (5, [.int (jI mth), .int (jI mn), .ref a0, .int (jI (mp1' + 1)), .int (jI (f_XM_failP mth mn mp1' mw mu md mo mp1')), .ref a1, .ref a2, .ref a3, .ref a4, .ref a5, .ref a6, .ref a7, .ref a8, .ref a9, .ref a10, .long (jL mu), .long (jL md), .int (jI mo), .ref a11])), (a0, .inl (cA, 400, .inl (jA y0)))]) [1, 0] rfl
        have hD9 := hD.sub (ws' := [(ma, .inr (5, [.int (jI mth), .int (jI mn), .ref a0, .int (jI (mp1' + 1)), .int (jI (f_XM_failP mth mn mp1' mw mu md mo mp1')), .ref a1, .ref a2, .ref a3, .ref a4, .ref a5, .ref a6, .ref a7, .ref a8, .ref a9, .ref a10, .long (jL mu), .long (jL md), .int (jI mo), .ref a11])), (a0, .inl (cA, 400, .inl (jA y0)))]) [1, 0] (by decide) rfl
        subst hAe
        subst hQ
        exact W.iret (v := jI ((f_XM_here mth mn mp1' mw mu md mo y0) - 65)) hx hb hr (fun t ht hW => ⟨⟨_, ((f_XM_here mth mn mp1' mw mu md mo y0) - 65, mp1' + 1, f_XM_failP mth mn mp1' mw mu md mo mp1'), rfl, ⟨rfl, Eq.trans (by rw [f_XM_elementP_s]; rw [if_pos c4_]; rw [← hwb]; try dsimp only; rw [if_neg c18_, if_pos c37_]; try rfl) rfl, show -1 ≤ ((f_XM_here mth mn mp1' mw mu md mo y0) - 65) ∧ ((f_XM_here mth mn mp1' mw mu md mo y0) - 65) ≤ 7 from by first | assumption | omega | exact jset_b (by assumption) (by omega) | exact jset_l (by assumption) (by omega) | exact jset_l (fun _ _ => rfl) (by omega) | exact fun _ _ => rfl | exact l_trans (by assumption) (by assumption), show mp ≤ (mp1' + 1) ∧ (mp1' + 1) ≤ mn from by first | assumption | omega | exact jset_b (by assumption) (by omega) | exact jset_l (by assumption) (by omega) | exact jset_l (fun _ _ => rfl) (by omega) | exact fun _ _ => rfl | exact l_trans (by assumption) (by assumption), show -1 ≤ (f_XM_failP mth mn mp1' mw mu md mo mp1') ∧ (f_XM_failP mth mn mp1' mw mu md mo mp1') ≤ 400 ∧ mw ≤ (f_XM_failP mth mn mp1' mw mu md mo mp1') from by first | assumption | omega | exact jset_b (by assumption) (by omega) | exact jset_l (by assumption) (by omega) | exact jset_l (fun _ _ => rfl) (by omega) | exact fun _ _ => rfl | exact l_trans (by assumption) (by assumption), show 0 ≤ ((f_XM_here mth mn mp1' mw mu md mo y0) - 65) → mp < (mp1' + 1) from by first | assumption | omega | exact jset_b (by assumption) (by omega) | exact jset_l (by assumption) (by omega) | exact jset_l (fun _ _ => rfl) (by omega) | exact fun _ _ => rfl | exact l_trans (by assumption) (by assumption)⟩, ⟨by rw [ht]; exact hP9, va_K.moved hW.alike hK, hD9⟩⟩, hS.F ht⟩) hS.2.2 dXM_element_59
    · refine ji_iconst hx hb dXM_element_21 ?_
      have hP9 := hP.sub (ws' := [(ma, .inr (5, [.int (jI mth), .int (jI mn), .ref a0, .int (jI mp1'), .int (jI mw), .ref a1, .ref a2, .ref a3, .ref a4, .ref a5, .ref a6, .ref a7, .ref a8, .ref a9, .ref a10, .long (jL mu), .long (jL md), .int (jI mo), .ref a11])), (a0, .inl (cA, 400, .inl (jA y0)))]) [0, 1] rfl
      have hD9 := hD.sub (ws' := [(ma, .inr (5, [.int (jI mth), .int (jI mn), .ref a0, .int (jI mp1'), .int (jI mw), .ref a1, .ref a2, .ref a3, .ref a4, .ref a5, .ref a6, .ref a7, .ref a8, .ref a9, .ref a10, .long (jL mu), .long (jL md), .int (jI mo), .ref a11])), (a0, .inl (cA, 400, .inl (jA y0)))]) [0, 1] (by decide) rfl
      subst hAe
      subst hQ
      exact W.iret (v := jI (-1)) hx hb hr (fun t ht hW => ⟨⟨_, (-1, mp1', mw), rfl, ⟨rfl, Eq.trans (by rw [f_XM_elementP_s]; rw [if_pos c4_]; rw [← hwb]; try dsimp only; rw [if_pos c18_]; try rfl) rfl, show -1 ≤ (-1) ∧ (-1) ≤ 7 from by first | assumption | omega | exact jset_b (by assumption) (by omega) | exact jset_l (by assumption) (by omega) | exact jset_l (fun _ _ => rfl) (by omega) | exact fun _ _ => rfl | exact l_trans (by assumption) (by assumption), show mp ≤ mp1' ∧ mp1' ≤ mn from by first | assumption | omega | exact jset_b (by assumption) (by omega) | exact jset_l (by assumption) (by omega) | exact jset_l (fun _ _ => rfl) (by omega) | exact fun _ _ => rfl | exact l_trans (by assumption) (by assumption), show -1 ≤ mw ∧ mw ≤ 400 ∧ mw ≤ mw from by first | assumption | omega | exact jset_b (by assumption) (by omega) | exact jset_l (by assumption) (by omega) | exact jset_l (fun _ _ => rfl) (by omega) | exact fun _ _ => rfl | exact l_trans (by assumption) (by assumption), show 0 ≤ (-1) → mp < mp1' from by first | assumption | omega | exact jset_b (by assumption) (by omega) | exact jset_l (by assumption) (by omega) | exact jset_l (fun _ _ => rfl) (by omega) | exact fun _ _ => rfl | exact l_trans (by assumption) (by assumption)⟩, ⟨by rw [ht]; exact hP9, va_K.moved hW.alike hK, hD9⟩⟩, hS.F ht⟩) hS.2.2 dXM_element_22

end
section
noncomputable def g_XM_formulaP_L56 (mth : Int) (mn : Int) (mp : Int) (mw : Int) (mu : Int) (md : Int) (mo : Int) (y0 : Int → Int) (y8 : Int → Int) (y9 : Int → Int) (r : Int) : Nat → Int → Int → Int → Int → (Int → Int) → Int × Int × (Int → Int) × (Int → Int)
  | 0, _, _, _, _, _ => (0, 0, fun _ => 0, fun _ => 0)
  | n9 + 1, mks, jm2, k, w, w9 =>
    if jm2 = 0 then
      match f_XM_takeP mth mn k w mu md mo y0 59 with
      | (mp1'11, mw1'12) =>
        if mw1'12 < 0 then
          (mp1'11, mw1'12, jset y8 (4 + r) 1, w9)
        else
          (mp1'11, mw1'12, y8, w9)
    else
      match f_XM_elementP mth mn k w mu md mo y0 mks with
      | (r18, mp1'19, mw1'20) =>
        if r18 < 0 then
          if (f_XM_failP mth mn mp1'19 mw1'20 mu md mo mp1'19) < 0 then
            match f_XM_takesP mth mn mp1'19 (f_XM_failP mth mn mp1'19 mw1'20 mu md mo mp1'19) mu md mo y0 47 with
            | (r62, mp1'63) =>
              if r62 = 0 then
                match f_XM_takesP mth mn mp1'63 (f_XM_failP mth mn mp1'19 mw1'20 mu md mo mp1'19) mu md mo y0 43 with
                | (r69, mp1'70) =>
                  g_XM_formulaP_L56 mth mn mp mw mu md mo y0 y8 y9 r n9 ((jI mks ||| jI ((jI 1 <<< (jI r18 &&& 31)).toInt)).toInt) r69 mp1'70 (f_XM_failP mth mn mp1'19 mw1'20 mu md mo mp1'19) (jset w9 ((8 * (4 + r)) + r18) 1)
              else
                match f_XM_numberP mth mn mp1'63 (f_XM_failP mth mn mp1'19 mw1'20 mu md mo mp1'19) mu md mo y0 1 20 with
                | (r75, mp1'76, mw1'77) =>
                  match f_XM_takesP mth mn mp1'76 mw1'77 mu md mo y0 43 with
                  | (r85, mp1'86) =>
                    g_XM_formulaP_L56 mth mn mp mw mu md mo y0 y8 y9 r n9 ((jI mks ||| jI ((jI 1 <<< (jI r18 &&& 31)).toInt)).toInt) r85 mp1'86 mw1'77 (jset w9 ((8 * (4 + r)) + r18) r75)
          else
            (mp1'19, f_XM_failP mth mn mp1'19 mw1'20 mu md mo mp1'19, y8, w9)
        else
          if mw1'20 < 0 then
            match f_XM_takesP mth mn mp1'19 mw1'20 mu md mo y0 47 with
            | (r29, mp1'30) =>
              if r29 = 0 then
                match f_XM_takesP mth mn mp1'30 mw1'20 mu md mo y0 43 with
                | (r35, mp1'36) =>
                  g_XM_formulaP_L56 mth mn mp mw mu md mo y0 y8 y9 r n9 ((jI mks ||| jI ((jI 1 <<< (jI r18 &&& 31)).toInt)).toInt) r35 mp1'36 mw1'20 (jset w9 ((8 * (4 + r)) + r18) 1)
              else
                match f_XM_numberP mth mn mp1'30 mw1'20 mu md mo y0 1 20 with
                | (r41, mp1'42, mw1'43) =>
                  match f_XM_takesP mth mn mp1'42 mw1'43 mu md mo y0 43 with
                  | (r51, mp1'52) =>
                    g_XM_formulaP_L56 mth mn mp mw mu md mo y0 y8 y9 r n9 ((jI mks ||| jI ((jI 1 <<< (jI r18 &&& 31)).toInt)).toInt) r51 mp1'52 mw1'43 (jset w9 ((8 * (4 + r)) + r18) r41)
          else
            (mp1'19, mw1'20, y8, w9)
noncomputable def f_XM_formulaP_L56 : Int → Int → Int → Int → Int → Int → Int → (Int → Int) → (Int → Int) → (Int → Int) → Int → Nat → Int → Int → Int → Int → (Int → Int) → Int × Int × (Int → Int) × (Int → Int) := jopq g_XM_formulaP_L56
theorem f_XM_formulaP_L56_q : f_XM_formulaP_L56 = g_XM_formulaP_L56 := jopq_eq _
theorem f_XM_formulaP_L56_s (mth : Int) (mn : Int) (mp : Int) (mw : Int) (mu : Int) (md : Int) (mo : Int) (y0 : Int → Int) (y8 : Int → Int) (y9 : Int → Int) (r : Int) (n9 : Nat) (mks : Int) (jm2 : Int) (k : Int) (w : Int) (w9 : Int → Int) : f_XM_formulaP_L56 mth mn mp mw mu md mo y0 y8 y9 r (n9 + 1) mks jm2 k w w9 = (
    if jm2 = 0 then
      match f_XM_takeP mth mn k w mu md mo y0 59 with
      | (mp1'11, mw1'12) =>
        if mw1'12 < 0 then
          (mp1'11, mw1'12, jset y8 (4 + r) 1, w9)
        else
          (mp1'11, mw1'12, y8, w9)
    else
      match f_XM_elementP mth mn k w mu md mo y0 mks with
      | (r18, mp1'19, mw1'20) =>
        if r18 < 0 then
          if (f_XM_failP mth mn mp1'19 mw1'20 mu md mo mp1'19) < 0 then
            match f_XM_takesP mth mn mp1'19 (f_XM_failP mth mn mp1'19 mw1'20 mu md mo mp1'19) mu md mo y0 47 with
            | (r62, mp1'63) =>
              if r62 = 0 then
                match f_XM_takesP mth mn mp1'63 (f_XM_failP mth mn mp1'19 mw1'20 mu md mo mp1'19) mu md mo y0 43 with
                | (r69, mp1'70) =>
                  f_XM_formulaP_L56 mth mn mp mw mu md mo y0 y8 y9 r n9 ((jI mks ||| jI ((jI 1 <<< (jI r18 &&& 31)).toInt)).toInt) r69 mp1'70 (f_XM_failP mth mn mp1'19 mw1'20 mu md mo mp1'19) (jset w9 ((8 * (4 + r)) + r18) 1)
              else
                match f_XM_numberP mth mn mp1'63 (f_XM_failP mth mn mp1'19 mw1'20 mu md mo mp1'19) mu md mo y0 1 20 with
                | (r75, mp1'76, mw1'77) =>
                  match f_XM_takesP mth mn mp1'76 mw1'77 mu md mo y0 43 with
                  | (r85, mp1'86) =>
                    f_XM_formulaP_L56 mth mn mp mw mu md mo y0 y8 y9 r n9 ((jI mks ||| jI ((jI 1 <<< (jI r18 &&& 31)).toInt)).toInt) r85 mp1'86 mw1'77 (jset w9 ((8 * (4 + r)) + r18) r75)
          else
            (mp1'19, f_XM_failP mth mn mp1'19 mw1'20 mu md mo mp1'19, y8, w9)
        else
          if mw1'20 < 0 then
            match f_XM_takesP mth mn mp1'19 mw1'20 mu md mo y0 47 with
            | (r29, mp1'30) =>
              if r29 = 0 then
                match f_XM_takesP mth mn mp1'30 mw1'20 mu md mo y0 43 with
                | (r35, mp1'36) =>
                  f_XM_formulaP_L56 mth mn mp mw mu md mo y0 y8 y9 r n9 ((jI mks ||| jI ((jI 1 <<< (jI r18 &&& 31)).toInt)).toInt) r35 mp1'36 mw1'20 (jset w9 ((8 * (4 + r)) + r18) 1)
              else
                match f_XM_numberP mth mn mp1'30 mw1'20 mu md mo y0 1 20 with
                | (r41, mp1'42, mw1'43) =>
                  match f_XM_takesP mth mn mp1'42 mw1'43 mu md mo y0 43 with
                  | (r51, mp1'52) =>
                    f_XM_formulaP_L56 mth mn mp mw mu md mo y0 y8 y9 r n9 ((jI mks ||| jI ((jI 1 <<< (jI r18 &&& 31)).toInt)).toInt) r51 mp1'52 mw1'43 (jset w9 ((8 * (4 + r)) + r18) r41)
          else
            (mp1'19, mw1'20, y8, w9)
  : Int × Int × (Int → Int) × (Int → Int)) := by rw [f_XM_formulaP_L56_q]; rfl
noncomputable def g_XM_formulaP_J55 (mth : Int) (mn : Int) (mp : Int) (mw : Int) (mu : Int) (md : Int) (mo : Int) (y0 : Int → Int) (y8 : Int → Int) (y9 : Int → Int) (r : Int) (mp1'4 : Int) (mw1'5 : Int) (mk0 : Int) (jm : Int) : Int × Int × (Int → Int) × (Int → Int) :=
  f_XM_formulaP_L56 mth mn mp mw mu md mo y0 y8 y9 r (Int.toNat (mn - mp1'4) + 1) mk0 jm mp1'4 mw1'5 y9
noncomputable def f_XM_formulaP_J55 : Int → Int → Int → Int → Int → Int → Int → (Int → Int) → (Int → Int) → (Int → Int) → Int → Int → Int → Int → Int → Int × Int × (Int → Int) × (Int → Int) := jopq g_XM_formulaP_J55
theorem f_XM_formulaP_J55_q : f_XM_formulaP_J55 = g_XM_formulaP_J55 := jopq_eq _
theorem f_XM_formulaP_J55_s (mth : Int) (mn : Int) (mp : Int) (mw : Int) (mu : Int) (md : Int) (mo : Int) (y0 : Int → Int) (y8 : Int → Int) (y9 : Int → Int) (r : Int) (mp1'4 : Int) (mw1'5 : Int) (mk0 : Int) (jm : Int) : f_XM_formulaP_J55 mth mn mp mw mu md mo y0 y8 y9 r mp1'4 mw1'5 mk0 jm = (
    f_XM_formulaP_L56 mth mn mp mw mu md mo y0 y8 y9 r (Int.toNat (mn - mp1'4) + 1) mk0 jm mp1'4 mw1'5 y9
  : Int × Int × (Int → Int) × (Int → Int)) := by rw [f_XM_formulaP_J55_q]; rfl
noncomputable def g_XM_formulaP_J35 (mth : Int) (mn : Int) (mp : Int) (mw : Int) (mu : Int) (md : Int) (mo : Int) (y0 : Int → Int) (y8 : Int → Int) (y9 : Int → Int) (r : Int) (mp1' : Int) (w1 : Int) : Int × Int × (Int → Int) × (Int → Int) :=
  match f_XM_takeP mth mn mp1' w1 mu md mo y0 61 with
  | (mp1'4, mw1'5) =>
    if mw1'5 < 0 then
      f_XM_formulaP_J55 mth mn mp mw mu md mo y0 y8 y9 r mp1'4 mw1'5 0 1
    else
      f_XM_formulaP_J55 mth mn mp mw mu md mo y0 y8 y9 r mp1'4 mw1'5 0 0
noncomputable def f_XM_formulaP_J35 : Int → Int → Int → Int → Int → Int → Int → (Int → Int) → (Int → Int) → (Int → Int) → Int → Int → Int → Int × Int × (Int → Int) × (Int → Int) := jopq g_XM_formulaP_J35
theorem f_XM_formulaP_J35_q : f_XM_formulaP_J35 = g_XM_formulaP_J35 := jopq_eq _
theorem f_XM_formulaP_J35_s (mth : Int) (mn : Int) (mp : Int) (mw : Int) (mu : Int) (md : Int) (mo : Int) (y0 : Int → Int) (y8 : Int → Int) (y9 : Int → Int) (r : Int) (mp1' : Int) (w1 : Int) : f_XM_formulaP_J35 mth mn mp mw mu md mo y0 y8 y9 r mp1' w1 = (
    match f_XM_takeP mth mn mp1' w1 mu md mo y0 61 with
    | (mp1'4, mw1'5) =>
      if mw1'5 < 0 then
        f_XM_formulaP_J55 mth mn mp mw mu md mo y0 y8 y9 r mp1'4 mw1'5 0 1
      else
        f_XM_formulaP_J55 mth mn mp mw mu md mo y0 y8 y9 r mp1'4 mw1'5 0 0
  : Int × Int × (Int → Int) × (Int → Int)) := by rw [f_XM_formulaP_J35_q]; rfl
noncomputable def g_XM_formulaP (mth : Int) (mn : Int) (mp : Int) (mw : Int) (mu : Int) (md : Int) (mo : Int) (y0 : Int → Int) (y8 : Int → Int) (y9 : Int → Int) : Int × Int × (Int → Int) × (Int → Int) :=
  match f_XM_numberP mth mn mp mw mu md mo y0 0 3 with
  | (r, mp1', mw1') =>
    if mw1' < 0 then
      if (y8 (4 + r)) = 0 then
        f_XM_formulaP_J35 mth mn mp mw mu md mo y0 y8 y9 r mp1' mw1'
      else
        f_XM_formulaP_J35 mth mn mp mw mu md mo y0 y8 y9 r mp1' (f_XM_failP mth mn mp1' mw1' mu md mo (mp1' - 1))
    else
      f_XM_formulaP_J35 mth mn mp mw mu md mo y0 y8 y9 r mp1' mw1'
noncomputable def f_XM_formulaP : Int → Int → Int → Int → Int → Int → Int → (Int → Int) → (Int → Int) → (Int → Int) → Int × Int × (Int → Int) × (Int → Int) := jopq g_XM_formulaP
theorem f_XM_formulaP_q : f_XM_formulaP = g_XM_formulaP := jopq_eq _
theorem f_XM_formulaP_s (mth : Int) (mn : Int) (mp : Int) (mw : Int) (mu : Int) (md : Int) (mo : Int) (y0 : Int → Int) (y8 : Int → Int) (y9 : Int → Int) : f_XM_formulaP mth mn mp mw mu md mo y0 y8 y9 = (
    match f_XM_numberP mth mn mp mw mu md mo y0 0 3 with
    | (r, mp1', mw1') =>
      if mw1' < 0 then
        if (y8 (4 + r)) = 0 then
          f_XM_formulaP_J35 mth mn mp mw mu md mo y0 y8 y9 r mp1' mw1'
        else
          f_XM_formulaP_J35 mth mn mp mw mu md mo y0 y8 y9 r mp1' (f_XM_failP mth mn mp1' mw1' mu md mo (mp1' - 1))
      else
        f_XM_formulaP_J35 mth mn mp mw mu md mo y0 y8 y9 r mp1' mw1'
  : Int × Int × (Int → Int) × (Int → Int)) := by rw [f_XM_formulaP_q]; rfl
set_option maxHeartbeats 4000000 in
set_option maxRecDepth 100000 in
theorem c_XM_formulaP (l : Launch) (dC : Nat → ClassId) (dI : Nat → Nat → Nat) (cA cZ : ClassId) (sz : Nat) (ma : Nat) (a0 : Nat) (a1 : Nat) (a2 : Nat) (a3 : Nat) (a4 : Nat) (a5 : Nat) (a6 : Nat) (a7 : Nat) (a8 : Nat) (a9 : Nat) (a10 : Nat) (a11 : Nat) (mth : Int) (mn : Int) (mp : Int) (mw : Int) (mu : Int) (md : Int) (mo : Int) (y0 : Int → Int) (y8 : Int → Int) (y9 : Int → Int) (hy0 : ∀ i, 0 ≤ y0 i ∧ y0 i ≤ 255) (hmn : 0 ≤ mn ∧ mn ≤ 400) (hmp : 0 ≤ mp ∧ mp ≤ mn) (hmw : -1 ≤ mw ∧ mw ≤ 400) (hy8 : ∀ i, 0 ≤ y8 i ∧ y8 i ≤ 1) (hy9 : ∀ i, 0 ≤ y9 i ∧ y9 i ≤ 20) : Met l yXM_formula (Cond.code yXM_formula cXM_formula 5 none :: TBL) ({ frames := 3, cells := 0, slots := 0, locals := 66 } : Room) (va_Pc [.ref ma] (jBw (dC, dI) [(cA, .int), (cZ, .boolean)] [(ma, .inr (5, [.int (jI mth), .int (jI mn), .ref a0, .int (jI mp), .int (jI mw), .ref a1, .ref a2, .ref a3, .ref a4, .ref a5, .ref a6, .ref a7, .ref a8, .ref a9, .ref a10, .long (jL mu), .long (jL md), .int (jI mo), .ref a11])), (a0, .inl (cA, 400, .inl (jA y0))), (a8, .inl (cZ, 8, .inl (jA y8))), (a9, .inl (cA, 64, .inl (jA y9)))] sz)) (va_Qv (fun (u : Int × Int × (Int → Int) × (Int → Int)) => u = f_XM_formulaP mth mn mp mw mu md mo y0 y8 y9 ∧ (mp ≤ u.1 ∧ u.1 ≤ mn) ∧ (-1 ≤ u.2.1 ∧ u.2.1 ≤ 400 ∧ mw ≤ u.2.1) ∧ (∀ i, 0 ≤ u.2.2.1 i ∧ u.2.2.1 i ≤ 1) ∧ (∀ i, 0 ≤ u.2.2.2 i ∧ u.2.2.2 i ≤ 20) ∧ (∀ i, i < 4 → u.2.2.1 i = y8 i) ∧ (∀ i, i < 32 → u.2.2.2 i = y9 i)) (fun u t => jE (dC, dI) [(cA, .int), (cZ, .boolean)] [(ma, .inr (5, [.int (jI mth), .int (jI mn), .ref a0, .int (jI mp), .int (jI mw), .ref a1, .ref a2, .ref a3, .ref a4, .ref a5, .ref a6, .ref a7, .ref a8, .ref a9, .ref a10, .long (jL mu), .long (jL md), .int (jI mo), .ref a11])), (a0, .inl (cA, 400, .inl (jA y0))), (a8, .inl (cZ, 8, .inl (jA y8))), (a9, .inl (cA, 64, .inl (jA y9)))] sz [(ma, .inr (5, [.int (jI mth), .int (jI mn), .ref a0, .int (jI u.1), .int (jI u.2.1), .ref a1, .ref a2, .ref a3, .ref a4, .ref a5, .ref a6, .ref a7, .ref a8, .ref a9, .ref a10, .long (jL mu), .long (jL md), .int (jI mo), .ref a11])), (a0, .inl (cA, 400, .inl (jA y0))), (a8, .inl (cZ, 8, .inl (jA u.2.2.1))), (a9, .inl (cA, 64, .inl (jA u.2.2.2)))] t) (va_A [(ma, .inr (5, [.int (jI mth), .int (jI mn), .ref a0, .int (jI mp), .int (jI mw), .ref a1, .ref a2, .ref a3, .ref a4, .ref a5, .ref a6, .ref a7, .ref a8, .ref a9, .ref a10, .long (jL mu), .long (jL md), .int (jI mo), .ref a11])), (a0, .inl (cA, 400, .inl (jA y0))), (a8, .inl (cZ, 8, .inl (jA y8))), (a9, .inl (cA, 64, .inl (jA y9)))] sz)) 0 0 (va_A [(ma, .inr (5, [.int (jI mth), .int (jI mn), .ref a0, .int (jI mp), .int (jI mw), .ref a1, .ref a2, .ref a3, .ref a4, .ref a5, .ref a6, .ref a7, .ref a8, .ref a9, .ref a10, .long (jL mu), .long (jL md), .int (jI mo), .ref a11])), (a0, .inl (cA, 400, .inl (jA y0))), (a8, .inl (cZ, 8, .inl (jA y8))), (a9, .inl (cA, 64, .inl (jA y9)))] sz) := by
  refine jMet (cc := cXM_formula) (maxL := 5) (ret := none) (by decide) rfl ?_
  intro p e s m args below meth c s₁ R Q hR hQ B hml hv
  obtain ⟨rfl, hsz, hP, hK, hD0, hN⟩ := hv
  have hx := B.exec
  have hb := B.bytes
  have hr := B.returns
  have hts := atoms_spec (ws := Cond.code yXM_formula cXM_formula 5 none :: TBL) B.pre
  have hown : s.vm.findClass RXM = some m.cls := findClass_of_methodNamed B.named
  have hlocks := B.notSynchronized
  subst hsz
  obtain ⟨A, hAe⟩ : ∃ A, A = va_A [(ma, .inr (5, [.int (jI mth), .int (jI mn), .ref a0, .int (jI mp), .int (jI mw), .ref a1, .ref a2, .ref a3, .ref a4, .ref a5, .ref a6, .ref a7, .ref a8, .ref a9, .ref a10, .long (jL mu), .long (jL md), .int (jI mo), .ref a11])), (a0, .inl (cA, 400, .inl (jA y0))), (a8, .inl (cZ, 8, .inl (jA y8))), (a9, .inl (cA, 64, .inl (jA y9)))] s.heap.size := ⟨_, rfl⟩
  have hD : va_D A [(ma, .inr (5, [.int (jI mth), .int (jI mn), .ref a0, .int (jI mp), .int (jI mw), .ref a1, .ref a2, .ref a3, .ref a4, .ref a5, .ref a6, .ref a7, .ref a8, .ref a9, .ref a10, .long (jL mu), .long (jL md), .int (jI mo), .ref a11])), (a0, .inl (cA, 400, .inl (jA y0))), (a8, .inl (cZ, 8, .inl (jA y8))), (a9, .inl (cA, 64, .inl (jA y9)))] := by rw [hAe]; exact hD0.self
  have hA : ∀ q : Nat, s.heap.size ≤ q → A q := fun q h => by rw [hAe]; exact Or.inr h
  have hS : va_S A s.heap s.heap [] := va_S.rf
  have hP : va_P (dC, dI) vwCl [(ma, .inr (5, [.int (jI mth), .int (jI mn), .ref a0, .int (jI mp), .int (jI mw), .ref a1, .ref a2, .ref a3, .ref a4, .ref a5, .ref a6, .ref a7, .ref a8, .ref a9, .ref a10, .long (jL mu), .long (jL md), .int (jI mo), .ref a11])), (a0, .inl (cA, 400, .inl (jA y0))), (a8, .inl (cZ, 8, .inl (jA y8))), (a9, .inl (cA, 64, .inl (jA y9)))] s.heap := hP
  have hl := lv_entry ([.ref ma]) (n := 5) (Nat.le_of_ble_eq_true rfl)
  rw [lg_entry_eq]
  generalize (lg_sl ([.ref ma]) ++ List.replicate (5 - (lg_sl ([.ref ma])).length) Slot.unset).toArray = ls at hl ⊢
  have hl : lv_has ls 5 [(0, .ref ma)] := hl
  refine ji_iconst hx hb dXM_formula_0 ?_
  refine lv_aload_n hx hb dXM_formula_1 rfl (lv_at hl 0 rfl) ?_
  refine ji_iconst hx hb dXM_formula_2 ?_
  refine ji_iconst hx hb dXM_formula_3 ?_
  refine jwVi (rest := [.int (jI 4)]) (wr := [(a8, .inl (cZ, 8, .inl (jA y8))), (a9, .inl (cA, 64, .inl (jA y9)))]) ⟨hx, hb, hml, hown, hts⟩ (c_XM_numberP l dC dI cA cZ _ ma a0 a1 a2 a3 a4 a5 a6 a7 a8 a9 a10 a11 mth mn mp mw mu md mo y0 0 3 (by first | assumption | omega) (by first | assumption | omega) (by first | assumption | omega) (by first | assumption | omega) (by first | assumption | omega)) (cwV 2 hts (jG_V tw_726 tw_728 ts_20 tw_6 tw_729) rfl rfl rfl (by decide +kernel) (by rw [hR]; exact ⟨Nat.le_of_ble_eq_true rfl, Nat.le_of_ble_eq_true rfl⟩)) hK hP hD hS hA hN [0, 1] [2, 3] rfl rfl (by decide) (by decide) (by decide) 0 5 rfl rfl rfl rfl hl.1 rfl (Nat.le_of_ble_eq_true rfl) dXM_formula_4 (by rw [hR]; exact ⟨Nat.le_of_ble_eq_true rfl, Nat.le_of_ble_eq_true rfl⟩) (fun v u H locs hwb hP hD hS => ?_)
  obtain ⟨r, mp1', mw1'⟩ := u
  try dsimp only at hwb
  obtain ⟨er, hwb, f, f1, f2, f3⟩ := hwb
  subst er
  have f : 0 ≤ r ∧ r ≤ 3 := f
  have f1 : mp ≤ mp1' ∧ mp1' ≤ mn := f1
  have f2 : -1 ≤ mw1' ∧ mw1' ≤ 400 ∧ mw ≤ mw1' := f2
  have f3 : mw1' < 0 → mp < mp1' := f3
  have hP : va_P (dC, dI) vwCl [(a8, .inl (cZ, 8, .inl (jA y8))), (a9, .inl (cA, 64, .inl (jA y9))), (ma, .inr (5, [.int (jI mth), .int (jI mn), .ref a0, .int (jI mp1'), .int (jI mw1'), .ref a1, .ref a2, .ref a3, .ref a4, .ref a5, .ref a6, .ref a7, .ref a8, .ref a9, .ref a10, .long (jL mu), .long (jL md), .int (jI mo), .ref a11])), (a0, .inl (cA, 400, .inl (jA y0)))] H := hP
  have hD : va_D A [(a8, .inl (cZ, 8, .inl (jA y8))), (a9, .inl (cA, 64, .inl (jA y9))), (ma, .inr (5, [.int (jI mth), .int (jI mn), .ref a0, .int (jI mp1'), .int (jI mw1'), .ref a1, .ref a2, .ref a3, .ref a4, .ref a5, .ref a6, .ref a7, .ref a8, .ref a9, .ref a10, .long (jL mu), .long (jL md), .int (jI mo), .ref a11])), (a0, .inl (cA, 400, .inl (jA y0)))] := hD
  refine ji_iadd hx hb dXM_formula_7 ?_
  refine lv_istore_n (lv' := [(1, .int (jI (4 + r))), (0, .ref ma)]) hx hb dXM_formula_8 rfl hl (by decide) rfl (fun ls hl => ?_)
  have join35 : ∀ (w1 : Int) , f_XM_formulaP_J35 mth mn mp mw mu md mo y0 y8 y9 r mp1' w1 = f_XM_formulaP mth mn mp mw mu md mo y0 y8 y9 → (-1 ≤ w1 ∧ w1 ≤ 400 ∧ mw1' ≤ w1) → ∀ (H : Heap) (locs : List Loc), va_P (dC, dI) vwCl [(a8, .inl (cZ, 8, .inl (jA y8))), (a9, .inl (cA, 64, .inl (jA y9))), (ma, .inr (5, [.int (jI mth), .int (jI mn), .ref a0, .int (jI mp1'), .int (jI w1), .ref a1, .ref a2, .ref a3, .ref a4, .ref a5, .ref a6, .ref a7, .ref a8, .ref a9, .ref a10, .long (jL mu), .long (jL md), .int (jI mo), .ref a11])), (a0, .inl (cA, 400, .inl (jA y0)))] H → va_D A [(a8, .inl (cZ, 8, .inl (jA y8))), (a9, .inl (cA, 64, .inl (jA y9))), (ma, .inr (5, [.int (jI mth), .int (jI mn), .ref a0, .int (jI mp1'), .int (jI w1), .ref a1, .ref a2, .ref a3, .ref a4, .ref a5, .ref a6, .ref a7, .ref a8, .ref a9, .ref a10, .long (jL mu), .long (jL md), .int (jI mo), .ref a11])), (a0, .inl (cA, 400, .inl (jA y0)))] → va_S A s.heap H locs → ∀ ls : Array Slot, lv_has ls 5 [(1, .int (jI (4 + r))), (0, .ref ma)] → W p l e R s m ([.ref ma] : List Value).toArray below meth c H locs 0 0 Q (F0 m 35 ls []) := by
    intro w1 hF hw1 H locs hP hD hS ls hl
    refine lv_aload_n hx hb dXM_formula_35 rfl (lv_at hl 1 rfl) ?_
    refine ji_bipush hx hb dXM_formula_36 (by decide) ?_
    refine jwVv (rest := []) (wr := [(a8, .inl (cZ, 8, .inl (jA y8))), (a9, .inl (cA, 64, .inl (jA y9)))]) ⟨hx, hb, hml, hown, hts⟩ (c_XM_takeP l dC dI cA cZ _ ma a0 a1 a2 a3 a4 a5 a6 a7 a8 a9 a10 a11 mth mn mp1' w1 mu md mo y0 61 (by first | assumption | omega) (by first | assumption | omega) (by first | assumption | omega) (by first | assumption | omega) (by first | assumption | omega)) (cwV 1 hts (jG_V tw_738 tw_740 ts_23 tw_6 tw_741) rfl rfl rfl (by decide +kernel) (by rw [hR]; exact ⟨Nat.le_of_ble_eq_true rfl, Nat.le_of_ble_eq_true rfl⟩)) hK hP hD hS hA hN [2, 3] [0, 1] rfl rfl (by decide) (by decide) (by decide) 2 5 rfl rfl rfl rfl hl.1 rfl (Nat.le_of_ble_eq_true rfl) dXM_formula_38 (by rw [hR]; exact ⟨Nat.le_of_ble_eq_true rfl, Nat.le_of_ble_eq_true rfl⟩) (fun u6 H locs hwb7 hP hD hS => ?_)
    obtain ⟨mp1'4, mw1'5⟩ := u6
    try dsimp only at hwb7
    obtain ⟨hwb7, f8, f9, f10⟩ := hwb7
    have f8 : mp1' ≤ mp1'4 ∧ mp1'4 ≤ mn := f8
    have f9 : -1 ≤ mw1'5 ∧ mw1'5 ≤ 400 ∧ w1 ≤ mw1'5 := f9
    have f10 : mw1'5 < 0 → mp1' < mp1'4 := f10
    have hP : va_P (dC, dI) vwCl [(a8, .inl (cZ, 8, .inl (jA y8))), (a9, .inl (cA, 64, .inl (jA y9))), (ma, .inr (5, [.int (jI mth), .int (jI mn), .ref a0, .int (jI mp1'4), .int (jI mw1'5), .ref a1, .ref a2, .ref a3, .ref a4, .ref a5, .ref a6, .ref a7, .ref a8, .ref a9, .ref a10, .long (jL mu), .long (jL md), .int (jI mo), .ref a11])), (a0, .inl (cA, 400, .inl (jA y0)))] H := hP
    have hD : va_D A [(a8, .inl (cZ, 8, .inl (jA y8))), (a9, .inl (cA, 64, .inl (jA y9))), (ma, .inr (5, [.int (jI mth), .int (jI mn), .ref a0, .int (jI mp1'4), .int (jI mw1'5), .ref a1, .ref a2, .ref a3, .ref a4, .ref a5, .ref a6, .ref a7, .ref a8, .ref a9, .ref a10, .long (jL mu), .long (jL md), .int (jI mo), .ref a11])), (a0, .inl (cA, 400, .inl (jA y0)))] := hD
    have join55 : ∀ (mk0 : Int) (jm : Int) , f_XM_formulaP_J55 mth mn mp mw mu md mo y0 y8 y9 r mp1'4 mw1'5 mk0 jm = f_XM_formulaP mth mn mp mw mu md mo y0 y8 y9 → (i32 mk0) → (0 ≤ jm ∧ jm ≤ 1) → ∀ (H : Heap) (locs : List Loc), va_P (dC, dI) vwCl [(a8, .inl (cZ, 8, .inl (jA y8))), (a9, .inl (cA, 64, .inl (jA y9))), (ma, .inr (5, [.int (jI mth), .int (jI mn), .ref a0, .int (jI mp1'4), .int (jI mw1'5), .ref a1, .ref a2, .ref a3, .ref a4, .ref a5, .ref a6, .ref a7, .ref a8, .ref a9, .ref a10, .long (jL mu), .long (jL md), .int (jI mo), .ref a11])), (a0, .inl (cA, 400, .inl (jA y0)))] H → va_D A [(a8, .inl (cZ, 8, .inl (jA y8))), (a9, .inl (cA, 64, .inl (jA y9))), (ma, .inr (5, [.int (jI mth), .int (jI mn), .ref a0, .int (jI mp1'4), .int (jI mw1'5), .ref a1, .ref a2, .ref a3, .ref a4, .ref a5, .ref a6, .ref a7, .ref a8, .ref a9, .ref a10, .long (jL mu), .long (jL md), .int (jI mo), .ref a11])), (a0, .inl (cA, 400, .inl (jA y0)))] → va_S A s.heap H locs → ∀ ls : Array Slot, lv_has ls 5 [(1, .int (jI (4 + r))), (0, .ref ma), (2, .int (jI mk0))] → W p l e R s m ([.ref ma] : List Value).toArray below meth c H locs 0 0 Q (F0 m 55 ls [.int (jI jm)]) := by
      intro mk0 jm hF hmk0 hjm H locs hP hD hS ls hl
      refine lv_istore_n (lv' := [(3, .int (jI jm)), (1, .int (jI (4 + r))), (0, .ref ma), (2, .int (jI mk0))]) hx hb dXM_formula_55 rfl hl (by decide) rfl (fun ls hl => ?_)
      have loop56 : ∀ (n9 : Nat) (mks : Int) (jm2 : Int) (k : Int) (w : Int) (w9 : Int → Int) , mn - k < (n9 : Int) → f_XM_formulaP_L56 mth mn mp mw mu md mo y0 y8 y9 r n9 mks jm2 k w w9 = f_XM_formulaP mth mn mp mw mu md mo y0 y8 y9 → (mp1'4 ≤ k ∧ k ≤ mn) → (-1 ≤ w ∧ w ≤ 400 ∧ mw1'5 ≤ w) → (i32 mks) → (0 ≤ jm2 ∧ jm2 ≤ 1) → (∀ i, 0 ≤ w9 i ∧ w9 i ≤ 20) → (∀ i, i < 32 → w9 i = y9 i) → ∀ (H : Heap) (locs : List Loc), va_P (dC, dI) vwCl [(a8, .inl (cZ, 8, .inl (jA y8))), (a9, .inl (cA, 64, .inl (jA w9))), (ma, .inr (5, [.int (jI mth), .int (jI mn), .ref a0, .int (jI k), .int (jI w), .ref a1, .ref a2, .ref a3, .ref a4, .ref a5, .ref a6, .ref a7, .ref a8, .ref a9, .ref a10, .long (jL mu), .long (jL md), .int (jI mo), .ref a11])), (a0, .inl (cA, 400, .inl (jA y0)))] H → va_D A [(a8, .inl (cZ, 8, .inl (jA y8))), (a9, .inl (cA, 64, .inl (jA w9))), (ma, .inr (5, [.int (jI mth), .int (jI mn), .ref a0, .int (jI k), .int (jI w), .ref a1, .ref a2, .ref a3, .ref a4, .ref a5, .ref a6, .ref a7, .ref a8, .ref a9, .ref a10, .long (jL mu), .long (jL md), .int (jI mo), .ref a11])), (a0, .inl (cA, 400, .inl (jA y0)))] → va_S A s.heap H locs → ∀ ls : Array Slot, lv_has ls 5 [(3, .int (jI jm2)), (1, .int (jI (4 + r))), (0, .ref ma), (2, .int (jI mks))] → W p l e R s m ([.ref ma] : List Value).toArray below meth c H locs 0 0 Q (F0 m 56 ls []) := by
        intro n9
        induction n9 with
        | zero =>
          intro mks jm2 k w w9 hm hF hk hw hmk hjm2 hw9 hl9
          exact absurd hm (by omega)
        | succ n9 ih56 =>
          intro mks jm2 k w w9 hm hF hk hw hmk hjm2 hw9 hl9 H locs hP hD hS ls hl
          refine lv_iload_n hx hb dXM_formula_56 rfl (lv_at hl 0 rfl) ?_
          refine ji_if_eq (tgt := 137) hx hb dXM_formula_57 (by decide) (by omega) (fun c57_ => ?_) (fun c57_ => ?_)
          · refine lv_aload_n hx hb dXM_formula_137 rfl (lv_at hl 2 rfl) ?_
            refine ji_bipush hx hb dXM_formula_138 (by decide) ?_
            refine jwVv (rest := []) (wr := [(a8, .inl (cZ, 8, .inl (jA y8))), (a9, .inl (cA, 64, .inl (jA w9)))]) ⟨hx, hb, hml, hown, hts⟩ (c_XM_takeP l dC dI cA cZ _ ma a0 a1 a2 a3 a4 a5 a6 a7 a8 a9 a10 a11 mth mn k w mu md mo y0 59 (by first | assumption | omega) (by first | assumption | omega) (by first | assumption | omega) (by first | assumption | omega) (by first | assumption | omega)) (cwV 1 hts (jG_V tw_738 tw_740 ts_23 tw_6 tw_741) rfl rfl rfl (by decide +kernel) (by rw [hR]; exact ⟨Nat.le_of_ble_eq_true rfl, Nat.le_of_ble_eq_true rfl⟩)) hK hP hD hS hA hN [2, 3] [0, 1] rfl rfl (by decide) (by decide) (by decide) 2 5 rfl rfl rfl rfl hl.1 rfl (Nat.le_of_ble_eq_true rfl) dXM_formula_140 (by rw [hR]; exact ⟨Nat.le_of_ble_eq_true rfl, Nat.le_of_ble_eq_true rfl⟩) (fun u13 H locs hwb14 hP hD hS => ?_)
            obtain ⟨mp1'11, mw1'12⟩ := u13
            try dsimp only at hwb14
            obtain ⟨hwb14, f15, f16, f17⟩ := hwb14
            have f15 : k ≤ mp1'11 ∧ mp1'11 ≤ mn := f15
            have f16 : -1 ≤ mw1'12 ∧ mw1'12 ≤ 400 ∧ w ≤ mw1'12 := f16
            have f17 : mw1'12 < 0 → k < mp1'11 := f17
            have hP : va_P (dC, dI) vwCl [(a8, .inl (cZ, 8, .inl (jA y8))), (a9, .inl (cA, 64, .inl (jA w9))), (ma, .inr (5, [.int (jI mth), .int (jI mn), .ref a0, .int (jI mp1'11), .int (jI mw1'12), .ref a1, .ref a2, .ref a3, .ref a4, .ref a5, .ref a6, .ref a7, .ref a8, .ref a9, .ref a10, .long (jL mu), .long (jL md), .int (jI mo), .ref a11])), (a0, .inl (cA, 400, .inl (jA y0)))] H := hP
            have hD : va_D A [(a8, .inl (cZ, 8, .inl (jA y8))), (a9, .inl (cA, 64, .inl (jA w9))), (ma, .inr (5, [.int (jI mth), .int (jI mn), .ref a0, .int (jI mp1'11), .int (jI mw1'12), .ref a1, .ref a2, .ref a3, .ref a4, .ref a5, .ref a6, .ref a7, .ref a8, .ref a9, .ref a10, .long (jL mu), .long (jL md), .int (jI mo), .ref a11])), (a0, .inl (cA, 400, .inl (jA y0)))] := hD
            refine lv_aload_n hx hb dXM_formula_143 rfl (lv_at hl 2 rfl) ?_
            refine va_get (D := (dC, dI)) (ci := 5) (v := .int (jI mw1'12)) (C := RXM) (T := TXM) (N := 19) hx hb hts (fun w h => jmem (inXM w h)) hown hK hP 2 rfl rfl 4 (by decide) (hts _ (jmem tw_632)) (fun _ h9 => h9) rfl dXM_formula_144 ?_
            refine ji_if_ge (tgt := 157) hx hb dXM_formula_147 (by decide) (by omega) (fun c147_ => ?_) (fun c147_ => ?_)
            · have hP9 := hP.sub (ws' := [(ma, .inr (5, [.int (jI mth), .int (jI mn), .ref a0, .int (jI mp1'11), .int (jI mw1'12), .ref a1, .ref a2, .ref a3, .ref a4, .ref a5, .ref a6, .ref a7, .ref a8, .ref a9, .ref a10, .long (jL mu), .long (jL md), .int (jI mo), .ref a11])), (a0, .inl (cA, 400, .inl (jA y0))), (a8, .inl (cZ, 8, .inl (jA y8))), (a9, .inl (cA, 64, .inl (jA w9)))]) [2, 3, 0, 1] rfl
              have hD9 := hD.sub (ws' := [(ma, .inr (5, [.int (jI mth), .int (jI mn), .ref a0, .int (jI mp1'11), .int (jI mw1'12), .ref a1, .ref a2, .ref a3, .ref a4, .ref a5, .ref a6, .ref a7, .ref a8, .ref a9, .ref a10, .long (jL mu), .long (jL md), .int (jI mo), .ref a11])), (a0, .inl (cA, 400, .inl (jA y0))), (a8, .inl (cZ, 8, .inl (jA y8))), (a9, .inl (cA, 64, .inl (jA w9)))]) [2, 3, 0, 1] (by decide) rfl
              subst hAe
              subst hQ
              exact W.vret hx hb hr (fun t ht hW => ⟨⟨(mp1'11, mw1'12, y8, w9), rfl, ⟨Eq.trans (by rw [f_XM_formulaP_L56_s]; rw [if_pos c57_]; rw [← hwb14]; try dsimp only; rw [if_neg (Int.not_lt.mpr c147_)]; try rfl) hF, show mp ≤ mp1'11 ∧ mp1'11 ≤ mn from by first | assumption | omega | exact jset_b (by assumption) (by omega) | exact jset_l (by assumption) (by omega) | exact jset_l (fun _ _ => rfl) (by omega) | exact fun _ _ => rfl | exact l_trans (by assumption) (by assumption), show -1 ≤ mw1'12 ∧ mw1'12 ≤ 400 ∧ mw ≤ mw1'12 from by first | assumption | omega | exact jset_b (by assumption) (by omega) | exact jset_l (by assumption) (by omega) | exact jset_l (fun _ _ => rfl) (by omega) | exact fun _ _ => rfl | exact l_trans (by assumption) (by assumption), show ∀ i, 0 ≤ y8 i ∧ y8 i ≤ 1 from by first | assumption | omega | exact jset_b (by assumption) (by omega) | exact jset_l (by assumption) (by omega) | exact jset_l (fun _ _ => rfl) (by omega) | exact fun _ _ => rfl | exact l_trans (by assumption) (by assumption), show ∀ i, 0 ≤ w9 i ∧ w9 i ≤ 20 from by first | assumption | omega | exact jset_b (by assumption) (by omega) | exact jset_l (by assumption) (by omega) | exact jset_l (fun _ _ => rfl) (by omega) | exact fun _ _ => rfl | exact l_trans (by assumption) (by assumption), show ∀ i, i < 4 → y8 i = y8 i from by first | assumption | omega | exact jset_b (by assumption) (by omega) | exact jset_l (by assumption) (by omega) | exact jset_l (fun _ _ => rfl) (by omega) | exact fun _ _ => rfl | exact l_trans (by assumption) (by assumption), show ∀ i, i < 32 → w9 i = y9 i from by first | assumption | omega | exact jset_b (by assumption) (by omega) | exact jset_l (by assumption) (by omega) | exact jset_l (fun _ _ => rfl) (by omega) | exact fun _ _ => rfl | exact l_trans (by assumption) (by assumption)⟩, ⟨by rw [ht]; exact hP9, va_K.moved hW.alike hK, hD9⟩⟩, hS.F ht⟩) hS.2.2 dXM_formula_157
            · refine lv_aload_n hx hb dXM_formula_150 rfl (lv_at hl 2 rfl) ?_
              refine va_get (D := (dC, dI)) (ci := 5) (v := .ref a8) (C := RXM) (T := TXM) (N := 19) hx hb hts (fun w h => jmem (inXM w h)) hown hK hP 2 rfl rfl 12 (by decide) (hts _ (jmem tw_640)) (fun _ h9 => h9) rfl dXM_formula_151 ?_
              refine lv_iload_n hx hb dXM_formula_154 rfl (lv_at hl 1 rfl) ?_
              refine ji_iconst hx hb dXM_formula_155 ?_
              refine ji_zast hx hb hK hP hD hS 0 1 rfl rfl (by first | decide | omega) ⟨by omega, by omega⟩ (by decide) dXM_formula_156 (fun H locs hP hD hS => ?_)
              have hP : va_P (dC, dI) vwCl [(a8, .inl (cZ, 8, .inl (jA (jset y8 (4 + r) 1)))), (a9, .inl (cA, 64, .inl (jA w9))), (ma, .inr (5, [.int (jI mth), .int (jI mn), .ref a0, .int (jI mp1'11), .int (jI mw1'12), .ref a1, .ref a2, .ref a3, .ref a4, .ref a5, .ref a6, .ref a7, .ref a8, .ref a9, .ref a10, .long (jL mu), .long (jL md), .int (jI mo), .ref a11])), (a0, .inl (cA, 400, .inl (jA y0)))] H := hP
              have hD : va_D A [(a8, .inl (cZ, 8, .inl (jA (jset y8 (4 + r) 1)))), (a9, .inl (cA, 64, .inl (jA w9))), (ma, .inr (5, [.int (jI mth), .int (jI mn), .ref a0, .int (jI mp1'11), .int (jI mw1'12), .ref a1, .ref a2, .ref a3, .ref a4, .ref a5, .ref a6, .ref a7, .ref a8, .ref a9, .ref a10, .long (jL mu), .long (jL md), .int (jI mo), .ref a11])), (a0, .inl (cA, 400, .inl (jA y0)))] := hD
              have hP9 := hP.sub (ws' := [(ma, .inr (5, [.int (jI mth), .int (jI mn), .ref a0, .int (jI mp1'11), .int (jI mw1'12), .ref a1, .ref a2, .ref a3, .ref a4, .ref a5, .ref a6, .ref a7, .ref a8, .ref a9, .ref a10, .long (jL mu), .long (jL md), .int (jI mo), .ref a11])), (a0, .inl (cA, 400, .inl (jA y0))), (a8, .inl (cZ, 8, .inl (jA (jset y8 (4 + r) 1)))), (a9, .inl (cA, 64, .inl (jA w9)))]) [2, 3, 0, 1] rfl
              have hD9 := hD.sub (ws' := [(ma, .inr (5, [.int (jI mth), .int (jI mn), .ref a0, .int (jI mp1'11), .int (jI mw1'12), .ref a1, .ref a2, .ref a3, .ref a4, .ref a5, .ref a6, .ref a7, .ref a8, .ref a9, .ref a10, .long (jL mu), .long (jL md), .int (jI mo), .ref a11])), (a0, .inl (cA, 400, .inl (jA y0))), (a8, .inl (cZ, 8, .inl (jA (jset y8 (4 + r) 1)))), (a9, .inl (cA, 64, .inl (jA w9)))]) [2, 3, 0, 1] (by decide) rfl
              subst hAe
              subst hQ
              exact W.vret hx hb hr (fun t ht hW => ⟨⟨(mp1'11, mw1'12, jset y8 (4 + r) 1, w9), rfl, ⟨Eq.trans (by rw [f_XM_formulaP_L56_s]; rw [if_pos c57_]; rw [← hwb14]; try dsimp only; rw [if_pos c147_]; try rfl) hF, show mp ≤ mp1'11 ∧ mp1'11 ≤ mn from by first | assumption | omega | exact jset_b (by assumption) (by omega) | exact jset_l (by assumption) (by omega) | exact jset_l (fun _ _ => rfl) (by omega) | exact fun _ _ => rfl | exact l_trans (by assumption) (by assumption), show -1 ≤ mw1'12 ∧ mw1'12 ≤ 400 ∧ mw ≤ mw1'12 from by first | assumption | omega | exact jset_b (by assumption) (by omega) | exact jset_l (by assumption) (by omega) | exact jset_l (fun _ _ => rfl) (by omega) | exact fun _ _ => rfl | exact l_trans (by assumption) (by assumption), show ∀ i, 0 ≤ (jset y8 (4 + r) 1) i ∧ (jset y8 (4 + r) 1) i ≤ 1 from by first | assumption | omega | exact jset_b (by assumption) (by omega) | exact jset_l (by assumption) (by omega) | exact jset_l (fun _ _ => rfl) (by omega) | exact fun _ _ => rfl | exact l_trans (by assumption) (by assumption), show ∀ i, 0 ≤ w9 i ∧ w9 i ≤ 20 from by first | assumption | omega | exact jset_b (by assumption) (by omega) | exact jset_l (by assumption) (by omega) | exact jset_l (fun _ _ => rfl) (by omega) | exact fun _ _ => rfl | exact l_trans (by assumption) (by assumption), show ∀ i, i < 4 → (jset y8 (4 + r) 1) i = y8 i from by first | assumption | omega | exact jset_b (by assumption) (by omega) | exact jset_l (by assumption) (by omega) | exact jset_l (fun _ _ => rfl) (by omega) | exact fun _ _ => rfl | exact l_trans (by assumption) (by assumption), show ∀ i, i < 32 → w9 i = y9 i from by first | assumption | omega | exact jset_b (by assumption) (by omega) | exact jset_l (by assumption) (by omega) | exact jset_l (fun _ _ => rfl) (by omega) | exact fun _ _ => rfl | exact l_trans (by assumption) (by assumption)⟩, ⟨by rw [ht]; exact hP9, va_K.moved hW.alike hK, hD9⟩⟩, hS.F ht⟩) hS.2.2 dXM_formula_157
          · refine lv_aload_n hx hb dXM_formula_60 rfl (lv_at hl 2 rfl) ?_
            refine lv_iload_n hx hb dXM_formula_61 rfl (lv_at hl 3 rfl) ?_
            refine jwVi (rest := []) (wr := [(a8, .inl (cZ, 8, .inl (jA y8))), (a9, .inl (cA, 64, .inl (jA w9)))]) ⟨hx, hb, hml, hown, hts⟩ (c_XM_elementP l dC dI cA cZ _ ma a0 a1 a2 a3 a4 a5 a6 a7 a8 a9 a10 a11 mth mn k w mu md mo y0 mks (by first | assumption | omega) (by first | assumption | omega) (by first | assumption | omega) (by first | assumption | omega) (by first | assumption | omega)) (cwV 1 hts (jG_V tw_742 tw_744 ts_24 tw_6 tw_745) rfl rfl rfl (by decide +kernel) (by rw [hR]; exact ⟨Nat.le_of_ble_eq_true rfl, Nat.le_of_ble_eq_true rfl⟩)) hK hP hD hS hA hN [2, 3] [0, 1] rfl rfl (by decide) (by decide) (by decide) 2 5 rfl rfl rfl rfl hl.1 rfl (Nat.le_of_ble_eq_true rfl) dXM_formula_62 (by rw [hR]; exact ⟨Nat.le_of_ble_eq_true rfl, Nat.le_of_ble_eq_true rfl⟩) (fun v22 u21 H locs hwb23 hP hD hS => ?_)
            obtain ⟨r18, mp1'19, mw1'20⟩ := u21
            try dsimp only at hwb23
            obtain ⟨er, hwb23, f24, f25, f26, f27⟩ := hwb23
            subst er
            have f24 : -1 ≤ r18 ∧ r18 ≤ 7 := f24
            have f25 : k ≤ mp1'19 ∧ mp1'19 ≤ mn := f25
            have f26 : -1 ≤ mw1'20 ∧ mw1'20 ≤ 400 ∧ w ≤ mw1'20 := f26
            have f27 : 0 ≤ r18 → k < mp1'19 := f27
            have hP : va_P (dC, dI) vwCl [(a8, .inl (cZ, 8, .inl (jA y8))), (a9, .inl (cA, 64, .inl (jA w9))), (ma, .inr (5, [.int (jI mth), .int (jI mn), .ref a0, .int (jI mp1'19), .int (jI mw1'20), .ref a1, .ref a2, .ref a3, .ref a4, .ref a5, .ref a6, .ref a7, .ref a8, .ref a9, .ref a10, .long (jL mu), .long (jL md), .int (jI mo), .ref a11])), (a0, .inl (cA, 400, .inl (jA y0)))] H := hP
            have hD : va_D A [(a8, .inl (cZ, 8, .inl (jA y8))), (a9, .inl (cA, 64, .inl (jA w9))), (ma, .inr (5, [.int (jI mth), .int (jI mn), .ref a0, .int (jI mp1'19), .int (jI mw1'20), .ref a1, .ref a2, .ref a3, .ref a4, .ref a5, .ref a6, .ref a7, .ref a8, .ref a9, .ref a10, .long (jL mu), .long (jL md), .int (jI mo), .ref a11])), (a0, .inl (cA, 400, .inl (jA y0)))] := hD
            refine lv_istore (lv' := [(4, .int (jI r18)), (3, .int (jI jm2)), (1, .int (jI (4 + r))), (0, .ref ma), (2, .int (jI mks))]) hx hb dXM_formula_65 hl (by decide) rfl (fun ls hl => ?_)
            refine lv_iload hx hb dXM_formula_67 (lv_at hl 0 rfl) ?_
            refine ji_if_ge (tgt := 80) hx hb dXM_formula_69 (by decide) (by omega) (fun c69_ => ?_) (fun c69_ => ?_)
            · refine lv_aload_n hx hb dXM_formula_80 rfl (lv_at hl 3 rfl) ?_
              refine va_get (D := (dC, dI)) (ci := 5) (v := .int (jI mw1'20)) (C := RXM) (T := TXM) (N := 19) hx hb hts (fun w h => jmem (inXM w h)) hown hK hP 2 rfl rfl 4 (by decide) (hts _ (jmem tw_632)) (fun _ h9 => h9) rfl dXM_formula_81 ?_
              refine ji_if_lt (tgt := 88) hx hb dXM_formula_84 (by decide) (by omega) (fun c84_ => ?_) (fun c84_ => ?_)
              · refine lv_iload_n hx hb dXM_formula_88 rfl (lv_at hl 4 rfl) ?_
                refine ji_iconst hx hb dXM_formula_89 ?_
                refine lv_iload hx hb dXM_formula_90 (lv_at hl 0 rfl) ?_
                refine lv_ishl hx hb dXM_formula_92 ?_
                refine ji_rev ?_
                have rb := jti32 (jI 1 <<< (jI r18 &&& 31))
                refine lv_ior hx hb dXM_formula_93 ?_
                refine ji_rev ?_
                have rb28 := jti32 (jI mks ||| jI ((jI 1 <<< (jI r18 &&& 31)).toInt))
                refine lv_istore_n (lv' := [(2, .int (jI ((jI mks ||| jI ((jI 1 <<< (jI r18 &&& 31)).toInt)).toInt))), (4, .int (jI r18)), (3, .int (jI jm2)), (1, .int (jI (4 + r))), (0, .ref ma)]) hx hb dXM_formula_94 rfl hl (by decide) rfl (fun ls hl => ?_)
                refine lv_aload_n hx hb dXM_formula_95 rfl (lv_at hl 4 rfl) ?_
                refine va_get (D := (dC, dI)) (ci := 5) (v := .ref a9) (C := RXM) (T := TXM) (N := 19) hx hb hts (fun w h => jmem (inXM w h)) hown hK hP 2 rfl rfl 13 (by decide) (hts _ (jmem tw_641)) (fun _ h9 => h9) rfl dXM_formula_96 ?_
                refine ji_bipush hx hb dXM_formula_99 (by decide) ?_
                refine lv_iload_n hx hb dXM_formula_101 rfl (lv_at hl 3 rfl) ?_
                refine ji_imul hx hb dXM_formula_102 ?_
                refine lv_iload hx hb dXM_formula_103 (lv_at hl 1 rfl) ?_
                refine ji_iadd hx hb dXM_formula_105 ?_
                refine lv_aload_n hx hb dXM_formula_106 rfl (lv_at hl 4 rfl) ?_
                refine ji_bipush hx hb dXM_formula_107 (by decide) ?_
                refine jwVi (rest := [.int (jI ((8 * (4 + r)) + r18)), .ref a9]) (wr := [(a8, .inl (cZ, 8, .inl (jA y8))), (a9, .inl (cA, 64, .inl (jA w9)))]) ⟨hx, hb, hml, hown, hts⟩ (c_XM_takesP l dC dI cA cZ _ ma a0 a1 a2 a3 a4 a5 a6 a7 a8 a9 a10 a11 mth mn mp1'19 mw1'20 mu md mo y0 47 (by first | assumption | omega) (by first | assumption | omega) (by first | assumption | omega) (by first | assumption | omega) (by first | assumption | omega)) (cwV 1 hts (jG_V tw_718 tw_720 ts_18 tw_6 tw_721) rfl rfl rfl (by decide +kernel) (by rw [hR]; exact ⟨Nat.le_of_ble_eq_true rfl, Nat.le_of_ble_eq_true rfl⟩)) hK hP hD hS hA hN [2, 3] [0, 1] rfl rfl (by decide) (by decide) (by decide) 2 5 rfl rfl rfl rfl hl.1 rfl (Nat.le_of_ble_eq_true rfl) dXM_formula_109 (by rw [hR]; exact ⟨Nat.le_of_ble_eq_true rfl, Nat.le_of_ble_eq_true rfl⟩) (fun v32 u31 H locs hwb33 hP hD hS => ?_)
                obtain ⟨r29, mp1'30⟩ := u31
                try dsimp only at hwb33
                obtain ⟨er, hwb33, f34⟩ := hwb33
                subst er
                have f34 : (r29 = 0 ∧ mp1'19 ≤ mp1'30 ∧ mp1'30 ≤ mn) ∨ (r29 = 1 ∧ mp1'19 < mp1'30 ∧ mp1'30 ≤ mn ∧ mw1'20 < 0) := f34
                have hP : va_P (dC, dI) vwCl [(a8, .inl (cZ, 8, .inl (jA y8))), (a9, .inl (cA, 64, .inl (jA w9))), (ma, .inr (5, [.int (jI mth), .int (jI mn), .ref a0, .int (jI mp1'30), .int (jI mw1'20), .ref a1, .ref a2, .ref a3, .ref a4, .ref a5, .ref a6, .ref a7, .ref a8, .ref a9, .ref a10, .long (jL mu), .long (jL md), .int (jI mo), .ref a11])), (a0, .inl (cA, 400, .inl (jA y0)))] H := hP
                have hD : va_D A [(a8, .inl (cZ, 8, .inl (jA y8))), (a9, .inl (cA, 64, .inl (jA w9))), (ma, .inr (5, [.int (jI mth), .int (jI mn), .ref a0, .int (jI mp1'30), .int (jI mw1'20), .ref a1, .ref a2, .ref a3, .ref a4, .ref a5, .ref a6, .ref a7, .ref a8, .ref a9, .ref a10, .long (jL mu), .long (jL md), .int (jI mo), .ref a11])), (a0, .inl (cA, 400, .inl (jA y0)))] := hD
                refine ji_if_eq (tgt := 125) hx hb dXM_formula_112 (by decide) (by omega) (fun c112_ => ?_) (fun c112_ => ?_)
                · refine ji_iconst hx hb dXM_formula_125 ?_
                  refine ji_iast hx hb hK hP hD hS 1 0 rfl rfl ⟨by omega, by omega⟩ (by decide) dXM_formula_126 (fun H locs hP hD hS => ?_)
                  have hP : va_P (dC, dI) vwCl [(a8, .inl (cZ, 8, .inl (jA y8))), (a9, .inl (cA, 64, .inl (jA (jset w9 ((8 * (4 + r)) + r18) 1)))), (ma, .inr (5, [.int (jI mth), .int (jI mn), .ref a0, .int (jI mp1'30), .int (jI mw1'20), .ref a1, .ref a2, .ref a3, .ref a4, .ref a5, .ref a6, .ref a7, .ref a8, .ref a9, .ref a10, .long (jL mu), .long (jL md), .int (jI mo), .ref a11])), (a0, .inl (cA, 400, .inl (jA y0)))] H := hP
                  have hD : va_D A [(a8, .inl (cZ, 8, .inl (jA y8))), (a9, .inl (cA, 64, .inl (jA (jset w9 ((8 * (4 + r)) + r18) 1)))), (ma, .inr (5, [.int (jI mth), .int (jI mn), .ref a0, .int (jI mp1'30), .int (jI mw1'20), .ref a1, .ref a2, .ref a3, .ref a4, .ref a5, .ref a6, .ref a7, .ref a8, .ref a9, .ref a10, .long (jL mu), .long (jL md), .int (jI mo), .ref a11])), (a0, .inl (cA, 400, .inl (jA y0)))] := hD
                  refine lv_aload_n hx hb dXM_formula_127 rfl (lv_at hl 4 rfl) ?_
                  refine ji_bipush hx hb dXM_formula_128 (by decide) ?_
                  refine jwVi (rest := []) (wr := [(a8, .inl (cZ, 8, .inl (jA y8))), (a9, .inl (cA, 64, .inl (jA (jset w9 ((8 * (4 + r)) + r18) 1))))]) ⟨hx, hb, hml, hown, hts⟩ (c_XM_takesP l dC dI cA cZ _ ma a0 a1 a2 a3 a4 a5 a6 a7 a8 a9 a10 a11 mth mn mp1'30 mw1'20 mu md mo y0 43 (by first | assumption | omega) (by first | assumption | omega) (by first | assumption | omega) (by first | assumption | omega) (by first | assumption | omega)) (cwV 1 hts (jG_V tw_718 tw_720 ts_18 tw_6 tw_721) rfl rfl rfl (by decide +kernel) (by rw [hR]; exact ⟨Nat.le_of_ble_eq_true rfl, Nat.le_of_ble_eq_true rfl⟩)) hK hP hD hS hA hN [2, 3] [0, 1] rfl rfl (by decide) (by decide) (by decide) 2 5 rfl rfl rfl rfl hl.1 rfl (Nat.le_of_ble_eq_true rfl) dXM_formula_130 (by rw [hR]; exact ⟨Nat.le_of_ble_eq_true rfl, Nat.le_of_ble_eq_true rfl⟩) (fun v38 u37 H locs hwb39 hP hD hS => ?_)
                  obtain ⟨r35, mp1'36⟩ := u37
                  try dsimp only at hwb39
                  obtain ⟨er, hwb39, f40⟩ := hwb39
                  subst er
                  have f40 : (r35 = 0 ∧ mp1'30 ≤ mp1'36 ∧ mp1'36 ≤ mn) ∨ (r35 = 1 ∧ mp1'30 < mp1'36 ∧ mp1'36 ≤ mn ∧ mw1'20 < 0) := f40
                  have hP : va_P (dC, dI) vwCl [(a8, .inl (cZ, 8, .inl (jA y8))), (a9, .inl (cA, 64, .inl (jA (jset w9 ((8 * (4 + r)) + r18) 1)))), (ma, .inr (5, [.int (jI mth), .int (jI mn), .ref a0, .int (jI mp1'36), .int (jI mw1'20), .ref a1, .ref a2, .ref a3, .ref a4, .ref a5, .ref a6, .ref a7, .ref a8, .ref a9, .ref a10, .long (jL mu), .long (jL md), .int (jI mo), .ref a11])), (a0, .inl (cA, 400, .inl (jA y0)))] H := hP
                  have hD : va_D A [(a8, .inl (cZ, 8, .inl (jA y8))), (a9, .inl (cA, 64, .inl (jA (jset w9 ((8 * (4 + r)) + r18) 1)))), (ma, .inr (5, [.int (jI mth), .int (jI mn), .ref a0, .int (jI mp1'36), .int (jI mw1'20), .ref a1, .ref a2, .ref a3, .ref a4, .ref a5, .ref a6, .ref a7, .ref a8, .ref a9, .ref a10, .long (jL mu), .long (jL md), .int (jI mo), .ref a11])), (a0, .inl (cA, 400, .inl (jA y0)))] := hD
                  refine lv_istore_n (lv' := [(3, .int (jI r35)), (2, .int (jI ((jI mks ||| jI ((jI 1 <<< (jI r18 &&& 31)).toInt)).toInt))), (4, .int (jI r18)), (1, .int (jI (4 + r))), (0, .ref ma)]) hx hb dXM_formula_133 rfl hl (by decide) rfl (fun ls hl => ?_)
                  refine lv_goto (tgt := 56) hx hb dXM_formula_134 (by decide) ?_
                  exact ih56 ((jI mks ||| jI ((jI 1 <<< (jI r18 &&& 31)).toInt)).toInt) r35 mp1'36 mw1'20 (jset w9 ((8 * (4 + r)) + r18) 1) (by omega) (Eq.trans (by rw [f_XM_formulaP_L56_s]; rw [if_neg c57_]; rw [← hwb23]; try dsimp only; rw [if_neg (Int.not_lt.mpr c69_), if_pos c84_]; rw [← hwb33]; try dsimp only; rw [if_pos c112_]; rw [← hwb39]; try dsimp only; try rfl) hF) (by first | assumption | omega | exact jset_b (by assumption) (by omega) | exact jset_l (by assumption) (by omega) | exact jset_l (fun _ _ => rfl) (by omega) | exact fun _ _ => rfl | exact l_trans (by assumption) (by assumption)) (by first | assumption | omega | exact jset_b (by assumption) (by omega) | exact jset_l (by assumption) (by omega) | exact jset_l (fun _ _ => rfl) (by omega) | exact fun _ _ => rfl | exact l_trans (by assumption) (by assumption)) (by first | assumption | omega | exact jset_b (by assumption) (by omega) | exact jset_l (by assumption) (by omega) | exact jset_l (fun _ _ => rfl) (by omega) | exact fun _ _ => rfl | exact l_trans (by assumption) (by assumption)) (by first | assumption | omega | exact jset_b (by assumption) (by omega) | exact jset_l (by assumption) (by omega) | exact jset_l (fun _ _ => rfl) (by omega) | exact fun _ _ => rfl | exact l_trans (by assumption) (by assumption)) (by first | assumption | omega | exact jset_b (by assumption) (by omega) | exact jset_l (by assumption) (by omega) | exact jset_l (fun _ _ => rfl) (by omega) | exact fun _ _ => rfl | exact l_trans (by assumption) (by assumption)) (by first | assumption | omega | exact jset_b (by assumption) (by omega) | exact jset_l (by assumption) (by omega) | exact jset_l (fun _ _ => rfl) (by omega) | exact fun _ _ => rfl | exact l_trans (by assumption) (by assumption)) _ _ hP hD hS ls (lv_sub hl [0, 3, 4, 1] rfl)
                · refine lv_aload_n hx hb dXM_formula_115 rfl (lv_at hl 4 rfl) ?_
                  refine ji_iconst hx hb dXM_formula_116 ?_
                  refine ji_bipush hx hb dXM_formula_117 (by decide) ?_
                  refine jwVi (rest := [.int (jI ((8 * (4 + r)) + r18)), .ref a9]) (wr := [(a8, .inl (cZ, 8, .inl (jA y8))), (a9, .inl (cA, 64, .inl (jA w9)))]) ⟨hx, hb, hml, hown, hts⟩ (c_XM_numberP l dC dI cA cZ _ ma a0 a1 a2 a3 a4 a5 a6 a7 a8 a9 a10 a11 mth mn mp1'30 mw1'20 mu md mo y0 1 20 (by first | assumption | omega) (by first | assumption | omega) (by first | assumption | omega) (by first | assumption | omega) (by first | assumption | omega)) (cwV 2 hts (jG_V tw_726 tw_728 ts_20 tw_6 tw_729) rfl rfl rfl (by decide +kernel) (by rw [hR]; exact ⟨Nat.le_of_ble_eq_true rfl, Nat.le_of_ble_eq_true rfl⟩)) hK hP hD hS hA hN [2, 3] [0, 1] rfl rfl (by decide) (by decide) (by decide) 2 5 rfl rfl rfl rfl hl.1 rfl (Nat.le_of_ble_eq_true rfl) dXM_formula_119 (by rw [hR]; exact ⟨Nat.le_of_ble_eq_true rfl, Nat.le_of_ble_eq_true rfl⟩) (fun v45 u44 H locs hwb46 hP hD hS => ?_)
                  obtain ⟨r41, mp1'42, mw1'43⟩ := u44
                  try dsimp only at hwb46
                  obtain ⟨er, hwb46, f47, f48, f49, f50⟩ := hwb46
                  subst er
                  have f47 : 1 ≤ r41 ∧ r41 ≤ 20 := f47
                  have f48 : mp1'30 ≤ mp1'42 ∧ mp1'42 ≤ mn := f48
                  have f49 : -1 ≤ mw1'43 ∧ mw1'43 ≤ 400 ∧ mw1'20 ≤ mw1'43 := f49
                  have f50 : mw1'43 < 0 → mp1'30 < mp1'42 := f50
                  have hP : va_P (dC, dI) vwCl [(a8, .inl (cZ, 8, .inl (jA y8))), (a9, .inl (cA, 64, .inl (jA w9))), (ma, .inr (5, [.int (jI mth), .int (jI mn), .ref a0, .int (jI mp1'42), .int (jI mw1'43), .ref a1, .ref a2, .ref a3, .ref a4, .ref a5, .ref a6, .ref a7, .ref a8, .ref a9, .ref a10, .long (jL mu), .long (jL md), .int (jI mo), .ref a11])), (a0, .inl (cA, 400, .inl (jA y0)))] H := hP
                  have hD : va_D A [(a8, .inl (cZ, 8, .inl (jA y8))), (a9, .inl (cA, 64, .inl (jA w9))), (ma, .inr (5, [.int (jI mth), .int (jI mn), .ref a0, .int (jI mp1'42), .int (jI mw1'43), .ref a1, .ref a2, .ref a3, .ref a4, .ref a5, .ref a6, .ref a7, .ref a8, .ref a9, .ref a10, .long (jL mu), .long (jL md), .int (jI mo), .ref a11])), (a0, .inl (cA, 400, .inl (jA y0)))] := hD
                  refine lv_goto (tgt := 126) hx hb dXM_formula_122 (by decide) ?_
                  refine ji_iast hx hb hK hP hD hS 1 0 rfl rfl ⟨by omega, by omega⟩ (by decide) dXM_formula_126 (fun H locs hP hD hS => ?_)
                  have hP : va_P (dC, dI) vwCl [(a8, .inl (cZ, 8, .inl (jA y8))), (a9, .inl (cA, 64, .inl (jA (jset w9 ((8 * (4 + r)) + r18) r41)))), (ma, .inr (5, [.int (jI mth), .int (jI mn), .ref a0, .int (jI mp1'42), .int (jI mw1'43), .ref a1, .ref a2, .ref a3, .ref a4, .ref a5, .ref a6, .ref a7, .ref a8, .ref a9, .ref a10, .long (jL mu), .long (jL md), .int (jI mo), .ref a11])), (a0, .inl (cA, 400, .inl (jA y0)))] H := hP
                  have hD : va_D A [(a8, .inl (cZ, 8, .inl (jA y8))), (a9, .inl (cA, 64, .inl (jA (jset w9 ((8 * (4 + r)) + r18) r41)))), (ma, .inr (5, [.int (jI mth), .int (jI mn), .ref a0, .int (jI mp1'42), .int (jI mw1'43), .ref a1, .ref a2, .ref a3, .ref a4, .ref a5, .ref a6, .ref a7, .ref a8, .ref a9, .ref a10, .long (jL mu), .long (jL md), .int (jI mo), .ref a11])), (a0, .inl (cA, 400, .inl (jA y0)))] := hD
                  refine lv_aload_n hx hb dXM_formula_127 rfl (lv_at hl 4 rfl) ?_
                  refine ji_bipush hx hb dXM_formula_128 (by decide) ?_
                  refine jwVi (rest := []) (wr := [(a8, .inl (cZ, 8, .inl (jA y8))), (a9, .inl (cA, 64, .inl (jA (jset w9 ((8 * (4 + r)) + r18) r41))))]) ⟨hx, hb, hml, hown, hts⟩ (c_XM_takesP l dC dI cA cZ _ ma a0 a1 a2 a3 a4 a5 a6 a7 a8 a9 a10 a11 mth mn mp1'42 mw1'43 mu md mo y0 43 (by first | assumption | omega) (by first | assumption | omega) (by first | assumption | omega) (by first | assumption | omega) (by first | assumption | omega)) (cwV 1 hts (jG_V tw_718 tw_720 ts_18 tw_6 tw_721) rfl rfl rfl (by decide +kernel) (by rw [hR]; exact ⟨Nat.le_of_ble_eq_true rfl, Nat.le_of_ble_eq_true rfl⟩)) hK hP hD hS hA hN [2, 3] [0, 1] rfl rfl (by decide) (by decide) (by decide) 2 5 rfl rfl rfl rfl hl.1 rfl (Nat.le_of_ble_eq_true rfl) dXM_formula_130 (by rw [hR]; exact ⟨Nat.le_of_ble_eq_true rfl, Nat.le_of_ble_eq_true rfl⟩) (fun v54 u53 H locs hwb55 hP hD hS => ?_)
                  obtain ⟨r51, mp1'52⟩ := u53
                  try dsimp only at hwb55
                  obtain ⟨er, hwb55, f56⟩ := hwb55
                  subst er
                  have f56 : (r51 = 0 ∧ mp1'42 ≤ mp1'52 ∧ mp1'52 ≤ mn) ∨ (r51 = 1 ∧ mp1'42 < mp1'52 ∧ mp1'52 ≤ mn ∧ mw1'43 < 0) := f56
                  have hP : va_P (dC, dI) vwCl [(a8, .inl (cZ, 8, .inl (jA y8))), (a9, .inl (cA, 64, .inl (jA (jset w9 ((8 * (4 + r)) + r18) r41)))), (ma, .inr (5, [.int (jI mth), .int (jI mn), .ref a0, .int (jI mp1'52), .int (jI mw1'43), .ref a1, .ref a2, .ref a3, .ref a4, .ref a5, .ref a6, .ref a7, .ref a8, .ref a9, .ref a10, .long (jL mu), .long (jL md), .int (jI mo), .ref a11])), (a0, .inl (cA, 400, .inl (jA y0)))] H := hP
                  have hD : va_D A [(a8, .inl (cZ, 8, .inl (jA y8))), (a9, .inl (cA, 64, .inl (jA (jset w9 ((8 * (4 + r)) + r18) r41)))), (ma, .inr (5, [.int (jI mth), .int (jI mn), .ref a0, .int (jI mp1'52), .int (jI mw1'43), .ref a1, .ref a2, .ref a3, .ref a4, .ref a5, .ref a6, .ref a7, .ref a8, .ref a9, .ref a10, .long (jL mu), .long (jL md), .int (jI mo), .ref a11])), (a0, .inl (cA, 400, .inl (jA y0)))] := hD
                  refine lv_istore_n (lv' := [(3, .int (jI r51)), (2, .int (jI ((jI mks ||| jI ((jI 1 <<< (jI r18 &&& 31)).toInt)).toInt))), (4, .int (jI r18)), (1, .int (jI (4 + r))), (0, .ref ma)]) hx hb dXM_formula_133 rfl hl (by decide) rfl (fun ls hl => ?_)
                  refine lv_goto (tgt := 56) hx hb dXM_formula_134 (by decide) ?_
                  exact ih56 ((jI mks ||| jI ((jI 1 <<< (jI r18 &&& 31)).toInt)).toInt) r51 mp1'52 mw1'43 (jset w9 ((8 * (4 + r)) + r18) r41) (by omega) (Eq.trans (by rw [f_XM_formulaP_L56_s]; rw [if_neg c57_]; rw [← hwb23]; try dsimp only; rw [if_neg (Int.not_lt.mpr c69_), if_pos c84_]; rw [← hwb33]; try dsimp only; rw [if_neg c112_]; rw [← hwb46]; try dsimp only; rw [← hwb55]; try dsimp only; try rfl) hF) (by first | assumption | omega | exact jset_b (by assumption) (by omega) | exact jset_l (by assumption) (by omega) | exact jset_l (fun _ _ => rfl) (by omega) | exact fun _ _ => rfl | exact l_trans (by assumption) (by assumption)) (by first | assumption | omega | exact jset_b (by assumption) (by omega) | exact jset_l (by assumption) (by omega) | exact jset_l (fun _ _ => rfl) (by omega) | exact fun _ _ => rfl | exact l_trans (by assumption) (by assumption)) (by first | assumption | omega | exact jset_b (by assumption) (by omega) | exact jset_l (by assumption) (by omega) | exact jset_l (fun _ _ => rfl) (by omega) | exact fun _ _ => rfl | exact l_trans (by assumption) (by assumption)) (by first | assumption | omega | exact jset_b (by assumption) (by omega) | exact jset_l (by assumption) (by omega) | exact jset_l (fun _ _ => rfl) (by omega) | exact fun _ _ => rfl | exact l_trans (by assumption) (by assumption)) (by first | assumption | omega | exact jset_b (by assumption) (by omega) | exact jset_l (by assumption) (by omega) | exact jset_l (fun _ _ => rfl) (by omega) | exact fun _ _ => rfl | exact l_trans (by assumption) (by assumption)) (by first | assumption | omega | exact jset_b (by assumption) (by omega) | exact jset_l (by assumption) (by omega) | exact jset_l (fun _ _ => rfl) (by omega) | exact fun _ _ => rfl | exact l_trans (by assumption) (by assumption)) _ _ hP hD hS ls (lv_sub hl [0, 3, 4, 1] rfl)
              · have hP9 := hP.sub (ws' := [(ma, .inr (5, [.int (jI mth), .int (jI mn), .ref a0, .int (jI mp1'19), .int (jI mw1'20), .ref a1, .ref a2, .ref a3, .ref a4, .ref a5, .ref a6, .ref a7, .ref a8, .ref a9, .ref a10, .long (jL mu), .long (jL md), .int (jI mo), .ref a11])), (a0, .inl (cA, 400, .inl (jA y0))), (a8, .inl (cZ, 8, .inl (jA y8))), (a9, .inl (cA, 64, .inl (jA w9)))]) [2, 3, 0, 1] rfl
                have hD9 := hD.sub (ws' := [(ma, .inr (5, [.int (jI mth), .int (jI mn), .ref a0, .int (jI mp1'19), .int (jI mw1'20), .ref a1, .ref a2, .ref a3, .ref a4, .ref a5, .ref a6, .ref a7, .ref a8, .ref a9, .ref a10, .long (jL mu), .long (jL md), .int (jI mo), .ref a11])), (a0, .inl (cA, 400, .inl (jA y0))), (a8, .inl (cZ, 8, .inl (jA y8))), (a9, .inl (cA, 64, .inl (jA w9)))]) [2, 3, 0, 1] (by decide) rfl
                subst hAe
                subst hQ
                exact W.vret hx hb hr (fun t ht hW => ⟨⟨(mp1'19, mw1'20, y8, w9), rfl, ⟨Eq.trans (by rw [f_XM_formulaP_L56_s]; rw [if_neg c57_]; rw [← hwb23]; try dsimp only; rw [if_neg (Int.not_lt.mpr c69_), if_neg (Int.not_lt.mpr c84_)]; try rfl) hF, show mp ≤ mp1'19 ∧ mp1'19 ≤ mn from by first | assumption | omega | exact jset_b (by assumption) (by omega) | exact jset_l (by assumption) (by omega) | exact jset_l (fun _ _ => rfl) (by omega) | exact fun _ _ => rfl | exact l_trans (by assumption) (by assumption), show -1 ≤ mw1'20 ∧ mw1'20 ≤ 400 ∧ mw ≤ mw1'20 from by first | assumption | omega | exact jset_b (by assumption) (by omega) | exact jset_l (by assumption) (by omega) | exact jset_l (fun _ _ => rfl) (by omega) | exact fun _ _ => rfl | exact l_trans (by assumption) (by assumption), show ∀ i, 0 ≤ y8 i ∧ y8 i ≤ 1 from by first | assumption | omega | exact jset_b (by assumption) (by omega) | exact jset_l (by assumption) (by omega) | exact jset_l (fun _ _ => rfl) (by omega) | exact fun _ _ => rfl | exact l_trans (by assumption) (by assumption), show ∀ i, 0 ≤ w9 i ∧ w9 i ≤ 20 from by first | assumption | omega | exact jset_b (by assumption) (by omega) | exact jset_l (by assumption) (by omega) | exact jset_l (fun _ _ => rfl) (by omega) | exact fun _ _ => rfl | exact l_trans (by assumption) (by assumption), show ∀ i, i < 4 → y8 i = y8 i from by first | assumption | omega | exact jset_b (by assumption) (by omega) | exact jset_l (by assumption) (by omega) | exact jset_l (fun _ _ => rfl) (by omega) | exact fun _ _ => rfl | exact l_trans (by assumption) (by assumption), show ∀ i, i < 32 → w9 i = y9 i from by first | assumption | omega | exact jset_b (by assumption) (by omega) | exact jset_l (by assumption) (by omega) | exact jset_l (fun _ _ => rfl) (by omega) | exact fun _ _ => rfl | exact l_trans (by assumption) (by assumption)⟩, ⟨by rw [ht]; exact hP9, va_K.moved hW.alike hK, hD9⟩⟩, hS.F ht⟩) hS.2.2 dXM_formula_87
            · refine lv_aload_n hx hb dXM_formula_72 rfl (lv_at hl 3 rfl) ?_
              refine lv_aload_n hx hb dXM_formula_73 rfl (lv_at hl 3 rfl) ?_
              refine va_get (D := (dC, dI)) (ci := 5) (v := .int (jI mp1'19)) (C := RXM) (T := TXM) (N := 19) hx hb hts (fun w h => jmem (inXM w h)) hown hK hP 2 rfl rfl 3 (by decide) (hts _ (jmem tw_631)) (fun _ h9 => h9) rfl dXM_formula_74 ?_
              refine jwVv (rest := []) (wr := [(a8, .inl (cZ, 8, .inl (jA y8))), (a9, .inl (cA, 64, .inl (jA w9))), (a0, .inl (cA, 400, .inl (jA y0)))]) ⟨hx, hb, hml, hown, hts⟩ (c_XM_failP l dC dI cA cZ _ ma a0 a1 a2 a3 a4 a5 a6 a7 a8 a9 a10 a11 mth mn mp1'19 mw1'20 mu md mo mp1'19 (by first | assumption | omega) (by first | assumption | omega)) (cwV 1 hts (jG_V tw_734 tw_736 ts_22 tw_6 tw_737) rfl rfl rfl (by decide +kernel) (by rw [hR]; exact ⟨Nat.le_of_ble_eq_true rfl, Nat.le_of_ble_eq_true rfl⟩)) hK hP hD hS hA hN [2] [0, 1, 3] rfl rfl (by decide) (by decide) (by decide) 2 5 rfl rfl rfl rfl hl.1 rfl (Nat.le_of_ble_eq_true rfl) dXM_formula_77 (by rw [hR]; exact ⟨Nat.le_of_ble_eq_true rfl, Nat.le_of_ble_eq_true rfl⟩) (fun u57 H locs hw hP hD hS => ?_)
              obtain ⟨hw, f58⟩ := hw
              subst hw
              have f58 : (0 ≤ mw1'20 ∧ (f_XM_failP mth mn mp1'19 mw1'20 mu md mo mp1'19) = mw1'20) ∨ (mw1'20 < 0 ∧ (f_XM_failP mth mn mp1'19 mw1'20 mu md mo mp1'19) = mp1'19) := f58
              have hP : va_P (dC, dI) vwCl [(a8, .inl (cZ, 8, .inl (jA y8))), (a9, .inl (cA, 64, .inl (jA w9))), (a0, .inl (cA, 400, .inl (jA y0))), (ma, .inr (5, [.int (jI mth), .int (jI mn), .ref a0, .int (jI mp1'19), .int (jI (f_XM_failP mth mn mp1'19 mw1'20 mu md mo mp1'19)), .ref a1, .ref a2, .ref a3, .ref a4, .ref a5, .ref a6, .ref a7, .ref a8, .ref a9, .ref a10, .long (jL mu), .long (jL md), .int (jI mo), .ref a11]))] H := hP
              have hD : va_D A [(a8, .inl (cZ, 8, .inl (jA y8))), (a9, .inl (cA, 64, .inl (jA w9))), (a0, .inl (cA, 400, .inl (jA y0))), (ma, .inr (5, [.int (jI mth), .int (jI mn), .ref a0, .int (jI mp1'19), .int (jI (f_XM_failP mth mn mp1'19 mw1'20 mu md mo mp1'19)), .ref a1, .ref a2, .ref a3, .ref a4, .ref a5, .ref a6, .ref a7, .ref a8, .ref a9, .ref a10, .long (jL mu), .long (jL md), .int (jI mo), .ref a11]))] := hD
              refine lv_aload_n hx hb dXM_formula_80 rfl (lv_at hl 3 rfl) ?_
              refine va_get (D := (dC, dI)) (ci := 5) (v := .int (jI (f_XM_failP mth mn mp1'19 mw1'20 mu md mo mp1'19))) (C := RXM) (T := TXM) (N := 19) hx hb hts (fun w h => jmem (inXM w h)) hown hK hP 3 rfl rfl 4 (by decide) (hts _ (jmem tw_632)) (fun _ h9 => h9) rfl dXM_formula_81 ?_
              refine ji_if_lt (tgt := 88) hx hb dXM_formula_84 (by decide) (by omega) (fun c84_59 => ?_) (fun c84_59 => ?_)
              · refine lv_iload_n hx hb dXM_formula_88 rfl (lv_at hl 4 rfl) ?_
                refine ji_iconst hx hb dXM_formula_89 ?_
                refine lv_iload hx hb dXM_formula_90 (lv_at hl 0 rfl) ?_
                refine lv_ishl hx hb dXM_formula_92 ?_
                refine ji_rev ?_
                have rb60 := jti32 (jI 1 <<< (jI r18 &&& 31))
                refine lv_ior hx hb dXM_formula_93 ?_
                refine ji_rev ?_
                have rb61 := jti32 (jI mks ||| jI ((jI 1 <<< (jI r18 &&& 31)).toInt))
                refine lv_istore_n (lv' := [(2, .int (jI ((jI mks ||| jI ((jI 1 <<< (jI r18 &&& 31)).toInt)).toInt))), (4, .int (jI r18)), (3, .int (jI jm2)), (1, .int (jI (4 + r))), (0, .ref ma)]) hx hb dXM_formula_94 rfl hl (by decide) rfl (fun ls hl => ?_)
                refine lv_aload_n hx hb dXM_formula_95 rfl (lv_at hl 4 rfl) ?_
                refine va_get (D := (dC, dI)) (ci := 5) (v := .ref a9) (C := RXM) (T := TXM) (N := 19) hx hb hts (fun w h => jmem (inXM w h)) hown hK hP 3 rfl rfl 13 (by decide) (hts _ (jmem tw_641)) (fun _ h9 => h9) rfl dXM_formula_96 ?_
                refine ji_bipush hx hb dXM_formula_99 (by decide) ?_
                refine lv_iload_n hx hb dXM_formula_101 rfl (lv_at hl 3 rfl) ?_
                refine ji_imul hx hb dXM_formula_102 ?_
                refine lv_iload hx hb dXM_formula_103 (lv_at hl 1 rfl) ?_
                refine ji_iadd hx hb dXM_formula_105 ?_
                refine lv_aload_n hx hb dXM_formula_106 rfl (lv_at hl 4 rfl) ?_
                refine ji_bipush hx hb dXM_formula_107 (by decide) ?_
                refine jwVi (rest := [.int (jI ((8 * (4 + r)) + r18)), .ref a9]) (wr := [(a8, .inl (cZ, 8, .inl (jA y8))), (a9, .inl (cA, 64, .inl (jA w9)))]) ⟨hx, hb, hml, hown, hts⟩ (c_XM_takesP l dC dI cA cZ _ ma a0 a1 a2 a3 a4 a5 a6 a7 a8 a9 a10 a11 mth mn mp1'19 (f_XM_failP mth mn mp1'19 mw1'20 mu md mo mp1'19) mu md mo y0 47 (by first | assumption | omega) (by first | assumption | omega) (by first | assumption | omega) (by first | assumption | omega) (by first | assumption | omega)) (cwV 1 hts (jG_V tw_718 tw_720 ts_18 tw_6 tw_721) rfl rfl rfl (by decide +kernel) (by rw [hR]; exact ⟨Nat.le_of_ble_eq_true rfl, Nat.le_of_ble_eq_true rfl⟩)) hK hP hD hS hA hN [3, 2] [0, 1] rfl rfl (by decide) (by decide) (by decide) 3 5 rfl rfl rfl rfl hl.1 rfl (Nat.le_of_ble_eq_true rfl) dXM_formula_109 (by rw [hR]; exact ⟨Nat.le_of_ble_eq_true rfl, Nat.le_of_ble_eq_true rfl⟩) (fun v65 u64 H locs hwb66 hP hD hS => ?_)
                obtain ⟨r62, mp1'63⟩ := u64
                try dsimp only at hwb66
                obtain ⟨er, hwb66, f67⟩ := hwb66
                subst er
                have f67 : (r62 = 0 ∧ mp1'19 ≤ mp1'63 ∧ mp1'63 ≤ mn) ∨ (r62 = 1 ∧ mp1'19 < mp1'63 ∧ mp1'63 ≤ mn ∧ (f_XM_failP mth mn mp1'19 mw1'20 mu md mo mp1'19) < 0) := f67
                have hP : va_P (dC, dI) vwCl [(a8, .inl (cZ, 8, .inl (jA y8))), (a9, .inl (cA, 64, .inl (jA w9))), (ma, .inr (5, [.int (jI mth), .int (jI mn), .ref a0, .int (jI mp1'63), .int (jI (f_XM_failP mth mn mp1'19 mw1'20 mu md mo mp1'19)), .ref a1, .ref a2, .ref a3, .ref a4, .ref a5, .ref a6, .ref a7, .ref a8, .ref a9, .ref a10, .long (jL mu), .long (jL md), .int (jI mo), .ref a11])), (a0, .inl (cA, 400, .inl (jA y0)))] H := hP
                have hD : va_D A [(a8, .inl (cZ, 8, .inl (jA y8))), (a9, .inl (cA, 64, .inl (jA w9))), (ma, .inr (5, [.int (jI mth), .int (jI mn), .ref a0, .int (jI mp1'63), .int (jI (f_XM_failP mth mn mp1'19 mw1'20 mu md mo mp1'19)), .ref a1, .ref a2, .ref a3, .ref a4, .ref a5, .ref a6, .ref a7, .ref a8, .ref a9, .ref a10, .long (jL mu), .long (jL md), .int (jI mo), .ref a11])), (a0, .inl (cA, 400, .inl (jA y0)))] := hD
                refine ji_if_eq (tgt := 125) hx hb dXM_formula_112 (by decide) (by omega) (fun c112_68 => ?_) (fun c112_68 => ?_)
                · refine ji_iconst hx hb dXM_formula_125 ?_
                  refine ji_iast hx hb hK hP hD hS 1 0 rfl rfl ⟨by omega, by omega⟩ (by decide) dXM_formula_126 (fun H locs hP hD hS => ?_)
                  have hP : va_P (dC, dI) vwCl [(a8, .inl (cZ, 8, .inl (jA y8))), (a9, .inl (cA, 64, .inl (jA (jset w9 ((8 * (4 + r)) + r18) 1)))), (ma, .inr (5, [.int (jI mth), .int (jI mn), .ref a0, .int (jI mp1'63), .int (jI (f_XM_failP mth mn mp1'19 mw1'20 mu md mo mp1'19)), .ref a1, .ref a2, .ref a3, .ref a4, .ref a5, .ref a6, .ref a7, .ref a8, .ref a9, .ref a10, .long (jL mu), .long (jL md), .int (jI mo), .ref a11])), (a0, .inl (cA, 400, .inl (jA y0)))] H := hP
                  have hD : va_D A [(a8, .inl (cZ, 8, .inl (jA y8))), (a9, .inl (cA, 64, .inl (jA (jset w9 ((8 * (4 + r)) + r18) 1)))), (ma, .inr (5, [.int (jI mth), .int (jI mn), .ref a0, .int (jI mp1'63), .int (jI (f_XM_failP mth mn mp1'19 mw1'20 mu md mo mp1'19)), .ref a1, .ref a2, .ref a3, .ref a4, .ref a5, .ref a6, .ref a7, .ref a8, .ref a9, .ref a10, .long (jL mu), .long (jL md), .int (jI mo), .ref a11])), (a0, .inl (cA, 400, .inl (jA y0)))] := hD
                  refine lv_aload_n hx hb dXM_formula_127 rfl (lv_at hl 4 rfl) ?_
                  refine ji_bipush hx hb dXM_formula_128 (by decide) ?_
                  refine jwVi (rest := []) (wr := [(a8, .inl (cZ, 8, .inl (jA y8))), (a9, .inl (cA, 64, .inl (jA (jset w9 ((8 * (4 + r)) + r18) 1))))]) ⟨hx, hb, hml, hown, hts⟩ (c_XM_takesP l dC dI cA cZ _ ma a0 a1 a2 a3 a4 a5 a6 a7 a8 a9 a10 a11 mth mn mp1'63 (f_XM_failP mth mn mp1'19 mw1'20 mu md mo mp1'19) mu md mo y0 43 (by first | assumption | omega) (by first | assumption | omega) (by first | assumption | omega) (by first | assumption | omega) (by first | assumption | omega)) (cwV 1 hts (jG_V tw_718 tw_720 ts_18 tw_6 tw_721) rfl rfl rfl (by decide +kernel) (by rw [hR]; exact ⟨Nat.le_of_ble_eq_true rfl, Nat.le_of_ble_eq_true rfl⟩)) hK hP hD hS hA hN [2, 3] [0, 1] rfl rfl (by decide) (by decide) (by decide) 2 5 rfl rfl rfl rfl hl.1 rfl (Nat.le_of_ble_eq_true rfl) dXM_formula_130 (by rw [hR]; exact ⟨Nat.le_of_ble_eq_true rfl, Nat.le_of_ble_eq_true rfl⟩) (fun v72 u71 H locs hwb73 hP hD hS => ?_)
                  obtain ⟨r69, mp1'70⟩ := u71
                  try dsimp only at hwb73
                  obtain ⟨er, hwb73, f74⟩ := hwb73
                  subst er
                  have f74 : (r69 = 0 ∧ mp1'63 ≤ mp1'70 ∧ mp1'70 ≤ mn) ∨ (r69 = 1 ∧ mp1'63 < mp1'70 ∧ mp1'70 ≤ mn ∧ (f_XM_failP mth mn mp1'19 mw1'20 mu md mo mp1'19) < 0) := f74
                  have hP : va_P (dC, dI) vwCl [(a8, .inl (cZ, 8, .inl (jA y8))), (a9, .inl (cA, 64, .inl (jA (jset w9 ((8 * (4 + r)) + r18) 1)))), (ma, .inr (5, [.int (jI mth), .int (jI mn), .ref a0, .int (jI mp1'70), .int (jI (f_XM_failP mth mn mp1'19 mw1'20 mu md mo mp1'19)), .ref a1, .ref a2, .ref a3, .ref a4, .ref a5, .ref a6, .ref a7, .ref a8, .ref a9, .ref a10, .long (jL mu), .long (jL md), .int (jI mo), .ref a11])), (a0, .inl (cA, 400, .inl (jA y0)))] H := hP
                  have hD : va_D A [(a8, .inl (cZ, 8, .inl (jA y8))), (a9, .inl (cA, 64, .inl (jA (jset w9 ((8 * (4 + r)) + r18) 1)))), (ma, .inr (5, [.int (jI mth), .int (jI mn), .ref a0, .int (jI mp1'70), .int (jI (f_XM_failP mth mn mp1'19 mw1'20 mu md mo mp1'19)), .ref a1, .ref a2, .ref a3, .ref a4, .ref a5, .ref a6, .ref a7, .ref a8, .ref a9, .ref a10, .long (jL mu), .long (jL md), .int (jI mo), .ref a11])), (a0, .inl (cA, 400, .inl (jA y0)))] := hD
                  refine lv_istore_n (lv' := [(3, .int (jI r69)), (2, .int (jI ((jI mks ||| jI ((jI 1 <<< (jI r18 &&& 31)).toInt)).toInt))), (4, .int (jI r18)), (1, .int (jI (4 + r))), (0, .ref ma)]) hx hb dXM_formula_133 rfl hl (by decide) rfl (fun ls hl => ?_)
                  refine lv_goto (tgt := 56) hx hb dXM_formula_134 (by decide) ?_
                  exact ih56 ((jI mks ||| jI ((jI 1 <<< (jI r18 &&& 31)).toInt)).toInt) r69 mp1'70 (f_XM_failP mth mn mp1'19 mw1'20 mu md mo mp1'19) (jset w9 ((8 * (4 + r)) + r18) 1) (by omega) (Eq.trans (by rw [f_XM_formulaP_L56_s]; rw [if_neg c57_]; rw [← hwb23]; try dsimp only; rw [if_pos c69_, if_pos c84_59]; rw [← hwb66]; try dsimp only; rw [if_pos c112_68]; rw [← hwb73]; try dsimp only; try rfl) hF) (by first | assumption | omega | exact jset_b (by assumption) (by omega) | exact jset_l (by assumption) (by omega) | exact jset_l (fun _ _ => rfl) (by omega) | exact fun _ _ => rfl | exact l_trans (by assumption) (by assumption)) (by first | assumption | omega | exact jset_b (by assumption) (by omega) | exact jset_l (by assumption) (by omega) | exact jset_l (fun _ _ => rfl) (by omega) | exact fun _ _ => rfl | exact l_trans (by assumption) (by assumption)) (by first | assumption | omega | exact jset_b (by assumption) (by omega) | exact jset_l (by assumption) (by omega) | exact jset_l (fun _ _ => rfl) (by omega) | exact fun _ _ => rfl | exact l_trans (by assumption) (by assumption)) (by first | assumption | omega | exact jset_b (by assumption) (by omega) | exact jset_l (by assumption) (by omega) | exact jset_l (fun _ _ => rfl) (by omega) | exact fun _ _ => rfl | exact l_trans (by assumption) (by assumption)) (by first | assumption | omega | exact jset_b (by assumption) (by omega) | exact jset_l (by assumption) (by omega) | exact jset_l (fun _ _ => rfl) (by omega) | exact fun _ _ => rfl | exact l_trans (by assumption) (by assumption)) (by first | assumption | omega | exact jset_b (by assumption) (by omega) | exact jset_l (by assumption) (by omega) | exact jset_l (fun _ _ => rfl) (by omega) | exact fun _ _ => rfl | exact l_trans (by assumption) (by assumption)) _ _ hP hD hS ls (lv_sub hl [0, 3, 4, 1] rfl)
                · refine lv_aload_n hx hb dXM_formula_115 rfl (lv_at hl 4 rfl) ?_
                  refine ji_iconst hx hb dXM_formula_116 ?_
                  refine ji_bipush hx hb dXM_formula_117 (by decide) ?_
                  refine jwVi (rest := [.int (jI ((8 * (4 + r)) + r18)), .ref a9]) (wr := [(a8, .inl (cZ, 8, .inl (jA y8))), (a9, .inl (cA, 64, .inl (jA w9)))]) ⟨hx, hb, hml, hown, hts⟩ (c_XM_numberP l dC dI cA cZ _ ma a0 a1 a2 a3 a4 a5 a6 a7 a8 a9 a10 a11 mth mn mp1'63 (f_XM_failP mth mn mp1'19 mw1'20 mu md mo mp1'19) mu md mo y0 1 20 (by first | assumption | omega) (by first | assumption | omega) (by first | assumption | omega) (by first | assumption | omega) (by first | assumption | omega)) (cwV 2 hts (jG_V tw_726 tw_728 ts_20 tw_6 tw_729) rfl rfl rfl (by decide +kernel) (by rw [hR]; exact ⟨Nat.le_of_ble_eq_true rfl, Nat.le_of_ble_eq_true rfl⟩)) hK hP hD hS hA hN [2, 3] [0, 1] rfl rfl (by decide) (by decide) (by decide) 2 5 rfl rfl rfl rfl hl.1 rfl (Nat.le_of_ble_eq_true rfl) dXM_formula_119 (by rw [hR]; exact ⟨Nat.le_of_ble_eq_true rfl, Nat.le_of_ble_eq_true rfl⟩) (fun v79 u78 H locs hwb80 hP hD hS => ?_)
                  obtain ⟨r75, mp1'76, mw1'77⟩ := u78
                  try dsimp only at hwb80
                  obtain ⟨er, hwb80, f81, f82, f83, f84⟩ := hwb80
                  subst er
                  have f81 : 1 ≤ r75 ∧ r75 ≤ 20 := f81
                  have f82 : mp1'63 ≤ mp1'76 ∧ mp1'76 ≤ mn := f82
                  have f83 : -1 ≤ mw1'77 ∧ mw1'77 ≤ 400 ∧ (f_XM_failP mth mn mp1'19 mw1'20 mu md mo mp1'19) ≤ mw1'77 := f83
                  have f84 : mw1'77 < 0 → mp1'63 < mp1'76 := f84
                  have hP : va_P (dC, dI) vwCl [(a8, .inl (cZ, 8, .inl (jA y8))), (a9, .inl (cA, 64, .inl (jA w9))), (ma, .inr (5, [.int (jI mth), .int (jI mn), .ref a0, .int (jI mp1'76), .int (jI mw1'77), .ref a1, .ref a2, .ref a3, .ref a4, .ref a5, .ref a6, .ref a7, .ref a8, .ref a9, .ref a10, .long (jL mu), .long (jL md), .int (jI mo), .ref a11])), (a0, .inl (cA, 400, .inl (jA y0)))] H := hP
                  have hD : va_D A [(a8, .inl (cZ, 8, .inl (jA y8))), (a9, .inl (cA, 64, .inl (jA w9))), (ma, .inr (5, [.int (jI mth), .int (jI mn), .ref a0, .int (jI mp1'76), .int (jI mw1'77), .ref a1, .ref a2, .ref a3, .ref a4, .ref a5, .ref a6, .ref a7, .ref a8, .ref a9, .ref a10, .long (jL mu), .long (jL md), .int (jI mo), .ref a11])), (a0, .inl (cA, 400, .inl (jA y0)))] := hD
                  refine lv_goto (tgt := 126) hx hb dXM_formula_122 (by decide) ?_
                  refine ji_iast hx hb hK hP hD hS 1 0 rfl rfl ⟨by omega, by omega⟩ (by decide) dXM_formula_126 (fun H locs hP hD hS => ?_)
                  have hP : va_P (dC, dI) vwCl [(a8, .inl (cZ, 8, .inl (jA y8))), (a9, .inl (cA, 64, .inl (jA (jset w9 ((8 * (4 + r)) + r18) r75)))), (ma, .inr (5, [.int (jI mth), .int (jI mn), .ref a0, .int (jI mp1'76), .int (jI mw1'77), .ref a1, .ref a2, .ref a3, .ref a4, .ref a5, .ref a6, .ref a7, .ref a8, .ref a9, .ref a10, .long (jL mu), .long (jL md), .int (jI mo), .ref a11])), (a0, .inl (cA, 400, .inl (jA y0)))] H := hP
                  have hD : va_D A [(a8, .inl (cZ, 8, .inl (jA y8))), (a9, .inl (cA, 64, .inl (jA (jset w9 ((8 * (4 + r)) + r18) r75)))), (ma, .inr (5, [.int (jI mth), .int (jI mn), .ref a0, .int (jI mp1'76), .int (jI mw1'77), .ref a1, .ref a2, .ref a3, .ref a4, .ref a5, .ref a6, .ref a7, .ref a8, .ref a9, .ref a10, .long (jL mu), .long (jL md), .int (jI mo), .ref a11])), (a0, .inl (cA, 400, .inl (jA y0)))] := hD
                  refine lv_aload_n hx hb dXM_formula_127 rfl (lv_at hl 4 rfl) ?_
                  refine ji_bipush hx hb dXM_formula_128 (by decide) ?_
                  refine jwVi (rest := []) (wr := [(a8, .inl (cZ, 8, .inl (jA y8))), (a9, .inl (cA, 64, .inl (jA (jset w9 ((8 * (4 + r)) + r18) r75))))]) ⟨hx, hb, hml, hown, hts⟩ (c_XM_takesP l dC dI cA cZ _ ma a0 a1 a2 a3 a4 a5 a6 a7 a8 a9 a10 a11 mth mn mp1'76 mw1'77 mu md mo y0 43 (by first | assumption | omega) (by first | assumption | omega) (by first | assumption | omega) (by first | assumption | omega) (by first | assumption | omega)) (cwV 1 hts (jG_V tw_718 tw_720 ts_18 tw_6 tw_721) rfl rfl rfl (by decide +kernel) (by rw [hR]; exact ⟨Nat.le_of_ble_eq_true rfl, Nat.le_of_ble_eq_true rfl⟩)) hK hP hD hS hA hN [2, 3] [0, 1] rfl rfl (by decide) (by decide) (by decide) 2 5 rfl rfl rfl rfl hl.1 rfl (Nat.le_of_ble_eq_true rfl) dXM_formula_130 (by rw [hR]; exact ⟨Nat.le_of_ble_eq_true rfl, Nat.le_of_ble_eq_true rfl⟩) (fun v88 u87 H locs hwb89 hP hD hS => ?_)
                  obtain ⟨r85, mp1'86⟩ := u87
                  try dsimp only at hwb89
                  obtain ⟨er, hwb89, f90⟩ := hwb89
                  subst er
                  have f90 : (r85 = 0 ∧ mp1'76 ≤ mp1'86 ∧ mp1'86 ≤ mn) ∨ (r85 = 1 ∧ mp1'76 < mp1'86 ∧ mp1'86 ≤ mn ∧ mw1'77 < 0) := f90
                  have hP : va_P (dC, dI) vwCl [(a8, .inl (cZ, 8, .inl (jA y8))), (a9, .inl (cA, 64, .inl (jA (jset w9 ((8 * (4 + r)) + r18) r75)))), (ma, .inr (5, [.int (jI mth), .int (jI mn), .ref a0, .int (jI mp1'86), .int (jI mw1'77), .ref a1, .ref a2, .ref a3, .ref a4, .ref a5, .ref a6, .ref a7, .ref a8, .ref a9, .ref a10, .long (jL mu), .long (jL md), .int (jI mo), .ref a11])), (a0, .inl (cA, 400, .inl (jA y0)))] H := hP
                  have hD : va_D A [(a8, .inl (cZ, 8, .inl (jA y8))), (a9, .inl (cA, 64, .inl (jA (jset w9 ((8 * (4 + r)) + r18) r75)))), (ma, .inr (5, [.int (jI mth), .int (jI mn), .ref a0, .int (jI mp1'86), .int (jI mw1'77), .ref a1, .ref a2, .ref a3, .ref a4, .ref a5, .ref a6, .ref a7, .ref a8, .ref a9, .ref a10, .long (jL mu), .long (jL md), .int (jI mo), .ref a11])), (a0, .inl (cA, 400, .inl (jA y0)))] := hD
                  refine lv_istore_n (lv' := [(3, .int (jI r85)), (2, .int (jI ((jI mks ||| jI ((jI 1 <<< (jI r18 &&& 31)).toInt)).toInt))), (4, .int (jI r18)), (1, .int (jI (4 + r))), (0, .ref ma)]) hx hb dXM_formula_133 rfl hl (by decide) rfl (fun ls hl => ?_)
                  refine lv_goto (tgt := 56) hx hb dXM_formula_134 (by decide) ?_
                  exact ih56 ((jI mks ||| jI ((jI 1 <<< (jI r18 &&& 31)).toInt)).toInt) r85 mp1'86 mw1'77 (jset w9 ((8 * (4 + r)) + r18) r75) (by omega) (Eq.trans (by rw [f_XM_formulaP_L56_s]; rw [if_neg c57_]; rw [← hwb23]; try dsimp only; rw [if_pos c69_, if_pos c84_59]; rw [← hwb66]; try dsimp only; rw [if_neg c112_68]; rw [← hwb80]; try dsimp only; rw [← hwb89]; try dsimp only; try rfl) hF) (by first | assumption | omega | exact jset_b (by assumption) (by omega) | exact jset_l (by assumption) (by omega) | exact jset_l (fun _ _ => rfl) (by omega) | exact fun _ _ => rfl | exact l_trans (by assumption) (by assumption)) (by first | assumption | omega | exact jset_b (by assumption) (by omega) | exact jset_l (by assumption) (by omega) | exact jset_l (fun _ _ => rfl) (by omega) | exact fun _ _ => rfl | exact l_trans (by assumption) (by assumption)) (by first | assumption | omega | exact jset_b (by assumption) (by omega) | exact jset_l (by assumption) (by omega) | exact jset_l (fun _ _ => rfl) (by omega) | exact fun _ _ => rfl | exact l_trans (by assumption) (by assumption)) (by first | assumption | omega | exact jset_b (by assumption) (by omega) | exact jset_l (by assumption) (by omega) | exact jset_l (fun _ _ => rfl) (by omega) | exact fun _ _ => rfl | exact l_trans (by assumption) (by assumption)) (by first | assumption | omega | exact jset_b (by assumption) (by omega) | exact jset_l (by assumption) (by omega) | exact jset_l (fun _ _ => rfl) (by omega) | exact fun _ _ => rfl | exact l_trans (by assumption) (by assumption)) (by first | assumption | omega | exact jset_b (by assumption) (by omega) | exact jset_l (by assumption) (by omega) | exact jset_l (fun _ _ => rfl) (by omega) | exact fun _ _ => rfl | exact l_trans (by assumption) (by assumption)) _ _ hP hD hS ls (lv_sub hl [0, 3, 4, 1] rfl)
              · have hP9 := hP.sub (ws' := [(ma, .inr (5, [.int (jI mth), .int (jI mn), .ref a0, .int (jI mp1'19), .int (jI (f_XM_failP mth mn mp1'19 mw1'20 mu md mo mp1'19)), .ref a1, .ref a2, .ref a3, .ref a4, .ref a5, .ref a6, .ref a7, .ref a8, .ref a9, .ref a10, .long (jL mu), .long (jL md), .int (jI mo), .ref a11])), (a0, .inl (cA, 400, .inl (jA y0))), (a8, .inl (cZ, 8, .inl (jA y8))), (a9, .inl (cA, 64, .inl (jA w9)))]) [3, 2, 0, 1] rfl
                have hD9 := hD.sub (ws' := [(ma, .inr (5, [.int (jI mth), .int (jI mn), .ref a0, .int (jI mp1'19), .int (jI (f_XM_failP mth mn mp1'19 mw1'20 mu md mo mp1'19)), .ref a1, .ref a2, .ref a3, .ref a4, .ref a5, .ref a6, .ref a7, .ref a8, .ref a9, .ref a10, .long (jL mu), .long (jL md), .int (jI mo), .ref a11])), (a0, .inl (cA, 400, .inl (jA y0))), (a8, .inl (cZ, 8, .inl (jA y8))), (a9, .inl (cA, 64, .inl (jA w9)))]) [3, 2, 0, 1] (by decide) rfl
                subst hAe
                subst hQ
                exact W.vret hx hb hr (fun t ht hW => ⟨⟨(mp1'19, f_XM_failP mth mn mp1'19 mw1'20 mu md mo mp1'19, y8, w9), rfl, ⟨Eq.trans (by rw [f_XM_formulaP_L56_s]; rw [if_neg c57_]; rw [← hwb23]; try dsimp only; rw [if_pos c69_, if_neg (Int.not_lt.mpr c84_59)]; try rfl) hF, show mp ≤ mp1'19 ∧ mp1'19 ≤ mn from by first | assumption | omega | exact jset_b (by assumption) (by omega) | exact jset_l (by assumption) (by omega) | exact jset_l (fun _ _ => rfl) (by omega) | exact fun _ _ => rfl | exact l_trans (by assumption) (by assumption), show -1 ≤ (f_XM_failP mth mn mp1'19 mw1'20 mu md mo mp1'19) ∧ (f_XM_failP mth mn mp1'19 mw1'20 mu md mo mp1'19) ≤ 400 ∧ mw ≤ (f_XM_failP mth mn mp1'19 mw1'20 mu md mo mp1'19) from by first | assumption | omega | exact jset_b (by assumption) (by omega) | exact jset_l (by assumption) (by omega) | exact jset_l (fun _ _ => rfl) (by omega) | exact fun _ _ => rfl | exact l_trans (by assumption) (by assumption), show ∀ i, 0 ≤ y8 i ∧ y8 i ≤ 1 from by first | assumption | omega | exact jset_b (by assumption) (by omega) | exact jset_l (by assumption) (by omega) | exact jset_l (fun _ _ => rfl) (by omega) | exact fun _ _ => rfl | exact l_trans (by assumption) (by assumption), show ∀ i, 0 ≤ w9 i ∧ w9 i ≤ 20 from by first | assumption | omega | exact jset_b (by assumption) (by omega) | exact jset_l (by assumption) (by omega) | exact jset_l (fun _ _ => rfl) (by omega) | exact fun _ _ => rfl | exact l_trans (by assumption) (by assumption), show ∀ i, i < 4 → y8 i = y8 i from by first | assumption | omega | exact jset_b (by assumption) (by omega) | exact jset_l (by assumption) (by omega) | exact jset_l (fun _ _ => rfl) (by omega) | exact fun _ _ => rfl | exact l_trans (by assumption) (by assumption), show ∀ i, i < 32 → w9 i = y9 i from by first | assumption | omega | exact jset_b (by assumption) (by omega) | exact jset_l (by assumption) (by omega) | exact jset_l (fun _ _ => rfl) (by omega) | exact fun _ _ => rfl | exact l_trans (by assumption) (by assumption)⟩, ⟨by rw [ht]; exact hP9, va_K.moved hW.alike hK, hD9⟩⟩, hS.F ht⟩) hS.2.2 dXM_formula_87
      exact loop56 (Int.toNat (mn - mp1'4) + 1) mk0 jm mp1'4 mw1'5 y9 (by omega) (Eq.trans (by rw [f_XM_formulaP_J55_s]; try rfl) hF) (by first | assumption | omega | exact jset_b (by assumption) (by omega) | exact jset_l (by assumption) (by omega) | exact jset_l (fun _ _ => rfl) (by omega) | exact fun _ _ => rfl | exact l_trans (by assumption) (by assumption)) (by first | assumption | omega | exact jset_b (by assumption) (by omega) | exact jset_l (by assumption) (by omega) | exact jset_l (fun _ _ => rfl) (by omega) | exact fun _ _ => rfl | exact l_trans (by assumption) (by assumption)) (by first | assumption | omega | exact jset_b (by assumption) (by omega) | exact jset_l (by assumption) (by omega) | exact jset_l (fun _ _ => rfl) (by omega) | exact fun _ _ => rfl | exact l_trans (by assumption) (by assumption)) (by first | assumption | omega | exact jset_b (by assumption) (by omega) | exact jset_l (by assumption) (by omega) | exact jset_l (fun _ _ => rfl) (by omega) | exact fun _ _ => rfl | exact l_trans (by assumption) (by assumption)) (by first | assumption | omega | exact jset_b (by assumption) (by omega) | exact jset_l (by assumption) (by omega) | exact jset_l (fun _ _ => rfl) (by omega) | exact fun _ _ => rfl | exact l_trans (by assumption) (by assumption)) (by first | assumption | omega | exact jset_b (by assumption) (by omega) | exact jset_l (by assumption) (by omega) | exact jset_l (fun _ _ => rfl) (by omega) | exact fun _ _ => rfl | exact l_trans (by assumption) (by assumption)) _ _ hP hD hS ls (lv_sub hl [0, 1, 2, 3] rfl)
    refine ji_iconst hx hb dXM_formula_41 ?_
    refine lv_istore_n (lv' := [(2, .int (jI 0)), (1, .int (jI (4 + r))), (0, .ref ma)]) hx hb dXM_formula_42 rfl hl (by decide) rfl (fun ls hl => ?_)
    refine lv_aload_n hx hb dXM_formula_43 rfl (lv_at hl 2 rfl) ?_
    refine va_get (D := (dC, dI)) (ci := 5) (v := .int (jI mw1'5)) (C := RXM) (T := TXM) (N := 19) hx hb hts (fun w h => jmem (inXM w h)) hown hK hP 2 rfl rfl 4 (by decide) (hts _ (jmem tw_632)) (fun _ h9 => h9) rfl dXM_formula_44 ?_
    refine ji_if_ge (tgt := 54) hx hb dXM_formula_47 (by decide) (by omega) (fun c47_ => ?_) (fun c47_ => ?_)
    · refine ji_iconst hx hb dXM_formula_54 ?_
      exact join55 0 0 (Eq.trans (by rw [f_XM_formulaP_J35_s]; rw [← hwb7]; try dsimp only; rw [if_neg (Int.not_lt.mpr c47_)]; try rfl) hF) (by first | assumption | omega | exact jset_b (by assumption) (by omega)) (by first | assumption | omega | exact jset_b (by assumption) (by omega)) _ _ hP hD hS ls (lv_sub hl [1, 2, 0] rfl)
    · refine ji_iconst hx hb dXM_formula_50 ?_
      refine lv_goto (tgt := 55) hx hb dXM_formula_51 (by decide) ?_
      exact join55 0 1 (Eq.trans (by rw [f_XM_formulaP_J35_s]; rw [← hwb7]; try dsimp only; rw [if_pos c47_]; try rfl) hF) (by first | assumption | omega | exact jset_b (by assumption) (by omega)) (by first | assumption | omega | exact jset_b (by assumption) (by omega)) _ _ hP hD hS ls (lv_sub hl [1, 2, 0] rfl)
  refine lv_aload_n hx hb dXM_formula_9 rfl (lv_at hl 1 rfl) ?_
  refine va_get (D := (dC, dI)) (ci := 5) (v := .int (jI mw1')) (C := RXM) (T := TXM) (N := 19) hx hb hts (fun w h => jmem (inXM w h)) hown hK hP 2 rfl rfl 4 (by decide) (hts _ (jmem tw_632)) (fun _ h9 => h9) rfl dXM_formula_10 ?_
  refine ji_if_ge (tgt := 35) hx hb dXM_formula_13 (by decide) (by omega) (fun c13_ => ?_) (fun c13_ => ?_)
  · exact join35 mw1' (Eq.trans (by rw [f_XM_formulaP_s]; rw [← hwb]; try dsimp only; rw [if_neg (Int.not_lt.mpr c13_)]; try rfl) rfl) (by first | assumption | omega | exact jset_b (by assumption) (by omega)) _ _ hP hD hS ls (lv_sub hl [0, 1] rfl)
  · refine lv_aload_n hx hb dXM_formula_16 rfl (lv_at hl 1 rfl) ?_
    refine va_get (D := (dC, dI)) (ci := 5) (v := .ref a8) (C := RXM) (T := TXM) (N := 19) hx hb hts (fun w h => jmem (inXM w h)) hown hK hP 2 rfl rfl 12 (by decide) (hts _ (jmem tw_640)) (fun _ h9 => h9) rfl dXM_formula_17 ?_
    refine lv_iload_n hx hb dXM_formula_20 rfl (lv_at hl 0 rfl) ?_
    refine ji_zald hx hb hK hP 0 1 rfl rfl ⟨by omega, by omega⟩ (by decide) dXM_formula_21 ?_
    have rb91 := hy8 (4 + r)
    refine ji_if_eq (tgt := 35) hx hb dXM_formula_22 (by decide) (by omega) (fun c22_ => ?_) (fun c22_ => ?_)
    · exact join35 mw1' (Eq.trans (by rw [f_XM_formulaP_s]; rw [← hwb]; try dsimp only; rw [if_pos c13_, if_pos c22_]; try rfl) rfl) (by first | assumption | omega | exact jset_b (by assumption) (by omega)) _ _ hP hD hS ls (lv_sub hl [0, 1] rfl)
    · refine lv_aload_n hx hb dXM_formula_25 rfl (lv_at hl 1 rfl) ?_
      refine lv_aload_n hx hb dXM_formula_26 rfl (lv_at hl 1 rfl) ?_
      refine va_get (D := (dC, dI)) (ci := 5) (v := .int (jI mp1')) (C := RXM) (T := TXM) (N := 19) hx hb hts (fun w h => jmem (inXM w h)) hown hK hP 2 rfl rfl 3 (by decide) (hts _ (jmem tw_631)) (fun _ h9 => h9) rfl dXM_formula_27 ?_
      refine ji_iconst hx hb dXM_formula_30 ?_
      refine ji_isub hx hb dXM_formula_31 ?_
      refine jwVv (rest := []) (wr := [(a8, .inl (cZ, 8, .inl (jA y8))), (a9, .inl (cA, 64, .inl (jA y9))), (a0, .inl (cA, 400, .inl (jA y0)))]) ⟨hx, hb, hml, hown, hts⟩ (c_XM_failP l dC dI cA cZ _ ma a0 a1 a2 a3 a4 a5 a6 a7 a8 a9 a10 a11 mth mn mp1' mw1' mu md mo (mp1' - 1) (by first | assumption | omega) (by first | assumption | omega)) (cwV 1 hts (jG_V tw_734 tw_736 ts_22 tw_6 tw_737) rfl rfl rfl (by decide +kernel) (by rw [hR]; exact ⟨Nat.le_of_ble_eq_true rfl, Nat.le_of_ble_eq_true rfl⟩)) hK hP hD hS hA hN [2] [0, 1, 3] rfl rfl (by decide) (by decide) (by decide) 2 5 rfl rfl rfl rfl hl.1 rfl (Nat.le_of_ble_eq_true rfl) dXM_formula_32 (by rw [hR]; exact ⟨Nat.le_of_ble_eq_true rfl, Nat.le_of_ble_eq_true rfl⟩) (fun u92 H locs hw hP hD hS => ?_)
      obtain ⟨hw, f93⟩ := hw
      subst hw
      have f93 : (0 ≤ mw1' ∧ (f_XM_failP mth mn mp1' mw1' mu md mo (mp1' - 1)) = mw1') ∨ (mw1' < 0 ∧ (f_XM_failP mth mn mp1' mw1' mu md mo (mp1' - 1)) = (mp1' - 1)) := f93
      have hP : va_P (dC, dI) vwCl [(a8, .inl (cZ, 8, .inl (jA y8))), (a9, .inl (cA, 64, .inl (jA y9))), (a0, .inl (cA, 400, .inl (jA y0))), (ma, .inr (5, [.int (jI mth), .int (jI mn), .ref a0, .int (jI mp1'), .int (jI (f_XM_failP mth mn mp1' mw1' mu md mo (mp1' - 1))), .ref a1, .ref a2, .ref a3, .ref a4, .ref a5, .ref a6, .ref a7, .ref a8, .ref a9, .ref a10, .long (jL mu), .long (jL md), .int (jI mo), .ref a11]))] H := hP
      have hD : va_D A [(a8, .inl (cZ, 8, .inl (jA y8))), (a9, .inl (cA, 64, .inl (jA y9))), (a0, .inl (cA, 400, .inl (jA y0))), (ma, .inr (5, [.int (jI mth), .int (jI mn), .ref a0, .int (jI mp1'), .int (jI (f_XM_failP mth mn mp1' mw1' mu md mo (mp1' - 1))), .ref a1, .ref a2, .ref a3, .ref a4, .ref a5, .ref a6, .ref a7, .ref a8, .ref a9, .ref a10, .long (jL mu), .long (jL md), .int (jI mo), .ref a11]))] := hD
      exact join35 (f_XM_failP mth mn mp1' mw1' mu md mo (mp1' - 1)) (Eq.trans (by rw [f_XM_formulaP_s]; rw [← hwb]; try dsimp only; rw [if_pos c13_, if_neg c22_]; try rfl) rfl) (by first | assumption | omega | exact jset_b (by assumption) (by omega)) _ _ (hP.sub [0, 1, 3, 2] rfl) (hD.sub [0, 1, 3, 2] (by decide) rfl) hS ls (lv_sub hl [0, 1] rfl)
noncomputable def g_XM_spansP_L8 (mth : Int) (mn : Int) (mp : Int) (mw : Int) (mu : Int) (md : Int) (mo : Int) (y0 : Int → Int) (y3 : Int → Int) (y4 : Int → Int) (y5 : Int → Int) (z1 : Int) : Nat → Int → Int → Int → Int → (Int → Int) → (Int → Int) → (Int → Int) → Int × Int × (Int → Int) × (Int → Int) × (Int → Int)
  | 0, _, _, _, _, _, _, _ => (0, 0, fun _ => 0, fun _ => 0, fun _ => 0)
  | n9 + 1, mks, e9, k, w, w3, w4, w5 =>
    if e9 < 0 then
      (k, w, w3, w4, w5)
    else
      if w < 0 then
        match f_XM_numberP mth mn k w mu md mo y0 0 100000 with
        | (r5, mp1'6, mw1'7) =>
          match f_XM_takeP mth mn mp1'6 mw1'7 mu md mo y0 45 with
          | (mp1'15, mw1'16) =>
            match f_XM_numberP mth mn mp1'15 mw1'16 mu md mo y0 ((jset w4 ((8 * z1) + e9) r5) ((8 * z1) + e9)) 100000 with
            | (r24, mp1'25, mw1'26) =>
              match f_XM_elementP mth mn mp1'25 mw1'26 mu md mo y0 ((jI mks ||| jI ((jI 1 <<< (jI e9 &&& 31)).toInt)).toInt) with
              | (r34, mp1'35, mw1'36) =>
                g_XM_spansP_L8 mth mn mp mw mu md mo y0 y3 y4 y5 z1 n9 ((jI mks ||| jI ((jI 1 <<< (jI e9 &&& 31)).toInt)).toInt) r34 mp1'35 mw1'36 (jset w3 ((8 * z1) + e9) 1) (jset w4 ((8 * z1) + e9) r5) (jset w5 ((8 * z1) + e9) r24)
      else
        (k, w, w3, w4, w5)
noncomputable def f_XM_spansP_L8 : Int → Int → Int → Int → Int → Int → Int → (Int → Int) → (Int → Int) → (Int → Int) → (Int → Int) → Int → Nat → Int → Int → Int → Int → (Int → Int) → (Int → Int) → (Int → Int) → Int × Int × (Int → Int) × (Int → Int) × (Int → Int) := jopq g_XM_spansP_L8
theorem f_XM_spansP_L8_q : f_XM_spansP_L8 = g_XM_spansP_L8 := jopq_eq _
theorem f_XM_spansP_L8_s (mth : Int) (mn : Int) (mp : Int) (mw : Int) (mu : Int) (md : Int) (mo : Int) (y0 : Int → Int) (y3 : Int → Int) (y4 : Int → Int) (y5 : Int → Int) (z1 : Int) (n9 : Nat) (mks : Int) (e9 : Int) (k : Int) (w : Int) (w3 : Int → Int) (w4 : Int → Int) (w5 : Int → Int) : f_XM_spansP_L8 mth mn mp mw mu md mo y0 y3 y4 y5 z1 (n9 + 1) mks e9 k w w3 w4 w5 = (
    if e9 < 0 then
      (k, w, w3, w4, w5)
    else
      if w < 0 then
        match f_XM_numberP mth mn k w mu md mo y0 0 100000 with
        | (r5, mp1'6, mw1'7) =>
          match f_XM_takeP mth mn mp1'6 mw1'7 mu md mo y0 45 with
          | (mp1'15, mw1'16) =>
            match f_XM_numberP mth mn mp1'15 mw1'16 mu md mo y0 ((jset w4 ((8 * z1) + e9) r5) ((8 * z1) + e9)) 100000 with
            | (r24, mp1'25, mw1'26) =>
              match f_XM_elementP mth mn mp1'25 mw1'26 mu md mo y0 ((jI mks ||| jI ((jI 1 <<< (jI e9 &&& 31)).toInt)).toInt) with
              | (r34, mp1'35, mw1'36) =>
                f_XM_spansP_L8 mth mn mp mw mu md mo y0 y3 y4 y5 z1 n9 ((jI mks ||| jI ((jI 1 <<< (jI e9 &&& 31)).toInt)).toInt) r34 mp1'35 mw1'36 (jset w3 ((8 * z1) + e9) 1) (jset w4 ((8 * z1) + e9) r5) (jset w5 ((8 * z1) + e9) r24)
      else
        (k, w, w3, w4, w5)
  : Int × Int × (Int → Int) × (Int → Int) × (Int → Int)) := by rw [f_XM_spansP_L8_q]; rfl
noncomputable def g_XM_spansP (mth : Int) (mn : Int) (mp : Int) (mw : Int) (mu : Int) (md : Int) (mo : Int) (y0 : Int → Int) (y3 : Int → Int) (y4 : Int → Int) (y5 : Int → Int) (z1 : Int) : Int × Int × (Int → Int) × (Int → Int) × (Int → Int) :=
  match f_XM_elementP mth mn mp mw mu md mo y0 0 with
  | (r, mp1', mw1') =>
    f_XM_spansP_L8 mth mn mp mw mu md mo y0 y3 y4 y5 z1 (Int.toNat (mn - mp1' - mw1' + 400) + 1) 0 r mp1' mw1' y3 y4 y5
noncomputable def f_XM_spansP : Int → Int → Int → Int → Int → Int → Int → (Int → Int) → (Int → Int) → (Int → Int) → (Int → Int) → Int → Int × Int × (Int → Int) × (Int → Int) × (Int → Int) := jopq g_XM_spansP
theorem f_XM_spansP_q : f_XM_spansP = g_XM_spansP := jopq_eq _
theorem f_XM_spansP_s (mth : Int) (mn : Int) (mp : Int) (mw : Int) (mu : Int) (md : Int) (mo : Int) (y0 : Int → Int) (y3 : Int → Int) (y4 : Int → Int) (y5 : Int → Int) (z1 : Int) : f_XM_spansP mth mn mp mw mu md mo y0 y3 y4 y5 z1 = (
    match f_XM_elementP mth mn mp mw mu md mo y0 0 with
    | (r, mp1', mw1') =>
      f_XM_spansP_L8 mth mn mp mw mu md mo y0 y3 y4 y5 z1 (Int.toNat (mn - mp1' - mw1' + 400) + 1) 0 r mp1' mw1' y3 y4 y5
  : Int × Int × (Int → Int) × (Int → Int) × (Int → Int)) := by rw [f_XM_spansP_q]; rfl
set_option maxHeartbeats 4000000 in
set_option maxRecDepth 100000 in
theorem c_XM_spansP (l : Launch) (dC : Nat → ClassId) (dI : Nat → Nat → Nat) (cA cZ : ClassId) (sz : Nat) (ma : Nat) (a0 : Nat) (a1 : Nat) (a2 : Nat) (a3 : Nat) (a4 : Nat) (a5 : Nat) (a6 : Nat) (a7 : Nat) (a8 : Nat) (a9 : Nat) (a10 : Nat) (a11 : Nat) (mth : Int) (mn : Int) (mp : Int) (mw : Int) (mu : Int) (md : Int) (mo : Int) (y0 : Int → Int) (y3 : Int → Int) (y4 : Int → Int) (y5 : Int → Int) (z1 : Int) (hy0 : ∀ i, 0 ≤ y0 i ∧ y0 i ≤ 255) (hmn : 0 ≤ mn ∧ mn ≤ 400) (hmp : 0 ≤ mp ∧ mp ≤ mn) (hmw : -1 ≤ mw ∧ mw ≤ 400) (hy3 : ∀ i, 0 ≤ y3 i ∧ y3 i ≤ 1) (hy4 : ∀ i, 0 ≤ y4 i ∧ y4 i ≤ 100000) (hy5 : ∀ i, 0 ≤ y5 i ∧ y5 i ≤ 100000) (hz1 : 32 ≤ z1 ∧ z1 ≤ 61) : Met l yXM_spans (Cond.code yXM_spans cXM_spans 5 none :: TBL) ({ frames := 3, cells := 0, slots := 0, locals := 66 } : Room) (va_Pc [.ref ma, .int (jI z1)] (jBw (dC, dI) [(cA, .int), (cZ, .boolean)] [(ma, .inr (5, [.int (jI mth), .int (jI mn), .ref a0, .int (jI mp), .int (jI mw), .ref a1, .ref a2, .ref a3, .ref a4, .ref a5, .ref a6, .ref a7, .ref a8, .ref a9, .ref a10, .long (jL mu), .long (jL md), .int (jI mo), .ref a11])), (a0, .inl (cA, 400, .inl (jA y0))), (a3, .inl (cZ, 496, .inl (jA y3))), (a4, .inl (cA, 496, .inl (jA y4))), (a5, .inl (cA, 496, .inl (jA y5)))] sz)) (va_Qv (fun (u : Int × Int × (Int → Int) × (Int → Int) × (Int → Int)) => u = f_XM_spansP mth mn mp mw mu md mo y0 y3 y4 y5 z1 ∧ (mp ≤ u.1 ∧ u.1 ≤ mn) ∧ (-1 ≤ u.2.1 ∧ u.2.1 ≤ 400 ∧ mw ≤ u.2.1) ∧ (∀ i, 0 ≤ u.2.2.1 i ∧ u.2.2.1 i ≤ 1) ∧ (∀ i, 0 ≤ u.2.2.2.1 i ∧ u.2.2.2.1 i ≤ 100000) ∧ (∀ i, 0 ≤ u.2.2.2.2 i ∧ u.2.2.2.2 i ≤ 100000) ∧ (∀ i, i < 248 → u.2.2.1 i = y3 i) ∧ (∀ i, i < 248 → u.2.2.2.1 i = y4 i) ∧ (∀ i, i < 248 → u.2.2.2.2 i = y5 i)) (fun u t => jE (dC, dI) [(cA, .int), (cZ, .boolean)] [(ma, .inr (5, [.int (jI mth), .int (jI mn), .ref a0, .int (jI mp), .int (jI mw), .ref a1, .ref a2, .ref a3, .ref a4, .ref a5, .ref a6, .ref a7, .ref a8, .ref a9, .ref a10, .long (jL mu), .long (jL md), .int (jI mo), .ref a11])), (a0, .inl (cA, 400, .inl (jA y0))), (a3, .inl (cZ, 496, .inl (jA y3))), (a4, .inl (cA, 496, .inl (jA y4))), (a5, .inl (cA, 496, .inl (jA y5)))] sz [(ma, .inr (5, [.int (jI mth), .int (jI mn), .ref a0, .int (jI u.1), .int (jI u.2.1), .ref a1, .ref a2, .ref a3, .ref a4, .ref a5, .ref a6, .ref a7, .ref a8, .ref a9, .ref a10, .long (jL mu), .long (jL md), .int (jI mo), .ref a11])), (a0, .inl (cA, 400, .inl (jA y0))), (a3, .inl (cZ, 496, .inl (jA u.2.2.1))), (a4, .inl (cA, 496, .inl (jA u.2.2.2.1))), (a5, .inl (cA, 496, .inl (jA u.2.2.2.2)))] t) (va_A [(ma, .inr (5, [.int (jI mth), .int (jI mn), .ref a0, .int (jI mp), .int (jI mw), .ref a1, .ref a2, .ref a3, .ref a4, .ref a5, .ref a6, .ref a7, .ref a8, .ref a9, .ref a10, .long (jL mu), .long (jL md), .int (jI mo), .ref a11])), (a0, .inl (cA, 400, .inl (jA y0))), (a3, .inl (cZ, 496, .inl (jA y3))), (a4, .inl (cA, 496, .inl (jA y4))), (a5, .inl (cA, 496, .inl (jA y5)))] sz)) 0 0 (va_A [(ma, .inr (5, [.int (jI mth), .int (jI mn), .ref a0, .int (jI mp), .int (jI mw), .ref a1, .ref a2, .ref a3, .ref a4, .ref a5, .ref a6, .ref a7, .ref a8, .ref a9, .ref a10, .long (jL mu), .long (jL md), .int (jI mo), .ref a11])), (a0, .inl (cA, 400, .inl (jA y0))), (a3, .inl (cZ, 496, .inl (jA y3))), (a4, .inl (cA, 496, .inl (jA y4))), (a5, .inl (cA, 496, .inl (jA y5)))] sz) := by
  refine jMet (cc := cXM_spans) (maxL := 5) (ret := none) (by decide) rfl ?_
  intro p e s m args below meth c s₁ R Q hR hQ B hml hv
  obtain ⟨rfl, hsz, hP, hK, hD0, hN⟩ := hv
  have hx := B.exec
  have hb := B.bytes
  have hr := B.returns
  have hts := atoms_spec (ws := Cond.code yXM_spans cXM_spans 5 none :: TBL) B.pre
  have hown : s.vm.findClass RXM = some m.cls := findClass_of_methodNamed B.named
  have hlocks := B.notSynchronized
  subst hsz
  obtain ⟨A, hAe⟩ : ∃ A, A = va_A [(ma, .inr (5, [.int (jI mth), .int (jI mn), .ref a0, .int (jI mp), .int (jI mw), .ref a1, .ref a2, .ref a3, .ref a4, .ref a5, .ref a6, .ref a7, .ref a8, .ref a9, .ref a10, .long (jL mu), .long (jL md), .int (jI mo), .ref a11])), (a0, .inl (cA, 400, .inl (jA y0))), (a3, .inl (cZ, 496, .inl (jA y3))), (a4, .inl (cA, 496, .inl (jA y4))), (a5, .inl (cA, 496, .inl (jA y5)))] s.heap.size := ⟨_, rfl⟩
  have hD : va_D A [(ma, .inr (5, [.int (jI mth), .int (jI mn), .ref a0, .int (jI mp), .int (jI mw), .ref a1, .ref a2, .ref a3, .ref a4, .ref a5, .ref a6, .ref a7, .ref a8, .ref a9, .ref a10, .long (jL mu), .long (jL md), .int (jI mo), .ref a11])), (a0, .inl (cA, 400, .inl (jA y0))), (a3, .inl (cZ, 496, .inl (jA y3))), (a4, .inl (cA, 496, .inl (jA y4))), (a5, .inl (cA, 496, .inl (jA y5)))] := by rw [hAe]; exact hD0.self
  have hA : ∀ q : Nat, s.heap.size ≤ q → A q := fun q h => by rw [hAe]; exact Or.inr h
  have hS : va_S A s.heap s.heap [] := va_S.rf
  have hP : va_P (dC, dI) vwCl [(ma, .inr (5, [.int (jI mth), .int (jI mn), .ref a0, .int (jI mp), .int (jI mw), .ref a1, .ref a2, .ref a3, .ref a4, .ref a5, .ref a6, .ref a7, .ref a8, .ref a9, .ref a10, .long (jL mu), .long (jL md), .int (jI mo), .ref a11])), (a0, .inl (cA, 400, .inl (jA y0))), (a3, .inl (cZ, 496, .inl (jA y3))), (a4, .inl (cA, 496, .inl (jA y4))), (a5, .inl (cA, 496, .inl (jA y5)))] s.heap := hP
  have hl := lv_entry ([.ref ma, .int (jI z1)]) (n := 5) (Nat.le_of_ble_eq_true rfl)
  rw [lg_entry_eq]
  generalize (lg_sl ([.ref ma, .int (jI z1)]) ++ List.replicate (5 - (lg_sl ([.ref ma, .int (jI z1)])).length) Slot.unset).toArray = ls at hl ⊢
  have hl : lv_has ls 5 [(0, .ref ma), (1, .int (jI z1))] := hl
  refine ji_iconst hx hb dXM_spans_0 ?_
  refine lv_istore_n (lv' := [(2, .int (jI 0)), (0, .ref ma), (1, .int (jI z1))]) hx hb dXM_spans_1 rfl hl (by decide) rfl (fun ls hl => ?_)
  refine lv_aload_n hx hb dXM_spans_2 rfl (lv_at hl 1 rfl) ?_
  refine lv_iload_n hx hb dXM_spans_3 rfl (lv_at hl 0 rfl) ?_
  refine jwVi (rest := []) (wr := [(a3, .inl (cZ, 496, .inl (jA y3))), (a4, .inl (cA, 496, .inl (jA y4))), (a5, .inl (cA, 496, .inl (jA y5)))]) ⟨hx, hb, hml, hown, hts⟩ (c_XM_elementP l dC dI cA cZ _ ma a0 a1 a2 a3 a4 a5 a6 a7 a8 a9 a10 a11 mth mn mp mw mu md mo y0 0 (by first | assumption | omega) (by first | assumption | omega) (by first | assumption | omega) (by first | assumption | omega) (by first | assumption | omega)) (cwV 1 hts (jG_V tw_742 tw_744 ts_24 tw_6 tw_745) rfl rfl rfl (by decide +kernel) (by rw [hR]; exact ⟨Nat.le_of_ble_eq_true rfl, Nat.le_of_ble_eq_true rfl⟩)) hK hP hD hS hA hN [0, 1] [2, 3, 4] rfl rfl (by decide) (by decide) (by decide) 0 5 rfl rfl rfl rfl hl.1 rfl (Nat.le_of_ble_eq_true rfl) dXM_spans_4 (by rw [hR]; exact ⟨Nat.le_of_ble_eq_true rfl, Nat.le_of_ble_eq_true rfl⟩) (fun v u H locs hwb hP hD hS => ?_)
  obtain ⟨r, mp1', mw1'⟩ := u
  try dsimp only at hwb
  obtain ⟨er, hwb, f, f1, f2, f3⟩ := hwb
  subst er
  have f : -1 ≤ r ∧ r ≤ 7 := f
  have f1 : mp ≤ mp1' ∧ mp1' ≤ mn := f1
  have f2 : -1 ≤ mw1' ∧ mw1' ≤ 400 ∧ mw ≤ mw1' := f2
  have f3 : 0 ≤ r → mp < mp1' := f3
  have hP : va_P (dC, dI) vwCl [(a3, .inl (cZ, 496, .inl (jA y3))), (a4, .inl (cA, 496, .inl (jA y4))), (a5, .inl (cA, 496, .inl (jA y5))), (ma, .inr (5, [.int (jI mth), .int (jI mn), .ref a0, .int (jI mp1'), .int (jI mw1'), .ref a1, .ref a2, .ref a3, .ref a4, .ref a5, .ref a6, .ref a7, .ref a8, .ref a9, .ref a10, .long (jL mu), .long (jL md), .int (jI mo), .ref a11])), (a0, .inl (cA, 400, .inl (jA y0)))] H := hP
  have hD : va_D A [(a3, .inl (cZ, 496, .inl (jA y3))), (a4, .inl (cA, 496, .inl (jA y4))), (a5, .inl (cA, 496, .inl (jA y5))), (ma, .inr (5, [.int (jI mth), .int (jI mn), .ref a0, .int (jI mp1'), .int (jI mw1'), .ref a1, .ref a2, .ref a3, .ref a4, .ref a5, .ref a6, .ref a7, .ref a8, .ref a9, .ref a10, .long (jL mu), .long (jL md), .int (jI mo), .ref a11])), (a0, .inl (cA, 400, .inl (jA y0)))] := hD
  refine lv_istore_n (lv' := [(3, .int (jI r)), (2, .int (jI 0)), (0, .ref ma), (1, .int (jI z1))]) hx hb dXM_spans_7 rfl hl (by decide) rfl (fun ls hl => ?_)
  have loop8 : ∀ (n9 : Nat) (mks : Int) (e9 : Int) (k : Int) (w : Int) (w3 : Int → Int) (w4 : Int → Int) (w5 : Int → Int) , mn - k - w + 400 < (n9 : Int) → f_XM_spansP_L8 mth mn mp mw mu md mo y0 y3 y4 y5 z1 n9 mks e9 k w w3 w4 w5 = f_XM_spansP mth mn mp mw mu md mo y0 y3 y4 y5 z1 → (mp ≤ k ∧ k ≤ mn) → (-1 ≤ w ∧ w ≤ 400 ∧ mw ≤ w) → (i32 mks) → (-1 ≤ e9 ∧ e9 ≤ 7) → (∀ i, 0 ≤ w3 i ∧ w3 i ≤ 1) → (∀ i, 0 ≤ w4 i ∧ w4 i ≤ 100000) → (∀ i, 0 ≤ w5 i ∧ w5 i ≤ 100000) → (∀ i, i < 248 → w3 i = y3 i) → (∀ i, i < 248 → w4 i = y4 i) → (∀ i, i < 248 → w5 i = y5 i) → ∀ (H : Heap) (locs : List Loc), va_P (dC, dI) vwCl [(a3, .inl (cZ, 496, .inl (jA w3))), (a4, .inl (cA, 496, .inl (jA w4))), (a5, .inl (cA, 496, .inl (jA w5))), (ma, .inr (5, [.int (jI mth), .int (jI mn), .ref a0, .int (jI k), .int (jI w), .ref a1, .ref a2, .ref a3, .ref a4, .ref a5, .ref a6, .ref a7, .ref a8, .ref a9, .ref a10, .long (jL mu), .long (jL md), .int (jI mo), .ref a11])), (a0, .inl (cA, 400, .inl (jA y0)))] H → va_D A [(a3, .inl (cZ, 496, .inl (jA w3))), (a4, .inl (cA, 496, .inl (jA w4))), (a5, .inl (cA, 496, .inl (jA w5))), (ma, .inr (5, [.int (jI mth), .int (jI mn), .ref a0, .int (jI k), .int (jI w), .ref a1, .ref a2, .ref a3, .ref a4, .ref a5, .ref a6, .ref a7, .ref a8, .ref a9, .ref a10, .long (jL mu), .long (jL md), .int (jI mo), .ref a11])), (a0, .inl (cA, 400, .inl (jA y0)))] → va_S A s.heap H locs → ∀ ls : Array Slot, lv_has ls 5 [(3, .int (jI e9)), (2, .int (jI mks)), (0, .ref ma), (1, .int (jI z1))] → W p l e R s m ([.ref ma, .int (jI z1)] : List Value).toArray below meth c H locs 0 0 Q (F0 m 8 ls []) := by
    intro n9
    induction n9 with
    | zero =>
      intro mks e9 k w w3 w4 w5 hm hF hk hw hmk he9 hw3 hw4 hw5 hl3 hl4 hl5
      exact absurd hm (by omega)
    | succ n9 ih8 =>
      intro mks e9 k w w3 w4 w5 hm hF hk hw hmk he9 hw3 hw4 hw5 hl3 hl4 hl5 H locs hP hD hS ls hl
      refine lv_iload_n hx hb dXM_spans_8 rfl (lv_at hl 0 rfl) ?_
      refine ji_if_lt (tgt := 90) hx hb dXM_spans_9 (by decide) (by omega) (fun c9_ => ?_) (fun c9_ => ?_)
      · have hP9 := hP.sub (ws' := [(ma, .inr (5, [.int (jI mth), .int (jI mn), .ref a0, .int (jI k), .int (jI w), .ref a1, .ref a2, .ref a3, .ref a4, .ref a5, .ref a6, .ref a7, .ref a8, .ref a9, .ref a10, .long (jL mu), .long (jL md), .int (jI mo), .ref a11])), (a0, .inl (cA, 400, .inl (jA y0))), (a3, .inl (cZ, 496, .inl (jA w3))), (a4, .inl (cA, 496, .inl (jA w4))), (a5, .inl (cA, 496, .inl (jA w5)))]) [3, 4, 0, 1, 2] rfl
        have hD9 := hD.sub (ws' := [(ma, .inr (5, [.int (jI mth), .int (jI mn), .ref a0, .int (jI k), .int (jI w), .ref a1, .ref a2, .ref a3, .ref a4, .ref a5, .ref a6, .ref a7, .ref a8, .ref a9, .ref a10, .long (jL mu), .long (jL md), .int (jI mo), .ref a11])), (a0, .inl (cA, 400, .inl (jA y0))), (a3, .inl (cZ, 496, .inl (jA w3))), (a4, .inl (cA, 496, .inl (jA w4))), (a5, .inl (cA, 496, .inl (jA w5)))]) [3, 4, 0, 1, 2] (by decide) rfl
        subst hAe
        subst hQ
        exact W.vret hx hb hr (fun t ht hW => ⟨⟨(k, w, w3, w4, w5), rfl, ⟨Eq.trans (by rw [f_XM_spansP_L8_s]; rw [if_pos c9_]; try rfl) hF, show mp ≤ k ∧ k ≤ mn from by first | assumption | omega | exact jset_b (by assumption) (by omega) | exact jset_l (by assumption) (by omega) | exact jset_l (fun _ _ => rfl) (by omega) | exact fun _ _ => rfl | exact l_trans (by assumption) (by assumption), show -1 ≤ w ∧ w ≤ 400 ∧ mw ≤ w from by first | assumption | omega | exact jset_b (by assumption) (by omega) | exact jset_l (by assumption) (by omega) | exact jset_l (fun _ _ => rfl) (by omega) | exact fun _ _ => rfl | exact l_trans (by assumption) (by assumption), show ∀ i, 0 ≤ w3 i ∧ w3 i ≤ 1 from by first | assumption | omega | exact jset_b (by assumption) (by omega) | exact jset_l (by assumption) (by omega) | exact jset_l (fun _ _ => rfl) (by omega) | exact fun _ _ => rfl | exact l_trans (by assumption) (by assumption), show ∀ i, 0 ≤ w4 i ∧ w4 i ≤ 100000 from by first | assumption | omega | exact jset_b (by assumption) (by omega) | exact jset_l (by assumption) (by omega) | exact jset_l (fun _ _ => rfl) (by omega) | exact fun _ _ => rfl | exact l_trans (by assumption) (by assumption), show ∀ i, 0 ≤ w5 i ∧ w5 i ≤ 100000 from by first | assumption | omega | exact jset_b (by assumption) (by omega) | exact jset_l (by assumption) (by omega) | exact jset_l (fun _ _ => rfl) (by omega) | exact fun _ _ => rfl | exact l_trans (by assumption) (by assumption), show ∀ i, i < 248 → w3 i = y3 i from by first | assumption | omega | exact jset_b (by assumption) (by omega) | exact jset_l (by assumption) (by omega) | exact jset_l (fun _ _ => rfl) (by omega) | exact fun _ _ => rfl | exact l_trans (by assumption) (by assumption), show ∀ i, i < 248 → w4 i = y4 i from by first | assumption | omega | exact jset_b (by assumption) (by omega) | exact jset_l (by assumption) (by omega) | exact jset_l (fun _ _ => rfl) (by omega) | exact fun _ _ => rfl | exact l_trans (by assumption) (by assumption), show ∀ i, i < 248 → w5 i = y5 i from by first | assumption | omega | exact jset_b (by assumption) (by omega) | exact jset_l (by assumption) (by omega) | exact jset_l (fun _ _ => rfl) (by omega) | exact fun _ _ => rfl | exact l_trans (by assumption) (by assumption)⟩, ⟨by rw [ht]; exact hP9, va_K.moved hW.alike hK, hD9⟩⟩, hS.F ht⟩) hS.2.2 dXM_spans_90
      · refine lv_aload_n hx hb dXM_spans_12 rfl (lv_at hl 2 rfl) ?_
        refine va_get (D := (dC, dI)) (ci := 5) (v := .int (jI w)) (C := RXM) (T := TXM) (N := 19) hx hb hts (fun w h => jmem (inXM w h)) hown hK hP 3 rfl rfl 4 (by decide) (hts _ (jmem tw_632)) (fun _ h9 => h9) rfl dXM_spans_13 ?_
        refine ji_if_ge (tgt := 90) hx hb dXM_spans_16 (by decide) (by omega) (fun c16_ => ?_) (fun c16_ => ?_)
        · have hP9 := hP.sub (ws' := [(ma, .inr (5, [.int (jI mth), .int (jI mn), .ref a0, .int (jI k), .int (jI w), .ref a1, .ref a2, .ref a3, .ref a4, .ref a5, .ref a6, .ref a7, .ref a8, .ref a9, .ref a10, .long (jL mu), .long (jL md), .int (jI mo), .ref a11])), (a0, .inl (cA, 400, .inl (jA y0))), (a3, .inl (cZ, 496, .inl (jA w3))), (a4, .inl (cA, 496, .inl (jA w4))), (a5, .inl (cA, 496, .inl (jA w5)))]) [3, 4, 0, 1, 2] rfl
          have hD9 := hD.sub (ws' := [(ma, .inr (5, [.int (jI mth), .int (jI mn), .ref a0, .int (jI k), .int (jI w), .ref a1, .ref a2, .ref a3, .ref a4, .ref a5, .ref a6, .ref a7, .ref a8, .ref a9, .ref a10, .long (jL mu), .long (jL md), .int (jI mo), .ref a11])), (a0, .inl (cA, 400, .inl (jA y0))), (a3, .inl (cZ, 496, .inl (jA w3))), (a4, .inl (cA, 496, .inl (jA w4))), (a5, .inl (cA, 496, .inl (jA w5)))]) [3, 4, 0, 1, 2] (by decide) rfl
          subst hAe
          subst hQ
          exact W.vret hx hb hr (fun t ht hW => ⟨⟨(k, w, w3, w4, w5), rfl, ⟨Eq.trans (by rw [f_XM_spansP_L8_s]; rw [if_neg (Int.not_lt.mpr c9_), if_neg (Int.not_lt.mpr c16_)]; try rfl) hF, show mp ≤ k ∧ k ≤ mn from by first | assumption | omega | exact jset_b (by assumption) (by omega) | exact jset_l (by assumption) (by omega) | exact jset_l (fun _ _ => rfl) (by omega) | exact fun _ _ => rfl | exact l_trans (by assumption) (by assumption), show -1 ≤ w ∧ w ≤ 400 ∧ mw ≤ w from by first | assumption | omega | exact jset_b (by assumption) (by omega) | exact jset_l (by assumption) (by omega) | exact jset_l (fun _ _ => rfl) (by omega) | exact fun _ _ => rfl | exact l_trans (by assumption) (by assumption), show ∀ i, 0 ≤ w3 i ∧ w3 i ≤ 1 from by first | assumption | omega | exact jset_b (by assumption) (by omega) | exact jset_l (by assumption) (by omega) | exact jset_l (fun _ _ => rfl) (by omega) | exact fun _ _ => rfl | exact l_trans (by assumption) (by assumption), show ∀ i, 0 ≤ w4 i ∧ w4 i ≤ 100000 from by first | assumption | omega | exact jset_b (by assumption) (by omega) | exact jset_l (by assumption) (by omega) | exact jset_l (fun _ _ => rfl) (by omega) | exact fun _ _ => rfl | exact l_trans (by assumption) (by assumption), show ∀ i, 0 ≤ w5 i ∧ w5 i ≤ 100000 from by first | assumption | omega | exact jset_b (by assumption) (by omega) | exact jset_l (by assumption) (by omega) | exact jset_l (fun _ _ => rfl) (by omega) | exact fun _ _ => rfl | exact l_trans (by assumption) (by assumption), show ∀ i, i < 248 → w3 i = y3 i from by first | assumption | omega | exact jset_b (by assumption) (by omega) | exact jset_l (by assumption) (by omega) | exact jset_l (fun _ _ => rfl) (by omega) | exact fun _ _ => rfl | exact l_trans (by assumption) (by assumption), show ∀ i, i < 248 → w4 i = y4 i from by first | assumption | omega | exact jset_b (by assumption) (by omega) | exact jset_l (by assumption) (by omega) | exact jset_l (fun _ _ => rfl) (by omega) | exact fun _ _ => rfl | exact l_trans (by assumption) (by assumption), show ∀ i, i < 248 → w5 i = y5 i from by first | assumption | omega | exact jset_b (by assumption) (by omega) | exact jset_l (by assumption) (by omega) | exact jset_l (fun _ _ => rfl) (by omega) | exact fun _ _ => rfl | exact l_trans (by assumption) (by assumption)⟩, ⟨by rw [ht]; exact hP9, va_K.moved hW.alike hK, hD9⟩⟩, hS.F ht⟩) hS.2.2 dXM_spans_90
        · refine lv_iload_n hx hb dXM_spans_19 rfl (lv_at hl 1 rfl) ?_
          refine ji_iconst hx hb dXM_spans_20 ?_
          refine lv_iload_n hx hb dXM_spans_21 rfl (lv_at hl 0 rfl) ?_
          refine lv_ishl hx hb dXM_spans_22 ?_
          refine ji_rev ?_
          have rb := jti32 (jI 1 <<< (jI e9 &&& 31))
          refine lv_ior hx hb dXM_spans_23 ?_
          refine ji_rev ?_
          have rb4 := jti32 (jI mks ||| jI ((jI 1 <<< (jI e9 &&& 31)).toInt))
          refine lv_istore_n (lv' := [(2, .int (jI ((jI mks ||| jI ((jI 1 <<< (jI e9 &&& 31)).toInt)).toInt))), (3, .int (jI e9)), (0, .ref ma), (1, .int (jI z1))]) hx hb dXM_spans_24 rfl hl (by decide) rfl (fun ls hl => ?_)
          refine ji_bipush hx hb dXM_spans_25 (by decide) ?_
          refine lv_iload_n hx hb dXM_spans_27 rfl (lv_at hl 3 rfl) ?_
          refine ji_imul hx hb dXM_spans_28 ?_
          refine lv_iload_n hx hb dXM_spans_29 rfl (lv_at hl 1 rfl) ?_
          refine ji_iadd hx hb dXM_spans_30 ?_
          refine lv_istore (lv' := [(4, .int (jI ((8 * z1) + e9))), (2, .int (jI ((jI mks ||| jI ((jI 1 <<< (jI e9 &&& 31)).toInt)).toInt))), (3, .int (jI e9)), (0, .ref ma), (1, .int (jI z1))]) hx hb dXM_spans_31 hl (by decide) rfl (fun ls hl => ?_)
          refine lv_aload_n hx hb dXM_spans_33 rfl (lv_at hl 3 rfl) ?_
          refine va_get (D := (dC, dI)) (ci := 5) (v := .ref a3) (C := RXM) (T := TXM) (N := 19) hx hb hts (fun w h => jmem (inXM w h)) hown hK hP 3 rfl rfl 7 (by decide) (hts _ (jmem tw_635)) (fun _ h9 => h9) rfl dXM_spans_34 ?_
          refine lv_iload hx hb dXM_spans_37 (lv_at hl 0 rfl) ?_
          refine ji_iconst hx hb dXM_spans_39 ?_
          refine ji_zast hx hb hK hP hD hS 0 1 rfl rfl (by first | decide | omega) ⟨by omega, by omega⟩ (by decide) dXM_spans_40 (fun H locs hP hD hS => ?_)
          have hP : va_P (dC, dI) vwCl [(a3, .inl (cZ, 496, .inl (jA (jset w3 ((8 * z1) + e9) 1)))), (a4, .inl (cA, 496, .inl (jA w4))), (a5, .inl (cA, 496, .inl (jA w5))), (ma, .inr (5, [.int (jI mth), .int (jI mn), .ref a0, .int (jI k), .int (jI w), .ref a1, .ref a2, .ref a3, .ref a4, .ref a5, .ref a6, .ref a7, .ref a8, .ref a9, .ref a10, .long (jL mu), .long (jL md), .int (jI mo), .ref a11])), (a0, .inl (cA, 400, .inl (jA y0)))] H := hP
          have hD : va_D A [(a3, .inl (cZ, 496, .inl (jA (jset w3 ((8 * z1) + e9) 1)))), (a4, .inl (cA, 496, .inl (jA w4))), (a5, .inl (cA, 496, .inl (jA w5))), (ma, .inr (5, [.int (jI mth), .int (jI mn), .ref a0, .int (jI k), .int (jI w), .ref a1, .ref a2, .ref a3, .ref a4, .ref a5, .ref a6, .ref a7, .ref a8, .ref a9, .ref a10, .long (jL mu), .long (jL md), .int (jI mo), .ref a11])), (a0, .inl (cA, 400, .inl (jA y0)))] := hD
          refine lv_aload_n hx hb dXM_spans_41 rfl (lv_at hl 3 rfl) ?_
          refine va_get (D := (dC, dI)) (ci := 5) (v := .ref a4) (C := RXM) (T := TXM) (N := 19) hx hb hts (fun w h => jmem (inXM w h)) hown hK hP 3 rfl rfl 8 (by decide) (hts _ (jmem tw_636)) (fun _ h9 => h9) rfl dXM_spans_42 ?_
          refine lv_iload hx hb dXM_spans_45 (lv_at hl 0 rfl) ?_
          refine lv_aload_n hx hb dXM_spans_47 rfl (lv_at hl 3 rfl) ?_
          refine ji_iconst hx hb dXM_spans_48 ?_
          refine lv_ldc hx hb hown (hts _ (jmem tw_754)) dXM_spans_49 ?_
          refine ji_re (y := 100000) (by decide) ?_
          refine jwVi (rest := [.int (jI ((8 * z1) + e9)), .ref a4]) (wr := [(a3, .inl (cZ, 496, .inl (jA (jset w3 ((8 * z1) + e9) 1)))), (a4, .inl (cA, 496, .inl (jA w4))), (a5, .inl (cA, 496, .inl (jA w5)))]) ⟨hx, hb, hml, hown, hts⟩ (c_XM_numberP l dC dI cA cZ _ ma a0 a1 a2 a3 a4 a5 a6 a7 a8 a9 a10 a11 mth mn k w mu md mo y0 0 100000 (by first | assumption | omega) (by first | assumption | omega) (by first | assumption | omega) (by first | assumption | omega) (by first | assumption | omega)) (cwV 2 hts (jG_V tw_726 tw_728 ts_20 tw_6 tw_729) rfl rfl rfl (by decide +kernel) (by rw [hR]; exact ⟨Nat.le_of_ble_eq_true rfl, Nat.le_of_ble_eq_true rfl⟩)) hK hP hD hS hA hN [3, 4] [0, 1, 2] rfl rfl (by decide) (by decide) (by decide) 3 5 rfl rfl rfl rfl hl.1 rfl (Nat.le_of_ble_eq_true rfl) dXM_spans_51 (by rw [hR]; exact ⟨Nat.le_of_ble_eq_true rfl, Nat.le_of_ble_eq_true rfl⟩) (fun v9 u8 H locs hwb10 hP hD hS => ?_)
          obtain ⟨r5, mp1'6, mw1'7⟩ := u8
          try dsimp only at hwb10
          obtain ⟨er, hwb10, f11, f12, f13, f14⟩ := hwb10
          subst er
          have f11 : 0 ≤ r5 ∧ r5 ≤ 100000 := f11
          have f12 : k ≤ mp1'6 ∧ mp1'6 ≤ mn := f12
          have f13 : -1 ≤ mw1'7 ∧ mw1'7 ≤ 400 ∧ w ≤ mw1'7 := f13
          have f14 : mw1'7 < 0 → k < mp1'6 := f14
          have hP : va_P (dC, dI) vwCl [(a3, .inl (cZ, 496, .inl (jA (jset w3 ((8 * z1) + e9) 1)))), (a4, .inl (cA, 496, .inl (jA w4))), (a5, .inl (cA, 496, .inl (jA w5))), (ma, .inr (5, [.int (jI mth), .int (jI mn), .ref a0, .int (jI mp1'6), .int (jI mw1'7), .ref a1, .ref a2, .ref a3, .ref a4, .ref a5, .ref a6, .ref a7, .ref a8, .ref a9, .ref a10, .long (jL mu), .long (jL md), .int (jI mo), .ref a11])), (a0, .inl (cA, 400, .inl (jA y0)))] H := hP
          have hD : va_D A [(a3, .inl (cZ, 496, .inl (jA (jset w3 ((8 * z1) + e9) 1)))), (a4, .inl (cA, 496, .inl (jA w4))), (a5, .inl (cA, 496, .inl (jA w5))), (ma, .inr (5, [.int (jI mth), .int (jI mn), .ref a0, .int (jI mp1'6), .int (jI mw1'7), .ref a1, .ref a2, .ref a3, .ref a4, .ref a5, .ref a6, .ref a7, .ref a8, .ref a9, .ref a10, .long (jL mu), .long (jL md), .int (jI mo), .ref a11])), (a0, .inl (cA, 400, .inl (jA y0)))] := hD
          refine ji_iast hx hb hK hP hD hS 1 0 rfl rfl ⟨by omega, by omega⟩ (by decide) dXM_spans_54 (fun H locs hP hD hS => ?_)
          have hP : va_P (dC, dI) vwCl [(a3, .inl (cZ, 496, .inl (jA (jset w3 ((8 * z1) + e9) 1)))), (a4, .inl (cA, 496, .inl (jA (jset w4 ((8 * z1) + e9) r5)))), (a5, .inl (cA, 496, .inl (jA w5))), (ma, .inr (5, [.int (jI mth), .int (jI mn), .ref a0, .int (jI mp1'6), .int (jI mw1'7), .ref a1, .ref a2, .ref a3, .ref a4, .ref a5, .ref a6, .ref a7, .ref a8, .ref a9, .ref a10, .long (jL mu), .long (jL md), .int (jI mo), .ref a11])), (a0, .inl (cA, 400, .inl (jA y0)))] H := hP
          have hD : va_D A [(a3, .inl (cZ, 496, .inl (jA (jset w3 ((8 * z1) + e9) 1)))), (a4, .inl (cA, 496, .inl (jA (jset w4 ((8 * z1) + e9) r5)))), (a5, .inl (cA, 496, .inl (jA w5))), (ma, .inr (5, [.int (jI mth), .int (jI mn), .ref a0, .int (jI mp1'6), .int (jI mw1'7), .ref a1, .ref a2, .ref a3, .ref a4, .ref a5, .ref a6, .ref a7, .ref a8, .ref a9, .ref a10, .long (jL mu), .long (jL md), .int (jI mo), .ref a11])), (a0, .inl (cA, 400, .inl (jA y0)))] := hD
          refine lv_aload_n hx hb dXM_spans_55 rfl (lv_at hl 3 rfl) ?_
          refine ji_bipush hx hb dXM_spans_56 (by decide) ?_
          refine jwVv (rest := []) (wr := [(a3, .inl (cZ, 496, .inl (jA (jset w3 ((8 * z1) + e9) 1)))), (a4, .inl (cA, 496, .inl (jA (jset w4 ((8 * z1) + e9) r5)))), (a5, .inl (cA, 496, .inl (jA w5)))]) ⟨hx, hb, hml, hown, hts⟩ (c_XM_takeP l dC dI cA cZ _ ma a0 a1 a2 a3 a4 a5 a6 a7 a8 a9 a10 a11 mth mn mp1'6 mw1'7 mu md mo y0 45 (by first | assumption | omega) (by first | assumption | omega) (by first | assumption | omega) (by first | assumption | omega) (by first | assumption | omega)) (cwV 1 hts (jG_V tw_738 tw_740 ts_23 tw_6 tw_741) rfl rfl rfl (by decide +kernel) (by rw [hR]; exact ⟨Nat.le_of_ble_eq_true rfl, Nat.le_of_ble_eq_true rfl⟩)) hK hP hD hS hA hN [3, 4] [0, 1, 2] rfl rfl (by decide) (by decide) (by decide) 3 5 rfl rfl rfl rfl hl.1 rfl (Nat.le_of_ble_eq_true rfl) dXM_spans_58 (by rw [hR]; exact ⟨Nat.le_of_ble_eq_true rfl, Nat.le_of_ble_eq_true rfl⟩) (fun u17 H locs hwb18 hP hD hS => ?_)
          obtain ⟨mp1'15, mw1'16⟩ := u17
          try dsimp only at hwb18
          obtain ⟨hwb18, f19, f20, f21⟩ := hwb18
          have f19 : mp1'6 ≤ mp1'15 ∧ mp1'15 ≤ mn := f19
          have f20 : -1 ≤ mw1'16 ∧ mw1'16 ≤ 400 ∧ mw1'7 ≤ mw1'16 := f20
          have f21 : mw1'16 < 0 → mp1'6 < mp1'15 := f21
          have hP : va_P (dC, dI) vwCl [(a3, .inl (cZ, 496, .inl (jA (jset w3 ((8 * z1) + e9) 1)))), (a4, .inl (cA, 496, .inl (jA (jset w4 ((8 * z1) + e9) r5)))), (a5, .inl (cA, 496, .inl (jA w5))), (ma, .inr (5, [.int (jI mth), .int (jI mn), .ref a0, .int (jI mp1'15), .int (jI mw1'16), .ref a1, .ref a2, .ref a3, .ref a4, .ref a5, .ref a6, .ref a7, .ref a8, .ref a9, .ref a10, .long (jL mu), .long (jL md), .int (jI mo), .ref a11])), (a0, .inl (cA, 400, .inl (jA y0)))] H := hP
          have hD : va_D A [(a3, .inl (cZ, 496, .inl (jA (jset w3 ((8 * z1) + e9) 1)))), (a4, .inl (cA, 496, .inl (jA (jset w4 ((8 * z1) + e9) r5)))), (a5, .inl (cA, 496, .inl (jA w5))), (ma, .inr (5, [.int (jI mth), .int (jI mn), .ref a0, .int (jI mp1'15), .int (jI mw1'16), .ref a1, .ref a2, .ref a3, .ref a4, .ref a5, .ref a6, .ref a7, .ref a8, .ref a9, .ref a10, .long (jL mu), .long (jL md), .int (jI mo), .ref a11])), (a0, .inl (cA, 400, .inl (jA y0)))] := hD
          refine lv_aload_n hx hb dXM_spans_61 rfl (lv_at hl 3 rfl) ?_
          refine va_get (D := (dC, dI)) (ci := 5) (v := .ref a5) (C := RXM) (T := TXM) (N := 19) hx hb hts (fun w h => jmem (inXM w h)) hown hK hP 3 rfl rfl 9 (by decide) (hts _ (jmem tw_637)) (fun _ h9 => h9) rfl dXM_spans_62 ?_
          refine lv_iload hx hb dXM_spans_65 (lv_at hl 0 rfl) ?_
          refine lv_aload_n hx hb dXM_spans_67 rfl (lv_at hl 3 rfl) ?_
          refine lv_aload_n hx hb dXM_spans_68 rfl (lv_at hl 3 rfl) ?_
          refine va_get (D := (dC, dI)) (ci := 5) (v := .ref a4) (C := RXM) (T := TXM) (N := 19) hx hb hts (fun w h => jmem (inXM w h)) hown hK hP 3 rfl rfl 8 (by decide) (hts _ (jmem tw_636)) (fun _ h9 => h9) rfl dXM_spans_69 ?_
          refine lv_iload hx hb dXM_spans_72 (lv_at hl 0 rfl) ?_
          refine ji_iald hx hb hK hP 1 0 rfl rfl ⟨by omega, by omega⟩ (by decide) dXM_spans_74 ?_
          have rb22 := hy4 ((8 * z1) + e9)
          have rb23 := (show ∀ i, 0 ≤ (jset w4 ((8 * z1) + e9) r5) i ∧ (jset w4 ((8 * z1) + e9) r5) i ≤ 100000 from jset_b hw4 (by omega)) ((8 * z1) + e9)
          refine lv_ldc hx hb hown (hts _ (jmem tw_754)) dXM_spans_75 ?_
          refine ji_re (y := 100000) (by decide) ?_
          refine jwVi (rest := [.int (jI ((8 * z1) + e9)), .ref a5]) (wr := [(a3, .inl (cZ, 496, .inl (jA (jset w3 ((8 * z1) + e9) 1)))), (a4, .inl (cA, 496, .inl (jA (jset w4 ((8 * z1) + e9) r5)))), (a5, .inl (cA, 496, .inl (jA w5)))]) ⟨hx, hb, hml, hown, hts⟩ (c_XM_numberP l dC dI cA cZ _ ma a0 a1 a2 a3 a4 a5 a6 a7 a8 a9 a10 a11 mth mn mp1'15 mw1'16 mu md mo y0 ((jset w4 ((8 * z1) + e9) r5) ((8 * z1) + e9)) 100000 (by first | assumption | omega) (by first | assumption | omega) (by first | assumption | omega) (by first | assumption | omega) (by first | assumption | omega)) (cwV 2 hts (jG_V tw_726 tw_728 ts_20 tw_6 tw_729) rfl rfl rfl (by decide +kernel) (by rw [hR]; exact ⟨Nat.le_of_ble_eq_true rfl, Nat.le_of_ble_eq_true rfl⟩)) hK hP hD hS hA hN [3, 4] [0, 1, 2] rfl rfl (by decide) (by decide) (by decide) 3 5 rfl rfl rfl rfl hl.1 rfl (Nat.le_of_ble_eq_true rfl) dXM_spans_77 (by rw [hR]; exact ⟨Nat.le_of_ble_eq_true rfl, Nat.le_of_ble_eq_true rfl⟩) (fun v28 u27 H locs hwb29 hP hD hS => ?_)
          obtain ⟨r24, mp1'25, mw1'26⟩ := u27
          try dsimp only at hwb29
          obtain ⟨er, hwb29, f30, f31, f32, f33⟩ := hwb29
          subst er
          have f30 : ((jset w4 ((8 * z1) + e9) r5) ((8 * z1) + e9)) ≤ r24 ∧ r24 ≤ 100000 := f30
          have f31 : mp1'15 ≤ mp1'25 ∧ mp1'25 ≤ mn := f31
          have f32 : -1 ≤ mw1'26 ∧ mw1'26 ≤ 400 ∧ mw1'16 ≤ mw1'26 := f32
          have f33 : mw1'26 < 0 → mp1'15 < mp1'25 := f33
          have hP : va_P (dC, dI) vwCl [(a3, .inl (cZ, 496, .inl (jA (jset w3 ((8 * z1) + e9) 1)))), (a4, .inl (cA, 496, .inl (jA (jset w4 ((8 * z1) + e9) r5)))), (a5, .inl (cA, 496, .inl (jA w5))), (ma, .inr (5, [.int (jI mth), .int (jI mn), .ref a0, .int (jI mp1'25), .int (jI mw1'26), .ref a1, .ref a2, .ref a3, .ref a4, .ref a5, .ref a6, .ref a7, .ref a8, .ref a9, .ref a10, .long (jL mu), .long (jL md), .int (jI mo), .ref a11])), (a0, .inl (cA, 400, .inl (jA y0)))] H := hP
          have hD : va_D A [(a3, .inl (cZ, 496, .inl (jA (jset w3 ((8 * z1) + e9) 1)))), (a4, .inl (cA, 496, .inl (jA (jset w4 ((8 * z1) + e9) r5)))), (a5, .inl (cA, 496, .inl (jA w5))), (ma, .inr (5, [.int (jI mth), .int (jI mn), .ref a0, .int (jI mp1'25), .int (jI mw1'26), .ref a1, .ref a2, .ref a3, .ref a4, .ref a5, .ref a6, .ref a7, .ref a8, .ref a9, .ref a10, .long (jL mu), .long (jL md), .int (jI mo), .ref a11])), (a0, .inl (cA, 400, .inl (jA y0)))] := hD
          refine ji_iast hx hb hK hP hD hS 2 0 rfl rfl ⟨by omega, by omega⟩ (by decide) dXM_spans_80 (fun H locs hP hD hS => ?_)
          have hP : va_P (dC, dI) vwCl [(a3, .inl (cZ, 496, .inl (jA (jset w3 ((8 * z1) + e9) 1)))), (a4, .inl (cA, 496, .inl (jA (jset w4 ((8 * z1) + e9) r5)))), (a5, .inl (cA, 496, .inl (jA (jset w5 ((8 * z1) + e9) r24)))), (ma, .inr (5, [.int (jI mth), .int (jI mn), .ref a0, .int (jI mp1'25), .int (jI mw1'26), .ref a1, .ref a2, .ref a3, .ref a4, .ref a5, .ref a6, .ref a7, .ref a8, .ref a9, .ref a10, .long (jL mu), .long (jL md), .int (jI mo), .ref a11])), (a0, .inl (cA, 400, .inl (jA y0)))] H := hP
          have hD : va_D A [(a3, .inl (cZ, 496, .inl (jA (jset w3 ((8 * z1) + e9) 1)))), (a4, .inl (cA, 496, .inl (jA (jset w4 ((8 * z1) + e9) r5)))), (a5, .inl (cA, 496, .inl (jA (jset w5 ((8 * z1) + e9) r24)))), (ma, .inr (5, [.int (jI mth), .int (jI mn), .ref a0, .int (jI mp1'25), .int (jI mw1'26), .ref a1, .ref a2, .ref a3, .ref a4, .ref a5, .ref a6, .ref a7, .ref a8, .ref a9, .ref a10, .long (jL mu), .long (jL md), .int (jI mo), .ref a11])), (a0, .inl (cA, 400, .inl (jA y0)))] := hD
          refine lv_aload_n hx hb dXM_spans_81 rfl (lv_at hl 3 rfl) ?_
          refine lv_iload_n hx hb dXM_spans_82 rfl (lv_at hl 1 rfl) ?_
          refine jwVi (rest := []) (wr := [(a3, .inl (cZ, 496, .inl (jA (jset w3 ((8 * z1) + e9) 1)))), (a4, .inl (cA, 496, .inl (jA (jset w4 ((8 * z1) + e9) r5)))), (a5, .inl (cA, 496, .inl (jA (jset w5 ((8 * z1) + e9) r24))))]) ⟨hx, hb, hml, hown, hts⟩ (c_XM_elementP l dC dI cA cZ _ ma a0 a1 a2 a3 a4 a5 a6 a7 a8 a9 a10 a11 mth mn mp1'25 mw1'26 mu md mo y0 ((jI mks ||| jI ((jI 1 <<< (jI e9 &&& 31)).toInt)).toInt) (by first | assumption | omega) (by first | assumption | omega) (by first | assumption | omega) (by first | assumption | omega) (by first | assumption | omega)) (cwV 1 hts (jG_V tw_742 tw_744 ts_24 tw_6 tw_745) rfl rfl rfl (by decide +kernel) (by rw [hR]; exact ⟨Nat.le_of_ble_eq_true rfl, Nat.le_of_ble_eq_true rfl⟩)) hK hP hD hS hA hN [3, 4] [0, 1, 2] rfl rfl (by decide) (by decide) (by decide) 3 5 rfl rfl rfl rfl hl.1 rfl (Nat.le_of_ble_eq_true rfl) dXM_spans_83 (by rw [hR]; exact ⟨Nat.le_of_ble_eq_true rfl, Nat.le_of_ble_eq_true rfl⟩) (fun v38 u37 H locs hwb39 hP hD hS => ?_)
          obtain ⟨r34, mp1'35, mw1'36⟩ := u37
          try dsimp only at hwb39
          obtain ⟨er, hwb39, f40, f41, f42, f43⟩ := hwb39
          subst er
          have f40 : -1 ≤ r34 ∧ r34 ≤ 7 := f40
          have f41 : mp1'25 ≤ mp1'35 ∧ mp1'35 ≤ mn := f41
          have f42 : -1 ≤ mw1'36 ∧ mw1'36 ≤ 400 ∧ mw1'26 ≤ mw1'36 := f42
          have f43 : 0 ≤ r34 → mp1'25 < mp1'35 := f43
          have hP : va_P (dC, dI) vwCl [(a3, .inl (cZ, 496, .inl (jA (jset w3 ((8 * z1) + e9) 1)))), (a4, .inl (cA, 496, .inl (jA (jset w4 ((8 * z1) + e9) r5)))), (a5, .inl (cA, 496, .inl (jA (jset w5 ((8 * z1) + e9) r24)))), (ma, .inr (5, [.int (jI mth), .int (jI mn), .ref a0, .int (jI mp1'35), .int (jI mw1'36), .ref a1, .ref a2, .ref a3, .ref a4, .ref a5, .ref a6, .ref a7, .ref a8, .ref a9, .ref a10, .long (jL mu), .long (jL md), .int (jI mo), .ref a11])), (a0, .inl (cA, 400, .inl (jA y0)))] H := hP
          have hD : va_D A [(a3, .inl (cZ, 496, .inl (jA (jset w3 ((8 * z1) + e9) 1)))), (a4, .inl (cA, 496, .inl (jA (jset w4 ((8 * z1) + e9) r5)))), (a5, .inl (cA, 496, .inl (jA (jset w5 ((8 * z1) + e9) r24)))), (ma, .inr (5, [.int (jI mth), .int (jI mn), .ref a0, .int (jI mp1'35), .int (jI mw1'36), .ref a1, .ref a2, .ref a3, .ref a4, .ref a5, .ref a6, .ref a7, .ref a8, .ref a9, .ref a10, .long (jL mu), .long (jL md), .int (jI mo), .ref a11])), (a0, .inl (cA, 400, .inl (jA y0)))] := hD
          refine lv_istore_n (lv' := [(3, .int (jI r34)), (4, .int (jI ((8 * z1) + e9))), (2, .int (jI ((jI mks ||| jI ((jI 1 <<< (jI e9 &&& 31)).toInt)).toInt))), (0, .ref ma), (1, .int (jI z1))]) hx hb dXM_spans_86 rfl hl (by decide) rfl (fun ls hl => ?_)
          refine lv_goto (tgt := 8) hx hb dXM_spans_87 (by decide) ?_
          exact ih8 ((jI mks ||| jI ((jI 1 <<< (jI e9 &&& 31)).toInt)).toInt) r34 mp1'35 mw1'36 (jset w3 ((8 * z1) + e9) 1) (jset w4 ((8 * z1) + e9) r5) (jset w5 ((8 * z1) + e9) r24) (by omega) (Eq.trans (by rw [f_XM_spansP_L8_s]; rw [if_neg (Int.not_lt.mpr c9_), if_pos c16_]; rw [← hwb10]; try dsimp only; rw [← hwb18]; try dsimp only; rw [← hwb29]; try dsimp only; rw [← hwb39]; try dsimp only; try rfl) hF) (by first | assumption | omega | exact jset_b (by assumption) (by omega) | exact jset_l (by assumption) (by omega) | exact jset_l (fun _ _ => rfl) (by omega) | exact fun _ _ => rfl | exact l_trans (by assumption) (by assumption)) (by first | assumption | omega | exact jset_b (by assumption) (by omega) | exact jset_l (by assumption) (by omega) | exact jset_l (fun _ _ => rfl) (by omega) | exact fun _ _ => rfl | exact l_trans (by assumption) (by assumption)) (by first | assumption | omega | exact jset_b (by assumption) (by omega) | exact jset_l (by assumption) (by omega) | exact jset_l (fun _ _ => rfl) (by omega) | exact fun _ _ => rfl | exact l_trans (by assumption) (by assumption)) (by first | assumption | omega | exact jset_b (by assumption) (by omega) | exact jset_l (by assumption) (by omega) | exact jset_l (fun _ _ => rfl) (by omega) | exact fun _ _ => rfl | exact l_trans (by assumption) (by assumption)) (by first | assumption | omega | exact jset_b (by assumption) (by omega) | exact jset_l (by assumption) (by omega) | exact jset_l (fun _ _ => rfl) (by omega) | exact fun _ _ => rfl | exact l_trans (by assumption) (by assumption)) (by first | assumption | omega | exact jset_b (by assumption) (by omega) | exact jset_l (by assumption) (by omega) | exact jset_l (fun _ _ => rfl) (by omega) | exact fun _ _ => rfl | exact l_trans (by assumption) (by assumption)) (by first | assumption | omega | exact jset_b (by assumption) (by omega) | exact jset_l (by assumption) (by omega) | exact jset_l (fun _ _ => rfl) (by omega) | exact fun _ _ => rfl | exact l_trans (by assumption) (by assumption)) (by first | assumption | omega | exact jset_b (by assumption) (by omega) | exact jset_l (by assumption) (by omega) | exact jset_l (fun _ _ => rfl) (by omega) | exact fun _ _ => rfl | exact l_trans (by assumption) (by assumption)) (by first | assumption | omega | exact jset_b (by assumption) (by omega) | exact jset_l (by assumption) (by omega) | exact jset_l (fun _ _ => rfl) (by omega) | exact fun _ _ => rfl | exact l_trans (by assumption) (by assumption)) (by first | assumption | omega | exact jset_b (by assumption) (by omega) | exact jset_l (by assumption) (by omega) | exact jset_l (fun _ _ => rfl) (by omega) | exact fun _ _ => rfl | exact l_trans (by assumption) (by assumption)) _ _ hP hD hS ls (lv_sub hl [0, 2, 3, 4] rfl)
  exact loop8 (Int.toNat (mn - mp1' - mw1' + 400) + 1) 0 r mp1' mw1' y3 y4 y5 (by omega) (Eq.trans (by rw [f_XM_spansP_s]; rw [← hwb]; try dsimp only; try rfl) rfl) (by first | assumption | omega | exact jset_b (by assumption) (by omega) | exact jset_l (by assumption) (by omega) | exact jset_l (fun _ _ => rfl) (by omega) | exact fun _ _ => rfl | exact l_trans (by assumption) (by assumption)) (by first | assumption | omega | exact jset_b (by assumption) (by omega) | exact jset_l (by assumption) (by omega) | exact jset_l (fun _ _ => rfl) (by omega) | exact fun _ _ => rfl | exact l_trans (by assumption) (by assumption)) (by first | assumption | omega | exact jset_b (by assumption) (by omega) | exact jset_l (by assumption) (by omega) | exact jset_l (fun _ _ => rfl) (by omega) | exact fun _ _ => rfl | exact l_trans (by assumption) (by assumption)) (by first | assumption | omega | exact jset_b (by assumption) (by omega) | exact jset_l (by assumption) (by omega) | exact jset_l (fun _ _ => rfl) (by omega) | exact fun _ _ => rfl | exact l_trans (by assumption) (by assumption)) (by first | assumption | omega | exact jset_b (by assumption) (by omega) | exact jset_l (by assumption) (by omega) | exact jset_l (fun _ _ => rfl) (by omega) | exact fun _ _ => rfl | exact l_trans (by assumption) (by assumption)) (by first | assumption | omega | exact jset_b (by assumption) (by omega) | exact jset_l (by assumption) (by omega) | exact jset_l (fun _ _ => rfl) (by omega) | exact fun _ _ => rfl | exact l_trans (by assumption) (by assumption)) (by first | assumption | omega | exact jset_b (by assumption) (by omega) | exact jset_l (by assumption) (by omega) | exact jset_l (fun _ _ => rfl) (by omega) | exact fun _ _ => rfl | exact l_trans (by assumption) (by assumption)) (by first | assumption | omega | exact jset_b (by assumption) (by omega) | exact jset_l (by assumption) (by omega) | exact jset_l (fun _ _ => rfl) (by omega) | exact fun _ _ => rfl | exact l_trans (by assumption) (by assumption)) (by first | assumption | omega | exact jset_b (by assumption) (by omega) | exact jset_l (by assumption) (by omega) | exact jset_l (fun _ _ => rfl) (by omega) | exact fun _ _ => rfl | exact l_trans (by assumption) (by assumption)) (by first | assumption | omega | exact jset_b (by assumption) (by omega) | exact jset_l (by assumption) (by omega) | exact jset_l (fun _ _ => rfl) (by omega) | exact fun _ _ => rfl | exact l_trans (by assumption) (by assumption)) _ _ hP hD hS ls (lv_sub hl [0, 1, 2, 3] rfl)
noncomputable def g_XM_routeRowP_L9 (mth : Int) (mn : Int) (mp : Int) (mw : Int) (mu : Int) (md : Int) (mo : Int) (y0 : Int → Int) : Nat → Int → Int → Int → Int → Int → Int → Int × Int × Int
  | 0, _, _, _, _, _, _ => (0, 0, 0)
  | n9 + 1, bt9, la, n9r, mo9, k, w =>
    if mo9 = 0 then
      (bt9, k, w)
    else
      if w < 0 then
        match f_XM_seeP mth mn k w mu md mo y0 with
        | (r, mp1') =>
          if (f_XM_in ((f_XM_here mth mn mp1' w mu md mo y0) - 48) 0 7) = 0 then
            if (f_XM_failP mth mn mp1' w mu md mo mp1') < 0 then
              match f_XM_seeP mth mn (mp1' + 1) (f_XM_failP mth mn mp1' w mu md mo mp1') mu md mo y0 with
              | (r9, mp1'10) =>
                g_XM_routeRowP_L9 mth mn mp mw mu md mo y0 n9 ((jI bt9 ||| jI ((jI 1 <<< (jI ((f_XM_here mth mn mp1' w mu md mo y0) - 48) &&& 31)).toInt)).toInt) ((f_XM_here mth mn mp1' w mu md mo y0) - 48) (n9r + 1) (f_XM_isDigit mth mn mp1'10 (f_XM_failP mth mn mp1' w mu md mo mp1') mu md mo y0) mp1'10 (f_XM_failP mth mn mp1' w mu md mo mp1')
            else
              (bt9, mp1', f_XM_failP mth mn mp1' w mu md mo mp1')
          else
            if la < ((f_XM_here mth mn mp1' w mu md mo y0) - 48) then
              if n9r = 4 then
                if (f_XM_failP mth mn mp1' w mu md mo mp1') < 0 then
                  match f_XM_seeP mth mn (mp1' + 1) (f_XM_failP mth mn mp1' w mu md mo mp1') mu md mo y0 with
                  | (r49, mp1'50) =>
                    g_XM_routeRowP_L9 mth mn mp mw mu md mo y0 n9 ((jI bt9 ||| jI ((jI 1 <<< (jI ((f_XM_here mth mn mp1' w mu md mo y0) - 48) &&& 31)).toInt)).toInt) ((f_XM_here mth mn mp1' w mu md mo y0) - 48) (n9r + 1) (f_XM_isDigit mth mn mp1'50 (f_XM_failP mth mn mp1' w mu md mo mp1') mu md mo y0) mp1'50 (f_XM_failP mth mn mp1' w mu md mo mp1')
                else
                  (bt9, mp1', f_XM_failP mth mn mp1' w mu md mo mp1')
              else
                if w < 0 then
                  match f_XM_seeP mth mn (mp1' + 1) w mu md mo y0 with
                  | (r35, mp1'36) =>
                    g_XM_routeRowP_L9 mth mn mp mw mu md mo y0 n9 ((jI bt9 ||| jI ((jI 1 <<< (jI ((f_XM_here mth mn mp1' w mu md mo y0) - 48) &&& 31)).toInt)).toInt) ((f_XM_here mth mn mp1' w mu md mo y0) - 48) (n9r + 1) (f_XM_isDigit mth mn mp1'36 w mu md mo y0) mp1'36 w
                else
                  (bt9, mp1', w)
            else
              if (f_XM_failP mth mn mp1' w mu md mo mp1') < 0 then
                match f_XM_seeP mth mn (mp1' + 1) (f_XM_failP mth mn mp1' w mu md mo mp1') mu md mo y0 with
                | (r23, mp1'24) =>
                  g_XM_routeRowP_L9 mth mn mp mw mu md mo y0 n9 ((jI bt9 ||| jI ((jI 1 <<< (jI ((f_XM_here mth mn mp1' w mu md mo y0) - 48) &&& 31)).toInt)).toInt) ((f_XM_here mth mn mp1' w mu md mo y0) - 48) (n9r + 1) (f_XM_isDigit mth mn mp1'24 (f_XM_failP mth mn mp1' w mu md mo mp1') mu md mo y0) mp1'24 (f_XM_failP mth mn mp1' w mu md mo mp1')
              else
                (bt9, mp1', f_XM_failP mth mn mp1' w mu md mo mp1')
      else
        (bt9, k, w)
noncomputable def f_XM_routeRowP_L9 : Int → Int → Int → Int → Int → Int → Int → (Int → Int) → Nat → Int → Int → Int → Int → Int → Int → Int × Int × Int := jopq g_XM_routeRowP_L9
theorem f_XM_routeRowP_L9_q : f_XM_routeRowP_L9 = g_XM_routeRowP_L9 := jopq_eq _
theorem f_XM_routeRowP_L9_s (mth : Int) (mn : Int) (mp : Int) (mw : Int) (mu : Int) (md : Int) (mo : Int) (y0 : Int → Int) (n9 : Nat) (bt9 : Int) (la : Int) (n9r : Int) (mo9 : Int) (k : Int) (w : Int) : f_XM_routeRowP_L9 mth mn mp mw mu md mo y0 (n9 + 1) bt9 la n9r mo9 k w = (
    if mo9 = 0 then
      (bt9, k, w)
    else
      if w < 0 then
        match f_XM_seeP mth mn k w mu md mo y0 with
        | (r, mp1') =>
          if (f_XM_in ((f_XM_here mth mn mp1' w mu md mo y0) - 48) 0 7) = 0 then
            if (f_XM_failP mth mn mp1' w mu md mo mp1') < 0 then
              match f_XM_seeP mth mn (mp1' + 1) (f_XM_failP mth mn mp1' w mu md mo mp1') mu md mo y0 with
              | (r9, mp1'10) =>
                f_XM_routeRowP_L9 mth mn mp mw mu md mo y0 n9 ((jI bt9 ||| jI ((jI 1 <<< (jI ((f_XM_here mth mn mp1' w mu md mo y0) - 48) &&& 31)).toInt)).toInt) ((f_XM_here mth mn mp1' w mu md mo y0) - 48) (n9r + 1) (f_XM_isDigit mth mn mp1'10 (f_XM_failP mth mn mp1' w mu md mo mp1') mu md mo y0) mp1'10 (f_XM_failP mth mn mp1' w mu md mo mp1')
            else
              (bt9, mp1', f_XM_failP mth mn mp1' w mu md mo mp1')
          else
            if la < ((f_XM_here mth mn mp1' w mu md mo y0) - 48) then
              if n9r = 4 then
                if (f_XM_failP mth mn mp1' w mu md mo mp1') < 0 then
                  match f_XM_seeP mth mn (mp1' + 1) (f_XM_failP mth mn mp1' w mu md mo mp1') mu md mo y0 with
                  | (r49, mp1'50) =>
                    f_XM_routeRowP_L9 mth mn mp mw mu md mo y0 n9 ((jI bt9 ||| jI ((jI 1 <<< (jI ((f_XM_here mth mn mp1' w mu md mo y0) - 48) &&& 31)).toInt)).toInt) ((f_XM_here mth mn mp1' w mu md mo y0) - 48) (n9r + 1) (f_XM_isDigit mth mn mp1'50 (f_XM_failP mth mn mp1' w mu md mo mp1') mu md mo y0) mp1'50 (f_XM_failP mth mn mp1' w mu md mo mp1')
                else
                  (bt9, mp1', f_XM_failP mth mn mp1' w mu md mo mp1')
              else
                if w < 0 then
                  match f_XM_seeP mth mn (mp1' + 1) w mu md mo y0 with
                  | (r35, mp1'36) =>
                    f_XM_routeRowP_L9 mth mn mp mw mu md mo y0 n9 ((jI bt9 ||| jI ((jI 1 <<< (jI ((f_XM_here mth mn mp1' w mu md mo y0) - 48) &&& 31)).toInt)).toInt) ((f_XM_here mth mn mp1' w mu md mo y0) - 48) (n9r + 1) (f_XM_isDigit mth mn mp1'36 w mu md mo y0) mp1'36 w
                else
                  (bt9, mp1', w)
            else
              if (f_XM_failP mth mn mp1' w mu md mo mp1') < 0 then
                match f_XM_seeP mth mn (mp1' + 1) (f_XM_failP mth mn mp1' w mu md mo mp1') mu md mo y0 with
                | (r23, mp1'24) =>
                  f_XM_routeRowP_L9 mth mn mp mw mu md mo y0 n9 ((jI bt9 ||| jI ((jI 1 <<< (jI ((f_XM_here mth mn mp1' w mu md mo y0) - 48) &&& 31)).toInt)).toInt) ((f_XM_here mth mn mp1' w mu md mo y0) - 48) (n9r + 1) (f_XM_isDigit mth mn mp1'24 (f_XM_failP mth mn mp1' w mu md mo mp1') mu md mo y0) mp1'24 (f_XM_failP mth mn mp1' w mu md mo mp1')
              else
                (bt9, mp1', f_XM_failP mth mn mp1' w mu md mo mp1')
      else
        (bt9, k, w)
  : Int × Int × Int) := by rw [f_XM_routeRowP_L9_q]; rfl
noncomputable def g_XM_routeRowP (mth : Int) (mn : Int) (mp : Int) (mw : Int) (mu : Int) (md : Int) (mo : Int) (y0 : Int → Int) : Int × Int × Int :=
  f_XM_routeRowP_L9 mth mn mp mw mu md mo y0 (Int.toNat (mn - mp) + 1) 0 (-1) 0 1 mp mw
noncomputable def f_XM_routeRowP : Int → Int → Int → Int → Int → Int → Int → (Int → Int) → Int × Int × Int := jopq g_XM_routeRowP
theorem f_XM_routeRowP_q : f_XM_routeRowP = g_XM_routeRowP := jopq_eq _
theorem f_XM_routeRowP_s (mth : Int) (mn : Int) (mp : Int) (mw : Int) (mu : Int) (md : Int) (mo : Int) (y0 : Int → Int) : f_XM_routeRowP mth mn mp mw mu md mo y0 = (
    f_XM_routeRowP_L9 mth mn mp mw mu md mo y0 (Int.toNat (mn - mp) + 1) 0 (-1) 0 1 mp mw
  : Int × Int × Int) := by rw [f_XM_routeRowP_q]; rfl
set_option maxHeartbeats 4000000 in
set_option maxRecDepth 100000 in
theorem c_XM_routeRowP (l : Launch) (dC : Nat → ClassId) (dI : Nat → Nat → Nat) (cA cZ : ClassId) (sz : Nat) (ma : Nat) (a0 : Nat) (a1 : Nat) (a2 : Nat) (a3 : Nat) (a4 : Nat) (a5 : Nat) (a6 : Nat) (a7 : Nat) (a8 : Nat) (a9 : Nat) (a10 : Nat) (a11 : Nat) (mth : Int) (mn : Int) (mp : Int) (mw : Int) (mu : Int) (md : Int) (mo : Int) (y0 : Int → Int) (hy0 : ∀ i, 0 ≤ y0 i ∧ y0 i ≤ 255) (hmn : 0 ≤ mn ∧ mn ≤ 400) (hmp : 0 ≤ mp ∧ mp ≤ mn) (hmw : -1 ≤ mw ∧ mw ≤ 400) : Met l yXM_routeRow (Cond.code yXM_routeRow cXM_routeRow 6 (some .int) :: TBL) ({ frames := 2, cells := 0, slots := 0, locals := 42 } : Room) (va_Pc [.ref ma] (jBw (dC, dI) [(cA, .int), (cZ, .boolean)] [(ma, .inr (5, [.int (jI mth), .int (jI mn), .ref a0, .int (jI mp), .int (jI mw), .ref a1, .ref a2, .ref a3, .ref a4, .ref a5, .ref a6, .ref a7, .ref a8, .ref a9, .ref a10, .long (jL mu), .long (jL md), .int (jI mo), .ref a11])), (a0, .inl (cA, 400, .inl (jA y0)))] sz)) (va_Qi (fun (r : Int32) (u : Int × Int × Int) => r = jI u.1 ∧ u = f_XM_routeRowP mth mn mp mw mu md mo y0 ∧ (i32 u.1) ∧ (mp ≤ u.2.1 ∧ u.2.1 ≤ mn) ∧ (-1 ≤ u.2.2 ∧ u.2.2 ≤ 400 ∧ mw ≤ u.2.2)) (fun u t => jE (dC, dI) [(cA, .int), (cZ, .boolean)] [(ma, .inr (5, [.int (jI mth), .int (jI mn), .ref a0, .int (jI mp), .int (jI mw), .ref a1, .ref a2, .ref a3, .ref a4, .ref a5, .ref a6, .ref a7, .ref a8, .ref a9, .ref a10, .long (jL mu), .long (jL md), .int (jI mo), .ref a11])), (a0, .inl (cA, 400, .inl (jA y0)))] sz [(ma, .inr (5, [.int (jI mth), .int (jI mn), .ref a0, .int (jI u.2.1), .int (jI u.2.2), .ref a1, .ref a2, .ref a3, .ref a4, .ref a5, .ref a6, .ref a7, .ref a8, .ref a9, .ref a10, .long (jL mu), .long (jL md), .int (jI mo), .ref a11])), (a0, .inl (cA, 400, .inl (jA y0)))] t) (va_A [(ma, .inr (5, [.int (jI mth), .int (jI mn), .ref a0, .int (jI mp), .int (jI mw), .ref a1, .ref a2, .ref a3, .ref a4, .ref a5, .ref a6, .ref a7, .ref a8, .ref a9, .ref a10, .long (jL mu), .long (jL md), .int (jI mo), .ref a11])), (a0, .inl (cA, 400, .inl (jA y0)))] sz)) 0 0 (va_A [(ma, .inr (5, [.int (jI mth), .int (jI mn), .ref a0, .int (jI mp), .int (jI mw), .ref a1, .ref a2, .ref a3, .ref a4, .ref a5, .ref a6, .ref a7, .ref a8, .ref a9, .ref a10, .long (jL mu), .long (jL md), .int (jI mo), .ref a11])), (a0, .inl (cA, 400, .inl (jA y0)))] sz) := by
  refine jMet (cc := cXM_routeRow) (maxL := 6) (ret := some .int) (by decide) rfl ?_
  intro p e s m args below meth c s₁ R Q hR hQ B hml hv
  obtain ⟨rfl, hsz, hP, hK, hD0, hN⟩ := hv
  have hx := B.exec
  have hb := B.bytes
  have hr := B.returns
  have hts := atoms_spec (ws := Cond.code yXM_routeRow cXM_routeRow 6 (some .int) :: TBL) B.pre
  have hown : s.vm.findClass RXM = some m.cls := findClass_of_methodNamed B.named
  have hlocks := B.notSynchronized
  subst hsz
  obtain ⟨A, hAe⟩ : ∃ A, A = va_A [(ma, .inr (5, [.int (jI mth), .int (jI mn), .ref a0, .int (jI mp), .int (jI mw), .ref a1, .ref a2, .ref a3, .ref a4, .ref a5, .ref a6, .ref a7, .ref a8, .ref a9, .ref a10, .long (jL mu), .long (jL md), .int (jI mo), .ref a11])), (a0, .inl (cA, 400, .inl (jA y0)))] s.heap.size := ⟨_, rfl⟩
  have hD : va_D A [(ma, .inr (5, [.int (jI mth), .int (jI mn), .ref a0, .int (jI mp), .int (jI mw), .ref a1, .ref a2, .ref a3, .ref a4, .ref a5, .ref a6, .ref a7, .ref a8, .ref a9, .ref a10, .long (jL mu), .long (jL md), .int (jI mo), .ref a11])), (a0, .inl (cA, 400, .inl (jA y0)))] := by rw [hAe]; exact hD0.self
  have hA : ∀ q : Nat, s.heap.size ≤ q → A q := fun q h => by rw [hAe]; exact Or.inr h
  have hS : va_S A s.heap s.heap [] := va_S.rf
  have hP : va_P (dC, dI) vwCl [(ma, .inr (5, [.int (jI mth), .int (jI mn), .ref a0, .int (jI mp), .int (jI mw), .ref a1, .ref a2, .ref a3, .ref a4, .ref a5, .ref a6, .ref a7, .ref a8, .ref a9, .ref a10, .long (jL mu), .long (jL md), .int (jI mo), .ref a11])), (a0, .inl (cA, 400, .inl (jA y0)))] s.heap := hP
  have hl := lv_entry ([.ref ma]) (n := 6) (Nat.le_of_ble_eq_true rfl)
  rw [lg_entry_eq]
  generalize (lg_sl ([.ref ma]) ++ List.replicate (6 - (lg_sl ([.ref ma])).length) Slot.unset).toArray = ls at hl ⊢
  have hl : lv_has ls 6 [(0, .ref ma)] := hl
  refine ji_iconst hx hb dXM_routeRow_0 ?_
  refine lv_istore_n (lv' := [(1, .int (jI 0)), (0, .ref ma)]) hx hb dXM_routeRow_1 rfl hl (by decide) rfl (fun ls hl => ?_)
  refine ji_iconst hx hb dXM_routeRow_2 ?_
  refine lv_istore_n (lv' := [(2, .int (jI (-1))), (1, .int (jI 0)), (0, .ref ma)]) hx hb dXM_routeRow_3 rfl hl (by decide) rfl (fun ls hl => ?_)
  refine ji_iconst hx hb dXM_routeRow_4 ?_
  refine lv_istore_n (lv' := [(3, .int (jI 0)), (2, .int (jI (-1))), (1, .int (jI 0)), (0, .ref ma)]) hx hb dXM_routeRow_5 rfl hl (by decide) rfl (fun ls hl => ?_)
  refine ji_iconst hx hb dXM_routeRow_6 ?_
  refine lv_istore (lv' := [(4, .int (jI 1)), (3, .int (jI 0)), (2, .int (jI (-1))), (1, .int (jI 0)), (0, .ref ma)]) hx hb dXM_routeRow_7 hl (by decide) rfl (fun ls hl => ?_)
  have loop9 : ∀ (n9 : Nat) (bt9 : Int) (la : Int) (n9r : Int) (mo9 : Int) (k : Int) (w : Int) , mn - k < (n9 : Int) → f_XM_routeRowP_L9 mth mn mp mw mu md mo y0 n9 bt9 la n9r mo9 k w = f_XM_routeRowP mth mn mp mw mu md mo y0 → (i32 bt9) → (-1 ≤ la ∧ la ≤ 7) → (0 ≤ n9r ∧ n9r ≤ 4) → (0 ≤ mo9 ∧ mo9 ≤ 1) → (mp ≤ k ∧ k ≤ mn) → (-1 ≤ w ∧ w ≤ 400 ∧ mw ≤ w) → ∀ (H : Heap) (locs : List Loc), va_P (dC, dI) vwCl [(ma, .inr (5, [.int (jI mth), .int (jI mn), .ref a0, .int (jI k), .int (jI w), .ref a1, .ref a2, .ref a3, .ref a4, .ref a5, .ref a6, .ref a7, .ref a8, .ref a9, .ref a10, .long (jL mu), .long (jL md), .int (jI mo), .ref a11])), (a0, .inl (cA, 400, .inl (jA y0)))] H → va_D A [(ma, .inr (5, [.int (jI mth), .int (jI mn), .ref a0, .int (jI k), .int (jI w), .ref a1, .ref a2, .ref a3, .ref a4, .ref a5, .ref a6, .ref a7, .ref a8, .ref a9, .ref a10, .long (jL mu), .long (jL md), .int (jI mo), .ref a11])), (a0, .inl (cA, 400, .inl (jA y0)))] → va_S A s.heap H locs → ∀ ls : Array Slot, lv_has ls 6 [(4, .int (jI mo9)), (3, .int (jI n9r)), (2, .int (jI la)), (1, .int (jI bt9)), (0, .ref ma)] → W p l e R s m ([.ref ma] : List Value).toArray below meth c H locs 0 0 Q (F0 m 9 ls []) := by
    intro n9
    induction n9 with
    | zero =>
      intro bt9 la n9r mo9 k w hm hF hbt hla hn9 hmo9 hk hw
      exact absurd hm (by omega)
    | succ n9 ih9 =>
      intro bt9 la n9r mo9 k w hm hF hbt hla hn9 hmo9 hk hw H locs hP hD hS ls hl
      refine lv_iload hx hb dXM_routeRow_9 (lv_at hl 0 rfl) ?_
      refine ji_if_eq (tgt := 111) hx hb dXM_routeRow_11 (by decide) (by omega) (fun c11_ => ?_) (fun c11_ => ?_)
      · refine lv_iload_n hx hb dXM_routeRow_111 rfl (lv_at hl 3 rfl) ?_
        have hP9 := hP.sub (ws' := [(ma, .inr (5, [.int (jI mth), .int (jI mn), .ref a0, .int (jI k), .int (jI w), .ref a1, .ref a2, .ref a3, .ref a4, .ref a5, .ref a6, .ref a7, .ref a8, .ref a9, .ref a10, .long (jL mu), .long (jL md), .int (jI mo), .ref a11])), (a0, .inl (cA, 400, .inl (jA y0)))]) [0, 1] rfl
        have hD9 := hD.sub (ws' := [(ma, .inr (5, [.int (jI mth), .int (jI mn), .ref a0, .int (jI k), .int (jI w), .ref a1, .ref a2, .ref a3, .ref a4, .ref a5, .ref a6, .ref a7, .ref a8, .ref a9, .ref a10, .long (jL mu), .long (jL md), .int (jI mo), .ref a11])), (a0, .inl (cA, 400, .inl (jA y0)))]) [0, 1] (by decide) rfl
        subst hAe
        subst hQ
        exact W.iret (v := jI bt9) hx hb hr (fun t ht hW => ⟨⟨_, (bt9, k, w), rfl, ⟨rfl, Eq.trans (by rw [f_XM_routeRowP_L9_s]; rw [if_pos c11_]; try rfl) hF, show i32 bt9 from by first | assumption | omega | exact jset_b (by assumption) (by omega) | exact jset_l (by assumption) (by omega) | exact jset_l (fun _ _ => rfl) (by omega) | exact fun _ _ => rfl | exact l_trans (by assumption) (by assumption), show mp ≤ k ∧ k ≤ mn from by first | assumption | omega | exact jset_b (by assumption) (by omega) | exact jset_l (by assumption) (by omega) | exact jset_l (fun _ _ => rfl) (by omega) | exact fun _ _ => rfl | exact l_trans (by assumption) (by assumption), show -1 ≤ w ∧ w ≤ 400 ∧ mw ≤ w from by first | assumption | omega | exact jset_b (by assumption) (by omega) | exact jset_l (by assumption) (by omega) | exact jset_l (fun _ _ => rfl) (by omega) | exact fun _ _ => rfl | exact l_trans (by assumption) (by assumption)⟩, ⟨by rw [ht]; exact hP9, va_K.moved hW.alike hK, hD9⟩⟩, hS.F ht⟩) hS.2.2 dXM_routeRow_112
      · refine lv_aload_n hx hb dXM_routeRow_14 rfl (lv_at hl 4 rfl) ?_
        refine va_get (D := (dC, dI)) (ci := 5) (v := .int (jI w)) (C := RXM) (T := TXM) (N := 19) hx hb hts (fun w h => jmem (inXM w h)) hown hK hP 0 rfl rfl 4 (by decide) (hts _ (jmem tw_632)) (fun _ h9 => h9) rfl dXM_routeRow_15 ?_
        refine ji_if_ge (tgt := 111) hx hb dXM_routeRow_18 (by decide) (by omega) (fun c18_ => ?_) (fun c18_ => ?_)
        · refine lv_iload_n hx hb dXM_routeRow_111 rfl (lv_at hl 3 rfl) ?_
          have hP9 := hP.sub (ws' := [(ma, .inr (5, [.int (jI mth), .int (jI mn), .ref a0, .int (jI k), .int (jI w), .ref a1, .ref a2, .ref a3, .ref a4, .ref a5, .ref a6, .ref a7, .ref a8, .ref a9, .ref a10, .long (jL mu), .long (jL md), .int (jI mo), .ref a11])), (a0, .inl (cA, 400, .inl (jA y0)))]) [0, 1] rfl
          have hD9 := hD.sub (ws' := [(ma, .inr (5, [.int (jI mth), .int (jI mn), .ref a0, .int (jI k), .int (jI w), .ref a1, .ref a2, .ref a3, .ref a4, .ref a5, .ref a6, .ref a7, .ref a8, .ref a9, .ref a10, .long (jL mu), .long (jL md), .int (jI mo), .ref a11])), (a0, .inl (cA, 400, .inl (jA y0)))]) [0, 1] (by decide) rfl
          subst hAe
          subst hQ
          exact W.iret (v := jI bt9) hx hb hr (fun t ht hW => ⟨⟨_, (bt9, k, w), rfl, ⟨rfl, Eq.trans (by rw [f_XM_routeRowP_L9_s]; rw [if_neg c11_, if_neg (Int.not_lt.mpr c18_)]; try rfl) hF, show i32 bt9 from by first | assumption | omega | exact jset_b (by assumption) (by omega) | exact jset_l (by assumption) (by omega) | exact jset_l (fun _ _ => rfl) (by omega) | exact fun _ _ => rfl | exact l_trans (by assumption) (by assumption), show mp ≤ k ∧ k ≤ mn from by first | assumption | omega | exact jset_b (by assumption) (by omega) | exact jset_l (by assumption) (by omega) | exact jset_l (fun _ _ => rfl) (by omega) | exact fun _ _ => rfl | exact l_trans (by assumption) (by assumption), show -1 ≤ w ∧ w ≤ 400 ∧ mw ≤ w from by first | assumption | omega | exact jset_b (by assumption) (by omega) | exact jset_l (by assumption) (by omega) | exact jset_l (fun _ _ => rfl) (by omega) | exact fun _ _ => rfl | exact l_trans (by assumption) (by assumption)⟩, ⟨by rw [ht]; exact hP9, va_K.moved hW.alike hK, hD9⟩⟩, hS.F ht⟩) hS.2.2 dXM_routeRow_112
        · refine lv_aload_n hx hb dXM_routeRow_21 rfl (lv_at hl 4 rfl) ?_
          refine jwVi (rest := []) (wr := []) ⟨hx, hb, hml, hown, hts⟩ (c_XM_seeP l dC dI cA cZ _ ma a0 a1 a2 a3 a4 a5 a6 a7 a8 a9 a10 a11 mth mn k w mu md mo y0 (by first | assumption | omega) (by first | assumption | omega) (by first | assumption | omega)) (cwV 0 hts (jG_V tw_710 tw_712 ts_16 tw_6 tw_713) rfl rfl rfl (by decide +kernel) (by rw [hR]; exact ⟨Nat.le_of_ble_eq_true rfl, Nat.le_of_ble_eq_true rfl⟩)) hK hP hD hS hA hN [0, 1] [] rfl rfl (by decide) (by decide) (by decide) 0 5 rfl rfl rfl rfl hl.1 rfl (Nat.le_of_ble_eq_true rfl) dXM_routeRow_22 (by rw [hR]; exact ⟨Nat.le_of_ble_eq_true rfl, Nat.le_of_ble_eq_true rfl⟩) (fun v u H locs hwb hP hD hS => ?_)
          obtain ⟨r, mp1'⟩ := u
          try dsimp only at hwb
          obtain ⟨er, hwb, f, f1, f2⟩ := hwb
          subst er
          have f : -1 ≤ r ∧ r ≤ 255 ∧ (0 ≤ r → mp1' < mn) := f
          have f1 : k ≤ mp1' ∧ mp1' ≤ mn := f1
          have f2 : (mp1' < mn ∧ r = y0 mp1') ∨ (mp1' = mn ∧ r = -1) := f2
          have hP : va_P (dC, dI) vwCl [(ma, .inr (5, [.int (jI mth), .int (jI mn), .ref a0, .int (jI mp1'), .int (jI w), .ref a1, .ref a2, .ref a3, .ref a4, .ref a5, .ref a6, .ref a7, .ref a8, .ref a9, .ref a10, .long (jL mu), .long (jL md), .int (jI mo), .ref a11])), (a0, .inl (cA, 400, .inl (jA y0)))] H := hP
          have hD : va_D A [(ma, .inr (5, [.int (jI mth), .int (jI mn), .ref a0, .int (jI mp1'), .int (jI w), .ref a1, .ref a2, .ref a3, .ref a4, .ref a5, .ref a6, .ref a7, .ref a8, .ref a9, .ref a10, .long (jL mu), .long (jL md), .int (jI mo), .ref a11])), (a0, .inl (cA, 400, .inl (jA y0)))] := hD
          refine lv_pop hx hb dXM_routeRow_25 rfl ?_
          refine lv_aload_n hx hb dXM_routeRow_26 rfl (lv_at hl 4 rfl) ?_
          refine jrVi (rest := []) ⟨hx, hb, hml, hown, hts⟩ (c_XM_here l dC dI cA cZ ma a0 a1 a2 a3 a4 a5 a6 a7 a8 a9 a10 a11 mth mn mp1' w mu md mo y0 (by first | assumption | omega) (by first | assumption | omega) (by first | assumption | omega)) (cwV 0 hts (jG_V tw_714 tw_716 ts_17 tw_6 tw_717) rfl rfl rfl (by decide +kernel) (by rw [hR]; exact ⟨Nat.le_of_ble_eq_true rfl, Nat.le_of_ble_eq_true rfl⟩)) hK hP hN [0, 1] rfl 0 5 rfl rfl rfl rfl hl.1 rfl (Nat.le_of_ble_eq_true rfl) dXM_routeRow_27 (by rw [hR]; exact ⟨Nat.le_of_ble_eq_true rfl, Nat.le_of_ble_eq_true rfl⟩) ?_
          have f3 := f_XM_here_b mth mn mp1' w mu md mo y0 (by first | assumption | omega) (by first | assumption | omega) (by first | assumption | omega)
          have f4 := f_XM_here_v mth mn mp1' w mu md mo y0 (by first | assumption | omega) (by first | assumption | omega) (by first | assumption | omega)
          refine ji_bipush hx hb dXM_routeRow_30 (by decide) ?_
          refine ji_isub hx hb dXM_routeRow_32 ?_
          refine lv_istore (lv' := [(5, .int (jI ((f_XM_here mth mn mp1' w mu md mo y0) - 48))), (4, .int (jI mo9)), (3, .int (jI n9r)), (2, .int (jI la)), (1, .int (jI bt9)), (0, .ref ma)]) hx hb dXM_routeRow_33 hl (by decide) rfl (fun ls hl => ?_)
          refine lv_iload hx hb dXM_routeRow_35 (lv_at hl 0 rfl) ?_
          refine ji_iconst hx hb dXM_routeRow_37 ?_
          refine ji_bipush hx hb dXM_routeRow_38 (by decide) ?_
          refine jrSi (rest := []) ⟨hx, hb, hml, hown, hts⟩ (c_XM_in l dC dI cA cZ ((f_XM_here mth mn mp1' w mu md mo y0) - 48) 0 7 (by first | assumption | omega) (by first | assumption | omega) (by first | assumption | omega)) (cwS 3 hts (jG_S tw_695 tw_696 tw_6 tw_697) rfl rfl rfl (by decide +kernel) (by rw [hR]; exact ⟨Nat.le_of_ble_eq_true rfl, Nat.le_of_ble_eq_true rfl⟩)) hK hP hN [] rfl rfl hl.1 rfl (Nat.le_of_ble_eq_true rfl) dXM_routeRow_40 (by rw [hR]; exact ⟨Nat.le_of_ble_eq_true rfl, Nat.le_of_ble_eq_true rfl⟩) ?_
          have f5 := f_XM_in_b ((f_XM_here mth mn mp1' w mu md mo y0) - 48) 0 7 (by first | assumption | omega) (by first | assumption | omega) (by first | assumption | omega)
          refine ji_if_eq (tgt := 57) hx hb dXM_routeRow_43 (by decide) (by omega) (fun c43_ => ?_) (fun c43_ => ?_)
          · refine lv_aload_n hx hb dXM_routeRow_57 rfl (lv_at hl 5 rfl) ?_
            refine lv_aload_n hx hb dXM_routeRow_58 rfl (lv_at hl 5 rfl) ?_
            refine va_get (D := (dC, dI)) (ci := 5) (v := .int (jI mp1')) (C := RXM) (T := TXM) (N := 19) hx hb hts (fun w h => jmem (inXM w h)) hown hK hP 0 rfl rfl 3 (by decide) (hts _ (jmem tw_631)) (fun _ h9 => h9) rfl dXM_routeRow_59 ?_
            refine jwVv (rest := []) (wr := [(a0, .inl (cA, 400, .inl (jA y0)))]) ⟨hx, hb, hml, hown, hts⟩ (c_XM_failP l dC dI cA cZ _ ma a0 a1 a2 a3 a4 a5 a6 a7 a8 a9 a10 a11 mth mn mp1' w mu md mo mp1' (by first | assumption | omega) (by first | assumption | omega)) (cwV 1 hts (jG_V tw_734 tw_736 ts_22 tw_6 tw_737) rfl rfl rfl (by decide +kernel) (by rw [hR]; exact ⟨Nat.le_of_ble_eq_true rfl, Nat.le_of_ble_eq_true rfl⟩)) hK hP hD hS hA hN [0] [1] rfl rfl (by decide) (by decide) (by decide) 0 5 rfl rfl rfl rfl hl.1 rfl (Nat.le_of_ble_eq_true rfl) dXM_routeRow_62 (by rw [hR]; exact ⟨Nat.le_of_ble_eq_true rfl, Nat.le_of_ble_eq_true rfl⟩) (fun u6 H locs hw hP hD hS => ?_)
            obtain ⟨hw, f7⟩ := hw
            subst hw
            have f7 : (0 ≤ w ∧ (f_XM_failP mth mn mp1' w mu md mo mp1') = w) ∨ (w < 0 ∧ (f_XM_failP mth mn mp1' w mu md mo mp1') = mp1') := f7
            have hP : va_P (dC, dI) vwCl [(a0, .inl (cA, 400, .inl (jA y0))), (ma, .inr (5, [.int (jI mth), .int (jI mn), .ref a0, .int (jI mp1'), .int (jI (f_XM_failP mth mn mp1' w mu md mo mp1')), .ref a1, .ref a2, .ref a3, .ref a4, .ref a5, .ref a6, .ref a7, .ref a8, .ref a9, .ref a10, .long (jL mu), .long (jL md), .int (jI mo), .ref a11]))] H := hP
            have hD : va_D A [(a0, .inl (cA, 400, .inl (jA y0))), (ma, .inr (5, [.int (jI mth), .int (jI mn), .ref a0, .int (jI mp1'), .int (jI (f_XM_failP mth mn mp1' w mu md mo mp1')), .ref a1, .ref a2, .ref a3, .ref a4, .ref a5, .ref a6, .ref a7, .ref a8, .ref a9, .ref a10, .long (jL mu), .long (jL md), .int (jI mo), .ref a11]))] := hD
            refine lv_aload_n hx hb dXM_routeRow_65 rfl (lv_at hl 5 rfl) ?_
            refine va_get (D := (dC, dI)) (ci := 5) (v := .int (jI (f_XM_failP mth mn mp1' w mu md mo mp1'))) (C := RXM) (T := TXM) (N := 19) hx hb hts (fun w h => jmem (inXM w h)) hown hK hP 1 rfl rfl 4 (by decide) (hts _ (jmem tw_632)) (fun _ h9 => h9) rfl dXM_routeRow_66 ?_
            refine ji_if_lt (tgt := 74) hx hb dXM_routeRow_69 (by decide) (by omega) (fun c69_ => ?_) (fun c69_ => ?_)
            · refine lv_iload_n hx hb dXM_routeRow_74 rfl (lv_at hl 4 rfl) ?_
              refine ji_iconst hx hb dXM_routeRow_75 ?_
              refine lv_iload hx hb dXM_routeRow_76 (lv_at hl 0 rfl) ?_
              refine lv_ishl hx hb dXM_routeRow_78 ?_
              refine ji_rev ?_
              have rb := jti32 (jI 1 <<< (jI ((f_XM_here mth mn mp1' w mu md mo y0) - 48) &&& 31))
              refine lv_ior hx hb dXM_routeRow_79 ?_
              refine ji_rev ?_
              have rb8 := jti32 (jI bt9 ||| jI ((jI 1 <<< (jI ((f_XM_here mth mn mp1' w mu md mo y0) - 48) &&& 31)).toInt))
              refine lv_istore_n (lv' := [(1, .int (jI ((jI bt9 ||| jI ((jI 1 <<< (jI ((f_XM_here mth mn mp1' w mu md mo y0) - 48) &&& 31)).toInt)).toInt))), (5, .int (jI ((f_XM_here mth mn mp1' w mu md mo y0) - 48))), (4, .int (jI mo9)), (3, .int (jI n9r)), (2, .int (jI la)), (0, .ref ma)]) hx hb dXM_routeRow_80 rfl hl (by decide) rfl (fun ls hl => ?_)
              refine lv_iload hx hb dXM_routeRow_81 (lv_at hl 1 rfl) ?_
              refine lv_istore_n (lv' := [(2, .int (jI ((f_XM_here mth mn mp1' w mu md mo y0) - 48))), (1, .int (jI ((jI bt9 ||| jI ((jI 1 <<< (jI ((f_XM_here mth mn mp1' w mu md mo y0) - 48) &&& 31)).toInt)).toInt))), (5, .int (jI ((f_XM_here mth mn mp1' w mu md mo y0) - 48))), (4, .int (jI mo9)), (3, .int (jI n9r)), (0, .ref ma)]) hx hb dXM_routeRow_83 rfl hl (by decide) rfl (fun ls hl => ?_)
              refine ji_iinc (k := 4) (lv' := [(3, .int (jI (n9r + 1))), (2, .int (jI ((f_XM_here mth mn mp1' w mu md mo y0) - 48))), (1, .int (jI ((jI bt9 ||| jI ((jI 1 <<< (jI ((f_XM_here mth mn mp1' w mu md mo y0) - 48) &&& 31)).toInt)).toInt))), (5, .int (jI ((f_XM_here mth mn mp1' w mu md mo y0) - 48))), (4, .int (jI mo9)), (0, .ref ma)]) hx hb dXM_routeRow_84 hl rfl (by decide) rfl (fun ls hl => ?_)
              refine lv_aload_n hx hb dXM_routeRow_87 rfl (lv_at hl 5 rfl) ?_
              refine lv_dup hx hb dXM_routeRow_88 rfl ?_
              refine va_get (D := (dC, dI)) (ci := 5) (v := .int (jI mp1')) (C := RXM) (T := TXM) (N := 19) hx hb hts (fun w h => jmem (inXM w h)) hown hK hP 1 rfl rfl 3 (by decide) (hts _ (jmem tw_631)) (fun _ h9 => h9) rfl dXM_routeRow_89 ?_
              refine ji_iconst hx hb dXM_routeRow_92 ?_
              refine ji_iadd hx hb dXM_routeRow_93 ?_
              refine va_put (D := (dC, dI)) (ci := 5) (v := .int (jI (mp1' + 1))) (ty := (.int)) (C := RXM) (T := TXM) (N := 19) hx hb hts (fun w h => jmem (inXM w h)) tyXM tyXM_ok nXM hown hK hP hD hS 1 rfl rfl 3 (by decide) (hts _ (jmem tw_631)) (fun _ h9 => h9) rfl (by decide +kernel) rfl rfl (Nat.le_of_ble_eq_true rfl) dXM_routeRow_94 (fun H locs hP hD hS => ?_)
              have hP : va_P (dC, dI) vwCl [(a0, .inl (cA, 400, .inl (jA y0))), (ma, .inr (5, [.int (jI mth), .int (jI mn), .ref a0, .int (jI (mp1' + 1)), .int (jI (f_XM_failP mth mn mp1' w mu md mo mp1')), .ref a1, .ref a2, .ref a3, .ref a4, .ref a5, .ref a6, .ref a7, .ref a8, .ref a9, .ref a10, .long (jL mu), .long (jL md), .int (jI mo), .ref a11]))] H := hP
              have hD : va_D A [(a0, .inl (cA, 400, .inl (jA y0))), (ma, .inr (5, [.int (jI mth), .int (jI mn), .ref a0, .int (jI (mp1' + 1)), .int (jI (f_XM_failP mth mn mp1' w mu md mo mp1')), .ref a1, .ref a2, .ref a3, .ref a4, .ref a5, .ref a6, .ref a7, .ref a8, .ref a9, .ref a10, .long (jL mu), .long (jL md), .int (jI mo), .ref a11]))] := hD
              refine lv_aload_n hx hb dXM_routeRow_97 rfl (lv_at hl 5 rfl) ?_
              refine jwVi (rest := []) (wr := []) ⟨hx, hb, hml, hown, hts⟩ (c_XM_seeP l dC dI cA cZ _ ma a0 a1 a2 a3 a4 a5 a6 a7 a8 a9 a10 a11 mth mn (mp1' + 1) (f_XM_failP mth mn mp1' w mu md mo mp1') mu md mo y0 (by first | assumption | omega) (by first | assumption | omega) (by first | assumption | omega)) (cwV 0 hts (jG_V tw_710 tw_712 ts_16 tw_6 tw_713) rfl rfl rfl (by decide +kernel) (by rw [hR]; exact ⟨Nat.le_of_ble_eq_true rfl, Nat.le_of_ble_eq_true rfl⟩)) hK hP hD hS hA hN [1, 0] [] rfl rfl (by decide) (by decide) (by decide) 1 5 rfl rfl rfl rfl hl.1 rfl (Nat.le_of_ble_eq_true rfl) dXM_routeRow_98 (by rw [hR]; exact ⟨Nat.le_of_ble_eq_true rfl, Nat.le_of_ble_eq_true rfl⟩) (fun v12 u11 H locs hwb13 hP hD hS => ?_)
              obtain ⟨r9, mp1'10⟩ := u11
              try dsimp only at hwb13
              obtain ⟨er, hwb13, f14, f15, f16⟩ := hwb13
              subst er
              have f14 : -1 ≤ r9 ∧ r9 ≤ 255 ∧ (0 ≤ r9 → mp1'10 < mn) := f14
              have f15 : (mp1' + 1) ≤ mp1'10 ∧ mp1'10 ≤ mn := f15
              have f16 : (mp1'10 < mn ∧ r9 = y0 mp1'10) ∨ (mp1'10 = mn ∧ r9 = -1) := f16
              have hP : va_P (dC, dI) vwCl [(ma, .inr (5, [.int (jI mth), .int (jI mn), .ref a0, .int (jI mp1'10), .int (jI (f_XM_failP mth mn mp1' w mu md mo mp1')), .ref a1, .ref a2, .ref a3, .ref a4, .ref a5, .ref a6, .ref a7, .ref a8, .ref a9, .ref a10, .long (jL mu), .long (jL md), .int (jI mo), .ref a11])), (a0, .inl (cA, 400, .inl (jA y0)))] H := hP
              have hD : va_D A [(ma, .inr (5, [.int (jI mth), .int (jI mn), .ref a0, .int (jI mp1'10), .int (jI (f_XM_failP mth mn mp1' w mu md mo mp1')), .ref a1, .ref a2, .ref a3, .ref a4, .ref a5, .ref a6, .ref a7, .ref a8, .ref a9, .ref a10, .long (jL mu), .long (jL md), .int (jI mo), .ref a11])), (a0, .inl (cA, 400, .inl (jA y0)))] := hD
              refine lv_pop hx hb dXM_routeRow_101 rfl ?_
              refine lv_aload_n hx hb dXM_routeRow_102 rfl (lv_at hl 5 rfl) ?_
              refine jrVi (rest := []) ⟨hx, hb, hml, hown, hts⟩ (c_XM_isDigit l dC dI cA cZ ma a0 a1 a2 a3 a4 a5 a6 a7 a8 a9 a10 a11 mth mn mp1'10 (f_XM_failP mth mn mp1' w mu md mo mp1') mu md mo y0 (by first | assumption | omega) (by first | assumption | omega) (by first | assumption | omega)) (cwV 0 hts (jG_V tw_730 tw_732 ts_21 tw_6 tw_733) rfl rfl rfl (by decide +kernel) (by rw [hR]; exact ⟨Nat.le_of_ble_eq_true rfl, Nat.le_of_ble_eq_true rfl⟩)) hK hP hN [0, 1] rfl 0 5 rfl rfl rfl rfl hl.1 rfl (Nat.le_of_ble_eq_true rfl) dXM_routeRow_103 (by rw [hR]; exact ⟨Nat.le_of_ble_eq_true rfl, Nat.le_of_ble_eq_true rfl⟩) ?_
              have f17 := f_XM_isDigit_b mth mn mp1'10 (f_XM_failP mth mn mp1' w mu md mo mp1') mu md mo y0 (by first | assumption | omega) (by first | assumption | omega) (by first | assumption | omega)
              refine lv_istore (lv' := [(4, .int (jI (f_XM_isDigit mth mn mp1'10 (f_XM_failP mth mn mp1' w mu md mo mp1') mu md mo y0))), (3, .int (jI (n9r + 1))), (2, .int (jI ((f_XM_here mth mn mp1' w mu md mo y0) - 48))), (1, .int (jI ((jI bt9 ||| jI ((jI 1 <<< (jI ((f_XM_here mth mn mp1' w mu md mo y0) - 48) &&& 31)).toInt)).toInt))), (5, .int (jI ((f_XM_here mth mn mp1' w mu md mo y0) - 48))), (0, .ref ma)]) hx hb dXM_routeRow_106 hl (by decide) rfl (fun ls hl => ?_)
              refine lv_goto (tgt := 9) hx hb dXM_routeRow_108 (by decide) ?_
              exact ih9 ((jI bt9 ||| jI ((jI 1 <<< (jI ((f_XM_here mth mn mp1' w mu md mo y0) - 48) &&& 31)).toInt)).toInt) ((f_XM_here mth mn mp1' w mu md mo y0) - 48) (n9r + 1) (f_XM_isDigit mth mn mp1'10 (f_XM_failP mth mn mp1' w mu md mo mp1') mu md mo y0) mp1'10 (f_XM_failP mth mn mp1' w mu md mo mp1') (by omega) (Eq.trans (by rw [f_XM_routeRowP_L9_s]; rw [if_neg c11_, if_pos c18_]; rw [← hwb]; try dsimp only; rw [if_pos c43_, if_pos c69_]; rw [← hwb13]; try dsimp only; try rfl) hF) (by first | assumption | omega) (by first | assumption | omega) (by first | assumption | omega) (by first | assumption | omega) (by first | assumption | omega) (by first | assumption | omega) _ _ hP hD hS ls (lv_sub hl [0, 1, 2, 3, 5] rfl)
            · refine lv_iload_n hx hb dXM_routeRow_72 rfl (lv_at hl 4 rfl) ?_
              have hP9 := hP.sub (ws' := [(ma, .inr (5, [.int (jI mth), .int (jI mn), .ref a0, .int (jI mp1'), .int (jI (f_XM_failP mth mn mp1' w mu md mo mp1')), .ref a1, .ref a2, .ref a3, .ref a4, .ref a5, .ref a6, .ref a7, .ref a8, .ref a9, .ref a10, .long (jL mu), .long (jL md), .int (jI mo), .ref a11])), (a0, .inl (cA, 400, .inl (jA y0)))]) [1, 0] rfl
              have hD9 := hD.sub (ws' := [(ma, .inr (5, [.int (jI mth), .int (jI mn), .ref a0, .int (jI mp1'), .int (jI (f_XM_failP mth mn mp1' w mu md mo mp1')), .ref a1, .ref a2, .ref a3, .ref a4, .ref a5, .ref a6, .ref a7, .ref a8, .ref a9, .ref a10, .long (jL mu), .long (jL md), .int (jI mo), .ref a11])), (a0, .inl (cA, 400, .inl (jA y0)))]) [1, 0] (by decide) rfl
              subst hAe
              subst hQ
              exact W.iret (v := jI bt9) hx hb hr (fun t ht hW => ⟨⟨_, (bt9, mp1', f_XM_failP mth mn mp1' w mu md mo mp1'), rfl, ⟨rfl, Eq.trans (by rw [f_XM_routeRowP_L9_s]; rw [if_neg c11_, if_pos c18_]; rw [← hwb]; try dsimp only; rw [if_pos c43_, if_neg (Int.not_lt.mpr c69_)]; try rfl) hF, show i32 bt9 from by first | assumption | omega | exact jset_b (by assumption) (by omega) | exact jset_l (by assumption) (by omega) | exact jset_l (fun _ _ => rfl) (by omega) | exact fun _ _ => rfl | exact l_trans (by assumption) (by assumption), show mp ≤ mp1' ∧ mp1' ≤ mn from by first | assumption | omega | exact jset_b (by assumption) (by omega) | exact jset_l (by assumption) (by omega) | exact jset_l (fun _ _ => rfl) (by omega) | exact fun _ _ => rfl | exact l_trans (by assumption) (by assumption), show -1 ≤ (f_XM_failP mth mn mp1' w mu md mo mp1') ∧ (f_XM_failP mth mn mp1' w mu md mo mp1') ≤ 400 ∧ mw ≤ (f_XM_failP mth mn mp1' w mu md mo mp1') from by first | assumption | omega | exact jset_b (by assumption) (by omega) | exact jset_l (by assumption) (by omega) | exact jset_l (fun _ _ => rfl) (by omega) | exact fun _ _ => rfl | exact l_trans (by assumption) (by assumption)⟩, ⟨by rw [ht]; exact hP9, va_K.moved hW.alike hK, hD9⟩⟩, hS.F ht⟩) hS.2.2 dXM_routeRow_73
          · refine lv_iload hx hb dXM_routeRow_46 (lv_at hl 0 rfl) ?_
            refine lv_iload_n hx hb dXM_routeRow_48 rfl (lv_at hl 3 rfl) ?_
            refine ji_icmp_le (tgt := 57) hx hb dXM_routeRow_49 (by decide) (by omega) (by omega) (fun c49_ => ?_) (fun c49_ => ?_)
            · refine lv_aload_n hx hb dXM_routeRow_57 rfl (lv_at hl 5 rfl) ?_
              refine lv_aload_n hx hb dXM_routeRow_58 rfl (lv_at hl 5 rfl) ?_
              refine va_get (D := (dC, dI)) (ci := 5) (v := .int (jI mp1')) (C := RXM) (T := TXM) (N := 19) hx hb hts (fun w h => jmem (inXM w h)) hown hK hP 0 rfl rfl 3 (by decide) (hts _ (jmem tw_631)) (fun _ h9 => h9) rfl dXM_routeRow_59 ?_
              refine jwVv (rest := []) (wr := [(a0, .inl (cA, 400, .inl (jA y0)))]) ⟨hx, hb, hml, hown, hts⟩ (c_XM_failP l dC dI cA cZ _ ma a0 a1 a2 a3 a4 a5 a6 a7 a8 a9 a10 a11 mth mn mp1' w mu md mo mp1' (by first | assumption | omega) (by first | assumption | omega)) (cwV 1 hts (jG_V tw_734 tw_736 ts_22 tw_6 tw_737) rfl rfl rfl (by decide +kernel) (by rw [hR]; exact ⟨Nat.le_of_ble_eq_true rfl, Nat.le_of_ble_eq_true rfl⟩)) hK hP hD hS hA hN [0] [1] rfl rfl (by decide) (by decide) (by decide) 0 5 rfl rfl rfl rfl hl.1 rfl (Nat.le_of_ble_eq_true rfl) dXM_routeRow_62 (by rw [hR]; exact ⟨Nat.le_of_ble_eq_true rfl, Nat.le_of_ble_eq_true rfl⟩) (fun u18 H locs hw hP hD hS => ?_)
              obtain ⟨hw, f19⟩ := hw
              subst hw
              have f19 : (0 ≤ w ∧ (f_XM_failP mth mn mp1' w mu md mo mp1') = w) ∨ (w < 0 ∧ (f_XM_failP mth mn mp1' w mu md mo mp1') = mp1') := f19
              have hP : va_P (dC, dI) vwCl [(a0, .inl (cA, 400, .inl (jA y0))), (ma, .inr (5, [.int (jI mth), .int (jI mn), .ref a0, .int (jI mp1'), .int (jI (f_XM_failP mth mn mp1' w mu md mo mp1')), .ref a1, .ref a2, .ref a3, .ref a4, .ref a5, .ref a6, .ref a7, .ref a8, .ref a9, .ref a10, .long (jL mu), .long (jL md), .int (jI mo), .ref a11]))] H := hP
              have hD : va_D A [(a0, .inl (cA, 400, .inl (jA y0))), (ma, .inr (5, [.int (jI mth), .int (jI mn), .ref a0, .int (jI mp1'), .int (jI (f_XM_failP mth mn mp1' w mu md mo mp1')), .ref a1, .ref a2, .ref a3, .ref a4, .ref a5, .ref a6, .ref a7, .ref a8, .ref a9, .ref a10, .long (jL mu), .long (jL md), .int (jI mo), .ref a11]))] := hD
              refine lv_aload_n hx hb dXM_routeRow_65 rfl (lv_at hl 5 rfl) ?_
              refine va_get (D := (dC, dI)) (ci := 5) (v := .int (jI (f_XM_failP mth mn mp1' w mu md mo mp1'))) (C := RXM) (T := TXM) (N := 19) hx hb hts (fun w h => jmem (inXM w h)) hown hK hP 1 rfl rfl 4 (by decide) (hts _ (jmem tw_632)) (fun _ h9 => h9) rfl dXM_routeRow_66 ?_
              refine ji_if_lt (tgt := 74) hx hb dXM_routeRow_69 (by decide) (by omega) (fun c69_20 => ?_) (fun c69_20 => ?_)
              · refine lv_iload_n hx hb dXM_routeRow_74 rfl (lv_at hl 4 rfl) ?_
                refine ji_iconst hx hb dXM_routeRow_75 ?_
                refine lv_iload hx hb dXM_routeRow_76 (lv_at hl 0 rfl) ?_
                refine lv_ishl hx hb dXM_routeRow_78 ?_
                refine ji_rev ?_
                have rb21 := jti32 (jI 1 <<< (jI ((f_XM_here mth mn mp1' w mu md mo y0) - 48) &&& 31))
                refine lv_ior hx hb dXM_routeRow_79 ?_
                refine ji_rev ?_
                have rb22 := jti32 (jI bt9 ||| jI ((jI 1 <<< (jI ((f_XM_here mth mn mp1' w mu md mo y0) - 48) &&& 31)).toInt))
                refine lv_istore_n (lv' := [(1, .int (jI ((jI bt9 ||| jI ((jI 1 <<< (jI ((f_XM_here mth mn mp1' w mu md mo y0) - 48) &&& 31)).toInt)).toInt))), (5, .int (jI ((f_XM_here mth mn mp1' w mu md mo y0) - 48))), (4, .int (jI mo9)), (3, .int (jI n9r)), (2, .int (jI la)), (0, .ref ma)]) hx hb dXM_routeRow_80 rfl hl (by decide) rfl (fun ls hl => ?_)
                refine lv_iload hx hb dXM_routeRow_81 (lv_at hl 1 rfl) ?_
                refine lv_istore_n (lv' := [(2, .int (jI ((f_XM_here mth mn mp1' w mu md mo y0) - 48))), (1, .int (jI ((jI bt9 ||| jI ((jI 1 <<< (jI ((f_XM_here mth mn mp1' w mu md mo y0) - 48) &&& 31)).toInt)).toInt))), (5, .int (jI ((f_XM_here mth mn mp1' w mu md mo y0) - 48))), (4, .int (jI mo9)), (3, .int (jI n9r)), (0, .ref ma)]) hx hb dXM_routeRow_83 rfl hl (by decide) rfl (fun ls hl => ?_)
                refine ji_iinc (k := 4) (lv' := [(3, .int (jI (n9r + 1))), (2, .int (jI ((f_XM_here mth mn mp1' w mu md mo y0) - 48))), (1, .int (jI ((jI bt9 ||| jI ((jI 1 <<< (jI ((f_XM_here mth mn mp1' w mu md mo y0) - 48) &&& 31)).toInt)).toInt))), (5, .int (jI ((f_XM_here mth mn mp1' w mu md mo y0) - 48))), (4, .int (jI mo9)), (0, .ref ma)]) hx hb dXM_routeRow_84 hl rfl (by decide) rfl (fun ls hl => ?_)
                refine lv_aload_n hx hb dXM_routeRow_87 rfl (lv_at hl 5 rfl) ?_
                refine lv_dup hx hb dXM_routeRow_88 rfl ?_
                refine va_get (D := (dC, dI)) (ci := 5) (v := .int (jI mp1')) (C := RXM) (T := TXM) (N := 19) hx hb hts (fun w h => jmem (inXM w h)) hown hK hP 1 rfl rfl 3 (by decide) (hts _ (jmem tw_631)) (fun _ h9 => h9) rfl dXM_routeRow_89 ?_
                refine ji_iconst hx hb dXM_routeRow_92 ?_
                refine ji_iadd hx hb dXM_routeRow_93 ?_
                refine va_put (D := (dC, dI)) (ci := 5) (v := .int (jI (mp1' + 1))) (ty := (.int)) (C := RXM) (T := TXM) (N := 19) hx hb hts (fun w h => jmem (inXM w h)) tyXM tyXM_ok nXM hown hK hP hD hS 1 rfl rfl 3 (by decide) (hts _ (jmem tw_631)) (fun _ h9 => h9) rfl (by decide +kernel) rfl rfl (Nat.le_of_ble_eq_true rfl) dXM_routeRow_94 (fun H locs hP hD hS => ?_)
                have hP : va_P (dC, dI) vwCl [(a0, .inl (cA, 400, .inl (jA y0))), (ma, .inr (5, [.int (jI mth), .int (jI mn), .ref a0, .int (jI (mp1' + 1)), .int (jI (f_XM_failP mth mn mp1' w mu md mo mp1')), .ref a1, .ref a2, .ref a3, .ref a4, .ref a5, .ref a6, .ref a7, .ref a8, .ref a9, .ref a10, .long (jL mu), .long (jL md), .int (jI mo), .ref a11]))] H := hP
                have hD : va_D A [(a0, .inl (cA, 400, .inl (jA y0))), (ma, .inr (5, [.int (jI mth), .int (jI mn), .ref a0, .int (jI (mp1' + 1)), .int (jI (f_XM_failP mth mn mp1' w mu md mo mp1')), .ref a1, .ref a2, .ref a3, .ref a4, .ref a5, .ref a6, .ref a7, .ref a8, .ref a9, .ref a10, .long (jL mu), .long (jL md), .int (jI mo), .ref a11]))] := hD
                refine lv_aload_n hx hb dXM_routeRow_97 rfl (lv_at hl 5 rfl) ?_
                refine jwVi (rest := []) (wr := []) ⟨hx, hb, hml, hown, hts⟩ (c_XM_seeP l dC dI cA cZ _ ma a0 a1 a2 a3 a4 a5 a6 a7 a8 a9 a10 a11 mth mn (mp1' + 1) (f_XM_failP mth mn mp1' w mu md mo mp1') mu md mo y0 (by first | assumption | omega) (by first | assumption | omega) (by first | assumption | omega)) (cwV 0 hts (jG_V tw_710 tw_712 ts_16 tw_6 tw_713) rfl rfl rfl (by decide +kernel) (by rw [hR]; exact ⟨Nat.le_of_ble_eq_true rfl, Nat.le_of_ble_eq_true rfl⟩)) hK hP hD hS hA hN [1, 0] [] rfl rfl (by decide) (by decide) (by decide) 1 5 rfl rfl rfl rfl hl.1 rfl (Nat.le_of_ble_eq_true rfl) dXM_routeRow_98 (by rw [hR]; exact ⟨Nat.le_of_ble_eq_true rfl, Nat.le_of_ble_eq_true rfl⟩) (fun v26 u25 H locs hwb27 hP hD hS => ?_)
                obtain ⟨r23, mp1'24⟩ := u25
                try dsimp only at hwb27
                obtain ⟨er, hwb27, f28, f29, f30⟩ := hwb27
                subst er
                have f28 : -1 ≤ r23 ∧ r23 ≤ 255 ∧ (0 ≤ r23 → mp1'24 < mn) := f28
                have f29 : (mp1' + 1) ≤ mp1'24 ∧ mp1'24 ≤ mn := f29
                have f30 : (mp1'24 < mn ∧ r23 = y0 mp1'24) ∨ (mp1'24 = mn ∧ r23 = -1) := f30
                have hP : va_P (dC, dI) vwCl [(ma, .inr (5, [.int (jI mth), .int (jI mn), .ref a0, .int (jI mp1'24), .int (jI (f_XM_failP mth mn mp1' w mu md mo mp1')), .ref a1, .ref a2, .ref a3, .ref a4, .ref a5, .ref a6, .ref a7, .ref a8, .ref a9, .ref a10, .long (jL mu), .long (jL md), .int (jI mo), .ref a11])), (a0, .inl (cA, 400, .inl (jA y0)))] H := hP
                have hD : va_D A [(ma, .inr (5, [.int (jI mth), .int (jI mn), .ref a0, .int (jI mp1'24), .int (jI (f_XM_failP mth mn mp1' w mu md mo mp1')), .ref a1, .ref a2, .ref a3, .ref a4, .ref a5, .ref a6, .ref a7, .ref a8, .ref a9, .ref a10, .long (jL mu), .long (jL md), .int (jI mo), .ref a11])), (a0, .inl (cA, 400, .inl (jA y0)))] := hD
                refine lv_pop hx hb dXM_routeRow_101 rfl ?_
                refine lv_aload_n hx hb dXM_routeRow_102 rfl (lv_at hl 5 rfl) ?_
                refine jrVi (rest := []) ⟨hx, hb, hml, hown, hts⟩ (c_XM_isDigit l dC dI cA cZ ma a0 a1 a2 a3 a4 a5 a6 a7 a8 a9 a10 a11 mth mn mp1'24 (f_XM_failP mth mn mp1' w mu md mo mp1') mu md mo y0 (by first | assumption | omega) (by first | assumption | omega) (by first | assumption | omega)) (cwV 0 hts (jG_V tw_730 tw_732 ts_21 tw_6 tw_733) rfl rfl rfl (by decide +kernel) (by rw [hR]; exact ⟨Nat.le_of_ble_eq_true rfl, Nat.le_of_ble_eq_true rfl⟩)) hK hP hN [0, 1] rfl 0 5 rfl rfl rfl rfl hl.1 rfl (Nat.le_of_ble_eq_true rfl) dXM_routeRow_103 (by rw [hR]; exact ⟨Nat.le_of_ble_eq_true rfl, Nat.le_of_ble_eq_true rfl⟩) ?_
                have f31 := f_XM_isDigit_b mth mn mp1'24 (f_XM_failP mth mn mp1' w mu md mo mp1') mu md mo y0 (by first | assumption | omega) (by first | assumption | omega) (by first | assumption | omega)
                refine lv_istore (lv' := [(4, .int (jI (f_XM_isDigit mth mn mp1'24 (f_XM_failP mth mn mp1' w mu md mo mp1') mu md mo y0))), (3, .int (jI (n9r + 1))), (2, .int (jI ((f_XM_here mth mn mp1' w mu md mo y0) - 48))), (1, .int (jI ((jI bt9 ||| jI ((jI 1 <<< (jI ((f_XM_here mth mn mp1' w mu md mo y0) - 48) &&& 31)).toInt)).toInt))), (5, .int (jI ((f_XM_here mth mn mp1' w mu md mo y0) - 48))), (0, .ref ma)]) hx hb dXM_routeRow_106 hl (by decide) rfl (fun ls hl => ?_)
                refine lv_goto (tgt := 9) hx hb dXM_routeRow_108 (by decide) ?_
                exact ih9 ((jI bt9 ||| jI ((jI 1 <<< (jI ((f_XM_here mth mn mp1' w mu md mo y0) - 48) &&& 31)).toInt)).toInt) ((f_XM_here mth mn mp1' w mu md mo y0) - 48) (n9r + 1) (f_XM_isDigit mth mn mp1'24 (f_XM_failP mth mn mp1' w mu md mo mp1') mu md mo y0) mp1'24 (f_XM_failP mth mn mp1' w mu md mo mp1') (by omega) (Eq.trans (by rw [f_XM_routeRowP_L9_s]; rw [if_neg c11_, if_pos c18_]; rw [← hwb]; try dsimp only; rw [if_neg c43_, if_neg (Int.not_lt.mpr c49_), if_pos c69_20]; rw [← hwb27]; try dsimp only; try rfl) hF) (by first | assumption | omega) (by first | assumption | omega) (by first | assumption | omega) (by first | assumption | omega) (by first | assumption | omega) (by first | assumption | omega) _ _ hP hD hS ls (lv_sub hl [0, 1, 2, 3, 5] rfl)
              · refine lv_iload_n hx hb dXM_routeRow_72 rfl (lv_at hl 4 rfl) ?_
                have hP9 := hP.sub (ws' := [(ma, .inr (5, [.int (jI mth), .int (jI mn), .ref a0, .int (jI mp1'), .int (jI (f_XM_failP mth mn mp1' w mu md mo mp1')), .ref a1, .ref a2, .ref a3, .ref a4, .ref a5, .ref a6, .ref a7, .ref a8, .ref a9, .ref a10, .long (jL mu), .long (jL md), .int (jI mo), .ref a11])), (a0, .inl (cA, 400, .inl (jA y0)))]) [1, 0] rfl
                have hD9 := hD.sub (ws' := [(ma, .inr (5, [.int (jI mth), .int (jI mn), .ref a0, .int (jI mp1'), .int (jI (f_XM_failP mth mn mp1' w mu md mo mp1')), .ref a1, .ref a2, .ref a3, .ref a4, .ref a5, .ref a6, .ref a7, .ref a8, .ref a9, .ref a10, .long (jL mu), .long (jL md), .int (jI mo), .ref a11])), (a0, .inl (cA, 400, .inl (jA y0)))]) [1, 0] (by decide) rfl
                subst hAe
                subst hQ
                exact W.iret (v := jI bt9) hx hb hr (fun t ht hW => ⟨⟨_, (bt9, mp1', f_XM_failP mth mn mp1' w mu md mo mp1'), rfl, ⟨rfl, Eq.trans (by rw [f_XM_routeRowP_L9_s]; rw [if_neg c11_, if_pos c18_]; rw [← hwb]; try dsimp only; rw [if_neg c43_, if_neg (Int.not_lt.mpr c49_), if_neg (Int.not_lt.mpr c69_20)]; try rfl) hF, show i32 bt9 from by first | assumption | omega | exact jset_b (by assumption) (by omega) | exact jset_l (by assumption) (by omega) | exact jset_l (fun _ _ => rfl) (by omega) | exact fun _ _ => rfl | exact l_trans (by assumption) (by assumption), show mp ≤ mp1' ∧ mp1' ≤ mn from by first | assumption | omega | exact jset_b (by assumption) (by omega) | exact jset_l (by assumption) (by omega) | exact jset_l (fun _ _ => rfl) (by omega) | exact fun _ _ => rfl | exact l_trans (by assumption) (by assumption), show -1 ≤ (f_XM_failP mth mn mp1' w mu md mo mp1') ∧ (f_XM_failP mth mn mp1' w mu md mo mp1') ≤ 400 ∧ mw ≤ (f_XM_failP mth mn mp1' w mu md mo mp1') from by first | assumption | omega | exact jset_b (by assumption) (by omega) | exact jset_l (by assumption) (by omega) | exact jset_l (fun _ _ => rfl) (by omega) | exact fun _ _ => rfl | exact l_trans (by assumption) (by assumption)⟩, ⟨by rw [ht]; exact hP9, va_K.moved hW.alike hK, hD9⟩⟩, hS.F ht⟩) hS.2.2 dXM_routeRow_73
            · refine lv_iload_n hx hb dXM_routeRow_52 rfl (lv_at hl 2 rfl) ?_
              refine ji_iconst hx hb dXM_routeRow_53 ?_
              refine ji_icmp_ne (tgt := 65) hx hb dXM_routeRow_54 (by decide) (by omega) (by omega) (fun c54_ => ?_) (fun c54_ => ?_)
              · refine lv_aload_n hx hb dXM_routeRow_65 rfl (lv_at hl 5 rfl) ?_
                refine va_get (D := (dC, dI)) (ci := 5) (v := .int (jI w)) (C := RXM) (T := TXM) (N := 19) hx hb hts (fun w h => jmem (inXM w h)) hown hK hP 0 rfl rfl 4 (by decide) (hts _ (jmem tw_632)) (fun _ h9 => h9) rfl dXM_routeRow_66 ?_
                refine ji_if_lt (tgt := 74) hx hb dXM_routeRow_69 (by decide) (by omega) (fun c69_32 => ?_) (fun c69_32 => ?_)
                · refine lv_iload_n hx hb dXM_routeRow_74 rfl (lv_at hl 4 rfl) ?_
                  refine ji_iconst hx hb dXM_routeRow_75 ?_
                  refine lv_iload hx hb dXM_routeRow_76 (lv_at hl 0 rfl) ?_
                  refine lv_ishl hx hb dXM_routeRow_78 ?_
                  refine ji_rev ?_
                  have rb33 := jti32 (jI 1 <<< (jI ((f_XM_here mth mn mp1' w mu md mo y0) - 48) &&& 31))
                  refine lv_ior hx hb dXM_routeRow_79 ?_
                  refine ji_rev ?_
                  have rb34 := jti32 (jI bt9 ||| jI ((jI 1 <<< (jI ((f_XM_here mth mn mp1' w mu md mo y0) - 48) &&& 31)).toInt))
                  refine lv_istore_n (lv' := [(1, .int (jI ((jI bt9 ||| jI ((jI 1 <<< (jI ((f_XM_here mth mn mp1' w mu md mo y0) - 48) &&& 31)).toInt)).toInt))), (5, .int (jI ((f_XM_here mth mn mp1' w mu md mo y0) - 48))), (4, .int (jI mo9)), (3, .int (jI n9r)), (2, .int (jI la)), (0, .ref ma)]) hx hb dXM_routeRow_80 rfl hl (by decide) rfl (fun ls hl => ?_)
                  refine lv_iload hx hb dXM_routeRow_81 (lv_at hl 1 rfl) ?_
                  refine lv_istore_n (lv' := [(2, .int (jI ((f_XM_here mth mn mp1' w mu md mo y0) - 48))), (1, .int (jI ((jI bt9 ||| jI ((jI 1 <<< (jI ((f_XM_here mth mn mp1' w mu md mo y0) - 48) &&& 31)).toInt)).toInt))), (5, .int (jI ((f_XM_here mth mn mp1' w mu md mo y0) - 48))), (4, .int (jI mo9)), (3, .int (jI n9r)), (0, .ref ma)]) hx hb dXM_routeRow_83 rfl hl (by decide) rfl (fun ls hl => ?_)
                  refine ji_iinc (k := 4) (lv' := [(3, .int (jI (n9r + 1))), (2, .int (jI ((f_XM_here mth mn mp1' w mu md mo y0) - 48))), (1, .int (jI ((jI bt9 ||| jI ((jI 1 <<< (jI ((f_XM_here mth mn mp1' w mu md mo y0) - 48) &&& 31)).toInt)).toInt))), (5, .int (jI ((f_XM_here mth mn mp1' w mu md mo y0) - 48))), (4, .int (jI mo9)), (0, .ref ma)]) hx hb dXM_routeRow_84 hl rfl (by decide) rfl (fun ls hl => ?_)
                  refine lv_aload_n hx hb dXM_routeRow_87 rfl (lv_at hl 5 rfl) ?_
                  refine lv_dup hx hb dXM_routeRow_88 rfl ?_
                  refine va_get (D := (dC, dI)) (ci := 5) (v := .int (jI mp1')) (C := RXM) (T := TXM) (N := 19) hx hb hts (fun w h => jmem (inXM w h)) hown hK hP 0 rfl rfl 3 (by decide) (hts _ (jmem tw_631)) (fun _ h9 => h9) rfl dXM_routeRow_89 ?_
                  refine ji_iconst hx hb dXM_routeRow_92 ?_
                  refine ji_iadd hx hb dXM_routeRow_93 ?_
                  refine va_put (D := (dC, dI)) (ci := 5) (v := .int (jI (mp1' + 1))) (ty := (.int)) (C := RXM) (T := TXM) (N := 19) hx hb hts (fun w h => jmem (inXM w h)) tyXM tyXM_ok nXM hown hK hP hD hS 0 rfl rfl 3 (by decide) (hts _ (jmem tw_631)) (fun _ h9 => h9) rfl (by decide +kernel) rfl rfl (Nat.le_of_ble_eq_true rfl) dXM_routeRow_94 (fun H locs hP hD hS => ?_)
                  have hP : va_P (dC, dI) vwCl [(ma, .inr (5, [.int (jI mth), .int (jI mn), .ref a0, .int (jI (mp1' + 1)), .int (jI w), .ref a1, .ref a2, .ref a3, .ref a4, .ref a5, .ref a6, .ref a7, .ref a8, .ref a9, .ref a10, .long (jL mu), .long (jL md), .int (jI mo), .ref a11])), (a0, .inl (cA, 400, .inl (jA y0)))] H := hP
                  have hD : va_D A [(ma, .inr (5, [.int (jI mth), .int (jI mn), .ref a0, .int (jI (mp1' + 1)), .int (jI w), .ref a1, .ref a2, .ref a3, .ref a4, .ref a5, .ref a6, .ref a7, .ref a8, .ref a9, .ref a10, .long (jL mu), .long (jL md), .int (jI mo), .ref a11])), (a0, .inl (cA, 400, .inl (jA y0)))] := hD
                  refine lv_aload_n hx hb dXM_routeRow_97 rfl (lv_at hl 5 rfl) ?_
                  refine jwVi (rest := []) (wr := []) ⟨hx, hb, hml, hown, hts⟩ (c_XM_seeP l dC dI cA cZ _ ma a0 a1 a2 a3 a4 a5 a6 a7 a8 a9 a10 a11 mth mn (mp1' + 1) w mu md mo y0 (by first | assumption | omega) (by first | assumption | omega) (by first | assumption | omega)) (cwV 0 hts (jG_V tw_710 tw_712 ts_16 tw_6 tw_713) rfl rfl rfl (by decide +kernel) (by rw [hR]; exact ⟨Nat.le_of_ble_eq_true rfl, Nat.le_of_ble_eq_true rfl⟩)) hK hP hD hS hA hN [0, 1] [] rfl rfl (by decide) (by decide) (by decide) 0 5 rfl rfl rfl rfl hl.1 rfl (Nat.le_of_ble_eq_true rfl) dXM_routeRow_98 (by rw [hR]; exact ⟨Nat.le_of_ble_eq_true rfl, Nat.le_of_ble_eq_true rfl⟩) (fun v38 u37 H locs hwb39 hP hD hS => ?_)
                  obtain ⟨r35, mp1'36⟩ := u37
                  try dsimp only at hwb39
                  obtain ⟨er, hwb39, f40, f41, f42⟩ := hwb39
                  subst er
                  have f40 : -1 ≤ r35 ∧ r35 ≤ 255 ∧ (0 ≤ r35 → mp1'36 < mn) := f40
                  have f41 : (mp1' + 1) ≤ mp1'36 ∧ mp1'36 ≤ mn := f41
                  have f42 : (mp1'36 < mn ∧ r35 = y0 mp1'36) ∨ (mp1'36 = mn ∧ r35 = -1) := f42
                  have hP : va_P (dC, dI) vwCl [(ma, .inr (5, [.int (jI mth), .int (jI mn), .ref a0, .int (jI mp1'36), .int (jI w), .ref a1, .ref a2, .ref a3, .ref a4, .ref a5, .ref a6, .ref a7, .ref a8, .ref a9, .ref a10, .long (jL mu), .long (jL md), .int (jI mo), .ref a11])), (a0, .inl (cA, 400, .inl (jA y0)))] H := hP
                  have hD : va_D A [(ma, .inr (5, [.int (jI mth), .int (jI mn), .ref a0, .int (jI mp1'36), .int (jI w), .ref a1, .ref a2, .ref a3, .ref a4, .ref a5, .ref a6, .ref a7, .ref a8, .ref a9, .ref a10, .long (jL mu), .long (jL md), .int (jI mo), .ref a11])), (a0, .inl (cA, 400, .inl (jA y0)))] := hD
                  refine lv_pop hx hb dXM_routeRow_101 rfl ?_
                  refine lv_aload_n hx hb dXM_routeRow_102 rfl (lv_at hl 5 rfl) ?_
                  refine jrVi (rest := []) ⟨hx, hb, hml, hown, hts⟩ (c_XM_isDigit l dC dI cA cZ ma a0 a1 a2 a3 a4 a5 a6 a7 a8 a9 a10 a11 mth mn mp1'36 w mu md mo y0 (by first | assumption | omega) (by first | assumption | omega) (by first | assumption | omega)) (cwV 0 hts (jG_V tw_730 tw_732 ts_21 tw_6 tw_733) rfl rfl rfl (by decide +kernel) (by rw [hR]; exact ⟨Nat.le_of_ble_eq_true rfl, Nat.le_of_ble_eq_true rfl⟩)) hK hP hN [0, 1] rfl 0 5 rfl rfl rfl rfl hl.1 rfl (Nat.le_of_ble_eq_true rfl) dXM_routeRow_103 (by rw [hR]; exact ⟨Nat.le_of_ble_eq_true rfl, Nat.le_of_ble_eq_true rfl⟩) ?_
                  have f43 := f_XM_isDigit_b mth mn mp1'36 w mu md mo y0 (by first | assumption | omega) (by first | assumption | omega) (by first | assumption | omega)
                  refine lv_istore (lv' := [(4, .int (jI (f_XM_isDigit mth mn mp1'36 w mu md mo y0))), (3, .int (jI (n9r + 1))), (2, .int (jI ((f_XM_here mth mn mp1' w mu md mo y0) - 48))), (1, .int (jI ((jI bt9 ||| jI ((jI 1 <<< (jI ((f_XM_here mth mn mp1' w mu md mo y0) - 48) &&& 31)).toInt)).toInt))), (5, .int (jI ((f_XM_here mth mn mp1' w mu md mo y0) - 48))), (0, .ref ma)]) hx hb dXM_routeRow_106 hl (by decide) rfl (fun ls hl => ?_)
                  refine lv_goto (tgt := 9) hx hb dXM_routeRow_108 (by decide) ?_
                  exact ih9 ((jI bt9 ||| jI ((jI 1 <<< (jI ((f_XM_here mth mn mp1' w mu md mo y0) - 48) &&& 31)).toInt)).toInt) ((f_XM_here mth mn mp1' w mu md mo y0) - 48) (n9r + 1) (f_XM_isDigit mth mn mp1'36 w mu md mo y0) mp1'36 w (by omega) (Eq.trans (by rw [f_XM_routeRowP_L9_s]; rw [if_neg c11_, if_pos c18_]; rw [← hwb]; try dsimp only; rw [if_neg c43_, if_pos c49_, if_neg c54_, if_pos c69_32]; rw [← hwb39]; try dsimp only; try rfl) hF) (by first | assumption | omega) (by first | assumption | omega) (by first | assumption | omega) (by first | assumption | omega) (by first | assumption | omega) (by first | assumption | omega) _ _ hP hD hS ls (lv_sub hl [0, 1, 2, 3, 5] rfl)
                · refine lv_iload_n hx hb dXM_routeRow_72 rfl (lv_at hl 4 rfl) ?_
                  have hP9 := hP.sub (ws' := [(ma, .inr (5, [.int (jI mth), .int (jI mn), .ref a0, .int (jI mp1'), .int (jI w), .ref a1, .ref a2, .ref a3, .ref a4, .ref a5, .ref a6, .ref a7, .ref a8, .ref a9, .ref a10, .long (jL mu), .long (jL md), .int (jI mo), .ref a11])), (a0, .inl (cA, 400, .inl (jA y0)))]) [0, 1] rfl
                  have hD9 := hD.sub (ws' := [(ma, .inr (5, [.int (jI mth), .int (jI mn), .ref a0, .int (jI mp1'), .int (jI w), .ref a1, .ref a2, .ref a3, .ref a4, .ref a5, .ref a6, .ref a7, .ref a8, .ref a9, .ref a10, .long (jL mu), .long (jL md), .int (jI mo), .ref a11])), (a0, .inl (cA, 400, .inl (jA y0)))]) [0, 1] (by decide) rfl
                  subst hAe
                  subst hQ
                  exact W.iret (v := jI bt9) hx hb hr (fun t ht hW => ⟨⟨_, (bt9, mp1', w), rfl, ⟨rfl, Eq.trans (by rw [f_XM_routeRowP_L9_s]; rw [if_neg c11_, if_pos c18_]; rw [← hwb]; try dsimp only; rw [if_neg c43_, if_pos c49_, if_neg c54_, if_neg (Int.not_lt.mpr c69_32)]; try rfl) hF, show i32 bt9 from by first | assumption | omega | exact jset_b (by assumption) (by omega) | exact jset_l (by assumption) (by omega) | exact jset_l (fun _ _ => rfl) (by omega) | exact fun _ _ => rfl | exact l_trans (by assumption) (by assumption), show mp ≤ mp1' ∧ mp1' ≤ mn from by first | assumption | omega | exact jset_b (by assumption) (by omega) | exact jset_l (by assumption) (by omega) | exact jset_l (fun _ _ => rfl) (by omega) | exact fun _ _ => rfl | exact l_trans (by assumption) (by assumption), show -1 ≤ w ∧ w ≤ 400 ∧ mw ≤ w from by first | assumption | omega | exact jset_b (by assumption) (by omega) | exact jset_l (by assumption) (by omega) | exact jset_l (fun _ _ => rfl) (by omega) | exact fun _ _ => rfl | exact l_trans (by assumption) (by assumption)⟩, ⟨by rw [ht]; exact hP9, va_K.moved hW.alike hK, hD9⟩⟩, hS.F ht⟩) hS.2.2 dXM_routeRow_73
              · refine lv_aload_n hx hb dXM_routeRow_57 rfl (lv_at hl 5 rfl) ?_
                refine lv_aload_n hx hb dXM_routeRow_58 rfl (lv_at hl 5 rfl) ?_
                refine va_get (D := (dC, dI)) (ci := 5) (v := .int (jI mp1')) (C := RXM) (T := TXM) (N := 19) hx hb hts (fun w h => jmem (inXM w h)) hown hK hP 0 rfl rfl 3 (by decide) (hts _ (jmem tw_631)) (fun _ h9 => h9) rfl dXM_routeRow_59 ?_
                refine jwVv (rest := []) (wr := [(a0, .inl (cA, 400, .inl (jA y0)))]) ⟨hx, hb, hml, hown, hts⟩ (c_XM_failP l dC dI cA cZ _ ma a0 a1 a2 a3 a4 a5 a6 a7 a8 a9 a10 a11 mth mn mp1' w mu md mo mp1' (by first | assumption | omega) (by first | assumption | omega)) (cwV 1 hts (jG_V tw_734 tw_736 ts_22 tw_6 tw_737) rfl rfl rfl (by decide +kernel) (by rw [hR]; exact ⟨Nat.le_of_ble_eq_true rfl, Nat.le_of_ble_eq_true rfl⟩)) hK hP hD hS hA hN [0] [1] rfl rfl (by decide) (by decide) (by decide) 0 5 rfl rfl rfl rfl hl.1 rfl (Nat.le_of_ble_eq_true rfl) dXM_routeRow_62 (by rw [hR]; exact ⟨Nat.le_of_ble_eq_true rfl, Nat.le_of_ble_eq_true rfl⟩) (fun u44 H locs hw hP hD hS => ?_)
                obtain ⟨hw, f45⟩ := hw
                subst hw
                have f45 : (0 ≤ w ∧ (f_XM_failP mth mn mp1' w mu md mo mp1') = w) ∨ (w < 0 ∧ (f_XM_failP mth mn mp1' w mu md mo mp1') = mp1') := f45
                have hP : va_P (dC, dI) vwCl [(a0, .inl (cA, 400, .inl (jA y0))), (ma, .inr (5, [.int (jI mth), .int (jI mn), .ref a0, .int (jI mp1'), .int (jI (f_XM_failP mth mn mp1' w mu md mo mp1')), .ref a1, .ref a2, .ref a3, .ref a4, .ref a5, .ref a6, .ref a7, .ref a8, .ref a9, .ref a10, .long (jL mu), .long (jL md), .int (jI mo), .ref a11]))] H := hP
                have hD : va_D A [(a0, .inl (cA, 400, .inl (jA y0))), (ma, .inr (5, [.int (jI mth), .int (jI mn), .ref a0, .int (jI mp1'), .int (jI (f_XM_failP mth mn mp1' w mu md mo mp1')), .ref a1, .ref a2, .ref a3, .ref a4, .ref a5, .ref a6, .ref a7, .ref a8, .ref a9, .ref a10, .long (jL mu), .long (jL md), .int (jI mo), .ref a11]))] := hD
                refine lv_aload_n hx hb dXM_routeRow_65 rfl (lv_at hl 5 rfl) ?_
                refine va_get (D := (dC, dI)) (ci := 5) (v := .int (jI (f_XM_failP mth mn mp1' w mu md mo mp1'))) (C := RXM) (T := TXM) (N := 19) hx hb hts (fun w h => jmem (inXM w h)) hown hK hP 1 rfl rfl 4 (by decide) (hts _ (jmem tw_632)) (fun _ h9 => h9) rfl dXM_routeRow_66 ?_
                refine ji_if_lt (tgt := 74) hx hb dXM_routeRow_69 (by decide) (by omega) (fun c69_46 => ?_) (fun c69_46 => ?_)
                · refine lv_iload_n hx hb dXM_routeRow_74 rfl (lv_at hl 4 rfl) ?_
                  refine ji_iconst hx hb dXM_routeRow_75 ?_
                  refine lv_iload hx hb dXM_routeRow_76 (lv_at hl 0 rfl) ?_
                  refine lv_ishl hx hb dXM_routeRow_78 ?_
                  refine ji_rev ?_
                  have rb47 := jti32 (jI 1 <<< (jI ((f_XM_here mth mn mp1' w mu md mo y0) - 48) &&& 31))
                  refine lv_ior hx hb dXM_routeRow_79 ?_
                  refine ji_rev ?_
                  have rb48 := jti32 (jI bt9 ||| jI ((jI 1 <<< (jI ((f_XM_here mth mn mp1' w mu md mo y0) - 48) &&& 31)).toInt))
                  refine lv_istore_n (lv' := [(1, .int (jI ((jI bt9 ||| jI ((jI 1 <<< (jI ((f_XM_here mth mn mp1' w mu md mo y0) - 48) &&& 31)).toInt)).toInt))), (5, .int (jI ((f_XM_here mth mn mp1' w mu md mo y0) - 48))), (4, .int (jI mo9)), (3, .int (jI n9r)), (2, .int (jI la)), (0, .ref ma)]) hx hb dXM_routeRow_80 rfl hl (by decide) rfl (fun ls hl => ?_)
                  refine lv_iload hx hb dXM_routeRow_81 (lv_at hl 1 rfl) ?_
                  refine lv_istore_n (lv' := [(2, .int (jI ((f_XM_here mth mn mp1' w mu md mo y0) - 48))), (1, .int (jI ((jI bt9 ||| jI ((jI 1 <<< (jI ((f_XM_here mth mn mp1' w mu md mo y0) - 48) &&& 31)).toInt)).toInt))), (5, .int (jI ((f_XM_here mth mn mp1' w mu md mo y0) - 48))), (4, .int (jI mo9)), (3, .int (jI n9r)), (0, .ref ma)]) hx hb dXM_routeRow_83 rfl hl (by decide) rfl (fun ls hl => ?_)
                  refine ji_iinc (k := 4) (lv' := [(3, .int (jI (n9r + 1))), (2, .int (jI ((f_XM_here mth mn mp1' w mu md mo y0) - 48))), (1, .int (jI ((jI bt9 ||| jI ((jI 1 <<< (jI ((f_XM_here mth mn mp1' w mu md mo y0) - 48) &&& 31)).toInt)).toInt))), (5, .int (jI ((f_XM_here mth mn mp1' w mu md mo y0) - 48))), (4, .int (jI mo9)), (0, .ref ma)]) hx hb dXM_routeRow_84 hl rfl (by decide) rfl (fun ls hl => ?_)
                  refine lv_aload_n hx hb dXM_routeRow_87 rfl (lv_at hl 5 rfl) ?_
                  refine lv_dup hx hb dXM_routeRow_88 rfl ?_
                  refine va_get (D := (dC, dI)) (ci := 5) (v := .int (jI mp1')) (C := RXM) (T := TXM) (N := 19) hx hb hts (fun w h => jmem (inXM w h)) hown hK hP 1 rfl rfl 3 (by decide) (hts _ (jmem tw_631)) (fun _ h9 => h9) rfl dXM_routeRow_89 ?_
                  refine ji_iconst hx hb dXM_routeRow_92 ?_
                  refine ji_iadd hx hb dXM_routeRow_93 ?_
                  refine va_put (D := (dC, dI)) (ci := 5) (v := .int (jI (mp1' + 1))) (ty := (.int)) (C := RXM) (T := TXM) (N := 19) hx hb hts (fun w h => jmem (inXM w h)) tyXM tyXM_ok nXM hown hK hP hD hS 1 rfl rfl 3 (by decide) (hts _ (jmem tw_631)) (fun _ h9 => h9) rfl (by decide +kernel) rfl rfl (Nat.le_of_ble_eq_true rfl) dXM_routeRow_94 (fun H locs hP hD hS => ?_)
                  have hP : va_P (dC, dI) vwCl [(a0, .inl (cA, 400, .inl (jA y0))), (ma, .inr (5, [.int (jI mth), .int (jI mn), .ref a0, .int (jI (mp1' + 1)), .int (jI (f_XM_failP mth mn mp1' w mu md mo mp1')), .ref a1, .ref a2, .ref a3, .ref a4, .ref a5, .ref a6, .ref a7, .ref a8, .ref a9, .ref a10, .long (jL mu), .long (jL md), .int (jI mo), .ref a11]))] H := hP
                  have hD : va_D A [(a0, .inl (cA, 400, .inl (jA y0))), (ma, .inr (5, [.int (jI mth), .int (jI mn), .ref a0, .int (jI (mp1' + 1)), .int (jI (f_XM_failP mth mn mp1' w mu md mo mp1')), .ref a1, .ref a2, .ref a3, .ref a4, .ref a5, .ref a6, .ref a7, .ref a8, .ref a9, .ref a10, .long (jL mu), .long (jL md), .int (jI mo), .ref a11]))] := hD
                  refine lv_aload_n hx hb dXM_routeRow_97 rfl (lv_at hl 5 rfl) ?_
                  refine jwVi (rest := []) (wr := []) ⟨hx, hb, hml, hown, hts⟩ (c_XM_seeP l dC dI cA cZ _ ma a0 a1 a2 a3 a4 a5 a6 a7 a8 a9 a10 a11 mth mn (mp1' + 1) (f_XM_failP mth mn mp1' w mu md mo mp1') mu md mo y0 (by first | assumption | omega) (by first | assumption | omega) (by first | assumption | omega)) (cwV 0 hts (jG_V tw_710 tw_712 ts_16 tw_6 tw_713) rfl rfl rfl (by decide +kernel) (by rw [hR]; exact ⟨Nat.le_of_ble_eq_true rfl, Nat.le_of_ble_eq_true rfl⟩)) hK hP hD hS hA hN [1, 0] [] rfl rfl (by decide) (by decide) (by decide) 1 5 rfl rfl rfl rfl hl.1 rfl (Nat.le_of_ble_eq_true rfl) dXM_routeRow_98 (by rw [hR]; exact ⟨Nat.le_of_ble_eq_true rfl, Nat.le_of_ble_eq_true rfl⟩) (fun v52 u51 H locs hwb53 hP hD hS => ?_)
                  obtain ⟨r49, mp1'50⟩ := u51
                  try dsimp only at hwb53
                  obtain ⟨er, hwb53, f54, f55, f56⟩ := hwb53
                  subst er
                  have f54 : -1 ≤ r49 ∧ r49 ≤ 255 ∧ (0 ≤ r49 → mp1'50 < mn) := f54
                  have f55 : (mp1' + 1) ≤ mp1'50 ∧ mp1'50 ≤ mn := f55
                  have f56 : (mp1'50 < mn ∧ r49 = y0 mp1'50) ∨ (mp1'50 = mn ∧ r49 = -1) := f56
                  have hP : va_P (dC, dI) vwCl [(ma, .inr (5, [.int (jI mth), .int (jI mn), .ref a0, .int (jI mp1'50), .int (jI (f_XM_failP mth mn mp1' w mu md mo mp1')), .ref a1, .ref a2, .ref a3, .ref a4, .ref a5, .ref a6, .ref a7, .ref a8, .ref a9, .ref a10, .long (jL mu), .long (jL md), .int (jI mo), .ref a11])), (a0, .inl (cA, 400, .inl (jA y0)))] H := hP
                  have hD : va_D A [(ma, .inr (5, [.int (jI mth), .int (jI mn), .ref a0, .int (jI mp1'50), .int (jI (f_XM_failP mth mn mp1' w mu md mo mp1')), .ref a1, .ref a2, .ref a3, .ref a4, .ref a5, .ref a6, .ref a7, .ref a8, .ref a9, .ref a10, .long (jL mu), .long (jL md), .int (jI mo), .ref a11])), (a0, .inl (cA, 400, .inl (jA y0)))] := hD
                  refine lv_pop hx hb dXM_routeRow_101 rfl ?_
                  refine lv_aload_n hx hb dXM_routeRow_102 rfl (lv_at hl 5 rfl) ?_
                  refine jrVi (rest := []) ⟨hx, hb, hml, hown, hts⟩ (c_XM_isDigit l dC dI cA cZ ma a0 a1 a2 a3 a4 a5 a6 a7 a8 a9 a10 a11 mth mn mp1'50 (f_XM_failP mth mn mp1' w mu md mo mp1') mu md mo y0 (by first | assumption | omega) (by first | assumption | omega) (by first | assumption | omega)) (cwV 0 hts (jG_V tw_730 tw_732 ts_21 tw_6 tw_733) rfl rfl rfl (by decide +kernel) (by rw [hR]; exact ⟨Nat.le_of_ble_eq_true rfl, Nat.le_of_ble_eq_true rfl⟩)) hK hP hN [0, 1] rfl 0 5 rfl rfl rfl rfl hl.1 rfl (Nat.le_of_ble_eq_true rfl) dXM_routeRow_103 (by rw [hR]; exact ⟨Nat.le_of_ble_eq_true rfl, Nat.le_of_ble_eq_true rfl⟩) ?_
                  have f57 := f_XM_isDigit_b mth mn mp1'50 (f_XM_failP mth mn mp1' w mu md mo mp1') mu md mo y0 (by first | assumption | omega) (by first | assumption | omega) (by first | assumption | omega)
                  refine lv_istore (lv' := [(4, .int (jI (f_XM_isDigit mth mn mp1'50 (f_XM_failP mth mn mp1' w mu md mo mp1') mu md mo y0))), (3, .int (jI (n9r + 1))), (2, .int (jI ((f_XM_here mth mn mp1' w mu md mo y0) - 48))), (1, .int (jI ((jI bt9 ||| jI ((jI 1 <<< (jI ((f_XM_here mth mn mp1' w mu md mo y0) - 48) &&& 31)).toInt)).toInt))), (5, .int (jI ((f_XM_here mth mn mp1' w mu md mo y0) - 48))), (0, .ref ma)]) hx hb dXM_routeRow_106 hl (by decide) rfl (fun ls hl => ?_)
                  refine lv_goto (tgt := 9) hx hb dXM_routeRow_108 (by decide) ?_
                  exact ih9 ((jI bt9 ||| jI ((jI 1 <<< (jI ((f_XM_here mth mn mp1' w mu md mo y0) - 48) &&& 31)).toInt)).toInt) ((f_XM_here mth mn mp1' w mu md mo y0) - 48) (n9r + 1) (f_XM_isDigit mth mn mp1'50 (f_XM_failP mth mn mp1' w mu md mo mp1') mu md mo y0) mp1'50 (f_XM_failP mth mn mp1' w mu md mo mp1') (by omega) (Eq.trans (by rw [f_XM_routeRowP_L9_s]; rw [if_neg c11_, if_pos c18_]; rw [← hwb]; try dsimp only; rw [if_neg c43_, if_pos c49_, if_pos c54_, if_pos c69_46]; rw [← hwb53]; try dsimp only; try rfl) hF) (by first | assumption | omega) (by first | assumption | omega) (by first | assumption | omega) (by first | assumption | omega) (by first | assumption | omega) (by first | assumption | omega) _ _ hP hD hS ls (lv_sub hl [0, 1, 2, 3, 5] rfl)
                · refine lv_iload_n hx hb dXM_routeRow_72 rfl (lv_at hl 4 rfl) ?_
                  have hP9 := hP.sub (ws' := [(ma, .inr (5, [.int (jI mth), .int (jI mn), .ref a0, .int (jI mp1'), .int (jI (f_XM_failP mth mn mp1' w mu md mo mp1')), .ref a1, .ref a2, .ref a3, .ref a4, .ref a5, .ref a6, .ref a7, .ref a8, .ref a9, .ref a10, .long (jL mu), .long (jL md), .int (jI mo), .ref a11])), (a0, .inl (cA, 400, .inl (jA y0)))]) [1, 0] rfl
                  have hD9 := hD.sub (ws' := [(ma, .inr (5, [.int (jI mth), .int (jI mn), .ref a0, .int (jI mp1'), .int (jI (f_XM_failP mth mn mp1' w mu md mo mp1')), .ref a1, .ref a2, .ref a3, .ref a4, .ref a5, .ref a6, .ref a7, .ref a8, .ref a9, .ref a10, .long (jL mu), .long (jL md), .int (jI mo), .ref a11])), (a0, .inl (cA, 400, .inl (jA y0)))]) [1, 0] (by decide) rfl
                  subst hAe
                  subst hQ
                  exact W.iret (v := jI bt9) hx hb hr (fun t ht hW => ⟨⟨_, (bt9, mp1', f_XM_failP mth mn mp1' w mu md mo mp1'), rfl, ⟨rfl, Eq.trans (by rw [f_XM_routeRowP_L9_s]; rw [if_neg c11_, if_pos c18_]; rw [← hwb]; try dsimp only; rw [if_neg c43_, if_pos c49_, if_pos c54_, if_neg (Int.not_lt.mpr c69_46)]; try rfl) hF, show i32 bt9 from by first | assumption | omega | exact jset_b (by assumption) (by omega) | exact jset_l (by assumption) (by omega) | exact jset_l (fun _ _ => rfl) (by omega) | exact fun _ _ => rfl | exact l_trans (by assumption) (by assumption), show mp ≤ mp1' ∧ mp1' ≤ mn from by first | assumption | omega | exact jset_b (by assumption) (by omega) | exact jset_l (by assumption) (by omega) | exact jset_l (fun _ _ => rfl) (by omega) | exact fun _ _ => rfl | exact l_trans (by assumption) (by assumption), show -1 ≤ (f_XM_failP mth mn mp1' w mu md mo mp1') ∧ (f_XM_failP mth mn mp1' w mu md mo mp1') ≤ 400 ∧ mw ≤ (f_XM_failP mth mn mp1' w mu md mo mp1') from by first | assumption | omega | exact jset_b (by assumption) (by omega) | exact jset_l (by assumption) (by omega) | exact jset_l (fun _ _ => rfl) (by omega) | exact fun _ _ => rfl | exact l_trans (by assumption) (by assumption)⟩, ⟨by rw [ht]; exact hP9, va_K.moved hW.alike hK, hD9⟩⟩, hS.F ht⟩) hS.2.2 dXM_routeRow_73
  exact loop9 (Int.toNat (mn - mp) + 1) 0 (-1) 0 1 mp mw (by omega) (Eq.trans (by rw [f_XM_routeRowP_s]; try rfl) rfl) (by first | assumption | omega) (by first | assumption | omega) (by first | assumption | omega) (by first | assumption | omega) (by first | assumption | omega) (by first | assumption | omega) _ _ hP hD hS ls (lv_sub hl [0, 1, 2, 3, 4] rfl)

end
section
noncomputable def g_XM_gradeP_L97 (mth : Int) (mn : Int) (mp : Int) (mw : Int) (mu : Int) (md : Int) (mo : Int) (y0 : Int → Int) (y1 : Int → Int) (y2 : Int → Int) (y3 : Int → Int) (y4 : Int → Int) (y5 : Int → Int) (y6 : Int → Int) (y7 : Int → Int) (r : Int) (jd : Int) (y3n' : Int → Int) (y4n' : Int → Int) (y5n' : Int → Int) (w6 : Int → Int) : Nat → Int → Int → Int → (Int → Int) → Int × Int × (Int → Int) × (Int → Int) × (Int → Int) × (Int → Int) × (Int → Int) × (Int → Int) × (Int → Int)
  | 0, _, _, _, _ => (0, 0, fun _ => 0, fun _ => 0, fun _ => 0, fun _ => 0, fun _ => 0, fun _ => 0, fun _ => 0)
  | n9 + 1, mks, k, w, w7 =>
    match f_XM_takesP mth mn k w mu md mo y0 113 with
    | (r16, mp1'17) =>
      if r16 = 0 then
        match f_XM_takeP mth mn mp1'17 w mu md mo y0 59 with
        | (mp1'22, mw1'23) =>
          if mw1'23 < 0 then
            (mp1'22, mw1'23, jset y1 (31 + r) 1, jset y2 (31 + r) jd, y3n', y4n', y5n', w6, w7)
          else
            (mp1'22, mw1'23, y1, jset y2 (31 + r) jd, y3n', y4n', y5n', w6, w7)
      else
        match f_XM_numberP mth mn mp1'17 w mu md mo y0 0 3 with
        | (r29, mp1'30, mw1'31) =>
          if mw1'31 < 0 then
            if ((jI ((jI mks >>> (jI r29 &&& 31)).toInt) &&& jI 1).toInt) = 1 then
              match f_XM_takeP mth mn mp1'30 (f_XM_failP mth mn mp1'30 mw1'31 mu md mo (mp1'30 - 1)) mu md mo y0 60 with
              | (mp1'82, mw1'83) =>
                match f_XM_numberP mth mn mp1'82 mw1'83 mu md mo y0 0 999999 with
                | (r89, mp1'90, mw1'91) =>
                  g_XM_gradeP_L97 mth mn mp mw mu md mo y0 y1 y2 y3 y4 y5 y6 y7 r jd y3n' y4n' y5n' w6 n9 ((jI mks ||| jI ((jI 1 <<< (jI r29 &&& 31)).toInt)).toInt) mp1'90 mw1'91 (jset w7 ((4 * (31 + r)) + r29) r89)
            else
              match f_XM_takeP mth mn mp1'30 mw1'31 mu md mo y0 60 with
              | (mp1'61, mw1'62) =>
                match f_XM_numberP mth mn mp1'61 mw1'62 mu md mo y0 0 999999 with
                | (r68, mp1'69, mw1'70) =>
                  g_XM_gradeP_L97 mth mn mp mw mu md mo y0 y1 y2 y3 y4 y5 y6 y7 r jd y3n' y4n' y5n' w6 n9 ((jI mks ||| jI ((jI 1 <<< (jI r29 &&& 31)).toInt)).toInt) mp1'69 mw1'70 (jset w7 ((4 * (31 + r)) + r29) r68)
          else
            match f_XM_takeP mth mn mp1'30 mw1'31 mu md mo y0 60 with
            | (mp1'40, mw1'41) =>
              match f_XM_numberP mth mn mp1'40 mw1'41 mu md mo y0 0 999999 with
              | (r47, mp1'48, mw1'49) =>
                g_XM_gradeP_L97 mth mn mp mw mu md mo y0 y1 y2 y3 y4 y5 y6 y7 r jd y3n' y4n' y5n' w6 n9 ((jI mks ||| jI ((jI 1 <<< (jI r29 &&& 31)).toInt)).toInt) mp1'48 mw1'49 (jset w7 ((4 * (31 + r)) + r29) r47)
noncomputable def f_XM_gradeP_L97 : Int → Int → Int → Int → Int → Int → Int → (Int → Int) → (Int → Int) → (Int → Int) → (Int → Int) → (Int → Int) → (Int → Int) → (Int → Int) → (Int → Int) → Int → Int → (Int → Int) → (Int → Int) → (Int → Int) → (Int → Int) → Nat → Int → Int → Int → (Int → Int) → Int × Int × (Int → Int) × (Int → Int) × (Int → Int) × (Int → Int) × (Int → Int) × (Int → Int) × (Int → Int) := jopq g_XM_gradeP_L97
theorem f_XM_gradeP_L97_q : f_XM_gradeP_L97 = g_XM_gradeP_L97 := jopq_eq _
theorem f_XM_gradeP_L97_s (mth : Int) (mn : Int) (mp : Int) (mw : Int) (mu : Int) (md : Int) (mo : Int) (y0 : Int → Int) (y1 : Int → Int) (y2 : Int → Int) (y3 : Int → Int) (y4 : Int → Int) (y5 : Int → Int) (y6 : Int → Int) (y7 : Int → Int) (r : Int) (jd : Int) (y3n' : Int → Int) (y4n' : Int → Int) (y5n' : Int → Int) (w6 : Int → Int) (n9 : Nat) (mks : Int) (k : Int) (w : Int) (w7 : Int → Int) : f_XM_gradeP_L97 mth mn mp mw mu md mo y0 y1 y2 y3 y4 y5 y6 y7 r jd y3n' y4n' y5n' w6 (n9 + 1) mks k w w7 = (
    match f_XM_takesP mth mn k w mu md mo y0 113 with
    | (r16, mp1'17) =>
      if r16 = 0 then
        match f_XM_takeP mth mn mp1'17 w mu md mo y0 59 with
        | (mp1'22, mw1'23) =>
          if mw1'23 < 0 then
            (mp1'22, mw1'23, jset y1 (31 + r) 1, jset y2 (31 + r) jd, y3n', y4n', y5n', w6, w7)
          else
            (mp1'22, mw1'23, y1, jset y2 (31 + r) jd, y3n', y4n', y5n', w6, w7)
      else
        match f_XM_numberP mth mn mp1'17 w mu md mo y0 0 3 with
        | (r29, mp1'30, mw1'31) =>
          if mw1'31 < 0 then
            if ((jI ((jI mks >>> (jI r29 &&& 31)).toInt) &&& jI 1).toInt) = 1 then
              match f_XM_takeP mth mn mp1'30 (f_XM_failP mth mn mp1'30 mw1'31 mu md mo (mp1'30 - 1)) mu md mo y0 60 with
              | (mp1'82, mw1'83) =>
                match f_XM_numberP mth mn mp1'82 mw1'83 mu md mo y0 0 999999 with
                | (r89, mp1'90, mw1'91) =>
                  f_XM_gradeP_L97 mth mn mp mw mu md mo y0 y1 y2 y3 y4 y5 y6 y7 r jd y3n' y4n' y5n' w6 n9 ((jI mks ||| jI ((jI 1 <<< (jI r29 &&& 31)).toInt)).toInt) mp1'90 mw1'91 (jset w7 ((4 * (31 + r)) + r29) r89)
            else
              match f_XM_takeP mth mn mp1'30 mw1'31 mu md mo y0 60 with
              | (mp1'61, mw1'62) =>
                match f_XM_numberP mth mn mp1'61 mw1'62 mu md mo y0 0 999999 with
                | (r68, mp1'69, mw1'70) =>
                  f_XM_gradeP_L97 mth mn mp mw mu md mo y0 y1 y2 y3 y4 y5 y6 y7 r jd y3n' y4n' y5n' w6 n9 ((jI mks ||| jI ((jI 1 <<< (jI r29 &&& 31)).toInt)).toInt) mp1'69 mw1'70 (jset w7 ((4 * (31 + r)) + r29) r68)
          else
            match f_XM_takeP mth mn mp1'30 mw1'31 mu md mo y0 60 with
            | (mp1'40, mw1'41) =>
              match f_XM_numberP mth mn mp1'40 mw1'41 mu md mo y0 0 999999 with
              | (r47, mp1'48, mw1'49) =>
                f_XM_gradeP_L97 mth mn mp mw mu md mo y0 y1 y2 y3 y4 y5 y6 y7 r jd y3n' y4n' y5n' w6 n9 ((jI mks ||| jI ((jI 1 <<< (jI r29 &&& 31)).toInt)).toInt) mp1'48 mw1'49 (jset w7 ((4 * (31 + r)) + r29) r47)
  : Int × Int × (Int → Int) × (Int → Int) × (Int → Int) × (Int → Int) × (Int → Int) × (Int → Int) × (Int → Int)) := by rw [f_XM_gradeP_L97_q]; rfl
noncomputable def g_XM_gradeP_J95 (mth : Int) (mn : Int) (mp : Int) (mw : Int) (mu : Int) (md : Int) (mo : Int) (y0 : Int → Int) (y1 : Int → Int) (y2 : Int → Int) (y3 : Int → Int) (y4 : Int → Int) (y5 : Int → Int) (y6 : Int → Int) (y7 : Int → Int) (r : Int) (jd : Int) (y3n' : Int → Int) (y4n' : Int → Int) (y5n' : Int → Int) (kr : Int) (wr9 : Int) (w6 : Int → Int) : Int × Int × (Int → Int) × (Int → Int) × (Int → Int) × (Int → Int) × (Int → Int) × (Int → Int) × (Int → Int) :=
  f_XM_gradeP_L97 mth mn mp mw mu md mo y0 y1 y2 y3 y4 y5 y6 y7 r jd y3n' y4n' y5n' w6 (Int.toNat (mn - kr) + 1) 0 kr wr9 y7
noncomputable def f_XM_gradeP_J95 : Int → Int → Int → Int → Int → Int → Int → (Int → Int) → (Int → Int) → (Int → Int) → (Int → Int) → (Int → Int) → (Int → Int) → (Int → Int) → (Int → Int) → Int → Int → (Int → Int) → (Int → Int) → (Int → Int) → Int → Int → (Int → Int) → Int × Int × (Int → Int) × (Int → Int) × (Int → Int) × (Int → Int) × (Int → Int) × (Int → Int) × (Int → Int) := jopq g_XM_gradeP_J95
theorem f_XM_gradeP_J95_q : f_XM_gradeP_J95 = g_XM_gradeP_J95 := jopq_eq _
theorem f_XM_gradeP_J95_s (mth : Int) (mn : Int) (mp : Int) (mw : Int) (mu : Int) (md : Int) (mo : Int) (y0 : Int → Int) (y1 : Int → Int) (y2 : Int → Int) (y3 : Int → Int) (y4 : Int → Int) (y5 : Int → Int) (y6 : Int → Int) (y7 : Int → Int) (r : Int) (jd : Int) (y3n' : Int → Int) (y4n' : Int → Int) (y5n' : Int → Int) (kr : Int) (wr9 : Int) (w6 : Int → Int) : f_XM_gradeP_J95 mth mn mp mw mu md mo y0 y1 y2 y3 y4 y5 y6 y7 r jd y3n' y4n' y5n' kr wr9 w6 = (
    f_XM_gradeP_L97 mth mn mp mw mu md mo y0 y1 y2 y3 y4 y5 y6 y7 r jd y3n' y4n' y5n' w6 (Int.toNat (mn - kr) + 1) 0 kr wr9 y7
  : Int × Int × (Int → Int) × (Int → Int) × (Int → Int) × (Int → Int) × (Int → Int) × (Int → Int) × (Int → Int)) := by rw [f_XM_gradeP_J95_q]; rfl
noncomputable def g_XM_gradeP_J70 (mth : Int) (mn : Int) (mp : Int) (mw : Int) (mu : Int) (md : Int) (mo : Int) (y0 : Int → Int) (y1 : Int → Int) (y2 : Int → Int) (y3 : Int → Int) (y4 : Int → Int) (y5 : Int → Int) (y6 : Int → Int) (y7 : Int → Int) (r : Int) (kj : Int) (wj : Int) (jd : Int) : Int × Int × (Int → Int) × (Int → Int) × (Int → Int) × (Int → Int) × (Int → Int) × (Int → Int) × (Int → Int) :=
  match f_XM_spansP mth mn kj wj mu md mo y0 y3 y4 y5 (31 + r) with
  | (mp1'4, mw1'5, y3n', y4n', y5n') =>
    match f_XM_takesP mth mn mp1'4 mw1'5 mu md mo y0 114 with
    | (r99, mp1'100) =>
      if r99 = 0 then
        f_XM_gradeP_J95 mth mn mp mw mu md mo y0 y1 y2 y3 y4 y5 y6 y7 r jd y3n' y4n' y5n' mp1'100 mw1'5 y6
      else
        match f_XM_routeRowP mth mn mp1'100 mw1'5 mu md mo y0 with
        | (r105, mp1'106, mw1'107) =>
          f_XM_gradeP_J95 mth mn mp mw mu md mo y0 y1 y2 y3 y4 y5 y6 y7 r jd y3n' y4n' y5n' mp1'106 mw1'107 (jset y6 (31 + r) r105)
noncomputable def f_XM_gradeP_J70 : Int → Int → Int → Int → Int → Int → Int → (Int → Int) → (Int → Int) → (Int → Int) → (Int → Int) → (Int → Int) → (Int → Int) → (Int → Int) → (Int → Int) → Int → Int → Int → Int → Int × Int × (Int → Int) × (Int → Int) × (Int → Int) × (Int → Int) × (Int → Int) × (Int → Int) × (Int → Int) := jopq g_XM_gradeP_J70
theorem f_XM_gradeP_J70_q : f_XM_gradeP_J70 = g_XM_gradeP_J70 := jopq_eq _
theorem f_XM_gradeP_J70_s (mth : Int) (mn : Int) (mp : Int) (mw : Int) (mu : Int) (md : Int) (mo : Int) (y0 : Int → Int) (y1 : Int → Int) (y2 : Int → Int) (y3 : Int → Int) (y4 : Int → Int) (y5 : Int → Int) (y6 : Int → Int) (y7 : Int → Int) (r : Int) (kj : Int) (wj : Int) (jd : Int) : f_XM_gradeP_J70 mth mn mp mw mu md mo y0 y1 y2 y3 y4 y5 y6 y7 r kj wj jd = (
    match f_XM_spansP mth mn kj wj mu md mo y0 y3 y4 y5 (31 + r) with
    | (mp1'4, mw1'5, y3n', y4n', y5n') =>
      match f_XM_takesP mth mn mp1'4 mw1'5 mu md mo y0 114 with
      | (r99, mp1'100) =>
        if r99 = 0 then
          f_XM_gradeP_J95 mth mn mp mw mu md mo y0 y1 y2 y3 y4 y5 y6 y7 r jd y3n' y4n' y5n' mp1'100 mw1'5 y6
        else
          match f_XM_routeRowP mth mn mp1'100 mw1'5 mu md mo y0 with
          | (r105, mp1'106, mw1'107) =>
            f_XM_gradeP_J95 mth mn mp mw mu md mo y0 y1 y2 y3 y4 y5 y6 y7 r jd y3n' y4n' y5n' mp1'106 mw1'107 (jset y6 (31 + r) r105)
  : Int × Int × (Int → Int) × (Int → Int) × (Int → Int) × (Int → Int) × (Int → Int) × (Int → Int) × (Int → Int)) := by rw [f_XM_gradeP_J70_q]; rfl
noncomputable def g_XM_gradeP_J37 (mth : Int) (mn : Int) (mp : Int) (mw : Int) (mu : Int) (md : Int) (mo : Int) (y0 : Int → Int) (y1 : Int → Int) (y2 : Int → Int) (y3 : Int → Int) (y4 : Int → Int) (y5 : Int → Int) (y6 : Int → Int) (y7 : Int → Int) (r : Int) (mp1' : Int) (w1 : Int) : Int × Int × (Int → Int) × (Int → Int) × (Int → Int) × (Int → Int) × (Int → Int) × (Int → Int) × (Int → Int) :=
  if w1 < 0 then
    match f_XM_takesP mth mn mp1' w1 mu md mo y0 60 with
    | (r114, mp1'115) =>
      if r114 = 0 then
        f_XM_gradeP_J70 mth mn mp mw mu md mo y0 y1 y2 y3 y4 y5 y6 y7 r mp1'115 w1 0
      else
        match f_XM_numberP mth mn mp1'115 w1 mu md mo y0 1 30 with
        | (r120, mp1'121, mw1'122) =>
          f_XM_gradeP_J70 mth mn mp mw mu md mo y0 y1 y2 y3 y4 y5 y6 y7 r mp1'121 mw1'122 r120
  else
    (mp1', w1, y1, y2, y3, y4, y5, y6, y7)
noncomputable def f_XM_gradeP_J37 : Int → Int → Int → Int → Int → Int → Int → (Int → Int) → (Int → Int) → (Int → Int) → (Int → Int) → (Int → Int) → (Int → Int) → (Int → Int) → (Int → Int) → Int → Int → Int → Int × Int × (Int → Int) × (Int → Int) × (Int → Int) × (Int → Int) × (Int → Int) × (Int → Int) × (Int → Int) := jopq g_XM_gradeP_J37
theorem f_XM_gradeP_J37_q : f_XM_gradeP_J37 = g_XM_gradeP_J37 := jopq_eq _
theorem f_XM_gradeP_J37_s (mth : Int) (mn : Int) (mp : Int) (mw : Int) (mu : Int) (md : Int) (mo : Int) (y0 : Int → Int) (y1 : Int → Int) (y2 : Int → Int) (y3 : Int → Int) (y4 : Int → Int) (y5 : Int → Int) (y6 : Int → Int) (y7 : Int → Int) (r : Int) (mp1' : Int) (w1 : Int) : f_XM_gradeP_J37 mth mn mp mw mu md mo y0 y1 y2 y3 y4 y5 y6 y7 r mp1' w1 = (
    if w1 < 0 then
      match f_XM_takesP mth mn mp1' w1 mu md mo y0 60 with
      | (r114, mp1'115) =>
        if r114 = 0 then
          f_XM_gradeP_J70 mth mn mp mw mu md mo y0 y1 y2 y3 y4 y5 y6 y7 r mp1'115 w1 0
        else
          match f_XM_numberP mth mn mp1'115 w1 mu md mo y0 1 30 with
          | (r120, mp1'121, mw1'122) =>
            f_XM_gradeP_J70 mth mn mp mw mu md mo y0 y1 y2 y3 y4 y5 y6 y7 r mp1'121 mw1'122 r120
    else
      (mp1', w1, y1, y2, y3, y4, y5, y6, y7)
  : Int × Int × (Int → Int) × (Int → Int) × (Int → Int) × (Int → Int) × (Int → Int) × (Int → Int) × (Int → Int)) := by rw [f_XM_gradeP_J37_q]; rfl
noncomputable def g_XM_gradeP (mth : Int) (mn : Int) (mp : Int) (mw : Int) (mu : Int) (md : Int) (mo : Int) (y0 : Int → Int) (y1 : Int → Int) (y2 : Int → Int) (y3 : Int → Int) (y4 : Int → Int) (y5 : Int → Int) (y6 : Int → Int) (y7 : Int → Int) : Int × Int × (Int → Int) × (Int → Int) × (Int → Int) × (Int → Int) × (Int → Int) × (Int → Int) × (Int → Int) :=
  match f_XM_numberP mth mn mp mw mu md mo y0 1 30 with
  | (r, mp1', mw1') =>
    if mw1' < 0 then
      if (y1 (31 + r)) = 0 then
        f_XM_gradeP_J37 mth mn mp mw mu md mo y0 y1 y2 y3 y4 y5 y6 y7 r mp1' mw1'
      else
        f_XM_gradeP_J37 mth mn mp mw mu md mo y0 y1 y2 y3 y4 y5 y6 y7 r mp1' (f_XM_failP mth mn mp1' mw1' mu md mo (mp1' - 1))
    else
      f_XM_gradeP_J37 mth mn mp mw mu md mo y0 y1 y2 y3 y4 y5 y6 y7 r mp1' mw1'
noncomputable def f_XM_gradeP : Int → Int → Int → Int → Int → Int → Int → (Int → Int) → (Int → Int) → (Int → Int) → (Int → Int) → (Int → Int) → (Int → Int) → (Int → Int) → (Int → Int) → Int × Int × (Int → Int) × (Int → Int) × (Int → Int) × (Int → Int) × (Int → Int) × (Int → Int) × (Int → Int) := jopq g_XM_gradeP
theorem f_XM_gradeP_q : f_XM_gradeP = g_XM_gradeP := jopq_eq _
theorem f_XM_gradeP_s (mth : Int) (mn : Int) (mp : Int) (mw : Int) (mu : Int) (md : Int) (mo : Int) (y0 : Int → Int) (y1 : Int → Int) (y2 : Int → Int) (y3 : Int → Int) (y4 : Int → Int) (y5 : Int → Int) (y6 : Int → Int) (y7 : Int → Int) : f_XM_gradeP mth mn mp mw mu md mo y0 y1 y2 y3 y4 y5 y6 y7 = (
    match f_XM_numberP mth mn mp mw mu md mo y0 1 30 with
    | (r, mp1', mw1') =>
      if mw1' < 0 then
        if (y1 (31 + r)) = 0 then
          f_XM_gradeP_J37 mth mn mp mw mu md mo y0 y1 y2 y3 y4 y5 y6 y7 r mp1' mw1'
        else
          f_XM_gradeP_J37 mth mn mp mw mu md mo y0 y1 y2 y3 y4 y5 y6 y7 r mp1' (f_XM_failP mth mn mp1' mw1' mu md mo (mp1' - 1))
      else
        f_XM_gradeP_J37 mth mn mp mw mu md mo y0 y1 y2 y3 y4 y5 y6 y7 r mp1' mw1'
  : Int × Int × (Int → Int) × (Int → Int) × (Int → Int) × (Int → Int) × (Int → Int) × (Int → Int) × (Int → Int)) := by rw [f_XM_gradeP_q]; rfl
set_option maxHeartbeats 4000000 in
set_option maxRecDepth 100000 in
theorem c_XM_gradeP (l : Launch) (dC : Nat → ClassId) (dI : Nat → Nat → Nat) (cA cZ : ClassId) (sz : Nat) (ma : Nat) (a0 : Nat) (a1 : Nat) (a2 : Nat) (a3 : Nat) (a4 : Nat) (a5 : Nat) (a6 : Nat) (a7 : Nat) (a8 : Nat) (a9 : Nat) (a10 : Nat) (a11 : Nat) (mth : Int) (mn : Int) (mp : Int) (mw : Int) (mu : Int) (md : Int) (mo : Int) (y0 : Int → Int) (y1 : Int → Int) (y2 : Int → Int) (y3 : Int → Int) (y4 : Int → Int) (y5 : Int → Int) (y6 : Int → Int) (y7 : Int → Int) (hy0 : ∀ i, 0 ≤ y0 i ∧ y0 i ≤ 255) (hmn : 0 ≤ mn ∧ mn ≤ 400) (hmp : 0 ≤ mp ∧ mp ≤ mn) (hmw : -1 ≤ mw ∧ mw ≤ 400) (hy1 : ∀ i, 0 ≤ y1 i ∧ y1 i ≤ 1) (hy2 : ∀ i, 0 ≤ y2 i ∧ y2 i ≤ 30) (hy3 : ∀ i, 0 ≤ y3 i ∧ y3 i ≤ 1) (hy4 : ∀ i, 0 ≤ y4 i ∧ y4 i ≤ 100000) (hy5 : ∀ i, 0 ≤ y5 i ∧ y5 i ≤ 100000) (hy6 : ∀ i, -2147483648 ≤ y6 i ∧ y6 i ≤ 2147483647) (hy7 : ∀ i, -1 ≤ y7 i ∧ y7 i ≤ 999999) : Met l yXM_grade (Cond.code yXM_grade cXM_grade 4 none :: TBL) ({ frames := 4, cells := 0, slots := 0, locals := 90 } : Room) (va_Pc [.ref ma] (jBw (dC, dI) [(cA, .int), (cZ, .boolean)] [(ma, .inr (5, [.int (jI mth), .int (jI mn), .ref a0, .int (jI mp), .int (jI mw), .ref a1, .ref a2, .ref a3, .ref a4, .ref a5, .ref a6, .ref a7, .ref a8, .ref a9, .ref a10, .long (jL mu), .long (jL md), .int (jI mo), .ref a11])), (a0, .inl (cA, 400, .inl (jA y0))), (a1, .inl (cZ, 62, .inl (jA y1))), (a2, .inl (cA, 62, .inl (jA y2))), (a3, .inl (cZ, 496, .inl (jA y3))), (a4, .inl (cA, 496, .inl (jA y4))), (a5, .inl (cA, 496, .inl (jA y5))), (a6, .inl (cA, 62, .inl (jA y6))), (a7, .inl (cA, 248, .inl (jA y7)))] sz)) (va_Qv (fun (u : Int × Int × (Int → Int) × (Int → Int) × (Int → Int) × (Int → Int) × (Int → Int) × (Int → Int) × (Int → Int)) => u = f_XM_gradeP mth mn mp mw mu md mo y0 y1 y2 y3 y4 y5 y6 y7 ∧ (mp ≤ u.1 ∧ u.1 ≤ mn) ∧ (-1 ≤ u.2.1 ∧ u.2.1 ≤ 400 ∧ mw ≤ u.2.1) ∧ (∀ i, 0 ≤ u.2.2.1 i ∧ u.2.2.1 i ≤ 1) ∧ (∀ i, 0 ≤ u.2.2.2.1 i ∧ u.2.2.2.1 i ≤ 30) ∧ (∀ i, 0 ≤ u.2.2.2.2.1 i ∧ u.2.2.2.2.1 i ≤ 1) ∧ (∀ i, 0 ≤ u.2.2.2.2.2.1 i ∧ u.2.2.2.2.2.1 i ≤ 100000) ∧ (∀ i, 0 ≤ u.2.2.2.2.2.2.1 i ∧ u.2.2.2.2.2.2.1 i ≤ 100000) ∧ (∀ i, -2147483648 ≤ u.2.2.2.2.2.2.2.1 i ∧ u.2.2.2.2.2.2.2.1 i ≤ 2147483647) ∧ (∀ i, -1 ≤ u.2.2.2.2.2.2.2.2 i ∧ u.2.2.2.2.2.2.2.2 i ≤ 999999) ∧ (∀ i, i < 31 → u.2.2.1 i = y1 i) ∧ (∀ i, i < 31 → u.2.2.2.1 i = y2 i) ∧ (∀ i, i < 248 → u.2.2.2.2.1 i = y3 i) ∧ (∀ i, i < 248 → u.2.2.2.2.2.1 i = y4 i) ∧ (∀ i, i < 248 → u.2.2.2.2.2.2.1 i = y5 i) ∧ (∀ i, i < 31 → u.2.2.2.2.2.2.2.1 i = y6 i) ∧ (∀ i, i < 124 → u.2.2.2.2.2.2.2.2 i = y7 i)) (fun u t => jE (dC, dI) [(cA, .int), (cZ, .boolean)] [(ma, .inr (5, [.int (jI mth), .int (jI mn), .ref a0, .int (jI mp), .int (jI mw), .ref a1, .ref a2, .ref a3, .ref a4, .ref a5, .ref a6, .ref a7, .ref a8, .ref a9, .ref a10, .long (jL mu), .long (jL md), .int (jI mo), .ref a11])), (a0, .inl (cA, 400, .inl (jA y0))), (a1, .inl (cZ, 62, .inl (jA y1))), (a2, .inl (cA, 62, .inl (jA y2))), (a3, .inl (cZ, 496, .inl (jA y3))), (a4, .inl (cA, 496, .inl (jA y4))), (a5, .inl (cA, 496, .inl (jA y5))), (a6, .inl (cA, 62, .inl (jA y6))), (a7, .inl (cA, 248, .inl (jA y7)))] sz [(ma, .inr (5, [.int (jI mth), .int (jI mn), .ref a0, .int (jI u.1), .int (jI u.2.1), .ref a1, .ref a2, .ref a3, .ref a4, .ref a5, .ref a6, .ref a7, .ref a8, .ref a9, .ref a10, .long (jL mu), .long (jL md), .int (jI mo), .ref a11])), (a0, .inl (cA, 400, .inl (jA y0))), (a1, .inl (cZ, 62, .inl (jA u.2.2.1))), (a2, .inl (cA, 62, .inl (jA u.2.2.2.1))), (a3, .inl (cZ, 496, .inl (jA u.2.2.2.2.1))), (a4, .inl (cA, 496, .inl (jA u.2.2.2.2.2.1))), (a5, .inl (cA, 496, .inl (jA u.2.2.2.2.2.2.1))), (a6, .inl (cA, 62, .inl (jA u.2.2.2.2.2.2.2.1))), (a7, .inl (cA, 248, .inl (jA u.2.2.2.2.2.2.2.2)))] t) (va_A [(ma, .inr (5, [.int (jI mth), .int (jI mn), .ref a0, .int (jI mp), .int (jI mw), .ref a1, .ref a2, .ref a3, .ref a4, .ref a5, .ref a6, .ref a7, .ref a8, .ref a9, .ref a10, .long (jL mu), .long (jL md), .int (jI mo), .ref a11])), (a0, .inl (cA, 400, .inl (jA y0))), (a1, .inl (cZ, 62, .inl (jA y1))), (a2, .inl (cA, 62, .inl (jA y2))), (a3, .inl (cZ, 496, .inl (jA y3))), (a4, .inl (cA, 496, .inl (jA y4))), (a5, .inl (cA, 496, .inl (jA y5))), (a6, .inl (cA, 62, .inl (jA y6))), (a7, .inl (cA, 248, .inl (jA y7)))] sz)) 0 0 (va_A [(ma, .inr (5, [.int (jI mth), .int (jI mn), .ref a0, .int (jI mp), .int (jI mw), .ref a1, .ref a2, .ref a3, .ref a4, .ref a5, .ref a6, .ref a7, .ref a8, .ref a9, .ref a10, .long (jL mu), .long (jL md), .int (jI mo), .ref a11])), (a0, .inl (cA, 400, .inl (jA y0))), (a1, .inl (cZ, 62, .inl (jA y1))), (a2, .inl (cA, 62, .inl (jA y2))), (a3, .inl (cZ, 496, .inl (jA y3))), (a4, .inl (cA, 496, .inl (jA y4))), (a5, .inl (cA, 496, .inl (jA y5))), (a6, .inl (cA, 62, .inl (jA y6))), (a7, .inl (cA, 248, .inl (jA y7)))] sz) := by
  refine jMet (cc := cXM_grade) (maxL := 4) (ret := none) (by decide) rfl ?_
  intro p e s m args below meth c s₁ R Q hR hQ B hml hv
  obtain ⟨rfl, hsz, hP, hK, hD0, hN⟩ := hv
  have hx := B.exec
  have hb := B.bytes
  have hr := B.returns
  have hts := atoms_spec (ws := Cond.code yXM_grade cXM_grade 4 none :: TBL) B.pre
  have hown : s.vm.findClass RXM = some m.cls := findClass_of_methodNamed B.named
  have hlocks := B.notSynchronized
  subst hsz
  obtain ⟨A, hAe⟩ : ∃ A, A = va_A [(ma, .inr (5, [.int (jI mth), .int (jI mn), .ref a0, .int (jI mp), .int (jI mw), .ref a1, .ref a2, .ref a3, .ref a4, .ref a5, .ref a6, .ref a7, .ref a8, .ref a9, .ref a10, .long (jL mu), .long (jL md), .int (jI mo), .ref a11])), (a0, .inl (cA, 400, .inl (jA y0))), (a1, .inl (cZ, 62, .inl (jA y1))), (a2, .inl (cA, 62, .inl (jA y2))), (a3, .inl (cZ, 496, .inl (jA y3))), (a4, .inl (cA, 496, .inl (jA y4))), (a5, .inl (cA, 496, .inl (jA y5))), (a6, .inl (cA, 62, .inl (jA y6))), (a7, .inl (cA, 248, .inl (jA y7)))] s.heap.size := ⟨_, rfl⟩
  have hD : va_D A [(ma, .inr (5, [.int (jI mth), .int (jI mn), .ref a0, .int (jI mp), .int (jI mw), .ref a1, .ref a2, .ref a3, .ref a4, .ref a5, .ref a6, .ref a7, .ref a8, .ref a9, .ref a10, .long (jL mu), .long (jL md), .int (jI mo), .ref a11])), (a0, .inl (cA, 400, .inl (jA y0))), (a1, .inl (cZ, 62, .inl (jA y1))), (a2, .inl (cA, 62, .inl (jA y2))), (a3, .inl (cZ, 496, .inl (jA y3))), (a4, .inl (cA, 496, .inl (jA y4))), (a5, .inl (cA, 496, .inl (jA y5))), (a6, .inl (cA, 62, .inl (jA y6))), (a7, .inl (cA, 248, .inl (jA y7)))] := by rw [hAe]; exact hD0.self
  have hA : ∀ q : Nat, s.heap.size ≤ q → A q := fun q h => by rw [hAe]; exact Or.inr h
  have hS : va_S A s.heap s.heap [] := va_S.rf
  have hP : va_P (dC, dI) vwCl [(ma, .inr (5, [.int (jI mth), .int (jI mn), .ref a0, .int (jI mp), .int (jI mw), .ref a1, .ref a2, .ref a3, .ref a4, .ref a5, .ref a6, .ref a7, .ref a8, .ref a9, .ref a10, .long (jL mu), .long (jL md), .int (jI mo), .ref a11])), (a0, .inl (cA, 400, .inl (jA y0))), (a1, .inl (cZ, 62, .inl (jA y1))), (a2, .inl (cA, 62, .inl (jA y2))), (a3, .inl (cZ, 496, .inl (jA y3))), (a4, .inl (cA, 496, .inl (jA y4))), (a5, .inl (cA, 496, .inl (jA y5))), (a6, .inl (cA, 62, .inl (jA y6))), (a7, .inl (cA, 248, .inl (jA y7)))] s.heap := hP
  have hl := lv_entry ([.ref ma]) (n := 4) (Nat.le_of_ble_eq_true rfl)
  rw [lg_entry_eq]
  generalize (lg_sl ([.ref ma]) ++ List.replicate (4 - (lg_sl ([.ref ma])).length) Slot.unset).toArray = ls at hl ⊢
  have hl : lv_has ls 4 [(0, .ref ma)] := hl
  refine ji_bipush hx hb dXM_grade_0 (by decide) ?_
  refine lv_aload_n hx hb dXM_grade_2 rfl (lv_at hl 0 rfl) ?_
  refine ji_iconst hx hb dXM_grade_3 ?_
  refine ji_bipush hx hb dXM_grade_4 (by decide) ?_
  refine jwVi (rest := [.int (jI 31)]) (wr := [(a1, .inl (cZ, 62, .inl (jA y1))), (a2, .inl (cA, 62, .inl (jA y2))), (a3, .inl (cZ, 496, .inl (jA y3))), (a4, .inl (cA, 496, .inl (jA y4))), (a5, .inl (cA, 496, .inl (jA y5))), (a6, .inl (cA, 62, .inl (jA y6))), (a7, .inl (cA, 248, .inl (jA y7)))]) ⟨hx, hb, hml, hown, hts⟩ (c_XM_numberP l dC dI cA cZ _ ma a0 a1 a2 a3 a4 a5 a6 a7 a8 a9 a10 a11 mth mn mp mw mu md mo y0 1 30 (by first | assumption | omega) (by first | assumption | omega) (by first | assumption | omega) (by first | assumption | omega) (by first | assumption | omega)) (cwV 2 hts (jG_V tw_726 tw_728 ts_20 tw_6 tw_729) rfl rfl rfl (by decide +kernel) (by rw [hR]; exact ⟨Nat.le_of_ble_eq_true rfl, Nat.le_of_ble_eq_true rfl⟩)) hK hP hD hS hA hN [0, 1] [2, 3, 4, 5, 6, 7, 8] rfl rfl (by decide) (by decide) (by decide) 0 5 rfl rfl rfl rfl hl.1 rfl (Nat.le_of_ble_eq_true rfl) dXM_grade_6 (by rw [hR]; exact ⟨Nat.le_of_ble_eq_true rfl, Nat.le_of_ble_eq_true rfl⟩) (fun v u H locs hwb hP hD hS => ?_)
  obtain ⟨r, mp1', mw1'⟩ := u
  try dsimp only at hwb
  obtain ⟨er, hwb, f, f1, f2, f3⟩ := hwb
  subst er
  have f : 1 ≤ r ∧ r ≤ 30 := f
  have f1 : mp ≤ mp1' ∧ mp1' ≤ mn := f1
  have f2 : -1 ≤ mw1' ∧ mw1' ≤ 400 ∧ mw ≤ mw1' := f2
  have f3 : mw1' < 0 → mp < mp1' := f3
  have hP : va_P (dC, dI) vwCl [(a1, .inl (cZ, 62, .inl (jA y1))), (a2, .inl (cA, 62, .inl (jA y2))), (a3, .inl (cZ, 496, .inl (jA y3))), (a4, .inl (cA, 496, .inl (jA y4))), (a5, .inl (cA, 496, .inl (jA y5))), (a6, .inl (cA, 62, .inl (jA y6))), (a7, .inl (cA, 248, .inl (jA y7))), (ma, .inr (5, [.int (jI mth), .int (jI mn), .ref a0, .int (jI mp1'), .int (jI mw1'), .ref a1, .ref a2, .ref a3, .ref a4, .ref a5, .ref a6, .ref a7, .ref a8, .ref a9, .ref a10, .long (jL mu), .long (jL md), .int (jI mo), .ref a11])), (a0, .inl (cA, 400, .inl (jA y0)))] H := hP
  have hD : va_D A [(a1, .inl (cZ, 62, .inl (jA y1))), (a2, .inl (cA, 62, .inl (jA y2))), (a3, .inl (cZ, 496, .inl (jA y3))), (a4, .inl (cA, 496, .inl (jA y4))), (a5, .inl (cA, 496, .inl (jA y5))), (a6, .inl (cA, 62, .inl (jA y6))), (a7, .inl (cA, 248, .inl (jA y7))), (ma, .inr (5, [.int (jI mth), .int (jI mn), .ref a0, .int (jI mp1'), .int (jI mw1'), .ref a1, .ref a2, .ref a3, .ref a4, .ref a5, .ref a6, .ref a7, .ref a8, .ref a9, .ref a10, .long (jL mu), .long (jL md), .int (jI mo), .ref a11])), (a0, .inl (cA, 400, .inl (jA y0)))] := hD
  refine ji_iadd hx hb dXM_grade_9 ?_
  refine lv_istore_n (lv' := [(1, .int (jI (31 + r))), (0, .ref ma)]) hx hb dXM_grade_10 rfl hl (by decide) rfl (fun ls hl => ?_)
  have join37 : ∀ (w1 : Int) , f_XM_gradeP_J37 mth mn mp mw mu md mo y0 y1 y2 y3 y4 y5 y6 y7 r mp1' w1 = f_XM_gradeP mth mn mp mw mu md mo y0 y1 y2 y3 y4 y5 y6 y7 → (-1 ≤ w1 ∧ w1 ≤ 400 ∧ mw1' ≤ w1) → ∀ (H : Heap) (locs : List Loc), va_P (dC, dI) vwCl [(a1, .inl (cZ, 62, .inl (jA y1))), (a2, .inl (cA, 62, .inl (jA y2))), (a3, .inl (cZ, 496, .inl (jA y3))), (a4, .inl (cA, 496, .inl (jA y4))), (a5, .inl (cA, 496, .inl (jA y5))), (a6, .inl (cA, 62, .inl (jA y6))), (a7, .inl (cA, 248, .inl (jA y7))), (ma, .inr (5, [.int (jI mth), .int (jI mn), .ref a0, .int (jI mp1'), .int (jI w1), .ref a1, .ref a2, .ref a3, .ref a4, .ref a5, .ref a6, .ref a7, .ref a8, .ref a9, .ref a10, .long (jL mu), .long (jL md), .int (jI mo), .ref a11])), (a0, .inl (cA, 400, .inl (jA y0)))] H → va_D A [(a1, .inl (cZ, 62, .inl (jA y1))), (a2, .inl (cA, 62, .inl (jA y2))), (a3, .inl (cZ, 496, .inl (jA y3))), (a4, .inl (cA, 496, .inl (jA y4))), (a5, .inl (cA, 496, .inl (jA y5))), (a6, .inl (cA, 62, .inl (jA y6))), (a7, .inl (cA, 248, .inl (jA y7))), (ma, .inr (5, [.int (jI mth), .int (jI mn), .ref a0, .int (jI mp1'), .int (jI w1), .ref a1, .ref a2, .ref a3, .ref a4, .ref a5, .ref a6, .ref a7, .ref a8, .ref a9, .ref a10, .long (jL mu), .long (jL md), .int (jI mo), .ref a11])), (a0, .inl (cA, 400, .inl (jA y0)))] → va_S A s.heap H locs → ∀ ls : Array Slot, lv_has ls 4 [(1, .int (jI (31 + r))), (0, .ref ma)] → W p l e R s m ([.ref ma] : List Value).toArray below meth c H locs 0 0 Q (F0 m 37 ls []) := by
    intro w1 hF hw1 H locs hP hD hS ls hl
    refine lv_aload_n hx hb dXM_grade_37 rfl (lv_at hl 1 rfl) ?_
    refine va_get (D := (dC, dI)) (ci := 5) (v := .int (jI w1)) (C := RXM) (T := TXM) (N := 19) hx hb hts (fun w h => jmem (inXM w h)) hown hK hP 7 rfl rfl 4 (by decide) (hts _ (jmem tw_632)) (fun _ h9 => h9) rfl dXM_grade_38 ?_
    refine ji_if_lt (tgt := 45) hx hb dXM_grade_41 (by decide) (by omega) (fun c41_ => ?_) (fun c41_ => ?_)
    · refine lv_aload_n hx hb dXM_grade_45 rfl (lv_at hl 1 rfl) ?_
      refine va_get (D := (dC, dI)) (ci := 5) (v := .ref a2) (C := RXM) (T := TXM) (N := 19) hx hb hts (fun w h => jmem (inXM w h)) hown hK hP 7 rfl rfl 6 (by decide) (hts _ (jmem tw_634)) (fun _ h9 => h9) rfl dXM_grade_46 ?_
      refine lv_iload_n hx hb dXM_grade_49 rfl (lv_at hl 0 rfl) ?_
      have join70 : ∀ (kj : Int) (wj : Int) (jd : Int) , f_XM_gradeP_J70 mth mn mp mw mu md mo y0 y1 y2 y3 y4 y5 y6 y7 r kj wj jd = f_XM_gradeP mth mn mp mw mu md mo y0 y1 y2 y3 y4 y5 y6 y7 → (mp1' ≤ kj ∧ kj ≤ mn) → (-1 ≤ wj ∧ wj ≤ 400 ∧ w1 ≤ wj) → (0 ≤ jd ∧ jd ≤ 30) → ∀ (H : Heap) (locs : List Loc), va_P (dC, dI) vwCl [(a1, .inl (cZ, 62, .inl (jA y1))), (a2, .inl (cA, 62, .inl (jA y2))), (a3, .inl (cZ, 496, .inl (jA y3))), (a4, .inl (cA, 496, .inl (jA y4))), (a5, .inl (cA, 496, .inl (jA y5))), (a6, .inl (cA, 62, .inl (jA y6))), (a7, .inl (cA, 248, .inl (jA y7))), (ma, .inr (5, [.int (jI mth), .int (jI mn), .ref a0, .int (jI kj), .int (jI wj), .ref a1, .ref a2, .ref a3, .ref a4, .ref a5, .ref a6, .ref a7, .ref a8, .ref a9, .ref a10, .long (jL mu), .long (jL md), .int (jI mo), .ref a11])), (a0, .inl (cA, 400, .inl (jA y0)))] H → va_D A [(a1, .inl (cZ, 62, .inl (jA y1))), (a2, .inl (cA, 62, .inl (jA y2))), (a3, .inl (cZ, 496, .inl (jA y3))), (a4, .inl (cA, 496, .inl (jA y4))), (a5, .inl (cA, 496, .inl (jA y5))), (a6, .inl (cA, 62, .inl (jA y6))), (a7, .inl (cA, 248, .inl (jA y7))), (ma, .inr (5, [.int (jI mth), .int (jI mn), .ref a0, .int (jI kj), .int (jI wj), .ref a1, .ref a2, .ref a3, .ref a4, .ref a5, .ref a6, .ref a7, .ref a8, .ref a9, .ref a10, .long (jL mu), .long (jL md), .int (jI mo), .ref a11])), (a0, .inl (cA, 400, .inl (jA y0)))] → va_S A s.heap H locs → ∀ ls : Array Slot, lv_has ls 4 [(1, .int (jI (31 + r))), (0, .ref ma)] → W p l e R s m ([.ref ma] : List Value).toArray below meth c H locs 0 0 Q (F0 m 70 ls [.int (jI jd), .int (jI (31 + r)), .ref a2]) := by
        intro kj wj jd hF hkj hwj hjd H locs hP hD hS ls hl
        refine ji_iast hx hb hK hP hD hS 1 0 rfl rfl ⟨by omega, by omega⟩ (by decide) dXM_grade_70 (fun H locs hP hD hS => ?_)
        have hP : va_P (dC, dI) vwCl [(a1, .inl (cZ, 62, .inl (jA y1))), (a2, .inl (cA, 62, .inl (jA (jset y2 (31 + r) jd)))), (a3, .inl (cZ, 496, .inl (jA y3))), (a4, .inl (cA, 496, .inl (jA y4))), (a5, .inl (cA, 496, .inl (jA y5))), (a6, .inl (cA, 62, .inl (jA y6))), (a7, .inl (cA, 248, .inl (jA y7))), (ma, .inr (5, [.int (jI mth), .int (jI mn), .ref a0, .int (jI kj), .int (jI wj), .ref a1, .ref a2, .ref a3, .ref a4, .ref a5, .ref a6, .ref a7, .ref a8, .ref a9, .ref a10, .long (jL mu), .long (jL md), .int (jI mo), .ref a11])), (a0, .inl (cA, 400, .inl (jA y0)))] H := hP
        have hD : va_D A [(a1, .inl (cZ, 62, .inl (jA y1))), (a2, .inl (cA, 62, .inl (jA (jset y2 (31 + r) jd)))), (a3, .inl (cZ, 496, .inl (jA y3))), (a4, .inl (cA, 496, .inl (jA y4))), (a5, .inl (cA, 496, .inl (jA y5))), (a6, .inl (cA, 62, .inl (jA y6))), (a7, .inl (cA, 248, .inl (jA y7))), (ma, .inr (5, [.int (jI mth), .int (jI mn), .ref a0, .int (jI kj), .int (jI wj), .ref a1, .ref a2, .ref a3, .ref a4, .ref a5, .ref a6, .ref a7, .ref a8, .ref a9, .ref a10, .long (jL mu), .long (jL md), .int (jI mo), .ref a11])), (a0, .inl (cA, 400, .inl (jA y0)))] := hD
        refine lv_aload_n hx hb dXM_grade_71 rfl (lv_at hl 1 rfl) ?_
        refine lv_iload_n hx hb dXM_grade_72 rfl (lv_at hl 0 rfl) ?_
        refine jwVv (rest := []) (wr := [(a1, .inl (cZ, 62, .inl (jA y1))), (a2, .inl (cA, 62, .inl (jA (jset y2 (31 + r) jd)))), (a6, .inl (cA, 62, .inl (jA y6))), (a7, .inl (cA, 248, .inl (jA y7)))]) ⟨hx, hb, hml, hown, hts⟩ (c_XM_spansP l dC dI cA cZ _ ma a0 a1 a2 a3 a4 a5 a6 a7 a8 a9 a10 a11 mth mn kj wj mu md mo y0 y3 y4 y5 (31 + r) (by first | assumption | omega) (by first | assumption | omega) (by first | assumption | omega) (by first | assumption | omega) (by first | assumption | omega) (by first | assumption | omega) (by first | assumption | omega) (by first | assumption | omega)) (cwV 1 hts (jG_V tw_750 tw_752 ts_26 tw_6 tw_753) rfl rfl rfl (by decide +kernel) (by rw [hR]; exact ⟨Nat.le_of_ble_eq_true rfl, Nat.le_of_ble_eq_true rfl⟩)) hK hP hD hS hA hN [7, 8, 2, 3, 4] [0, 1, 5, 6] rfl rfl (by decide) (by decide) (by decide) 7 5 rfl rfl rfl rfl hl.1 rfl (Nat.le_of_ble_eq_true rfl) dXM_grade_73 (by rw [hR]; exact ⟨Nat.le_of_ble_eq_true rfl, Nat.le_of_ble_eq_true rfl⟩) (fun u6 H locs hwb7 hP hD hS => ?_)
        obtain ⟨mp1'4, mw1'5, y3n', y4n', y5n'⟩ := u6
        try dsimp only at hwb7
        obtain ⟨hwb7, f8, f9, f10, f11, f12, f13, f14, f15⟩ := hwb7
        have f8 : kj ≤ mp1'4 ∧ mp1'4 ≤ mn := f8
        have f9 : -1 ≤ mw1'5 ∧ mw1'5 ≤ 400 ∧ wj ≤ mw1'5 := f9
        have f10 : ∀ i, 0 ≤ y3n' i ∧ y3n' i ≤ 1 := f10
        have f11 : ∀ i, 0 ≤ y4n' i ∧ y4n' i ≤ 100000 := f11
        have f12 : ∀ i, 0 ≤ y5n' i ∧ y5n' i ≤ 100000 := f12
        have f13 : ∀ i, i < 248 → y3n' i = y3 i := f13
        have f14 : ∀ i, i < 248 → y4n' i = y4 i := f14
        have f15 : ∀ i, i < 248 → y5n' i = y5 i := f15
        have hP : va_P (dC, dI) vwCl [(a1, .inl (cZ, 62, .inl (jA y1))), (a2, .inl (cA, 62, .inl (jA (jset y2 (31 + r) jd)))), (a6, .inl (cA, 62, .inl (jA y6))), (a7, .inl (cA, 248, .inl (jA y7))), (ma, .inr (5, [.int (jI mth), .int (jI mn), .ref a0, .int (jI mp1'4), .int (jI mw1'5), .ref a1, .ref a2, .ref a3, .ref a4, .ref a5, .ref a6, .ref a7, .ref a8, .ref a9, .ref a10, .long (jL mu), .long (jL md), .int (jI mo), .ref a11])), (a0, .inl (cA, 400, .inl (jA y0))), (a3, .inl (cZ, 496, .inl (jA y3n'))), (a4, .inl (cA, 496, .inl (jA y4n'))), (a5, .inl (cA, 496, .inl (jA y5n')))] H := hP
        have hD : va_D A [(a1, .inl (cZ, 62, .inl (jA y1))), (a2, .inl (cA, 62, .inl (jA (jset y2 (31 + r) jd)))), (a6, .inl (cA, 62, .inl (jA y6))), (a7, .inl (cA, 248, .inl (jA y7))), (ma, .inr (5, [.int (jI mth), .int (jI mn), .ref a0, .int (jI mp1'4), .int (jI mw1'5), .ref a1, .ref a2, .ref a3, .ref a4, .ref a5, .ref a6, .ref a7, .ref a8, .ref a9, .ref a10, .long (jL mu), .long (jL md), .int (jI mo), .ref a11])), (a0, .inl (cA, 400, .inl (jA y0))), (a3, .inl (cZ, 496, .inl (jA y3n'))), (a4, .inl (cA, 496, .inl (jA y4n'))), (a5, .inl (cA, 496, .inl (jA y5n')))] := hD
        have join95 : ∀ (kr : Int) (wr9 : Int) (w6 : Int → Int) , f_XM_gradeP_J95 mth mn mp mw mu md mo y0 y1 y2 y3 y4 y5 y6 y7 r jd y3n' y4n' y5n' kr wr9 w6 = f_XM_gradeP mth mn mp mw mu md mo y0 y1 y2 y3 y4 y5 y6 y7 → (mp1'4 ≤ kr ∧ kr ≤ mn) → (-1 ≤ wr9 ∧ wr9 ≤ 400 ∧ mw1'5 ≤ wr9) → (∀ i, -2147483648 ≤ w6 i ∧ w6 i ≤ 2147483647) → (∀ i, i < 31 → w6 i = y6 i) → ∀ (H : Heap) (locs : List Loc), va_P (dC, dI) vwCl [(a1, .inl (cZ, 62, .inl (jA y1))), (a2, .inl (cA, 62, .inl (jA (jset y2 (31 + r) jd)))), (a6, .inl (cA, 62, .inl (jA w6))), (a7, .inl (cA, 248, .inl (jA y7))), (ma, .inr (5, [.int (jI mth), .int (jI mn), .ref a0, .int (jI kr), .int (jI wr9), .ref a1, .ref a2, .ref a3, .ref a4, .ref a5, .ref a6, .ref a7, .ref a8, .ref a9, .ref a10, .long (jL mu), .long (jL md), .int (jI mo), .ref a11])), (a0, .inl (cA, 400, .inl (jA y0))), (a3, .inl (cZ, 496, .inl (jA y3n'))), (a4, .inl (cA, 496, .inl (jA y4n'))), (a5, .inl (cA, 496, .inl (jA y5n')))] H → va_D A [(a1, .inl (cZ, 62, .inl (jA y1))), (a2, .inl (cA, 62, .inl (jA (jset y2 (31 + r) jd)))), (a6, .inl (cA, 62, .inl (jA w6))), (a7, .inl (cA, 248, .inl (jA y7))), (ma, .inr (5, [.int (jI mth), .int (jI mn), .ref a0, .int (jI kr), .int (jI wr9), .ref a1, .ref a2, .ref a3, .ref a4, .ref a5, .ref a6, .ref a7, .ref a8, .ref a9, .ref a10, .long (jL mu), .long (jL md), .int (jI mo), .ref a11])), (a0, .inl (cA, 400, .inl (jA y0))), (a3, .inl (cZ, 496, .inl (jA y3n'))), (a4, .inl (cA, 496, .inl (jA y4n'))), (a5, .inl (cA, 496, .inl (jA y5n')))] → va_S A s.heap H locs → ∀ ls : Array Slot, lv_has ls 4 [(1, .int (jI (31 + r))), (0, .ref ma)] → W p l e R s m ([.ref ma] : List Value).toArray below meth c H locs 0 0 Q (F0 m 95 ls []) := by
          intro kr wr9 w6 hF hkr hwr hw6 hl6 H locs hP hD hS ls hl
          refine ji_iconst hx hb dXM_grade_95 ?_
          refine lv_istore_n (lv' := [(2, .int (jI 0)), (1, .int (jI (31 + r))), (0, .ref ma)]) hx hb dXM_grade_96 rfl hl (by decide) rfl (fun ls hl => ?_)
          have loop97 : ∀ (n9 : Nat) (mks : Int) (k : Int) (w : Int) (w7 : Int → Int) , mn - k < (n9 : Int) → f_XM_gradeP_L97 mth mn mp mw mu md mo y0 y1 y2 y3 y4 y5 y6 y7 r jd y3n' y4n' y5n' w6 n9 mks k w w7 = f_XM_gradeP mth mn mp mw mu md mo y0 y1 y2 y3 y4 y5 y6 y7 → (kr ≤ k ∧ k ≤ mn) → (-1 ≤ w ∧ w ≤ 400 ∧ wr9 ≤ w) → (i32 mks) → (∀ i, -1 ≤ w7 i ∧ w7 i ≤ 999999) → (∀ i, i < 124 → w7 i = y7 i) → ∀ (H : Heap) (locs : List Loc), va_P (dC, dI) vwCl [(a1, .inl (cZ, 62, .inl (jA y1))), (a2, .inl (cA, 62, .inl (jA (jset y2 (31 + r) jd)))), (a6, .inl (cA, 62, .inl (jA w6))), (a7, .inl (cA, 248, .inl (jA w7))), (ma, .inr (5, [.int (jI mth), .int (jI mn), .ref a0, .int (jI k), .int (jI w), .ref a1, .ref a2, .ref a3, .ref a4, .ref a5, .ref a6, .ref a7, .ref a8, .ref a9, .ref a10, .long (jL mu), .long (jL md), .int (jI mo), .ref a11])), (a0, .inl (cA, 400, .inl (jA y0))), (a3, .inl (cZ, 496, .inl (jA y3n'))), (a4, .inl (cA, 496, .inl (jA y4n'))), (a5, .inl (cA, 496, .inl (jA y5n')))] H → va_D A [(a1, .inl (cZ, 62, .inl (jA y1))), (a2, .inl (cA, 62, .inl (jA (jset y2 (31 + r) jd)))), (a6, .inl (cA, 62, .inl (jA w6))), (a7, .inl (cA, 248, .inl (jA w7))), (ma, .inr (5, [.int (jI mth), .int (jI mn), .ref a0, .int (jI k), .int (jI w), .ref a1, .ref a2, .ref a3, .ref a4, .ref a5, .ref a6, .ref a7, .ref a8, .ref a9, .ref a10, .long (jL mu), .long (jL md), .int (jI mo), .ref a11])), (a0, .inl (cA, 400, .inl (jA y0))), (a3, .inl (cZ, 496, .inl (jA y3n'))), (a4, .inl (cA, 496, .inl (jA y4n'))), (a5, .inl (cA, 496, .inl (jA y5n')))] → va_S A s.heap H locs → ∀ ls : Array Slot, lv_has ls 4 [(2, .int (jI mks)), (1, .int (jI (31 + r))), (0, .ref ma)] → W p l e R s m ([.ref ma] : List Value).toArray below meth c H locs 0 0 Q (F0 m 97 ls []) := by
            intro n9
            induction n9 with
            | zero =>
              intro mks k w w7 hm hF hk hw hmk hw7 hl7
              exact absurd hm (by omega)
            | succ n9 ih97 =>
              intro mks k w w7 hm hF hk hw hmk hw7 hl7 H locs hP hD hS ls hl
              refine lv_aload_n hx hb dXM_grade_97 rfl (lv_at hl 2 rfl) ?_
              refine ji_bipush hx hb dXM_grade_98 (by decide) ?_
              refine jwVi (rest := []) (wr := [(a1, .inl (cZ, 62, .inl (jA y1))), (a2, .inl (cA, 62, .inl (jA (jset y2 (31 + r) jd)))), (a6, .inl (cA, 62, .inl (jA w6))), (a7, .inl (cA, 248, .inl (jA w7))), (a3, .inl (cZ, 496, .inl (jA y3n'))), (a4, .inl (cA, 496, .inl (jA y4n'))), (a5, .inl (cA, 496, .inl (jA y5n')))]) ⟨hx, hb, hml, hown, hts⟩ (c_XM_takesP l dC dI cA cZ _ ma a0 a1 a2 a3 a4 a5 a6 a7 a8 a9 a10 a11 mth mn k w mu md mo y0 113 (by first | assumption | omega) (by first | assumption | omega) (by first | assumption | omega) (by first | assumption | omega) (by first | assumption | omega)) (cwV 1 hts (jG_V tw_718 tw_720 ts_18 tw_6 tw_721) rfl rfl rfl (by decide +kernel) (by rw [hR]; exact ⟨Nat.le_of_ble_eq_true rfl, Nat.le_of_ble_eq_true rfl⟩)) hK hP hD hS hA hN [4, 5] [0, 1, 2, 3, 6, 7, 8] rfl rfl (by decide) (by decide) (by decide) 4 5 rfl rfl rfl rfl hl.1 rfl (Nat.le_of_ble_eq_true rfl) dXM_grade_100 (by rw [hR]; exact ⟨Nat.le_of_ble_eq_true rfl, Nat.le_of_ble_eq_true rfl⟩) (fun v19 u18 H locs hwb20 hP hD hS => ?_)
              obtain ⟨r16, mp1'17⟩ := u18
              try dsimp only at hwb20
              obtain ⟨er, hwb20, f21⟩ := hwb20
              subst er
              have f21 : (r16 = 0 ∧ k ≤ mp1'17 ∧ mp1'17 ≤ mn) ∨ (r16 = 1 ∧ k < mp1'17 ∧ mp1'17 ≤ mn ∧ w < 0) := f21
              have hP : va_P (dC, dI) vwCl [(a1, .inl (cZ, 62, .inl (jA y1))), (a2, .inl (cA, 62, .inl (jA (jset y2 (31 + r) jd)))), (a6, .inl (cA, 62, .inl (jA w6))), (a7, .inl (cA, 248, .inl (jA w7))), (a3, .inl (cZ, 496, .inl (jA y3n'))), (a4, .inl (cA, 496, .inl (jA y4n'))), (a5, .inl (cA, 496, .inl (jA y5n'))), (ma, .inr (5, [.int (jI mth), .int (jI mn), .ref a0, .int (jI mp1'17), .int (jI w), .ref a1, .ref a2, .ref a3, .ref a4, .ref a5, .ref a6, .ref a7, .ref a8, .ref a9, .ref a10, .long (jL mu), .long (jL md), .int (jI mo), .ref a11])), (a0, .inl (cA, 400, .inl (jA y0)))] H := hP
              have hD : va_D A [(a1, .inl (cZ, 62, .inl (jA y1))), (a2, .inl (cA, 62, .inl (jA (jset y2 (31 + r) jd)))), (a6, .inl (cA, 62, .inl (jA w6))), (a7, .inl (cA, 248, .inl (jA w7))), (a3, .inl (cZ, 496, .inl (jA y3n'))), (a4, .inl (cA, 496, .inl (jA y4n'))), (a5, .inl (cA, 496, .inl (jA y5n'))), (ma, .inr (5, [.int (jI mth), .int (jI mn), .ref a0, .int (jI mp1'17), .int (jI w), .ref a1, .ref a2, .ref a3, .ref a4, .ref a5, .ref a6, .ref a7, .ref a8, .ref a9, .ref a10, .long (jL mu), .long (jL md), .int (jI mo), .ref a11])), (a0, .inl (cA, 400, .inl (jA y0)))] := hD
              refine ji_if_eq (tgt := 171) hx hb dXM_grade_103 (by decide) (by omega) (fun c103_ => ?_) (fun c103_ => ?_)
              · refine lv_aload_n hx hb dXM_grade_171 rfl (lv_at hl 2 rfl) ?_
                refine ji_bipush hx hb dXM_grade_172 (by decide) ?_
                refine jwVv (rest := []) (wr := [(a1, .inl (cZ, 62, .inl (jA y1))), (a2, .inl (cA, 62, .inl (jA (jset y2 (31 + r) jd)))), (a6, .inl (cA, 62, .inl (jA w6))), (a7, .inl (cA, 248, .inl (jA w7))), (a3, .inl (cZ, 496, .inl (jA y3n'))), (a4, .inl (cA, 496, .inl (jA y4n'))), (a5, .inl (cA, 496, .inl (jA y5n')))]) ⟨hx, hb, hml, hown, hts⟩ (c_XM_takeP l dC dI cA cZ _ ma a0 a1 a2 a3 a4 a5 a6 a7 a8 a9 a10 a11 mth mn mp1'17 w mu md mo y0 59 (by first | assumption | omega) (by first | assumption | omega) (by first | assumption | omega) (by first | assumption | omega) (by first | assumption | omega)) (cwV 1 hts (jG_V tw_738 tw_740 ts_23 tw_6 tw_741) rfl rfl rfl (by decide +kernel) (by rw [hR]; exact ⟨Nat.le_of_ble_eq_true rfl, Nat.le_of_ble_eq_true rfl⟩)) hK hP hD hS hA hN [7, 8] [0, 1, 2, 3, 4, 5, 6] rfl rfl (by decide) (by decide) (by decide) 7 5 rfl rfl rfl rfl hl.1 rfl (Nat.le_of_ble_eq_true rfl) dXM_grade_174 (by rw [hR]; exact ⟨Nat.le_of_ble_eq_true rfl, Nat.le_of_ble_eq_true rfl⟩) (fun u24 H locs hwb25 hP hD hS => ?_)
                obtain ⟨mp1'22, mw1'23⟩ := u24
                try dsimp only at hwb25
                obtain ⟨hwb25, f26, f27, f28⟩ := hwb25
                have f26 : mp1'17 ≤ mp1'22 ∧ mp1'22 ≤ mn := f26
                have f27 : -1 ≤ mw1'23 ∧ mw1'23 ≤ 400 ∧ w ≤ mw1'23 := f27
                have f28 : mw1'23 < 0 → mp1'17 < mp1'22 := f28
                have hP : va_P (dC, dI) vwCl [(a1, .inl (cZ, 62, .inl (jA y1))), (a2, .inl (cA, 62, .inl (jA (jset y2 (31 + r) jd)))), (a6, .inl (cA, 62, .inl (jA w6))), (a7, .inl (cA, 248, .inl (jA w7))), (a3, .inl (cZ, 496, .inl (jA y3n'))), (a4, .inl (cA, 496, .inl (jA y4n'))), (a5, .inl (cA, 496, .inl (jA y5n'))), (ma, .inr (5, [.int (jI mth), .int (jI mn), .ref a0, .int (jI mp1'22), .int (jI mw1'23), .ref a1, .ref a2, .ref a3, .ref a4, .ref a5, .ref a6, .ref a7, .ref a8, .ref a9, .ref a10, .long (jL mu), .long (jL md), .int (jI mo), .ref a11])), (a0, .inl (cA, 400, .inl (jA y0)))] H := hP
                have hD : va_D A [(a1, .inl (cZ, 62, .inl (jA y1))), (a2, .inl (cA, 62, .inl (jA (jset y2 (31 + r) jd)))), (a6, .inl (cA, 62, .inl (jA w6))), (a7, .inl (cA, 248, .inl (jA w7))), (a3, .inl (cZ, 496, .inl (jA y3n'))), (a4, .inl (cA, 496, .inl (jA y4n'))), (a5, .inl (cA, 496, .inl (jA y5n'))), (ma, .inr (5, [.int (jI mth), .int (jI mn), .ref a0, .int (jI mp1'22), .int (jI mw1'23), .ref a1, .ref a2, .ref a3, .ref a4, .ref a5, .ref a6, .ref a7, .ref a8, .ref a9, .ref a10, .long (jL mu), .long (jL md), .int (jI mo), .ref a11])), (a0, .inl (cA, 400, .inl (jA y0)))] := hD
                refine lv_aload_n hx hb dXM_grade_177 rfl (lv_at hl 2 rfl) ?_
                refine va_get (D := (dC, dI)) (ci := 5) (v := .int (jI mw1'23)) (C := RXM) (T := TXM) (N := 19) hx hb hts (fun w h => jmem (inXM w h)) hown hK hP 7 rfl rfl 4 (by decide) (hts _ (jmem tw_632)) (fun _ h9 => h9) rfl dXM_grade_178 ?_
                refine ji_if_ge (tgt := 191) hx hb dXM_grade_181 (by decide) (by omega) (fun c181_ => ?_) (fun c181_ => ?_)
                · have hP9 := hP.sub (ws' := [(ma, .inr (5, [.int (jI mth), .int (jI mn), .ref a0, .int (jI mp1'22), .int (jI mw1'23), .ref a1, .ref a2, .ref a3, .ref a4, .ref a5, .ref a6, .ref a7, .ref a8, .ref a9, .ref a10, .long (jL mu), .long (jL md), .int (jI mo), .ref a11])), (a0, .inl (cA, 400, .inl (jA y0))), (a1, .inl (cZ, 62, .inl (jA y1))), (a2, .inl (cA, 62, .inl (jA (jset y2 (31 + r) jd)))), (a3, .inl (cZ, 496, .inl (jA y3n'))), (a4, .inl (cA, 496, .inl (jA y4n'))), (a5, .inl (cA, 496, .inl (jA y5n'))), (a6, .inl (cA, 62, .inl (jA w6))), (a7, .inl (cA, 248, .inl (jA w7)))]) [7, 8, 0, 1, 4, 5, 6, 2, 3] rfl
                  have hD9 := hD.sub (ws' := [(ma, .inr (5, [.int (jI mth), .int (jI mn), .ref a0, .int (jI mp1'22), .int (jI mw1'23), .ref a1, .ref a2, .ref a3, .ref a4, .ref a5, .ref a6, .ref a7, .ref a8, .ref a9, .ref a10, .long (jL mu), .long (jL md), .int (jI mo), .ref a11])), (a0, .inl (cA, 400, .inl (jA y0))), (a1, .inl (cZ, 62, .inl (jA y1))), (a2, .inl (cA, 62, .inl (jA (jset y2 (31 + r) jd)))), (a3, .inl (cZ, 496, .inl (jA y3n'))), (a4, .inl (cA, 496, .inl (jA y4n'))), (a5, .inl (cA, 496, .inl (jA y5n'))), (a6, .inl (cA, 62, .inl (jA w6))), (a7, .inl (cA, 248, .inl (jA w7)))]) [7, 8, 0, 1, 4, 5, 6, 2, 3] (by decide) rfl
                  subst hAe
                  subst hQ
                  exact W.vret hx hb hr (fun t ht hW => ⟨⟨(mp1'22, mw1'23, y1, jset y2 (31 + r) jd, y3n', y4n', y5n', w6, w7), rfl, ⟨Eq.trans (by rw [f_XM_gradeP_L97_s]; rw [← hwb20]; try dsimp only; rw [if_pos c103_]; rw [← hwb25]; try dsimp only; rw [if_neg (Int.not_lt.mpr c181_)]; try rfl) hF, show mp ≤ mp1'22 ∧ mp1'22 ≤ mn from by first | assumption | omega | exact jset_b (by assumption) (by omega) | exact jset_l (by assumption) (by omega) | exact jset_l (fun _ _ => rfl) (by omega) | exact fun _ _ => rfl | exact l_trans (by assumption) (by assumption), show -1 ≤ mw1'23 ∧ mw1'23 ≤ 400 ∧ mw ≤ mw1'23 from by first | assumption | omega | exact jset_b (by assumption) (by omega) | exact jset_l (by assumption) (by omega) | exact jset_l (fun _ _ => rfl) (by omega) | exact fun _ _ => rfl | exact l_trans (by assumption) (by assumption), show ∀ i, 0 ≤ y1 i ∧ y1 i ≤ 1 from by first | assumption | omega | exact jset_b (by assumption) (by omega) | exact jset_l (by assumption) (by omega) | exact jset_l (fun _ _ => rfl) (by omega) | exact fun _ _ => rfl | exact l_trans (by assumption) (by assumption), show ∀ i, 0 ≤ (jset y2 (31 + r) jd) i ∧ (jset y2 (31 + r) jd) i ≤ 30 from by first | assumption | omega | exact jset_b (by assumption) (by omega) | exact jset_l (by assumption) (by omega) | exact jset_l (fun _ _ => rfl) (by omega) | exact fun _ _ => rfl | exact l_trans (by assumption) (by assumption), show ∀ i, 0 ≤ y3n' i ∧ y3n' i ≤ 1 from by first | assumption | omega | exact jset_b (by assumption) (by omega) | exact jset_l (by assumption) (by omega) | exact jset_l (fun _ _ => rfl) (by omega) | exact fun _ _ => rfl | exact l_trans (by assumption) (by assumption), show ∀ i, 0 ≤ y4n' i ∧ y4n' i ≤ 100000 from by first | assumption | omega | exact jset_b (by assumption) (by omega) | exact jset_l (by assumption) (by omega) | exact jset_l (fun _ _ => rfl) (by omega) | exact fun _ _ => rfl | exact l_trans (by assumption) (by assumption), show ∀ i, 0 ≤ y5n' i ∧ y5n' i ≤ 100000 from by first | assumption | omega | exact jset_b (by assumption) (by omega) | exact jset_l (by assumption) (by omega) | exact jset_l (fun _ _ => rfl) (by omega) | exact fun _ _ => rfl | exact l_trans (by assumption) (by assumption), show ∀ i, -2147483648 ≤ w6 i ∧ w6 i ≤ 2147483647 from by first | assumption | omega | exact jset_b (by assumption) (by omega) | exact jset_l (by assumption) (by omega) | exact jset_l (fun _ _ => rfl) (by omega) | exact fun _ _ => rfl | exact l_trans (by assumption) (by assumption), show ∀ i, -1 ≤ w7 i ∧ w7 i ≤ 999999 from by first | assumption | omega | exact jset_b (by assumption) (by omega) | exact jset_l (by assumption) (by omega) | exact jset_l (fun _ _ => rfl) (by omega) | exact fun _ _ => rfl | exact l_trans (by assumption) (by assumption), show ∀ i, i < 31 → y1 i = y1 i from by first | assumption | omega | exact jset_b (by assumption) (by omega) | exact jset_l (by assumption) (by omega) | exact jset_l (fun _ _ => rfl) (by omega) | exact fun _ _ => rfl | exact l_trans (by assumption) (by assumption), show ∀ i, i < 31 → (jset y2 (31 + r) jd) i = y2 i from by first | assumption | omega | exact jset_b (by assumption) (by omega) | exact jset_l (by assumption) (by omega) | exact jset_l (fun _ _ => rfl) (by omega) | exact fun _ _ => rfl | exact l_trans (by assumption) (by assumption), show ∀ i, i < 248 → y3n' i = y3 i from by first | assumption | omega | exact jset_b (by assumption) (by omega) | exact jset_l (by assumption) (by omega) | exact jset_l (fun _ _ => rfl) (by omega) | exact fun _ _ => rfl | exact l_trans (by assumption) (by assumption), show ∀ i, i < 248 → y4n' i = y4 i from by first | assumption | omega | exact jset_b (by assumption) (by omega) | exact jset_l (by assumption) (by omega) | exact jset_l (fun _ _ => rfl) (by omega) | exact fun _ _ => rfl | exact l_trans (by assumption) (by assumption), show ∀ i, i < 248 → y5n' i = y5 i from by first | assumption | omega | exact jset_b (by assumption) (by omega) | exact jset_l (by assumption) (by omega) | exact jset_l (fun _ _ => rfl) (by omega) | exact fun _ _ => rfl | exact l_trans (by assumption) (by assumption), show ∀ i, i < 31 → w6 i = y6 i from by first | assumption | omega | exact jset_b (by assumption) (by omega) | exact jset_l (by assumption) (by omega) | exact jset_l (fun _ _ => rfl) (by omega) | exact fun _ _ => rfl | exact l_trans (by assumption) (by assumption), show ∀ i, i < 124 → w7 i = y7 i from by first | assumption | omega | exact jset_b (by assumption) (by omega) | exact jset_l (by assumption) (by omega) | exact jset_l (fun _ _ => rfl) (by omega) | exact fun _ _ => rfl | exact l_trans (by assumption) (by assumption)⟩, ⟨by rw [ht]; exact hP9, va_K.moved hW.alike hK, hD9⟩⟩, hS.F ht⟩) hS.2.2 dXM_grade_191
                · refine lv_aload_n hx hb dXM_grade_184 rfl (lv_at hl 2 rfl) ?_
                  refine va_get (D := (dC, dI)) (ci := 5) (v := .ref a1) (C := RXM) (T := TXM) (N := 19) hx hb hts (fun w h => jmem (inXM w h)) hown hK hP 7 rfl rfl 5 (by decide) (hts _ (jmem tw_633)) (fun _ h9 => h9) rfl dXM_grade_185 ?_
                  refine lv_iload_n hx hb dXM_grade_188 rfl (lv_at hl 1 rfl) ?_
                  refine ji_iconst hx hb dXM_grade_189 ?_
                  refine ji_zast hx hb hK hP hD hS 0 1 rfl rfl (by first | decide | omega) ⟨by omega, by omega⟩ (by decide) dXM_grade_190 (fun H locs hP hD hS => ?_)
                  have hP : va_P (dC, dI) vwCl [(a1, .inl (cZ, 62, .inl (jA (jset y1 (31 + r) 1)))), (a2, .inl (cA, 62, .inl (jA (jset y2 (31 + r) jd)))), (a6, .inl (cA, 62, .inl (jA w6))), (a7, .inl (cA, 248, .inl (jA w7))), (a3, .inl (cZ, 496, .inl (jA y3n'))), (a4, .inl (cA, 496, .inl (jA y4n'))), (a5, .inl (cA, 496, .inl (jA y5n'))), (ma, .inr (5, [.int (jI mth), .int (jI mn), .ref a0, .int (jI mp1'22), .int (jI mw1'23), .ref a1, .ref a2, .ref a3, .ref a4, .ref a5, .ref a6, .ref a7, .ref a8, .ref a9, .ref a10, .long (jL mu), .long (jL md), .int (jI mo), .ref a11])), (a0, .inl (cA, 400, .inl (jA y0)))] H := hP
                  have hD : va_D A [(a1, .inl (cZ, 62, .inl (jA (jset y1 (31 + r) 1)))), (a2, .inl (cA, 62, .inl (jA (jset y2 (31 + r) jd)))), (a6, .inl (cA, 62, .inl (jA w6))), (a7, .inl (cA, 248, .inl (jA w7))), (a3, .inl (cZ, 496, .inl (jA y3n'))), (a4, .inl (cA, 496, .inl (jA y4n'))), (a5, .inl (cA, 496, .inl (jA y5n'))), (ma, .inr (5, [.int (jI mth), .int (jI mn), .ref a0, .int (jI mp1'22), .int (jI mw1'23), .ref a1, .ref a2, .ref a3, .ref a4, .ref a5, .ref a6, .ref a7, .ref a8, .ref a9, .ref a10, .long (jL mu), .long (jL md), .int (jI mo), .ref a11])), (a0, .inl (cA, 400, .inl (jA y0)))] := hD
                  have hP9 := hP.sub (ws' := [(ma, .inr (5, [.int (jI mth), .int (jI mn), .ref a0, .int (jI mp1'22), .int (jI mw1'23), .ref a1, .ref a2, .ref a3, .ref a4, .ref a5, .ref a6, .ref a7, .ref a8, .ref a9, .ref a10, .long (jL mu), .long (jL md), .int (jI mo), .ref a11])), (a0, .inl (cA, 400, .inl (jA y0))), (a1, .inl (cZ, 62, .inl (jA (jset y1 (31 + r) 1)))), (a2, .inl (cA, 62, .inl (jA (jset y2 (31 + r) jd)))), (a3, .inl (cZ, 496, .inl (jA y3n'))), (a4, .inl (cA, 496, .inl (jA y4n'))), (a5, .inl (cA, 496, .inl (jA y5n'))), (a6, .inl (cA, 62, .inl (jA w6))), (a7, .inl (cA, 248, .inl (jA w7)))]) [7, 8, 0, 1, 4, 5, 6, 2, 3] rfl
                  have hD9 := hD.sub (ws' := [(ma, .inr (5, [.int (jI mth), .int (jI mn), .ref a0, .int (jI mp1'22), .int (jI mw1'23), .ref a1, .ref a2, .ref a3, .ref a4, .ref a5, .ref a6, .ref a7, .ref a8, .ref a9, .ref a10, .long (jL mu), .long (jL md), .int (jI mo), .ref a11])), (a0, .inl (cA, 400, .inl (jA y0))), (a1, .inl (cZ, 62, .inl (jA (jset y1 (31 + r) 1)))), (a2, .inl (cA, 62, .inl (jA (jset y2 (31 + r) jd)))), (a3, .inl (cZ, 496, .inl (jA y3n'))), (a4, .inl (cA, 496, .inl (jA y4n'))), (a5, .inl (cA, 496, .inl (jA y5n'))), (a6, .inl (cA, 62, .inl (jA w6))), (a7, .inl (cA, 248, .inl (jA w7)))]) [7, 8, 0, 1, 4, 5, 6, 2, 3] (by decide) rfl
                  subst hAe
                  subst hQ
                  exact W.vret hx hb hr (fun t ht hW => ⟨⟨(mp1'22, mw1'23, jset y1 (31 + r) 1, jset y2 (31 + r) jd, y3n', y4n', y5n', w6, w7), rfl, ⟨Eq.trans (by rw [f_XM_gradeP_L97_s]; rw [← hwb20]; try dsimp only; rw [if_pos c103_]; rw [← hwb25]; try dsimp only; rw [if_pos c181_]; try rfl) hF, show mp ≤ mp1'22 ∧ mp1'22 ≤ mn from by first | assumption | omega | exact jset_b (by assumption) (by omega) | exact jset_l (by assumption) (by omega) | exact jset_l (fun _ _ => rfl) (by omega) | exact fun _ _ => rfl | exact l_trans (by assumption) (by assumption), show -1 ≤ mw1'23 ∧ mw1'23 ≤ 400 ∧ mw ≤ mw1'23 from by first | assumption | omega | exact jset_b (by assumption) (by omega) | exact jset_l (by assumption) (by omega) | exact jset_l (fun _ _ => rfl) (by omega) | exact fun _ _ => rfl | exact l_trans (by assumption) (by assumption), show ∀ i, 0 ≤ (jset y1 (31 + r) 1) i ∧ (jset y1 (31 + r) 1) i ≤ 1 from by first | assumption | omega | exact jset_b (by assumption) (by omega) | exact jset_l (by assumption) (by omega) | exact jset_l (fun _ _ => rfl) (by omega) | exact fun _ _ => rfl | exact l_trans (by assumption) (by assumption), show ∀ i, 0 ≤ (jset y2 (31 + r) jd) i ∧ (jset y2 (31 + r) jd) i ≤ 30 from by first | assumption | omega | exact jset_b (by assumption) (by omega) | exact jset_l (by assumption) (by omega) | exact jset_l (fun _ _ => rfl) (by omega) | exact fun _ _ => rfl | exact l_trans (by assumption) (by assumption), show ∀ i, 0 ≤ y3n' i ∧ y3n' i ≤ 1 from by first | assumption | omega | exact jset_b (by assumption) (by omega) | exact jset_l (by assumption) (by omega) | exact jset_l (fun _ _ => rfl) (by omega) | exact fun _ _ => rfl | exact l_trans (by assumption) (by assumption), show ∀ i, 0 ≤ y4n' i ∧ y4n' i ≤ 100000 from by first | assumption | omega | exact jset_b (by assumption) (by omega) | exact jset_l (by assumption) (by omega) | exact jset_l (fun _ _ => rfl) (by omega) | exact fun _ _ => rfl | exact l_trans (by assumption) (by assumption), show ∀ i, 0 ≤ y5n' i ∧ y5n' i ≤ 100000 from by first | assumption | omega | exact jset_b (by assumption) (by omega) | exact jset_l (by assumption) (by omega) | exact jset_l (fun _ _ => rfl) (by omega) | exact fun _ _ => rfl | exact l_trans (by assumption) (by assumption), show ∀ i, -2147483648 ≤ w6 i ∧ w6 i ≤ 2147483647 from by first | assumption | omega | exact jset_b (by assumption) (by omega) | exact jset_l (by assumption) (by omega) | exact jset_l (fun _ _ => rfl) (by omega) | exact fun _ _ => rfl | exact l_trans (by assumption) (by assumption), show ∀ i, -1 ≤ w7 i ∧ w7 i ≤ 999999 from by first | assumption | omega | exact jset_b (by assumption) (by omega) | exact jset_l (by assumption) (by omega) | exact jset_l (fun _ _ => rfl) (by omega) | exact fun _ _ => rfl | exact l_trans (by assumption) (by assumption), show ∀ i, i < 31 → (jset y1 (31 + r) 1) i = y1 i from by first | assumption | omega | exact jset_b (by assumption) (by omega) | exact jset_l (by assumption) (by omega) | exact jset_l (fun _ _ => rfl) (by omega) | exact fun _ _ => rfl | exact l_trans (by assumption) (by assumption), show ∀ i, i < 31 → (jset y2 (31 + r) jd) i = y2 i from by first | assumption | omega | exact jset_b (by assumption) (by omega) | exact jset_l (by assumption) (by omega) | exact jset_l (fun _ _ => rfl) (by omega) | exact fun _ _ => rfl | exact l_trans (by assumption) (by assumption), show ∀ i, i < 248 → y3n' i = y3 i from by first | assumption | omega | exact jset_b (by assumption) (by omega) | exact jset_l (by assumption) (by omega) | exact jset_l (fun _ _ => rfl) (by omega) | exact fun _ _ => rfl | exact l_trans (by assumption) (by assumption), show ∀ i, i < 248 → y4n' i = y4 i from by first | assumption | omega | exact jset_b (by assumption) (by omega) | exact jset_l (by assumption) (by omega) | exact jset_l (fun _ _ => rfl) (by omega) | exact fun _ _ => rfl | exact l_trans (by assumption) (by assumption), show ∀ i, i < 248 → y5n' i = y5 i from by first | assumption | omega | exact jset_b (by assumption) (by omega) | exact jset_l (by assumption) (by omega) | exact jset_l (fun _ _ => rfl) (by omega) | exact fun _ _ => rfl | exact l_trans (by assumption) (by assumption), show ∀ i, i < 31 → w6 i = y6 i from by first | assumption | omega | exact jset_b (by assumption) (by omega) | exact jset_l (by assumption) (by omega) | exact jset_l (fun _ _ => rfl) (by omega) | exact fun _ _ => rfl | exact l_trans (by assumption) (by assumption), show ∀ i, i < 124 → w7 i = y7 i from by first | assumption | omega | exact jset_b (by assumption) (by omega) | exact jset_l (by assumption) (by omega) | exact jset_l (fun _ _ => rfl) (by omega) | exact fun _ _ => rfl | exact l_trans (by assumption) (by assumption)⟩, ⟨by rw [ht]; exact hP9, va_K.moved hW.alike hK, hD9⟩⟩, hS.F ht⟩) hS.2.2 dXM_grade_191
              · refine lv_aload_n hx hb dXM_grade_106 rfl (lv_at hl 2 rfl) ?_
                refine ji_iconst hx hb dXM_grade_107 ?_
                refine ji_iconst hx hb dXM_grade_108 ?_
                refine jwVi (rest := []) (wr := [(a1, .inl (cZ, 62, .inl (jA y1))), (a2, .inl (cA, 62, .inl (jA (jset y2 (31 + r) jd)))), (a6, .inl (cA, 62, .inl (jA w6))), (a7, .inl (cA, 248, .inl (jA w7))), (a3, .inl (cZ, 496, .inl (jA y3n'))), (a4, .inl (cA, 496, .inl (jA y4n'))), (a5, .inl (cA, 496, .inl (jA y5n')))]) ⟨hx, hb, hml, hown, hts⟩ (c_XM_numberP l dC dI cA cZ _ ma a0 a1 a2 a3 a4 a5 a6 a7 a8 a9 a10 a11 mth mn mp1'17 w mu md mo y0 0 3 (by first | assumption | omega) (by first | assumption | omega) (by first | assumption | omega) (by first | assumption | omega) (by first | assumption | omega)) (cwV 2 hts (jG_V tw_726 tw_728 ts_20 tw_6 tw_729) rfl rfl rfl (by decide +kernel) (by rw [hR]; exact ⟨Nat.le_of_ble_eq_true rfl, Nat.le_of_ble_eq_true rfl⟩)) hK hP hD hS hA hN [7, 8] [0, 1, 2, 3, 4, 5, 6] rfl rfl (by decide) (by decide) (by decide) 7 5 rfl rfl rfl rfl hl.1 rfl (Nat.le_of_ble_eq_true rfl) dXM_grade_109 (by rw [hR]; exact ⟨Nat.le_of_ble_eq_true rfl, Nat.le_of_ble_eq_true rfl⟩) (fun v33 u32 H locs hwb34 hP hD hS => ?_)
                obtain ⟨r29, mp1'30, mw1'31⟩ := u32
                try dsimp only at hwb34
                obtain ⟨er, hwb34, f35, f36, f37, f38⟩ := hwb34
                subst er
                have f35 : 0 ≤ r29 ∧ r29 ≤ 3 := f35
                have f36 : mp1'17 ≤ mp1'30 ∧ mp1'30 ≤ mn := f36
                have f37 : -1 ≤ mw1'31 ∧ mw1'31 ≤ 400 ∧ w ≤ mw1'31 := f37
                have f38 : mw1'31 < 0 → mp1'17 < mp1'30 := f38
                have hP : va_P (dC, dI) vwCl [(a1, .inl (cZ, 62, .inl (jA y1))), (a2, .inl (cA, 62, .inl (jA (jset y2 (31 + r) jd)))), (a6, .inl (cA, 62, .inl (jA w6))), (a7, .inl (cA, 248, .inl (jA w7))), (a3, .inl (cZ, 496, .inl (jA y3n'))), (a4, .inl (cA, 496, .inl (jA y4n'))), (a5, .inl (cA, 496, .inl (jA y5n'))), (ma, .inr (5, [.int (jI mth), .int (jI mn), .ref a0, .int (jI mp1'30), .int (jI mw1'31), .ref a1, .ref a2, .ref a3, .ref a4, .ref a5, .ref a6, .ref a7, .ref a8, .ref a9, .ref a10, .long (jL mu), .long (jL md), .int (jI mo), .ref a11])), (a0, .inl (cA, 400, .inl (jA y0)))] H := hP
                have hD : va_D A [(a1, .inl (cZ, 62, .inl (jA y1))), (a2, .inl (cA, 62, .inl (jA (jset y2 (31 + r) jd)))), (a6, .inl (cA, 62, .inl (jA w6))), (a7, .inl (cA, 248, .inl (jA w7))), (a3, .inl (cZ, 496, .inl (jA y3n'))), (a4, .inl (cA, 496, .inl (jA y4n'))), (a5, .inl (cA, 496, .inl (jA y5n'))), (ma, .inr (5, [.int (jI mth), .int (jI mn), .ref a0, .int (jI mp1'30), .int (jI mw1'31), .ref a1, .ref a2, .ref a3, .ref a4, .ref a5, .ref a6, .ref a7, .ref a8, .ref a9, .ref a10, .long (jL mu), .long (jL md), .int (jI mo), .ref a11])), (a0, .inl (cA, 400, .inl (jA y0)))] := hD
                refine lv_istore_n (lv' := [(3, .int (jI r29)), (2, .int (jI mks)), (1, .int (jI (31 + r))), (0, .ref ma)]) hx hb dXM_grade_112 rfl hl (by decide) rfl (fun ls hl => ?_)
                refine lv_aload_n hx hb dXM_grade_113 rfl (lv_at hl 3 rfl) ?_
                refine va_get (D := (dC, dI)) (ci := 5) (v := .int (jI mw1'31)) (C := RXM) (T := TXM) (N := 19) hx hb hts (fun w h => jmem (inXM w h)) hown hK hP 7 rfl rfl 4 (by decide) (hts _ (jmem tw_632)) (fun _ h9 => h9) rfl dXM_grade_114 ?_
                refine ji_if_ge (tgt := 139) hx hb dXM_grade_117 (by decide) (by omega) (fun c117_ => ?_) (fun c117_ => ?_)
                · refine lv_iload_n hx hb dXM_grade_139 rfl (lv_at hl 1 rfl) ?_
                  refine ji_iconst hx hb dXM_grade_140 ?_
                  refine lv_iload_n hx hb dXM_grade_141 rfl (lv_at hl 0 rfl) ?_
                  refine lv_ishl hx hb dXM_grade_142 ?_
                  refine ji_rev ?_
                  have rb := jti32 (jI 1 <<< (jI r29 &&& 31))
                  refine lv_ior hx hb dXM_grade_143 ?_
                  refine ji_rev ?_
                  have rb39 := jti32 (jI mks ||| jI ((jI 1 <<< (jI r29 &&& 31)).toInt))
                  refine lv_istore_n (lv' := [(2, .int (jI ((jI mks ||| jI ((jI 1 <<< (jI r29 &&& 31)).toInt)).toInt))), (3, .int (jI r29)), (1, .int (jI (31 + r))), (0, .ref ma)]) hx hb dXM_grade_144 rfl hl (by decide) rfl (fun ls hl => ?_)
                  refine lv_aload_n hx hb dXM_grade_145 rfl (lv_at hl 3 rfl) ?_
                  refine ji_bipush hx hb dXM_grade_146 (by decide) ?_
                  refine jwVv (rest := []) (wr := [(a1, .inl (cZ, 62, .inl (jA y1))), (a2, .inl (cA, 62, .inl (jA (jset y2 (31 + r) jd)))), (a6, .inl (cA, 62, .inl (jA w6))), (a7, .inl (cA, 248, .inl (jA w7))), (a3, .inl (cZ, 496, .inl (jA y3n'))), (a4, .inl (cA, 496, .inl (jA y4n'))), (a5, .inl (cA, 496, .inl (jA y5n')))]) ⟨hx, hb, hml, hown, hts⟩ (c_XM_takeP l dC dI cA cZ _ ma a0 a1 a2 a3 a4 a5 a6 a7 a8 a9 a10 a11 mth mn mp1'30 mw1'31 mu md mo y0 60 (by first | assumption | omega) (by first | assumption | omega) (by first | assumption | omega) (by first | assumption | omega) (by first | assumption | omega)) (cwV 1 hts (jG_V tw_738 tw_740 ts_23 tw_6 tw_741) rfl rfl rfl (by decide +kernel) (by rw [hR]; exact ⟨Nat.le_of_ble_eq_true rfl, Nat.le_of_ble_eq_true rfl⟩)) hK hP hD hS hA hN [7, 8] [0, 1, 2, 3, 4, 5, 6] rfl rfl (by decide) (by decide) (by decide) 7 5 rfl rfl rfl rfl hl.1 rfl (Nat.le_of_ble_eq_true rfl) dXM_grade_148 (by rw [hR]; exact ⟨Nat.le_of_ble_eq_true rfl, Nat.le_of_ble_eq_true rfl⟩) (fun u42 H locs hwb43 hP hD hS => ?_)
                  obtain ⟨mp1'40, mw1'41⟩ := u42
                  try dsimp only at hwb43
                  obtain ⟨hwb43, f44, f45, f46⟩ := hwb43
                  have f44 : mp1'30 ≤ mp1'40 ∧ mp1'40 ≤ mn := f44
                  have f45 : -1 ≤ mw1'41 ∧ mw1'41 ≤ 400 ∧ mw1'31 ≤ mw1'41 := f45
                  have f46 : mw1'41 < 0 → mp1'30 < mp1'40 := f46
                  have hP : va_P (dC, dI) vwCl [(a1, .inl (cZ, 62, .inl (jA y1))), (a2, .inl (cA, 62, .inl (jA (jset y2 (31 + r) jd)))), (a6, .inl (cA, 62, .inl (jA w6))), (a7, .inl (cA, 248, .inl (jA w7))), (a3, .inl (cZ, 496, .inl (jA y3n'))), (a4, .inl (cA, 496, .inl (jA y4n'))), (a5, .inl (cA, 496, .inl (jA y5n'))), (ma, .inr (5, [.int (jI mth), .int (jI mn), .ref a0, .int (jI mp1'40), .int (jI mw1'41), .ref a1, .ref a2, .ref a3, .ref a4, .ref a5, .ref a6, .ref a7, .ref a8, .ref a9, .ref a10, .long (jL mu), .long (jL md), .int (jI mo), .ref a11])), (a0, .inl (cA, 400, .inl (jA y0)))] H := hP
                  have hD : va_D A [(a1, .inl (cZ, 62, .inl (jA y1))), (a2, .inl (cA, 62, .inl (jA (jset y2 (31 + r) jd)))), (a6, .inl (cA, 62, .inl (jA w6))), (a7, .inl (cA, 248, .inl (jA w7))), (a3, .inl (cZ, 496, .inl (jA y3n'))), (a4, .inl (cA, 496, .inl (jA y4n'))), (a5, .inl (cA, 496, .inl (jA y5n'))), (ma, .inr (5, [.int (jI mth), .int (jI mn), .ref a0, .int (jI mp1'40), .int (jI mw1'41), .ref a1, .ref a2, .ref a3, .ref a4, .ref a5, .ref a6, .ref a7, .ref a8, .ref a9, .ref a10, .long (jL mu), .long (jL md), .int (jI mo), .ref a11])), (a0, .inl (cA, 400, .inl (jA y0)))] := hD
                  refine lv_aload_n hx hb dXM_grade_151 rfl (lv_at hl 3 rfl) ?_
                  refine va_get (D := (dC, dI)) (ci := 5) (v := .ref a7) (C := RXM) (T := TXM) (N := 19) hx hb hts (fun w h => jmem (inXM w h)) hown hK hP 7 rfl rfl 11 (by decide) (hts _ (jmem tw_639)) (fun _ h9 => h9) rfl dXM_grade_152 ?_
                  refine ji_iconst hx hb dXM_grade_155 ?_
                  refine lv_iload_n hx hb dXM_grade_156 rfl (lv_at hl 2 rfl) ?_
                  refine ji_imul hx hb dXM_grade_157 ?_
                  refine lv_iload_n hx hb dXM_grade_158 rfl (lv_at hl 1 rfl) ?_
                  refine ji_iadd hx hb dXM_grade_159 ?_
                  refine lv_aload_n hx hb dXM_grade_160 rfl (lv_at hl 3 rfl) ?_
                  refine ji_iconst hx hb dXM_grade_161 ?_
                  refine lv_ldc hx hb hown (hts _ (jmem tw_759)) dXM_grade_162 ?_
                  refine ji_re (y := 999999) (by decide) ?_
                  refine jwVi (rest := [.int (jI ((4 * (31 + r)) + r29)), .ref a7]) (wr := [(a1, .inl (cZ, 62, .inl (jA y1))), (a2, .inl (cA, 62, .inl (jA (jset y2 (31 + r) jd)))), (a6, .inl (cA, 62, .inl (jA w6))), (a7, .inl (cA, 248, .inl (jA w7))), (a3, .inl (cZ, 496, .inl (jA y3n'))), (a4, .inl (cA, 496, .inl (jA y4n'))), (a5, .inl (cA, 496, .inl (jA y5n')))]) ⟨hx, hb, hml, hown, hts⟩ (c_XM_numberP l dC dI cA cZ _ ma a0 a1 a2 a3 a4 a5 a6 a7 a8 a9 a10 a11 mth mn mp1'40 mw1'41 mu md mo y0 0 999999 (by first | assumption | omega) (by first | assumption | omega) (by first | assumption | omega) (by first | assumption | omega) (by first | assumption | omega)) (cwV 2 hts (jG_V tw_726 tw_728 ts_20 tw_6 tw_729) rfl rfl rfl (by decide +kernel) (by rw [hR]; exact ⟨Nat.le_of_ble_eq_true rfl, Nat.le_of_ble_eq_true rfl⟩)) hK hP hD hS hA hN [7, 8] [0, 1, 2, 3, 4, 5, 6] rfl rfl (by decide) (by decide) (by decide) 7 5 rfl rfl rfl rfl hl.1 rfl (Nat.le_of_ble_eq_true rfl) dXM_grade_164 (by rw [hR]; exact ⟨Nat.le_of_ble_eq_true rfl, Nat.le_of_ble_eq_true rfl⟩) (fun v51 u50 H locs hwb52 hP hD hS => ?_)
                  obtain ⟨r47, mp1'48, mw1'49⟩ := u50
                  try dsimp only at hwb52
                  obtain ⟨er, hwb52, f53, f54, f55, f56⟩ := hwb52
                  subst er
                  have f53 : 0 ≤ r47 ∧ r47 ≤ 999999 := f53
                  have f54 : mp1'40 ≤ mp1'48 ∧ mp1'48 ≤ mn := f54
                  have f55 : -1 ≤ mw1'49 ∧ mw1'49 ≤ 400 ∧ mw1'41 ≤ mw1'49 := f55
                  have f56 : mw1'49 < 0 → mp1'40 < mp1'48 := f56
                  have hP : va_P (dC, dI) vwCl [(a1, .inl (cZ, 62, .inl (jA y1))), (a2, .inl (cA, 62, .inl (jA (jset y2 (31 + r) jd)))), (a6, .inl (cA, 62, .inl (jA w6))), (a7, .inl (cA, 248, .inl (jA w7))), (a3, .inl (cZ, 496, .inl (jA y3n'))), (a4, .inl (cA, 496, .inl (jA y4n'))), (a5, .inl (cA, 496, .inl (jA y5n'))), (ma, .inr (5, [.int (jI mth), .int (jI mn), .ref a0, .int (jI mp1'48), .int (jI mw1'49), .ref a1, .ref a2, .ref a3, .ref a4, .ref a5, .ref a6, .ref a7, .ref a8, .ref a9, .ref a10, .long (jL mu), .long (jL md), .int (jI mo), .ref a11])), (a0, .inl (cA, 400, .inl (jA y0)))] H := hP
                  have hD : va_D A [(a1, .inl (cZ, 62, .inl (jA y1))), (a2, .inl (cA, 62, .inl (jA (jset y2 (31 + r) jd)))), (a6, .inl (cA, 62, .inl (jA w6))), (a7, .inl (cA, 248, .inl (jA w7))), (a3, .inl (cZ, 496, .inl (jA y3n'))), (a4, .inl (cA, 496, .inl (jA y4n'))), (a5, .inl (cA, 496, .inl (jA y5n'))), (ma, .inr (5, [.int (jI mth), .int (jI mn), .ref a0, .int (jI mp1'48), .int (jI mw1'49), .ref a1, .ref a2, .ref a3, .ref a4, .ref a5, .ref a6, .ref a7, .ref a8, .ref a9, .ref a10, .long (jL mu), .long (jL md), .int (jI mo), .ref a11])), (a0, .inl (cA, 400, .inl (jA y0)))] := hD
                  refine ji_iast hx hb hK hP hD hS 3 0 rfl rfl ⟨by omega, by omega⟩ (by decide) dXM_grade_167 (fun H locs hP hD hS => ?_)
                  have hP : va_P (dC, dI) vwCl [(a1, .inl (cZ, 62, .inl (jA y1))), (a2, .inl (cA, 62, .inl (jA (jset y2 (31 + r) jd)))), (a6, .inl (cA, 62, .inl (jA w6))), (a7, .inl (cA, 248, .inl (jA (jset w7 ((4 * (31 + r)) + r29) r47)))), (a3, .inl (cZ, 496, .inl (jA y3n'))), (a4, .inl (cA, 496, .inl (jA y4n'))), (a5, .inl (cA, 496, .inl (jA y5n'))), (ma, .inr (5, [.int (jI mth), .int (jI mn), .ref a0, .int (jI mp1'48), .int (jI mw1'49), .ref a1, .ref a2, .ref a3, .ref a4, .ref a5, .ref a6, .ref a7, .ref a8, .ref a9, .ref a10, .long (jL mu), .long (jL md), .int (jI mo), .ref a11])), (a0, .inl (cA, 400, .inl (jA y0)))] H := hP
                  have hD : va_D A [(a1, .inl (cZ, 62, .inl (jA y1))), (a2, .inl (cA, 62, .inl (jA (jset y2 (31 + r) jd)))), (a6, .inl (cA, 62, .inl (jA w6))), (a7, .inl (cA, 248, .inl (jA (jset w7 ((4 * (31 + r)) + r29) r47)))), (a3, .inl (cZ, 496, .inl (jA y3n'))), (a4, .inl (cA, 496, .inl (jA y4n'))), (a5, .inl (cA, 496, .inl (jA y5n'))), (ma, .inr (5, [.int (jI mth), .int (jI mn), .ref a0, .int (jI mp1'48), .int (jI mw1'49), .ref a1, .ref a2, .ref a3, .ref a4, .ref a5, .ref a6, .ref a7, .ref a8, .ref a9, .ref a10, .long (jL mu), .long (jL md), .int (jI mo), .ref a11])), (a0, .inl (cA, 400, .inl (jA y0)))] := hD
                  refine lv_goto (tgt := 97) hx hb dXM_grade_168 (by decide) ?_
                  exact ih97 ((jI mks ||| jI ((jI 1 <<< (jI r29 &&& 31)).toInt)).toInt) mp1'48 mw1'49 (jset w7 ((4 * (31 + r)) + r29) r47) (by omega) (Eq.trans (by rw [f_XM_gradeP_L97_s]; rw [← hwb20]; try dsimp only; rw [if_neg c103_]; rw [← hwb34]; try dsimp only; rw [if_neg (Int.not_lt.mpr c117_)]; rw [← hwb43]; try dsimp only; rw [← hwb52]; try dsimp only; try rfl) hF) (by first | assumption | omega | exact jset_b (by assumption) (by omega) | exact jset_l (by assumption) (by omega) | exact jset_l (fun _ _ => rfl) (by omega) | exact fun _ _ => rfl | exact l_trans (by assumption) (by assumption)) (by first | assumption | omega | exact jset_b (by assumption) (by omega) | exact jset_l (by assumption) (by omega) | exact jset_l (fun _ _ => rfl) (by omega) | exact fun _ _ => rfl | exact l_trans (by assumption) (by assumption)) (by first | assumption | omega | exact jset_b (by assumption) (by omega) | exact jset_l (by assumption) (by omega) | exact jset_l (fun _ _ => rfl) (by omega) | exact fun _ _ => rfl | exact l_trans (by assumption) (by assumption)) (by first | assumption | omega | exact jset_b (by assumption) (by omega) | exact jset_l (by assumption) (by omega) | exact jset_l (fun _ _ => rfl) (by omega) | exact fun _ _ => rfl | exact l_trans (by assumption) (by assumption)) (by first | assumption | omega | exact jset_b (by assumption) (by omega) | exact jset_l (by assumption) (by omega) | exact jset_l (fun _ _ => rfl) (by omega) | exact fun _ _ => rfl | exact l_trans (by assumption) (by assumption)) _ _ (hP.sub [0, 1, 2, 3, 7, 8, 4, 5, 6] rfl) (hD.sub [0, 1, 2, 3, 7, 8, 4, 5, 6] (by decide) rfl) hS ls (lv_sub hl [0, 2, 3] rfl)
                · refine lv_iload_n hx hb dXM_grade_120 rfl (lv_at hl 1 rfl) ?_
                  refine lv_iload_n hx hb dXM_grade_121 rfl (lv_at hl 0 rfl) ?_
                  refine lv_ishr hx hb dXM_grade_122 ?_
                  refine ji_rev ?_
                  have rb57 := jti32 (jI mks >>> (jI r29 &&& 31))
                  refine ji_iconst hx hb dXM_grade_123 ?_
                  refine lv_iand hx hb dXM_grade_124 ?_
                  refine ji_rev ?_
                  have rb58 := jti32 (jI ((jI mks >>> (jI r29 &&& 31)).toInt) &&& jI 1)
                  refine ji_iconst hx hb dXM_grade_125 ?_
                  refine ji_icmp_ne (tgt := 139) hx hb dXM_grade_126 (by decide) (by omega) (by omega) (fun c126_ => ?_) (fun c126_ => ?_)
                  · refine lv_iload_n hx hb dXM_grade_139 rfl (lv_at hl 1 rfl) ?_
                    refine ji_iconst hx hb dXM_grade_140 ?_
                    refine lv_iload_n hx hb dXM_grade_141 rfl (lv_at hl 0 rfl) ?_
                    refine lv_ishl hx hb dXM_grade_142 ?_
                    refine ji_rev ?_
                    have rb59 := jti32 (jI 1 <<< (jI r29 &&& 31))
                    refine lv_ior hx hb dXM_grade_143 ?_
                    refine ji_rev ?_
                    have rb60 := jti32 (jI mks ||| jI ((jI 1 <<< (jI r29 &&& 31)).toInt))
                    refine lv_istore_n (lv' := [(2, .int (jI ((jI mks ||| jI ((jI 1 <<< (jI r29 &&& 31)).toInt)).toInt))), (3, .int (jI r29)), (1, .int (jI (31 + r))), (0, .ref ma)]) hx hb dXM_grade_144 rfl hl (by decide) rfl (fun ls hl => ?_)
                    refine lv_aload_n hx hb dXM_grade_145 rfl (lv_at hl 3 rfl) ?_
                    refine ji_bipush hx hb dXM_grade_146 (by decide) ?_
                    refine jwVv (rest := []) (wr := [(a1, .inl (cZ, 62, .inl (jA y1))), (a2, .inl (cA, 62, .inl (jA (jset y2 (31 + r) jd)))), (a6, .inl (cA, 62, .inl (jA w6))), (a7, .inl (cA, 248, .inl (jA w7))), (a3, .inl (cZ, 496, .inl (jA y3n'))), (a4, .inl (cA, 496, .inl (jA y4n'))), (a5, .inl (cA, 496, .inl (jA y5n')))]) ⟨hx, hb, hml, hown, hts⟩ (c_XM_takeP l dC dI cA cZ _ ma a0 a1 a2 a3 a4 a5 a6 a7 a8 a9 a10 a11 mth mn mp1'30 mw1'31 mu md mo y0 60 (by first | assumption | omega) (by first | assumption | omega) (by first | assumption | omega) (by first | assumption | omega) (by first | assumption | omega)) (cwV 1 hts (jG_V tw_738 tw_740 ts_23 tw_6 tw_741) rfl rfl rfl (by decide +kernel) (by rw [hR]; exact ⟨Nat.le_of_ble_eq_true rfl, Nat.le_of_ble_eq_true rfl⟩)) hK hP hD hS hA hN [7, 8] [0, 1, 2, 3, 4, 5, 6] rfl rfl (by decide) (by decide) (by decide) 7 5 rfl rfl rfl rfl hl.1 rfl (Nat.le_of_ble_eq_true rfl) dXM_grade_148 (by rw [hR]; exact ⟨Nat.le_of_ble_eq_true rfl, Nat.le_of_ble_eq_true rfl⟩) (fun u63 H locs hwb64 hP hD hS => ?_)
                    obtain ⟨mp1'61, mw1'62⟩ := u63
                    try dsimp only at hwb64
                    obtain ⟨hwb64, f65, f66, f67⟩ := hwb64
                    have f65 : mp1'30 ≤ mp1'61 ∧ mp1'61 ≤ mn := f65
                    have f66 : -1 ≤ mw1'62 ∧ mw1'62 ≤ 400 ∧ mw1'31 ≤ mw1'62 := f66
                    have f67 : mw1'62 < 0 → mp1'30 < mp1'61 := f67
                    have hP : va_P (dC, dI) vwCl [(a1, .inl (cZ, 62, .inl (jA y1))), (a2, .inl (cA, 62, .inl (jA (jset y2 (31 + r) jd)))), (a6, .inl (cA, 62, .inl (jA w6))), (a7, .inl (cA, 248, .inl (jA w7))), (a3, .inl (cZ, 496, .inl (jA y3n'))), (a4, .inl (cA, 496, .inl (jA y4n'))), (a5, .inl (cA, 496, .inl (jA y5n'))), (ma, .inr (5, [.int (jI mth), .int (jI mn), .ref a0, .int (jI mp1'61), .int (jI mw1'62), .ref a1, .ref a2, .ref a3, .ref a4, .ref a5, .ref a6, .ref a7, .ref a8, .ref a9, .ref a10, .long (jL mu), .long (jL md), .int (jI mo), .ref a11])), (a0, .inl (cA, 400, .inl (jA y0)))] H := hP
                    have hD : va_D A [(a1, .inl (cZ, 62, .inl (jA y1))), (a2, .inl (cA, 62, .inl (jA (jset y2 (31 + r) jd)))), (a6, .inl (cA, 62, .inl (jA w6))), (a7, .inl (cA, 248, .inl (jA w7))), (a3, .inl (cZ, 496, .inl (jA y3n'))), (a4, .inl (cA, 496, .inl (jA y4n'))), (a5, .inl (cA, 496, .inl (jA y5n'))), (ma, .inr (5, [.int (jI mth), .int (jI mn), .ref a0, .int (jI mp1'61), .int (jI mw1'62), .ref a1, .ref a2, .ref a3, .ref a4, .ref a5, .ref a6, .ref a7, .ref a8, .ref a9, .ref a10, .long (jL mu), .long (jL md), .int (jI mo), .ref a11])), (a0, .inl (cA, 400, .inl (jA y0)))] := hD
                    refine lv_aload_n hx hb dXM_grade_151 rfl (lv_at hl 3 rfl) ?_
                    refine va_get (D := (dC, dI)) (ci := 5) (v := .ref a7) (C := RXM) (T := TXM) (N := 19) hx hb hts (fun w h => jmem (inXM w h)) hown hK hP 7 rfl rfl 11 (by decide) (hts _ (jmem tw_639)) (fun _ h9 => h9) rfl dXM_grade_152 ?_
                    refine ji_iconst hx hb dXM_grade_155 ?_
                    refine lv_iload_n hx hb dXM_grade_156 rfl (lv_at hl 2 rfl) ?_
                    refine ji_imul hx hb dXM_grade_157 ?_
                    refine lv_iload_n hx hb dXM_grade_158 rfl (lv_at hl 1 rfl) ?_
                    refine ji_iadd hx hb dXM_grade_159 ?_
                    refine lv_aload_n hx hb dXM_grade_160 rfl (lv_at hl 3 rfl) ?_
                    refine ji_iconst hx hb dXM_grade_161 ?_
                    refine lv_ldc hx hb hown (hts _ (jmem tw_759)) dXM_grade_162 ?_
                    refine ji_re (y := 999999) (by decide) ?_
                    refine jwVi (rest := [.int (jI ((4 * (31 + r)) + r29)), .ref a7]) (wr := [(a1, .inl (cZ, 62, .inl (jA y1))), (a2, .inl (cA, 62, .inl (jA (jset y2 (31 + r) jd)))), (a6, .inl (cA, 62, .inl (jA w6))), (a7, .inl (cA, 248, .inl (jA w7))), (a3, .inl (cZ, 496, .inl (jA y3n'))), (a4, .inl (cA, 496, .inl (jA y4n'))), (a5, .inl (cA, 496, .inl (jA y5n')))]) ⟨hx, hb, hml, hown, hts⟩ (c_XM_numberP l dC dI cA cZ _ ma a0 a1 a2 a3 a4 a5 a6 a7 a8 a9 a10 a11 mth mn mp1'61 mw1'62 mu md mo y0 0 999999 (by first | assumption | omega) (by first | assumption | omega) (by first | assumption | omega) (by first | assumption | omega) (by first | assumption | omega)) (cwV 2 hts (jG_V tw_726 tw_728 ts_20 tw_6 tw_729) rfl rfl rfl (by decide +kernel) (by rw [hR]; exact ⟨Nat.le_of_ble_eq_true rfl, Nat.le_of_ble_eq_true rfl⟩)) hK hP hD hS hA hN [7, 8] [0, 1, 2, 3, 4, 5, 6] rfl rfl (by decide) (by decide) (by decide) 7 5 rfl rfl rfl rfl hl.1 rfl (Nat.le_of_ble_eq_true rfl) dXM_grade_164 (by rw [hR]; exact ⟨Nat.le_of_ble_eq_true rfl, Nat.le_of_ble_eq_true rfl⟩) (fun v72 u71 H locs hwb73 hP hD hS => ?_)
                    obtain ⟨r68, mp1'69, mw1'70⟩ := u71
                    try dsimp only at hwb73
                    obtain ⟨er, hwb73, f74, f75, f76, f77⟩ := hwb73
                    subst er
                    have f74 : 0 ≤ r68 ∧ r68 ≤ 999999 := f74
                    have f75 : mp1'61 ≤ mp1'69 ∧ mp1'69 ≤ mn := f75
                    have f76 : -1 ≤ mw1'70 ∧ mw1'70 ≤ 400 ∧ mw1'62 ≤ mw1'70 := f76
                    have f77 : mw1'70 < 0 → mp1'61 < mp1'69 := f77
                    have hP : va_P (dC, dI) vwCl [(a1, .inl (cZ, 62, .inl (jA y1))), (a2, .inl (cA, 62, .inl (jA (jset y2 (31 + r) jd)))), (a6, .inl (cA, 62, .inl (jA w6))), (a7, .inl (cA, 248, .inl (jA w7))), (a3, .inl (cZ, 496, .inl (jA y3n'))), (a4, .inl (cA, 496, .inl (jA y4n'))), (a5, .inl (cA, 496, .inl (jA y5n'))), (ma, .inr (5, [.int (jI mth), .int (jI mn), .ref a0, .int (jI mp1'69), .int (jI mw1'70), .ref a1, .ref a2, .ref a3, .ref a4, .ref a5, .ref a6, .ref a7, .ref a8, .ref a9, .ref a10, .long (jL mu), .long (jL md), .int (jI mo), .ref a11])), (a0, .inl (cA, 400, .inl (jA y0)))] H := hP
                    have hD : va_D A [(a1, .inl (cZ, 62, .inl (jA y1))), (a2, .inl (cA, 62, .inl (jA (jset y2 (31 + r) jd)))), (a6, .inl (cA, 62, .inl (jA w6))), (a7, .inl (cA, 248, .inl (jA w7))), (a3, .inl (cZ, 496, .inl (jA y3n'))), (a4, .inl (cA, 496, .inl (jA y4n'))), (a5, .inl (cA, 496, .inl (jA y5n'))), (ma, .inr (5, [.int (jI mth), .int (jI mn), .ref a0, .int (jI mp1'69), .int (jI mw1'70), .ref a1, .ref a2, .ref a3, .ref a4, .ref a5, .ref a6, .ref a7, .ref a8, .ref a9, .ref a10, .long (jL mu), .long (jL md), .int (jI mo), .ref a11])), (a0, .inl (cA, 400, .inl (jA y0)))] := hD
                    refine ji_iast hx hb hK hP hD hS 3 0 rfl rfl ⟨by omega, by omega⟩ (by decide) dXM_grade_167 (fun H locs hP hD hS => ?_)
                    have hP : va_P (dC, dI) vwCl [(a1, .inl (cZ, 62, .inl (jA y1))), (a2, .inl (cA, 62, .inl (jA (jset y2 (31 + r) jd)))), (a6, .inl (cA, 62, .inl (jA w6))), (a7, .inl (cA, 248, .inl (jA (jset w7 ((4 * (31 + r)) + r29) r68)))), (a3, .inl (cZ, 496, .inl (jA y3n'))), (a4, .inl (cA, 496, .inl (jA y4n'))), (a5, .inl (cA, 496, .inl (jA y5n'))), (ma, .inr (5, [.int (jI mth), .int (jI mn), .ref a0, .int (jI mp1'69), .int (jI mw1'70), .ref a1, .ref a2, .ref a3, .ref a4, .ref a5, .ref a6, .ref a7, .ref a8, .ref a9, .ref a10, .long (jL mu), .long (jL md), .int (jI mo), .ref a11])), (a0, .inl (cA, 400, .inl (jA y0)))] H := hP
                    have hD : va_D A [(a1, .inl (cZ, 62, .inl (jA y1))), (a2, .inl (cA, 62, .inl (jA (jset y2 (31 + r) jd)))), (a6, .inl (cA, 62, .inl (jA w6))), (a7, .inl (cA, 248, .inl (jA (jset w7 ((4 * (31 + r)) + r29) r68)))), (a3, .inl (cZ, 496, .inl (jA y3n'))), (a4, .inl (cA, 496, .inl (jA y4n'))), (a5, .inl (cA, 496, .inl (jA y5n'))), (ma, .inr (5, [.int (jI mth), .int (jI mn), .ref a0, .int (jI mp1'69), .int (jI mw1'70), .ref a1, .ref a2, .ref a3, .ref a4, .ref a5, .ref a6, .ref a7, .ref a8, .ref a9, .ref a10, .long (jL mu), .long (jL md), .int (jI mo), .ref a11])), (a0, .inl (cA, 400, .inl (jA y0)))] := hD
                    refine lv_goto (tgt := 97) hx hb dXM_grade_168 (by decide) ?_
                    exact ih97 ((jI mks ||| jI ((jI 1 <<< (jI r29 &&& 31)).toInt)).toInt) mp1'69 mw1'70 (jset w7 ((4 * (31 + r)) + r29) r68) (by omega) (Eq.trans (by rw [f_XM_gradeP_L97_s]; rw [← hwb20]; try dsimp only; rw [if_neg c103_]; rw [← hwb34]; try dsimp only; rw [if_pos c117_, if_neg c126_]; rw [← hwb64]; try dsimp only; rw [← hwb73]; try dsimp only; try rfl) hF) (by first | assumption | omega | exact jset_b (by assumption) (by omega) | exact jset_l (by assumption) (by omega) | exact jset_l (fun _ _ => rfl) (by omega) | exact fun _ _ => rfl | exact l_trans (by assumption) (by assumption)) (by first | assumption | omega | exact jset_b (by assumption) (by omega) | exact jset_l (by assumption) (by omega) | exact jset_l (fun _ _ => rfl) (by omega) | exact fun _ _ => rfl | exact l_trans (by assumption) (by assumption)) (by first | assumption | omega | exact jset_b (by assumption) (by omega) | exact jset_l (by assumption) (by omega) | exact jset_l (fun _ _ => rfl) (by omega) | exact fun _ _ => rfl | exact l_trans (by assumption) (by assumption)) (by first | assumption | omega | exact jset_b (by assumption) (by omega) | exact jset_l (by assumption) (by omega) | exact jset_l (fun _ _ => rfl) (by omega) | exact fun _ _ => rfl | exact l_trans (by assumption) (by assumption)) (by first | assumption | omega | exact jset_b (by assumption) (by omega) | exact jset_l (by assumption) (by omega) | exact jset_l (fun _ _ => rfl) (by omega) | exact fun _ _ => rfl | exact l_trans (by assumption) (by assumption)) _ _ (hP.sub [0, 1, 2, 3, 7, 8, 4, 5, 6] rfl) (hD.sub [0, 1, 2, 3, 7, 8, 4, 5, 6] (by decide) rfl) hS ls (lv_sub hl [0, 2, 3] rfl)
                  · refine lv_aload_n hx hb dXM_grade_129 rfl (lv_at hl 3 rfl) ?_
                    refine lv_aload_n hx hb dXM_grade_130 rfl (lv_at hl 3 rfl) ?_
                    refine va_get (D := (dC, dI)) (ci := 5) (v := .int (jI mp1'30)) (C := RXM) (T := TXM) (N := 19) hx hb hts (fun w h => jmem (inXM w h)) hown hK hP 7 rfl rfl 3 (by decide) (hts _ (jmem tw_631)) (fun _ h9 => h9) rfl dXM_grade_131 ?_
                    refine ji_iconst hx hb dXM_grade_134 ?_
                    refine ji_isub hx hb dXM_grade_135 ?_
                    refine jwVv (rest := []) (wr := [(a1, .inl (cZ, 62, .inl (jA y1))), (a2, .inl (cA, 62, .inl (jA (jset y2 (31 + r) jd)))), (a6, .inl (cA, 62, .inl (jA w6))), (a7, .inl (cA, 248, .inl (jA w7))), (a3, .inl (cZ, 496, .inl (jA y3n'))), (a4, .inl (cA, 496, .inl (jA y4n'))), (a5, .inl (cA, 496, .inl (jA y5n'))), (a0, .inl (cA, 400, .inl (jA y0)))]) ⟨hx, hb, hml, hown, hts⟩ (c_XM_failP l dC dI cA cZ _ ma a0 a1 a2 a3 a4 a5 a6 a7 a8 a9 a10 a11 mth mn mp1'30 mw1'31 mu md mo (mp1'30 - 1) (by first | assumption | omega) (by first | assumption | omega)) (cwV 1 hts (jG_V tw_734 tw_736 ts_22 tw_6 tw_737) rfl rfl rfl (by decide +kernel) (by rw [hR]; exact ⟨Nat.le_of_ble_eq_true rfl, Nat.le_of_ble_eq_true rfl⟩)) hK hP hD hS hA hN [7] [0, 1, 2, 3, 4, 5, 6, 8] rfl rfl (by decide) (by decide) (by decide) 7 5 rfl rfl rfl rfl hl.1 rfl (Nat.le_of_ble_eq_true rfl) dXM_grade_136 (by rw [hR]; exact ⟨Nat.le_of_ble_eq_true rfl, Nat.le_of_ble_eq_true rfl⟩) (fun u78 H locs hw hP hD hS => ?_)
                    obtain ⟨hw, f79⟩ := hw
                    subst hw
                    have f79 : (0 ≤ mw1'31 ∧ (f_XM_failP mth mn mp1'30 mw1'31 mu md mo (mp1'30 - 1)) = mw1'31) ∨ (mw1'31 < 0 ∧ (f_XM_failP mth mn mp1'30 mw1'31 mu md mo (mp1'30 - 1)) = (mp1'30 - 1)) := f79
                    have hP : va_P (dC, dI) vwCl [(a1, .inl (cZ, 62, .inl (jA y1))), (a2, .inl (cA, 62, .inl (jA (jset y2 (31 + r) jd)))), (a6, .inl (cA, 62, .inl (jA w6))), (a7, .inl (cA, 248, .inl (jA w7))), (a3, .inl (cZ, 496, .inl (jA y3n'))), (a4, .inl (cA, 496, .inl (jA y4n'))), (a5, .inl (cA, 496, .inl (jA y5n'))), (a0, .inl (cA, 400, .inl (jA y0))), (ma, .inr (5, [.int (jI mth), .int (jI mn), .ref a0, .int (jI mp1'30), .int (jI (f_XM_failP mth mn mp1'30 mw1'31 mu md mo (mp1'30 - 1))), .ref a1, .ref a2, .ref a3, .ref a4, .ref a5, .ref a6, .ref a7, .ref a8, .ref a9, .ref a10, .long (jL mu), .long (jL md), .int (jI mo), .ref a11]))] H := hP
                    have hD : va_D A [(a1, .inl (cZ, 62, .inl (jA y1))), (a2, .inl (cA, 62, .inl (jA (jset y2 (31 + r) jd)))), (a6, .inl (cA, 62, .inl (jA w6))), (a7, .inl (cA, 248, .inl (jA w7))), (a3, .inl (cZ, 496, .inl (jA y3n'))), (a4, .inl (cA, 496, .inl (jA y4n'))), (a5, .inl (cA, 496, .inl (jA y5n'))), (a0, .inl (cA, 400, .inl (jA y0))), (ma, .inr (5, [.int (jI mth), .int (jI mn), .ref a0, .int (jI mp1'30), .int (jI (f_XM_failP mth mn mp1'30 mw1'31 mu md mo (mp1'30 - 1))), .ref a1, .ref a2, .ref a3, .ref a4, .ref a5, .ref a6, .ref a7, .ref a8, .ref a9, .ref a10, .long (jL mu), .long (jL md), .int (jI mo), .ref a11]))] := hD
                    refine lv_iload_n hx hb dXM_grade_139 rfl (lv_at hl 1 rfl) ?_
                    refine ji_iconst hx hb dXM_grade_140 ?_
                    refine lv_iload_n hx hb dXM_grade_141 rfl (lv_at hl 0 rfl) ?_
                    refine lv_ishl hx hb dXM_grade_142 ?_
                    refine ji_rev ?_
                    have rb80 := jti32 (jI 1 <<< (jI r29 &&& 31))
                    refine lv_ior hx hb dXM_grade_143 ?_
                    refine ji_rev ?_
                    have rb81 := jti32 (jI mks ||| jI ((jI 1 <<< (jI r29 &&& 31)).toInt))
                    refine lv_istore_n (lv' := [(2, .int (jI ((jI mks ||| jI ((jI 1 <<< (jI r29 &&& 31)).toInt)).toInt))), (3, .int (jI r29)), (1, .int (jI (31 + r))), (0, .ref ma)]) hx hb dXM_grade_144 rfl hl (by decide) rfl (fun ls hl => ?_)
                    refine lv_aload_n hx hb dXM_grade_145 rfl (lv_at hl 3 rfl) ?_
                    refine ji_bipush hx hb dXM_grade_146 (by decide) ?_
                    refine jwVv (rest := []) (wr := [(a1, .inl (cZ, 62, .inl (jA y1))), (a2, .inl (cA, 62, .inl (jA (jset y2 (31 + r) jd)))), (a6, .inl (cA, 62, .inl (jA w6))), (a7, .inl (cA, 248, .inl (jA w7))), (a3, .inl (cZ, 496, .inl (jA y3n'))), (a4, .inl (cA, 496, .inl (jA y4n'))), (a5, .inl (cA, 496, .inl (jA y5n')))]) ⟨hx, hb, hml, hown, hts⟩ (c_XM_takeP l dC dI cA cZ _ ma a0 a1 a2 a3 a4 a5 a6 a7 a8 a9 a10 a11 mth mn mp1'30 (f_XM_failP mth mn mp1'30 mw1'31 mu md mo (mp1'30 - 1)) mu md mo y0 60 (by first | assumption | omega) (by first | assumption | omega) (by first | assumption | omega) (by first | assumption | omega) (by first | assumption | omega)) (cwV 1 hts (jG_V tw_738 tw_740 ts_23 tw_6 tw_741) rfl rfl rfl (by decide +kernel) (by rw [hR]; exact ⟨Nat.le_of_ble_eq_true rfl, Nat.le_of_ble_eq_true rfl⟩)) hK hP hD hS hA hN [8, 7] [0, 1, 2, 3, 4, 5, 6] rfl rfl (by decide) (by decide) (by decide) 8 5 rfl rfl rfl rfl hl.1 rfl (Nat.le_of_ble_eq_true rfl) dXM_grade_148 (by rw [hR]; exact ⟨Nat.le_of_ble_eq_true rfl, Nat.le_of_ble_eq_true rfl⟩) (fun u84 H locs hwb85 hP hD hS => ?_)
                    obtain ⟨mp1'82, mw1'83⟩ := u84
                    try dsimp only at hwb85
                    obtain ⟨hwb85, f86, f87, f88⟩ := hwb85
                    have f86 : mp1'30 ≤ mp1'82 ∧ mp1'82 ≤ mn := f86
                    have f87 : -1 ≤ mw1'83 ∧ mw1'83 ≤ 400 ∧ (f_XM_failP mth mn mp1'30 mw1'31 mu md mo (mp1'30 - 1)) ≤ mw1'83 := f87
                    have f88 : mw1'83 < 0 → mp1'30 < mp1'82 := f88
                    have hP : va_P (dC, dI) vwCl [(a1, .inl (cZ, 62, .inl (jA y1))), (a2, .inl (cA, 62, .inl (jA (jset y2 (31 + r) jd)))), (a6, .inl (cA, 62, .inl (jA w6))), (a7, .inl (cA, 248, .inl (jA w7))), (a3, .inl (cZ, 496, .inl (jA y3n'))), (a4, .inl (cA, 496, .inl (jA y4n'))), (a5, .inl (cA, 496, .inl (jA y5n'))), (ma, .inr (5, [.int (jI mth), .int (jI mn), .ref a0, .int (jI mp1'82), .int (jI mw1'83), .ref a1, .ref a2, .ref a3, .ref a4, .ref a5, .ref a6, .ref a7, .ref a8, .ref a9, .ref a10, .long (jL mu), .long (jL md), .int (jI mo), .ref a11])), (a0, .inl (cA, 400, .inl (jA y0)))] H := hP
                    have hD : va_D A [(a1, .inl (cZ, 62, .inl (jA y1))), (a2, .inl (cA, 62, .inl (jA (jset y2 (31 + r) jd)))), (a6, .inl (cA, 62, .inl (jA w6))), (a7, .inl (cA, 248, .inl (jA w7))), (a3, .inl (cZ, 496, .inl (jA y3n'))), (a4, .inl (cA, 496, .inl (jA y4n'))), (a5, .inl (cA, 496, .inl (jA y5n'))), (ma, .inr (5, [.int (jI mth), .int (jI mn), .ref a0, .int (jI mp1'82), .int (jI mw1'83), .ref a1, .ref a2, .ref a3, .ref a4, .ref a5, .ref a6, .ref a7, .ref a8, .ref a9, .ref a10, .long (jL mu), .long (jL md), .int (jI mo), .ref a11])), (a0, .inl (cA, 400, .inl (jA y0)))] := hD
                    refine lv_aload_n hx hb dXM_grade_151 rfl (lv_at hl 3 rfl) ?_
                    refine va_get (D := (dC, dI)) (ci := 5) (v := .ref a7) (C := RXM) (T := TXM) (N := 19) hx hb hts (fun w h => jmem (inXM w h)) hown hK hP 7 rfl rfl 11 (by decide) (hts _ (jmem tw_639)) (fun _ h9 => h9) rfl dXM_grade_152 ?_
                    refine ji_iconst hx hb dXM_grade_155 ?_
                    refine lv_iload_n hx hb dXM_grade_156 rfl (lv_at hl 2 rfl) ?_
                    refine ji_imul hx hb dXM_grade_157 ?_
                    refine lv_iload_n hx hb dXM_grade_158 rfl (lv_at hl 1 rfl) ?_
                    refine ji_iadd hx hb dXM_grade_159 ?_
                    refine lv_aload_n hx hb dXM_grade_160 rfl (lv_at hl 3 rfl) ?_
                    refine ji_iconst hx hb dXM_grade_161 ?_
                    refine lv_ldc hx hb hown (hts _ (jmem tw_759)) dXM_grade_162 ?_
                    refine ji_re (y := 999999) (by decide) ?_
                    refine jwVi (rest := [.int (jI ((4 * (31 + r)) + r29)), .ref a7]) (wr := [(a1, .inl (cZ, 62, .inl (jA y1))), (a2, .inl (cA, 62, .inl (jA (jset y2 (31 + r) jd)))), (a6, .inl (cA, 62, .inl (jA w6))), (a7, .inl (cA, 248, .inl (jA w7))), (a3, .inl (cZ, 496, .inl (jA y3n'))), (a4, .inl (cA, 496, .inl (jA y4n'))), (a5, .inl (cA, 496, .inl (jA y5n')))]) ⟨hx, hb, hml, hown, hts⟩ (c_XM_numberP l dC dI cA cZ _ ma a0 a1 a2 a3 a4 a5 a6 a7 a8 a9 a10 a11 mth mn mp1'82 mw1'83 mu md mo y0 0 999999 (by first | assumption | omega) (by first | assumption | omega) (by first | assumption | omega) (by first | assumption | omega) (by first | assumption | omega)) (cwV 2 hts (jG_V tw_726 tw_728 ts_20 tw_6 tw_729) rfl rfl rfl (by decide +kernel) (by rw [hR]; exact ⟨Nat.le_of_ble_eq_true rfl, Nat.le_of_ble_eq_true rfl⟩)) hK hP hD hS hA hN [7, 8] [0, 1, 2, 3, 4, 5, 6] rfl rfl (by decide) (by decide) (by decide) 7 5 rfl rfl rfl rfl hl.1 rfl (Nat.le_of_ble_eq_true rfl) dXM_grade_164 (by rw [hR]; exact ⟨Nat.le_of_ble_eq_true rfl, Nat.le_of_ble_eq_true rfl⟩) (fun v93 u92 H locs hwb94 hP hD hS => ?_)
                    obtain ⟨r89, mp1'90, mw1'91⟩ := u92
                    try dsimp only at hwb94
                    obtain ⟨er, hwb94, f95, f96, f97, f98⟩ := hwb94
                    subst er
                    have f95 : 0 ≤ r89 ∧ r89 ≤ 999999 := f95
                    have f96 : mp1'82 ≤ mp1'90 ∧ mp1'90 ≤ mn := f96
                    have f97 : -1 ≤ mw1'91 ∧ mw1'91 ≤ 400 ∧ mw1'83 ≤ mw1'91 := f97
                    have f98 : mw1'91 < 0 → mp1'82 < mp1'90 := f98
                    have hP : va_P (dC, dI) vwCl [(a1, .inl (cZ, 62, .inl (jA y1))), (a2, .inl (cA, 62, .inl (jA (jset y2 (31 + r) jd)))), (a6, .inl (cA, 62, .inl (jA w6))), (a7, .inl (cA, 248, .inl (jA w7))), (a3, .inl (cZ, 496, .inl (jA y3n'))), (a4, .inl (cA, 496, .inl (jA y4n'))), (a5, .inl (cA, 496, .inl (jA y5n'))), (ma, .inr (5, [.int (jI mth), .int (jI mn), .ref a0, .int (jI mp1'90), .int (jI mw1'91), .ref a1, .ref a2, .ref a3, .ref a4, .ref a5, .ref a6, .ref a7, .ref a8, .ref a9, .ref a10, .long (jL mu), .long (jL md), .int (jI mo), .ref a11])), (a0, .inl (cA, 400, .inl (jA y0)))] H := hP
                    have hD : va_D A [(a1, .inl (cZ, 62, .inl (jA y1))), (a2, .inl (cA, 62, .inl (jA (jset y2 (31 + r) jd)))), (a6, .inl (cA, 62, .inl (jA w6))), (a7, .inl (cA, 248, .inl (jA w7))), (a3, .inl (cZ, 496, .inl (jA y3n'))), (a4, .inl (cA, 496, .inl (jA y4n'))), (a5, .inl (cA, 496, .inl (jA y5n'))), (ma, .inr (5, [.int (jI mth), .int (jI mn), .ref a0, .int (jI mp1'90), .int (jI mw1'91), .ref a1, .ref a2, .ref a3, .ref a4, .ref a5, .ref a6, .ref a7, .ref a8, .ref a9, .ref a10, .long (jL mu), .long (jL md), .int (jI mo), .ref a11])), (a0, .inl (cA, 400, .inl (jA y0)))] := hD
                    refine ji_iast hx hb hK hP hD hS 3 0 rfl rfl ⟨by omega, by omega⟩ (by decide) dXM_grade_167 (fun H locs hP hD hS => ?_)
                    have hP : va_P (dC, dI) vwCl [(a1, .inl (cZ, 62, .inl (jA y1))), (a2, .inl (cA, 62, .inl (jA (jset y2 (31 + r) jd)))), (a6, .inl (cA, 62, .inl (jA w6))), (a7, .inl (cA, 248, .inl (jA (jset w7 ((4 * (31 + r)) + r29) r89)))), (a3, .inl (cZ, 496, .inl (jA y3n'))), (a4, .inl (cA, 496, .inl (jA y4n'))), (a5, .inl (cA, 496, .inl (jA y5n'))), (ma, .inr (5, [.int (jI mth), .int (jI mn), .ref a0, .int (jI mp1'90), .int (jI mw1'91), .ref a1, .ref a2, .ref a3, .ref a4, .ref a5, .ref a6, .ref a7, .ref a8, .ref a9, .ref a10, .long (jL mu), .long (jL md), .int (jI mo), .ref a11])), (a0, .inl (cA, 400, .inl (jA y0)))] H := hP
                    have hD : va_D A [(a1, .inl (cZ, 62, .inl (jA y1))), (a2, .inl (cA, 62, .inl (jA (jset y2 (31 + r) jd)))), (a6, .inl (cA, 62, .inl (jA w6))), (a7, .inl (cA, 248, .inl (jA (jset w7 ((4 * (31 + r)) + r29) r89)))), (a3, .inl (cZ, 496, .inl (jA y3n'))), (a4, .inl (cA, 496, .inl (jA y4n'))), (a5, .inl (cA, 496, .inl (jA y5n'))), (ma, .inr (5, [.int (jI mth), .int (jI mn), .ref a0, .int (jI mp1'90), .int (jI mw1'91), .ref a1, .ref a2, .ref a3, .ref a4, .ref a5, .ref a6, .ref a7, .ref a8, .ref a9, .ref a10, .long (jL mu), .long (jL md), .int (jI mo), .ref a11])), (a0, .inl (cA, 400, .inl (jA y0)))] := hD
                    refine lv_goto (tgt := 97) hx hb dXM_grade_168 (by decide) ?_
                    exact ih97 ((jI mks ||| jI ((jI 1 <<< (jI r29 &&& 31)).toInt)).toInt) mp1'90 mw1'91 (jset w7 ((4 * (31 + r)) + r29) r89) (by omega) (Eq.trans (by rw [f_XM_gradeP_L97_s]; rw [← hwb20]; try dsimp only; rw [if_neg c103_]; rw [← hwb34]; try dsimp only; rw [if_pos c117_, if_pos c126_]; rw [← hwb85]; try dsimp only; rw [← hwb94]; try dsimp only; try rfl) hF) (by first | assumption | omega | exact jset_b (by assumption) (by omega) | exact jset_l (by assumption) (by omega) | exact jset_l (fun _ _ => rfl) (by omega) | exact fun _ _ => rfl | exact l_trans (by assumption) (by assumption)) (by first | assumption | omega | exact jset_b (by assumption) (by omega) | exact jset_l (by assumption) (by omega) | exact jset_l (fun _ _ => rfl) (by omega) | exact fun _ _ => rfl | exact l_trans (by assumption) (by assumption)) (by first | assumption | omega | exact jset_b (by assumption) (by omega) | exact jset_l (by assumption) (by omega) | exact jset_l (fun _ _ => rfl) (by omega) | exact fun _ _ => rfl | exact l_trans (by assumption) (by assumption)) (by first | assumption | omega | exact jset_b (by assumption) (by omega) | exact jset_l (by assumption) (by omega) | exact jset_l (fun _ _ => rfl) (by omega) | exact fun _ _ => rfl | exact l_trans (by assumption) (by assumption)) (by first | assumption | omega | exact jset_b (by assumption) (by omega) | exact jset_l (by assumption) (by omega) | exact jset_l (fun _ _ => rfl) (by omega) | exact fun _ _ => rfl | exact l_trans (by assumption) (by assumption)) _ _ (hP.sub [0, 1, 2, 3, 7, 8, 4, 5, 6] rfl) (hD.sub [0, 1, 2, 3, 7, 8, 4, 5, 6] (by decide) rfl) hS ls (lv_sub hl [0, 2, 3] rfl)
          exact loop97 (Int.toNat (mn - kr) + 1) 0 kr wr9 y7 (by omega) (Eq.trans (by rw [f_XM_gradeP_J95_s]; try rfl) hF) (by first | assumption | omega | exact jset_b (by assumption) (by omega) | exact jset_l (by assumption) (by omega) | exact jset_l (fun _ _ => rfl) (by omega) | exact fun _ _ => rfl | exact l_trans (by assumption) (by assumption)) (by first | assumption | omega | exact jset_b (by assumption) (by omega) | exact jset_l (by assumption) (by omega) | exact jset_l (fun _ _ => rfl) (by omega) | exact fun _ _ => rfl | exact l_trans (by assumption) (by assumption)) (by first | assumption | omega | exact jset_b (by assumption) (by omega) | exact jset_l (by assumption) (by omega) | exact jset_l (fun _ _ => rfl) (by omega) | exact fun _ _ => rfl | exact l_trans (by assumption) (by assumption)) (by first | assumption | omega | exact jset_b (by assumption) (by omega) | exact jset_l (by assumption) (by omega) | exact jset_l (fun _ _ => rfl) (by omega) | exact fun _ _ => rfl | exact l_trans (by assumption) (by assumption)) (by first | assumption | omega | exact jset_b (by assumption) (by omega) | exact jset_l (by assumption) (by omega) | exact jset_l (fun _ _ => rfl) (by omega) | exact fun _ _ => rfl | exact l_trans (by assumption) (by assumption)) _ _ hP hD hS ls (lv_sub hl [0, 1, 2] rfl)
        refine lv_aload_n hx hb dXM_grade_76 rfl (lv_at hl 1 rfl) ?_
        refine ji_bipush hx hb dXM_grade_77 (by decide) ?_
        refine jwVi (rest := []) (wr := [(a1, .inl (cZ, 62, .inl (jA y1))), (a2, .inl (cA, 62, .inl (jA (jset y2 (31 + r) jd)))), (a6, .inl (cA, 62, .inl (jA y6))), (a7, .inl (cA, 248, .inl (jA y7))), (a3, .inl (cZ, 496, .inl (jA y3n'))), (a4, .inl (cA, 496, .inl (jA y4n'))), (a5, .inl (cA, 496, .inl (jA y5n')))]) ⟨hx, hb, hml, hown, hts⟩ (c_XM_takesP l dC dI cA cZ _ ma a0 a1 a2 a3 a4 a5 a6 a7 a8 a9 a10 a11 mth mn mp1'4 mw1'5 mu md mo y0 114 (by first | assumption | omega) (by first | assumption | omega) (by first | assumption | omega) (by first | assumption | omega) (by first | assumption | omega)) (cwV 1 hts (jG_V tw_718 tw_720 ts_18 tw_6 tw_721) rfl rfl rfl (by decide +kernel) (by rw [hR]; exact ⟨Nat.le_of_ble_eq_true rfl, Nat.le_of_ble_eq_true rfl⟩)) hK hP hD hS hA hN [4, 5] [0, 1, 2, 3, 6, 7, 8] rfl rfl (by decide) (by decide) (by decide) 4 5 rfl rfl rfl rfl hl.1 rfl (Nat.le_of_ble_eq_true rfl) dXM_grade_79 (by rw [hR]; exact ⟨Nat.le_of_ble_eq_true rfl, Nat.le_of_ble_eq_true rfl⟩) (fun v102 u101 H locs hwb103 hP hD hS => ?_)
        obtain ⟨r99, mp1'100⟩ := u101
        try dsimp only at hwb103
        obtain ⟨er, hwb103, f104⟩ := hwb103
        subst er
        have f104 : (r99 = 0 ∧ mp1'4 ≤ mp1'100 ∧ mp1'100 ≤ mn) ∨ (r99 = 1 ∧ mp1'4 < mp1'100 ∧ mp1'100 ≤ mn ∧ mw1'5 < 0) := f104
        have hP : va_P (dC, dI) vwCl [(a1, .inl (cZ, 62, .inl (jA y1))), (a2, .inl (cA, 62, .inl (jA (jset y2 (31 + r) jd)))), (a6, .inl (cA, 62, .inl (jA y6))), (a7, .inl (cA, 248, .inl (jA y7))), (a3, .inl (cZ, 496, .inl (jA y3n'))), (a4, .inl (cA, 496, .inl (jA y4n'))), (a5, .inl (cA, 496, .inl (jA y5n'))), (ma, .inr (5, [.int (jI mth), .int (jI mn), .ref a0, .int (jI mp1'100), .int (jI mw1'5), .ref a1, .ref a2, .ref a3, .ref a4, .ref a5, .ref a6, .ref a7, .ref a8, .ref a9, .ref a10, .long (jL mu), .long (jL md), .int (jI mo), .ref a11])), (a0, .inl (cA, 400, .inl (jA y0)))] H := hP
        have hD : va_D A [(a1, .inl (cZ, 62, .inl (jA y1))), (a2, .inl (cA, 62, .inl (jA (jset y2 (31 + r) jd)))), (a6, .inl (cA, 62, .inl (jA y6))), (a7, .inl (cA, 248, .inl (jA y7))), (a3, .inl (cZ, 496, .inl (jA y3n'))), (a4, .inl (cA, 496, .inl (jA y4n'))), (a5, .inl (cA, 496, .inl (jA y5n'))), (ma, .inr (5, [.int (jI mth), .int (jI mn), .ref a0, .int (jI mp1'100), .int (jI mw1'5), .ref a1, .ref a2, .ref a3, .ref a4, .ref a5, .ref a6, .ref a7, .ref a8, .ref a9, .ref a10, .long (jL mu), .long (jL md), .int (jI mo), .ref a11])), (a0, .inl (cA, 400, .inl (jA y0)))] := hD
        refine ji_if_eq (tgt := 95) hx hb dXM_grade_82 (by decide) (by omega) (fun c82_ => ?_) (fun c82_ => ?_)
        · exact join95 mp1'100 mw1'5 y6 (Eq.trans (by rw [f_XM_gradeP_J70_s]; rw [← hwb7]; try dsimp only; rw [← hwb103]; try dsimp only; rw [if_pos c82_]; try rfl) hF) (by first | assumption | omega | exact jset_b (by assumption) (by omega) | exact jset_l (by assumption) (by omega) | exact jset_l (fun _ _ => rfl) (by omega) | exact fun _ _ => rfl | exact l_trans (by assumption) (by assumption)) (by first | assumption | omega | exact jset_b (by assumption) (by omega) | exact jset_l (by assumption) (by omega) | exact jset_l (fun _ _ => rfl) (by omega) | exact fun _ _ => rfl | exact l_trans (by assumption) (by assumption)) (by first | assumption | omega | exact jset_b (by assumption) (by omega) | exact jset_l (by assumption) (by omega) | exact jset_l (fun _ _ => rfl) (by omega) | exact fun _ _ => rfl | exact l_trans (by assumption) (by assumption)) (by first | assumption | omega | exact jset_b (by assumption) (by omega) | exact jset_l (by assumption) (by omega) | exact jset_l (fun _ _ => rfl) (by omega) | exact fun _ _ => rfl | exact l_trans (by assumption) (by assumption)) _ _ (hP.sub [0, 1, 2, 3, 7, 8, 4, 5, 6] rfl) (hD.sub [0, 1, 2, 3, 7, 8, 4, 5, 6] (by decide) rfl) hS ls (lv_sub hl [0, 1] rfl)
        · refine lv_aload_n hx hb dXM_grade_85 rfl (lv_at hl 1 rfl) ?_
          refine va_get (D := (dC, dI)) (ci := 5) (v := .ref a6) (C := RXM) (T := TXM) (N := 19) hx hb hts (fun w h => jmem (inXM w h)) hown hK hP 7 rfl rfl 10 (by decide) (hts _ (jmem tw_638)) (fun _ h9 => h9) rfl dXM_grade_86 ?_
          refine lv_iload_n hx hb dXM_grade_89 rfl (lv_at hl 0 rfl) ?_
          refine lv_aload_n hx hb dXM_grade_90 rfl (lv_at hl 1 rfl) ?_
          refine jwVi (rest := [.int (jI (31 + r)), .ref a6]) (wr := [(a1, .inl (cZ, 62, .inl (jA y1))), (a2, .inl (cA, 62, .inl (jA (jset y2 (31 + r) jd)))), (a6, .inl (cA, 62, .inl (jA y6))), (a7, .inl (cA, 248, .inl (jA y7))), (a3, .inl (cZ, 496, .inl (jA y3n'))), (a4, .inl (cA, 496, .inl (jA y4n'))), (a5, .inl (cA, 496, .inl (jA y5n')))]) ⟨hx, hb, hml, hown, hts⟩ (c_XM_routeRowP l dC dI cA cZ _ ma a0 a1 a2 a3 a4 a5 a6 a7 a8 a9 a10 a11 mth mn mp1'100 mw1'5 mu md mo y0 (by first | assumption | omega) (by first | assumption | omega) (by first | assumption | omega) (by first | assumption | omega)) (cwV 0 hts (jG_V tw_755 tw_757 ts_27 tw_6 tw_758) rfl rfl rfl (by decide +kernel) (by rw [hR]; exact ⟨Nat.le_of_ble_eq_true rfl, Nat.le_of_ble_eq_true rfl⟩)) hK hP hD hS hA hN [7, 8] [0, 1, 2, 3, 4, 5, 6] rfl rfl (by decide) (by decide) (by decide) 7 5 rfl rfl rfl rfl hl.1 rfl (Nat.le_of_ble_eq_true rfl) dXM_grade_91 (by rw [hR]; exact ⟨Nat.le_of_ble_eq_true rfl, Nat.le_of_ble_eq_true rfl⟩) (fun v109 u108 H locs hwb110 hP hD hS => ?_)
          obtain ⟨r105, mp1'106, mw1'107⟩ := u108
          try dsimp only at hwb110
          obtain ⟨er, hwb110, f111, f112, f113⟩ := hwb110
          subst er
          have f111 : i32 r105 := f111
          have f112 : mp1'100 ≤ mp1'106 ∧ mp1'106 ≤ mn := f112
          have f113 : -1 ≤ mw1'107 ∧ mw1'107 ≤ 400 ∧ mw1'5 ≤ mw1'107 := f113
          have hP : va_P (dC, dI) vwCl [(a1, .inl (cZ, 62, .inl (jA y1))), (a2, .inl (cA, 62, .inl (jA (jset y2 (31 + r) jd)))), (a6, .inl (cA, 62, .inl (jA y6))), (a7, .inl (cA, 248, .inl (jA y7))), (a3, .inl (cZ, 496, .inl (jA y3n'))), (a4, .inl (cA, 496, .inl (jA y4n'))), (a5, .inl (cA, 496, .inl (jA y5n'))), (ma, .inr (5, [.int (jI mth), .int (jI mn), .ref a0, .int (jI mp1'106), .int (jI mw1'107), .ref a1, .ref a2, .ref a3, .ref a4, .ref a5, .ref a6, .ref a7, .ref a8, .ref a9, .ref a10, .long (jL mu), .long (jL md), .int (jI mo), .ref a11])), (a0, .inl (cA, 400, .inl (jA y0)))] H := hP
          have hD : va_D A [(a1, .inl (cZ, 62, .inl (jA y1))), (a2, .inl (cA, 62, .inl (jA (jset y2 (31 + r) jd)))), (a6, .inl (cA, 62, .inl (jA y6))), (a7, .inl (cA, 248, .inl (jA y7))), (a3, .inl (cZ, 496, .inl (jA y3n'))), (a4, .inl (cA, 496, .inl (jA y4n'))), (a5, .inl (cA, 496, .inl (jA y5n'))), (ma, .inr (5, [.int (jI mth), .int (jI mn), .ref a0, .int (jI mp1'106), .int (jI mw1'107), .ref a1, .ref a2, .ref a3, .ref a4, .ref a5, .ref a6, .ref a7, .ref a8, .ref a9, .ref a10, .long (jL mu), .long (jL md), .int (jI mo), .ref a11])), (a0, .inl (cA, 400, .inl (jA y0)))] := hD
          refine ji_iast hx hb hK hP hD hS 2 0 rfl rfl ⟨by omega, by omega⟩ (by decide) dXM_grade_94 (fun H locs hP hD hS => ?_)
          have hP : va_P (dC, dI) vwCl [(a1, .inl (cZ, 62, .inl (jA y1))), (a2, .inl (cA, 62, .inl (jA (jset y2 (31 + r) jd)))), (a6, .inl (cA, 62, .inl (jA (jset y6 (31 + r) r105)))), (a7, .inl (cA, 248, .inl (jA y7))), (a3, .inl (cZ, 496, .inl (jA y3n'))), (a4, .inl (cA, 496, .inl (jA y4n'))), (a5, .inl (cA, 496, .inl (jA y5n'))), (ma, .inr (5, [.int (jI mth), .int (jI mn), .ref a0, .int (jI mp1'106), .int (jI mw1'107), .ref a1, .ref a2, .ref a3, .ref a4, .ref a5, .ref a6, .ref a7, .ref a8, .ref a9, .ref a10, .long (jL mu), .long (jL md), .int (jI mo), .ref a11])), (a0, .inl (cA, 400, .inl (jA y0)))] H := hP
          have hD : va_D A [(a1, .inl (cZ, 62, .inl (jA y1))), (a2, .inl (cA, 62, .inl (jA (jset y2 (31 + r) jd)))), (a6, .inl (cA, 62, .inl (jA (jset y6 (31 + r) r105)))), (a7, .inl (cA, 248, .inl (jA y7))), (a3, .inl (cZ, 496, .inl (jA y3n'))), (a4, .inl (cA, 496, .inl (jA y4n'))), (a5, .inl (cA, 496, .inl (jA y5n'))), (ma, .inr (5, [.int (jI mth), .int (jI mn), .ref a0, .int (jI mp1'106), .int (jI mw1'107), .ref a1, .ref a2, .ref a3, .ref a4, .ref a5, .ref a6, .ref a7, .ref a8, .ref a9, .ref a10, .long (jL mu), .long (jL md), .int (jI mo), .ref a11])), (a0, .inl (cA, 400, .inl (jA y0)))] := hD
          exact join95 mp1'106 mw1'107 (jset y6 (31 + r) r105) (Eq.trans (by rw [f_XM_gradeP_J70_s]; rw [← hwb7]; try dsimp only; rw [← hwb103]; try dsimp only; rw [if_neg c82_]; rw [← hwb110]; try dsimp only; try rfl) hF) (by first | assumption | omega | exact jset_b (by assumption) (by omega) | exact jset_l (by assumption) (by omega) | exact jset_l (fun _ _ => rfl) (by omega) | exact fun _ _ => rfl | exact l_trans (by assumption) (by assumption)) (by first | assumption | omega | exact jset_b (by assumption) (by omega) | exact jset_l (by assumption) (by omega) | exact jset_l (fun _ _ => rfl) (by omega) | exact fun _ _ => rfl | exact l_trans (by assumption) (by assumption)) (by first | assumption | omega | exact jset_b (by assumption) (by omega) | exact jset_l (by assumption) (by omega) | exact jset_l (fun _ _ => rfl) (by omega) | exact fun _ _ => rfl | exact l_trans (by assumption) (by assumption)) (by first | assumption | omega | exact jset_b (by assumption) (by omega) | exact jset_l (by assumption) (by omega) | exact jset_l (fun _ _ => rfl) (by omega) | exact fun _ _ => rfl | exact l_trans (by assumption) (by assumption)) _ _ (hP.sub [0, 1, 2, 3, 7, 8, 4, 5, 6] rfl) (hD.sub [0, 1, 2, 3, 7, 8, 4, 5, 6] (by decide) rfl) hS ls (lv_sub hl [0, 1] rfl)
      refine lv_aload_n hx hb dXM_grade_50 rfl (lv_at hl 1 rfl) ?_
      refine ji_bipush hx hb dXM_grade_51 (by decide) ?_
      refine jwVi (rest := [.int (jI (31 + r)), .ref a2]) (wr := [(a1, .inl (cZ, 62, .inl (jA y1))), (a2, .inl (cA, 62, .inl (jA y2))), (a3, .inl (cZ, 496, .inl (jA y3))), (a4, .inl (cA, 496, .inl (jA y4))), (a5, .inl (cA, 496, .inl (jA y5))), (a6, .inl (cA, 62, .inl (jA y6))), (a7, .inl (cA, 248, .inl (jA y7)))]) ⟨hx, hb, hml, hown, hts⟩ (c_XM_takesP l dC dI cA cZ _ ma a0 a1 a2 a3 a4 a5 a6 a7 a8 a9 a10 a11 mth mn mp1' w1 mu md mo y0 60 (by first | assumption | omega) (by first | assumption | omega) (by first | assumption | omega) (by first | assumption | omega) (by first | assumption | omega)) (cwV 1 hts (jG_V tw_718 tw_720 ts_18 tw_6 tw_721) rfl rfl rfl (by decide +kernel) (by rw [hR]; exact ⟨Nat.le_of_ble_eq_true rfl, Nat.le_of_ble_eq_true rfl⟩)) hK hP hD hS hA hN [7, 8] [0, 1, 2, 3, 4, 5, 6] rfl rfl (by decide) (by decide) (by decide) 7 5 rfl rfl rfl rfl hl.1 rfl (Nat.le_of_ble_eq_true rfl) dXM_grade_53 (by rw [hR]; exact ⟨Nat.le_of_ble_eq_true rfl, Nat.le_of_ble_eq_true rfl⟩) (fun v117 u116 H locs hwb118 hP hD hS => ?_)
      obtain ⟨r114, mp1'115⟩ := u116
      try dsimp only at hwb118
      obtain ⟨er, hwb118, f119⟩ := hwb118
      subst er
      have f119 : (r114 = 0 ∧ mp1' ≤ mp1'115 ∧ mp1'115 ≤ mn) ∨ (r114 = 1 ∧ mp1' < mp1'115 ∧ mp1'115 ≤ mn ∧ w1 < 0) := f119
      have hP : va_P (dC, dI) vwCl [(a1, .inl (cZ, 62, .inl (jA y1))), (a2, .inl (cA, 62, .inl (jA y2))), (a3, .inl (cZ, 496, .inl (jA y3))), (a4, .inl (cA, 496, .inl (jA y4))), (a5, .inl (cA, 496, .inl (jA y5))), (a6, .inl (cA, 62, .inl (jA y6))), (a7, .inl (cA, 248, .inl (jA y7))), (ma, .inr (5, [.int (jI mth), .int (jI mn), .ref a0, .int (jI mp1'115), .int (jI w1), .ref a1, .ref a2, .ref a3, .ref a4, .ref a5, .ref a6, .ref a7, .ref a8, .ref a9, .ref a10, .long (jL mu), .long (jL md), .int (jI mo), .ref a11])), (a0, .inl (cA, 400, .inl (jA y0)))] H := hP
      have hD : va_D A [(a1, .inl (cZ, 62, .inl (jA y1))), (a2, .inl (cA, 62, .inl (jA y2))), (a3, .inl (cZ, 496, .inl (jA y3))), (a4, .inl (cA, 496, .inl (jA y4))), (a5, .inl (cA, 496, .inl (jA y5))), (a6, .inl (cA, 62, .inl (jA y6))), (a7, .inl (cA, 248, .inl (jA y7))), (ma, .inr (5, [.int (jI mth), .int (jI mn), .ref a0, .int (jI mp1'115), .int (jI w1), .ref a1, .ref a2, .ref a3, .ref a4, .ref a5, .ref a6, .ref a7, .ref a8, .ref a9, .ref a10, .long (jL mu), .long (jL md), .int (jI mo), .ref a11])), (a0, .inl (cA, 400, .inl (jA y0)))] := hD
      refine ji_if_eq (tgt := 69) hx hb dXM_grade_56 (by decide) (by omega) (fun c56_ => ?_) (fun c56_ => ?_)
      · refine ji_iconst hx hb dXM_grade_69 ?_
        exact join70 mp1'115 w1 0 (Eq.trans (by rw [f_XM_gradeP_J37_s]; rw [if_pos c41_]; rw [← hwb118]; try dsimp only; rw [if_pos c56_]; try rfl) hF) (by first | assumption | omega | exact jset_b (by assumption) (by omega)) (by first | assumption | omega | exact jset_b (by assumption) (by omega)) (by first | assumption | omega | exact jset_b (by assumption) (by omega)) _ _ hP hD hS ls (lv_sub hl [0, 1] rfl)
      · refine lv_aload_n hx hb dXM_grade_59 rfl (lv_at hl 1 rfl) ?_
        refine ji_iconst hx hb dXM_grade_60 ?_
        refine ji_bipush hx hb dXM_grade_61 (by decide) ?_
        refine jwVi (rest := [.int (jI (31 + r)), .ref a2]) (wr := [(a1, .inl (cZ, 62, .inl (jA y1))), (a2, .inl (cA, 62, .inl (jA y2))), (a3, .inl (cZ, 496, .inl (jA y3))), (a4, .inl (cA, 496, .inl (jA y4))), (a5, .inl (cA, 496, .inl (jA y5))), (a6, .inl (cA, 62, .inl (jA y6))), (a7, .inl (cA, 248, .inl (jA y7)))]) ⟨hx, hb, hml, hown, hts⟩ (c_XM_numberP l dC dI cA cZ _ ma a0 a1 a2 a3 a4 a5 a6 a7 a8 a9 a10 a11 mth mn mp1'115 w1 mu md mo y0 1 30 (by first | assumption | omega) (by first | assumption | omega) (by first | assumption | omega) (by first | assumption | omega) (by first | assumption | omega)) (cwV 2 hts (jG_V tw_726 tw_728 ts_20 tw_6 tw_729) rfl rfl rfl (by decide +kernel) (by rw [hR]; exact ⟨Nat.le_of_ble_eq_true rfl, Nat.le_of_ble_eq_true rfl⟩)) hK hP hD hS hA hN [7, 8] [0, 1, 2, 3, 4, 5, 6] rfl rfl (by decide) (by decide) (by decide) 7 5 rfl rfl rfl rfl hl.1 rfl (Nat.le_of_ble_eq_true rfl) dXM_grade_63 (by rw [hR]; exact ⟨Nat.le_of_ble_eq_true rfl, Nat.le_of_ble_eq_true rfl⟩) (fun v124 u123 H locs hwb125 hP hD hS => ?_)
        obtain ⟨r120, mp1'121, mw1'122⟩ := u123
        try dsimp only at hwb125
        obtain ⟨er, hwb125, f126, f127, f128, f129⟩ := hwb125
        subst er
        have f126 : 1 ≤ r120 ∧ r120 ≤ 30 := f126
        have f127 : mp1'115 ≤ mp1'121 ∧ mp1'121 ≤ mn := f127
        have f128 : -1 ≤ mw1'122 ∧ mw1'122 ≤ 400 ∧ w1 ≤ mw1'122 := f128
        have f129 : mw1'122 < 0 → mp1'115 < mp1'121 := f129
        have hP : va_P (dC, dI) vwCl [(a1, .inl (cZ, 62, .inl (jA y1))), (a2, .inl (cA, 62, .inl (jA y2))), (a3, .inl (cZ, 496, .inl (jA y3))), (a4, .inl (cA, 496, .inl (jA y4))), (a5, .inl (cA, 496, .inl (jA y5))), (a6, .inl (cA, 62, .inl (jA y6))), (a7, .inl (cA, 248, .inl (jA y7))), (ma, .inr (5, [.int (jI mth), .int (jI mn), .ref a0, .int (jI mp1'121), .int (jI mw1'122), .ref a1, .ref a2, .ref a3, .ref a4, .ref a5, .ref a6, .ref a7, .ref a8, .ref a9, .ref a10, .long (jL mu), .long (jL md), .int (jI mo), .ref a11])), (a0, .inl (cA, 400, .inl (jA y0)))] H := hP
        have hD : va_D A [(a1, .inl (cZ, 62, .inl (jA y1))), (a2, .inl (cA, 62, .inl (jA y2))), (a3, .inl (cZ, 496, .inl (jA y3))), (a4, .inl (cA, 496, .inl (jA y4))), (a5, .inl (cA, 496, .inl (jA y5))), (a6, .inl (cA, 62, .inl (jA y6))), (a7, .inl (cA, 248, .inl (jA y7))), (ma, .inr (5, [.int (jI mth), .int (jI mn), .ref a0, .int (jI mp1'121), .int (jI mw1'122), .ref a1, .ref a2, .ref a3, .ref a4, .ref a5, .ref a6, .ref a7, .ref a8, .ref a9, .ref a10, .long (jL mu), .long (jL md), .int (jI mo), .ref a11])), (a0, .inl (cA, 400, .inl (jA y0)))] := hD
        refine lv_goto (tgt := 70) hx hb dXM_grade_66 (by decide) ?_
        exact join70 mp1'121 mw1'122 r120 (Eq.trans (by rw [f_XM_gradeP_J37_s]; rw [if_pos c41_]; rw [← hwb118]; try dsimp only; rw [if_neg c56_]; rw [← hwb125]; try dsimp only; try rfl) hF) (by first | assumption | omega | exact jset_b (by assumption) (by omega)) (by first | assumption | omega | exact jset_b (by assumption) (by omega)) (by first | assumption | omega | exact jset_b (by assumption) (by omega)) _ _ hP hD hS ls (lv_sub hl [0, 1] rfl)
    · have hP9 := hP.sub (ws' := [(ma, .inr (5, [.int (jI mth), .int (jI mn), .ref a0, .int (jI mp1'), .int (jI w1), .ref a1, .ref a2, .ref a3, .ref a4, .ref a5, .ref a6, .ref a7, .ref a8, .ref a9, .ref a10, .long (jL mu), .long (jL md), .int (jI mo), .ref a11])), (a0, .inl (cA, 400, .inl (jA y0))), (a1, .inl (cZ, 62, .inl (jA y1))), (a2, .inl (cA, 62, .inl (jA y2))), (a3, .inl (cZ, 496, .inl (jA y3))), (a4, .inl (cA, 496, .inl (jA y4))), (a5, .inl (cA, 496, .inl (jA y5))), (a6, .inl (cA, 62, .inl (jA y6))), (a7, .inl (cA, 248, .inl (jA y7)))]) [7, 8, 0, 1, 2, 3, 4, 5, 6] rfl
      have hD9 := hD.sub (ws' := [(ma, .inr (5, [.int (jI mth), .int (jI mn), .ref a0, .int (jI mp1'), .int (jI w1), .ref a1, .ref a2, .ref a3, .ref a4, .ref a5, .ref a6, .ref a7, .ref a8, .ref a9, .ref a10, .long (jL mu), .long (jL md), .int (jI mo), .ref a11])), (a0, .inl (cA, 400, .inl (jA y0))), (a1, .inl (cZ, 62, .inl (jA y1))), (a2, .inl (cA, 62, .inl (jA y2))), (a3, .inl (cZ, 496, .inl (jA y3))), (a4, .inl (cA, 496, .inl (jA y4))), (a5, .inl (cA, 496, .inl (jA y5))), (a6, .inl (cA, 62, .inl (jA y6))), (a7, .inl (cA, 248, .inl (jA y7)))]) [7, 8, 0, 1, 2, 3, 4, 5, 6] (by decide) rfl
      subst hAe
      subst hQ
      exact W.vret hx hb hr (fun t ht hW => ⟨⟨(mp1', w1, y1, y2, y3, y4, y5, y6, y7), rfl, ⟨Eq.trans (by rw [f_XM_gradeP_J37_s]; rw [if_neg (Int.not_lt.mpr c41_)]; try rfl) hF, show mp ≤ mp1' ∧ mp1' ≤ mn from by first | assumption | omega | exact jset_b (by assumption) (by omega) | exact jset_l (by assumption) (by omega) | exact jset_l (fun _ _ => rfl) (by omega) | exact fun _ _ => rfl | exact l_trans (by assumption) (by assumption), show -1 ≤ w1 ∧ w1 ≤ 400 ∧ mw ≤ w1 from by first | assumption | omega | exact jset_b (by assumption) (by omega) | exact jset_l (by assumption) (by omega) | exact jset_l (fun _ _ => rfl) (by omega) | exact fun _ _ => rfl | exact l_trans (by assumption) (by assumption), show ∀ i, 0 ≤ y1 i ∧ y1 i ≤ 1 from by first | assumption | omega | exact jset_b (by assumption) (by omega) | exact jset_l (by assumption) (by omega) | exact jset_l (fun _ _ => rfl) (by omega) | exact fun _ _ => rfl | exact l_trans (by assumption) (by assumption), show ∀ i, 0 ≤ y2 i ∧ y2 i ≤ 30 from by first | assumption | omega | exact jset_b (by assumption) (by omega) | exact jset_l (by assumption) (by omega) | exact jset_l (fun _ _ => rfl) (by omega) | exact fun _ _ => rfl | exact l_trans (by assumption) (by assumption), show ∀ i, 0 ≤ y3 i ∧ y3 i ≤ 1 from by first | assumption | omega | exact jset_b (by assumption) (by omega) | exact jset_l (by assumption) (by omega) | exact jset_l (fun _ _ => rfl) (by omega) | exact fun _ _ => rfl | exact l_trans (by assumption) (by assumption), show ∀ i, 0 ≤ y4 i ∧ y4 i ≤ 100000 from by first | assumption | omega | exact jset_b (by assumption) (by omega) | exact jset_l (by assumption) (by omega) | exact jset_l (fun _ _ => rfl) (by omega) | exact fun _ _ => rfl | exact l_trans (by assumption) (by assumption), show ∀ i, 0 ≤ y5 i ∧ y5 i ≤ 100000 from by first | assumption | omega | exact jset_b (by assumption) (by omega) | exact jset_l (by assumption) (by omega) | exact jset_l (fun _ _ => rfl) (by omega) | exact fun _ _ => rfl | exact l_trans (by assumption) (by assumption), show ∀ i, -2147483648 ≤ y6 i ∧ y6 i ≤ 2147483647 from by first | assumption | omega | exact jset_b (by assumption) (by omega) | exact jset_l (by assumption) (by omega) | exact jset_l (fun _ _ => rfl) (by omega) | exact fun _ _ => rfl | exact l_trans (by assumption) (by assumption), show ∀ i, -1 ≤ y7 i ∧ y7 i ≤ 999999 from by first | assumption | omega | exact jset_b (by assumption) (by omega) | exact jset_l (by assumption) (by omega) | exact jset_l (fun _ _ => rfl) (by omega) | exact fun _ _ => rfl | exact l_trans (by assumption) (by assumption), show ∀ i, i < 31 → y1 i = y1 i from by first | assumption | omega | exact jset_b (by assumption) (by omega) | exact jset_l (by assumption) (by omega) | exact jset_l (fun _ _ => rfl) (by omega) | exact fun _ _ => rfl | exact l_trans (by assumption) (by assumption), show ∀ i, i < 31 → y2 i = y2 i from by first | assumption | omega | exact jset_b (by assumption) (by omega) | exact jset_l (by assumption) (by omega) | exact jset_l (fun _ _ => rfl) (by omega) | exact fun _ _ => rfl | exact l_trans (by assumption) (by assumption), show ∀ i, i < 248 → y3 i = y3 i from by first | assumption | omega | exact jset_b (by assumption) (by omega) | exact jset_l (by assumption) (by omega) | exact jset_l (fun _ _ => rfl) (by omega) | exact fun _ _ => rfl | exact l_trans (by assumption) (by assumption), show ∀ i, i < 248 → y4 i = y4 i from by first | assumption | omega | exact jset_b (by assumption) (by omega) | exact jset_l (by assumption) (by omega) | exact jset_l (fun _ _ => rfl) (by omega) | exact fun _ _ => rfl | exact l_trans (by assumption) (by assumption), show ∀ i, i < 248 → y5 i = y5 i from by first | assumption | omega | exact jset_b (by assumption) (by omega) | exact jset_l (by assumption) (by omega) | exact jset_l (fun _ _ => rfl) (by omega) | exact fun _ _ => rfl | exact l_trans (by assumption) (by assumption), show ∀ i, i < 31 → y6 i = y6 i from by first | assumption | omega | exact jset_b (by assumption) (by omega) | exact jset_l (by assumption) (by omega) | exact jset_l (fun _ _ => rfl) (by omega) | exact fun _ _ => rfl | exact l_trans (by assumption) (by assumption), show ∀ i, i < 124 → y7 i = y7 i from by first | assumption | omega | exact jset_b (by assumption) (by omega) | exact jset_l (by assumption) (by omega) | exact jset_l (fun _ _ => rfl) (by omega) | exact fun _ _ => rfl | exact l_trans (by assumption) (by assumption)⟩, ⟨by rw [ht]; exact hP9, va_K.moved hW.alike hK, hD9⟩⟩, hS.F ht⟩) hS.2.2 dXM_grade_44
  refine lv_aload_n hx hb dXM_grade_11 rfl (lv_at hl 1 rfl) ?_
  refine va_get (D := (dC, dI)) (ci := 5) (v := .int (jI mw1')) (C := RXM) (T := TXM) (N := 19) hx hb hts (fun w h => jmem (inXM w h)) hown hK hP 7 rfl rfl 4 (by decide) (hts _ (jmem tw_632)) (fun _ h9 => h9) rfl dXM_grade_12 ?_
  refine ji_if_ge (tgt := 37) hx hb dXM_grade_15 (by decide) (by omega) (fun c15_ => ?_) (fun c15_ => ?_)
  · exact join37 mw1' (Eq.trans (by rw [f_XM_gradeP_s]; rw [← hwb]; try dsimp only; rw [if_neg (Int.not_lt.mpr c15_)]; try rfl) rfl) (by first | assumption | omega | exact jset_b (by assumption) (by omega)) _ _ hP hD hS ls (lv_sub hl [0, 1] rfl)
  · refine lv_aload_n hx hb dXM_grade_18 rfl (lv_at hl 1 rfl) ?_
    refine va_get (D := (dC, dI)) (ci := 5) (v := .ref a1) (C := RXM) (T := TXM) (N := 19) hx hb hts (fun w h => jmem (inXM w h)) hown hK hP 7 rfl rfl 5 (by decide) (hts _ (jmem tw_633)) (fun _ h9 => h9) rfl dXM_grade_19 ?_
    refine lv_iload_n hx hb dXM_grade_22 rfl (lv_at hl 0 rfl) ?_
    refine ji_zald hx hb hK hP 0 1 rfl rfl ⟨by omega, by omega⟩ (by decide) dXM_grade_23 ?_
    have rb130 := hy1 (31 + r)
    refine ji_if_eq (tgt := 37) hx hb dXM_grade_24 (by decide) (by omega) (fun c24_ => ?_) (fun c24_ => ?_)
    · exact join37 mw1' (Eq.trans (by rw [f_XM_gradeP_s]; rw [← hwb]; try dsimp only; rw [if_pos c15_, if_pos c24_]; try rfl) rfl) (by first | assumption | omega | exact jset_b (by assumption) (by omega)) _ _ hP hD hS ls (lv_sub hl [0, 1] rfl)
    · refine lv_aload_n hx hb dXM_grade_27 rfl (lv_at hl 1 rfl) ?_
      refine lv_aload_n hx hb dXM_grade_28 rfl (lv_at hl 1 rfl) ?_
      refine va_get (D := (dC, dI)) (ci := 5) (v := .int (jI mp1')) (C := RXM) (T := TXM) (N := 19) hx hb hts (fun w h => jmem (inXM w h)) hown hK hP 7 rfl rfl 3 (by decide) (hts _ (jmem tw_631)) (fun _ h9 => h9) rfl dXM_grade_29 ?_
      refine ji_iconst hx hb dXM_grade_32 ?_
      refine ji_isub hx hb dXM_grade_33 ?_
      refine jwVv (rest := []) (wr := [(a1, .inl (cZ, 62, .inl (jA y1))), (a2, .inl (cA, 62, .inl (jA y2))), (a3, .inl (cZ, 496, .inl (jA y3))), (a4, .inl (cA, 496, .inl (jA y4))), (a5, .inl (cA, 496, .inl (jA y5))), (a6, .inl (cA, 62, .inl (jA y6))), (a7, .inl (cA, 248, .inl (jA y7))), (a0, .inl (cA, 400, .inl (jA y0)))]) ⟨hx, hb, hml, hown, hts⟩ (c_XM_failP l dC dI cA cZ _ ma a0 a1 a2 a3 a4 a5 a6 a7 a8 a9 a10 a11 mth mn mp1' mw1' mu md mo (mp1' - 1) (by first | assumption | omega) (by first | assumption | omega)) (cwV 1 hts (jG_V tw_734 tw_736 ts_22 tw_6 tw_737) rfl rfl rfl (by decide +kernel) (by rw [hR]; exact ⟨Nat.le_of_ble_eq_true rfl, Nat.le_of_ble_eq_true rfl⟩)) hK hP hD hS hA hN [7] [0, 1, 2, 3, 4, 5, 6, 8] rfl rfl (by decide) (by decide) (by decide) 7 5 rfl rfl rfl rfl hl.1 rfl (Nat.le_of_ble_eq_true rfl) dXM_grade_34 (by rw [hR]; exact ⟨Nat.le_of_ble_eq_true rfl, Nat.le_of_ble_eq_true rfl⟩) (fun u131 H locs hw hP hD hS => ?_)
      obtain ⟨hw, f132⟩ := hw
      subst hw
      have f132 : (0 ≤ mw1' ∧ (f_XM_failP mth mn mp1' mw1' mu md mo (mp1' - 1)) = mw1') ∨ (mw1' < 0 ∧ (f_XM_failP mth mn mp1' mw1' mu md mo (mp1' - 1)) = (mp1' - 1)) := f132
      have hP : va_P (dC, dI) vwCl [(a1, .inl (cZ, 62, .inl (jA y1))), (a2, .inl (cA, 62, .inl (jA y2))), (a3, .inl (cZ, 496, .inl (jA y3))), (a4, .inl (cA, 496, .inl (jA y4))), (a5, .inl (cA, 496, .inl (jA y5))), (a6, .inl (cA, 62, .inl (jA y6))), (a7, .inl (cA, 248, .inl (jA y7))), (a0, .inl (cA, 400, .inl (jA y0))), (ma, .inr (5, [.int (jI mth), .int (jI mn), .ref a0, .int (jI mp1'), .int (jI (f_XM_failP mth mn mp1' mw1' mu md mo (mp1' - 1))), .ref a1, .ref a2, .ref a3, .ref a4, .ref a5, .ref a6, .ref a7, .ref a8, .ref a9, .ref a10, .long (jL mu), .long (jL md), .int (jI mo), .ref a11]))] H := hP
      have hD : va_D A [(a1, .inl (cZ, 62, .inl (jA y1))), (a2, .inl (cA, 62, .inl (jA y2))), (a3, .inl (cZ, 496, .inl (jA y3))), (a4, .inl (cA, 496, .inl (jA y4))), (a5, .inl (cA, 496, .inl (jA y5))), (a6, .inl (cA, 62, .inl (jA y6))), (a7, .inl (cA, 248, .inl (jA y7))), (a0, .inl (cA, 400, .inl (jA y0))), (ma, .inr (5, [.int (jI mth), .int (jI mn), .ref a0, .int (jI mp1'), .int (jI (f_XM_failP mth mn mp1' mw1' mu md mo (mp1' - 1))), .ref a1, .ref a2, .ref a3, .ref a4, .ref a5, .ref a6, .ref a7, .ref a8, .ref a9, .ref a10, .long (jL mu), .long (jL md), .int (jI mo), .ref a11]))] := hD
      exact join37 (f_XM_failP mth mn mp1' mw1' mu md mo (mp1' - 1)) (Eq.trans (by rw [f_XM_gradeP_s]; rw [← hwb]; try dsimp only; rw [if_pos c15_, if_neg c24_]; try rfl) rfl) (by first | assumption | omega | exact jset_b (by assumption) (by omega)) _ _ (hP.sub [0, 1, 2, 3, 4, 5, 6, 8, 7] rfl) (hD.sub [0, 1, 2, 3, 4, 5, 6, 8, 7] (by decide) rfl) hS ls (lv_sub hl [0, 1] rfl)

end
