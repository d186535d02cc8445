noncomputable def g_XM_lowOfP_L2 (mth : Int) (mn : Int) (mp : Int) (mw : Int) (mu : Int) (md : Int) (mo : Int) (y1 : Int → Int) (y2 : Int → Int) (y3 : Int → Int) (y4 : Int → Int) (z1 : Int) (z2 : Int) : Nat → Int → Int
  | 0, _ => 0
  | n9 + 1, k =>
    if 0 < k then
      if (y3 ((8 * k) + z2)) = 0 then
        g_XM_lowOfP_L2 mth mn mp mw mu md mo y1 y2 y3 y4 z1 z2 n9 (f_XM_from mth mn mp mw mu md mo y1 y2 k)
      else
        y4 ((8 * k) + z2)
    else
      0
noncomputable def f_XM_lowOfP_L2 : Int → Int → Int → Int → Int → Int → Int → (Int → Int) → (Int → Int) → (Int → Int) → (Int → Int) → Int → Int → Nat → Int → Int := jopq g_XM_lowOfP_L2
theorem f_XM_lowOfP_L2_q : f_XM_lowOfP_L2 = g_XM_lowOfP_L2 := jopq_eq _
theorem f_XM_lowOfP_L2_s (mth : Int) (mn : Int) (mp : Int) (mw : Int) (mu : Int) (md : Int) (mo : Int) (y1 : Int → Int) (y2 : Int → Int) (y3 : Int → Int) (y4 : Int → Int) (z1 : Int) (z2 : Int) (n9 : Nat) (k : Int) : f_XM_lowOfP_L2 mth mn mp mw mu md mo y1 y2 y3 y4 z1 z2 (n9 + 1) k = (
    if 0 < k then
      if (y3 ((8 * k) + z2)) = 0 then
        f_XM_lowOfP_L2 mth mn mp mw mu md mo y1 y2 y3 y4 z1 z2 n9 (f_XM_from mth mn mp mw mu md mo y1 y2 k)
      else
        y4 ((8 * k) + z2)
    else
      0
  : Int) := by rw [f_XM_lowOfP_L2_q]; rfl
theorem f_XM_lowOfP_L2_z (mth : Int) (mn : Int) (mp : Int) (mw : Int) (mu : Int) (md : Int) (mo : Int) (y1 : Int → Int) (y2 : Int → Int) (y3 : Int → Int) (y4 : Int → Int) (z1 : Int) (z2 : Int) (k : Int) : f_XM_lowOfP_L2 mth mn mp mw mu md mo y1 y2 y3 y4 z1 z2 0 k = 0 := by rw [f_XM_lowOfP_L2_q]; rfl
noncomputable def g_XM_lowOfP (mth : Int) (mn : Int) (mp : Int) (mw : Int) (mu : Int) (md : Int) (mo : Int) (y1 : Int → Int) (y2 : Int → Int) (y3 : Int → Int) (y4 : Int → Int) (z1 : Int) (z2 : Int) : Int :=
  f_XM_lowOfP_L2 mth mn mp mw mu md mo y1 y2 y3 y4 z1 z2 (Int.toNat (jdp (fun x => f_XM_from mth mn mp mw mu md mo y1 y2 x) 41 z1) + 1) z1
noncomputable def f_XM_lowOfP : Int → Int → Int → Int → Int → Int → Int → (Int → Int) → (Int → Int) → (Int → Int) → (Int → Int) → Int → Int → Int := jopq g_XM_lowOfP
theorem f_XM_lowOfP_q : f_XM_lowOfP = g_XM_lowOfP := jopq_eq _
theorem f_XM_lowOfP_s (mth : Int) (mn : Int) (mp : Int) (mw : Int) (mu : Int) (md : Int) (mo : Int) (y1 : Int → Int) (y2 : Int → Int) (y3 : Int → Int) (y4 : Int → Int) (z1 : Int) (z2 : Int) : f_XM_lowOfP mth mn mp mw mu md mo y1 y2 y3 y4 z1 z2 = (
    f_XM_lowOfP_L2 mth mn mp mw mu md mo y1 y2 y3 y4 z1 z2 (Int.toNat (jdp (fun x => f_XM_from mth mn mp mw mu md mo y1 y2 x) 41 z1) + 1) z1
  : Int) := by rw [f_XM_lowOfP_q]; rfl
theorem f_XM_lowOfP_Lb (mth mn mp mw mu md mo : Int) (y1 y2 y3 y4 : Int → Int) (hq : ∀ i, 0 ≤ y4 i ∧ y4 i ≤ 100000) (z1 z2 : Int) : ∀ (n : Nat) (k : Int), 0 ≤ f_XM_lowOfP_L2 mth mn mp mw mu md mo y1 y2 y3 y4 z1 z2 n k ∧ f_XM_lowOfP_L2 mth mn mp mw mu md mo y1 y2 y3 y4 z1 z2 n k ≤ 100000 := by
  intro n
  induction n with
  | zero => intro k; rw [f_XM_lowOfP_L2_z]; decide
  | succ n ih =>
    intro k
    rw [f_XM_lowOfP_L2_s]
    (repeat' split) <;> first | decide | exact hq _ | exact ih _
theorem f_XM_lowOfP_b (mth : Int) (mn : Int) (mp : Int) (mw : Int) (mu : Int) (md : Int) (mo : Int) (y1 : Int → Int) (y2 : Int → Int) (y3 : Int → Int) (y4 : Int → Int) (z1 : Int) (z2 : Int) (hy1 : ∀ i, 0 ≤ y1 i ∧ y1 i ≤ 1) (hy2 : ∀ i, 0 ≤ y2 i ∧ y2 i ≤ 30) (hy3 : ∀ i, 0 ≤ y3 i ∧ y3 i ≤ 1) (hy4 : ∀ i, 0 ≤ y4 i ∧ y4 i ≤ 100000) (hz1 : 1 ≤ z1 ∧ z1 ≤ 30) (hz2 : 0 ≤ z2 ∧ z2 ≤ 7) : 0 ≤ (f_XM_lowOfP mth mn mp mw mu md mo y1 y2 y3 y4 z1 z2) ∧ (f_XM_lowOfP mth mn mp mw mu md mo y1 y2 y3 y4 z1 z2) ≤ 100000 := by rw [f_XM_lowOfP_s]; exact f_XM_lowOfP_Lb mth mn mp mw mu md mo y1 y2 y3 y4 hy4 z1 z2 _ _
set_option maxHeartbeats 4000000 in
set_option maxRecDepth 100000 in
theorem c_XM_lowOfP (l : Launch) (dC : Nat → ClassId) (dI : Nat → Nat → Nat) (cA cZ : ClassId) (ma : Nat) (a0 : Nat) (a1 : Nat) (a2 : Nat) (a3 : Nat) (a4 : Nat) (a5 : Nat) (a6 : Nat) (a7 : Nat) (a8 : Nat) (a9 : Nat) (a10 : Nat) (a11 : Nat) (mth : Int) (mn : Int) (mp : Int) (mw : Int) (mu : Int) (md : Int) (mo : Int) (y1 : Int → Int) (y2 : Int → Int) (y3 : Int → Int) (y4 : Int → Int) (z1 : Int) (z2 : Int) (hy1 : ∀ i, 0 ≤ y1 i ∧ y1 i ≤ 1) (hy2 : ∀ i, 0 ≤ y2 i ∧ y2 i ≤ 30) (hy3 : ∀ i, 0 ≤ y3 i ∧ y3 i ≤ 1) (hy4 : ∀ i, 0 ≤ y4 i ∧ y4 i ≤ 100000) (hz1 : 1 ≤ z1 ∧ z1 ≤ 30) (hz2 : 0 ≤ z2 ∧ z2 ≤ 7) : Met l yXM_lowOf (Cond.code yXM_lowOf cXM_lowOf 4 (some .int) :: TBL) ({ frames := 4, cells := 0, slots := 0, locals := 87 } : Room) (va_Pc [.ref ma, .int (jI z1), .int (jI z2)] (jB (dC, dI) [(cA, .int), (cZ, .boolean)] [(ma, .inr (5, [.int (jI mth), .int (jI mn), .ref a0, .int (jI mp), .int (jI mw), .ref a1, .ref a2, .ref a3, .ref a4, .ref a5, .ref a6, .ref a7, .ref a8, .ref a9, .ref a10, .long (jL mu), .long (jL md), .int (jI mo), .ref a11])), (a1, .inl (cZ, 62, .inl (jA y1))), (a2, .inl (cA, 62, .inl (jA y2))), (a3, .inl (cZ, 496, .inl (jA y3))), (a4, .inl (cA, 496, .inl (jA y4)))])) (vp_Si (fun r => r = jI (f_XM_lowOfP mth mn mp mw mu md mo y1 y2 y3 y4 z1 z2))) 0 0 (fun _ => False) := by
  refine jMet (cc := cXM_lowOf) (maxL := 4) (ret := some .int) (by decide) rfl ?_
  intro p e s m args below meth c s₁ R Q hR hQ B hml hv
  obtain ⟨rfl, hP, hK, hN⟩ := hv
  have hx := B.exec
  have hb := B.bytes
  have hr := B.returns
  have hts := atoms_spec (ws := Cond.code yXM_lowOf cXM_lowOf 4 (some .int) :: TBL) B.pre
  have hown : s.vm.findClass RXM = some m.cls := findClass_of_methodNamed B.named
  have hlocks := B.notSynchronized
  have hP : va_P (dC, dI) vwCl [(ma, .inr (5, [.int (jI mth), .int (jI mn), .ref a0, .int (jI mp), .int (jI mw), .ref a1, .ref a2, .ref a3, .ref a4, .ref a5, .ref a6, .ref a7, .ref a8, .ref a9, .ref a10, .long (jL mu), .long (jL md), .int (jI mo), .ref a11])), (a1, .inl (cZ, 62, .inl (jA y1))), (a2, .inl (cA, 62, .inl (jA y2))), (a3, .inl (cZ, 496, .inl (jA y3))), (a4, .inl (cA, 496, .inl (jA y4)))] s.heap := hP
  have hl := lv_entry ([.ref ma, .int (jI z1), .int (jI z2)]) (n := 4) (Nat.le_of_ble_eq_true rfl)
  rw [lg_entry_eq]
  generalize (lg_sl ([.ref ma, .int (jI z1), .int (jI z2)]) ++ List.replicate (4 - (lg_sl ([.ref ma, .int (jI z1), .int (jI z2)])).length) Slot.unset).toArray = ls at hl ⊢
  have hl : lv_has ls 4 [(0, .ref ma), (1, .int (jI z1)), (2, .int (jI z2))] := hl
  refine lv_iload_n hx hb dXM_lowOf_0 rfl (lv_at hl 1 rfl) ?_
  refine lv_istore_n (lv' := [(3, .int (jI z1)), (0, .ref ma), (1, .int (jI z1)), (2, .int (jI z2))]) hx hb dXM_lowOf_1 rfl hl (by decide) rfl (fun ls hl => ?_)
  have loop2 : ∀ (n9 : Nat) (k : Int) , jdp (fun x => f_XM_from mth mn mp mw mu md mo y1 y2 x) 41 k < (n9 : Int) → f_XM_lowOfP_L2 mth mn mp mw mu md mo y1 y2 y3 y4 z1 z2 n9 k = f_XM_lowOfP mth mn mp mw mu md mo y1 y2 y3 y4 z1 z2 → (0 ≤ k ∧ k ≤ 30) → ∀ ls : Array Slot, lv_has ls 4 [(3, .int (jI k)), (0, .ref ma), (1, .int (jI z1)), (2, .int (jI z2))] → W p l e R s m ([.ref ma, .int (jI z1), .int (jI z2)] : List Value).toArray below meth c s.heap [] 0 0 Q (F0 m 2 ls []) := by
    intro n9
    induction n9 with
    | zero =>
      intro k hm hF hk
      exact absurd hm (by have h8 := jdp_nn (fun x => f_XM_from mth mn mp mw mu md mo y1 y2 x) 41 k; omega)
    | succ n9 ih2 =>
      intro k hm hF hk ls hl
      refine lv_iload_n hx hb dXM_lowOf_2 rfl (lv_at hl 0 rfl) ?_
      refine ji_if_le (tgt := 41) hx hb dXM_lowOf_3 (by decide) (by omega) (fun c3_ => ?_) (fun c3_ => ?_)
      · refine ji_iconst hx hb dXM_lowOf_41 ?_
        subst hQ
        exact W.iret (v := jI 0) hx hb hr (fun t ht hW => ⟨_, rfl, congrArg jI (Eq.trans (by rw [f_XM_lowOfP_L2_s]; rw [if_neg (Int.not_lt.mpr c3_)]; try rfl) hF), ht⟩) (fun _ h => nomatch h) dXM_lowOf_42
      · refine lv_aload_n hx hb dXM_lowOf_6 rfl (lv_at hl 1 rfl) ?_
        refine va_get (D := (dC, dI)) (ci := 5) (v := .ref a3) (C := RXM) (T := TXM) (N := 19) hx hb hts (fun w h => jmem (inXM w h)) hown hK hP 0 rfl rfl 7 (by decide) (hts _ (jmem tw_635)) (fun _ h9 => h9) rfl dXM_lowOf_7 ?_
        refine ji_bipush hx hb dXM_lowOf_10 (by decide) ?_
        refine lv_iload_n hx hb dXM_lowOf_12 rfl (lv_at hl 0 rfl) ?_
        refine ji_imul hx hb dXM_lowOf_13 ?_
        refine lv_iload_n hx hb dXM_lowOf_14 rfl (lv_at hl 3 rfl) ?_
        refine ji_iadd hx hb dXM_lowOf_15 ?_
        refine ji_zald hx hb hK hP 3 1 rfl rfl ⟨by omega, by omega⟩ (by decide) dXM_lowOf_16 ?_
        have rb := hy3 ((8 * k) + z2)
        refine ji_if_eq (tgt := 32) hx hb dXM_lowOf_17 (by decide) (by omega) (fun c17_ => ?_) (fun c17_ => ?_)
        · refine lv_aload_n hx hb dXM_lowOf_32 rfl (lv_at hl 1 rfl) ?_
          refine lv_iload_n hx hb dXM_lowOf_33 rfl (lv_at hl 0 rfl) ?_
          refine jrVi (rest := []) ⟨hx, hb, hml, hown, hts⟩ (c_XM_from l dC dI cA cZ ma a0 a1 a2 a3 a4 a5 a6 a7 a8 a9 a10 a11 mth mn mp mw mu md mo y1 y2 k (by first | assumption | omega) (by first | assumption | omega) (by first | assumption | omega)) (cwV 1 hts (jG_V tw_779 tw_781 ts_31 tw_6 tw_782) rfl rfl rfl (by decide +kernel) (by rw [hR]; exact ⟨Nat.le_of_ble_eq_true rfl, Nat.le_of_ble_eq_true rfl⟩)) hK hP hN [0, 1, 2] rfl 0 5 rfl rfl rfl rfl hl.1 rfl (Nat.le_of_ble_eq_true rfl) dXM_lowOf_34 (by rw [hR]; exact ⟨Nat.le_of_ble_eq_true rfl, Nat.le_of_ble_eq_true rfl⟩) ?_
          have f := f_XM_from_b mth mn mp mw mu md mo y1 y2 k (by first | assumption | omega) (by first | assumption | omega) (by first | assumption | omega)
          refine lv_istore_n (lv' := [(3, .int (jI (f_XM_from mth mn mp mw mu md mo y1 y2 k))), (0, .ref ma), (1, .int (jI z1)), (2, .int (jI z2))]) hx hb dXM_lowOf_37 rfl hl (by decide) rfl (fun ls hl => ?_)
          refine lv_goto (tgt := 2) hx hb dXM_lowOf_38 (by decide) ?_
          exact ih2 (f_XM_from mth mn mp mw mu md mo y1 y2 k) (by have h8 := from_dec mth mn mp mw mu md mo y1 y2 hy1 hy2 k (by omega); omega) (Eq.trans (by rw [f_XM_lowOfP_L2_s]; rw [if_pos c3_, if_pos c17_]; try rfl) hF) (by first | assumption | omega) ls (lv_sub hl [0, 1, 2, 3] rfl)
        · refine lv_aload_n hx hb dXM_lowOf_20 rfl (lv_at hl 1 rfl) ?_
          refine va_get (D := (dC, dI)) (ci := 5) (v := .ref a4) (C := RXM) (T := TXM) (N := 19) hx hb hts (fun w h => jmem (inXM w h)) hown hK hP 0 rfl rfl 8 (by decide) (hts _ (jmem tw_636)) (fun _ h9 => h9) rfl dXM_lowOf_21 ?_
          refine ji_bipush hx hb dXM_lowOf_24 (by decide) ?_
          refine lv_iload_n hx hb dXM_lowOf_26 rfl (lv_at hl 0 rfl) ?_
          refine ji_imul hx hb dXM_lowOf_27 ?_
          refine lv_iload_n hx hb dXM_lowOf_28 rfl (lv_at hl 3 rfl) ?_
          refine ji_iadd hx hb dXM_lowOf_29 ?_
          refine ji_iald hx hb hK hP 4 0 rfl rfl ⟨by omega, by omega⟩ (by decide) dXM_lowOf_30 ?_
          have rb1 := hy4 ((8 * k) + z2)
          subst hQ
          exact W.iret (v := jI (y4 ((8 * k) + z2))) hx hb hr (fun t ht hW => ⟨_, rfl, congrArg jI (Eq.trans (by rw [f_XM_lowOfP_L2_s]; rw [if_pos c3_, if_neg c17_]; try rfl) hF), ht⟩) (fun _ h => nomatch h) dXM_lowOf_31
  exact loop2 (Int.toNat (jdp (fun x => f_XM_from mth mn mp mw mu md mo y1 y2 x) 41 z1) + 1) z1 (by omega) (Eq.trans (by rw [f_XM_lowOfP_s]; try rfl) rfl) (by first | assumption | omega) ls (lv_sub hl [0, 1, 2, 3] rfl)
noncomputable def g_XM_highOfP_L2 (mth : Int) (mn : Int) (mp : Int) (mw : Int) (mu : Int) (md : Int) (mo : Int) (y1 : Int → Int) (y2 : Int → Int) (y3 : Int → Int) (y5 : Int → Int) (z1 : Int) (z2 : Int) : Nat → Int → Int
  | 0, _ => 0
  | n9 + 1, k =>
    if 0 < k then
      if (y3 ((8 * k) + z2)) = 0 then
        g_XM_highOfP_L2 mth mn mp mw mu md mo y1 y2 y3 y5 z1 z2 n9 (f_XM_from mth mn mp mw mu md mo y1 y2 k)
      else
        y5 ((8 * k) + z2)
    else
      100000
noncomputable def f_XM_highOfP_L2 : Int → Int → Int → Int → Int → Int → Int → (Int → Int) → (Int → Int) → (Int → Int) → (Int → Int) → Int → Int → Nat → Int → Int := jopq g_XM_highOfP_L2
theorem f_XM_highOfP_L2_q : f_XM_highOfP_L2 = g_XM_highOfP_L2 := jopq_eq _
theorem f_XM_highOfP_L2_s (mth : Int) (mn : Int) (mp : Int) (mw : Int) (mu : Int) (md : Int) (mo : Int) (y1 : Int → Int) (y2 : Int → Int) (y3 : Int → Int) (y5 : Int → Int) (z1 : Int) (z2 : Int) (n9 : Nat) (k : Int) : f_XM_highOfP_L2 mth mn mp mw mu md mo y1 y2 y3 y5 z1 z2 (n9 + 1) k = (
    if 0 < k then
      if (y3 ((8 * k) + z2)) = 0 then
        f_XM_highOfP_L2 mth mn mp mw mu md mo y1 y2 y3 y5 z1 z2 n9 (f_XM_from mth mn mp mw mu md mo y1 y2 k)
      else
        y5 ((8 * k) + z2)
    else
      100000
  : Int) := by rw [f_XM_highOfP_L2_q]; rfl
theorem f_XM_highOfP_L2_z (mth : Int) (mn : Int) (mp : Int) (mw : Int) (mu : Int) (md : Int) (mo : Int) (y1 : Int → Int) (y2 : Int → Int) (y3 : Int → Int) (y5 : Int → Int) (z1 : Int) (z2 : Int) (k : Int) : f_XM_highOfP_L2 mth mn mp mw mu md mo y1 y2 y3 y5 z1 z2 0 k = 0 := by rw [f_XM_highOfP_L2_q]; rfl
noncomputable def g_XM_highOfP (mth : Int) (mn : Int) (mp : Int) (mw : Int) (mu : Int) (md : Int) (mo : Int) (y1 : Int → Int) (y2 : Int → Int) (y3 : Int → Int) (y5 : Int → Int) (z1 : Int) (z2 : Int) : Int :=
  f_XM_highOfP_L2 mth mn mp mw mu md mo y1 y2 y3 y5 z1 z2 (Int.toNat (jdp (fun x => f_XM_from mth mn mp mw mu md mo y1 y2 x) 41 z1) + 1) z1
noncomputable def f_XM_highOfP : Int → Int → Int → Int → Int → Int → Int → (Int → Int) → (Int → Int) → (Int → Int) → (Int → Int) → Int → Int → Int := jopq g_XM_highOfP
theorem f_XM_highOfP_q : f_XM_highOfP = g_XM_highOfP := jopq_eq _
theorem f_XM_highOfP_s (mth : Int) (mn : Int) (mp : Int) (mw : Int) (mu : Int) (md : Int) (mo : Int) (y1 : Int → Int) (y2 : Int → Int) (y3 : Int → Int) (y5 : Int → Int) (z1 : Int) (z2 : Int) : f_XM_highOfP mth mn mp mw mu md mo y1 y2 y3 y5 z1 z2 = (
    f_XM_highOfP_L2 mth mn mp mw mu md mo y1 y2 y3 y5 z1 z2 (Int.toNat (jdp (fun x => f_XM_from mth mn mp mw mu md mo y1 y2 x) 41 z1) + 1) z1
  : Int) := by rw [f_XM_highOfP_q]; rfl
theorem f_XM_highOfP_Lb (mth mn mp mw mu md mo : Int) (y1 y2 y3 y5 : Int → Int) (hq : ∀ i, 0 ≤ y5 i ∧ y5 i ≤ 100000) (z1 z2 : Int) : ∀ (n : Nat) (k : Int), 0 ≤ f_XM_highOfP_L2 mth mn mp mw mu md mo y1 y2 y3 y5 z1 z2 n k ∧ f_XM_highOfP_L2 mth mn mp mw mu md mo y1 y2 y3 y5 z1 z2 n k ≤ 100000 := by
  intro n
  induction n with
  | zero => intro k; rw [f_XM_highOfP_L2_z]; decide
  | succ n ih =>
    intro k
    rw [f_XM_highOfP_L2_s]
    (repeat' split) <;> first | decide | exact hq _ | exact ih _
theorem f_XM_highOfP_b (mth : Int) (mn : Int) (mp : Int) (mw : Int) (mu : Int) (md : Int) (mo : Int) (y1 : Int → Int) (y2 : Int → Int) (y3 : Int → Int) (y5 : Int → Int) (z1 : Int) (z2 : Int) (hy1 : ∀ i, 0 ≤ y1 i ∧ y1 i ≤ 1) (hy2 : ∀ i, 0 ≤ y2 i ∧ y2 i ≤ 30) (hy3 : ∀ i, 0 ≤ y3 i ∧ y3 i ≤ 1) (hy5 : ∀ i, 0 ≤ y5 i ∧ y5 i ≤ 100000) (hz1 : 1 ≤ z1 ∧ z1 ≤ 30) (hz2 : 0 ≤ z2 ∧ z2 ≤ 7) : 0 ≤ (f_XM_highOfP mth mn mp mw mu md mo y1 y2 y3 y5 z1 z2) ∧ (f_XM_highOfP mth mn mp mw mu md mo y1 y2 y3 y5 z1 z2) ≤ 100000 := by rw [f_XM_highOfP_s]; exact f_XM_highOfP_Lb mth mn mp mw mu md mo y1 y2 y3 y5 hy5 z1 z2 _ _
set_option maxHeartbeats 4000000 in
set_option maxRecDepth 100000 in
theorem c_XM_highOfP (l : Launch) (dC : Nat → ClassId) (dI : Nat → Nat → Nat) (cA cZ : ClassId) (ma : Nat) (a0 : Nat) (a1 : Nat) (a2 : Nat) (a3 : Nat) (a4 : Nat) (a5 : Nat) (a6 : Nat) (a7 : Nat) (a8 : Nat) (a9 : Nat) (a10 : Nat) (a11 : Nat) (mth : Int) (mn : Int) (mp : Int) (mw : Int) (mu : Int) (md : Int) (mo : Int) (y1 : Int → Int) (y2 : Int → Int) (y3 : Int → Int) (y5 : Int → Int) (z1 : Int) (z2 : Int) (hy1 : ∀ i, 0 ≤ y1 i ∧ y1 i ≤ 1) (hy2 : ∀ i, 0 ≤ y2 i ∧ y2 i ≤ 30) (hy3 : ∀ i, 0 ≤ y3 i ∧ y3 i ≤ 1) (hy5 : ∀ i, 0 ≤ y5 i ∧ y5 i ≤ 100000) (hz1 : 1 ≤ z1 ∧ z1 ≤ 30) (hz2 : 0 ≤ z2 ∧ z2 ≤ 7) : Met l yXM_highOf (Cond.code yXM_highOf cXM_highOf 4 (some .int) :: TBL) ({ frames := 4, cells := 0, slots := 0, locals := 87 } : Room) (va_Pc [.ref ma, .int (jI z1), .int (jI z2)] (jB (dC, dI) [(cA, .int), (cZ, .boolean)] [(ma, .inr (5, [.int (jI mth), .int (jI mn), .ref a0, .int (jI mp), .int (jI mw), .ref a1, .ref a2, .ref a3, .ref a4, .ref a5, .ref a6, .ref a7, .ref a8, .ref a9, .ref a10, .long (jL mu), .long (jL md), .int (jI mo), .ref a11])), (a1, .inl (cZ, 62, .inl (jA y1))), (a2, .inl (cA, 62, .inl (jA y2))), (a3, .inl (cZ, 496, .inl (jA y3))), (a5, .inl (cA, 496, .inl (jA y5)))])) (vp_Si (fun r => r = jI (f_XM_highOfP mth mn mp mw mu md mo y1 y2 y3 y5 z1 z2))) 0 0 (fun _ => False) := by
  refine jMet (cc := cXM_highOf) (maxL := 4) (ret := some .int) (by decide) rfl ?_
  intro p e s m args below meth c s₁ R Q hR hQ B hml hv
  obtain ⟨rfl, hP, hK, hN⟩ := hv
  have hx := B.exec
  have hb := B.bytes
  have hr := B.returns
  have hts := atoms_spec (ws := Cond.code yXM_highOf cXM_highOf 4 (some .int) :: TBL) B.pre
  have hown : s.vm.findClass RXM = some m.cls := findClass_of_methodNamed B.named
  have hlocks := B.notSynchronized
  have hP : va_P (dC, dI) vwCl [(ma, .inr (5, [.int (jI mth), .int (jI mn), .ref a0, .int (jI mp), .int (jI mw), .ref a1, .ref a2, .ref a3, .ref a4, .ref a5, .ref a6, .ref a7, .ref a8, .ref a9, .ref a10, .long (jL mu), .long (jL md), .int (jI mo), .ref a11])), (a1, .inl (cZ, 62, .inl (jA y1))), (a2, .inl (cA, 62, .inl (jA y2))), (a3, .inl (cZ, 496, .inl (jA y3))), (a5, .inl (cA, 496, .inl (jA y5)))] s.heap := hP
  have hl := lv_entry ([.ref ma, .int (jI z1), .int (jI z2)]) (n := 4) (Nat.le_of_ble_eq_true rfl)
  rw [lg_entry_eq]
  generalize (lg_sl ([.ref ma, .int (jI z1), .int (jI z2)]) ++ List.replicate (4 - (lg_sl ([.ref ma, .int (jI z1), .int (jI z2)])).length) Slot.unset).toArray = ls at hl ⊢
  have hl : lv_has ls 4 [(0, .ref ma), (1, .int (jI z1)), (2, .int (jI z2))] := hl
  refine lv_iload_n hx hb dXM_highOf_0 rfl (lv_at hl 1 rfl) ?_
  refine lv_istore_n (lv' := [(3, .int (jI z1)), (0, .ref ma), (1, .int (jI z1)), (2, .int (jI z2))]) hx hb dXM_highOf_1 rfl hl (by decide) rfl (fun ls hl => ?_)
  have loop2 : ∀ (n9 : Nat) (k : Int) , jdp (fun x => f_XM_from mth mn mp mw mu md mo y1 y2 x) 41 k < (n9 : Int) → f_XM_highOfP_L2 mth mn mp mw mu md mo y1 y2 y3 y5 z1 z2 n9 k = f_XM_highOfP mth mn mp mw mu md mo y1 y2 y3 y5 z1 z2 → (0 ≤ k ∧ k ≤ 30) → ∀ ls : Array Slot, lv_has ls 4 [(3, .int (jI k)), (0, .ref ma), (1, .int (jI z1)), (2, .int (jI z2))] → W p l e R s m ([.ref ma, .int (jI z1), .int (jI z2)] : List Value).toArray below meth c s.heap [] 0 0 Q (F0 m 2 ls []) := by
    intro n9
    induction n9 with
    | zero =>
      intro k hm hF hk
      exact absurd hm (by have h8 := jdp_nn (fun x => f_XM_from mth mn mp mw mu md mo y1 y2 x) 41 k; omega)
    | succ n9 ih2 =>
      intro k hm hF hk ls hl
      refine lv_iload_n hx hb dXM_highOf_2 rfl (lv_at hl 0 rfl) ?_
      refine ji_if_le (tgt := 41) hx hb dXM_highOf_3 (by decide) (by omega) (fun c3_ => ?_) (fun c3_ => ?_)
      · refine lv_ldc hx hb hown (hts _ (jmem tw_754)) dXM_highOf_41 ?_
        refine ji_re (y := 100000) (by decide) ?_
        subst hQ
        exact W.iret (v := jI 100000) hx hb hr (fun t ht hW => ⟨_, rfl, congrArg jI (Eq.trans (by rw [f_XM_highOfP_L2_s]; rw [if_neg (Int.not_lt.mpr c3_)]; try rfl) hF), ht⟩) (fun _ h => nomatch h) dXM_highOf_43
      · refine lv_aload_n hx hb dXM_highOf_6 rfl (lv_at hl 1 rfl) ?_
        refine va_get (D := (dC, dI)) (ci := 5) (v := .ref a3) (C := RXM) (T := TXM) (N := 19) hx hb hts (fun w h => jmem (inXM w h)) hown hK hP 0 rfl rfl 7 (by decide) (hts _ (jmem tw_635)) (fun _ h9 => h9) rfl dXM_highOf_7 ?_
        refine ji_bipush hx hb dXM_highOf_10 (by decide) ?_
        refine lv_iload_n hx hb dXM_highOf_12 rfl (lv_at hl 0 rfl) ?_
        refine ji_imul hx hb dXM_highOf_13 ?_
        refine lv_iload_n hx hb dXM_highOf_14 rfl (lv_at hl 3 rfl) ?_
        refine ji_iadd hx hb dXM_highOf_15 ?_
        refine ji_zald hx hb hK hP 3 1 rfl rfl ⟨by omega, by omega⟩ (by decide) dXM_highOf_16 ?_
        have rb := hy3 ((8 * k) + z2)
        refine ji_if_eq (tgt := 32) hx hb dXM_highOf_17 (by decide) (by omega) (fun c17_ => ?_) (fun c17_ => ?_)
        · refine lv_aload_n hx hb dXM_highOf_32 rfl (lv_at hl 1 rfl) ?_
          refine lv_iload_n hx hb dXM_highOf_33 rfl (lv_at hl 0 rfl) ?_
          refine jrVi (rest := []) ⟨hx, hb, hml, hown, hts⟩ (c_XM_from l dC dI cA cZ ma a0 a1 a2 a3 a4 a5 a6 a7 a8 a9 a10 a11 mth mn mp mw mu md mo y1 y2 k (by first | assumption | omega) (by first | assumption | omega) (by first | assumption | omega)) (cwV 1 hts (jG_V tw_779 tw_781 ts_31 tw_6 tw_782) rfl rfl rfl (by decide +kernel) (by rw [hR]; exact ⟨Nat.le_of_ble_eq_true rfl, Nat.le_of_ble_eq_true rfl⟩)) hK hP hN [0, 1, 2] rfl 0 5 rfl rfl rfl rfl hl.1 rfl (Nat.le_of_ble_eq_true rfl) dXM_highOf_34 (by rw [hR]; exact ⟨Nat.le_of_ble_eq_true rfl, Nat.le_of_ble_eq_true rfl⟩) ?_
          have f := f_XM_from_b mth mn mp mw mu md mo y1 y2 k (by first | assumption | omega) (by first | assumption | omega) (by first | assumption | omega)
          refine lv_istore_n (lv' := [(3, .int (jI (f_XM_from mth mn mp mw mu md mo y1 y2 k))), (0, .ref ma), (1, .int (jI z1)), (2, .int (jI z2))]) hx hb dXM_highOf_37 rfl hl (by decide) rfl (fun ls hl => ?_)
          refine lv_goto (tgt := 2) hx hb dXM_highOf_38 (by decide) ?_
          exact ih2 (f_XM_from mth mn mp mw mu md mo y1 y2 k) (by have h8 := from_dec mth mn mp mw mu md mo y1 y2 hy1 hy2 k (by omega); omega) (Eq.trans (by rw [f_XM_highOfP_L2_s]; rw [if_pos c3_, if_pos c17_]; try rfl) hF) (by first | assumption | omega) ls (lv_sub hl [0, 1, 2, 3] rfl)
        · refine lv_aload_n hx hb dXM_highOf_20 rfl (lv_at hl 1 rfl) ?_
          refine va_get (D := (dC, dI)) (ci := 5) (v := .ref a5) (C := RXM) (T := TXM) (N := 19) hx hb hts (fun w h => jmem (inXM w h)) hown hK hP 0 rfl rfl 9 (by decide) (hts _ (jmem tw_637)) (fun _ h9 => h9) rfl dXM_highOf_21 ?_
          refine ji_bipush hx hb dXM_highOf_24 (by decide) ?_
          refine lv_iload_n hx hb dXM_highOf_26 rfl (lv_at hl 0 rfl) ?_
          refine ji_imul hx hb dXM_highOf_27 ?_
          refine lv_iload_n hx hb dXM_highOf_28 rfl (lv_at hl 3 rfl) ?_
          refine ji_iadd hx hb dXM_highOf_29 ?_
          refine ji_iald hx hb hK hP 4 0 rfl rfl ⟨by omega, by omega⟩ (by decide) dXM_highOf_30 ?_
          have rb1 := hy5 ((8 * k) + z2)
          subst hQ
          exact W.iret (v := jI (y5 ((8 * k) + z2))) hx hb hr (fun t ht hW => ⟨_, rfl, congrArg jI (Eq.trans (by rw [f_XM_highOfP_L2_s]; rw [if_pos c3_, if_neg c17_]; try rfl) hF), ht⟩) (fun _ h => nomatch h) dXM_highOf_31
  exact loop2 (Int.toNat (jdp (fun x => f_XM_from mth mn mp mw mu md mo y1 y2 x) 41 z1) + 1) z1 (by omega) (Eq.trans (by rw [f_XM_highOfP_s]; try rfl) rfl) (by first | assumption | omega) ls (lv_sub hl [0, 1, 2, 3] rfl)
noncomputable def g_XM_limitOfP_L2 (mth : Int) (mn : Int) (mp : Int) (mw : Int) (mu : Int) (md : Int) (mo : Int) (y1 : Int → Int) (y2 : Int → Int) (y7 : Int → Int) (z1 : Int) (z2 : Int) : Nat → Int → Int
  | 0, _ => 0
  | n9 + 1, k =>
    if 0 < k then
      if (y7 ((4 * k) + z2)) < 0 then
        g_XM_limitOfP_L2 mth mn mp mw mu md mo y1 y2 y7 z1 z2 n9 (f_XM_from mth mn mp mw mu md mo y1 y2 k)
      else
        y7 ((4 * k) + z2)
    else
      -1
noncomputable def f_XM_limitOfP_L2 : Int → Int → Int → Int → Int → Int → Int → (Int → Int) → (Int → Int) → (Int → Int) → Int → Int → Nat → Int → Int := jopq g_XM_limitOfP_L2
theorem f_XM_limitOfP_L2_q : f_XM_limitOfP_L2 = g_XM_limitOfP_L2 := jopq_eq _
theorem f_XM_limitOfP_L2_s (mth : Int) (mn : Int) (mp : Int) (mw : Int) (mu : Int) (md : Int) (mo : Int) (y1 : Int → Int) (y2 : Int → Int) (y7 : Int → Int) (z1 : Int) (z2 : Int) (n9 : Nat) (k : Int) : f_XM_limitOfP_L2 mth mn mp mw mu md mo y1 y2 y7 z1 z2 (n9 + 1) k = (
    if 0 < k then
      if (y7 ((4 * k) + z2)) < 0 then
        f_XM_limitOfP_L2 mth mn mp mw mu md mo y1 y2 y7 z1 z2 n9 (f_XM_from mth mn mp mw mu md mo y1 y2 k)
      else
        y7 ((4 * k) + z2)
    else
      -1
  : Int) := by rw [f_XM_limitOfP_L2_q]; rfl
theorem f_XM_limitOfP_L2_z (mth : Int) (mn : Int) (mp : Int) (mw : Int) (mu : Int) (md : Int) (mo : Int) (y1 : Int → Int) (y2 : Int → Int) (y7 : Int → Int) (z1 : Int) (z2 : Int) (k : Int) : f_XM_limitOfP_L2 mth mn mp mw mu md mo y1 y2 y7 z1 z2 0 k = 0 := by rw [f_XM_limitOfP_L2_q]; rfl
noncomputable def g_XM_limitOfP (mth : Int) (mn : Int) (mp : Int) (mw : Int) (mu : Int) (md : Int) (mo : Int) (y1 : Int → Int) (y2 : Int → Int) (y7 : Int → Int) (z1 : Int) (z2 : Int) : Int :=
  f_XM_limitOfP_L2 mth mn mp mw mu md mo y1 y2 y7 z1 z2 (Int.toNat (jdp (fun x => f_XM_from mth mn mp mw mu md mo y1 y2 x) 41 z1) + 1) z1
noncomputable def f_XM_limitOfP : Int → Int → Int → Int → Int → Int → Int → (Int → Int) → (Int → Int) → (Int → Int) → Int → Int → Int := jopq g_XM_limitOfP
theorem f_XM_limitOfP_q : f_XM_limitOfP = g_XM_limitOfP := jopq_eq _
theorem f_XM_limitOfP_s (mth : Int) (mn : Int) (mp : Int) (mw : Int) (mu : Int) (md : Int) (mo : Int) (y1 : Int → Int) (y2 : Int → Int) (y7 : Int → Int) (z1 : Int) (z2 : Int) : f_XM_limitOfP mth mn mp mw mu md mo y1 y2 y7 z1 z2 = (
    f_XM_limitOfP_L2 mth mn mp mw mu md mo y1 y2 y7 z1 z2 (Int.toNat (jdp (fun x => f_XM_from mth mn mp mw mu md mo y1 y2 x) 41 z1) + 1) z1
  : Int) := by rw [f_XM_limitOfP_q]; rfl
theorem f_XM_limitOfP_Lb (mth mn mp mw mu md mo : Int) (y1 y2 y7 : Int → Int) (hq : ∀ i, -1 ≤ y7 i ∧ y7 i ≤ 999999) (z1 z2 : Int) : ∀ (n : Nat) (k : Int), -1 ≤ f_XM_limitOfP_L2 mth mn mp mw mu md mo y1 y2 y7 z1 z2 n k ∧ f_XM_limitOfP_L2 mth mn mp mw mu md mo y1 y2 y7 z1 z2 n k ≤ 999999 := by
  intro n
  induction n with
  | zero => intro k; rw [f_XM_limitOfP_L2_z]; decide
  | succ n ih =>
    intro k
    rw [f_XM_limitOfP_L2_s]
    (repeat' split) <;> first | decide | exact hq _ | exact ih _
theorem f_XM_limitOfP_b (mth : Int) (mn : Int) (mp : Int) (mw : Int) (mu : Int) (md : Int) (mo : Int) (y1 : Int → Int) (y2 : Int → Int) (y7 : Int → Int) (z1 : Int) (z2 : Int) (hy1 : ∀ i, 0 ≤ y1 i ∧ y1 i ≤ 1) (hy2 : ∀ i, 0 ≤ y2 i ∧ y2 i ≤ 30) (hy7 : ∀ i, -1 ≤ y7 i ∧ y7 i ≤ 999999) (hz1 : 1 ≤ z1 ∧ z1 ≤ 30) (hz2 : 0 ≤ z2 ∧ z2 ≤ 3) : -1 ≤ (f_XM_limitOfP mth mn mp mw mu md mo y1 y2 y7 z1 z2) ∧ (f_XM_limitOfP mth mn mp mw mu md mo y1 y2 y7 z1 z2) ≤ 999999 := by rw [f_XM_limitOfP_s]; exact f_XM_limitOfP_Lb mth mn mp mw mu md mo y1 y2 y7 hy7 z1 z2 _ _
set_option maxHeartbeats 4000000 in
set_option maxRecDepth 100000 in
theorem c_XM_limitOfP (l : Launch) (dC : Nat → ClassId) (dI : Nat → Nat → Nat) (cA cZ : ClassId) (ma : Nat) (a0 : Nat) (a1 : Nat) (a2 : Nat) (a3 : Nat) (a4 : Nat) (a5 : Nat) (a6 : Nat) (a7 : Nat) (a8 : Nat) (a9 : Nat) (a10 : Nat) (a11 : Nat) (mth : Int) (mn : Int) (mp : Int) (mw : Int) (mu : Int) (md : Int) (mo : Int) (y1 : Int → Int) (y2 : Int → Int) (y7 : Int → Int) (z1 : Int) (z2 : Int) (hy1 : ∀ i, 0 ≤ y1 i ∧ y1 i ≤ 1) (hy2 : ∀ i, 0 ≤ y2 i ∧ y2 i ≤ 30) (hy7 : ∀ i, -1 ≤ y7 i ∧ y7 i ≤ 999999) (hz1 : 1 ≤ z1 ∧ z1 ≤ 30) (hz2 : 0 ≤ z2 ∧ z2 ≤ 3) : Met l yXM_limitOf (Cond.code yXM_limitOf cXM_limitOf 4 (some .int) :: TBL) ({ frames := 4, cells := 0, slots := 0, locals := 87 } : Room) (va_Pc [.ref ma, .int (jI z1), .int (jI z2)] (jB (dC, dI) [(cA, .int), (cZ, .boolean)] [(ma, .inr (5, [.int (jI mth), .int (jI mn), .ref a0, .int (jI mp), .int (jI mw), .ref a1, .ref a2, .ref a3, .ref a4, .ref a5, .ref a6, .ref a7, .ref a8, .ref a9, .ref a10, .long (jL mu), .long (jL md), .int (jI mo), .ref a11])), (a1, .inl (cZ, 62, .inl (jA y1))), (a2, .inl (cA, 62, .inl (jA y2))), (a7, .inl (cA, 248, .inl (jA y7)))])) (vp_Si (fun r => r = jI (f_XM_limitOfP mth mn mp mw mu md mo y1 y2 y7 z1 z2))) 0 0 (fun _ => False) := by
  refine jMet (cc := cXM_limitOf) (maxL := 4) (ret := some .int) (by decide) rfl ?_
  intro p e s m args below meth c s₁ R Q hR hQ B hml hv
  obtain ⟨rfl, hP, hK, hN⟩ := hv
  have hx := B.exec
  have hb := B.bytes
  have hr := B.returns
  have hts := atoms_spec (ws := Cond.code yXM_limitOf cXM_limitOf 4 (some .int) :: TBL) B.pre
  have hown : s.vm.findClass RXM = some m.cls := findClass_of_methodNamed B.named
  have hlocks := B.notSynchronized
  have hP : va_P (dC, dI) vwCl [(ma, .inr (5, [.int (jI mth), .int (jI mn), .ref a0, .int (jI mp), .int (jI mw), .ref a1, .ref a2, .ref a3, .ref a4, .ref a5, .ref a6, .ref a7, .ref a8, .ref a9, .ref a10, .long (jL mu), .long (jL md), .int (jI mo), .ref a11])), (a1, .inl (cZ, 62, .inl (jA y1))), (a2, .inl (cA, 62, .inl (jA y2))), (a7, .inl (cA, 248, .inl (jA y7)))] s.heap := hP
  have hl := lv_entry ([.ref ma, .int (jI z1), .int (jI z2)]) (n := 4) (Nat.le_of_ble_eq_true rfl)
  rw [lg_entry_eq]
  generalize (lg_sl ([.ref ma, .int (jI z1), .int (jI z2)]) ++ List.replicate (4 - (lg_sl ([.ref ma, .int (jI z1), .int (jI z2)])).length) Slot.unset).toArray = ls at hl ⊢
  have hl : lv_has ls 4 [(0, .ref ma), (1, .int (jI z1)), (2, .int (jI z2))] := hl
  refine lv_iload_n hx hb dXM_limitOf_0 rfl (lv_at hl 1 rfl) ?_
  refine lv_istore_n (lv' := [(3, .int (jI z1)), (0, .ref ma), (1, .int (jI z1)), (2, .int (jI z2))]) hx hb dXM_limitOf_1 rfl hl (by decide) rfl (fun ls hl => ?_)
  have loop2 : ∀ (n9 : Nat) (k : Int) , jdp (fun x => f_XM_from mth mn mp mw mu md mo y1 y2 x) 41 k < (n9 : Int) → f_XM_limitOfP_L2 mth mn mp mw mu md mo y1 y2 y7 z1 z2 n9 k = f_XM_limitOfP mth mn mp mw mu md mo y1 y2 y7 z1 z2 → (0 ≤ k ∧ k ≤ 30) → ∀ ls : Array Slot, lv_has ls 4 [(3, .int (jI k)), (0, .ref ma), (1, .int (jI z1)), (2, .int (jI z2))] → W p l e R s m ([.ref ma, .int (jI z1), .int (jI z2)] : List Value).toArray below meth c s.heap [] 0 0 Q (F0 m 2 ls []) := by
    intro n9
    induction n9 with
    | zero =>
      intro k hm hF hk
      exact absurd hm (by have h8 := jdp_nn (fun x => f_XM_from mth mn mp mw mu md mo y1 y2 x) 41 k; omega)
    | succ n9 ih2 =>
      intro k hm hF hk ls hl
      refine lv_iload_n hx hb dXM_limitOf_2 rfl (lv_at hl 0 rfl) ?_
      refine ji_if_le (tgt := 39) hx hb dXM_limitOf_3 (by decide) (by omega) (fun c3_ => ?_) (fun c3_ => ?_)
      · refine ji_iconst hx hb dXM_limitOf_39 ?_
        subst hQ
        exact W.iret (v := jI (-1)) hx hb hr (fun t ht hW => ⟨_, rfl, congrArg jI (Eq.trans (by rw [f_XM_limitOfP_L2_s]; rw [if_neg (Int.not_lt.mpr c3_)]; try rfl) hF), ht⟩) (fun _ h => nomatch h) dXM_limitOf_40
      · refine lv_aload_n hx hb dXM_limitOf_6 rfl (lv_at hl 1 rfl) ?_
        refine va_get (D := (dC, dI)) (ci := 5) (v := .ref a7) (C := RXM) (T := TXM) (N := 19) hx hb hts (fun w h => jmem (inXM w h)) hown hK hP 0 rfl rfl 11 (by decide) (hts _ (jmem tw_639)) (fun _ h9 => h9) rfl dXM_limitOf_7 ?_
        refine ji_iconst hx hb dXM_limitOf_10 ?_
        refine lv_iload_n hx hb dXM_limitOf_11 rfl (lv_at hl 0 rfl) ?_
        refine ji_imul hx hb dXM_limitOf_12 ?_
        refine lv_iload_n hx hb dXM_limitOf_13 rfl (lv_at hl 3 rfl) ?_
        refine ji_iadd hx hb dXM_limitOf_14 ?_
        refine ji_iald hx hb hK hP 3 0 rfl rfl ⟨by omega, by omega⟩ (by decide) dXM_limitOf_15 ?_
        have rb := hy7 ((4 * k) + z2)
        refine ji_if_lt (tgt := 30) hx hb dXM_limitOf_16 (by decide) (by omega) (fun c16_ => ?_) (fun c16_ => ?_)
        · refine lv_aload_n hx hb dXM_limitOf_30 rfl (lv_at hl 1 rfl) ?_
          refine lv_iload_n hx hb dXM_limitOf_31 rfl (lv_at hl 0 rfl) ?_
          refine jrVi (rest := []) ⟨hx, hb, hml, hown, hts⟩ (c_XM_from l dC dI cA cZ ma a0 a1 a2 a3 a4 a5 a6 a7 a8 a9 a10 a11 mth mn mp mw mu md mo y1 y2 k (by first | assumption | omega) (by first | assumption | omega) (by first | assumption | omega)) (cwV 1 hts (jG_V tw_779 tw_781 ts_31 tw_6 tw_782) rfl rfl rfl (by decide +kernel) (by rw [hR]; exact ⟨Nat.le_of_ble_eq_true rfl, Nat.le_of_ble_eq_true rfl⟩)) hK hP hN [0, 1, 2] rfl 0 5 rfl rfl rfl rfl hl.1 rfl (Nat.le_of_ble_eq_true rfl) dXM_limitOf_32 (by rw [hR]; exact ⟨Nat.le_of_ble_eq_true rfl, Nat.le_of_ble_eq_true rfl⟩) ?_
          have f := f_XM_from_b mth mn mp mw mu md mo y1 y2 k (by first | assumption | omega) (by first | assumption | omega) (by first | assumption | omega)
          refine lv_istore_n (lv' := [(3, .int (jI (f_XM_from mth mn mp mw mu md mo y1 y2 k))), (0, .ref ma), (1, .int (jI z1)), (2, .int (jI z2))]) hx hb dXM_limitOf_35 rfl hl (by decide) rfl (fun ls hl => ?_)
          refine lv_goto (tgt := 2) hx hb dXM_limitOf_36 (by decide) ?_
          exact ih2 (f_XM_from mth mn mp mw mu md mo y1 y2 k) (by have h8 := from_dec mth mn mp mw mu md mo y1 y2 hy1 hy2 k (by omega); omega) (Eq.trans (by rw [f_XM_limitOfP_L2_s]; rw [if_pos c3_, if_pos c16_]; try rfl) hF) (by first | assumption | omega) ls (lv_sub hl [0, 1, 2, 3] rfl)
        · refine lv_aload_n hx hb dXM_limitOf_19 rfl (lv_at hl 1 rfl) ?_
          refine va_get (D := (dC, dI)) (ci := 5) (v := .ref a7) (C := RXM) (T := TXM) (N := 19) hx hb hts (fun w h => jmem (inXM w h)) hown hK hP 0 rfl rfl 11 (by decide) (hts _ (jmem tw_639)) (fun _ h9 => h9) rfl dXM_limitOf_20 ?_
          refine ji_iconst hx hb dXM_limitOf_23 ?_
          refine lv_iload_n hx hb dXM_limitOf_24 rfl (lv_at hl 0 rfl) ?_
          refine ji_imul hx hb dXM_limitOf_25 ?_
          refine lv_iload_n hx hb dXM_limitOf_26 rfl (lv_at hl 3 rfl) ?_
          refine ji_iadd hx hb dXM_limitOf_27 ?_
          refine ji_iald hx hb hK hP 3 0 rfl rfl ⟨by omega, by omega⟩ (by decide) dXM_limitOf_28 ?_
          have rb1 := hy7 ((4 * k) + z2)
          subst hQ
          exact W.iret (v := jI (y7 ((4 * k) + z2))) hx hb hr (fun t ht hW => ⟨_, rfl, congrArg jI (Eq.trans (by rw [f_XM_limitOfP_L2_s]; rw [if_pos c3_, if_neg (Int.not_lt.mpr c16_)]; try rfl) hF), ht⟩) (fun _ h => nomatch h) dXM_limitOf_29
  exact loop2 (Int.toNat (jdp (fun x => f_XM_from mth mn mp mw mu md mo y1 y2 x) 41 z1) + 1) z1 (by omega) (Eq.trans (by rw [f_XM_limitOfP_s]; try rfl) rfl) (by first | assumption | omega) ls (lv_sub hl [0, 1, 2, 3] rfl)
