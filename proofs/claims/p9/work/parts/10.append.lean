noncomputable def g_XT_append_L5 (tn : Int) (tp : Int) (tw : Int) (tf : Int → Int) (zb : Int) (zn : Int) : Nat → Int → Int → (Int → Int) → Int × Int × (Int → Int)
  | 0, _, _, _ => (0, 0, fun _ => 0)
  | n9 + 1, k, q, fa =>
    if k < 0 then
      (q, q, fa)
    else
      if q < 400 then
        g_XT_append_L5 tn tp tw tf zb zn n9 (k + (-1)) (q + 1) (jset fa q ((jushr zb (8 * k)) % 256))
      else
        (q, q, fa)
noncomputable def f_XT_append_L5 : Int → Int → Int → (Int → Int) → Int → Int → Nat → Int → Int → (Int → Int) → Int × Int × (Int → Int) := jopq g_XT_append_L5
theorem f_XT_append_L5_q : f_XT_append_L5 = g_XT_append_L5 := jopq_eq _
theorem f_XT_append_L5_s (tn : Int) (tp : Int) (tw : Int) (tf : Int → Int) (zb : Int) (zn : Int) (n9 : Nat) (k : Int) (q : Int) (fa : Int → Int) : f_XT_append_L5 tn tp tw tf zb zn (n9 + 1) k q fa = (
    if k < 0 then
      (q, q, fa)
    else
      if q < 400 then
        f_XT_append_L5 tn tp tw tf zb zn n9 (k + (-1)) (q + 1) (jset fa q ((jushr zb (8 * k)) % 256))
      else
        (q, q, fa)
  : Int × Int × (Int → Int)) := by rw [f_XT_append_L5_q]; rfl
theorem f_XT_append_L5_z (tn : Int) (tp : Int) (tw : Int) (tf : Int → Int) (zb : Int) (zn : Int) (k : Int) (q : Int) (fa : Int → Int) : f_XT_append_L5 tn tp tw tf zb zn 0 k q fa = (0, 0, fun _ => 0) := by rw [f_XT_append_L5_q]; rfl
noncomputable def g_XT_append (tn : Int) (tp : Int) (tw : Int) (tf : Int → Int) (zb : Int) (zn : Int) : Int × Int × (Int → Int) :=
  f_XT_append_L5 tn tp tw tf zb zn (Int.toNat ((zn - 1) + 1) + 1) (zn - 1) tn tf
noncomputable def f_XT_append : Int → Int → Int → (Int → Int) → Int → Int → Int × Int × (Int → Int) := jopq g_XT_append
theorem f_XT_append_q : f_XT_append = g_XT_append := jopq_eq _
theorem f_XT_append_s (tn : Int) (tp : Int) (tw : Int) (tf : Int → Int) (zb : Int) (zn : Int) : f_XT_append tn tp tw tf zb zn = (
    f_XT_append_L5 tn tp tw tf zb zn (Int.toNat ((zn - 1) + 1) + 1) (zn - 1) tn tf
  : Int × Int × (Int → Int)) := by rw [f_XT_append_q]; rfl
theorem f_XT_append_L_b (tn tp tw : Int) (tf : Int → Int) (zb zn : Int) : ∀ (n : Nat) (k q : Int) (fa : Int → Int), k + 1 < (n : Int) → -1 ≤ k → 0 ≤ q → q ≤ 400 → (∀ i, 0 ≤ fa i ∧ fa i < 256) → ((f_XT_append_L5 tn tp tw tf zb zn n k q fa).1 = (f_XT_append_L5 tn tp tw tf zb zn n k q fa).2.1 ∧ 0 ≤ (f_XT_append_L5 tn tp tw tf zb zn n k q fa).2.1 ∧ (f_XT_append_L5 tn tp tw tf zb zn n k q fa).2.1 ≤ 400 ∧ (q + k + 1 ≤ 400 → (f_XT_append_L5 tn tp tw tf zb zn n k q fa).2.1 = q + k + 1)) ∧ ∀ i, 0 ≤ (f_XT_append_L5 tn tp tw tf zb zn n k q fa).2.2 i ∧ (f_XT_append_L5 tn tp tw tf zb zn n k q fa).2.2 i < 256 := by
  intro n
  induction n with
  | zero => intro k q fa h; omega
  | succ n ih =>
    intro k q fa h h1 h2 h3 hf
    rw [f_XT_append_L5_s]
    split
    · exact ⟨by dsimp only; omega, hf⟩
    · split
      · have h9 := ih (k + (-1)) (q + 1) (jset fa q ((jushr zb (8 * k)) % 256)) (by omega) (by omega) (by omega) (by omega) (fun i => by
          unfold jset; split
          · have := Int.emod_nonneg (jushr zb (8 * k)) (show (256 : Int) ≠ 0 by decide)
            have := Int.emod_lt_of_pos (jushr zb (8 * k)) (show (0 : Int) < 256 by decide)
            omega
          · exact hf i)
        exact ⟨by omega, h9.2⟩
      · exact ⟨by dsimp only; omega, hf⟩
theorem f_XT_append_b (tn tp tw : Int) (tf : Int → Int) (zb zn : Int) (hn : 0 ≤ tn ∧ tn ≤ 400) (hf : ∀ i, 0 ≤ tf i ∧ tf i < 256) (hz : 1 ≤ zn ∧ zn ≤ 8) : (f_XT_append tn tp tw tf zb zn).1 = (f_XT_append tn tp tw tf zb zn).2.1 ∧ 0 ≤ (f_XT_append tn tp tw tf zb zn).2.1 ∧ (f_XT_append tn tp tw tf zb zn).2.1 ≤ 400 ∧ (tn + zn ≤ 400 → (f_XT_append tn tp tw tf zb zn).2.1 = tn + zn) := by
  have h := (f_XT_append_L_b tn tp tw tf zb zn (Int.toNat (zn - 1 + 1) + 1) (zn - 1) tn tf (by omega) (by omega) (by omega) (by omega) hf).1
  rw [f_XT_append_s]
  omega
theorem f_XT_append_f (tn tp tw : Int) (tf : Int → Int) (zb zn : Int) (hn : 0 ≤ tn ∧ tn ≤ 400) (hf : ∀ i, 0 ≤ tf i ∧ tf i < 256) (hz : 1 ≤ zn ∧ zn ≤ 8) : ∀ i, 0 ≤ (f_XT_append tn tp tw tf zb zn).2.2 i ∧ (f_XT_append tn tp tw tf zb zn).2.2 i < 256 := by rw [f_XT_append_s]; exact (f_XT_append_L_b tn tp tw tf zb zn (Int.toNat (zn - 1 + 1) + 1) (zn - 1) tn tf (by omega) (by omega) (by omega) (by omega) hf).2
set_option maxHeartbeats 4000000 in
set_option maxRecDepth 100000 in
theorem c_XT_append (l : Launch) (dC : Nat → ClassId) (dI : Nat → Nat → Nat) (cA : ClassId) (sz : Nat) (ta : Nat) (ts : Nat) (tn : Int) (tp : Int) (tw : Int) (tf : Int → Int) (zb : Int) (zn : Int) (hn : 0 ≤ tn ∧ tn ≤ 400) (hf : ∀ i, 0 ≤ tf i ∧ tf i < 256) (hz : 1 ≤ zn ∧ zn ≤ 8) : Met l yXT_append (Cond.code yXT_append cXT_append 5 (some .int) :: TBL) ({ frames := 0, cells := 0, slots := 0, locals := 0 } : Room) (va_Pc [.ref ta, .long (jL zb), .int (jI zn)] (jBw (dC, dI) [(cA, .int)] [(ta, .inr (3, [.ref ts, .int (jI tn), .int (jI tp), .int (jI tw)])), (ts, .inl (cA, 400, .inl (jA tf)))] sz)) (va_Qi (fun (r : Int32) (u : Int × Int × (Int → Int)) => r = jI u.1 ∧ u = f_XT_append tn tp tw tf zb zn) (fun u t => jE (dC, dI) [(cA, .int)] [(ta, .inr (3, [.ref ts, .int (jI tn), .int (jI tp), .int (jI tw)])), (ts, .inl (cA, 400, .inl (jA tf)))] sz [(ta, .inr (3, [.ref ts, .int (jI u.2.1), .int (jI tp), .int (jI tw)])), (ts, .inl (cA, 400, .inl (jA u.2.2)))] t) (va_A [(ta, .inr (3, [.ref ts, .int (jI tn), .int (jI tp), .int (jI tw)])), (ts, .inl (cA, 400, .inl (jA tf)))] sz)) 0 0 (va_A [(ta, .inr (3, [.ref ts, .int (jI tn), .int (jI tp), .int (jI tw)])), (ts, .inl (cA, 400, .inl (jA tf)))] sz) := by
  refine jMet (cc := cXT_append) (maxL := 5) (ret := some .int) (by decide) rfl ?_
  intro p e s m args below meth c s₁ R Q hR hQ B hml hv
  obtain ⟨rfl, hsz, hP, hK, hD0, hN⟩ := hv
  have hx := B.exec
  have hb := B.bytes
  have hr := B.returns
  have hts := atoms_spec (ws := Cond.code yXT_append cXT_append 5 (some .int) :: TBL) B.pre
  have hown : s.vm.findClass RXT = some m.cls := findClass_of_methodNamed B.named
  have hlocks := B.notSynchronized
  subst hsz
  obtain ⟨A, hAe⟩ : ∃ A, A = va_A [(ta, .inr (3, [.ref ts, .int (jI tn), .int (jI tp), .int (jI tw)])), (ts, .inl (cA, 400, .inl (jA tf)))] s.heap.size := ⟨_, rfl⟩
  have hD : va_D A [(ta, .inr (3, [.ref ts, .int (jI tn), .int (jI tp), .int (jI tw)])), (ts, .inl (cA, 400, .inl (jA tf)))] := by rw [hAe]; exact hD0.self
  have hA : ∀ q : Nat, s.heap.size ≤ q → A q := fun q h => by rw [hAe]; exact Or.inr h
  have hS : va_S A s.heap s.heap [] := va_S.rf
  have hP : va_P (dC, dI) vwCl [(ta, .inr (3, [.ref ts, .int (jI tn), .int (jI tp), .int (jI tw)])), (ts, .inl (cA, 400, .inl (jA tf)))] s.heap := hP
  have hl := lv_entry ([.ref ta, .long (jL zb), .int (jI zn)]) (n := 5) (Nat.le_of_ble_eq_true rfl)
  rw [lg_entry_eq]
  generalize (lg_sl ([.ref ta, .long (jL zb), .int (jI zn)]) ++ List.replicate (5 - (lg_sl ([.ref ta, .long (jL zb), .int (jI zn)])).length) Slot.unset).toArray = ls at hl ⊢
  have hl : lv_has ls 5 [(0, .ref ta), (1, .long (jL zb)), (3, .int (jI zn))] := hl
  refine lv_iload_n hx hb dXT_append_0 rfl (lv_at hl 2 rfl) ?_
  refine ji_iconst hx hb dXT_append_1 ?_
  refine ji_isub hx hb dXT_append_2 ?_
  refine lv_istore (lv' := [(4, .int (jI (zn - 1))), (0, .ref ta), (1, .long (jL zb)), (3, .int (jI zn))]) hx hb dXT_append_3 hl (by decide) rfl (fun ls hl => ?_)
  have loop5 : ∀ (n9 : Nat) (k : Int) (q : Int) (fa : Int → Int) , k + 1 < (n9 : Int) → f_XT_append_L5 tn tp tw tf zb zn n9 k q fa = f_XT_append tn tp tw tf zb zn → (-1 ≤ k ∧ k ≤ 7) → (0 ≤ q ∧ q ≤ 400) → ∀ (H : Heap) (locs : List Loc), va_P (dC, dI) vwCl [(ta, .inr (3, [.ref ts, .int (jI q), .int (jI tp), .int (jI tw)])), (ts, .inl (cA, 400, .inl (jA fa)))] H → va_D A [(ta, .inr (3, [.ref ts, .int (jI q), .int (jI tp), .int (jI tw)])), (ts, .inl (cA, 400, .inl (jA fa)))] → va_S A s.heap H locs → ∀ ls : Array Slot, lv_has ls 5 [(4, .int (jI k)), (0, .ref ta), (1, .long (jL zb)), (3, .int (jI zn))] → W p l e R s m ([.ref ta, .long (jL zb), .int (jI zn)] : List Value).toArray below meth c H locs 0 0 Q (F0 m 5 ls []) := by
    intro n9
    induction n9 with
    | zero =>
      intro k q fa hm hF hk hq
      exact absurd hm (by omega)
    | succ n9 ih5 =>
      intro k q fa hm hF hk hq H locs hP hD hS ls hl
      refine lv_iload hx hb dXT_append_5 (lv_at hl 0 rfl) ?_
      refine ji_if_lt (tgt := 57) hx hb dXT_append_7 (by decide) (by omega) (fun c7_ => ?_) (fun c7_ => ?_)
      · refine lv_aload_n hx hb dXT_append_57 rfl (lv_at hl 1 rfl) ?_
        refine va_get (D := (dC, dI)) (ci := 3) (v := .int (jI q)) (C := RXT) (T := TXT) (N := 4) hx hb hts (fun w h => jmem (inXT w h)) hown hK hP 0 rfl rfl 1 (by decide) (hts _ (jmem tw_31)) (fun _ h9 => h9) rfl dXT_append_58 ?_
        have hP9 := hP.sub (ws' := [(ta, .inr (3, [.ref ts, .int (jI q), .int (jI tp), .int (jI tw)])), (ts, .inl (cA, 400, .inl (jA fa)))]) [0, 1] rfl
        have hD9 := hD.sub (ws' := [(ta, .inr (3, [.ref ts, .int (jI q), .int (jI tp), .int (jI tw)])), (ts, .inl (cA, 400, .inl (jA fa)))]) [0, 1] (by decide) rfl
        subst hAe
        subst hQ
        exact W.iret (v := jI q) hx hb hr (fun t ht hW => ⟨⟨_, (q, q, fa), rfl, ⟨rfl, Eq.trans (by rw [f_XT_append_L5_s]; rw [if_pos c7_]; try rfl) hF⟩, ⟨by rw [ht]; exact hP9, va_K.moved hW.alike hK, hD9⟩⟩, hS.F ht⟩) hS.2.2 dXT_append_61
      · refine lv_aload_n hx hb dXT_append_10 rfl (lv_at hl 1 rfl) ?_
        refine va_get (D := (dC, dI)) (ci := 3) (v := .int (jI q)) (C := RXT) (T := TXT) (N := 4) hx hb hts (fun w h => jmem (inXT w h)) hown hK hP 0 rfl rfl 1 (by decide) (hts _ (jmem tw_31)) (fun _ h9 => h9) rfl dXT_append_11 ?_
        refine ji_sipush hx hb dXT_append_14 (by decide) ?_
        refine ji_icmp_ge (tgt := 57) hx hb dXT_append_17 (by decide) (by omega) (by omega) (fun c17_ => ?_) (fun c17_ => ?_)
        · refine lv_aload_n hx hb dXT_append_57 rfl (lv_at hl 1 rfl) ?_
          refine va_get (D := (dC, dI)) (ci := 3) (v := .int (jI q)) (C := RXT) (T := TXT) (N := 4) hx hb hts (fun w h => jmem (inXT w h)) hown hK hP 0 rfl rfl 1 (by decide) (hts _ (jmem tw_31)) (fun _ h9 => h9) rfl dXT_append_58 ?_
          have hP9 := hP.sub (ws' := [(ta, .inr (3, [.ref ts, .int (jI q), .int (jI tp), .int (jI tw)])), (ts, .inl (cA, 400, .inl (jA fa)))]) [0, 1] rfl
          have hD9 := hD.sub (ws' := [(ta, .inr (3, [.ref ts, .int (jI q), .int (jI tp), .int (jI tw)])), (ts, .inl (cA, 400, .inl (jA fa)))]) [0, 1] (by decide) rfl
          subst hAe
          subst hQ
          exact W.iret (v := jI q) hx hb hr (fun t ht hW => ⟨⟨_, (q, q, fa), rfl, ⟨rfl, Eq.trans (by rw [f_XT_append_L5_s]; rw [if_neg (Int.not_lt.mpr c7_), if_neg (Int.not_lt.mpr c17_)]; try rfl) hF⟩, ⟨by rw [ht]; exact hP9, va_K.moved hW.alike hK, hD9⟩⟩, hS.F ht⟩) hS.2.2 dXT_append_61
        · refine lv_aload_n hx hb dXT_append_20 rfl (lv_at hl 1 rfl) ?_
          refine va_get (D := (dC, dI)) (ci := 3) (v := .ref ts) (C := RXT) (T := TXT) (N := 4) hx hb hts (fun w h => jmem (inXT w h)) hown hK hP 0 rfl rfl 0 (by decide) (hts _ (jmem tw_30)) (fun _ h9 => h9) rfl dXT_append_21 ?_
          refine lv_aload_n hx hb dXT_append_24 rfl (lv_at hl 1 rfl) ?_
          refine va_get (D := (dC, dI)) (ci := 3) (v := .int (jI q)) (C := RXT) (T := TXT) (N := 4) hx hb hts (fun w h => jmem (inXT w h)) hown hK hP 0 rfl rfl 1 (by decide) (hts _ (jmem tw_31)) (fun _ h9 => h9) rfl dXT_append_25 ?_
          refine lv_lload_n hx hb dXT_append_28 rfl (lv_at hl 2 rfl) ?_
          refine ji_bipush hx hb dXT_append_29 (by decide) ?_
          refine lv_iload hx hb dXT_append_31 (lv_at hl 0 rfl) ?_
          refine ji_imul hx hb dXT_append_33 ?_
          refine ji_lushr hx hb dXT_append_34 (by omega) ?_
          refine lv_ldc2 hx hb hown (hts _ (jmem tw_403)) dXT_append_35 ?_
          refine ji_rel (y := 255) (by decide) ?_
          refine ji_land255 hx hb dXT_append_38 ?_
          refine ji_l2i hx hb dXT_append_39 ?_
          refine ji_iast hx hb hK hP hD hS 1 0 rfl rfl ⟨by omega, by omega⟩ (by decide) dXT_append_40 (fun H locs hP hD hS => ?_)
          have hP : va_P (dC, dI) vwCl [(ta, .inr (3, [.ref ts, .int (jI q), .int (jI tp), .int (jI tw)])), (ts, .inl (cA, 400, .inl (jA (jset fa q ((jushr zb (8 * k)) % 256)))))] H := hP
          have hD : va_D A [(ta, .inr (3, [.ref ts, .int (jI q), .int (jI tp), .int (jI tw)])), (ts, .inl (cA, 400, .inl (jA (jset fa q ((jushr zb (8 * k)) % 256)))))] := hD
          refine lv_aload_n hx hb dXT_append_41 rfl (lv_at hl 1 rfl) ?_
          refine lv_dup hx hb dXT_append_42 rfl ?_
          refine va_get (D := (dC, dI)) (ci := 3) (v := .int (jI q)) (C := RXT) (T := TXT) (N := 4) hx hb hts (fun w h => jmem (inXT w h)) hown hK hP 0 rfl rfl 1 (by decide) (hts _ (jmem tw_31)) (fun _ h9 => h9) rfl dXT_append_43 ?_
          refine ji_iconst hx hb dXT_append_46 ?_
          refine ji_iadd hx hb dXT_append_47 ?_
          refine va_put (D := (dC, dI)) (ci := 3) (v := .int (jI (q + 1))) (ty := (.int)) (C := RXT) (T := TXT) (N := 4) hx hb hts (fun w h => jmem (inXT w h)) tyXT tyXT_ok nXT hown hK hP hD hS 0 rfl rfl 1 (by decide) (hts _ (jmem tw_31)) (fun _ h9 => h9) rfl (by decide +kernel) rfl rfl (Nat.le_of_ble_eq_true rfl) dXT_append_48 (fun H locs hP hD hS => ?_)
          have hP : va_P (dC, dI) vwCl [(ta, .inr (3, [.ref ts, .int (jI (q + 1)), .int (jI tp), .int (jI tw)])), (ts, .inl (cA, 400, .inl (jA (jset fa q ((jushr zb (8 * k)) % 256)))))] H := hP
          have hD : va_D A [(ta, .inr (3, [.ref ts, .int (jI (q + 1)), .int (jI tp), .int (jI tw)])), (ts, .inl (cA, 400, .inl (jA (jset fa q ((jushr zb (8 * k)) % 256)))))] := hD
          refine ji_iinc (k := 0) (lv' := [(4, .int (jI (k + (-1)))), (0, .ref ta), (1, .long (jL zb)), (3, .int (jI zn))]) hx hb dXT_append_51 hl rfl (by decide) rfl (fun ls hl => ?_)
          refine lv_goto (tgt := 5) hx hb dXT_append_54 (by decide) ?_
          exact ih5 (k + (-1)) (q + 1) (jset fa q ((jushr zb (8 * k)) % 256)) (by omega) (Eq.trans (by rw [f_XT_append_L5_s]; rw [if_neg (Int.not_lt.mpr c7_), if_pos c17_]; try rfl) hF) (by first | assumption | omega) (by first | assumption | omega) _ _ hP hD hS ls (lv_sub hl [0, 1, 2, 3] rfl)
  exact loop5 (Int.toNat ((zn - 1) + 1) + 1) (zn - 1) tn tf (by omega) (Eq.trans (by rw [f_XT_append_s]; try rfl) rfl) (by first | assumption | omega) (by first | assumption | omega) _ _ hP hD hS ls (lv_sub hl [0, 1, 2, 3] rfl)
