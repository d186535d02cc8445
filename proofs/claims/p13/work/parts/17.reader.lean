section
noncomputable def g_XR_parent (tn : Int) (tp : Int) (tw : Int) (tf : Int → Int) (bg : Int) (bf : Int) (ft : Int → Int) (zg : Int) : Int × Int × Int × (Int → Int) :=
  match f_XT_skipIf tn tp tw tf 60 with
  | (r, tp1') =>
    if r = 0 then
      (1, tp1', tw, ft)
    else
      match f_XT_number tn tp1' tw tf 1 30 with
      | (r1, tp1'2, tw1') =>
        if r1 = (-1) then
          (0, tp1'2, tw1', ft)
        else
          (1, tp1'2, tw1', f_XB_tellParent bg bf ft zg r1)
noncomputable def f_XR_parent : Int → Int → Int → (Int → Int) → Int → Int → (Int → Int) → Int → Int × Int × Int × (Int → Int) := jopq g_XR_parent
theorem f_XR_parent_q : f_XR_parent = g_XR_parent := jopq_eq _
theorem f_XR_parent_s (tn : Int) (tp : Int) (tw : Int) (tf : Int → Int) (bg : Int) (bf : Int) (ft : Int → Int) (zg : Int) : f_XR_parent tn tp tw tf bg bf ft zg = (
    match f_XT_skipIf tn tp tw tf 60 with
    | (r, tp1') =>
      if r = 0 then
        (1, tp1', tw, ft)
      else
        match f_XT_number tn tp1' tw tf 1 30 with
        | (r1, tp1'2, tw1') =>
          if r1 = (-1) then
            (0, tp1'2, tw1', ft)
          else
            (1, tp1'2, tw1', f_XB_tellParent bg bf ft zg r1)
  : Int × Int × Int × (Int → Int)) := by rw [f_XR_parent_q]; rfl
set_option maxHeartbeats 4000000 in
set_option maxRecDepth 100000 in
theorem c_XR_parent (l : Launch) (dC : Nat → ClassId) (dI : Nat → Nat → Nat) (cA : ClassId) (sz : Nat) (rda : Nat) (ta : Nat) (ts : Nat) (tn : Int) (tp : Int) (tw : Int) (tf : Int → Int) (ba : Nat) (bt : Nat) (bp : Nat) (bl : Nat) (bh : Nat) (bq : Nat) (br : Nat) (bd : Nat) (bg : Int) (bf : Int) (ft : Int → Int) (zg : Int) (hn : 0 ≤ tn ∧ tn ≤ 400) (hp : 0 ≤ tp ∧ tp ≤ tn) (hf : ∀ i, 0 ≤ tf i ∧ tf i < 256) (hbt : ∀ i, 0 ≤ ft i ∧ ft i ≤ 30) (hzg : 0 ≤ zg ∧ zg ≤ 30) : Met l yXR_parent (Cond.code yXR_parent cXR_parent 4 (some .boolean) :: TBL) ({ frames := 2, cells := 0, slots := 0, locals := 44 } : Room) (va_Pc [.ref rda, .ref ba, .int (jI zg)] (jBw (dC, dI) [(cA, .int)] [(rda, .inr (2, [.ref ta])), (ta, .inr (3, [.ref ts, .int (jI tn), .int (jI tp), .int (jI tw)])), (ts, .inl (cA, 400, .inl (jA tf))), (ba, .inr (0, [.ref bt, .ref bp, .ref bl, .ref bh, .ref bq, .ref br, .ref bd, .int (jI bg), .int (jI bf)])), (bt, .inl (cA, 31, .inl (jA ft)))] sz)) (va_Qi (fun (r : Int32) (u : Int × Int × Int × (Int → Int)) => r = jI u.1 ∧ u = f_XR_parent tn tp tw tf bg bf ft zg ∧ (0 ≤ u.1 ∧ u.1 ≤ 1) ∧ (0 ≤ u.2.1 ∧ u.2.1 ≤ tn) ∧ (∀ i, 0 ≤ u.2.2.2 i ∧ u.2.2.2 i ≤ 30)) (fun u t => jE (dC, dI) [(cA, .int)] [(rda, .inr (2, [.ref ta])), (ta, .inr (3, [.ref ts, .int (jI tn), .int (jI tp), .int (jI tw)])), (ts, .inl (cA, 400, .inl (jA tf))), (ba, .inr (0, [.ref bt, .ref bp, .ref bl, .ref bh, .ref bq, .ref br, .ref bd, .int (jI bg), .int (jI bf)])), (bt, .inl (cA, 31, .inl (jA ft)))] sz [(rda, .inr (2, [.ref ta])), (ta, .inr (3, [.ref ts, .int (jI tn), .int (jI u.2.1), .int (jI u.2.2.1)])), (ts, .inl (cA, 400, .inl (jA tf))), (ba, .inr (0, [.ref bt, .ref bp, .ref bl, .ref bh, .ref bq, .ref br, .ref bd, .int (jI bg), .int (jI bf)])), (bt, .inl (cA, 31, .inl (jA u.2.2.2)))] t) (va_A [(rda, .inr (2, [.ref ta])), (ta, .inr (3, [.ref ts, .int (jI tn), .int (jI tp), .int (jI tw)])), (ts, .inl (cA, 400, .inl (jA tf))), (ba, .inr (0, [.ref bt, .ref bp, .ref bl, .ref bh, .ref bq, .ref br, .ref bd, .int (jI bg), .int (jI bf)])), (bt, .inl (cA, 31, .inl (jA ft)))] sz)) 0 0 (va_A [(rda, .inr (2, [.ref ta])), (ta, .inr (3, [.ref ts, .int (jI tn), .int (jI tp), .int (jI tw)])), (ts, .inl (cA, 400, .inl (jA tf))), (ba, .inr (0, [.ref bt, .ref bp, .ref bl, .ref bh, .ref bq, .ref br, .ref bd, .int (jI bg), .int (jI bf)])), (bt, .inl (cA, 31, .inl (jA ft)))] sz) := by
  refine jMet (cc := cXR_parent) (maxL := 4) (ret := some .boolean) (by decide) rfl ?_
  intro p e s m args below meth c s₁ R Q hR hQ B hml hv
  obtain ⟨rfl, hsz, hP, hK, hD0, hN⟩ := hv
  have hx := B.exec
  have hb := B.bytes
  have hr := B.returns
  have hts := atoms_spec (ws := Cond.code yXR_parent cXR_parent 4 (some .boolean) :: TBL) B.pre
  have hown : s.vm.findClass RXR = some m.cls := findClass_of_methodNamed B.named
  have hlocks := B.notSynchronized
  subst hsz
  obtain ⟨A, hAe⟩ : ∃ A, A = va_A [(rda, .inr (2, [.ref ta])), (ta, .inr (3, [.ref ts, .int (jI tn), .int (jI tp), .int (jI tw)])), (ts, .inl (cA, 400, .inl (jA tf))), (ba, .inr (0, [.ref bt, .ref bp, .ref bl, .ref bh, .ref bq, .ref br, .ref bd, .int (jI bg), .int (jI bf)])), (bt, .inl (cA, 31, .inl (jA ft)))] s.heap.size := ⟨_, rfl⟩
  have hD : va_D A [(rda, .inr (2, [.ref ta])), (ta, .inr (3, [.ref ts, .int (jI tn), .int (jI tp), .int (jI tw)])), (ts, .inl (cA, 400, .inl (jA tf))), (ba, .inr (0, [.ref bt, .ref bp, .ref bl, .ref bh, .ref bq, .ref br, .ref bd, .int (jI bg), .int (jI bf)])), (bt, .inl (cA, 31, .inl (jA ft)))] := by rw [hAe]; exact hD0.self
  have hA : ∀ q : Nat, s.heap.size ≤ q → A q := fun q h => by rw [hAe]; exact Or.inr h
  have hS : va_S A s.heap s.heap [] := va_S.rf
  have hP : va_P (dC, dI) vwCl [(rda, .inr (2, [.ref ta])), (ta, .inr (3, [.ref ts, .int (jI tn), .int (jI tp), .int (jI tw)])), (ts, .inl (cA, 400, .inl (jA tf))), (ba, .inr (0, [.ref bt, .ref bp, .ref bl, .ref bh, .ref bq, .ref br, .ref bd, .int (jI bg), .int (jI bf)])), (bt, .inl (cA, 31, .inl (jA ft)))] s.heap := hP
  have hl := lv_entry ([.ref rda, .ref ba, .int (jI zg)]) (n := 4) (Nat.le_of_ble_eq_true rfl)
  rw [lg_entry_eq]
  generalize (lg_sl ([.ref rda, .ref ba, .int (jI zg)]) ++ List.replicate (4 - (lg_sl ([.ref rda, .ref ba, .int (jI zg)])).length) Slot.unset).toArray = ls at hl ⊢
  have hl : lv_has ls 4 [(0, .ref rda), (1, .ref ba), (2, .int (jI zg))] := hl
  refine lv_aload_n hx hb dXR_parent_0 rfl (lv_at hl 0 rfl) ?_
  refine va_get (D := (dC, dI)) (ci := 2) (v := .ref ta) (C := RXR) (T := TXR) (N := 1) hx hb hts (fun w h => jmem (inXR w h)) hown hK hP 0 rfl rfl 0 (by decide) (hts _ (jmem tw_50)) (fun _ h9 => h9) rfl dXR_parent_1 ?_
  refine ji_bipush hx hb dXR_parent_4 (by decide) ?_
  refine jwVi (rest := []) (wr := [(rda, .inr (2, [.ref ta])), (ba, .inr (0, [.ref bt, .ref bp, .ref bl, .ref bh, .ref bq, .ref br, .ref bd, .int (jI bg), .int (jI bf)])), (bt, .inl (cA, 31, .inl (jA ft)))]) ⟨hx, hb, hml, hown, hts⟩ (c_XT_skipIf l dC dI cA _ ta ts tn tp tw tf 60 (by first | assumption | omega) (by first | assumption | omega) (by first | assumption | omega) (by first | assumption | omega) (by first | assumption | omega)) (cwV 1 hts (jG_V tw_150 tw_151 tw_152 tw_2 tw_153) rfl rfl rfl (by decide +kernel) (by rw [hR]; exact ⟨Nat.le_of_ble_eq_true rfl, Nat.le_of_ble_eq_true rfl⟩)) hK hP hD hS hA hN [1, 2] [0, 3, 4] rfl rfl (by decide) (by decide) (by decide) 1 3 rfl rfl rfl rfl hl.1 rfl (Nat.le_of_ble_eq_true rfl) dXR_parent_6 (by rw [hR]; exact ⟨Nat.le_of_ble_eq_true rfl, Nat.le_of_ble_eq_true rfl⟩) (fun v u H locs hwb hP hD hS => ?_)
  obtain ⟨r, tp1'⟩ := u
  try dsimp only at hwb
  obtain ⟨er, hwb⟩ := hwb
  subst er
  have hP : va_P (dC, dI) vwCl [(rda, .inr (2, [.ref ta])), (ba, .inr (0, [.ref bt, .ref bp, .ref bl, .ref bh, .ref bq, .ref br, .ref bd, .int (jI bg), .int (jI bf)])), (bt, .inl (cA, 31, .inl (jA ft))), (ta, .inr (3, [.ref ts, .int (jI tn), .int (jI tp1'), .int (jI tw)])), (ts, .inl (cA, 400, .inl (jA tf)))] H := hP
  have hD : va_D A [(rda, .inr (2, [.ref ta])), (ba, .inr (0, [.ref bt, .ref bp, .ref bl, .ref bh, .ref bq, .ref br, .ref bd, .int (jI bg), .int (jI bf)])), (bt, .inl (cA, 31, .inl (jA ft))), (ta, .inr (3, [.ref ts, .int (jI tn), .int (jI tp1'), .int (jI tw)])), (ts, .inl (cA, 400, .inl (jA tf)))] := hD
  have f := f_XT_skipIf_b tn tp tw tf 60 (by first | assumption | omega) (by first | assumption | omega) (by first | assumption | omega) (by first | assumption | omega) (by first | assumption | omega)
  rw [← hwb] at f; try dsimp only at f
  refine ji_if_ne (tgt := 14) hx hb dXR_parent_9 (by decide) (by omega) (fun c9_ => ?_) (fun c9_ => ?_)
  · refine lv_aload_n hx hb dXR_parent_14 rfl (lv_at hl 0 rfl) ?_
    refine va_get (D := (dC, dI)) (ci := 2) (v := .ref ta) (C := RXR) (T := TXR) (N := 1) hx hb hts (fun w h => jmem (inXR w h)) hown hK hP 0 rfl rfl 0 (by decide) (hts _ (jmem tw_50)) (fun _ h9 => h9) rfl dXR_parent_15 ?_
    refine ji_iconst hx hb dXR_parent_18 ?_
    refine ji_bipush hx hb dXR_parent_19 (by decide) ?_
    refine jwVi (rest := []) (wr := [(rda, .inr (2, [.ref ta])), (ba, .inr (0, [.ref bt, .ref bp, .ref bl, .ref bh, .ref bq, .ref br, .ref bd, .int (jI bg), .int (jI bf)])), (bt, .inl (cA, 31, .inl (jA ft)))]) ⟨hx, hb, hml, hown, hts⟩ (c_XT_number l dC dI cA _ ta ts tn tp1' tw tf 1 30 (by first | assumption | omega) (by first | assumption | omega) (by first | assumption | omega) (by first | assumption | omega) (by first | assumption | omega)) (cwV 2 hts (jG_V tw_194 tw_195 tw_196 tw_2 tw_197) rfl rfl rfl (by decide +kernel) (by rw [hR]; exact ⟨Nat.le_of_ble_eq_true rfl, Nat.le_of_ble_eq_true rfl⟩)) hK hP hD hS hA hN [3, 4] [0, 1, 2] rfl rfl (by decide) (by decide) (by decide) 3 3 rfl rfl rfl rfl hl.1 rfl (Nat.le_of_ble_eq_true rfl) dXR_parent_21 (by rw [hR]; exact ⟨Nat.le_of_ble_eq_true rfl, Nat.le_of_ble_eq_true rfl⟩) (fun v4 u3 H locs hwb5 hP hD hS => ?_)
    obtain ⟨r1, tp1'2, tw1'⟩ := u3
    try dsimp only at hwb5
    obtain ⟨er, hwb5⟩ := hwb5
    subst er
    have hP : va_P (dC, dI) vwCl [(rda, .inr (2, [.ref ta])), (ba, .inr (0, [.ref bt, .ref bp, .ref bl, .ref bh, .ref bq, .ref br, .ref bd, .int (jI bg), .int (jI bf)])), (bt, .inl (cA, 31, .inl (jA ft))), (ta, .inr (3, [.ref ts, .int (jI tn), .int (jI tp1'2), .int (jI tw1')])), (ts, .inl (cA, 400, .inl (jA tf)))] H := hP
    have hD : va_D A [(rda, .inr (2, [.ref ta])), (ba, .inr (0, [.ref bt, .ref bp, .ref bl, .ref bh, .ref bq, .ref br, .ref bd, .int (jI bg), .int (jI bf)])), (bt, .inl (cA, 31, .inl (jA ft))), (ta, .inr (3, [.ref ts, .int (jI tn), .int (jI tp1'2), .int (jI tw1')])), (ts, .inl (cA, 400, .inl (jA tf)))] := hD
    have f6 := f_XT_number_b tn tp1' tw tf 1 30 (by first | assumption | omega) (by first | assumption | omega) (by first | assumption | omega) (by first | assumption | omega) (by first | assumption | omega)
    rw [← hwb5] at f6; try dsimp only at f6
    refine lv_istore_n (lv' := [(3, .int (jI r1)), (0, .ref rda), (1, .ref ba), (2, .int (jI zg))]) hx hb dXR_parent_24 rfl hl (by decide) rfl (fun ls hl => ?_)
    refine lv_iload_n hx hb dXR_parent_25 rfl (lv_at hl 0 rfl) ?_
    refine ji_iconst hx hb dXR_parent_26 ?_
    refine ji_icmp_ne (tgt := 32) hx hb dXR_parent_27 (by decide) (by omega) (by omega) (fun c27_ => ?_) (fun c27_ => ?_)
    · refine lv_aload_n hx hb dXR_parent_32 rfl (lv_at hl 2 rfl) ?_
      refine lv_iload_n hx hb dXR_parent_33 rfl (lv_at hl 3 rfl) ?_
      refine lv_iload_n hx hb dXR_parent_34 rfl (lv_at hl 0 rfl) ?_
      refine jwVv (rest := []) (wr := [(rda, .inr (2, [.ref ta])), (ta, .inr (3, [.ref ts, .int (jI tn), .int (jI tp1'2), .int (jI tw1')])), (ts, .inl (cA, 400, .inl (jA tf)))]) ⟨hx, hb, hml, hown, hts⟩ (c_XB_tellParent l dC dI cA _ ba bt bp bl bh bq br bd bg bf ft zg r1 (by first | assumption | omega) (by first | assumption | omega) (by first | assumption | omega)) (cwV 2 hts (jG_V tw_227 tw_228 tw_229 tw_5 tw_230) rfl rfl rfl (by decide +kernel) (by rw [hR]; exact ⟨Nat.le_of_ble_eq_true rfl, Nat.le_of_ble_eq_true rfl⟩)) hK hP hD hS hA hN [1, 2] [0, 3, 4] rfl rfl (by decide) (by decide) (by decide) 1 0 rfl rfl rfl rfl hl.1 rfl (Nat.le_of_ble_eq_true rfl) dXR_parent_35 (by rw [hR]; exact ⟨Nat.le_of_ble_eq_true rfl, Nat.le_of_ble_eq_true rfl⟩) (fun u7 H locs hw hP hD hS => ?_)
      subst hw
      have hP : va_P (dC, dI) vwCl [(rda, .inr (2, [.ref ta])), (ta, .inr (3, [.ref ts, .int (jI tn), .int (jI tp1'2), .int (jI tw1')])), (ts, .inl (cA, 400, .inl (jA tf))), (ba, .inr (0, [.ref bt, .ref bp, .ref bl, .ref bh, .ref bq, .ref br, .ref bd, .int (jI bg), .int (jI bf)])), (bt, .inl (cA, 31, .inl (jA (f_XB_tellParent bg bf ft zg r1))))] H := hP
      have hD : va_D A [(rda, .inr (2, [.ref ta])), (ta, .inr (3, [.ref ts, .int (jI tn), .int (jI tp1'2), .int (jI tw1')])), (ts, .inl (cA, 400, .inl (jA tf))), (ba, .inr (0, [.ref bt, .ref bp, .ref bl, .ref bh, .ref bq, .ref br, .ref bd, .int (jI bg), .int (jI bf)])), (bt, .inl (cA, 31, .inl (jA (f_XB_tellParent bg bf ft zg r1))))] := hD
      have f8 := f_XB_tellParent_b bg bf ft zg r1 (by first | assumption | omega) (by first | assumption | omega) (by first | assumption | omega)
      refine ji_iconst hx hb dXR_parent_38 ?_
      have hP9 := hP.sub (ws' := [(rda, .inr (2, [.ref ta])), (ta, .inr (3, [.ref ts, .int (jI tn), .int (jI tp1'2), .int (jI tw1')])), (ts, .inl (cA, 400, .inl (jA tf))), (ba, .inr (0, [.ref bt, .ref bp, .ref bl, .ref bh, .ref bq, .ref br, .ref bd, .int (jI bg), .int (jI bf)])), (bt, .inl (cA, 31, .inl (jA (f_XB_tellParent bg bf ft zg r1))))]) [0, 1, 2, 3, 4] rfl
      have hD9 := hD.sub (ws' := [(rda, .inr (2, [.ref ta])), (ta, .inr (3, [.ref ts, .int (jI tn), .int (jI tp1'2), .int (jI tw1')])), (ts, .inl (cA, 400, .inl (jA tf))), (ba, .inr (0, [.ref bt, .ref bp, .ref bl, .ref bh, .ref bq, .ref br, .ref bd, .int (jI bg), .int (jI bf)])), (bt, .inl (cA, 31, .inl (jA (f_XB_tellParent bg bf ft zg r1))))]) [0, 1, 2, 3, 4] (by decide) rfl
      subst hAe
      subst hQ
      exact W.zret (v := jI 1) hx hb hr (by first | decide | exact jz (by omega)) (fun t ht hW => ⟨⟨_, (1, tp1'2, tw1', f_XB_tellParent bg bf ft zg r1), rfl, ⟨rfl, Eq.trans (by rw [f_XR_parent_s]; rw [← hwb]; try dsimp only; rw [if_neg c9_]; rw [← hwb5]; try dsimp only; rw [if_neg c27_]; try rfl) rfl, show 0 ≤ 1 ∧ 1 ≤ 1 from by first | assumption | omega, show 0 ≤ tp1'2 ∧ tp1'2 ≤ tn from by first | assumption | omega, show ∀ i, 0 ≤ (f_XB_tellParent bg bf ft zg r1) i ∧ (f_XB_tellParent bg bf ft zg r1) i ≤ 30 from by first | assumption | omega⟩, ⟨by rw [ht]; exact hP9, va_K.moved hW.alike hK, hD9⟩⟩, hS.F ht⟩) hS.2.2 dXR_parent_39
    · refine ji_iconst hx hb dXR_parent_30 ?_
      have hP9 := hP.sub (ws' := [(rda, .inr (2, [.ref ta])), (ta, .inr (3, [.ref ts, .int (jI tn), .int (jI tp1'2), .int (jI tw1')])), (ts, .inl (cA, 400, .inl (jA tf))), (ba, .inr (0, [.ref bt, .ref bp, .ref bl, .ref bh, .ref bq, .ref br, .ref bd, .int (jI bg), .int (jI bf)])), (bt, .inl (cA, 31, .inl (jA ft)))]) [0, 3, 4, 1, 2] rfl
      have hD9 := hD.sub (ws' := [(rda, .inr (2, [.ref ta])), (ta, .inr (3, [.ref ts, .int (jI tn), .int (jI tp1'2), .int (jI tw1')])), (ts, .inl (cA, 400, .inl (jA tf))), (ba, .inr (0, [.ref bt, .ref bp, .ref bl, .ref bh, .ref bq, .ref br, .ref bd, .int (jI bg), .int (jI bf)])), (bt, .inl (cA, 31, .inl (jA ft)))]) [0, 3, 4, 1, 2] (by decide) rfl
      subst hAe
      subst hQ
      exact W.zret (v := jI 0) hx hb hr (by first | decide | exact jz (by omega)) (fun t ht hW => ⟨⟨_, (0, tp1'2, tw1', ft), rfl, ⟨rfl, Eq.trans (by rw [f_XR_parent_s]; rw [← hwb]; try dsimp only; rw [if_neg c9_]; rw [← hwb5]; try dsimp only; rw [if_pos c27_]; try rfl) rfl, show 0 ≤ 0 ∧ 0 ≤ 1 from by first | assumption | omega, show 0 ≤ tp1'2 ∧ tp1'2 ≤ tn from by first | assumption | omega, show ∀ i, 0 ≤ ft i ∧ ft i ≤ 30 from by first | assumption | omega⟩, ⟨by rw [ht]; exact hP9, va_K.moved hW.alike hK, hD9⟩⟩, hS.F ht⟩) hS.2.2 dXR_parent_31
  · refine ji_iconst hx hb dXR_parent_12 ?_
    have hP9 := hP.sub (ws' := [(rda, .inr (2, [.ref ta])), (ta, .inr (3, [.ref ts, .int (jI tn), .int (jI tp1'), .int (jI tw)])), (ts, .inl (cA, 400, .inl (jA tf))), (ba, .inr (0, [.ref bt, .ref bp, .ref bl, .ref bh, .ref bq, .ref br, .ref bd, .int (jI bg), .int (jI bf)])), (bt, .inl (cA, 31, .inl (jA ft)))]) [0, 3, 4, 1, 2] rfl
    have hD9 := hD.sub (ws' := [(rda, .inr (2, [.ref ta])), (ta, .inr (3, [.ref ts, .int (jI tn), .int (jI tp1'), .int (jI tw)])), (ts, .inl (cA, 400, .inl (jA tf))), (ba, .inr (0, [.ref bt, .ref bp, .ref bl, .ref bh, .ref bq, .ref br, .ref bd, .int (jI bg), .int (jI bf)])), (bt, .inl (cA, 31, .inl (jA ft)))]) [0, 3, 4, 1, 2] (by decide) rfl
    subst hAe
    subst hQ
    exact W.zret (v := jI 1) hx hb hr (by first | decide | exact jz (by omega)) (fun t ht hW => ⟨⟨_, (1, tp1', tw, ft), rfl, ⟨rfl, Eq.trans (by rw [f_XR_parent_s]; rw [← hwb]; try dsimp only; rw [if_pos c9_]; try rfl) rfl, show 0 ≤ 1 ∧ 1 ≤ 1 from by first | assumption | omega, show 0 ≤ tp1' ∧ tp1' ≤ tn from by first | assumption | omega, show ∀ i, 0 ≤ ft i ∧ ft i ≤ 30 from by first | assumption | omega⟩, ⟨by rw [ht]; exact hP9, va_K.moved hW.alike hK, hD9⟩⟩, hS.F ht⟩) hS.2.2 dXR_parent_13
noncomputable def g_XR_terms_L2 (tn : Int) (tp : Int) (tw : Int) (tf : Int → Int) (bg : Int) (bf : Int) (fd : Int → Int) (zk : Int) : Nat → Int → Int → Int → (Int → Int) → Int × Int × Int × (Int → Int)
  | 0, _, _, _, _ => (0, 0, 0, fun _ => 0)
  | n9 + 1, k, q, w, yd =>
    if 8 < k then
      match f_XT_refuse tn q w tf with
      | (r, tw1') =>
        (r, q, tw1', yd)
    else
      match f_XT_takeOneOf tn q w tf 65 8 with
      | (r1, tp1', tw1'2) =>
        if r1 = (-1) then
          (0, tp1', tw1'2, yd)
        else
          if 0 < (f_XB_divisorOf bg bf yd zk r1) then
            match f_XT_refuseLast tn tp1' tw1'2 tf with
            | (r39, tw1'40) =>
              (r39, tp1', tw1'40, yd)
          else
            match f_XT_skipIf tn tp1' tw1'2 tf 47 with
            | (r8, tp1'9) =>
              if r8 = 0 then
                if 1 = (-1) then
                  (0, tp1'9, tw1'2, yd)
                else
                  match f_XT_skipIf tn tp1'9 tw1'2 tf 43 with
                  | (r16, tp1'17) =>
                    if r16 = 0 then
                      (1, tp1'17, tw1'2, f_XB_tellTerm bg bf yd zk r1 1)
                    else
                      g_XR_terms_L2 tn tp tw tf bg bf fd zk n9 (k + 1) tp1'17 tw1'2 (f_XB_tellTerm bg bf yd zk r1 1)
              else
                match f_XT_number tn tp1'9 tw1'2 tf 1 20 with
                | (r22, tp1'23, tw1'24) =>
                  if r22 = (-1) then
                    (0, tp1'23, tw1'24, yd)
                  else
                    match f_XT_skipIf tn tp1'23 tw1'24 tf 43 with
                    | (r32, tp1'33) =>
                      if r32 = 0 then
                        (1, tp1'33, tw1'24, f_XB_tellTerm bg bf yd zk r1 r22)
                      else
                        g_XR_terms_L2 tn tp tw tf bg bf fd zk n9 (k + 1) tp1'33 tw1'24 (f_XB_tellTerm bg bf yd zk r1 r22)
noncomputable def f_XR_terms_L2 : Int → Int → Int → (Int → Int) → Int → Int → (Int → Int) → Int → Nat → Int → Int → Int → (Int → Int) → Int × Int × Int × (Int → Int) := jopq g_XR_terms_L2
theorem f_XR_terms_L2_q : f_XR_terms_L2 = g_XR_terms_L2 := jopq_eq _
theorem f_XR_terms_L2_s (tn : Int) (tp : Int) (tw : Int) (tf : Int → Int) (bg : Int) (bf : Int) (fd : Int → Int) (zk : Int) (n9 : Nat) (k : Int) (q : Int) (w : Int) (yd : Int → Int) : f_XR_terms_L2 tn tp tw tf bg bf fd zk (n9 + 1) k q w yd = (
    if 8 < k then
      match f_XT_refuse tn q w tf with
      | (r, tw1') =>
        (r, q, tw1', yd)
    else
      match f_XT_takeOneOf tn q w tf 65 8 with
      | (r1, tp1', tw1'2) =>
        if r1 = (-1) then
          (0, tp1', tw1'2, yd)
        else
          if 0 < (f_XB_divisorOf bg bf yd zk r1) then
            match f_XT_refuseLast tn tp1' tw1'2 tf with
            | (r39, tw1'40) =>
              (r39, tp1', tw1'40, yd)
          else
            match f_XT_skipIf tn tp1' tw1'2 tf 47 with
            | (r8, tp1'9) =>
              if r8 = 0 then
                if 1 = (-1) then
                  (0, tp1'9, tw1'2, yd)
                else
                  match f_XT_skipIf tn tp1'9 tw1'2 tf 43 with
                  | (r16, tp1'17) =>
                    if r16 = 0 then
                      (1, tp1'17, tw1'2, f_XB_tellTerm bg bf yd zk r1 1)
                    else
                      f_XR_terms_L2 tn tp tw tf bg bf fd zk n9 (k + 1) tp1'17 tw1'2 (f_XB_tellTerm bg bf yd zk r1 1)
              else
                match f_XT_number tn tp1'9 tw1'2 tf 1 20 with
                | (r22, tp1'23, tw1'24) =>
                  if r22 = (-1) then
                    (0, tp1'23, tw1'24, yd)
                  else
                    match f_XT_skipIf tn tp1'23 tw1'24 tf 43 with
                    | (r32, tp1'33) =>
                      if r32 = 0 then
                        (1, tp1'33, tw1'24, f_XB_tellTerm bg bf yd zk r1 r22)
                      else
                        f_XR_terms_L2 tn tp tw tf bg bf fd zk n9 (k + 1) tp1'33 tw1'24 (f_XB_tellTerm bg bf yd zk r1 r22)
  : Int × Int × Int × (Int → Int)) := by rw [f_XR_terms_L2_q]; rfl
noncomputable def g_XR_terms (tn : Int) (tp : Int) (tw : Int) (tf : Int → Int) (bg : Int) (bf : Int) (fd : Int → Int) (zk : Int) : Int × Int × Int × (Int → Int) :=
  f_XR_terms_L2 tn tp tw tf bg bf fd zk (Int.toNat (9 - 0) + 1) 0 tp tw fd
noncomputable def f_XR_terms : Int → Int → Int → (Int → Int) → Int → Int → (Int → Int) → Int → Int × Int × Int × (Int → Int) := jopq g_XR_terms
theorem f_XR_terms_q : f_XR_terms = g_XR_terms := jopq_eq _
theorem f_XR_terms_s (tn : Int) (tp : Int) (tw : Int) (tf : Int → Int) (bg : Int) (bf : Int) (fd : Int → Int) (zk : Int) : f_XR_terms tn tp tw tf bg bf fd zk = (
    f_XR_terms_L2 tn tp tw tf bg bf fd zk (Int.toNat (9 - 0) + 1) 0 tp tw fd
  : Int × Int × Int × (Int → Int)) := by rw [f_XR_terms_q]; rfl
set_option maxHeartbeats 4000000 in
set_option maxRecDepth 100000 in
theorem c_XR_terms (l : Launch) (dC : Nat → ClassId) (dI : Nat → Nat → Nat) (cA : ClassId) (sz : Nat) (rda : Nat) (ta : Nat) (ts : Nat) (tn : Int) (tp : Int) (tw : Int) (tf : Int → Int) (ba : Nat) (bt : Nat) (bp : Nat) (bl : Nat) (bh : Nat) (bq : Nat) (br : Nat) (bd : Nat) (bg : Int) (bf : Int) (fd : Int → Int) (zk : Int) (hn : 0 ≤ tn ∧ tn ≤ 400) (hp : 0 ≤ tp ∧ tp ≤ tn) (hf : ∀ i, 0 ≤ tf i ∧ tf i < 256) (hbd : ∀ i, 0 ≤ fd i ∧ fd i ≤ 20) (hzk : 0 ≤ zk ∧ zk < 4) : Met l yXR_terms (Cond.code yXR_terms cXR_terms 6 (some .boolean) :: TBL) ({ frames := 2, cells := 0, slots := 0, locals := 44 } : Room) (va_Pc [.ref rda, .ref ba, .int (jI zk)] (jBw (dC, dI) [(cA, .int)] [(rda, .inr (2, [.ref ta])), (ta, .inr (3, [.ref ts, .int (jI tn), .int (jI tp), .int (jI tw)])), (ts, .inl (cA, 400, .inl (jA tf))), (ba, .inr (0, [.ref bt, .ref bp, .ref bl, .ref bh, .ref bq, .ref br, .ref bd, .int (jI bg), .int (jI bf)])), (bd, .inl (cA, 32, .inl (jA fd)))] sz)) (va_Qi (fun (r : Int32) (u : Int × Int × Int × (Int → Int)) => r = jI u.1 ∧ u = f_XR_terms tn tp tw tf bg bf fd zk ∧ (0 ≤ u.1 ∧ u.1 ≤ 1) ∧ (0 ≤ u.2.1 ∧ u.2.1 ≤ tn) ∧ (∀ i, 0 ≤ u.2.2.2 i ∧ u.2.2.2 i ≤ 20)) (fun u t => jE (dC, dI) [(cA, .int)] [(rda, .inr (2, [.ref ta])), (ta, .inr (3, [.ref ts, .int (jI tn), .int (jI tp), .int (jI tw)])), (ts, .inl (cA, 400, .inl (jA tf))), (ba, .inr (0, [.ref bt, .ref bp, .ref bl, .ref bh, .ref bq, .ref br, .ref bd, .int (jI bg), .int (jI bf)])), (bd, .inl (cA, 32, .inl (jA fd)))] sz [(rda, .inr (2, [.ref ta])), (ta, .inr (3, [.ref ts, .int (jI tn), .int (jI u.2.1), .int (jI u.2.2.1)])), (ts, .inl (cA, 400, .inl (jA tf))), (ba, .inr (0, [.ref bt, .ref bp, .ref bl, .ref bh, .ref bq, .ref br, .ref bd, .int (jI bg), .int (jI bf)])), (bd, .inl (cA, 32, .inl (jA u.2.2.2)))] t) (va_A [(rda, .inr (2, [.ref ta])), (ta, .inr (3, [.ref ts, .int (jI tn), .int (jI tp), .int (jI tw)])), (ts, .inl (cA, 400, .inl (jA tf))), (ba, .inr (0, [.ref bt, .ref bp, .ref bl, .ref bh, .ref bq, .ref br, .ref bd, .int (jI bg), .int (jI bf)])), (bd, .inl (cA, 32, .inl (jA fd)))] sz)) 0 0 (va_A [(rda, .inr (2, [.ref ta])), (ta, .inr (3, [.ref ts, .int (jI tn), .int (jI tp), .int (jI tw)])), (ts, .inl (cA, 400, .inl (jA tf))), (ba, .inr (0, [.ref bt, .ref bp, .ref bl, .ref bh, .ref bq, .ref br, .ref bd, .int (jI bg), .int (jI bf)])), (bd, .inl (cA, 32, .inl (jA fd)))] sz) := by
  refine jMet (cc := cXR_terms) (maxL := 6) (ret := some .boolean) (by decide) rfl ?_
  intro p e s m args below meth c s₁ R Q hR hQ B hml hv
  obtain ⟨rfl, hsz, hP, hK, hD0, hN⟩ := hv
  have hx := B.exec
  have hb := B.bytes
  have hr := B.returns
  have hts := atoms_spec (ws := Cond.code yXR_terms cXR_terms 6 (some .boolean) :: TBL) B.pre
  have hown : s.vm.findClass RXR = some m.cls := findClass_of_methodNamed B.named
  have hlocks := B.notSynchronized
  subst hsz
  obtain ⟨A, hAe⟩ : ∃ A, A = va_A [(rda, .inr (2, [.ref ta])), (ta, .inr (3, [.ref ts, .int (jI tn), .int (jI tp), .int (jI tw)])), (ts, .inl (cA, 400, .inl (jA tf))), (ba, .inr (0, [.ref bt, .ref bp, .ref bl, .ref bh, .ref bq, .ref br, .ref bd, .int (jI bg), .int (jI bf)])), (bd, .inl (cA, 32, .inl (jA fd)))] s.heap.size := ⟨_, rfl⟩
  have hD : va_D A [(rda, .inr (2, [.ref ta])), (ta, .inr (3, [.ref ts, .int (jI tn), .int (jI tp), .int (jI tw)])), (ts, .inl (cA, 400, .inl (jA tf))), (ba, .inr (0, [.ref bt, .ref bp, .ref bl, .ref bh, .ref bq, .ref br, .ref bd, .int (jI bg), .int (jI bf)])), (bd, .inl (cA, 32, .inl (jA fd)))] := by rw [hAe]; exact hD0.self
  have hA : ∀ q : Nat, s.heap.size ≤ q → A q := fun q h => by rw [hAe]; exact Or.inr h
  have hS : va_S A s.heap s.heap [] := va_S.rf
  have hP : va_P (dC, dI) vwCl [(rda, .inr (2, [.ref ta])), (ta, .inr (3, [.ref ts, .int (jI tn), .int (jI tp), .int (jI tw)])), (ts, .inl (cA, 400, .inl (jA tf))), (ba, .inr (0, [.ref bt, .ref bp, .ref bl, .ref bh, .ref bq, .ref br, .ref bd, .int (jI bg), .int (jI bf)])), (bd, .inl (cA, 32, .inl (jA fd)))] s.heap := hP
  have hl := lv_entry ([.ref rda, .ref ba, .int (jI zk)]) (n := 6) (Nat.le_of_ble_eq_true rfl)
  rw [lg_entry_eq]
  generalize (lg_sl ([.ref rda, .ref ba, .int (jI zk)]) ++ List.replicate (6 - (lg_sl ([.ref rda, .ref ba, .int (jI zk)])).length) Slot.unset).toArray = ls at hl ⊢
  have hl : lv_has ls 6 [(0, .ref rda), (1, .ref ba), (2, .int (jI zk))] := hl
  refine ji_iconst hx hb dXR_terms_0 ?_
  refine lv_istore_n (lv' := [(3, .int (jI 0)), (0, .ref rda), (1, .ref ba), (2, .int (jI zk))]) hx hb dXR_terms_1 rfl hl (by decide) rfl (fun ls hl => ?_)
  have loop2 : ∀ (n9 : Nat) (k : Int) (q : Int) (w : Int) (yd : Int → Int) , 9 - k < (n9 : Int) → f_XR_terms_L2 tn tp tw tf bg bf fd zk n9 k q w yd = f_XR_terms tn tp tw tf bg bf fd zk → (0 ≤ k ∧ k ≤ 9) → (0 ≤ q ∧ q ≤ tn) → (∀ i, 0 ≤ yd i ∧ yd i ≤ 20) → ∀ (H : Heap) (locs : List Loc), va_P (dC, dI) vwCl [(rda, .inr (2, [.ref ta])), (ta, .inr (3, [.ref ts, .int (jI tn), .int (jI q), .int (jI w)])), (ts, .inl (cA, 400, .inl (jA tf))), (ba, .inr (0, [.ref bt, .ref bp, .ref bl, .ref bh, .ref bq, .ref br, .ref bd, .int (jI bg), .int (jI bf)])), (bd, .inl (cA, 32, .inl (jA yd)))] H → va_D A [(rda, .inr (2, [.ref ta])), (ta, .inr (3, [.ref ts, .int (jI tn), .int (jI q), .int (jI w)])), (ts, .inl (cA, 400, .inl (jA tf))), (ba, .inr (0, [.ref bt, .ref bp, .ref bl, .ref bh, .ref bq, .ref br, .ref bd, .int (jI bg), .int (jI bf)])), (bd, .inl (cA, 32, .inl (jA yd)))] → va_S A s.heap H locs → ∀ ls : Array Slot, lv_has ls 6 [(3, .int (jI k)), (0, .ref rda), (1, .ref ba), (2, .int (jI zk))] → W p l e R s m ([.ref rda, .ref ba, .int (jI zk)] : List Value).toArray below meth c H locs 0 0 Q (F0 m 2 ls []) := by
    intro n9
    induction n9 with
    | zero =>
      intro k q w yd hm hF hk hq had
      exact absurd hm (by omega)
    | succ n9 ih2 =>
      intro k q w yd hm hF hk hq had H locs hP hD hS ls hl
      refine lv_iload_n hx hb dXR_terms_2 rfl (lv_at hl 0 rfl) ?_
      refine ji_bipush hx hb dXR_terms_3 (by decide) ?_
      refine ji_icmp_gt (tgt := 112) hx hb dXR_terms_5 (by decide) (by omega) (by omega) (fun c5_ => ?_) (fun c5_ => ?_)
      · refine lv_aload_n hx hb dXR_terms_112 rfl (lv_at hl 1 rfl) ?_
        refine va_get (D := (dC, dI)) (ci := 2) (v := .ref ta) (C := RXR) (T := TXR) (N := 1) hx hb hts (fun w h => jmem (inXR w h)) hown hK hP 0 rfl rfl 0 (by decide) (hts _ (jmem tw_50)) (fun _ h9 => h9) rfl dXR_terms_113 ?_
        refine jwVi (rest := []) (wr := [(rda, .inr (2, [.ref ta])), (ba, .inr (0, [.ref bt, .ref bp, .ref bl, .ref bh, .ref bq, .ref br, .ref bd, .int (jI bg), .int (jI bf)])), (bd, .inl (cA, 32, .inl (jA yd)))]) ⟨hx, hb, hml, hown, hts⟩ (c_XT_refuse l dC dI cA _ ta ts tn q w tf) (cwV 0 hts (jG_V tw_210 tw_164 tw_165 tw_2 tw_166) rfl rfl rfl (by decide +kernel) (by rw [hR]; exact ⟨Nat.le_of_ble_eq_true rfl, Nat.le_of_ble_eq_true rfl⟩)) hK hP hD hS hA hN [1, 2] [0, 3, 4] rfl rfl (by decide) (by decide) (by decide) 1 3 rfl rfl rfl rfl hl.1 rfl (Nat.le_of_ble_eq_true rfl) dXR_terms_116 (by rw [hR]; exact ⟨Nat.le_of_ble_eq_true rfl, Nat.le_of_ble_eq_true rfl⟩) (fun v u H locs hwb hP hD hS => ?_)
        obtain ⟨r, tw1'⟩ := u
        try dsimp only at hwb
        obtain ⟨er, hwb⟩ := hwb
        subst er
        have hP : va_P (dC, dI) vwCl [(rda, .inr (2, [.ref ta])), (ba, .inr (0, [.ref bt, .ref bp, .ref bl, .ref bh, .ref bq, .ref br, .ref bd, .int (jI bg), .int (jI bf)])), (bd, .inl (cA, 32, .inl (jA yd))), (ta, .inr (3, [.ref ts, .int (jI tn), .int (jI q), .int (jI tw1')])), (ts, .inl (cA, 400, .inl (jA tf)))] H := hP
        have hD : va_D A [(rda, .inr (2, [.ref ta])), (ba, .inr (0, [.ref bt, .ref bp, .ref bl, .ref bh, .ref bq, .ref br, .ref bd, .int (jI bg), .int (jI bf)])), (bd, .inl (cA, 32, .inl (jA yd))), (ta, .inr (3, [.ref ts, .int (jI tn), .int (jI q), .int (jI tw1')])), (ts, .inl (cA, 400, .inl (jA tf)))] := hD
        have f := f_XT_refuse_b tn q w tf
        rw [← hwb] at f; try dsimp only at f
        have hP9 := hP.sub (ws' := [(rda, .inr (2, [.ref ta])), (ta, .inr (3, [.ref ts, .int (jI tn), .int (jI q), .int (jI tw1')])), (ts, .inl (cA, 400, .inl (jA tf))), (ba, .inr (0, [.ref bt, .ref bp, .ref bl, .ref bh, .ref bq, .ref br, .ref bd, .int (jI bg), .int (jI bf)])), (bd, .inl (cA, 32, .inl (jA yd)))]) [0, 3, 4, 1, 2] rfl
        have hD9 := hD.sub (ws' := [(rda, .inr (2, [.ref ta])), (ta, .inr (3, [.ref ts, .int (jI tn), .int (jI q), .int (jI tw1')])), (ts, .inl (cA, 400, .inl (jA tf))), (ba, .inr (0, [.ref bt, .ref bp, .ref bl, .ref bh, .ref bq, .ref br, .ref bd, .int (jI bg), .int (jI bf)])), (bd, .inl (cA, 32, .inl (jA yd)))]) [0, 3, 4, 1, 2] (by decide) rfl
        subst hAe
        subst hQ
        exact W.zret (v := jI r) hx hb hr (by first | decide | exact jz (by omega)) (fun t ht hW => ⟨⟨_, (r, q, tw1', yd), rfl, ⟨rfl, Eq.trans (by rw [f_XR_terms_L2_s]; rw [if_pos c5_]; rw [← hwb]; try dsimp only; try rfl) hF, show 0 ≤ r ∧ r ≤ 1 from by first | assumption | omega, show 0 ≤ q ∧ q ≤ tn from by first | assumption | omega, show ∀ i, 0 ≤ yd i ∧ yd i ≤ 20 from by first | assumption | omega⟩, ⟨by rw [ht]; exact hP9, va_K.moved hW.alike hK, hD9⟩⟩, hS.F ht⟩) hS.2.2 dXR_terms_119
      · refine lv_aload_n hx hb dXR_terms_8 rfl (lv_at hl 1 rfl) ?_
        refine va_get (D := (dC, dI)) (ci := 2) (v := .ref ta) (C := RXR) (T := TXR) (N := 1) hx hb hts (fun w h => jmem (inXR w h)) hown hK hP 0 rfl rfl 0 (by decide) (hts _ (jmem tw_50)) (fun _ h9 => h9) rfl dXR_terms_9 ?_
        refine ji_bipush hx hb dXR_terms_12 (by decide) ?_
        refine ji_bipush hx hb dXR_terms_14 (by decide) ?_
        refine jwVi (rest := []) (wr := [(rda, .inr (2, [.ref ta])), (ba, .inr (0, [.ref bt, .ref bp, .ref bl, .ref bh, .ref bq, .ref br, .ref bd, .int (jI bg), .int (jI bf)])), (bd, .inl (cA, 32, .inl (jA yd)))]) ⟨hx, hb, hml, hown, hts⟩ (c_XT_takeOneOf l dC dI cA _ ta ts tn q w tf 65 8 (by first | assumption | omega) (by first | assumption | omega) (by first | assumption | omega) (by first | assumption | omega) (by first | assumption | omega)) (cwV 2 hts (jG_V tw_159 tw_160 tw_161 tw_2 tw_162) rfl rfl rfl (by decide +kernel) (by rw [hR]; exact ⟨Nat.le_of_ble_eq_true rfl, Nat.le_of_ble_eq_true rfl⟩)) hK hP hD hS hA hN [1, 2] [0, 3, 4] rfl rfl (by decide) (by decide) (by decide) 1 3 rfl rfl rfl rfl hl.1 rfl (Nat.le_of_ble_eq_true rfl) dXR_terms_16 (by rw [hR]; exact ⟨Nat.le_of_ble_eq_true rfl, Nat.le_of_ble_eq_true rfl⟩) (fun v4 u3 H locs hwb5 hP hD hS => ?_)
        obtain ⟨r1, tp1', tw1'2⟩ := u3
        try dsimp only at hwb5
        obtain ⟨er, hwb5⟩ := hwb5
        subst er
        have hP : va_P (dC, dI) vwCl [(rda, .inr (2, [.ref ta])), (ba, .inr (0, [.ref bt, .ref bp, .ref bl, .ref bh, .ref bq, .ref br, .ref bd, .int (jI bg), .int (jI bf)])), (bd, .inl (cA, 32, .inl (jA yd))), (ta, .inr (3, [.ref ts, .int (jI tn), .int (jI tp1'), .int (jI tw1'2)])), (ts, .inl (cA, 400, .inl (jA tf)))] H := hP
        have hD : va_D A [(rda, .inr (2, [.ref ta])), (ba, .inr (0, [.ref bt, .ref bp, .ref bl, .ref bh, .ref bq, .ref br, .ref bd, .int (jI bg), .int (jI bf)])), (bd, .inl (cA, 32, .inl (jA yd))), (ta, .inr (3, [.ref ts, .int (jI tn), .int (jI tp1'), .int (jI tw1'2)])), (ts, .inl (cA, 400, .inl (jA tf)))] := hD
        have f6 := f_XT_takeOneOf_b tn q w tf 65 8 (by first | assumption | omega) (by first | assumption | omega) (by first | assumption | omega) (by first | assumption | omega) (by first | assumption | omega)
        rw [← hwb5] at f6; try dsimp only at f6
        refine lv_istore (lv' := [(4, .int (jI r1)), (3, .int (jI k)), (0, .ref rda), (1, .ref ba), (2, .int (jI zk))]) hx hb dXR_terms_19 hl (by decide) rfl (fun ls hl => ?_)
        refine lv_iload hx hb dXR_terms_21 (lv_at hl 0 rfl) ?_
        refine ji_iconst hx hb dXR_terms_23 ?_
        refine ji_icmp_ne (tgt := 29) hx hb dXR_terms_24 (by decide) (by omega) (by omega) (fun c24_ => ?_) (fun c24_ => ?_)
        · refine lv_aload_n hx hb dXR_terms_29 rfl (lv_at hl 3 rfl) ?_
          refine lv_iload_n hx hb dXR_terms_30 rfl (lv_at hl 4 rfl) ?_
          refine lv_iload hx hb dXR_terms_31 (lv_at hl 0 rfl) ?_
          refine jrVi (rest := []) ⟨hx, hb, hml, hown, hts⟩ (c_XB_divisorOf l dC dI cA ba bt bp bl bh bq br bd bg bf yd zk r1 (by first | assumption | omega) (by first | assumption | omega) (by first | assumption | omega)) (cwV 2 hts (jG_V tw_190 tw_191 tw_192 tw_5 tw_193) rfl rfl rfl (by decide +kernel) (by rw [hR]; exact ⟨Nat.le_of_ble_eq_true rfl, Nat.le_of_ble_eq_true rfl⟩)) hK hP hN [1, 2] rfl 1 0 rfl rfl rfl rfl hl.1 rfl (Nat.le_of_ble_eq_true rfl) dXR_terms_33 (by rw [hR]; exact ⟨Nat.le_of_ble_eq_true rfl, Nat.le_of_ble_eq_true rfl⟩) ?_
          have f7 := f_XB_divisorOf_b bg bf yd zk r1 (by first | assumption | omega) (by first | assumption | omega) (by first | assumption | omega)
          refine ji_if_le (tgt := 47) hx hb dXR_terms_36 (by decide) (by omega) (fun c36_ => ?_) (fun c36_ => ?_)
          · refine lv_aload_n hx hb dXR_terms_47 rfl (lv_at hl 2 rfl) ?_
            refine va_get (D := (dC, dI)) (ci := 2) (v := .ref ta) (C := RXR) (T := TXR) (N := 1) hx hb hts (fun w h => jmem (inXR w h)) hown hK hP 0 rfl rfl 0 (by decide) (hts _ (jmem tw_50)) (fun _ h9 => h9) rfl dXR_terms_48 ?_
            refine ji_bipush hx hb dXR_terms_51 (by decide) ?_
            refine jwVi (rest := []) (wr := [(rda, .inr (2, [.ref ta])), (ba, .inr (0, [.ref bt, .ref bp, .ref bl, .ref bh, .ref bq, .ref br, .ref bd, .int (jI bg), .int (jI bf)])), (bd, .inl (cA, 32, .inl (jA yd)))]) ⟨hx, hb, hml, hown, hts⟩ (c_XT_skipIf l dC dI cA _ ta ts tn tp1' tw1'2 tf 47 (by first | assumption | omega) (by first | assumption | omega) (by first | assumption | omega) (by first | assumption | omega) (by first | assumption | omega)) (cwV 1 hts (jG_V tw_150 tw_151 tw_152 tw_2 tw_153) rfl rfl rfl (by decide +kernel) (by rw [hR]; exact ⟨Nat.le_of_ble_eq_true rfl, Nat.le_of_ble_eq_true rfl⟩)) hK hP hD hS hA hN [3, 4] [0, 1, 2] rfl rfl (by decide) (by decide) (by decide) 3 3 rfl rfl rfl rfl hl.1 rfl (Nat.le_of_ble_eq_true rfl) dXR_terms_53 (by rw [hR]; exact ⟨Nat.le_of_ble_eq_true rfl, Nat.le_of_ble_eq_true rfl⟩) (fun v11 u10 H locs hwb12 hP hD hS => ?_)
            obtain ⟨r8, tp1'9⟩ := u10
            try dsimp only at hwb12
            obtain ⟨er, hwb12⟩ := hwb12
            subst er
            have hP : va_P (dC, dI) vwCl [(rda, .inr (2, [.ref ta])), (ba, .inr (0, [.ref bt, .ref bp, .ref bl, .ref bh, .ref bq, .ref br, .ref bd, .int (jI bg), .int (jI bf)])), (bd, .inl (cA, 32, .inl (jA yd))), (ta, .inr (3, [.ref ts, .int (jI tn), .int (jI tp1'9), .int (jI tw1'2)])), (ts, .inl (cA, 400, .inl (jA tf)))] H := hP
            have hD : va_D A [(rda, .inr (2, [.ref ta])), (ba, .inr (0, [.ref bt, .ref bp, .ref bl, .ref bh, .ref bq, .ref br, .ref bd, .int (jI bg), .int (jI bf)])), (bd, .inl (cA, 32, .inl (jA yd))), (ta, .inr (3, [.ref ts, .int (jI tn), .int (jI tp1'9), .int (jI tw1'2)])), (ts, .inl (cA, 400, .inl (jA tf)))] := hD
            have f13 := f_XT_skipIf_b tn tp1' tw1'2 tf 47 (by first | assumption | omega) (by first | assumption | omega) (by first | assumption | omega) (by first | assumption | omega) (by first | assumption | omega)
            rw [← hwb12] at f13; try dsimp only at f13
            refine ji_if_eq (tgt := 72) hx hb dXR_terms_56 (by decide) (by omega) (fun c56_ => ?_) (fun c56_ => ?_)
            · refine ji_iconst hx hb dXR_terms_72 ?_
              refine lv_istore (lv' := [(5, .int (jI 1)), (4, .int (jI r1)), (3, .int (jI k)), (0, .ref rda), (1, .ref ba), (2, .int (jI zk))]) hx hb dXR_terms_73 hl (by decide) rfl (fun ls hl => ?_)
              refine lv_iload hx hb dXR_terms_75 (lv_at hl 0 rfl) ?_
              refine ji_iconst hx hb dXR_terms_77 ?_
              refine ji_icmp_ne (tgt := 83) hx hb dXR_terms_78 (by decide) (by omega) (by omega) (fun c78_ => ?_) (fun c78_ => ?_)
              · refine lv_aload_n hx hb dXR_terms_83 rfl (lv_at hl 4 rfl) ?_
                refine lv_iload_n hx hb dXR_terms_84 rfl (lv_at hl 5 rfl) ?_
                refine lv_iload hx hb dXR_terms_85 (lv_at hl 1 rfl) ?_
                refine lv_iload hx hb dXR_terms_87 (lv_at hl 0 rfl) ?_
                refine jwVv (rest := []) (wr := [(rda, .inr (2, [.ref ta])), (ta, .inr (3, [.ref ts, .int (jI tn), .int (jI tp1'9), .int (jI tw1'2)])), (ts, .inl (cA, 400, .inl (jA tf)))]) ⟨hx, hb, hml, hown, hts⟩ (c_XB_tellTerm l dC dI cA _ ba bt bp bl bh bq br bd bg bf yd zk r1 1 (by first | assumption | omega) (by first | assumption | omega) (by first | assumption | omega) (by first | assumption | omega)) (cwV 3 hts (jG_V tw_206 tw_207 tw_208 tw_5 tw_209) rfl rfl rfl (by decide +kernel) (by rw [hR]; exact ⟨Nat.le_of_ble_eq_true rfl, Nat.le_of_ble_eq_true rfl⟩)) hK hP hD hS hA hN [1, 2] [0, 3, 4] rfl rfl (by decide) (by decide) (by decide) 1 0 rfl rfl rfl rfl hl.1 rfl (Nat.le_of_ble_eq_true rfl) dXR_terms_89 (by rw [hR]; exact ⟨Nat.le_of_ble_eq_true rfl, Nat.le_of_ble_eq_true rfl⟩) (fun u14 H locs hw hP hD hS => ?_)
                subst hw
                have hP : va_P (dC, dI) vwCl [(rda, .inr (2, [.ref ta])), (ta, .inr (3, [.ref ts, .int (jI tn), .int (jI tp1'9), .int (jI tw1'2)])), (ts, .inl (cA, 400, .inl (jA tf))), (ba, .inr (0, [.ref bt, .ref bp, .ref bl, .ref bh, .ref bq, .ref br, .ref bd, .int (jI bg), .int (jI bf)])), (bd, .inl (cA, 32, .inl (jA (f_XB_tellTerm bg bf yd zk r1 1))))] H := hP
                have hD : va_D A [(rda, .inr (2, [.ref ta])), (ta, .inr (3, [.ref ts, .int (jI tn), .int (jI tp1'9), .int (jI tw1'2)])), (ts, .inl (cA, 400, .inl (jA tf))), (ba, .inr (0, [.ref bt, .ref bp, .ref bl, .ref bh, .ref bq, .ref br, .ref bd, .int (jI bg), .int (jI bf)])), (bd, .inl (cA, 32, .inl (jA (f_XB_tellTerm bg bf yd zk r1 1))))] := hD
                have f15 := f_XB_tellTerm_b bg bf yd zk r1 1 (by first | assumption | omega) (by first | assumption | omega) (by first | assumption | omega) (by first | assumption | omega)
                refine lv_aload_n hx hb dXR_terms_92 rfl (lv_at hl 3 rfl) ?_
                refine va_get (D := (dC, dI)) (ci := 2) (v := .ref ta) (C := RXR) (T := TXR) (N := 1) hx hb hts (fun w h => jmem (inXR w h)) hown hK hP 0 rfl rfl 0 (by decide) (hts _ (jmem tw_50)) (fun _ h9 => h9) rfl dXR_terms_93 ?_
                refine ji_bipush hx hb dXR_terms_96 (by decide) ?_
                refine jwVi (rest := []) (wr := [(rda, .inr (2, [.ref ta])), (ba, .inr (0, [.ref bt, .ref bp, .ref bl, .ref bh, .ref bq, .ref br, .ref bd, .int (jI bg), .int (jI bf)])), (bd, .inl (cA, 32, .inl (jA (f_XB_tellTerm bg bf yd zk r1 1))))]) ⟨hx, hb, hml, hown, hts⟩ (c_XT_skipIf l dC dI cA _ ta ts tn tp1'9 tw1'2 tf 43 (by first | assumption | omega) (by first | assumption | omega) (by first | assumption | omega) (by first | assumption | omega) (by first | assumption | omega)) (cwV 1 hts (jG_V tw_150 tw_151 tw_152 tw_2 tw_153) rfl rfl rfl (by decide +kernel) (by rw [hR]; exact ⟨Nat.le_of_ble_eq_true rfl, Nat.le_of_ble_eq_true rfl⟩)) hK hP hD hS hA hN [1, 2] [0, 3, 4] rfl rfl (by decide) (by decide) (by decide) 1 3 rfl rfl rfl rfl hl.1 rfl (Nat.le_of_ble_eq_true rfl) dXR_terms_98 (by rw [hR]; exact ⟨Nat.le_of_ble_eq_true rfl, Nat.le_of_ble_eq_true rfl⟩) (fun v19 u18 H locs hwb20 hP hD hS => ?_)
                obtain ⟨r16, tp1'17⟩ := u18
                try dsimp only at hwb20
                obtain ⟨er, hwb20⟩ := hwb20
                subst er
                have hP : va_P (dC, dI) vwCl [(rda, .inr (2, [.ref ta])), (ba, .inr (0, [.ref bt, .ref bp, .ref bl, .ref bh, .ref bq, .ref br, .ref bd, .int (jI bg), .int (jI bf)])), (bd, .inl (cA, 32, .inl (jA (f_XB_tellTerm bg bf yd zk r1 1)))), (ta, .inr (3, [.ref ts, .int (jI tn), .int (jI tp1'17), .int (jI tw1'2)])), (ts, .inl (cA, 400, .inl (jA tf)))] H := hP
                have hD : va_D A [(rda, .inr (2, [.ref ta])), (ba, .inr (0, [.ref bt, .ref bp, .ref bl, .ref bh, .ref bq, .ref br, .ref bd, .int (jI bg), .int (jI bf)])), (bd, .inl (cA, 32, .inl (jA (f_XB_tellTerm bg bf yd zk r1 1)))), (ta, .inr (3, [.ref ts, .int (jI tn), .int (jI tp1'17), .int (jI tw1'2)])), (ts, .inl (cA, 400, .inl (jA tf)))] := hD
                have f21 := f_XT_skipIf_b tn tp1'9 tw1'2 tf 43 (by first | assumption | omega) (by first | assumption | omega) (by first | assumption | omega) (by first | assumption | omega) (by first | assumption | omega)
                rw [← hwb20] at f21; try dsimp only at f21
                refine ji_if_ne (tgt := 106) hx hb dXR_terms_101 (by decide) (by omega) (fun c101_ => ?_) (fun c101_ => ?_)
                · refine ji_iinc (k := 2) (lv' := [(3, .int (jI (k + 1))), (5, .int (jI 1)), (4, .int (jI r1)), (0, .ref rda), (1, .ref ba), (2, .int (jI zk))]) hx hb dXR_terms_106 hl rfl (by decide) rfl (fun ls hl => ?_)
                  refine lv_goto (tgt := 2) hx hb dXR_terms_109 (by decide) ?_
                  exact ih2 (k + 1) tp1'17 tw1'2 (f_XB_tellTerm bg bf yd zk r1 1) (by omega) (Eq.trans (by rw [f_XR_terms_L2_s]; rw [if_neg (Int.not_lt.mpr c5_)]; rw [← hwb5]; try dsimp only; rw [if_neg c24_, if_neg (Int.not_lt.mpr c36_)]; rw [← hwb12]; try dsimp only; rw [if_pos c56_, if_neg c78_]; rw [← hwb20]; try dsimp only; rw [if_neg c101_]; try rfl) hF) (by first | assumption | omega) (by first | assumption | omega) (by first | assumption | omega) _ _ (hP.sub [0, 3, 4, 1, 2] rfl) (hD.sub [0, 3, 4, 1, 2] (by decide) rfl) hS ls (lv_sub hl [0, 3, 4, 5] rfl)
                · refine ji_iconst hx hb dXR_terms_104 ?_
                  have hP9 := hP.sub (ws' := [(rda, .inr (2, [.ref ta])), (ta, .inr (3, [.ref ts, .int (jI tn), .int (jI tp1'17), .int (jI tw1'2)])), (ts, .inl (cA, 400, .inl (jA tf))), (ba, .inr (0, [.ref bt, .ref bp, .ref bl, .ref bh, .ref bq, .ref br, .ref bd, .int (jI bg), .int (jI bf)])), (bd, .inl (cA, 32, .inl (jA (f_XB_tellTerm bg bf yd zk r1 1))))]) [0, 3, 4, 1, 2] rfl
                  have hD9 := hD.sub (ws' := [(rda, .inr (2, [.ref ta])), (ta, .inr (3, [.ref ts, .int (jI tn), .int (jI tp1'17), .int (jI tw1'2)])), (ts, .inl (cA, 400, .inl (jA tf))), (ba, .inr (0, [.ref bt, .ref bp, .ref bl, .ref bh, .ref bq, .ref br, .ref bd, .int (jI bg), .int (jI bf)])), (bd, .inl (cA, 32, .inl (jA (f_XB_tellTerm bg bf yd zk r1 1))))]) [0, 3, 4, 1, 2] (by decide) rfl
                  subst hAe
                  subst hQ
                  exact W.zret (v := jI 1) hx hb hr (by first | decide | exact jz (by omega)) (fun t ht hW => ⟨⟨_, (1, tp1'17, tw1'2, f_XB_tellTerm bg bf yd zk r1 1), rfl, ⟨rfl, Eq.trans (by rw [f_XR_terms_L2_s]; rw [if_neg (Int.not_lt.mpr c5_)]; rw [← hwb5]; try dsimp only; rw [if_neg c24_, if_neg (Int.not_lt.mpr c36_)]; rw [← hwb12]; try dsimp only; rw [if_pos c56_, if_neg c78_]; rw [← hwb20]; try dsimp only; rw [if_pos c101_]; try rfl) hF, show 0 ≤ 1 ∧ 1 ≤ 1 from by first | assumption | omega, show 0 ≤ tp1'17 ∧ tp1'17 ≤ tn from by first | assumption | omega, show ∀ i, 0 ≤ (f_XB_tellTerm bg bf yd zk r1 1) i ∧ (f_XB_tellTerm bg bf yd zk r1 1) i ≤ 20 from by first | assumption | omega⟩, ⟨by rw [ht]; exact hP9, va_K.moved hW.alike hK, hD9⟩⟩, hS.F ht⟩) hS.2.2 dXR_terms_105
              · refine ji_iconst hx hb dXR_terms_81 ?_
                have hP9 := hP.sub (ws' := [(rda, .inr (2, [.ref ta])), (ta, .inr (3, [.ref ts, .int (jI tn), .int (jI tp1'9), .int (jI tw1'2)])), (ts, .inl (cA, 400, .inl (jA tf))), (ba, .inr (0, [.ref bt, .ref bp, .ref bl, .ref bh, .ref bq, .ref br, .ref bd, .int (jI bg), .int (jI bf)])), (bd, .inl (cA, 32, .inl (jA yd)))]) [0, 3, 4, 1, 2] rfl
                have hD9 := hD.sub (ws' := [(rda, .inr (2, [.ref ta])), (ta, .inr (3, [.ref ts, .int (jI tn), .int (jI tp1'9), .int (jI tw1'2)])), (ts, .inl (cA, 400, .inl (jA tf))), (ba, .inr (0, [.ref bt, .ref bp, .ref bl, .ref bh, .ref bq, .ref br, .ref bd, .int (jI bg), .int (jI bf)])), (bd, .inl (cA, 32, .inl (jA yd)))]) [0, 3, 4, 1, 2] (by decide) rfl
                subst hAe
                subst hQ
                exact W.zret (v := jI 0) hx hb hr (by first | decide | exact jz (by omega)) (fun t ht hW => ⟨⟨_, (0, tp1'9, tw1'2, yd), rfl, ⟨rfl, Eq.trans (by rw [f_XR_terms_L2_s]; rw [if_neg (Int.not_lt.mpr c5_)]; rw [← hwb5]; try dsimp only; rw [if_neg c24_, if_neg (Int.not_lt.mpr c36_)]; rw [← hwb12]; try dsimp only; rw [if_pos c56_, if_pos c78_]; try rfl) hF, show 0 ≤ 0 ∧ 0 ≤ 1 from by first | assumption | omega, show 0 ≤ tp1'9 ∧ tp1'9 ≤ tn from by first | assumption | omega, show ∀ i, 0 ≤ yd i ∧ yd i ≤ 20 from by first | assumption | omega⟩, ⟨by rw [ht]; exact hP9, va_K.moved hW.alike hK, hD9⟩⟩, hS.F ht⟩) hS.2.2 dXR_terms_82
            · refine lv_aload_n hx hb dXR_terms_59 rfl (lv_at hl 2 rfl) ?_
              refine va_get (D := (dC, dI)) (ci := 2) (v := .ref ta) (C := RXR) (T := TXR) (N := 1) hx hb hts (fun w h => jmem (inXR w h)) hown hK hP 0 rfl rfl 0 (by decide) (hts _ (jmem tw_50)) (fun _ h9 => h9) rfl dXR_terms_60 ?_
              refine ji_iconst hx hb dXR_terms_63 ?_
              refine ji_bipush hx hb dXR_terms_64 (by decide) ?_
              refine jwVi (rest := []) (wr := [(rda, .inr (2, [.ref ta])), (ba, .inr (0, [.ref bt, .ref bp, .ref bl, .ref bh, .ref bq, .ref br, .ref bd, .int (jI bg), .int (jI bf)])), (bd, .inl (cA, 32, .inl (jA yd)))]) ⟨hx, hb, hml, hown, hts⟩ (c_XT_number l dC dI cA _ ta ts tn tp1'9 tw1'2 tf 1 20 (by first | assumption | omega) (by first | assumption | omega) (by first | assumption | omega) (by first | assumption | omega) (by first | assumption | omega)) (cwV 2 hts (jG_V tw_194 tw_195 tw_196 tw_2 tw_197) rfl rfl rfl (by decide +kernel) (by rw [hR]; exact ⟨Nat.le_of_ble_eq_true rfl, Nat.le_of_ble_eq_true rfl⟩)) hK hP hD hS hA hN [3, 4] [0, 1, 2] rfl rfl (by decide) (by decide) (by decide) 3 3 rfl rfl rfl rfl hl.1 rfl (Nat.le_of_ble_eq_true rfl) dXR_terms_66 (by rw [hR]; exact ⟨Nat.le_of_ble_eq_true rfl, Nat.le_of_ble_eq_true rfl⟩) (fun v26 u25 H locs hwb27 hP hD hS => ?_)
              obtain ⟨r22, tp1'23, tw1'24⟩ := u25
              try dsimp only at hwb27
              obtain ⟨er, hwb27⟩ := hwb27
              subst er
              have hP : va_P (dC, dI) vwCl [(rda, .inr (2, [.ref ta])), (ba, .inr (0, [.ref bt, .ref bp, .ref bl, .ref bh, .ref bq, .ref br, .ref bd, .int (jI bg), .int (jI bf)])), (bd, .inl (cA, 32, .inl (jA yd))), (ta, .inr (3, [.ref ts, .int (jI tn), .int (jI tp1'23), .int (jI tw1'24)])), (ts, .inl (cA, 400, .inl (jA tf)))] H := hP
              have hD : va_D A [(rda, .inr (2, [.ref ta])), (ba, .inr (0, [.ref bt, .ref bp, .ref bl, .ref bh, .ref bq, .ref br, .ref bd, .int (jI bg), .int (jI bf)])), (bd, .inl (cA, 32, .inl (jA yd))), (ta, .inr (3, [.ref ts, .int (jI tn), .int (jI tp1'23), .int (jI tw1'24)])), (ts, .inl (cA, 400, .inl (jA tf)))] := hD
              have f28 := f_XT_number_b tn tp1'9 tw1'2 tf 1 20 (by first | assumption | omega) (by first | assumption | omega) (by first | assumption | omega) (by first | assumption | omega) (by first | assumption | omega)
              rw [← hwb27] at f28; try dsimp only at f28
              refine lv_goto (tgt := 73) hx hb dXR_terms_69 (by decide) ?_
              refine lv_istore (lv' := [(5, .int (jI r22)), (4, .int (jI r1)), (3, .int (jI k)), (0, .ref rda), (1, .ref ba), (2, .int (jI zk))]) hx hb dXR_terms_73 hl (by decide) rfl (fun ls hl => ?_)
              refine lv_iload hx hb dXR_terms_75 (lv_at hl 0 rfl) ?_
              refine ji_iconst hx hb dXR_terms_77 ?_
              refine ji_icmp_ne (tgt := 83) hx hb dXR_terms_78 (by decide) (by omega) (by omega) (fun c78_29 => ?_) (fun c78_29 => ?_)
              · refine lv_aload_n hx hb dXR_terms_83 rfl (lv_at hl 4 rfl) ?_
                refine lv_iload_n hx hb dXR_terms_84 rfl (lv_at hl 5 rfl) ?_
                refine lv_iload hx hb dXR_terms_85 (lv_at hl 1 rfl) ?_
                refine lv_iload hx hb dXR_terms_87 (lv_at hl 0 rfl) ?_
                refine jwVv (rest := []) (wr := [(rda, .inr (2, [.ref ta])), (ta, .inr (3, [.ref ts, .int (jI tn), .int (jI tp1'23), .int (jI tw1'24)])), (ts, .inl (cA, 400, .inl (jA tf)))]) ⟨hx, hb, hml, hown, hts⟩ (c_XB_tellTerm l dC dI cA _ ba bt bp bl bh bq br bd bg bf yd zk r1 r22 (by first | assumption | omega) (by first | assumption | omega) (by first | assumption | omega) (by first | assumption | omega)) (cwV 3 hts (jG_V tw_206 tw_207 tw_208 tw_5 tw_209) rfl rfl rfl (by decide +kernel) (by rw [hR]; exact ⟨Nat.le_of_ble_eq_true rfl, Nat.le_of_ble_eq_true rfl⟩)) hK hP hD hS hA hN [1, 2] [0, 3, 4] rfl rfl (by decide) (by decide) (by decide) 1 0 rfl rfl rfl rfl hl.1 rfl (Nat.le_of_ble_eq_true rfl) dXR_terms_89 (by rw [hR]; exact ⟨Nat.le_of_ble_eq_true rfl, Nat.le_of_ble_eq_true rfl⟩) (fun u30 H locs hw hP hD hS => ?_)
                subst hw
                have hP : va_P (dC, dI) vwCl [(rda, .inr (2, [.ref ta])), (ta, .inr (3, [.ref ts, .int (jI tn), .int (jI tp1'23), .int (jI tw1'24)])), (ts, .inl (cA, 400, .inl (jA tf))), (ba, .inr (0, [.ref bt, .ref bp, .ref bl, .ref bh, .ref bq, .ref br, .ref bd, .int (jI bg), .int (jI bf)])), (bd, .inl (cA, 32, .inl (jA (f_XB_tellTerm bg bf yd zk r1 r22))))] H := hP
                have hD : va_D A [(rda, .inr (2, [.ref ta])), (ta, .inr (3, [.ref ts, .int (jI tn), .int (jI tp1'23), .int (jI tw1'24)])), (ts, .inl (cA, 400, .inl (jA tf))), (ba, .inr (0, [.ref bt, .ref bp, .ref bl, .ref bh, .ref bq, .ref br, .ref bd, .int (jI bg), .int (jI bf)])), (bd, .inl (cA, 32, .inl (jA (f_XB_tellTerm bg bf yd zk r1 r22))))] := hD
                have f31 := f_XB_tellTerm_b bg bf yd zk r1 r22 (by first | assumption | omega) (by first | assumption | omega) (by first | assumption | omega) (by first | assumption | omega)
                refine lv_aload_n hx hb dXR_terms_92 rfl (lv_at hl 3 rfl) ?_
                refine va_get (D := (dC, dI)) (ci := 2) (v := .ref ta) (C := RXR) (T := TXR) (N := 1) hx hb hts (fun w h => jmem (inXR w h)) hown hK hP 0 rfl rfl 0 (by decide) (hts _ (jmem tw_50)) (fun _ h9 => h9) rfl dXR_terms_93 ?_
                refine ji_bipush hx hb dXR_terms_96 (by decide) ?_
                refine jwVi (rest := []) (wr := [(rda, .inr (2, [.ref ta])), (ba, .inr (0, [.ref bt, .ref bp, .ref bl, .ref bh, .ref bq, .ref br, .ref bd, .int (jI bg), .int (jI bf)])), (bd, .inl (cA, 32, .inl (jA (f_XB_tellTerm bg bf yd zk r1 r22))))]) ⟨hx, hb, hml, hown, hts⟩ (c_XT_skipIf l dC dI cA _ ta ts tn tp1'23 tw1'24 tf 43 (by first | assumption | omega) (by first | assumption | omega) (by first | assumption | omega) (by first | assumption | omega) (by first | assumption | omega)) (cwV 1 hts (jG_V tw_150 tw_151 tw_152 tw_2 tw_153) rfl rfl rfl (by decide +kernel) (by rw [hR]; exact ⟨Nat.le_of_ble_eq_true rfl, Nat.le_of_ble_eq_true rfl⟩)) hK hP hD hS hA hN [1, 2] [0, 3, 4] rfl rfl (by decide) (by decide) (by decide) 1 3 rfl rfl rfl rfl hl.1 rfl (Nat.le_of_ble_eq_true rfl) dXR_terms_98 (by rw [hR]; exact ⟨Nat.le_of_ble_eq_true rfl, Nat.le_of_ble_eq_true rfl⟩) (fun v35 u34 H locs hwb36 hP hD hS => ?_)
                obtain ⟨r32, tp1'33⟩ := u34
                try dsimp only at hwb36
                obtain ⟨er, hwb36⟩ := hwb36
                subst er
                have hP : va_P (dC, dI) vwCl [(rda, .inr (2, [.ref ta])), (ba, .inr (0, [.ref bt, .ref bp, .ref bl, .ref bh, .ref bq, .ref br, .ref bd, .int (jI bg), .int (jI bf)])), (bd, .inl (cA, 32, .inl (jA (f_XB_tellTerm bg bf yd zk r1 r22)))), (ta, .inr (3, [.ref ts, .int (jI tn), .int (jI tp1'33), .int (jI tw1'24)])), (ts, .inl (cA, 400, .inl (jA tf)))] H := hP
                have hD : va_D A [(rda, .inr (2, [.ref ta])), (ba, .inr (0, [.ref bt, .ref bp, .ref bl, .ref bh, .ref bq, .ref br, .ref bd, .int (jI bg), .int (jI bf)])), (bd, .inl (cA, 32, .inl (jA (f_XB_tellTerm bg bf yd zk r1 r22)))), (ta, .inr (3, [.ref ts, .int (jI tn), .int (jI tp1'33), .int (jI tw1'24)])), (ts, .inl (cA, 400, .inl (jA tf)))] := hD
                have f37 := f_XT_skipIf_b tn tp1'23 tw1'24 tf 43 (by first | assumption | omega) (by first | assumption | omega) (by first | assumption | omega) (by first | assumption | omega) (by first | assumption | omega)
                rw [← hwb36] at f37; try dsimp only at f37
                refine ji_if_ne (tgt := 106) hx hb dXR_terms_101 (by decide) (by omega) (fun c101_38 => ?_) (fun c101_38 => ?_)
                · refine ji_iinc (k := 2) (lv' := [(3, .int (jI (k + 1))), (5, .int (jI r22)), (4, .int (jI r1)), (0, .ref rda), (1, .ref ba), (2, .int (jI zk))]) hx hb dXR_terms_106 hl rfl (by decide) rfl (fun ls hl => ?_)
                  refine lv_goto (tgt := 2) hx hb dXR_terms_109 (by decide) ?_
                  exact ih2 (k + 1) tp1'33 tw1'24 (f_XB_tellTerm bg bf yd zk r1 r22) (by omega) (Eq.trans (by rw [f_XR_terms_L2_s]; rw [if_neg (Int.not_lt.mpr c5_)]; rw [← hwb5]; try dsimp only; rw [if_neg c24_, if_neg (Int.not_lt.mpr c36_)]; rw [← hwb12]; try dsimp only; rw [if_neg c56_]; rw [← hwb27]; try dsimp only; rw [if_neg c78_29]; rw [← hwb36]; try dsimp only; rw [if_neg c101_38]; try rfl) hF) (by first | assumption | omega) (by first | assumption | omega) (by first | assumption | omega) _ _ (hP.sub [0, 3, 4, 1, 2] rfl) (hD.sub [0, 3, 4, 1, 2] (by decide) rfl) hS ls (lv_sub hl [0, 3, 4, 5] rfl)
                · refine ji_iconst hx hb dXR_terms_104 ?_
                  have hP9 := hP.sub (ws' := [(rda, .inr (2, [.ref ta])), (ta, .inr (3, [.ref ts, .int (jI tn), .int (jI tp1'33), .int (jI tw1'24)])), (ts, .inl (cA, 400, .inl (jA tf))), (ba, .inr (0, [.ref bt, .ref bp, .ref bl, .ref bh, .ref bq, .ref br, .ref bd, .int (jI bg), .int (jI bf)])), (bd, .inl (cA, 32, .inl (jA (f_XB_tellTerm bg bf yd zk r1 r22))))]) [0, 3, 4, 1, 2] rfl
                  have hD9 := hD.sub (ws' := [(rda, .inr (2, [.ref ta])), (ta, .inr (3, [.ref ts, .int (jI tn), .int (jI tp1'33), .int (jI tw1'24)])), (ts, .inl (cA, 400, .inl (jA tf))), (ba, .inr (0, [.ref bt, .ref bp, .ref bl, .ref bh, .ref bq, .ref br, .ref bd, .int (jI bg), .int (jI bf)])), (bd, .inl (cA, 32, .inl (jA (f_XB_tellTerm bg bf yd zk r1 r22))))]) [0, 3, 4, 1, 2] (by decide) rfl
                  subst hAe
                  subst hQ
                  exact W.zret (v := jI 1) hx hb hr (by first | decide | exact jz (by omega)) (fun t ht hW => ⟨⟨_, (1, tp1'33, tw1'24, f_XB_tellTerm bg bf yd zk r1 r22), rfl, ⟨rfl, Eq.trans (by rw [f_XR_terms_L2_s]; rw [if_neg (Int.not_lt.mpr c5_)]; rw [← hwb5]; try dsimp only; rw [if_neg c24_, if_neg (Int.not_lt.mpr c36_)]; rw [← hwb12]; try dsimp only; rw [if_neg c56_]; rw [← hwb27]; try dsimp only; rw [if_neg c78_29]; rw [← hwb36]; try dsimp only; rw [if_pos c101_38]; try rfl) hF, show 0 ≤ 1 ∧ 1 ≤ 1 from by first | assumption | omega, show 0 ≤ tp1'33 ∧ tp1'33 ≤ tn from by first | assumption | omega, show ∀ i, 0 ≤ (f_XB_tellTerm bg bf yd zk r1 r22) i ∧ (f_XB_tellTerm bg bf yd zk r1 r22) i ≤ 20 from by first | assumption | omega⟩, ⟨by rw [ht]; exact hP9, va_K.moved hW.alike hK, hD9⟩⟩, hS.F ht⟩) hS.2.2 dXR_terms_105
              · refine ji_iconst hx hb dXR_terms_81 ?_
                have hP9 := hP.sub (ws' := [(rda, .inr (2, [.ref ta])), (ta, .inr (3, [.ref ts, .int (jI tn), .int (jI tp1'23), .int (jI tw1'24)])), (ts, .inl (cA, 400, .inl (jA tf))), (ba, .inr (0, [.ref bt, .ref bp, .ref bl, .ref bh, .ref bq, .ref br, .ref bd, .int (jI bg), .int (jI bf)])), (bd, .inl (cA, 32, .inl (jA yd)))]) [0, 3, 4, 1, 2] rfl
                have hD9 := hD.sub (ws' := [(rda, .inr (2, [.ref ta])), (ta, .inr (3, [.ref ts, .int (jI tn), .int (jI tp1'23), .int (jI tw1'24)])), (ts, .inl (cA, 400, .inl (jA tf))), (ba, .inr (0, [.ref bt, .ref bp, .ref bl, .ref bh, .ref bq, .ref br, .ref bd, .int (jI bg), .int (jI bf)])), (bd, .inl (cA, 32, .inl (jA yd)))]) [0, 3, 4, 1, 2] (by decide) rfl
                subst hAe
                subst hQ
                exact W.zret (v := jI 0) hx hb hr (by first | decide | exact jz (by omega)) (fun t ht hW => ⟨⟨_, (0, tp1'23, tw1'24, yd), rfl, ⟨rfl, Eq.trans (by rw [f_XR_terms_L2_s]; rw [if_neg (Int.not_lt.mpr c5_)]; rw [← hwb5]; try dsimp only; rw [if_neg c24_, if_neg (Int.not_lt.mpr c36_)]; rw [← hwb12]; try dsimp only; rw [if_neg c56_]; rw [← hwb27]; try dsimp only; rw [if_pos c78_29]; try rfl) hF, show 0 ≤ 0 ∧ 0 ≤ 1 from by first | assumption | omega, show 0 ≤ tp1'23 ∧ tp1'23 ≤ tn from by first | assumption | omega, show ∀ i, 0 ≤ yd i ∧ yd i ≤ 20 from by first | assumption | omega⟩, ⟨by rw [ht]; exact hP9, va_K.moved hW.alike hK, hD9⟩⟩, hS.F ht⟩) hS.2.2 dXR_terms_82
          · refine lv_aload_n hx hb dXR_terms_39 rfl (lv_at hl 2 rfl) ?_
            refine va_get (D := (dC, dI)) (ci := 2) (v := .ref ta) (C := RXR) (T := TXR) (N := 1) hx hb hts (fun w h => jmem (inXR w h)) hown hK hP 0 rfl rfl 0 (by decide) (hts _ (jmem tw_50)) (fun _ h9 => h9) rfl dXR_terms_40 ?_
            refine jwVi (rest := []) (wr := [(rda, .inr (2, [.ref ta])), (ba, .inr (0, [.ref bt, .ref bp, .ref bl, .ref bh, .ref bq, .ref br, .ref bd, .int (jI bg), .int (jI bf)])), (bd, .inl (cA, 32, .inl (jA yd)))]) ⟨hx, hb, hml, hown, hts⟩ (c_XT_refuseLast l dC dI cA _ ta ts tn tp1' tw1'2 tf) (cwV 0 hts (jG_V tw_174 tw_175 tw_176 tw_2 tw_177) rfl rfl rfl (by decide +kernel) (by rw [hR]; exact ⟨Nat.le_of_ble_eq_true rfl, Nat.le_of_ble_eq_true rfl⟩)) hK hP hD hS hA hN [3, 4] [0, 1, 2] rfl rfl (by decide) (by decide) (by decide) 3 3 rfl rfl rfl rfl hl.1 rfl (Nat.le_of_ble_eq_true rfl) dXR_terms_43 (by rw [hR]; exact ⟨Nat.le_of_ble_eq_true rfl, Nat.le_of_ble_eq_true rfl⟩) (fun v42 u41 H locs hwb43 hP hD hS => ?_)
            obtain ⟨r39, tw1'40⟩ := u41
            try dsimp only at hwb43
            obtain ⟨er, hwb43⟩ := hwb43
            subst er
            have hP : va_P (dC, dI) vwCl [(rda, .inr (2, [.ref ta])), (ba, .inr (0, [.ref bt, .ref bp, .ref bl, .ref bh, .ref bq, .ref br, .ref bd, .int (jI bg), .int (jI bf)])), (bd, .inl (cA, 32, .inl (jA yd))), (ta, .inr (3, [.ref ts, .int (jI tn), .int (jI tp1'), .int (jI tw1'40)])), (ts, .inl (cA, 400, .inl (jA tf)))] H := hP
            have hD : va_D A [(rda, .inr (2, [.ref ta])), (ba, .inr (0, [.ref bt, .ref bp, .ref bl, .ref bh, .ref bq, .ref br, .ref bd, .int (jI bg), .int (jI bf)])), (bd, .inl (cA, 32, .inl (jA yd))), (ta, .inr (3, [.ref ts, .int (jI tn), .int (jI tp1'), .int (jI tw1'40)])), (ts, .inl (cA, 400, .inl (jA tf)))] := hD
            have f44 := f_XT_refuseLast_b tn tp1' tw1'2 tf
            rw [← hwb43] at f44; try dsimp only at f44
            have hP9 := hP.sub (ws' := [(rda, .inr (2, [.ref ta])), (ta, .inr (3, [.ref ts, .int (jI tn), .int (jI tp1'), .int (jI tw1'40)])), (ts, .inl (cA, 400, .inl (jA tf))), (ba, .inr (0, [.ref bt, .ref bp, .ref bl, .ref bh, .ref bq, .ref br, .ref bd, .int (jI bg), .int (jI bf)])), (bd, .inl (cA, 32, .inl (jA yd)))]) [0, 3, 4, 1, 2] rfl
            have hD9 := hD.sub (ws' := [(rda, .inr (2, [.ref ta])), (ta, .inr (3, [.ref ts, .int (jI tn), .int (jI tp1'), .int (jI tw1'40)])), (ts, .inl (cA, 400, .inl (jA tf))), (ba, .inr (0, [.ref bt, .ref bp, .ref bl, .ref bh, .ref bq, .ref br, .ref bd, .int (jI bg), .int (jI bf)])), (bd, .inl (cA, 32, .inl (jA yd)))]) [0, 3, 4, 1, 2] (by decide) rfl
            subst hAe
            subst hQ
            exact W.zret (v := jI r39) hx hb hr (by first | decide | exact jz (by omega)) (fun t ht hW => ⟨⟨_, (r39, tp1', tw1'40, yd), rfl, ⟨rfl, Eq.trans (by rw [f_XR_terms_L2_s]; rw [if_neg (Int.not_lt.mpr c5_)]; rw [← hwb5]; try dsimp only; rw [if_neg c24_, if_pos c36_]; rw [← hwb43]; try dsimp only; try rfl) hF, show 0 ≤ r39 ∧ r39 ≤ 1 from by first | assumption | omega, show 0 ≤ tp1' ∧ tp1' ≤ tn from by first | assumption | omega, show ∀ i, 0 ≤ yd i ∧ yd i ≤ 20 from by first | assumption | omega⟩, ⟨by rw [ht]; exact hP9, va_K.moved hW.alike hK, hD9⟩⟩, hS.F ht⟩) hS.2.2 dXR_terms_46
        · refine ji_iconst hx hb dXR_terms_27 ?_
          have hP9 := hP.sub (ws' := [(rda, .inr (2, [.ref ta])), (ta, .inr (3, [.ref ts, .int (jI tn), .int (jI tp1'), .int (jI tw1'2)])), (ts, .inl (cA, 400, .inl (jA tf))), (ba, .inr (0, [.ref bt, .ref bp, .ref bl, .ref bh, .ref bq, .ref br, .ref bd, .int (jI bg), .int (jI bf)])), (bd, .inl (cA, 32, .inl (jA yd)))]) [0, 3, 4, 1, 2] rfl
          have hD9 := hD.sub (ws' := [(rda, .inr (2, [.ref ta])), (ta, .inr (3, [.ref ts, .int (jI tn), .int (jI tp1'), .int (jI tw1'2)])), (ts, .inl (cA, 400, .inl (jA tf))), (ba, .inr (0, [.ref bt, .ref bp, .ref bl, .ref bh, .ref bq, .ref br, .ref bd, .int (jI bg), .int (jI bf)])), (bd, .inl (cA, 32, .inl (jA yd)))]) [0, 3, 4, 1, 2] (by decide) rfl
          subst hAe
          subst hQ
          exact W.zret (v := jI 0) hx hb hr (by first | decide | exact jz (by omega)) (fun t ht hW => ⟨⟨_, (0, tp1', tw1'2, yd), rfl, ⟨rfl, Eq.trans (by rw [f_XR_terms_L2_s]; rw [if_neg (Int.not_lt.mpr c5_)]; rw [← hwb5]; try dsimp only; rw [if_pos c24_]; try rfl) hF, show 0 ≤ 0 ∧ 0 ≤ 1 from by first | assumption | omega, show 0 ≤ tp1' ∧ tp1' ≤ tn from by first | assumption | omega, show ∀ i, 0 ≤ yd i ∧ yd i ≤ 20 from by first | assumption | omega⟩, ⟨by rw [ht]; exact hP9, va_K.moved hW.alike hK, hD9⟩⟩, hS.F ht⟩) hS.2.2 dXR_terms_28
  exact loop2 (Int.toNat (9 - 0) + 1) 0 tp tw fd (by omega) (Eq.trans (by rw [f_XR_terms_s]; try rfl) rfl) (by first | assumption | omega) (by first | assumption | omega) (by first | assumption | omega) _ _ hP hD hS ls (lv_sub hl [0, 1, 2, 3] rfl)
noncomputable def g_XR_formula (tn : Int) (tp : Int) (tw : Int) (tf : Int → Int) (bg : Int) (bf : Int) (fd : Int → Int) : Int × Int × Int × (Int → Int) × Int :=
  match f_XT_takeOneOf tn tp tw tf 48 4 with
  | (r, tp1', tw1') =>
    if r = (-1) then
      (0, tp1', tw1', fd, bf)
    else
      if (f_XB_hasFormula bg bf r) = 0 then
        match f_XT_take tn tp1' tw1' tf 61 with
        | (r4, tp1'5, tw1'6) =>
          if r4 = 0 then
            (0, tp1'5, tw1'6, fd, f_XB_tellFormula bg bf r)
          else
            match f_XR_terms tn tp1'5 tw1'6 tf bg (f_XB_tellFormula bg bf r) fd r with
            | (r11, tp1'12, tw1'13, fd1') =>
              if r11 = 0 then
                (0, tp1'12, tw1'13, fd1', f_XB_tellFormula bg bf r)
              else
                (1, tp1'12, tw1'13, fd1', f_XB_tellFormula bg bf r)
      else
        match f_XT_refuseLast tn tp1' tw1' tf with
        | (r20, tw1'21) =>
          (r20, tp1', tw1'21, fd, bf)
noncomputable def f_XR_formula : Int → Int → Int → (Int → Int) → Int → Int → (Int → Int) → Int × Int × Int × (Int → Int) × Int := jopq g_XR_formula
theorem f_XR_formula_q : f_XR_formula = g_XR_formula := jopq_eq _
theorem f_XR_formula_s (tn : Int) (tp : Int) (tw : Int) (tf : Int → Int) (bg : Int) (bf : Int) (fd : Int → Int) : f_XR_formula tn tp tw tf bg bf fd = (
    match f_XT_takeOneOf tn tp tw tf 48 4 with
    | (r, tp1', tw1') =>
      if r = (-1) then
        (0, tp1', tw1', fd, bf)
      else
        if (f_XB_hasFormula bg bf r) = 0 then
          match f_XT_take tn tp1' tw1' tf 61 with
          | (r4, tp1'5, tw1'6) =>
            if r4 = 0 then
              (0, tp1'5, tw1'6, fd, f_XB_tellFormula bg bf r)
            else
              match f_XR_terms tn tp1'5 tw1'6 tf bg (f_XB_tellFormula bg bf r) fd r with
              | (r11, tp1'12, tw1'13, fd1') =>
                if r11 = 0 then
                  (0, tp1'12, tw1'13, fd1', f_XB_tellFormula bg bf r)
                else
                  (1, tp1'12, tw1'13, fd1', f_XB_tellFormula bg bf r)
        else
          match f_XT_refuseLast tn tp1' tw1' tf with
          | (r20, tw1'21) =>
            (r20, tp1', tw1'21, fd, bf)
  : Int × Int × Int × (Int → Int) × Int) := by rw [f_XR_formula_q]; rfl
set_option maxHeartbeats 4000000 in
set_option maxRecDepth 100000 in
theorem c_XR_formula (l : Launch) (dC : Nat → ClassId) (dI : Nat → Nat → Nat) (cA : ClassId) (sz : Nat) (rda : Nat) (ta : Nat) (ts : Nat) (tn : Int) (tp : Int) (tw : Int) (tf : Int → Int) (ba : Nat) (bt : Nat) (bp : Nat) (bl : Nat) (bh : Nat) (bq : Nat) (br : Nat) (bd : Nat) (bg : Int) (bf : Int) (fd : Int → Int) (hn : 0 ≤ tn ∧ tn ≤ 400) (hp : 0 ≤ tp ∧ tp ≤ tn) (hf : ∀ i, 0 ≤ tf i ∧ tf i < 256) (hbd : ∀ i, 0 ≤ fd i ∧ fd i ≤ 20) (hbf : 0 ≤ bf ∧ bf < 2147483648) : Met l yXR_formula (Cond.code yXR_formula cXR_formula 3 (some .boolean) :: TBL) ({ frames := 3, cells := 0, slots := 0, locals := 69 } : Room) (va_Pc [.ref rda, .ref ba] (jBw (dC, dI) [(cA, .int)] [(rda, .inr (2, [.ref ta])), (ta, .inr (3, [.ref ts, .int (jI tn), .int (jI tp), .int (jI tw)])), (ts, .inl (cA, 400, .inl (jA tf))), (ba, .inr (0, [.ref bt, .ref bp, .ref bl, .ref bh, .ref bq, .ref br, .ref bd, .int (jI bg), .int (jI bf)])), (bd, .inl (cA, 32, .inl (jA fd)))] sz)) (va_Qi (fun (r : Int32) (u : Int × Int × Int × (Int → Int) × Int) => r = jI u.1 ∧ u = f_XR_formula tn tp tw tf bg bf fd ∧ (0 ≤ u.1 ∧ u.1 ≤ 1) ∧ (0 ≤ u.2.1 ∧ u.2.1 ≤ tn) ∧ (∀ i, 0 ≤ u.2.2.2.1 i ∧ u.2.2.2.1 i ≤ 20) ∧ (0 ≤ u.2.2.2.2 ∧ u.2.2.2.2 < 2147483648)) (fun u t => jE (dC, dI) [(cA, .int)] [(rda, .inr (2, [.ref ta])), (ta, .inr (3, [.ref ts, .int (jI tn), .int (jI tp), .int (jI tw)])), (ts, .inl (cA, 400, .inl (jA tf))), (ba, .inr (0, [.ref bt, .ref bp, .ref bl, .ref bh, .ref bq, .ref br, .ref bd, .int (jI bg), .int (jI bf)])), (bd, .inl (cA, 32, .inl (jA fd)))] sz [(rda, .inr (2, [.ref ta])), (ta, .inr (3, [.ref ts, .int (jI tn), .int (jI u.2.1), .int (jI u.2.2.1)])), (ts, .inl (cA, 400, .inl (jA tf))), (ba, .inr (0, [.ref bt, .ref bp, .ref bl, .ref bh, .ref bq, .ref br, .ref bd, .int (jI bg), .int (jI u.2.2.2.2)])), (bd, .inl (cA, 32, .inl (jA u.2.2.2.1)))] t) (va_A [(rda, .inr (2, [.ref ta])), (ta, .inr (3, [.ref ts, .int (jI tn), .int (jI tp), .int (jI tw)])), (ts, .inl (cA, 400, .inl (jA tf))), (ba, .inr (0, [.ref bt, .ref bp, .ref bl, .ref bh, .ref bq, .ref br, .ref bd, .int (jI bg), .int (jI bf)])), (bd, .inl (cA, 32, .inl (jA fd)))] sz)) 0 0 (va_A [(rda, .inr (2, [.ref ta])), (ta, .inr (3, [.ref ts, .int (jI tn), .int (jI tp), .int (jI tw)])), (ts, .inl (cA, 400, .inl (jA tf))), (ba, .inr (0, [.ref bt, .ref bp, .ref bl, .ref bh, .ref bq, .ref br, .ref bd, .int (jI bg), .int (jI bf)])), (bd, .inl (cA, 32, .inl (jA fd)))] sz) := by
  refine jMet (cc := cXR_formula) (maxL := 3) (ret := some .boolean) (by decide) rfl ?_
  intro p e s m args below meth c s₁ R Q hR hQ B hml hv
  obtain ⟨rfl, hsz, hP, hK, hD0, hN⟩ := hv
  have hx := B.exec
  have hb := B.bytes
  have hr := B.returns
  have hts := atoms_spec (ws := Cond.code yXR_formula cXR_formula 3 (some .boolean) :: TBL) B.pre
  have hown : s.vm.findClass RXR = some m.cls := findClass_of_methodNamed B.named
  have hlocks := B.notSynchronized
  subst hsz
  obtain ⟨A, hAe⟩ : ∃ A, A = va_A [(rda, .inr (2, [.ref ta])), (ta, .inr (3, [.ref ts, .int (jI tn), .int (jI tp), .int (jI tw)])), (ts, .inl (cA, 400, .inl (jA tf))), (ba, .inr (0, [.ref bt, .ref bp, .ref bl, .ref bh, .ref bq, .ref br, .ref bd, .int (jI bg), .int (jI bf)])), (bd, .inl (cA, 32, .inl (jA fd)))] s.heap.size := ⟨_, rfl⟩
  have hD : va_D A [(rda, .inr (2, [.ref ta])), (ta, .inr (3, [.ref ts, .int (jI tn), .int (jI tp), .int (jI tw)])), (ts, .inl (cA, 400, .inl (jA tf))), (ba, .inr (0, [.ref bt, .ref bp, .ref bl, .ref bh, .ref bq, .ref br, .ref bd, .int (jI bg), .int (jI bf)])), (bd, .inl (cA, 32, .inl (jA fd)))] := by rw [hAe]; exact hD0.self
  have hA : ∀ q : Nat, s.heap.size ≤ q → A q := fun q h => by rw [hAe]; exact Or.inr h
  have hS : va_S A s.heap s.heap [] := va_S.rf
  have hP : va_P (dC, dI) vwCl [(rda, .inr (2, [.ref ta])), (ta, .inr (3, [.ref ts, .int (jI tn), .int (jI tp), .int (jI tw)])), (ts, .inl (cA, 400, .inl (jA tf))), (ba, .inr (0, [.ref bt, .ref bp, .ref bl, .ref bh, .ref bq, .ref br, .ref bd, .int (jI bg), .int (jI bf)])), (bd, .inl (cA, 32, .inl (jA fd)))] s.heap := hP
  have hl := lv_entry ([.ref rda, .ref ba]) (n := 3) (Nat.le_of_ble_eq_true rfl)
  rw [lg_entry_eq]
  generalize (lg_sl ([.ref rda, .ref ba]) ++ List.replicate (3 - (lg_sl ([.ref rda, .ref ba])).length) Slot.unset).toArray = ls at hl ⊢
  have hl : lv_has ls 3 [(0, .ref rda), (1, .ref ba)] := hl
  refine lv_aload_n hx hb dXR_formula_0 rfl (lv_at hl 0 rfl) ?_
  refine va_get (D := (dC, dI)) (ci := 2) (v := .ref ta) (C := RXR) (T := TXR) (N := 1) hx hb hts (fun w h => jmem (inXR w h)) hown hK hP 0 rfl rfl 0 (by decide) (hts _ (jmem tw_50)) (fun _ h9 => h9) rfl dXR_formula_1 ?_
  refine ji_bipush hx hb dXR_formula_4 (by decide) ?_
  refine ji_iconst hx hb dXR_formula_6 ?_
  refine jwVi (rest := []) (wr := [(rda, .inr (2, [.ref ta])), (ba, .inr (0, [.ref bt, .ref bp, .ref bl, .ref bh, .ref bq, .ref br, .ref bd, .int (jI bg), .int (jI bf)])), (bd, .inl (cA, 32, .inl (jA fd)))]) ⟨hx, hb, hml, hown, hts⟩ (c_XT_takeOneOf l dC dI cA _ ta ts tn tp tw tf 48 4 (by first | assumption | omega) (by first | assumption | omega) (by first | assumption | omega) (by first | assumption | omega) (by first | assumption | omega)) (cwV 2 hts (jG_V tw_159 tw_160 tw_161 tw_2 tw_162) rfl rfl rfl (by decide +kernel) (by rw [hR]; exact ⟨Nat.le_of_ble_eq_true rfl, Nat.le_of_ble_eq_true rfl⟩)) hK hP hD hS hA hN [1, 2] [0, 3, 4] rfl rfl (by decide) (by decide) (by decide) 1 3 rfl rfl rfl rfl hl.1 rfl (Nat.le_of_ble_eq_true rfl) dXR_formula_7 (by rw [hR]; exact ⟨Nat.le_of_ble_eq_true rfl, Nat.le_of_ble_eq_true rfl⟩) (fun v u H locs hwb hP hD hS => ?_)
  obtain ⟨r, tp1', tw1'⟩ := u
  try dsimp only at hwb
  obtain ⟨er, hwb⟩ := hwb
  subst er
  have hP : va_P (dC, dI) vwCl [(rda, .inr (2, [.ref ta])), (ba, .inr (0, [.ref bt, .ref bp, .ref bl, .ref bh, .ref bq, .ref br, .ref bd, .int (jI bg), .int (jI bf)])), (bd, .inl (cA, 32, .inl (jA fd))), (ta, .inr (3, [.ref ts, .int (jI tn), .int (jI tp1'), .int (jI tw1')])), (ts, .inl (cA, 400, .inl (jA tf)))] H := hP
  have hD : va_D A [(rda, .inr (2, [.ref ta])), (ba, .inr (0, [.ref bt, .ref bp, .ref bl, .ref bh, .ref bq, .ref br, .ref bd, .int (jI bg), .int (jI bf)])), (bd, .inl (cA, 32, .inl (jA fd))), (ta, .inr (3, [.ref ts, .int (jI tn), .int (jI tp1'), .int (jI tw1')])), (ts, .inl (cA, 400, .inl (jA tf)))] := hD
  have f := f_XT_takeOneOf_b tn tp tw tf 48 4 (by first | assumption | omega) (by first | assumption | omega) (by first | assumption | omega) (by first | assumption | omega) (by first | assumption | omega)
  rw [← hwb] at f; try dsimp only at f
  refine lv_istore_n (lv' := [(2, .int (jI r)), (0, .ref rda), (1, .ref ba)]) hx hb dXR_formula_10 rfl hl (by decide) rfl (fun ls hl => ?_)
  refine lv_iload_n hx hb dXR_formula_11 rfl (lv_at hl 0 rfl) ?_
  refine ji_iconst hx hb dXR_formula_12 ?_
  refine ji_icmp_ne (tgt := 18) hx hb dXR_formula_13 (by decide) (by omega) (by omega) (fun c13_ => ?_) (fun c13_ => ?_)
  · refine lv_aload_n hx hb dXR_formula_18 rfl (lv_at hl 2 rfl) ?_
    refine lv_iload_n hx hb dXR_formula_19 rfl (lv_at hl 0 rfl) ?_
    refine jrVi (rest := []) ⟨hx, hb, hml, hown, hts⟩ (c_XB_hasFormula l dC dI cA ba bt bp bl bh bq br bd bg bf r (by first | assumption | omega) (by first | assumption | omega)) (cwV 1 hts (jG_V tw_167 tw_168 tw_169 tw_5 tw_170) rfl rfl rfl (by decide +kernel) (by rw [hR]; exact ⟨Nat.le_of_ble_eq_true rfl, Nat.le_of_ble_eq_true rfl⟩)) hK hP hN [1] rfl 1 0 rfl rfl rfl rfl hl.1 rfl (Nat.le_of_ble_eq_true rfl) dXR_formula_20 (by rw [hR]; exact ⟨Nat.le_of_ble_eq_true rfl, Nat.le_of_ble_eq_true rfl⟩) ?_
    have f1 := f_XB_hasFormula_b bg bf r (by first | assumption | omega) (by first | assumption | omega)
    refine ji_if_eq (tgt := 34) hx hb dXR_formula_23 (by decide) (by omega) (fun c23_ => ?_) (fun c23_ => ?_)
    · refine lv_aload_n hx hb dXR_formula_34 rfl (lv_at hl 2 rfl) ?_
      refine lv_iload_n hx hb dXR_formula_35 rfl (lv_at hl 0 rfl) ?_
      refine jwVv (rest := []) (wr := [(rda, .inr (2, [.ref ta])), (bd, .inl (cA, 32, .inl (jA fd))), (ta, .inr (3, [.ref ts, .int (jI tn), .int (jI tp1'), .int (jI tw1')])), (ts, .inl (cA, 400, .inl (jA tf)))]) ⟨hx, hb, hml, hown, hts⟩ (c_XB_tellFormula l dC dI cA _ ba bt bp bl bh bq br bd bg bf r (by first | assumption | omega) (by first | assumption | omega)) (cwV 1 hts (jG_V tw_178 tw_179 tw_180 tw_5 tw_181) rfl rfl rfl (by decide +kernel) (by rw [hR]; exact ⟨Nat.le_of_ble_eq_true rfl, Nat.le_of_ble_eq_true rfl⟩)) hK hP hD hS hA hN [1] [0, 2, 3, 4] rfl rfl (by decide) (by decide) (by decide) 1 0 rfl rfl rfl rfl hl.1 rfl (Nat.le_of_ble_eq_true rfl) dXR_formula_36 (by rw [hR]; exact ⟨Nat.le_of_ble_eq_true rfl, Nat.le_of_ble_eq_true rfl⟩) (fun u2 H locs hw hP hD hS => ?_)
      subst hw
      have hP : va_P (dC, dI) vwCl [(rda, .inr (2, [.ref ta])), (bd, .inl (cA, 32, .inl (jA fd))), (ta, .inr (3, [.ref ts, .int (jI tn), .int (jI tp1'), .int (jI tw1')])), (ts, .inl (cA, 400, .inl (jA tf))), (ba, .inr (0, [.ref bt, .ref bp, .ref bl, .ref bh, .ref bq, .ref br, .ref bd, .int (jI bg), .int (jI (f_XB_tellFormula bg bf r))]))] H := hP
      have hD : va_D A [(rda, .inr (2, [.ref ta])), (bd, .inl (cA, 32, .inl (jA fd))), (ta, .inr (3, [.ref ts, .int (jI tn), .int (jI tp1'), .int (jI tw1')])), (ts, .inl (cA, 400, .inl (jA tf))), (ba, .inr (0, [.ref bt, .ref bp, .ref bl, .ref bh, .ref bq, .ref br, .ref bd, .int (jI bg), .int (jI (f_XB_tellFormula bg bf r))]))] := hD
      have f3 := f_XB_tellFormula_b bg bf r (by first | assumption | omega) (by first | assumption | omega)
      refine lv_aload_n hx hb dXR_formula_39 rfl (lv_at hl 1 rfl) ?_
      refine va_get (D := (dC, dI)) (ci := 2) (v := .ref ta) (C := RXR) (T := TXR) (N := 1) hx hb hts (fun w h => jmem (inXR w h)) hown hK hP 0 rfl rfl 0 (by decide) (hts _ (jmem tw_50)) (fun _ h9 => h9) rfl dXR_formula_40 ?_
      refine ji_bipush hx hb dXR_formula_43 (by decide) ?_
      refine jwVi (rest := []) (wr := [(rda, .inr (2, [.ref ta])), (bd, .inl (cA, 32, .inl (jA fd))), (ba, .inr (0, [.ref bt, .ref bp, .ref bl, .ref bh, .ref bq, .ref br, .ref bd, .int (jI bg), .int (jI (f_XB_tellFormula bg bf r))]))]) ⟨hx, hb, hml, hown, hts⟩ (c_XT_take l dC dI cA _ ta ts tn tp1' tw1' tf 61 (by first | assumption | omega) (by first | assumption | omega) (by first | assumption | omega) (by first | assumption | omega) (by first | assumption | omega)) (cwV 1 hts (jG_V tw_182 tw_183 tw_184 tw_2 tw_185) rfl rfl rfl (by decide +kernel) (by rw [hR]; exact ⟨Nat.le_of_ble_eq_true rfl, Nat.le_of_ble_eq_true rfl⟩)) hK hP hD hS hA hN [2, 3] [0, 1, 4] rfl rfl (by decide) (by decide) (by decide) 2 3 rfl rfl rfl rfl hl.1 rfl (Nat.le_of_ble_eq_true rfl) dXR_formula_45 (by rw [hR]; exact ⟨Nat.le_of_ble_eq_true rfl, Nat.le_of_ble_eq_true rfl⟩) (fun v8 u7 H locs hwb9 hP hD hS => ?_)
      obtain ⟨r4, tp1'5, tw1'6⟩ := u7
      try dsimp only at hwb9
      obtain ⟨er, hwb9⟩ := hwb9
      subst er
      have hP : va_P (dC, dI) vwCl [(rda, .inr (2, [.ref ta])), (bd, .inl (cA, 32, .inl (jA fd))), (ba, .inr (0, [.ref bt, .ref bp, .ref bl, .ref bh, .ref bq, .ref br, .ref bd, .int (jI bg), .int (jI (f_XB_tellFormula bg bf r))])), (ta, .inr (3, [.ref ts, .int (jI tn), .int (jI tp1'5), .int (jI tw1'6)])), (ts, .inl (cA, 400, .inl (jA tf)))] H := hP
      have hD : va_D A [(rda, .inr (2, [.ref ta])), (bd, .inl (cA, 32, .inl (jA fd))), (ba, .inr (0, [.ref bt, .ref bp, .ref bl, .ref bh, .ref bq, .ref br, .ref bd, .int (jI bg), .int (jI (f_XB_tellFormula bg bf r))])), (ta, .inr (3, [.ref ts, .int (jI tn), .int (jI tp1'5), .int (jI tw1'6)])), (ts, .inl (cA, 400, .inl (jA tf)))] := hD
      have f10 := f_XT_take_b tn tp1' tw1' tf 61 (by first | assumption | omega) (by first | assumption | omega) (by first | assumption | omega) (by first | assumption | omega) (by first | assumption | omega)
      rw [← hwb9] at f10; try dsimp only at f10
      refine ji_if_eq (tgt := 64) hx hb dXR_formula_48 (by decide) (by omega) (fun c48_ => ?_) (fun c48_ => ?_)
      · refine ji_iconst hx hb dXR_formula_64 ?_
        have hP9 := hP.sub (ws' := [(rda, .inr (2, [.ref ta])), (ta, .inr (3, [.ref ts, .int (jI tn), .int (jI tp1'5), .int (jI tw1'6)])), (ts, .inl (cA, 400, .inl (jA tf))), (ba, .inr (0, [.ref bt, .ref bp, .ref bl, .ref bh, .ref bq, .ref br, .ref bd, .int (jI bg), .int (jI (f_XB_tellFormula bg bf r))])), (bd, .inl (cA, 32, .inl (jA fd)))]) [0, 3, 4, 2, 1] rfl
        have hD9 := hD.sub (ws' := [(rda, .inr (2, [.ref ta])), (ta, .inr (3, [.ref ts, .int (jI tn), .int (jI tp1'5), .int (jI tw1'6)])), (ts, .inl (cA, 400, .inl (jA tf))), (ba, .inr (0, [.ref bt, .ref bp, .ref bl, .ref bh, .ref bq, .ref br, .ref bd, .int (jI bg), .int (jI (f_XB_tellFormula bg bf r))])), (bd, .inl (cA, 32, .inl (jA fd)))]) [0, 3, 4, 2, 1] (by decide) rfl
        subst hAe
        subst hQ
        exact W.zret (v := jI 0) hx hb hr (by first | decide | exact jz (by omega)) (fun t ht hW => ⟨⟨_, (0, tp1'5, tw1'6, fd, f_XB_tellFormula bg bf r), rfl, ⟨rfl, Eq.trans (by rw [f_XR_formula_s]; rw [← hwb]; try dsimp only; rw [if_neg c13_, if_pos c23_]; rw [← hwb9]; try dsimp only; rw [if_pos c48_]; try rfl) rfl, show 0 ≤ 0 ∧ 0 ≤ 1 from by first | assumption | omega, show 0 ≤ tp1'5 ∧ tp1'5 ≤ tn from by first | assumption | omega, show ∀ i, 0 ≤ fd i ∧ fd i ≤ 20 from by first | assumption | omega, show 0 ≤ (f_XB_tellFormula bg bf r) ∧ (f_XB_tellFormula bg bf r) < 2147483648 from by first | assumption | omega⟩, ⟨by rw [ht]; exact hP9, va_K.moved hW.alike hK, hD9⟩⟩, hS.F ht⟩) hS.2.2 dXR_formula_65
      · refine lv_aload_n hx hb dXR_formula_51 rfl (lv_at hl 1 rfl) ?_
        refine lv_aload_n hx hb dXR_formula_52 rfl (lv_at hl 2 rfl) ?_
        refine lv_iload_n hx hb dXR_formula_53 rfl (lv_at hl 0 rfl) ?_
        refine jwVi (rest := []) (wr := []) ⟨hx, hb, hml, hown, hts⟩ (c_XR_terms l dC dI cA _ rda ta ts tn tp1'5 tw1'6 tf ba bt bp bl bh bq br bd bg (f_XB_tellFormula bg bf r) fd r (by first | assumption | omega) (by first | assumption | omega) (by first | assumption | omega) (by first | assumption | omega) (by first | assumption | omega)) (cwV 2 hts (jG_V tw_186 tw_188 ts_2 tw_3 tw_189) rfl rfl rfl (by decide +kernel) (by rw [hR]; exact ⟨Nat.le_of_ble_eq_true rfl, Nat.le_of_ble_eq_true rfl⟩)) hK hP hD hS hA hN [0, 3, 4, 2, 1] [] rfl rfl (by decide) (by decide) (by decide) 0 2 rfl rfl rfl rfl hl.1 rfl (Nat.le_of_ble_eq_true rfl) dXR_formula_54 (by rw [hR]; exact ⟨Nat.le_of_ble_eq_true rfl, Nat.le_of_ble_eq_true rfl⟩) (fun v15 u14 H locs hwb16 hP hD hS => ?_)
        obtain ⟨r11, tp1'12, tw1'13, fd1'⟩ := u14
        try dsimp only at hwb16
        obtain ⟨er, hwb16, f17, f18, f19⟩ := hwb16
        subst er
        have f17 : 0 ≤ r11 ∧ r11 ≤ 1 := f17
        have f18 : 0 ≤ tp1'12 ∧ tp1'12 ≤ tn := f18
        have f19 : ∀ i, 0 ≤ fd1' i ∧ fd1' i ≤ 20 := f19
        have hP : va_P (dC, dI) vwCl [(rda, .inr (2, [.ref ta])), (ta, .inr (3, [.ref ts, .int (jI tn), .int (jI tp1'12), .int (jI tw1'13)])), (ts, .inl (cA, 400, .inl (jA tf))), (ba, .inr (0, [.ref bt, .ref bp, .ref bl, .ref bh, .ref bq, .ref br, .ref bd, .int (jI bg), .int (jI (f_XB_tellFormula bg bf r))])), (bd, .inl (cA, 32, .inl (jA fd1')))] H := hP
        have hD : va_D A [(rda, .inr (2, [.ref ta])), (ta, .inr (3, [.ref ts, .int (jI tn), .int (jI tp1'12), .int (jI tw1'13)])), (ts, .inl (cA, 400, .inl (jA tf))), (ba, .inr (0, [.ref bt, .ref bp, .ref bl, .ref bh, .ref bq, .ref br, .ref bd, .int (jI bg), .int (jI (f_XB_tellFormula bg bf r))])), (bd, .inl (cA, 32, .inl (jA fd1')))] := hD
        refine ji_if_eq (tgt := 64) hx hb dXR_formula_57 (by decide) (by omega) (fun c57_ => ?_) (fun c57_ => ?_)
        · refine ji_iconst hx hb dXR_formula_64 ?_
          have hP9 := hP.sub (ws' := [(rda, .inr (2, [.ref ta])), (ta, .inr (3, [.ref ts, .int (jI tn), .int (jI tp1'12), .int (jI tw1'13)])), (ts, .inl (cA, 400, .inl (jA tf))), (ba, .inr (0, [.ref bt, .ref bp, .ref bl, .ref bh, .ref bq, .ref br, .ref bd, .int (jI bg), .int (jI (f_XB_tellFormula bg bf r))])), (bd, .inl (cA, 32, .inl (jA fd1')))]) [0, 1, 2, 3, 4] rfl
          have hD9 := hD.sub (ws' := [(rda, .inr (2, [.ref ta])), (ta, .inr (3, [.ref ts, .int (jI tn), .int (jI tp1'12), .int (jI tw1'13)])), (ts, .inl (cA, 400, .inl (jA tf))), (ba, .inr (0, [.ref bt, .ref bp, .ref bl, .ref bh, .ref bq, .ref br, .ref bd, .int (jI bg), .int (jI (f_XB_tellFormula bg bf r))])), (bd, .inl (cA, 32, .inl (jA fd1')))]) [0, 1, 2, 3, 4] (by decide) rfl
          subst hAe
          subst hQ
          exact W.zret (v := jI 0) hx hb hr (by first | decide | exact jz (by omega)) (fun t ht hW => ⟨⟨_, (0, tp1'12, tw1'13, fd1', f_XB_tellFormula bg bf r), rfl, ⟨rfl, Eq.trans (by rw [f_XR_formula_s]; rw [← hwb]; try dsimp only; rw [if_neg c13_, if_pos c23_]; rw [← hwb9]; try dsimp only; rw [if_neg c48_]; rw [← hwb16]; try dsimp only; rw [if_pos c57_]; try rfl) rfl, show 0 ≤ 0 ∧ 0 ≤ 1 from by first | assumption | omega, show 0 ≤ tp1'12 ∧ tp1'12 ≤ tn from by first | assumption | omega, show ∀ i, 0 ≤ fd1' i ∧ fd1' i ≤ 20 from by first | assumption | omega, show 0 ≤ (f_XB_tellFormula bg bf r) ∧ (f_XB_tellFormula bg bf r) < 2147483648 from by first | assumption | omega⟩, ⟨by rw [ht]; exact hP9, va_K.moved hW.alike hK, hD9⟩⟩, hS.F ht⟩) hS.2.2 dXR_formula_65
        · refine ji_iconst hx hb dXR_formula_60 ?_
          refine lv_goto (tgt := 65) hx hb dXR_formula_61 (by decide) ?_
          have hP9 := hP.sub (ws' := [(rda, .inr (2, [.ref ta])), (ta, .inr (3, [.ref ts, .int (jI tn), .int (jI tp1'12), .int (jI tw1'13)])), (ts, .inl (cA, 400, .inl (jA tf))), (ba, .inr (0, [.ref bt, .ref bp, .ref bl, .ref bh, .ref bq, .ref br, .ref bd, .int (jI bg), .int (jI (f_XB_tellFormula bg bf r))])), (bd, .inl (cA, 32, .inl (jA fd1')))]) [0, 1, 2, 3, 4] rfl
          have hD9 := hD.sub (ws' := [(rda, .inr (2, [.ref ta])), (ta, .inr (3, [.ref ts, .int (jI tn), .int (jI tp1'12), .int (jI tw1'13)])), (ts, .inl (cA, 400, .inl (jA tf))), (ba, .inr (0, [.ref bt, .ref bp, .ref bl, .ref bh, .ref bq, .ref br, .ref bd, .int (jI bg), .int (jI (f_XB_tellFormula bg bf r))])), (bd, .inl (cA, 32, .inl (jA fd1')))]) [0, 1, 2, 3, 4] (by decide) rfl
          subst hAe
          subst hQ
          exact W.zret (v := jI 1) hx hb hr (by first | decide | exact jz (by omega)) (fun t ht hW => ⟨⟨_, (1, tp1'12, tw1'13, fd1', f_XB_tellFormula bg bf r), rfl, ⟨rfl, Eq.trans (by rw [f_XR_formula_s]; rw [← hwb]; try dsimp only; rw [if_neg c13_, if_pos c23_]; rw [← hwb9]; try dsimp only; rw [if_neg c48_]; rw [← hwb16]; try dsimp only; rw [if_neg c57_]; try rfl) rfl, show 0 ≤ 1 ∧ 1 ≤ 1 from by first | assumption | omega, show 0 ≤ tp1'12 ∧ tp1'12 ≤ tn from by first | assumption | omega, show ∀ i, 0 ≤ fd1' i ∧ fd1' i ≤ 20 from by first | assumption | omega, show 0 ≤ (f_XB_tellFormula bg bf r) ∧ (f_XB_tellFormula bg bf r) < 2147483648 from by first | assumption | omega⟩, ⟨by rw [ht]; exact hP9, va_K.moved hW.alike hK, hD9⟩⟩, hS.F ht⟩) hS.2.2 dXR_formula_65
    · refine lv_aload_n hx hb dXR_formula_26 rfl (lv_at hl 1 rfl) ?_
      refine va_get (D := (dC, dI)) (ci := 2) (v := .ref ta) (C := RXR) (T := TXR) (N := 1) hx hb hts (fun w h => jmem (inXR w h)) hown hK hP 0 rfl rfl 0 (by decide) (hts _ (jmem tw_50)) (fun _ h9 => h9) rfl dXR_formula_27 ?_
      refine jwVi (rest := []) (wr := [(rda, .inr (2, [.ref ta])), (ba, .inr (0, [.ref bt, .ref bp, .ref bl, .ref bh, .ref bq, .ref br, .ref bd, .int (jI bg), .int (jI bf)])), (bd, .inl (cA, 32, .inl (jA fd)))]) ⟨hx, hb, hml, hown, hts⟩ (c_XT_refuseLast l dC dI cA _ ta ts tn tp1' tw1' tf) (cwV 0 hts (jG_V tw_174 tw_175 tw_176 tw_2 tw_177) rfl rfl rfl (by decide +kernel) (by rw [hR]; exact ⟨Nat.le_of_ble_eq_true rfl, Nat.le_of_ble_eq_true rfl⟩)) hK hP hD hS hA hN [3, 4] [0, 1, 2] rfl rfl (by decide) (by decide) (by decide) 3 3 rfl rfl rfl rfl hl.1 rfl (Nat.le_of_ble_eq_true rfl) dXR_formula_30 (by rw [hR]; exact ⟨Nat.le_of_ble_eq_true rfl, Nat.le_of_ble_eq_true rfl⟩) (fun v23 u22 H locs hwb24 hP hD hS => ?_)
      obtain ⟨r20, tw1'21⟩ := u22
      try dsimp only at hwb24
      obtain ⟨er, hwb24⟩ := hwb24
      subst er
      have hP : va_P (dC, dI) vwCl [(rda, .inr (2, [.ref ta])), (ba, .inr (0, [.ref bt, .ref bp, .ref bl, .ref bh, .ref bq, .ref br, .ref bd, .int (jI bg), .int (jI bf)])), (bd, .inl (cA, 32, .inl (jA fd))), (ta, .inr (3, [.ref ts, .int (jI tn), .int (jI tp1'), .int (jI tw1'21)])), (ts, .inl (cA, 400, .inl (jA tf)))] H := hP
      have hD : va_D A [(rda, .inr (2, [.ref ta])), (ba, .inr (0, [.ref bt, .ref bp, .ref bl, .ref bh, .ref bq, .ref br, .ref bd, .int (jI bg), .int (jI bf)])), (bd, .inl (cA, 32, .inl (jA fd))), (ta, .inr (3, [.ref ts, .int (jI tn), .int (jI tp1'), .int (jI tw1'21)])), (ts, .inl (cA, 400, .inl (jA tf)))] := hD
      have f25 := f_XT_refuseLast_b tn tp1' tw1' tf
      rw [← hwb24] at f25; try dsimp only at f25
      have hP9 := hP.sub (ws' := [(rda, .inr (2, [.ref ta])), (ta, .inr (3, [.ref ts, .int (jI tn), .int (jI tp1'), .int (jI tw1'21)])), (ts, .inl (cA, 400, .inl (jA tf))), (ba, .inr (0, [.ref bt, .ref bp, .ref bl, .ref bh, .ref bq, .ref br, .ref bd, .int (jI bg), .int (jI bf)])), (bd, .inl (cA, 32, .inl (jA fd)))]) [0, 3, 4, 1, 2] rfl
      have hD9 := hD.sub (ws' := [(rda, .inr (2, [.ref ta])), (ta, .inr (3, [.ref ts, .int (jI tn), .int (jI tp1'), .int (jI tw1'21)])), (ts, .inl (cA, 400, .inl (jA tf))), (ba, .inr (0, [.ref bt, .ref bp, .ref bl, .ref bh, .ref bq, .ref br, .ref bd, .int (jI bg), .int (jI bf)])), (bd, .inl (cA, 32, .inl (jA fd)))]) [0, 3, 4, 1, 2] (by decide) rfl
      subst hAe
      subst hQ
      exact W.zret (v := jI r20) hx hb hr (by first | decide | exact jz (by omega)) (fun t ht hW => ⟨⟨_, (r20, tp1', tw1'21, fd, bf), rfl, ⟨rfl, Eq.trans (by rw [f_XR_formula_s]; rw [← hwb]; try dsimp only; rw [if_neg c13_, if_neg c23_]; rw [← hwb24]; try dsimp only; try rfl) rfl, show 0 ≤ r20 ∧ r20 ≤ 1 from by first | assumption | omega, show 0 ≤ tp1' ∧ tp1' ≤ tn from by first | assumption | omega, show ∀ i, 0 ≤ fd i ∧ fd i ≤ 20 from by first | assumption | omega, show 0 ≤ bf ∧ bf < 2147483648 from by first | assumption | omega⟩, ⟨by rw [ht]; exact hP9, va_K.moved hW.alike hK, hD9⟩⟩, hS.F ht⟩) hS.2.2 dXR_formula_33
  · refine ji_iconst hx hb dXR_formula_16 ?_
    have hP9 := hP.sub (ws' := [(rda, .inr (2, [.ref ta])), (ta, .inr (3, [.ref ts, .int (jI tn), .int (jI tp1'), .int (jI tw1')])), (ts, .inl (cA, 400, .inl (jA tf))), (ba, .inr (0, [.ref bt, .ref bp, .ref bl, .ref bh, .ref bq, .ref br, .ref bd, .int (jI bg), .int (jI bf)])), (bd, .inl (cA, 32, .inl (jA fd)))]) [0, 3, 4, 1, 2] rfl
    have hD9 := hD.sub (ws' := [(rda, .inr (2, [.ref ta])), (ta, .inr (3, [.ref ts, .int (jI tn), .int (jI tp1'), .int (jI tw1')])), (ts, .inl (cA, 400, .inl (jA tf))), (ba, .inr (0, [.ref bt, .ref bp, .ref bl, .ref bh, .ref bq, .ref br, .ref bd, .int (jI bg), .int (jI bf)])), (bd, .inl (cA, 32, .inl (jA fd)))]) [0, 3, 4, 1, 2] (by decide) rfl
    subst hAe
    subst hQ
    exact W.zret (v := jI 0) hx hb hr (by first | decide | exact jz (by omega)) (fun t ht hW => ⟨⟨_, (0, tp1', tw1', fd, bf), rfl, ⟨rfl, Eq.trans (by rw [f_XR_formula_s]; rw [← hwb]; try dsimp only; rw [if_pos c13_]; try rfl) rfl, show 0 ≤ 0 ∧ 0 ≤ 1 from by first | assumption | omega, show 0 ≤ tp1' ∧ tp1' ≤ tn from by first | assumption | omega, show ∀ i, 0 ≤ fd i ∧ fd i ≤ 20 from by first | assumption | omega, show 0 ≤ bf ∧ bf < 2147483648 from by first | assumption | omega⟩, ⟨by rw [ht]; exact hP9, va_K.moved hW.alike hK, hD9⟩⟩, hS.F ht⟩) hS.2.2 dXR_formula_17

end
section
noncomputable def g_XR_spans_L2 (tn : Int) (tp : Int) (tw : Int) (tf : Int → Int) (bg : Int) (bf : Int) (fl : Int → Int) (fh : Int → Int) (zg : Int) : Nat → Int → Int → Int → (Int → Int) → (Int → Int) → Int × Int × Int × (Int → Int) × (Int → Int)
  | 0, _, _, _, _, _ => (0, 0, 0, fun _ => 0, fun _ => 0)
  | n9 + 1, k, q, w, yl, yh =>
    if 8 < k then
      (1, q, w, yl, yh)
    else
      match f_XT_next tn q w tf with
      | (r, tp1') =>
        if (f_XG_isElement r) = 0 then
          (1, tp1', w, yl, yh)
        else
          match f_XT_takeOneOf tn tp1' w tf 65 8 with
          | (r2, tp1'3, tw1') =>
            if r2 = (-1) then
              (0, tp1'3, tw1', yl, yh)
            else
              if (f_XB_tellsSpan bg bf yh zg r2) = 0 then
                match f_XT_number tn tp1'3 tw1' tf 0 100000 with
                | (r10, tp1'11, tw1'12) =>
                  if r10 = (-1) then
                    (0, tp1'11, tw1'12, yl, yh)
                  else
                    match f_XT_take tn tp1'11 tw1'12 tf 45 with
                    | (r17, tp1'18, tw1'19) =>
                      if r17 = 0 then
                        (0, tp1'18, tw1'19, yl, yh)
                      else
                        match f_XT_number tn tp1'18 tw1'19 tf r10 100000 with
                        | (r24, tp1'25, tw1'26) =>
                          if r24 = (-1) then
                            (0, tp1'25, tw1'26, yl, yh)
                          else
                            match f_XB_tellSpan bg bf yl yh zg r2 r10 r24 with
                            | (fl1', fh1') =>
                              g_XR_spans_L2 tn tp tw tf bg bf fl fh zg n9 (k + 1) tp1'25 tw1'26 fl1' fh1'
              else
                match f_XT_refuseLast tn tp1'3 tw1' tf with
                | (r35, tw1'36) =>
                  (r35, tp1'3, tw1'36, yl, yh)
noncomputable def f_XR_spans_L2 : Int → Int → Int → (Int → Int) → Int → Int → (Int → Int) → (Int → Int) → Int → Nat → Int → Int → Int → (Int → Int) → (Int → Int) → Int × Int × Int × (Int → Int) × (Int → Int) := jopq g_XR_spans_L2
theorem f_XR_spans_L2_q : f_XR_spans_L2 = g_XR_spans_L2 := jopq_eq _
theorem f_XR_spans_L2_s (tn : Int) (tp : Int) (tw : Int) (tf : Int → Int) (bg : Int) (bf : Int) (fl : Int → Int) (fh : Int → Int) (zg : Int) (n9 : Nat) (k : Int) (q : Int) (w : Int) (yl : Int → Int) (yh : Int → Int) : f_XR_spans_L2 tn tp tw tf bg bf fl fh zg (n9 + 1) k q w yl yh = (
    if 8 < k then
      (1, q, w, yl, yh)
    else
      match f_XT_next tn q w tf with
      | (r, tp1') =>
        if (f_XG_isElement r) = 0 then
          (1, tp1', w, yl, yh)
        else
          match f_XT_takeOneOf tn tp1' w tf 65 8 with
          | (r2, tp1'3, tw1') =>
            if r2 = (-1) then
              (0, tp1'3, tw1', yl, yh)
            else
              if (f_XB_tellsSpan bg bf yh zg r2) = 0 then
                match f_XT_number tn tp1'3 tw1' tf 0 100000 with
                | (r10, tp1'11, tw1'12) =>
                  if r10 = (-1) then
                    (0, tp1'11, tw1'12, yl, yh)
                  else
                    match f_XT_take tn tp1'11 tw1'12 tf 45 with
                    | (r17, tp1'18, tw1'19) =>
                      if r17 = 0 then
                        (0, tp1'18, tw1'19, yl, yh)
                      else
                        match f_XT_number tn tp1'18 tw1'19 tf r10 100000 with
                        | (r24, tp1'25, tw1'26) =>
                          if r24 = (-1) then
                            (0, tp1'25, tw1'26, yl, yh)
                          else
                            match f_XB_tellSpan bg bf yl yh zg r2 r10 r24 with
                            | (fl1', fh1') =>
                              f_XR_spans_L2 tn tp tw tf bg bf fl fh zg n9 (k + 1) tp1'25 tw1'26 fl1' fh1'
              else
                match f_XT_refuseLast tn tp1'3 tw1' tf with
                | (r35, tw1'36) =>
                  (r35, tp1'3, tw1'36, yl, yh)
  : Int × Int × Int × (Int → Int) × (Int → Int)) := by rw [f_XR_spans_L2_q]; rfl
noncomputable def g_XR_spans (tn : Int) (tp : Int) (tw : Int) (tf : Int → Int) (bg : Int) (bf : Int) (fl : Int → Int) (fh : Int → Int) (zg : Int) : Int × Int × Int × (Int → Int) × (Int → Int) :=
  f_XR_spans_L2 tn tp tw tf bg bf fl fh zg (Int.toNat (9 - 0) + 1) 0 tp tw fl fh
noncomputable def f_XR_spans : Int → Int → Int → (Int → Int) → Int → Int → (Int → Int) → (Int → Int) → Int → Int × Int × Int × (Int → Int) × (Int → Int) := jopq g_XR_spans
theorem f_XR_spans_q : f_XR_spans = g_XR_spans := jopq_eq _
theorem f_XR_spans_s (tn : Int) (tp : Int) (tw : Int) (tf : Int → Int) (bg : Int) (bf : Int) (fl : Int → Int) (fh : Int → Int) (zg : Int) : f_XR_spans tn tp tw tf bg bf fl fh zg = (
    f_XR_spans_L2 tn tp tw tf bg bf fl fh zg (Int.toNat (9 - 0) + 1) 0 tp tw fl fh
  : Int × Int × Int × (Int → Int) × (Int → Int)) := by rw [f_XR_spans_q]; rfl
set_option maxHeartbeats 4000000 in
set_option maxRecDepth 100000 in
theorem c_XR_spans (l : Launch) (dC : Nat → ClassId) (dI : Nat → Nat → Nat) (cA : ClassId) (sz : Nat) (rda : Nat) (ta : Nat) (ts : Nat) (tn : Int) (tp : Int) (tw : Int) (tf : Int → Int) (ba : Nat) (bt : Nat) (bp : Nat) (bl : Nat) (bh : Nat) (bq : Nat) (br : Nat) (bd : Nat) (bg : Int) (bf : Int) (fl : Int → Int) (fh : Int → Int) (zg : Int) (hn : 0 ≤ tn ∧ tn ≤ 400) (hp : 0 ≤ tp ∧ tp ≤ tn) (hf : ∀ i, 0 ≤ tf i ∧ tf i < 256) (hbl : ∀ i, 0 ≤ fl i ∧ fl i ≤ 100000) (hbh : ∀ i, -1 ≤ fh i ∧ fh i ≤ 100000) (hzg : 0 ≤ zg ∧ zg ≤ 30) : Met l yXR_spans (Cond.code yXR_spans cXR_spans 7 (some .boolean) :: TBL) ({ frames := 2, cells := 0, slots := 0, locals := 44 } : Room) (va_Pc [.ref rda, .ref ba, .int (jI zg)] (jBw (dC, dI) [(cA, .int)] [(rda, .inr (2, [.ref ta])), (ta, .inr (3, [.ref ts, .int (jI tn), .int (jI tp), .int (jI tw)])), (ts, .inl (cA, 400, .inl (jA tf))), (ba, .inr (0, [.ref bt, .ref bp, .ref bl, .ref bh, .ref bq, .ref br, .ref bd, .int (jI bg), .int (jI bf)])), (bl, .inl (cA, 248, .inl (jA fl))), (bh, .inl (cA, 248, .inl (jA fh)))] sz)) (va_Qi (fun (r : Int32) (u : Int × Int × Int × (Int → Int) × (Int → Int)) => r = jI u.1 ∧ u = f_XR_spans tn tp tw tf bg bf fl fh zg ∧ (0 ≤ u.1 ∧ u.1 ≤ 1) ∧ (0 ≤ u.2.1 ∧ u.2.1 ≤ tn) ∧ (∀ i, 0 ≤ u.2.2.2.1 i ∧ u.2.2.2.1 i ≤ 100000) ∧ (∀ i, -1 ≤ u.2.2.2.2 i ∧ u.2.2.2.2 i ≤ 100000)) (fun u t => jE (dC, dI) [(cA, .int)] [(rda, .inr (2, [.ref ta])), (ta, .inr (3, [.ref ts, .int (jI tn), .int (jI tp), .int (jI tw)])), (ts, .inl (cA, 400, .inl (jA tf))), (ba, .inr (0, [.ref bt, .ref bp, .ref bl, .ref bh, .ref bq, .ref br, .ref bd, .int (jI bg), .int (jI bf)])), (bl, .inl (cA, 248, .inl (jA fl))), (bh, .inl (cA, 248, .inl (jA fh)))] sz [(rda, .inr (2, [.ref ta])), (ta, .inr (3, [.ref ts, .int (jI tn), .int (jI u.2.1), .int (jI u.2.2.1)])), (ts, .inl (cA, 400, .inl (jA tf))), (ba, .inr (0, [.ref bt, .ref bp, .ref bl, .ref bh, .ref bq, .ref br, .ref bd, .int (jI bg), .int (jI bf)])), (bl, .inl (cA, 248, .inl (jA u.2.2.2.1))), (bh, .inl (cA, 248, .inl (jA u.2.2.2.2)))] t) (va_A [(rda, .inr (2, [.ref ta])), (ta, .inr (3, [.ref ts, .int (jI tn), .int (jI tp), .int (jI tw)])), (ts, .inl (cA, 400, .inl (jA tf))), (ba, .inr (0, [.ref bt, .ref bp, .ref bl, .ref bh, .ref bq, .ref br, .ref bd, .int (jI bg), .int (jI bf)])), (bl, .inl (cA, 248, .inl (jA fl))), (bh, .inl (cA, 248, .inl (jA fh)))] sz)) 0 0 (va_A [(rda, .inr (2, [.ref ta])), (ta, .inr (3, [.ref ts, .int (jI tn), .int (jI tp), .int (jI tw)])), (ts, .inl (cA, 400, .inl (jA tf))), (ba, .inr (0, [.ref bt, .ref bp, .ref bl, .ref bh, .ref bq, .ref br, .ref bd, .int (jI bg), .int (jI bf)])), (bl, .inl (cA, 248, .inl (jA fl))), (bh, .inl (cA, 248, .inl (jA fh)))] sz) := by
  refine jMet (cc := cXR_spans) (maxL := 7) (ret := some .boolean) (by decide) rfl ?_
  intro p e s m args below meth c s₁ R Q hR hQ B hml hv
  obtain ⟨rfl, hsz, hP, hK, hD0, hN⟩ := hv
  have hx := B.exec
  have hb := B.bytes
  have hr := B.returns
  have hts := atoms_spec (ws := Cond.code yXR_spans cXR_spans 7 (some .boolean) :: TBL) B.pre
  have hown : s.vm.findClass RXR = some m.cls := findClass_of_methodNamed B.named
  have hlocks := B.notSynchronized
  subst hsz
  obtain ⟨A, hAe⟩ : ∃ A, A = va_A [(rda, .inr (2, [.ref ta])), (ta, .inr (3, [.ref ts, .int (jI tn), .int (jI tp), .int (jI tw)])), (ts, .inl (cA, 400, .inl (jA tf))), (ba, .inr (0, [.ref bt, .ref bp, .ref bl, .ref bh, .ref bq, .ref br, .ref bd, .int (jI bg), .int (jI bf)])), (bl, .inl (cA, 248, .inl (jA fl))), (bh, .inl (cA, 248, .inl (jA fh)))] s.heap.size := ⟨_, rfl⟩
  have hD : va_D A [(rda, .inr (2, [.ref ta])), (ta, .inr (3, [.ref ts, .int (jI tn), .int (jI tp), .int (jI tw)])), (ts, .inl (cA, 400, .inl (jA tf))), (ba, .inr (0, [.ref bt, .ref bp, .ref bl, .ref bh, .ref bq, .ref br, .ref bd, .int (jI bg), .int (jI bf)])), (bl, .inl (cA, 248, .inl (jA fl))), (bh, .inl (cA, 248, .inl (jA fh)))] := by rw [hAe]; exact hD0.self
  have hA : ∀ q : Nat, s.heap.size ≤ q → A q := fun q h => by rw [hAe]; exact Or.inr h
  have hS : va_S A s.heap s.heap [] := va_S.rf
  have hP : va_P (dC, dI) vwCl [(rda, .inr (2, [.ref ta])), (ta, .inr (3, [.ref ts, .int (jI tn), .int (jI tp), .int (jI tw)])), (ts, .inl (cA, 400, .inl (jA tf))), (ba, .inr (0, [.ref bt, .ref bp, .ref bl, .ref bh, .ref bq, .ref br, .ref bd, .int (jI bg), .int (jI bf)])), (bl, .inl (cA, 248, .inl (jA fl))), (bh, .inl (cA, 248, .inl (jA fh)))] s.heap := hP
  have hl := lv_entry ([.ref rda, .ref ba, .int (jI zg)]) (n := 7) (Nat.le_of_ble_eq_true rfl)
  rw [lg_entry_eq]
  generalize (lg_sl ([.ref rda, .ref ba, .int (jI zg)]) ++ List.replicate (7 - (lg_sl ([.ref rda, .ref ba, .int (jI zg)])).length) Slot.unset).toArray = ls at hl ⊢
  have hl : lv_has ls 7 [(0, .ref rda), (1, .ref ba), (2, .int (jI zg))] := hl
  refine ji_iconst hx hb dXR_spans_0 ?_
  refine lv_istore_n (lv' := [(3, .int (jI 0)), (0, .ref rda), (1, .ref ba), (2, .int (jI zg))]) hx hb dXR_spans_1 rfl hl (by decide) rfl (fun ls hl => ?_)
  have loop2 : ∀ (n9 : Nat) (k : Int) (q : Int) (w : Int) (yl : Int → Int) (yh : Int → Int) , 9 - k < (n9 : Int) → f_XR_spans_L2 tn tp tw tf bg bf fl fh zg n9 k q w yl yh = f_XR_spans tn tp tw tf bg bf fl fh zg → (0 ≤ k ∧ k ≤ 9) → (0 ≤ q ∧ q ≤ tn) → (∀ i, 0 ≤ yl i ∧ yl i ≤ 100000) → (∀ i, -1 ≤ yh i ∧ yh i ≤ 100000) → ∀ (H : Heap) (locs : List Loc), va_P (dC, dI) vwCl [(rda, .inr (2, [.ref ta])), (ta, .inr (3, [.ref ts, .int (jI tn), .int (jI q), .int (jI w)])), (ts, .inl (cA, 400, .inl (jA tf))), (ba, .inr (0, [.ref bt, .ref bp, .ref bl, .ref bh, .ref bq, .ref br, .ref bd, .int (jI bg), .int (jI bf)])), (bl, .inl (cA, 248, .inl (jA yl))), (bh, .inl (cA, 248, .inl (jA yh)))] H → va_D A [(rda, .inr (2, [.ref ta])), (ta, .inr (3, [.ref ts, .int (jI tn), .int (jI q), .int (jI w)])), (ts, .inl (cA, 400, .inl (jA tf))), (ba, .inr (0, [.ref bt, .ref bp, .ref bl, .ref bh, .ref bq, .ref br, .ref bd, .int (jI bg), .int (jI bf)])), (bl, .inl (cA, 248, .inl (jA yl))), (bh, .inl (cA, 248, .inl (jA yh)))] → va_S A s.heap H locs → ∀ ls : Array Slot, lv_has ls 7 [(3, .int (jI k)), (0, .ref rda), (1, .ref ba), (2, .int (jI zg))] → W p l e R s m ([.ref rda, .ref ba, .int (jI zg)] : List Value).toArray below meth c H locs 0 0 Q (F0 m 2 ls []) := by
    intro n9
    induction n9 with
    | zero =>
      intro k q w yl yh hm hF hk hq hal hah
      exact absurd hm (by omega)
    | succ n9 ih2 =>
      intro k q w yl yh hm hF hk hq hal hah H locs hP hD hS ls hl
      refine lv_iload_n hx hb dXR_spans_2 rfl (lv_at hl 0 rfl) ?_
      refine ji_bipush hx hb dXR_spans_3 (by decide) ?_
      refine ji_icmp_gt (tgt := 130) hx hb dXR_spans_5 (by decide) (by omega) (by omega) (fun c5_ => ?_) (fun c5_ => ?_)
      · refine ji_iconst hx hb dXR_spans_130 ?_
        have hP9 := hP.sub (ws' := [(rda, .inr (2, [.ref ta])), (ta, .inr (3, [.ref ts, .int (jI tn), .int (jI q), .int (jI w)])), (ts, .inl (cA, 400, .inl (jA tf))), (ba, .inr (0, [.ref bt, .ref bp, .ref bl, .ref bh, .ref bq, .ref br, .ref bd, .int (jI bg), .int (jI bf)])), (bl, .inl (cA, 248, .inl (jA yl))), (bh, .inl (cA, 248, .inl (jA yh)))]) [0, 1, 2, 3, 4, 5] rfl
        have hD9 := hD.sub (ws' := [(rda, .inr (2, [.ref ta])), (ta, .inr (3, [.ref ts, .int (jI tn), .int (jI q), .int (jI w)])), (ts, .inl (cA, 400, .inl (jA tf))), (ba, .inr (0, [.ref bt, .ref bp, .ref bl, .ref bh, .ref bq, .ref br, .ref bd, .int (jI bg), .int (jI bf)])), (bl, .inl (cA, 248, .inl (jA yl))), (bh, .inl (cA, 248, .inl (jA yh)))]) [0, 1, 2, 3, 4, 5] (by decide) rfl
        subst hAe
        subst hQ
        exact W.zret (v := jI 1) hx hb hr (by first | decide | exact jz (by omega)) (fun t ht hW => ⟨⟨_, (1, q, w, yl, yh), rfl, ⟨rfl, Eq.trans (by rw [f_XR_spans_L2_s]; rw [if_pos c5_]; try rfl) hF, show 0 ≤ 1 ∧ 1 ≤ 1 from by first | assumption | omega, show 0 ≤ q ∧ q ≤ tn from by first | assumption | omega, show ∀ i, 0 ≤ yl i ∧ yl i ≤ 100000 from by first | assumption | omega, show ∀ i, -1 ≤ yh i ∧ yh i ≤ 100000 from by first | assumption | omega⟩, ⟨by rw [ht]; exact hP9, va_K.moved hW.alike hK, hD9⟩⟩, hS.F ht⟩) hS.2.2 dXR_spans_131
      · refine lv_aload_n hx hb dXR_spans_8 rfl (lv_at hl 1 rfl) ?_
        refine va_get (D := (dC, dI)) (ci := 2) (v := .ref ta) (C := RXR) (T := TXR) (N := 1) hx hb hts (fun w h => jmem (inXR w h)) hown hK hP 0 rfl rfl 0 (by decide) (hts _ (jmem tw_50)) (fun _ h9 => h9) rfl dXR_spans_9 ?_
        refine jwVi (rest := []) (wr := [(rda, .inr (2, [.ref ta])), (ba, .inr (0, [.ref bt, .ref bp, .ref bl, .ref bh, .ref bq, .ref br, .ref bd, .int (jI bg), .int (jI bf)])), (bl, .inl (cA, 248, .inl (jA yl))), (bh, .inl (cA, 248, .inl (jA yh)))]) ⟨hx, hb, hml, hown, hts⟩ (c_XT_next l dC dI cA _ ta ts tn q w tf (by first | assumption | omega) (by first | assumption | omega) (by first | assumption | omega)) (cwV 0 hts (jG_V tw_142 tw_143 tw_144 tw_2 tw_145) rfl rfl rfl (by decide +kernel) (by rw [hR]; exact ⟨Nat.le_of_ble_eq_true rfl, Nat.le_of_ble_eq_true rfl⟩)) hK hP hD hS hA hN [1, 2] [0, 3, 4, 5] rfl rfl (by decide) (by decide) (by decide) 1 3 rfl rfl rfl rfl hl.1 rfl (Nat.le_of_ble_eq_true rfl) dXR_spans_12 (by rw [hR]; exact ⟨Nat.le_of_ble_eq_true rfl, Nat.le_of_ble_eq_true rfl⟩) (fun v u H locs hwb hP hD hS => ?_)
        obtain ⟨r, tp1'⟩ := u
        try dsimp only at hwb
        obtain ⟨er, hwb⟩ := hwb
        subst er
        have hP : va_P (dC, dI) vwCl [(rda, .inr (2, [.ref ta])), (ba, .inr (0, [.ref bt, .ref bp, .ref bl, .ref bh, .ref bq, .ref br, .ref bd, .int (jI bg), .int (jI bf)])), (bl, .inl (cA, 248, .inl (jA yl))), (bh, .inl (cA, 248, .inl (jA yh))), (ta, .inr (3, [.ref ts, .int (jI tn), .int (jI tp1'), .int (jI w)])), (ts, .inl (cA, 400, .inl (jA tf)))] H := hP
        have hD : va_D A [(rda, .inr (2, [.ref ta])), (ba, .inr (0, [.ref bt, .ref bp, .ref bl, .ref bh, .ref bq, .ref br, .ref bd, .int (jI bg), .int (jI bf)])), (bl, .inl (cA, 248, .inl (jA yl))), (bh, .inl (cA, 248, .inl (jA yh))), (ta, .inr (3, [.ref ts, .int (jI tn), .int (jI tp1'), .int (jI w)])), (ts, .inl (cA, 400, .inl (jA tf)))] := hD
        have f := f_XT_next_b tn q w tf (by first | assumption | omega) (by first | assumption | omega) (by first | assumption | omega)
        rw [← hwb] at f; try dsimp only at f
        refine jrNi (rest := []) ⟨hx, hb, hml, hown, hts⟩ (c_XG_isElement l dC dI cA r (by first | assumption | omega)) ⟨va_cnB 1 hts (jG (jG_c tw_237)) rfl rfl rfl (jN.n235 hN) (hts _ (jmem tw_1)) (by decide +kernel) (by rw [hR]; exact ⟨Nat.le_of_ble_eq_true rfl, Nat.le_of_ble_eq_true rfl⟩), hts _ (jmem tw_236), trivial⟩ hK hP hN [] rfl rfl hl.1 rfl (Nat.le_of_ble_eq_true rfl) dXR_spans_15 (by rw [hR]; exact ⟨Nat.le_of_ble_eq_true rfl, Nat.le_of_ble_eq_true rfl⟩) ?_
        have f1 := f_XG_isElement_01 r (by first | assumption | omega)
        refine ji_if_eq (tgt := 130) hx hb dXR_spans_18 (by decide) (by omega) (fun c18_ => ?_) (fun c18_ => ?_)
        · refine ji_iconst hx hb dXR_spans_130 ?_
          have hP9 := hP.sub (ws' := [(rda, .inr (2, [.ref ta])), (ta, .inr (3, [.ref ts, .int (jI tn), .int (jI tp1'), .int (jI w)])), (ts, .inl (cA, 400, .inl (jA tf))), (ba, .inr (0, [.ref bt, .ref bp, .ref bl, .ref bh, .ref bq, .ref br, .ref bd, .int (jI bg), .int (jI bf)])), (bl, .inl (cA, 248, .inl (jA yl))), (bh, .inl (cA, 248, .inl (jA yh)))]) [0, 4, 5, 1, 2, 3] rfl
          have hD9 := hD.sub (ws' := [(rda, .inr (2, [.ref ta])), (ta, .inr (3, [.ref ts, .int (jI tn), .int (jI tp1'), .int (jI w)])), (ts, .inl (cA, 400, .inl (jA tf))), (ba, .inr (0, [.ref bt, .ref bp, .ref bl, .ref bh, .ref bq, .ref br, .ref bd, .int (jI bg), .int (jI bf)])), (bl, .inl (cA, 248, .inl (jA yl))), (bh, .inl (cA, 248, .inl (jA yh)))]) [0, 4, 5, 1, 2, 3] (by decide) rfl
          subst hAe
          subst hQ
          exact W.zret (v := jI 1) hx hb hr (by first | decide | exact jz (by omega)) (fun t ht hW => ⟨⟨_, (1, tp1', w, yl, yh), rfl, ⟨rfl, Eq.trans (by rw [f_XR_spans_L2_s]; rw [if_neg (Int.not_lt.mpr c5_)]; rw [← hwb]; try dsimp only; rw [if_pos c18_]; try rfl) hF, show 0 ≤ 1 ∧ 1 ≤ 1 from by first | assumption | omega, show 0 ≤ tp1' ∧ tp1' ≤ tn from by first | assumption | omega, show ∀ i, 0 ≤ yl i ∧ yl i ≤ 100000 from by first | assumption | omega, show ∀ i, -1 ≤ yh i ∧ yh i ≤ 100000 from by first | assumption | omega⟩, ⟨by rw [ht]; exact hP9, va_K.moved hW.alike hK, hD9⟩⟩, hS.F ht⟩) hS.2.2 dXR_spans_131
        · refine lv_aload_n hx hb dXR_spans_21 rfl (lv_at hl 1 rfl) ?_
          refine va_get (D := (dC, dI)) (ci := 2) (v := .ref ta) (C := RXR) (T := TXR) (N := 1) hx hb hts (fun w h => jmem (inXR w h)) hown hK hP 0 rfl rfl 0 (by decide) (hts _ (jmem tw_50)) (fun _ h9 => h9) rfl dXR_spans_22 ?_
          refine ji_bipush hx hb dXR_spans_25 (by decide) ?_
          refine ji_bipush hx hb dXR_spans_27 (by decide) ?_
          refine jwVi (rest := []) (wr := [(rda, .inr (2, [.ref ta])), (ba, .inr (0, [.ref bt, .ref bp, .ref bl, .ref bh, .ref bq, .ref br, .ref bd, .int (jI bg), .int (jI bf)])), (bl, .inl (cA, 248, .inl (jA yl))), (bh, .inl (cA, 248, .inl (jA yh)))]) ⟨hx, hb, hml, hown, hts⟩ (c_XT_takeOneOf l dC dI cA _ ta ts tn tp1' w tf 65 8 (by first | assumption | omega) (by first | assumption | omega) (by first | assumption | omega) (by first | assumption | omega) (by first | assumption | omega)) (cwV 2 hts (jG_V tw_159 tw_160 tw_161 tw_2 tw_162) rfl rfl rfl (by decide +kernel) (by rw [hR]; exact ⟨Nat.le_of_ble_eq_true rfl, Nat.le_of_ble_eq_true rfl⟩)) hK hP hD hS hA hN [4, 5] [0, 1, 2, 3] rfl rfl (by decide) (by decide) (by decide) 4 3 rfl rfl rfl rfl hl.1 rfl (Nat.le_of_ble_eq_true rfl) dXR_spans_29 (by rw [hR]; exact ⟨Nat.le_of_ble_eq_true rfl, Nat.le_of_ble_eq_true rfl⟩) (fun v5 u4 H locs hwb6 hP hD hS => ?_)
          obtain ⟨r2, tp1'3, tw1'⟩ := u4
          try dsimp only at hwb6
          obtain ⟨er, hwb6⟩ := hwb6
          subst er
          have hP : va_P (dC, dI) vwCl [(rda, .inr (2, [.ref ta])), (ba, .inr (0, [.ref bt, .ref bp, .ref bl, .ref bh, .ref bq, .ref br, .ref bd, .int (jI bg), .int (jI bf)])), (bl, .inl (cA, 248, .inl (jA yl))), (bh, .inl (cA, 248, .inl (jA yh))), (ta, .inr (3, [.ref ts, .int (jI tn), .int (jI tp1'3), .int (jI tw1')])), (ts, .inl (cA, 400, .inl (jA tf)))] H := hP
          have hD : va_D A [(rda, .inr (2, [.ref ta])), (ba, .inr (0, [.ref bt, .ref bp, .ref bl, .ref bh, .ref bq, .ref br, .ref bd, .int (jI bg), .int (jI bf)])), (bl, .inl (cA, 248, .inl (jA yl))), (bh, .inl (cA, 248, .inl (jA yh))), (ta, .inr (3, [.ref ts, .int (jI tn), .int (jI tp1'3), .int (jI tw1')])), (ts, .inl (cA, 400, .inl (jA tf)))] := hD
          have f7 := f_XT_takeOneOf_b tn tp1' w tf 65 8 (by first | assumption | omega) (by first | assumption | omega) (by first | assumption | omega) (by first | assumption | omega) (by first | assumption | omega)
          rw [← hwb6] at f7; try dsimp only at f7
          refine lv_istore (lv' := [(4, .int (jI r2)), (3, .int (jI k)), (0, .ref rda), (1, .ref ba), (2, .int (jI zg))]) hx hb dXR_spans_32 hl (by decide) rfl (fun ls hl => ?_)
          refine lv_iload hx hb dXR_spans_34 (lv_at hl 0 rfl) ?_
          refine ji_iconst hx hb dXR_spans_36 ?_
          refine ji_icmp_ne (tgt := 42) hx hb dXR_spans_37 (by decide) (by omega) (by omega) (fun c37_ => ?_) (fun c37_ => ?_)
          · refine lv_aload_n hx hb dXR_spans_42 rfl (lv_at hl 3 rfl) ?_
            refine lv_iload_n hx hb dXR_spans_43 rfl (lv_at hl 4 rfl) ?_
            refine lv_iload hx hb dXR_spans_44 (lv_at hl 0 rfl) ?_
            refine jrVi (rest := []) ⟨hx, hb, hml, hown, hts⟩ (c_XB_tellsSpan l dC dI cA ba bt bp bl bh bq br bd bg bf yh zg r2 (by first | assumption | omega) (by first | assumption | omega) (by first | assumption | omega)) (cwV 2 hts (jG_V tw_238 tw_239 tw_240 tw_5 tw_241) rfl rfl rfl (by decide +kernel) (by rw [hR]; exact ⟨Nat.le_of_ble_eq_true rfl, Nat.le_of_ble_eq_true rfl⟩)) hK hP hN [1, 3] rfl 1 0 rfl rfl rfl rfl hl.1 rfl (Nat.le_of_ble_eq_true rfl) dXR_spans_46 (by rw [hR]; exact ⟨Nat.le_of_ble_eq_true rfl, Nat.le_of_ble_eq_true rfl⟩) ?_
            have f8 := f_XB_tellsSpan_b bg bf yh zg r2 (by first | assumption | omega) (by first | assumption | omega) (by first | assumption | omega)
            have f9 := f_XB_tellsSpan_c bg bf yh zg r2 (by first | assumption | omega) (by first | assumption | omega) (by first | assumption | omega)
            refine ji_if_eq (tgt := 60) hx hb dXR_spans_49 (by decide) (by omega) (fun c49_ => ?_) (fun c49_ => ?_)
            · refine lv_aload_n hx hb dXR_spans_60 rfl (lv_at hl 2 rfl) ?_
              refine va_get (D := (dC, dI)) (ci := 2) (v := .ref ta) (C := RXR) (T := TXR) (N := 1) hx hb hts (fun w h => jmem (inXR w h)) hown hK hP 0 rfl rfl 0 (by decide) (hts _ (jmem tw_50)) (fun _ h9 => h9) rfl dXR_spans_61 ?_
              refine ji_iconst hx hb dXR_spans_64 ?_
              refine lv_ldc hx hb hown (hts _ (jmem tw_242)) dXR_spans_65 ?_
              refine ji_re (y := 100000) (by decide) ?_
              refine jwVi (rest := []) (wr := [(rda, .inr (2, [.ref ta])), (ba, .inr (0, [.ref bt, .ref bp, .ref bl, .ref bh, .ref bq, .ref br, .ref bd, .int (jI bg), .int (jI bf)])), (bl, .inl (cA, 248, .inl (jA yl))), (bh, .inl (cA, 248, .inl (jA yh)))]) ⟨hx, hb, hml, hown, hts⟩ (c_XT_number l dC dI cA _ ta ts tn tp1'3 tw1' tf 0 100000 (by first | assumption | omega) (by first | assumption | omega) (by first | assumption | omega) (by first | assumption | omega) (by first | assumption | omega)) (cwV 2 hts (jG_V tw_194 tw_195 tw_196 tw_2 tw_197) rfl rfl rfl (by decide +kernel) (by rw [hR]; exact ⟨Nat.le_of_ble_eq_true rfl, Nat.le_of_ble_eq_true rfl⟩)) hK hP hD hS hA hN [4, 5] [0, 1, 2, 3] rfl rfl (by decide) (by decide) (by decide) 4 3 rfl rfl rfl rfl hl.1 rfl (Nat.le_of_ble_eq_true rfl) dXR_spans_67 (by rw [hR]; exact ⟨Nat.le_of_ble_eq_true rfl, Nat.le_of_ble_eq_true rfl⟩) (fun v14 u13 H locs hwb15 hP hD hS => ?_)
              obtain ⟨r10, tp1'11, tw1'12⟩ := u13
              try dsimp only at hwb15
              obtain ⟨er, hwb15⟩ := hwb15
              subst er
              have hP : va_P (dC, dI) vwCl [(rda, .inr (2, [.ref ta])), (ba, .inr (0, [.ref bt, .ref bp, .ref bl, .ref bh, .ref bq, .ref br, .ref bd, .int (jI bg), .int (jI bf)])), (bl, .inl (cA, 248, .inl (jA yl))), (bh, .inl (cA, 248, .inl (jA yh))), (ta, .inr (3, [.ref ts, .int (jI tn), .int (jI tp1'11), .int (jI tw1'12)])), (ts, .inl (cA, 400, .inl (jA tf)))] H := hP
              have hD : va_D A [(rda, .inr (2, [.ref ta])), (ba, .inr (0, [.ref bt, .ref bp, .ref bl, .ref bh, .ref bq, .ref br, .ref bd, .int (jI bg), .int (jI bf)])), (bl, .inl (cA, 248, .inl (jA yl))), (bh, .inl (cA, 248, .inl (jA yh))), (ta, .inr (3, [.ref ts, .int (jI tn), .int (jI tp1'11), .int (jI tw1'12)])), (ts, .inl (cA, 400, .inl (jA tf)))] := hD
              have f16 := f_XT_number_b tn tp1'3 tw1' tf 0 100000 (by first | assumption | omega) (by first | assumption | omega) (by first | assumption | omega) (by first | assumption | omega) (by first | assumption | omega)
              rw [← hwb15] at f16; try dsimp only at f16
              refine lv_istore (lv' := [(5, .int (jI r10)), (4, .int (jI r2)), (3, .int (jI k)), (0, .ref rda), (1, .ref ba), (2, .int (jI zg))]) hx hb dXR_spans_70 hl (by decide) rfl (fun ls hl => ?_)
              refine lv_iload hx hb dXR_spans_72 (lv_at hl 0 rfl) ?_
              refine ji_iconst hx hb dXR_spans_74 ?_
              refine ji_icmp_eq (tgt := 90) hx hb dXR_spans_75 (by decide) (by omega) (by omega) (fun c75_ => ?_) (fun c75_ => ?_)
              · refine ji_iconst hx hb dXR_spans_90 ?_
                have hP9 := hP.sub (ws' := [(rda, .inr (2, [.ref ta])), (ta, .inr (3, [.ref ts, .int (jI tn), .int (jI tp1'11), .int (jI tw1'12)])), (ts, .inl (cA, 400, .inl (jA tf))), (ba, .inr (0, [.ref bt, .ref bp, .ref bl, .ref bh, .ref bq, .ref br, .ref bd, .int (jI bg), .int (jI bf)])), (bl, .inl (cA, 248, .inl (jA yl))), (bh, .inl (cA, 248, .inl (jA yh)))]) [0, 4, 5, 1, 2, 3] rfl
                have hD9 := hD.sub (ws' := [(rda, .inr (2, [.ref ta])), (ta, .inr (3, [.ref ts, .int (jI tn), .int (jI tp1'11), .int (jI tw1'12)])), (ts, .inl (cA, 400, .inl (jA tf))), (ba, .inr (0, [.ref bt, .ref bp, .ref bl, .ref bh, .ref bq, .ref br, .ref bd, .int (jI bg), .int (jI bf)])), (bl, .inl (cA, 248, .inl (jA yl))), (bh, .inl (cA, 248, .inl (jA yh)))]) [0, 4, 5, 1, 2, 3] (by decide) rfl
                subst hAe
                subst hQ
                exact W.zret (v := jI 0) hx hb hr (by first | decide | exact jz (by omega)) (fun t ht hW => ⟨⟨_, (0, tp1'11, tw1'12, yl, yh), rfl, ⟨rfl, Eq.trans (by rw [f_XR_spans_L2_s]; rw [if_neg (Int.not_lt.mpr c5_)]; rw [← hwb]; try dsimp only; rw [if_neg c18_]; rw [← hwb6]; try dsimp only; rw [if_neg c37_, if_pos c49_]; rw [← hwb15]; try dsimp only; rw [if_pos c75_]; try rfl) hF, show 0 ≤ 0 ∧ 0 ≤ 1 from by first | assumption | omega, show 0 ≤ tp1'11 ∧ tp1'11 ≤ tn from by first | assumption | omega, show ∀ i, 0 ≤ yl i ∧ yl i ≤ 100000 from by first | assumption | omega, show ∀ i, -1 ≤ yh i ∧ yh i ≤ 100000 from by first | assumption | omega⟩, ⟨by rw [ht]; exact hP9, va_K.moved hW.alike hK, hD9⟩⟩, hS.F ht⟩) hS.2.2 dXR_spans_91
              · refine lv_aload_n hx hb dXR_spans_78 rfl (lv_at hl 3 rfl) ?_
                refine va_get (D := (dC, dI)) (ci := 2) (v := .ref ta) (C := RXR) (T := TXR) (N := 1) hx hb hts (fun w h => jmem (inXR w h)) hown hK hP 0 rfl rfl 0 (by decide) (hts _ (jmem tw_50)) (fun _ h9 => h9) rfl dXR_spans_79 ?_
                refine ji_bipush hx hb dXR_spans_82 (by decide) ?_
                refine jwVi (rest := []) (wr := [(rda, .inr (2, [.ref ta])), (ba, .inr (0, [.ref bt, .ref bp, .ref bl, .ref bh, .ref bq, .ref br, .ref bd, .int (jI bg), .int (jI bf)])), (bl, .inl (cA, 248, .inl (jA yl))), (bh, .inl (cA, 248, .inl (jA yh)))]) ⟨hx, hb, hml, hown, hts⟩ (c_XT_take l dC dI cA _ ta ts tn tp1'11 tw1'12 tf 45 (by first | assumption | omega) (by first | assumption | omega) (by first | assumption | omega) (by first | assumption | omega) (by first | assumption | omega)) (cwV 1 hts (jG_V tw_182 tw_183 tw_184 tw_2 tw_185) rfl rfl rfl (by decide +kernel) (by rw [hR]; exact ⟨Nat.le_of_ble_eq_true rfl, Nat.le_of_ble_eq_true rfl⟩)) hK hP hD hS hA hN [4, 5] [0, 1, 2, 3] rfl rfl (by decide) (by decide) (by decide) 4 3 rfl rfl rfl rfl hl.1 rfl (Nat.le_of_ble_eq_true rfl) dXR_spans_84 (by rw [hR]; exact ⟨Nat.le_of_ble_eq_true rfl, Nat.le_of_ble_eq_true rfl⟩) (fun v21 u20 H locs hwb22 hP hD hS => ?_)
                obtain ⟨r17, tp1'18, tw1'19⟩ := u20
                try dsimp only at hwb22
                obtain ⟨er, hwb22⟩ := hwb22
                subst er
                have hP : va_P (dC, dI) vwCl [(rda, .inr (2, [.ref ta])), (ba, .inr (0, [.ref bt, .ref bp, .ref bl, .ref bh, .ref bq, .ref br, .ref bd, .int (jI bg), .int (jI bf)])), (bl, .inl (cA, 248, .inl (jA yl))), (bh, .inl (cA, 248, .inl (jA yh))), (ta, .inr (3, [.ref ts, .int (jI tn), .int (jI tp1'18), .int (jI tw1'19)])), (ts, .inl (cA, 400, .inl (jA tf)))] H := hP
                have hD : va_D A [(rda, .inr (2, [.ref ta])), (ba, .inr (0, [.ref bt, .ref bp, .ref bl, .ref bh, .ref bq, .ref br, .ref bd, .int (jI bg), .int (jI bf)])), (bl, .inl (cA, 248, .inl (jA yl))), (bh, .inl (cA, 248, .inl (jA yh))), (ta, .inr (3, [.ref ts, .int (jI tn), .int (jI tp1'18), .int (jI tw1'19)])), (ts, .inl (cA, 400, .inl (jA tf)))] := hD
                have f23 := f_XT_take_b tn tp1'11 tw1'12 tf 45 (by first | assumption | omega) (by first | assumption | omega) (by first | assumption | omega) (by first | assumption | omega) (by first | assumption | omega)
                rw [← hwb22] at f23; try dsimp only at f23
                refine ji_if_ne (tgt := 92) hx hb dXR_spans_87 (by decide) (by omega) (fun c87_ => ?_) (fun c87_ => ?_)
                · refine lv_aload_n hx hb dXR_spans_92 rfl (lv_at hl 3 rfl) ?_
                  refine va_get (D := (dC, dI)) (ci := 2) (v := .ref ta) (C := RXR) (T := TXR) (N := 1) hx hb hts (fun w h => jmem (inXR w h)) hown hK hP 0 rfl rfl 0 (by decide) (hts _ (jmem tw_50)) (fun _ h9 => h9) rfl dXR_spans_93 ?_
                  refine lv_iload hx hb dXR_spans_96 (lv_at hl 0 rfl) ?_
                  refine lv_ldc hx hb hown (hts _ (jmem tw_242)) dXR_spans_98 ?_
                  refine ji_re (y := 100000) (by decide) ?_
                  refine jwVi (rest := []) (wr := [(rda, .inr (2, [.ref ta])), (ba, .inr (0, [.ref bt, .ref bp, .ref bl, .ref bh, .ref bq, .ref br, .ref bd, .int (jI bg), .int (jI bf)])), (bl, .inl (cA, 248, .inl (jA yl))), (bh, .inl (cA, 248, .inl (jA yh)))]) ⟨hx, hb, hml, hown, hts⟩ (c_XT_number l dC dI cA _ ta ts tn tp1'18 tw1'19 tf r10 100000 (by first | assumption | omega) (by first | assumption | omega) (by first | assumption | omega) (by first | assumption | omega) (by first | assumption | omega)) (cwV 2 hts (jG_V tw_194 tw_195 tw_196 tw_2 tw_197) rfl rfl rfl (by decide +kernel) (by rw [hR]; exact ⟨Nat.le_of_ble_eq_true rfl, Nat.le_of_ble_eq_true rfl⟩)) hK hP hD hS hA hN [4, 5] [0, 1, 2, 3] rfl rfl (by decide) (by decide) (by decide) 4 3 rfl rfl rfl rfl hl.1 rfl (Nat.le_of_ble_eq_true rfl) dXR_spans_100 (by rw [hR]; exact ⟨Nat.le_of_ble_eq_true rfl, Nat.le_of_ble_eq_true rfl⟩) (fun v28 u27 H locs hwb29 hP hD hS => ?_)
                  obtain ⟨r24, tp1'25, tw1'26⟩ := u27
                  try dsimp only at hwb29
                  obtain ⟨er, hwb29⟩ := hwb29
                  subst er
                  have hP : va_P (dC, dI) vwCl [(rda, .inr (2, [.ref ta])), (ba, .inr (0, [.ref bt, .ref bp, .ref bl, .ref bh, .ref bq, .ref br, .ref bd, .int (jI bg), .int (jI bf)])), (bl, .inl (cA, 248, .inl (jA yl))), (bh, .inl (cA, 248, .inl (jA yh))), (ta, .inr (3, [.ref ts, .int (jI tn), .int (jI tp1'25), .int (jI tw1'26)])), (ts, .inl (cA, 400, .inl (jA tf)))] H := hP
                  have hD : va_D A [(rda, .inr (2, [.ref ta])), (ba, .inr (0, [.ref bt, .ref bp, .ref bl, .ref bh, .ref bq, .ref br, .ref bd, .int (jI bg), .int (jI bf)])), (bl, .inl (cA, 248, .inl (jA yl))), (bh, .inl (cA, 248, .inl (jA yh))), (ta, .inr (3, [.ref ts, .int (jI tn), .int (jI tp1'25), .int (jI tw1'26)])), (ts, .inl (cA, 400, .inl (jA tf)))] := hD
                  have f30 := f_XT_number_b tn tp1'18 tw1'19 tf r10 100000 (by first | assumption | omega) (by first | assumption | omega) (by first | assumption | omega) (by first | assumption | omega) (by first | assumption | omega)
                  rw [← hwb29] at f30; try dsimp only at f30
                  refine lv_istore (lv' := [(6, .int (jI r24)), (5, .int (jI r10)), (4, .int (jI r2)), (3, .int (jI k)), (0, .ref rda), (1, .ref ba), (2, .int (jI zg))]) hx hb dXR_spans_103 hl (by decide) rfl (fun ls hl => ?_)
                  refine lv_iload hx hb dXR_spans_105 (lv_at hl 0 rfl) ?_
                  refine ji_iconst hx hb dXR_spans_107 ?_
                  refine ji_icmp_ne (tgt := 113) hx hb dXR_spans_108 (by decide) (by omega) (by omega) (fun c108_ => ?_) (fun c108_ => ?_)
                  · refine lv_aload_n hx hb dXR_spans_113 rfl (lv_at hl 5 rfl) ?_
                    refine lv_iload_n hx hb dXR_spans_114 rfl (lv_at hl 6 rfl) ?_
                    refine lv_iload hx hb dXR_spans_115 (lv_at hl 2 rfl) ?_
                    refine lv_iload hx hb dXR_spans_117 (lv_at hl 1 rfl) ?_
                    refine lv_iload hx hb dXR_spans_119 (lv_at hl 0 rfl) ?_
                    refine jwVv (rest := []) (wr := [(rda, .inr (2, [.ref ta])), (ta, .inr (3, [.ref ts, .int (jI tn), .int (jI tp1'25), .int (jI tw1'26)])), (ts, .inl (cA, 400, .inl (jA tf)))]) ⟨hx, hb, hml, hown, hts⟩ (c_XB_tellSpan l dC dI cA _ ba bt bp bl bh bq br bd bg bf yl yh zg r2 r10 r24 (by first | assumption | omega) (by first | assumption | omega) (by first | assumption | omega) (by first | assumption | omega) (by first | assumption | omega) (by first | assumption | omega)) (cwV 4 hts (jG_V tw_243 tw_244 tw_245 tw_5 tw_246) rfl rfl rfl (by decide +kernel) (by rw [hR]; exact ⟨Nat.le_of_ble_eq_true rfl, Nat.le_of_ble_eq_true rfl⟩)) hK hP hD hS hA hN [1, 2, 3] [0, 4, 5] rfl rfl (by decide) (by decide) (by decide) 1 0 rfl rfl rfl rfl hl.1 rfl (Nat.le_of_ble_eq_true rfl) dXR_spans_121 (by rw [hR]; exact ⟨Nat.le_of_ble_eq_true rfl, Nat.le_of_ble_eq_true rfl⟩) (fun u31 H locs hwb32 hP hD hS => ?_)
                    obtain ⟨fl1', fh1'⟩ := u31
                    try dsimp only at hwb32
                    have hP : va_P (dC, dI) vwCl [(rda, .inr (2, [.ref ta])), (ta, .inr (3, [.ref ts, .int (jI tn), .int (jI tp1'25), .int (jI tw1'26)])), (ts, .inl (cA, 400, .inl (jA tf))), (ba, .inr (0, [.ref bt, .ref bp, .ref bl, .ref bh, .ref bq, .ref br, .ref bd, .int (jI bg), .int (jI bf)])), (bl, .inl (cA, 248, .inl (jA fl1'))), (bh, .inl (cA, 248, .inl (jA fh1')))] H := hP
                    have hD : va_D A [(rda, .inr (2, [.ref ta])), (ta, .inr (3, [.ref ts, .int (jI tn), .int (jI tp1'25), .int (jI tw1'26)])), (ts, .inl (cA, 400, .inl (jA tf))), (ba, .inr (0, [.ref bt, .ref bp, .ref bl, .ref bh, .ref bq, .ref br, .ref bd, .int (jI bg), .int (jI bf)])), (bl, .inl (cA, 248, .inl (jA fl1'))), (bh, .inl (cA, 248, .inl (jA fh1')))] := hD
                    have f33 := f_XB_tellSpan_l bg bf yl yh zg r2 r10 r24 (by first | assumption | omega) (by first | assumption | omega) (by first | assumption | omega) (by first | assumption | omega) (by first | assumption | omega) (by first | assumption | omega)
                    rw [← hwb32] at f33; try dsimp only at f33
                    have f34 := f_XB_tellSpan_h bg bf yl yh zg r2 r10 r24 (by first | assumption | omega) (by first | assumption | omega) (by first | assumption | omega) (by first | assumption | omega) (by first | assumption | omega) (by first | assumption | omega)
                    rw [← hwb32] at f34; try dsimp only at f34
                    refine ji_iinc (k := 3) (lv' := [(3, .int (jI (k + 1))), (6, .int (jI r24)), (5, .int (jI r10)), (4, .int (jI r2)), (0, .ref rda), (1, .ref ba), (2, .int (jI zg))]) hx hb dXR_spans_124 hl rfl (by decide) rfl (fun ls hl => ?_)
                    refine lv_goto (tgt := 2) hx hb dXR_spans_127 (by decide) ?_
                    exact ih2 (k + 1) tp1'25 tw1'26 fl1' fh1' (by omega) (Eq.trans (by rw [f_XR_spans_L2_s]; rw [if_neg (Int.not_lt.mpr c5_)]; rw [← hwb]; try dsimp only; rw [if_neg c18_]; rw [← hwb6]; try dsimp only; rw [if_neg c37_, if_pos c49_]; rw [← hwb15]; try dsimp only; rw [if_neg c75_]; rw [← hwb22]; try dsimp only; rw [if_neg c87_]; rw [← hwb29]; try dsimp only; rw [if_neg c108_]; rw [← hwb32]; try dsimp only; try rfl) hF) (by first | assumption | omega) (by first | assumption | omega) (by first | assumption | omega) (by first | assumption | omega) _ _ hP hD hS ls (lv_sub hl [0, 4, 5, 6] rfl)
                  · refine ji_iconst hx hb dXR_spans_111 ?_
                    have hP9 := hP.sub (ws' := [(rda, .inr (2, [.ref ta])), (ta, .inr (3, [.ref ts, .int (jI tn), .int (jI tp1'25), .int (jI tw1'26)])), (ts, .inl (cA, 400, .inl (jA tf))), (ba, .inr (0, [.ref bt, .ref bp, .ref bl, .ref bh, .ref bq, .ref br, .ref bd, .int (jI bg), .int (jI bf)])), (bl, .inl (cA, 248, .inl (jA yl))), (bh, .inl (cA, 248, .inl (jA yh)))]) [0, 4, 5, 1, 2, 3] rfl
                    have hD9 := hD.sub (ws' := [(rda, .inr (2, [.ref ta])), (ta, .inr (3, [.ref ts, .int (jI tn), .int (jI tp1'25), .int (jI tw1'26)])), (ts, .inl (cA, 400, .inl (jA tf))), (ba, .inr (0, [.ref bt, .ref bp, .ref bl, .ref bh, .ref bq, .ref br, .ref bd, .int (jI bg), .int (jI bf)])), (bl, .inl (cA, 248, .inl (jA yl))), (bh, .inl (cA, 248, .inl (jA yh)))]) [0, 4, 5, 1, 2, 3] (by decide) rfl
                    subst hAe
                    subst hQ
                    exact W.zret (v := jI 0) hx hb hr (by first | decide | exact jz (by omega)) (fun t ht hW => ⟨⟨_, (0, tp1'25, tw1'26, yl, yh), rfl, ⟨rfl, Eq.trans (by rw [f_XR_spans_L2_s]; rw [if_neg (Int.not_lt.mpr c5_)]; rw [← hwb]; try dsimp only; rw [if_neg c18_]; rw [← hwb6]; try dsimp only; rw [if_neg c37_, if_pos c49_]; rw [← hwb15]; try dsimp only; rw [if_neg c75_]; rw [← hwb22]; try dsimp only; rw [if_neg c87_]; rw [← hwb29]; try dsimp only; rw [if_pos c108_]; try rfl) hF, show 0 ≤ 0 ∧ 0 ≤ 1 from by first | assumption | omega, show 0 ≤ tp1'25 ∧ tp1'25 ≤ tn from by first | assumption | omega, show ∀ i, 0 ≤ yl i ∧ yl i ≤ 100000 from by first | assumption | omega, show ∀ i, -1 ≤ yh i ∧ yh i ≤ 100000 from by first | assumption | omega⟩, ⟨by rw [ht]; exact hP9, va_K.moved hW.alike hK, hD9⟩⟩, hS.F ht⟩) hS.2.2 dXR_spans_112
                · refine ji_iconst hx hb dXR_spans_90 ?_
                  have hP9 := hP.sub (ws' := [(rda, .inr (2, [.ref ta])), (ta, .inr (3, [.ref ts, .int (jI tn), .int (jI tp1'18), .int (jI tw1'19)])), (ts, .inl (cA, 400, .inl (jA tf))), (ba, .inr (0, [.ref bt, .ref bp, .ref bl, .ref bh, .ref bq, .ref br, .ref bd, .int (jI bg), .int (jI bf)])), (bl, .inl (cA, 248, .inl (jA yl))), (bh, .inl (cA, 248, .inl (jA yh)))]) [0, 4, 5, 1, 2, 3] rfl
                  have hD9 := hD.sub (ws' := [(rda, .inr (2, [.ref ta])), (ta, .inr (3, [.ref ts, .int (jI tn), .int (jI tp1'18), .int (jI tw1'19)])), (ts, .inl (cA, 400, .inl (jA tf))), (ba, .inr (0, [.ref bt, .ref bp, .ref bl, .ref bh, .ref bq, .ref br, .ref bd, .int (jI bg), .int (jI bf)])), (bl, .inl (cA, 248, .inl (jA yl))), (bh, .inl (cA, 248, .inl (jA yh)))]) [0, 4, 5, 1, 2, 3] (by decide) rfl
                  subst hAe
                  subst hQ
                  exact W.zret (v := jI 0) hx hb hr (by first | decide | exact jz (by omega)) (fun t ht hW => ⟨⟨_, (0, tp1'18, tw1'19, yl, yh), rfl, ⟨rfl, Eq.trans (by rw [f_XR_spans_L2_s]; rw [if_neg (Int.not_lt.mpr c5_)]; rw [← hwb]; try dsimp only; rw [if_neg c18_]; rw [← hwb6]; try dsimp only; rw [if_neg c37_, if_pos c49_]; rw [← hwb15]; try dsimp only; rw [if_neg c75_]; rw [← hwb22]; try dsimp only; rw [if_pos c87_]; try rfl) hF, show 0 ≤ 0 ∧ 0 ≤ 1 from by first | assumption | omega, show 0 ≤ tp1'18 ∧ tp1'18 ≤ tn from by first | assumption | omega, show ∀ i, 0 ≤ yl i ∧ yl i ≤ 100000 from by first | assumption | omega, show ∀ i, -1 ≤ yh i ∧ yh i ≤ 100000 from by first | assumption | omega⟩, ⟨by rw [ht]; exact hP9, va_K.moved hW.alike hK, hD9⟩⟩, hS.F ht⟩) hS.2.2 dXR_spans_91
            · refine lv_aload_n hx hb dXR_spans_52 rfl (lv_at hl 2 rfl) ?_
              refine va_get (D := (dC, dI)) (ci := 2) (v := .ref ta) (C := RXR) (T := TXR) (N := 1) hx hb hts (fun w h => jmem (inXR w h)) hown hK hP 0 rfl rfl 0 (by decide) (hts _ (jmem tw_50)) (fun _ h9 => h9) rfl dXR_spans_53 ?_
              refine jwVi (rest := []) (wr := [(rda, .inr (2, [.ref ta])), (ba, .inr (0, [.ref bt, .ref bp, .ref bl, .ref bh, .ref bq, .ref br, .ref bd, .int (jI bg), .int (jI bf)])), (bl, .inl (cA, 248, .inl (jA yl))), (bh, .inl (cA, 248, .inl (jA yh)))]) ⟨hx, hb, hml, hown, hts⟩ (c_XT_refuseLast l dC dI cA _ ta ts tn tp1'3 tw1' tf) (cwV 0 hts (jG_V tw_174 tw_175 tw_176 tw_2 tw_177) rfl rfl rfl (by decide +kernel) (by rw [hR]; exact ⟨Nat.le_of_ble_eq_true rfl, Nat.le_of_ble_eq_true rfl⟩)) hK hP hD hS hA hN [4, 5] [0, 1, 2, 3] rfl rfl (by decide) (by decide) (by decide) 4 3 rfl rfl rfl rfl hl.1 rfl (Nat.le_of_ble_eq_true rfl) dXR_spans_56 (by rw [hR]; exact ⟨Nat.le_of_ble_eq_true rfl, Nat.le_of_ble_eq_true rfl⟩) (fun v38 u37 H locs hwb39 hP hD hS => ?_)
              obtain ⟨r35, tw1'36⟩ := u37
              try dsimp only at hwb39
              obtain ⟨er, hwb39⟩ := hwb39
              subst er
              have hP : va_P (dC, dI) vwCl [(rda, .inr (2, [.ref ta])), (ba, .inr (0, [.ref bt, .ref bp, .ref bl, .ref bh, .ref bq, .ref br, .ref bd, .int (jI bg), .int (jI bf)])), (bl, .inl (cA, 248, .inl (jA yl))), (bh, .inl (cA, 248, .inl (jA yh))), (ta, .inr (3, [.ref ts, .int (jI tn), .int (jI tp1'3), .int (jI tw1'36)])), (ts, .inl (cA, 400, .inl (jA tf)))] H := hP
              have hD : va_D A [(rda, .inr (2, [.ref ta])), (ba, .inr (0, [.ref bt, .ref bp, .ref bl, .ref bh, .ref bq, .ref br, .ref bd, .int (jI bg), .int (jI bf)])), (bl, .inl (cA, 248, .inl (jA yl))), (bh, .inl (cA, 248, .inl (jA yh))), (ta, .inr (3, [.ref ts, .int (jI tn), .int (jI tp1'3), .int (jI tw1'36)])), (ts, .inl (cA, 400, .inl (jA tf)))] := hD
              have f40 := f_XT_refuseLast_b tn tp1'3 tw1' tf
              rw [← hwb39] at f40; try dsimp only at f40
              have hP9 := hP.sub (ws' := [(rda, .inr (2, [.ref ta])), (ta, .inr (3, [.ref ts, .int (jI tn), .int (jI tp1'3), .int (jI tw1'36)])), (ts, .inl (cA, 400, .inl (jA tf))), (ba, .inr (0, [.ref bt, .ref bp, .ref bl, .ref bh, .ref bq, .ref br, .ref bd, .int (jI bg), .int (jI bf)])), (bl, .inl (cA, 248, .inl (jA yl))), (bh, .inl (cA, 248, .inl (jA yh)))]) [0, 4, 5, 1, 2, 3] rfl
              have hD9 := hD.sub (ws' := [(rda, .inr (2, [.ref ta])), (ta, .inr (3, [.ref ts, .int (jI tn), .int (jI tp1'3), .int (jI tw1'36)])), (ts, .inl (cA, 400, .inl (jA tf))), (ba, .inr (0, [.ref bt, .ref bp, .ref bl, .ref bh, .ref bq, .ref br, .ref bd, .int (jI bg), .int (jI bf)])), (bl, .inl (cA, 248, .inl (jA yl))), (bh, .inl (cA, 248, .inl (jA yh)))]) [0, 4, 5, 1, 2, 3] (by decide) rfl
              subst hAe
              subst hQ
              exact W.zret (v := jI r35) hx hb hr (by first | decide | exact jz (by omega)) (fun t ht hW => ⟨⟨_, (r35, tp1'3, tw1'36, yl, yh), rfl, ⟨rfl, Eq.trans (by rw [f_XR_spans_L2_s]; rw [if_neg (Int.not_lt.mpr c5_)]; rw [← hwb]; try dsimp only; rw [if_neg c18_]; rw [← hwb6]; try dsimp only; rw [if_neg c37_, if_neg c49_]; rw [← hwb39]; try dsimp only; try rfl) hF, show 0 ≤ r35 ∧ r35 ≤ 1 from by first | assumption | omega, show 0 ≤ tp1'3 ∧ tp1'3 ≤ tn from by first | assumption | omega, show ∀ i, 0 ≤ yl i ∧ yl i ≤ 100000 from by first | assumption | omega, show ∀ i, -1 ≤ yh i ∧ yh i ≤ 100000 from by first | assumption | omega⟩, ⟨by rw [ht]; exact hP9, va_K.moved hW.alike hK, hD9⟩⟩, hS.F ht⟩) hS.2.2 dXR_spans_59
          · refine ji_iconst hx hb dXR_spans_40 ?_
            have hP9 := hP.sub (ws' := [(rda, .inr (2, [.ref ta])), (ta, .inr (3, [.ref ts, .int (jI tn), .int (jI tp1'3), .int (jI tw1')])), (ts, .inl (cA, 400, .inl (jA tf))), (ba, .inr (0, [.ref bt, .ref bp, .ref bl, .ref bh, .ref bq, .ref br, .ref bd, .int (jI bg), .int (jI bf)])), (bl, .inl (cA, 248, .inl (jA yl))), (bh, .inl (cA, 248, .inl (jA yh)))]) [0, 4, 5, 1, 2, 3] rfl
            have hD9 := hD.sub (ws' := [(rda, .inr (2, [.ref ta])), (ta, .inr (3, [.ref ts, .int (jI tn), .int (jI tp1'3), .int (jI tw1')])), (ts, .inl (cA, 400, .inl (jA tf))), (ba, .inr (0, [.ref bt, .ref bp, .ref bl, .ref bh, .ref bq, .ref br, .ref bd, .int (jI bg), .int (jI bf)])), (bl, .inl (cA, 248, .inl (jA yl))), (bh, .inl (cA, 248, .inl (jA yh)))]) [0, 4, 5, 1, 2, 3] (by decide) rfl
            subst hAe
            subst hQ
            exact W.zret (v := jI 0) hx hb hr (by first | decide | exact jz (by omega)) (fun t ht hW => ⟨⟨_, (0, tp1'3, tw1', yl, yh), rfl, ⟨rfl, Eq.trans (by rw [f_XR_spans_L2_s]; rw [if_neg (Int.not_lt.mpr c5_)]; rw [← hwb]; try dsimp only; rw [if_neg c18_]; rw [← hwb6]; try dsimp only; rw [if_pos c37_]; try rfl) hF, show 0 ≤ 0 ∧ 0 ≤ 1 from by first | assumption | omega, show 0 ≤ tp1'3 ∧ tp1'3 ≤ tn from by first | assumption | omega, show ∀ i, 0 ≤ yl i ∧ yl i ≤ 100000 from by first | assumption | omega, show ∀ i, -1 ≤ yh i ∧ yh i ≤ 100000 from by first | assumption | omega⟩, ⟨by rw [ht]; exact hP9, va_K.moved hW.alike hK, hD9⟩⟩, hS.F ht⟩) hS.2.2 dXR_spans_41
  exact loop2 (Int.toNat (9 - 0) + 1) 0 tp tw fl fh (by omega) (Eq.trans (by rw [f_XR_spans_s]; try rfl) rfl) (by first | assumption | omega) (by first | assumption | omega) (by first | assumption | omega) (by first | assumption | omega) _ _ hP hD hS ls (lv_sub hl [0, 1, 2, 3] rfl)
noncomputable def g_XR_routes_L19 (tn : Int) (tp : Int) (tw : Int) (tf : Int → Int) (bg : Int) (bf : Int) (fr : Int → Int) (zg : Int) : Nat → Int → Int → Int → Int → (Int → Int) → Int × Int × Int × (Int → Int)
  | 0, _, _, _, _, _ => (0, 0, 0, fun _ => 0)
  | n9 + 1, k, v, q, w, yr =>
    if k < 4 then
      if 0 < k then
        match f_XT_next tn q w tf with
        | (r15, tp1'16) =>
          if (f_XG_isDigit r15) = 0 then
            (1, tp1'16, w, yr)
          else
            match f_XT_takeOneOf tn tp1'16 w tf 48 8 with
            | (r22, tp1'23, tw1'24) =>
              if r22 = (-1) then
                (0, tp1'23, tw1'24, yr)
              else
                if v < r22 then
                  g_XR_routes_L19 tn tp tw tf bg bf fr zg n9 (k + 1) r22 tp1'23 tw1'24 (f_XB_tellRoute bg bf yr zg r22)
                else
                  match f_XT_refuseLast tn tp1'23 tw1'24 tf with
                  | (r33, tw1'34) =>
                    (r33, tp1'23, tw1'34, yr)
      else
        match f_XT_takeOneOf tn q w tf 48 8 with
        | (r1, tp1'2, tw1') =>
          if r1 = (-1) then
            (0, tp1'2, tw1', yr)
          else
            if v < r1 then
              g_XR_routes_L19 tn tp tw tf bg bf fr zg n9 (k + 1) r1 tp1'2 tw1' (f_XB_tellRoute bg bf yr zg r1)
            else
              match f_XT_refuseLast tn tp1'2 tw1' tf with
              | (r9, tw1'10) =>
                (r9, tp1'2, tw1'10, yr)
    else
      (1, q, w, yr)
noncomputable def f_XR_routes_L19 : Int → Int → Int → (Int → Int) → Int → Int → (Int → Int) → Int → Nat → Int → Int → Int → Int → (Int → Int) → Int × Int × Int × (Int → Int) := jopq g_XR_routes_L19
theorem f_XR_routes_L19_q : f_XR_routes_L19 = g_XR_routes_L19 := jopq_eq _
theorem f_XR_routes_L19_s (tn : Int) (tp : Int) (tw : Int) (tf : Int → Int) (bg : Int) (bf : Int) (fr : Int → Int) (zg : Int) (n9 : Nat) (k : Int) (v : Int) (q : Int) (w : Int) (yr : Int → Int) : f_XR_routes_L19 tn tp tw tf bg bf fr zg (n9 + 1) k v q w yr = (
    if k < 4 then
      if 0 < k then
        match f_XT_next tn q w tf with
        | (r15, tp1'16) =>
          if (f_XG_isDigit r15) = 0 then
            (1, tp1'16, w, yr)
          else
            match f_XT_takeOneOf tn tp1'16 w tf 48 8 with
            | (r22, tp1'23, tw1'24) =>
              if r22 = (-1) then
                (0, tp1'23, tw1'24, yr)
              else
                if v < r22 then
                  f_XR_routes_L19 tn tp tw tf bg bf fr zg n9 (k + 1) r22 tp1'23 tw1'24 (f_XB_tellRoute bg bf yr zg r22)
                else
                  match f_XT_refuseLast tn tp1'23 tw1'24 tf with
                  | (r33, tw1'34) =>
                    (r33, tp1'23, tw1'34, yr)
      else
        match f_XT_takeOneOf tn q w tf 48 8 with
        | (r1, tp1'2, tw1') =>
          if r1 = (-1) then
            (0, tp1'2, tw1', yr)
          else
            if v < r1 then
              f_XR_routes_L19 tn tp tw tf bg bf fr zg n9 (k + 1) r1 tp1'2 tw1' (f_XB_tellRoute bg bf yr zg r1)
            else
              match f_XT_refuseLast tn tp1'2 tw1' tf with
              | (r9, tw1'10) =>
                (r9, tp1'2, tw1'10, yr)
    else
      (1, q, w, yr)
  : Int × Int × Int × (Int → Int)) := by rw [f_XR_routes_L19_q]; rfl
noncomputable def g_XR_routes (tn : Int) (tp : Int) (tw : Int) (tf : Int → Int) (bg : Int) (bf : Int) (fr : Int → Int) (zg : Int) : Int × Int × Int × (Int → Int) :=
  match f_XT_skipIf tn tp tw tf 114 with
  | (r, tp1') =>
    if r = 0 then
      (1, tp1', tw, fr)
    else
      f_XR_routes_L19 tn tp tw tf bg bf fr zg (Int.toNat (4 - 0) + 1) 0 (-1) tp1' tw fr
noncomputable def f_XR_routes : Int → Int → Int → (Int → Int) → Int → Int → (Int → Int) → Int → Int × Int × Int × (Int → Int) := jopq g_XR_routes
theorem f_XR_routes_q : f_XR_routes = g_XR_routes := jopq_eq _
theorem f_XR_routes_s (tn : Int) (tp : Int) (tw : Int) (tf : Int → Int) (bg : Int) (bf : Int) (fr : Int → Int) (zg : Int) : f_XR_routes tn tp tw tf bg bf fr zg = (
    match f_XT_skipIf tn tp tw tf 114 with
    | (r, tp1') =>
      if r = 0 then
        (1, tp1', tw, fr)
      else
        f_XR_routes_L19 tn tp tw tf bg bf fr zg (Int.toNat (4 - 0) + 1) 0 (-1) tp1' tw fr
  : Int × Int × Int × (Int → Int)) := by rw [f_XR_routes_q]; rfl
set_option maxHeartbeats 4000000 in
set_option maxRecDepth 100000 in
theorem c_XR_routes (l : Launch) (dC : Nat → ClassId) (dI : Nat → Nat → Nat) (cA : ClassId) (sz : Nat) (rda : Nat) (ta : Nat) (ts : Nat) (tn : Int) (tp : Int) (tw : Int) (tf : Int → Int) (ba : Nat) (bt : Nat) (bp : Nat) (bl : Nat) (bh : Nat) (bq : Nat) (br : Nat) (bd : Nat) (bg : Int) (bf : Int) (fr : Int → Int) (zg : Int) (hn : 0 ≤ tn ∧ tn ≤ 400) (hp : 0 ≤ tp ∧ tp ≤ tn) (hf : ∀ i, 0 ≤ tf i ∧ tf i < 256) (hbr : ∀ i, 0 ≤ fr i ∧ fr i < 2147483648) (hzg : 0 ≤ zg ∧ zg ≤ 30) : Met l yXR_routes (Cond.code yXR_routes cXR_routes 6 (some .boolean) :: TBL) ({ frames := 2, cells := 0, slots := 0, locals := 43 } : Room) (va_Pc [.ref rda, .ref ba, .int (jI zg)] (jBw (dC, dI) [(cA, .int)] [(rda, .inr (2, [.ref ta])), (ta, .inr (3, [.ref ts, .int (jI tn), .int (jI tp), .int (jI tw)])), (ts, .inl (cA, 400, .inl (jA tf))), (ba, .inr (0, [.ref bt, .ref bp, .ref bl, .ref bh, .ref bq, .ref br, .ref bd, .int (jI bg), .int (jI bf)])), (br, .inl (cA, 31, .inl (jA fr)))] sz)) (va_Qi (fun (r : Int32) (u : Int × Int × Int × (Int → Int)) => r = jI u.1 ∧ u = f_XR_routes tn tp tw tf bg bf fr zg ∧ (0 ≤ u.1 ∧ u.1 ≤ 1) ∧ (0 ≤ u.2.1 ∧ u.2.1 ≤ tn) ∧ (∀ i, 0 ≤ u.2.2.2 i ∧ u.2.2.2 i < 2147483648)) (fun u t => jE (dC, dI) [(cA, .int)] [(rda, .inr (2, [.ref ta])), (ta, .inr (3, [.ref ts, .int (jI tn), .int (jI tp), .int (jI tw)])), (ts, .inl (cA, 400, .inl (jA tf))), (ba, .inr (0, [.ref bt, .ref bp, .ref bl, .ref bh, .ref bq, .ref br, .ref bd, .int (jI bg), .int (jI bf)])), (br, .inl (cA, 31, .inl (jA fr)))] sz [(rda, .inr (2, [.ref ta])), (ta, .inr (3, [.ref ts, .int (jI tn), .int (jI u.2.1), .int (jI u.2.2.1)])), (ts, .inl (cA, 400, .inl (jA tf))), (ba, .inr (0, [.ref bt, .ref bp, .ref bl, .ref bh, .ref bq, .ref br, .ref bd, .int (jI bg), .int (jI bf)])), (br, .inl (cA, 31, .inl (jA u.2.2.2)))] t) (va_A [(rda, .inr (2, [.ref ta])), (ta, .inr (3, [.ref ts, .int (jI tn), .int (jI tp), .int (jI tw)])), (ts, .inl (cA, 400, .inl (jA tf))), (ba, .inr (0, [.ref bt, .ref bp, .ref bl, .ref bh, .ref bq, .ref br, .ref bd, .int (jI bg), .int (jI bf)])), (br, .inl (cA, 31, .inl (jA fr)))] sz)) 0 0 (va_A [(rda, .inr (2, [.ref ta])), (ta, .inr (3, [.ref ts, .int (jI tn), .int (jI tp), .int (jI tw)])), (ts, .inl (cA, 400, .inl (jA tf))), (ba, .inr (0, [.ref bt, .ref bp, .ref bl, .ref bh, .ref bq, .ref br, .ref bd, .int (jI bg), .int (jI bf)])), (br, .inl (cA, 31, .inl (jA fr)))] sz) := by
  refine jMet (cc := cXR_routes) (maxL := 6) (ret := some .boolean) (by decide) rfl ?_
  intro p e s m args below meth c s₁ R Q hR hQ B hml hv
  obtain ⟨rfl, hsz, hP, hK, hD0, hN⟩ := hv
  have hx := B.exec
  have hb := B.bytes
  have hr := B.returns
  have hts := atoms_spec (ws := Cond.code yXR_routes cXR_routes 6 (some .boolean) :: TBL) B.pre
  have hown : s.vm.findClass RXR = some m.cls := findClass_of_methodNamed B.named
  have hlocks := B.notSynchronized
  subst hsz
  obtain ⟨A, hAe⟩ : ∃ A, A = va_A [(rda, .inr (2, [.ref ta])), (ta, .inr (3, [.ref ts, .int (jI tn), .int (jI tp), .int (jI tw)])), (ts, .inl (cA, 400, .inl (jA tf))), (ba, .inr (0, [.ref bt, .ref bp, .ref bl, .ref bh, .ref bq, .ref br, .ref bd, .int (jI bg), .int (jI bf)])), (br, .inl (cA, 31, .inl (jA fr)))] s.heap.size := ⟨_, rfl⟩
  have hD : va_D A [(rda, .inr (2, [.ref ta])), (ta, .inr (3, [.ref ts, .int (jI tn), .int (jI tp), .int (jI tw)])), (ts, .inl (cA, 400, .inl (jA tf))), (ba, .inr (0, [.ref bt, .ref bp, .ref bl, .ref bh, .ref bq, .ref br, .ref bd, .int (jI bg), .int (jI bf)])), (br, .inl (cA, 31, .inl (jA fr)))] := by rw [hAe]; exact hD0.self
  have hA : ∀ q : Nat, s.heap.size ≤ q → A q := fun q h => by rw [hAe]; exact Or.inr h
  have hS : va_S A s.heap s.heap [] := va_S.rf
  have hP : va_P (dC, dI) vwCl [(rda, .inr (2, [.ref ta])), (ta, .inr (3, [.ref ts, .int (jI tn), .int (jI tp), .int (jI tw)])), (ts, .inl (cA, 400, .inl (jA tf))), (ba, .inr (0, [.ref bt, .ref bp, .ref bl, .ref bh, .ref bq, .ref br, .ref bd, .int (jI bg), .int (jI bf)])), (br, .inl (cA, 31, .inl (jA fr)))] s.heap := hP
  have hl := lv_entry ([.ref rda, .ref ba, .int (jI zg)]) (n := 6) (Nat.le_of_ble_eq_true rfl)
  rw [lg_entry_eq]
  generalize (lg_sl ([.ref rda, .ref ba, .int (jI zg)]) ++ List.replicate (6 - (lg_sl ([.ref rda, .ref ba, .int (jI zg)])).length) Slot.unset).toArray = ls at hl ⊢
  have hl : lv_has ls 6 [(0, .ref rda), (1, .ref ba), (2, .int (jI zg))] := hl
  refine lv_aload_n hx hb dXR_routes_0 rfl (lv_at hl 0 rfl) ?_
  refine va_get (D := (dC, dI)) (ci := 2) (v := .ref ta) (C := RXR) (T := TXR) (N := 1) hx hb hts (fun w h => jmem (inXR w h)) hown hK hP 0 rfl rfl 0 (by decide) (hts _ (jmem tw_50)) (fun _ h9 => h9) rfl dXR_routes_1 ?_
  refine ji_bipush hx hb dXR_routes_4 (by decide) ?_
  refine jwVi (rest := []) (wr := [(rda, .inr (2, [.ref ta])), (ba, .inr (0, [.ref bt, .ref bp, .ref bl, .ref bh, .ref bq, .ref br, .ref bd, .int (jI bg), .int (jI bf)])), (br, .inl (cA, 31, .inl (jA fr)))]) ⟨hx, hb, hml, hown, hts⟩ (c_XT_skipIf l dC dI cA _ ta ts tn tp tw tf 114 (by first | assumption | omega) (by first | assumption | omega) (by first | assumption | omega) (by first | assumption | omega) (by first | assumption | omega)) (cwV 1 hts (jG_V tw_150 tw_151 tw_152 tw_2 tw_153) rfl rfl rfl (by decide +kernel) (by rw [hR]; exact ⟨Nat.le_of_ble_eq_true rfl, Nat.le_of_ble_eq_true rfl⟩)) hK hP hD hS hA hN [1, 2] [0, 3, 4] rfl rfl (by decide) (by decide) (by decide) 1 3 rfl rfl rfl rfl hl.1 rfl (Nat.le_of_ble_eq_true rfl) dXR_routes_6 (by rw [hR]; exact ⟨Nat.le_of_ble_eq_true rfl, Nat.le_of_ble_eq_true rfl⟩) (fun v u H locs hwb hP hD hS => ?_)
  obtain ⟨r, tp1'⟩ := u
  try dsimp only at hwb
  obtain ⟨er, hwb⟩ := hwb
  subst er
  have hP : va_P (dC, dI) vwCl [(rda, .inr (2, [.ref ta])), (ba, .inr (0, [.ref bt, .ref bp, .ref bl, .ref bh, .ref bq, .ref br, .ref bd, .int (jI bg), .int (jI bf)])), (br, .inl (cA, 31, .inl (jA fr))), (ta, .inr (3, [.ref ts, .int (jI tn), .int (jI tp1'), .int (jI tw)])), (ts, .inl (cA, 400, .inl (jA tf)))] H := hP
  have hD : va_D A [(rda, .inr (2, [.ref ta])), (ba, .inr (0, [.ref bt, .ref bp, .ref bl, .ref bh, .ref bq, .ref br, .ref bd, .int (jI bg), .int (jI bf)])), (br, .inl (cA, 31, .inl (jA fr))), (ta, .inr (3, [.ref ts, .int (jI tn), .int (jI tp1'), .int (jI tw)])), (ts, .inl (cA, 400, .inl (jA tf)))] := hD
  have f := f_XT_skipIf_b tn tp tw tf 114 (by first | assumption | omega) (by first | assumption | omega) (by first | assumption | omega) (by first | assumption | omega) (by first | assumption | omega)
  rw [← hwb] at f; try dsimp only at f
  refine ji_if_ne (tgt := 14) hx hb dXR_routes_9 (by decide) (by omega) (fun c9_ => ?_) (fun c9_ => ?_)
  · refine ji_iconst hx hb dXR_routes_14 ?_
    refine lv_istore_n (lv' := [(3, .int (jI (-1))), (0, .ref rda), (1, .ref ba), (2, .int (jI zg))]) hx hb dXR_routes_15 rfl hl (by decide) rfl (fun ls hl => ?_)
    refine ji_iconst hx hb dXR_routes_16 ?_
    refine lv_istore (lv' := [(4, .int (jI 0)), (3, .int (jI (-1))), (0, .ref rda), (1, .ref ba), (2, .int (jI zg))]) hx hb dXR_routes_17 hl (by decide) rfl (fun ls hl => ?_)
    have loop19 : ∀ (n9 : Nat) (k : Int) (v : Int) (q : Int) (w : Int) (yr : Int → Int) , 4 - k < (n9 : Int) → f_XR_routes_L19 tn tp tw tf bg bf fr zg n9 k v q w yr = f_XR_routes tn tp tw tf bg bf fr zg → (0 ≤ k ∧ k ≤ 4) → (0 ≤ q ∧ q ≤ tn) → (-1 ≤ v ∧ v < 8) → (∀ i, 0 ≤ yr i ∧ yr i < 2147483648) → ∀ (H : Heap) (locs : List Loc), va_P (dC, dI) vwCl [(rda, .inr (2, [.ref ta])), (ba, .inr (0, [.ref bt, .ref bp, .ref bl, .ref bh, .ref bq, .ref br, .ref bd, .int (jI bg), .int (jI bf)])), (br, .inl (cA, 31, .inl (jA yr))), (ta, .inr (3, [.ref ts, .int (jI tn), .int (jI q), .int (jI w)])), (ts, .inl (cA, 400, .inl (jA tf)))] H → va_D A [(rda, .inr (2, [.ref ta])), (ba, .inr (0, [.ref bt, .ref bp, .ref bl, .ref bh, .ref bq, .ref br, .ref bd, .int (jI bg), .int (jI bf)])), (br, .inl (cA, 31, .inl (jA yr))), (ta, .inr (3, [.ref ts, .int (jI tn), .int (jI q), .int (jI w)])), (ts, .inl (cA, 400, .inl (jA tf)))] → va_S A s.heap H locs → ∀ ls : Array Slot, lv_has ls 6 [(4, .int (jI k)), (3, .int (jI v)), (0, .ref rda), (1, .ref ba), (2, .int (jI zg))] → W p l e R s m ([.ref rda, .ref ba, .int (jI zg)] : List Value).toArray below meth c H locs 0 0 Q (F0 m 19 ls []) := by
      intro n9
      induction n9 with
      | zero =>
        intro k v q w yr hm hF hk hq hv har
        exact absurd hm (by omega)
      | succ n9 ih19 =>
        intro k v q w yr hm hF hk hq hv har H locs hP hD hS ls hl
        refine lv_iload hx hb dXR_routes_19 (lv_at hl 0 rfl) ?_
        refine ji_iconst hx hb dXR_routes_21 ?_
        refine ji_icmp_ge (tgt := 96) hx hb dXR_routes_22 (by decide) (by omega) (by omega) (fun c22_ => ?_) (fun c22_ => ?_)
        · refine ji_iconst hx hb dXR_routes_96 ?_
          have hP9 := hP.sub (ws' := [(rda, .inr (2, [.ref ta])), (ta, .inr (3, [.ref ts, .int (jI tn), .int (jI q), .int (jI w)])), (ts, .inl (cA, 400, .inl (jA tf))), (ba, .inr (0, [.ref bt, .ref bp, .ref bl, .ref bh, .ref bq, .ref br, .ref bd, .int (jI bg), .int (jI bf)])), (br, .inl (cA, 31, .inl (jA yr)))]) [0, 3, 4, 1, 2] rfl
          have hD9 := hD.sub (ws' := [(rda, .inr (2, [.ref ta])), (ta, .inr (3, [.ref ts, .int (jI tn), .int (jI q), .int (jI w)])), (ts, .inl (cA, 400, .inl (jA tf))), (ba, .inr (0, [.ref bt, .ref bp, .ref bl, .ref bh, .ref bq, .ref br, .ref bd, .int (jI bg), .int (jI bf)])), (br, .inl (cA, 31, .inl (jA yr)))]) [0, 3, 4, 1, 2] (by decide) rfl
          subst hAe
          subst hQ
          exact W.zret (v := jI 1) hx hb hr (by first | decide | exact jz (by omega)) (fun t ht hW => ⟨⟨_, (1, q, w, yr), rfl, ⟨rfl, Eq.trans (by rw [f_XR_routes_L19_s]; rw [if_neg (Int.not_lt.mpr c22_)]; try rfl) hF, show 0 ≤ 1 ∧ 1 ≤ 1 from by first | assumption | omega, show 0 ≤ q ∧ q ≤ tn from by first | assumption | omega, show ∀ i, 0 ≤ yr i ∧ yr i < 2147483648 from by first | assumption | omega⟩, ⟨by rw [ht]; exact hP9, va_K.moved hW.alike hK, hD9⟩⟩, hS.F ht⟩) hS.2.2 dXR_routes_97
        · refine lv_iload hx hb dXR_routes_25 (lv_at hl 0 rfl) ?_
          refine ji_if_le (tgt := 45) hx hb dXR_routes_27 (by decide) (by omega) (fun c27_ => ?_) (fun c27_ => ?_)
          · refine lv_aload_n hx hb dXR_routes_45 rfl (lv_at hl 2 rfl) ?_
            refine va_get (D := (dC, dI)) (ci := 2) (v := .ref ta) (C := RXR) (T := TXR) (N := 1) hx hb hts (fun w h => jmem (inXR w h)) hown hK hP 0 rfl rfl 0 (by decide) (hts _ (jmem tw_50)) (fun _ h9 => h9) rfl dXR_routes_46 ?_
            refine ji_bipush hx hb dXR_routes_49 (by decide) ?_
            refine ji_bipush hx hb dXR_routes_51 (by decide) ?_
            refine jwVi (rest := []) (wr := [(rda, .inr (2, [.ref ta])), (ba, .inr (0, [.ref bt, .ref bp, .ref bl, .ref bh, .ref bq, .ref br, .ref bd, .int (jI bg), .int (jI bf)])), (br, .inl (cA, 31, .inl (jA yr)))]) ⟨hx, hb, hml, hown, hts⟩ (c_XT_takeOneOf l dC dI cA _ ta ts tn q w tf 48 8 (by first | assumption | omega) (by first | assumption | omega) (by first | assumption | omega) (by first | assumption | omega) (by first | assumption | omega)) (cwV 2 hts (jG_V tw_159 tw_160 tw_161 tw_2 tw_162) rfl rfl rfl (by decide +kernel) (by rw [hR]; exact ⟨Nat.le_of_ble_eq_true rfl, Nat.le_of_ble_eq_true rfl⟩)) hK hP hD hS hA hN [3, 4] [0, 1, 2] rfl rfl (by decide) (by decide) (by decide) 3 3 rfl rfl rfl rfl hl.1 rfl (Nat.le_of_ble_eq_true rfl) dXR_routes_53 (by rw [hR]; exact ⟨Nat.le_of_ble_eq_true rfl, Nat.le_of_ble_eq_true rfl⟩) (fun v4 u3 H locs hwb5 hP hD hS => ?_)
            obtain ⟨r1, tp1'2, tw1'⟩ := u3
            try dsimp only at hwb5
            obtain ⟨er, hwb5⟩ := hwb5
            subst er
            have hP : va_P (dC, dI) vwCl [(rda, .inr (2, [.ref ta])), (ba, .inr (0, [.ref bt, .ref bp, .ref bl, .ref bh, .ref bq, .ref br, .ref bd, .int (jI bg), .int (jI bf)])), (br, .inl (cA, 31, .inl (jA yr))), (ta, .inr (3, [.ref ts, .int (jI tn), .int (jI tp1'2), .int (jI tw1')])), (ts, .inl (cA, 400, .inl (jA tf)))] H := hP
            have hD : va_D A [(rda, .inr (2, [.ref ta])), (ba, .inr (0, [.ref bt, .ref bp, .ref bl, .ref bh, .ref bq, .ref br, .ref bd, .int (jI bg), .int (jI bf)])), (br, .inl (cA, 31, .inl (jA yr))), (ta, .inr (3, [.ref ts, .int (jI tn), .int (jI tp1'2), .int (jI tw1')])), (ts, .inl (cA, 400, .inl (jA tf)))] := hD
            have f6 := f_XT_takeOneOf_b tn q w tf 48 8 (by first | assumption | omega) (by first | assumption | omega) (by first | assumption | omega) (by first | assumption | omega) (by first | assumption | omega)
            rw [← hwb5] at f6; try dsimp only at f6
            refine lv_istore (lv' := [(5, .int (jI r1)), (4, .int (jI k)), (3, .int (jI v)), (0, .ref rda), (1, .ref ba), (2, .int (jI zg))]) hx hb dXR_routes_56 hl (by decide) rfl (fun ls hl => ?_)
            refine lv_iload hx hb dXR_routes_58 (lv_at hl 0 rfl) ?_
            refine ji_iconst hx hb dXR_routes_60 ?_
            refine ji_icmp_ne (tgt := 66) hx hb dXR_routes_61 (by decide) (by omega) (by omega) (fun c61_ => ?_) (fun c61_ => ?_)
            · refine lv_iload hx hb dXR_routes_66 (lv_at hl 0 rfl) ?_
              refine lv_iload_n hx hb dXR_routes_68 rfl (lv_at hl 2 rfl) ?_
              refine ji_icmp_gt (tgt := 80) hx hb dXR_routes_69 (by decide) (by omega) (by omega) (fun c69_ => ?_) (fun c69_ => ?_)
              · refine lv_aload_n hx hb dXR_routes_80 rfl (lv_at hl 4 rfl) ?_
                refine lv_iload_n hx hb dXR_routes_81 rfl (lv_at hl 5 rfl) ?_
                refine lv_iload hx hb dXR_routes_82 (lv_at hl 0 rfl) ?_
                refine jwVv (rest := []) (wr := [(rda, .inr (2, [.ref ta])), (ta, .inr (3, [.ref ts, .int (jI tn), .int (jI tp1'2), .int (jI tw1')])), (ts, .inl (cA, 400, .inl (jA tf)))]) ⟨hx, hb, hml, hown, hts⟩ (c_XB_tellRoute l dC dI cA _ ba bt bp bl bh bq br bd bg bf yr zg r1 (by first | assumption | omega) (by first | assumption | omega) (by first | assumption | omega)) (cwV 2 hts (jG_V tw_252 tw_253 tw_254 tw_5 tw_255) rfl rfl rfl (by decide +kernel) (by rw [hR]; exact ⟨Nat.le_of_ble_eq_true rfl, Nat.le_of_ble_eq_true rfl⟩)) hK hP hD hS hA hN [1, 2] [0, 3, 4] rfl rfl (by decide) (by decide) (by decide) 1 0 rfl rfl rfl rfl hl.1 rfl (Nat.le_of_ble_eq_true rfl) dXR_routes_84 (by rw [hR]; exact ⟨Nat.le_of_ble_eq_true rfl, Nat.le_of_ble_eq_true rfl⟩) (fun u7 H locs hw hP hD hS => ?_)
                subst hw
                have hP : va_P (dC, dI) vwCl [(rda, .inr (2, [.ref ta])), (ta, .inr (3, [.ref ts, .int (jI tn), .int (jI tp1'2), .int (jI tw1')])), (ts, .inl (cA, 400, .inl (jA tf))), (ba, .inr (0, [.ref bt, .ref bp, .ref bl, .ref bh, .ref bq, .ref br, .ref bd, .int (jI bg), .int (jI bf)])), (br, .inl (cA, 31, .inl (jA (f_XB_tellRoute bg bf yr zg r1))))] H := hP
                have hD : va_D A [(rda, .inr (2, [.ref ta])), (ta, .inr (3, [.ref ts, .int (jI tn), .int (jI tp1'2), .int (jI tw1')])), (ts, .inl (cA, 400, .inl (jA tf))), (ba, .inr (0, [.ref bt, .ref bp, .ref bl, .ref bh, .ref bq, .ref br, .ref bd, .int (jI bg), .int (jI bf)])), (br, .inl (cA, 31, .inl (jA (f_XB_tellRoute bg bf yr zg r1))))] := hD
                have f8 := f_XB_tellRoute_b bg bf yr zg r1 (by first | assumption | omega) (by first | assumption | omega) (by first | assumption | omega)
                refine lv_iload hx hb dXR_routes_87 (lv_at hl 0 rfl) ?_
                refine lv_istore_n (lv' := [(3, .int (jI r1)), (5, .int (jI r1)), (4, .int (jI k)), (0, .ref rda), (1, .ref ba), (2, .int (jI zg))]) hx hb dXR_routes_89 rfl hl (by decide) rfl (fun ls hl => ?_)
                refine ji_iinc (k := 2) (lv' := [(4, .int (jI (k + 1))), (3, .int (jI r1)), (5, .int (jI r1)), (0, .ref rda), (1, .ref ba), (2, .int (jI zg))]) hx hb dXR_routes_90 hl rfl (by decide) rfl (fun ls hl => ?_)
                refine lv_goto (tgt := 19) hx hb dXR_routes_93 (by decide) ?_
                exact ih19 (k + 1) r1 tp1'2 tw1' (f_XB_tellRoute bg bf yr zg r1) (by omega) (Eq.trans (by rw [f_XR_routes_L19_s]; rw [if_pos c22_, if_neg (Int.not_lt.mpr c27_)]; rw [← hwb5]; try dsimp only; rw [if_neg c61_, if_pos c69_]; try rfl) hF) (by first | assumption | omega) (by first | assumption | omega) (by first | assumption | omega) (by first | assumption | omega) _ _ (hP.sub [0, 3, 4, 1, 2] rfl) (hD.sub [0, 3, 4, 1, 2] (by decide) rfl) hS ls (lv_sub hl [0, 1, 3, 4, 5] rfl)
              · refine lv_aload_n hx hb dXR_routes_72 rfl (lv_at hl 3 rfl) ?_
                refine va_get (D := (dC, dI)) (ci := 2) (v := .ref ta) (C := RXR) (T := TXR) (N := 1) hx hb hts (fun w h => jmem (inXR w h)) hown hK hP 0 rfl rfl 0 (by decide) (hts _ (jmem tw_50)) (fun _ h9 => h9) rfl dXR_routes_73 ?_
                refine jwVi (rest := []) (wr := [(rda, .inr (2, [.ref ta])), (ba, .inr (0, [.ref bt, .ref bp, .ref bl, .ref bh, .ref bq, .ref br, .ref bd, .int (jI bg), .int (jI bf)])), (br, .inl (cA, 31, .inl (jA yr)))]) ⟨hx, hb, hml, hown, hts⟩ (c_XT_refuseLast l dC dI cA _ ta ts tn tp1'2 tw1' tf) (cwV 0 hts (jG_V tw_174 tw_175 tw_176 tw_2 tw_177) rfl rfl rfl (by decide +kernel) (by rw [hR]; exact ⟨Nat.le_of_ble_eq_true rfl, Nat.le_of_ble_eq_true rfl⟩)) hK hP hD hS hA hN [3, 4] [0, 1, 2] rfl rfl (by decide) (by decide) (by decide) 3 3 rfl rfl rfl rfl hl.1 rfl (Nat.le_of_ble_eq_true rfl) dXR_routes_76 (by rw [hR]; exact ⟨Nat.le_of_ble_eq_true rfl, Nat.le_of_ble_eq_true rfl⟩) (fun v12 u11 H locs hwb13 hP hD hS => ?_)
                obtain ⟨r9, tw1'10⟩ := u11
                try dsimp only at hwb13
                obtain ⟨er, hwb13⟩ := hwb13
                subst er
                have hP : va_P (dC, dI) vwCl [(rda, .inr (2, [.ref ta])), (ba, .inr (0, [.ref bt, .ref bp, .ref bl, .ref bh, .ref bq, .ref br, .ref bd, .int (jI bg), .int (jI bf)])), (br, .inl (cA, 31, .inl (jA yr))), (ta, .inr (3, [.ref ts, .int (jI tn), .int (jI tp1'2), .int (jI tw1'10)])), (ts, .inl (cA, 400, .inl (jA tf)))] H := hP
                have hD : va_D A [(rda, .inr (2, [.ref ta])), (ba, .inr (0, [.ref bt, .ref bp, .ref bl, .ref bh, .ref bq, .ref br, .ref bd, .int (jI bg), .int (jI bf)])), (br, .inl (cA, 31, .inl (jA yr))), (ta, .inr (3, [.ref ts, .int (jI tn), .int (jI tp1'2), .int (jI tw1'10)])), (ts, .inl (cA, 400, .inl (jA tf)))] := hD
                have f14 := f_XT_refuseLast_b tn tp1'2 tw1' tf
                rw [← hwb13] at f14; try dsimp only at f14
                have hP9 := hP.sub (ws' := [(rda, .inr (2, [.ref ta])), (ta, .inr (3, [.ref ts, .int (jI tn), .int (jI tp1'2), .int (jI tw1'10)])), (ts, .inl (cA, 400, .inl (jA tf))), (ba, .inr (0, [.ref bt, .ref bp, .ref bl, .ref bh, .ref bq, .ref br, .ref bd, .int (jI bg), .int (jI bf)])), (br, .inl (cA, 31, .inl (jA yr)))]) [0, 3, 4, 1, 2] rfl
                have hD9 := hD.sub (ws' := [(rda, .inr (2, [.ref ta])), (ta, .inr (3, [.ref ts, .int (jI tn), .int (jI tp1'2), .int (jI tw1'10)])), (ts, .inl (cA, 400, .inl (jA tf))), (ba, .inr (0, [.ref bt, .ref bp, .ref bl, .ref bh, .ref bq, .ref br, .ref bd, .int (jI bg), .int (jI bf)])), (br, .inl (cA, 31, .inl (jA yr)))]) [0, 3, 4, 1, 2] (by decide) rfl
                subst hAe
                subst hQ
                exact W.zret (v := jI r9) hx hb hr (by first | decide | exact jz (by omega)) (fun t ht hW => ⟨⟨_, (r9, tp1'2, tw1'10, yr), rfl, ⟨rfl, Eq.trans (by rw [f_XR_routes_L19_s]; rw [if_pos c22_, if_neg (Int.not_lt.mpr c27_)]; rw [← hwb5]; try dsimp only; rw [if_neg c61_, if_neg (Int.not_lt.mpr c69_)]; rw [← hwb13]; try dsimp only; try rfl) hF, show 0 ≤ r9 ∧ r9 ≤ 1 from by first | assumption | omega, show 0 ≤ tp1'2 ∧ tp1'2 ≤ tn from by first | assumption | omega, show ∀ i, 0 ≤ yr i ∧ yr i < 2147483648 from by first | assumption | omega⟩, ⟨by rw [ht]; exact hP9, va_K.moved hW.alike hK, hD9⟩⟩, hS.F ht⟩) hS.2.2 dXR_routes_79
            · refine ji_iconst hx hb dXR_routes_64 ?_
              have hP9 := hP.sub (ws' := [(rda, .inr (2, [.ref ta])), (ta, .inr (3, [.ref ts, .int (jI tn), .int (jI tp1'2), .int (jI tw1')])), (ts, .inl (cA, 400, .inl (jA tf))), (ba, .inr (0, [.ref bt, .ref bp, .ref bl, .ref bh, .ref bq, .ref br, .ref bd, .int (jI bg), .int (jI bf)])), (br, .inl (cA, 31, .inl (jA yr)))]) [0, 3, 4, 1, 2] rfl
              have hD9 := hD.sub (ws' := [(rda, .inr (2, [.ref ta])), (ta, .inr (3, [.ref ts, .int (jI tn), .int (jI tp1'2), .int (jI tw1')])), (ts, .inl (cA, 400, .inl (jA tf))), (ba, .inr (0, [.ref bt, .ref bp, .ref bl, .ref bh, .ref bq, .ref br, .ref bd, .int (jI bg), .int (jI bf)])), (br, .inl (cA, 31, .inl (jA yr)))]) [0, 3, 4, 1, 2] (by decide) rfl
              subst hAe
              subst hQ
              exact W.zret (v := jI 0) hx hb hr (by first | decide | exact jz (by omega)) (fun t ht hW => ⟨⟨_, (0, tp1'2, tw1', yr), rfl, ⟨rfl, Eq.trans (by rw [f_XR_routes_L19_s]; rw [if_pos c22_, if_neg (Int.not_lt.mpr c27_)]; rw [← hwb5]; try dsimp only; rw [if_pos c61_]; try rfl) hF, show 0 ≤ 0 ∧ 0 ≤ 1 from by first | assumption | omega, show 0 ≤ tp1'2 ∧ tp1'2 ≤ tn from by first | assumption | omega, show ∀ i, 0 ≤ yr i ∧ yr i < 2147483648 from by first | assumption | omega⟩, ⟨by rw [ht]; exact hP9, va_K.moved hW.alike hK, hD9⟩⟩, hS.F ht⟩) hS.2.2 dXR_routes_65
          · refine lv_aload_n hx hb dXR_routes_30 rfl (lv_at hl 2 rfl) ?_
            refine va_get (D := (dC, dI)) (ci := 2) (v := .ref ta) (C := RXR) (T := TXR) (N := 1) hx hb hts (fun w h => jmem (inXR w h)) hown hK hP 0 rfl rfl 0 (by decide) (hts _ (jmem tw_50)) (fun _ h9 => h9) rfl dXR_routes_31 ?_
            refine jwVi (rest := []) (wr := [(rda, .inr (2, [.ref ta])), (ba, .inr (0, [.ref bt, .ref bp, .ref bl, .ref bh, .ref bq, .ref br, .ref bd, .int (jI bg), .int (jI bf)])), (br, .inl (cA, 31, .inl (jA yr)))]) ⟨hx, hb, hml, hown, hts⟩ (c_XT_next l dC dI cA _ ta ts tn q w tf (by first | assumption | omega) (by first | assumption | omega) (by first | assumption | omega)) (cwV 0 hts (jG_V tw_142 tw_143 tw_144 tw_2 tw_145) rfl rfl rfl (by decide +kernel) (by rw [hR]; exact ⟨Nat.le_of_ble_eq_true rfl, Nat.le_of_ble_eq_true rfl⟩)) hK hP hD hS hA hN [3, 4] [0, 1, 2] rfl rfl (by decide) (by decide) (by decide) 3 3 rfl rfl rfl rfl hl.1 rfl (Nat.le_of_ble_eq_true rfl) dXR_routes_34 (by rw [hR]; exact ⟨Nat.le_of_ble_eq_true rfl, Nat.le_of_ble_eq_true rfl⟩) (fun v18 u17 H locs hwb19 hP hD hS => ?_)
            obtain ⟨r15, tp1'16⟩ := u17
            try dsimp only at hwb19
            obtain ⟨er, hwb19⟩ := hwb19
            subst er
            have hP : va_P (dC, dI) vwCl [(rda, .inr (2, [.ref ta])), (ba, .inr (0, [.ref bt, .ref bp, .ref bl, .ref bh, .ref bq, .ref br, .ref bd, .int (jI bg), .int (jI bf)])), (br, .inl (cA, 31, .inl (jA yr))), (ta, .inr (3, [.ref ts, .int (jI tn), .int (jI tp1'16), .int (jI w)])), (ts, .inl (cA, 400, .inl (jA tf)))] H := hP
            have hD : va_D A [(rda, .inr (2, [.ref ta])), (ba, .inr (0, [.ref bt, .ref bp, .ref bl, .ref bh, .ref bq, .ref br, .ref bd, .int (jI bg), .int (jI bf)])), (br, .inl (cA, 31, .inl (jA yr))), (ta, .inr (3, [.ref ts, .int (jI tn), .int (jI tp1'16), .int (jI w)])), (ts, .inl (cA, 400, .inl (jA tf)))] := hD
            have f20 := f_XT_next_b tn q w tf (by first | assumption | omega) (by first | assumption | omega) (by first | assumption | omega)
            rw [← hwb19] at f20; try dsimp only at f20
            refine jrNi (rest := []) ⟨hx, hb, hml, hown, hts⟩ (c_XG_isDigit l dC dI cA r15 (by first | assumption | omega)) ⟨va_cnB 1 hts (jG (jG_c tw_200)) rfl rfl rfl (jN.n251 hN) (hts _ (jmem tw_1)) (by decide +kernel) (by rw [hR]; exact ⟨Nat.le_of_ble_eq_true rfl, Nat.le_of_ble_eq_true rfl⟩), hts _ (jmem tw_199), trivial⟩ hK hP hN [] rfl rfl hl.1 rfl (Nat.le_of_ble_eq_true rfl) dXR_routes_37 (by rw [hR]; exact ⟨Nat.le_of_ble_eq_true rfl, Nat.le_of_ble_eq_true rfl⟩) ?_
            have f21 := f_XG_isDigit_01 r15 (by first | assumption | omega)
            refine ji_if_ne (tgt := 45) hx hb dXR_routes_40 (by decide) (by omega) (fun c40_ => ?_) (fun c40_ => ?_)
            · refine lv_aload_n hx hb dXR_routes_45 rfl (lv_at hl 2 rfl) ?_
              refine va_get (D := (dC, dI)) (ci := 2) (v := .ref ta) (C := RXR) (T := TXR) (N := 1) hx hb hts (fun w h => jmem (inXR w h)) hown hK hP 0 rfl rfl 0 (by decide) (hts _ (jmem tw_50)) (fun _ h9 => h9) rfl dXR_routes_46 ?_
              refine ji_bipush hx hb dXR_routes_49 (by decide) ?_
              refine ji_bipush hx hb dXR_routes_51 (by decide) ?_
              refine jwVi (rest := []) (wr := [(rda, .inr (2, [.ref ta])), (ba, .inr (0, [.ref bt, .ref bp, .ref bl, .ref bh, .ref bq, .ref br, .ref bd, .int (jI bg), .int (jI bf)])), (br, .inl (cA, 31, .inl (jA yr)))]) ⟨hx, hb, hml, hown, hts⟩ (c_XT_takeOneOf l dC dI cA _ ta ts tn tp1'16 w tf 48 8 (by first | assumption | omega) (by first | assumption | omega) (by first | assumption | omega) (by first | assumption | omega) (by first | assumption | omega)) (cwV 2 hts (jG_V tw_159 tw_160 tw_161 tw_2 tw_162) rfl rfl rfl (by decide +kernel) (by rw [hR]; exact ⟨Nat.le_of_ble_eq_true rfl, Nat.le_of_ble_eq_true rfl⟩)) hK hP hD hS hA hN [3, 4] [0, 1, 2] rfl rfl (by decide) (by decide) (by decide) 3 3 rfl rfl rfl rfl hl.1 rfl (Nat.le_of_ble_eq_true rfl) dXR_routes_53 (by rw [hR]; exact ⟨Nat.le_of_ble_eq_true rfl, Nat.le_of_ble_eq_true rfl⟩) (fun v26 u25 H locs hwb27 hP hD hS => ?_)
              obtain ⟨r22, tp1'23, tw1'24⟩ := u25
              try dsimp only at hwb27
              obtain ⟨er, hwb27⟩ := hwb27
              subst er
              have hP : va_P (dC, dI) vwCl [(rda, .inr (2, [.ref ta])), (ba, .inr (0, [.ref bt, .ref bp, .ref bl, .ref bh, .ref bq, .ref br, .ref bd, .int (jI bg), .int (jI bf)])), (br, .inl (cA, 31, .inl (jA yr))), (ta, .inr (3, [.ref ts, .int (jI tn), .int (jI tp1'23), .int (jI tw1'24)])), (ts, .inl (cA, 400, .inl (jA tf)))] H := hP
              have hD : va_D A [(rda, .inr (2, [.ref ta])), (ba, .inr (0, [.ref bt, .ref bp, .ref bl, .ref bh, .ref bq, .ref br, .ref bd, .int (jI bg), .int (jI bf)])), (br, .inl (cA, 31, .inl (jA yr))), (ta, .inr (3, [.ref ts, .int (jI tn), .int (jI tp1'23), .int (jI tw1'24)])), (ts, .inl (cA, 400, .inl (jA tf)))] := hD
              have f28 := f_XT_takeOneOf_b tn tp1'16 w tf 48 8 (by first | assumption | omega) (by first | assumption | omega) (by first | assumption | omega) (by first | assumption | omega) (by first | assumption | omega)
              rw [← hwb27] at f28; try dsimp only at f28
              refine lv_istore (lv' := [(5, .int (jI r22)), (4, .int (jI k)), (3, .int (jI v)), (0, .ref rda), (1, .ref ba), (2, .int (jI zg))]) hx hb dXR_routes_56 hl (by decide) rfl (fun ls hl => ?_)
              refine lv_iload hx hb dXR_routes_58 (lv_at hl 0 rfl) ?_
              refine ji_iconst hx hb dXR_routes_60 ?_
              refine ji_icmp_ne (tgt := 66) hx hb dXR_routes_61 (by decide) (by omega) (by omega) (fun c61_29 => ?_) (fun c61_29 => ?_)
              · refine lv_iload hx hb dXR_routes_66 (lv_at hl 0 rfl) ?_
                refine lv_iload_n hx hb dXR_routes_68 rfl (lv_at hl 2 rfl) ?_
                refine ji_icmp_gt (tgt := 80) hx hb dXR_routes_69 (by decide) (by omega) (by omega) (fun c69_30 => ?_) (fun c69_30 => ?_)
                · refine lv_aload_n hx hb dXR_routes_80 rfl (lv_at hl 4 rfl) ?_
                  refine lv_iload_n hx hb dXR_routes_81 rfl (lv_at hl 5 rfl) ?_
                  refine lv_iload hx hb dXR_routes_82 (lv_at hl 0 rfl) ?_
                  refine jwVv (rest := []) (wr := [(rda, .inr (2, [.ref ta])), (ta, .inr (3, [.ref ts, .int (jI tn), .int (jI tp1'23), .int (jI tw1'24)])), (ts, .inl (cA, 400, .inl (jA tf)))]) ⟨hx, hb, hml, hown, hts⟩ (c_XB_tellRoute l dC dI cA _ ba bt bp bl bh bq br bd bg bf yr zg r22 (by first | assumption | omega) (by first | assumption | omega) (by first | assumption | omega)) (cwV 2 hts (jG_V tw_252 tw_253 tw_254 tw_5 tw_255) rfl rfl rfl (by decide +kernel) (by rw [hR]; exact ⟨Nat.le_of_ble_eq_true rfl, Nat.le_of_ble_eq_true rfl⟩)) hK hP hD hS hA hN [1, 2] [0, 3, 4] rfl rfl (by decide) (by decide) (by decide) 1 0 rfl rfl rfl rfl hl.1 rfl (Nat.le_of_ble_eq_true rfl) dXR_routes_84 (by rw [hR]; exact ⟨Nat.le_of_ble_eq_true rfl, Nat.le_of_ble_eq_true rfl⟩) (fun u31 H locs hw hP hD hS => ?_)
                  subst hw
                  have hP : va_P (dC, dI) vwCl [(rda, .inr (2, [.ref ta])), (ta, .inr (3, [.ref ts, .int (jI tn), .int (jI tp1'23), .int (jI tw1'24)])), (ts, .inl (cA, 400, .inl (jA tf))), (ba, .inr (0, [.ref bt, .ref bp, .ref bl, .ref bh, .ref bq, .ref br, .ref bd, .int (jI bg), .int (jI bf)])), (br, .inl (cA, 31, .inl (jA (f_XB_tellRoute bg bf yr zg r22))))] H := hP
                  have hD : va_D A [(rda, .inr (2, [.ref ta])), (ta, .inr (3, [.ref ts, .int (jI tn), .int (jI tp1'23), .int (jI tw1'24)])), (ts, .inl (cA, 400, .inl (jA tf))), (ba, .inr (0, [.ref bt, .ref bp, .ref bl, .ref bh, .ref bq, .ref br, .ref bd, .int (jI bg), .int (jI bf)])), (br, .inl (cA, 31, .inl (jA (f_XB_tellRoute bg bf yr zg r22))))] := hD
                  have f32 := f_XB_tellRoute_b bg bf yr zg r22 (by first | assumption | omega) (by first | assumption | omega) (by first | assumption | omega)
                  refine lv_iload hx hb dXR_routes_87 (lv_at hl 0 rfl) ?_
                  refine lv_istore_n (lv' := [(3, .int (jI r22)), (5, .int (jI r22)), (4, .int (jI k)), (0, .ref rda), (1, .ref ba), (2, .int (jI zg))]) hx hb dXR_routes_89 rfl hl (by decide) rfl (fun ls hl => ?_)
                  refine ji_iinc (k := 2) (lv' := [(4, .int (jI (k + 1))), (3, .int (jI r22)), (5, .int (jI r22)), (0, .ref rda), (1, .ref ba), (2, .int (jI zg))]) hx hb dXR_routes_90 hl rfl (by decide) rfl (fun ls hl => ?_)
                  refine lv_goto (tgt := 19) hx hb dXR_routes_93 (by decide) ?_
                  exact ih19 (k + 1) r22 tp1'23 tw1'24 (f_XB_tellRoute bg bf yr zg r22) (by omega) (Eq.trans (by rw [f_XR_routes_L19_s]; rw [if_pos c22_, if_pos c27_]; rw [← hwb19]; try dsimp only; rw [if_neg c40_]; rw [← hwb27]; try dsimp only; rw [if_neg c61_29, if_pos c69_30]; try rfl) hF) (by first | assumption | omega) (by first | assumption | omega) (by first | assumption | omega) (by first | assumption | omega) _ _ (hP.sub [0, 3, 4, 1, 2] rfl) (hD.sub [0, 3, 4, 1, 2] (by decide) rfl) hS ls (lv_sub hl [0, 1, 3, 4, 5] rfl)
                · refine lv_aload_n hx hb dXR_routes_72 rfl (lv_at hl 3 rfl) ?_
                  refine va_get (D := (dC, dI)) (ci := 2) (v := .ref ta) (C := RXR) (T := TXR) (N := 1) hx hb hts (fun w h => jmem (inXR w h)) hown hK hP 0 rfl rfl 0 (by decide) (hts _ (jmem tw_50)) (fun _ h9 => h9) rfl dXR_routes_73 ?_
                  refine jwVi (rest := []) (wr := [(rda, .inr (2, [.ref ta])), (ba, .inr (0, [.ref bt, .ref bp, .ref bl, .ref bh, .ref bq, .ref br, .ref bd, .int (jI bg), .int (jI bf)])), (br, .inl (cA, 31, .inl (jA yr)))]) ⟨hx, hb, hml, hown, hts⟩ (c_XT_refuseLast l dC dI cA _ ta ts tn tp1'23 tw1'24 tf) (cwV 0 hts (jG_V tw_174 tw_175 tw_176 tw_2 tw_177) rfl rfl rfl (by decide +kernel) (by rw [hR]; exact ⟨Nat.le_of_ble_eq_true rfl, Nat.le_of_ble_eq_true rfl⟩)) hK hP hD hS hA hN [3, 4] [0, 1, 2] rfl rfl (by decide) (by decide) (by decide) 3 3 rfl rfl rfl rfl hl.1 rfl (Nat.le_of_ble_eq_true rfl) dXR_routes_76 (by rw [hR]; exact ⟨Nat.le_of_ble_eq_true rfl, Nat.le_of_ble_eq_true rfl⟩) (fun v36 u35 H locs hwb37 hP hD hS => ?_)
                  obtain ⟨r33, tw1'34⟩ := u35
                  try dsimp only at hwb37
                  obtain ⟨er, hwb37⟩ := hwb37
                  subst er
                  have hP : va_P (dC, dI) vwCl [(rda, .inr (2, [.ref ta])), (ba, .inr (0, [.ref bt, .ref bp, .ref bl, .ref bh, .ref bq, .ref br, .ref bd, .int (jI bg), .int (jI bf)])), (br, .inl (cA, 31, .inl (jA yr))), (ta, .inr (3, [.ref ts, .int (jI tn), .int (jI tp1'23), .int (jI tw1'34)])), (ts, .inl (cA, 400, .inl (jA tf)))] H := hP
                  have hD : va_D A [(rda, .inr (2, [.ref ta])), (ba, .inr (0, [.ref bt, .ref bp, .ref bl, .ref bh, .ref bq, .ref br, .ref bd, .int (jI bg), .int (jI bf)])), (br, .inl (cA, 31, .inl (jA yr))), (ta, .inr (3, [.ref ts, .int (jI tn), .int (jI tp1'23), .int (jI tw1'34)])), (ts, .inl (cA, 400, .inl (jA tf)))] := hD
                  have f38 := f_XT_refuseLast_b tn tp1'23 tw1'24 tf
                  rw [← hwb37] at f38; try dsimp only at f38
                  have hP9 := hP.sub (ws' := [(rda, .inr (2, [.ref ta])), (ta, .inr (3, [.ref ts, .int (jI tn), .int (jI tp1'23), .int (jI tw1'34)])), (ts, .inl (cA, 400, .inl (jA tf))), (ba, .inr (0, [.ref bt, .ref bp, .ref bl, .ref bh, .ref bq, .ref br, .ref bd, .int (jI bg), .int (jI bf)])), (br, .inl (cA, 31, .inl (jA yr)))]) [0, 3, 4, 1, 2] rfl
                  have hD9 := hD.sub (ws' := [(rda, .inr (2, [.ref ta])), (ta, .inr (3, [.ref ts, .int (jI tn), .int (jI tp1'23), .int (jI tw1'34)])), (ts, .inl (cA, 400, .inl (jA tf))), (ba, .inr (0, [.ref bt, .ref bp, .ref bl, .ref bh, .ref bq, .ref br, .ref bd, .int (jI bg), .int (jI bf)])), (br, .inl (cA, 31, .inl (jA yr)))]) [0, 3, 4, 1, 2] (by decide) rfl
                  subst hAe
                  subst hQ
                  exact W.zret (v := jI r33) hx hb hr (by first | decide | exact jz (by omega)) (fun t ht hW => ⟨⟨_, (r33, tp1'23, tw1'34, yr), rfl, ⟨rfl, Eq.trans (by rw [f_XR_routes_L19_s]; rw [if_pos c22_, if_pos c27_]; rw [← hwb19]; try dsimp only; rw [if_neg c40_]; rw [← hwb27]; try dsimp only; rw [if_neg c61_29, if_neg (Int.not_lt.mpr c69_30)]; rw [← hwb37]; try dsimp only; try rfl) hF, show 0 ≤ r33 ∧ r33 ≤ 1 from by first | assumption | omega, show 0 ≤ tp1'23 ∧ tp1'23 ≤ tn from by first | assumption | omega, show ∀ i, 0 ≤ yr i ∧ yr i < 2147483648 from by first | assumption | omega⟩, ⟨by rw [ht]; exact hP9, va_K.moved hW.alike hK, hD9⟩⟩, hS.F ht⟩) hS.2.2 dXR_routes_79
              · refine ji_iconst hx hb dXR_routes_64 ?_
                have hP9 := hP.sub (ws' := [(rda, .inr (2, [.ref ta])), (ta, .inr (3, [.ref ts, .int (jI tn), .int (jI tp1'23), .int (jI tw1'24)])), (ts, .inl (cA, 400, .inl (jA tf))), (ba, .inr (0, [.ref bt, .ref bp, .ref bl, .ref bh, .ref bq, .ref br, .ref bd, .int (jI bg), .int (jI bf)])), (br, .inl (cA, 31, .inl (jA yr)))]) [0, 3, 4, 1, 2] rfl
                have hD9 := hD.sub (ws' := [(rda, .inr (2, [.ref ta])), (ta, .inr (3, [.ref ts, .int (jI tn), .int (jI tp1'23), .int (jI tw1'24)])), (ts, .inl (cA, 400, .inl (jA tf))), (ba, .inr (0, [.ref bt, .ref bp, .ref bl, .ref bh, .ref bq, .ref br, .ref bd, .int (jI bg), .int (jI bf)])), (br, .inl (cA, 31, .inl (jA yr)))]) [0, 3, 4, 1, 2] (by decide) rfl
                subst hAe
                subst hQ
                exact W.zret (v := jI 0) hx hb hr (by first | decide | exact jz (by omega)) (fun t ht hW => ⟨⟨_, (0, tp1'23, tw1'24, yr), rfl, ⟨rfl, Eq.trans (by rw [f_XR_routes_L19_s]; rw [if_pos c22_, if_pos c27_]; rw [← hwb19]; try dsimp only; rw [if_neg c40_]; rw [← hwb27]; try dsimp only; rw [if_pos c61_29]; try rfl) hF, show 0 ≤ 0 ∧ 0 ≤ 1 from by first | assumption | omega, show 0 ≤ tp1'23 ∧ tp1'23 ≤ tn from by first | assumption | omega, show ∀ i, 0 ≤ yr i ∧ yr i < 2147483648 from by first | assumption | omega⟩, ⟨by rw [ht]; exact hP9, va_K.moved hW.alike hK, hD9⟩⟩, hS.F ht⟩) hS.2.2 dXR_routes_65
            · refine ji_iconst hx hb dXR_routes_43 ?_
              have hP9 := hP.sub (ws' := [(rda, .inr (2, [.ref ta])), (ta, .inr (3, [.ref ts, .int (jI tn), .int (jI tp1'16), .int (jI w)])), (ts, .inl (cA, 400, .inl (jA tf))), (ba, .inr (0, [.ref bt, .ref bp, .ref bl, .ref bh, .ref bq, .ref br, .ref bd, .int (jI bg), .int (jI bf)])), (br, .inl (cA, 31, .inl (jA yr)))]) [0, 3, 4, 1, 2] rfl
              have hD9 := hD.sub (ws' := [(rda, .inr (2, [.ref ta])), (ta, .inr (3, [.ref ts, .int (jI tn), .int (jI tp1'16), .int (jI w)])), (ts, .inl (cA, 400, .inl (jA tf))), (ba, .inr (0, [.ref bt, .ref bp, .ref bl, .ref bh, .ref bq, .ref br, .ref bd, .int (jI bg), .int (jI bf)])), (br, .inl (cA, 31, .inl (jA yr)))]) [0, 3, 4, 1, 2] (by decide) rfl
              subst hAe
              subst hQ
              exact W.zret (v := jI 1) hx hb hr (by first | decide | exact jz (by omega)) (fun t ht hW => ⟨⟨_, (1, tp1'16, w, yr), rfl, ⟨rfl, Eq.trans (by rw [f_XR_routes_L19_s]; rw [if_pos c22_, if_pos c27_]; rw [← hwb19]; try dsimp only; rw [if_pos c40_]; try rfl) hF, show 0 ≤ 1 ∧ 1 ≤ 1 from by first | assumption | omega, show 0 ≤ tp1'16 ∧ tp1'16 ≤ tn from by first | assumption | omega, show ∀ i, 0 ≤ yr i ∧ yr i < 2147483648 from by first | assumption | omega⟩, ⟨by rw [ht]; exact hP9, va_K.moved hW.alike hK, hD9⟩⟩, hS.F ht⟩) hS.2.2 dXR_routes_44
    exact loop19 (Int.toNat (4 - 0) + 1) 0 (-1) tp1' tw fr (by omega) (Eq.trans (by rw [f_XR_routes_s]; rw [← hwb]; try dsimp only; rw [if_neg c9_]; try rfl) rfl) (by first | assumption | omega) (by first | assumption | omega) (by first | assumption | omega) (by first | assumption | omega) _ _ hP hD hS ls (lv_sub hl [0, 1, 2, 3, 4] rfl)
  · refine ji_iconst hx hb dXR_routes_12 ?_
    have hP9 := hP.sub (ws' := [(rda, .inr (2, [.ref ta])), (ta, .inr (3, [.ref ts, .int (jI tn), .int (jI tp1'), .int (jI tw)])), (ts, .inl (cA, 400, .inl (jA tf))), (ba, .inr (0, [.ref bt, .ref bp, .ref bl, .ref bh, .ref bq, .ref br, .ref bd, .int (jI bg), .int (jI bf)])), (br, .inl (cA, 31, .inl (jA fr)))]) [0, 3, 4, 1, 2] rfl
    have hD9 := hD.sub (ws' := [(rda, .inr (2, [.ref ta])), (ta, .inr (3, [.ref ts, .int (jI tn), .int (jI tp1'), .int (jI tw)])), (ts, .inl (cA, 400, .inl (jA tf))), (ba, .inr (0, [.ref bt, .ref bp, .ref bl, .ref bh, .ref bq, .ref br, .ref bd, .int (jI bg), .int (jI bf)])), (br, .inl (cA, 31, .inl (jA fr)))]) [0, 3, 4, 1, 2] (by decide) rfl
    subst hAe
    subst hQ
    exact W.zret (v := jI 1) hx hb hr (by first | decide | exact jz (by omega)) (fun t ht hW => ⟨⟨_, (1, tp1', tw, fr), rfl, ⟨rfl, Eq.trans (by rw [f_XR_routes_s]; rw [← hwb]; try dsimp only; rw [if_pos c9_]; try rfl) rfl, show 0 ≤ 1 ∧ 1 ≤ 1 from by first | assumption | omega, show 0 ≤ tp1' ∧ tp1' ≤ tn from by first | assumption | omega, show ∀ i, 0 ≤ fr i ∧ fr i < 2147483648 from by first | assumption | omega⟩, ⟨by rw [ht]; exact hP9, va_K.moved hW.alike hK, hD9⟩⟩, hS.F ht⟩) hS.2.2 dXR_routes_13
noncomputable def g_XR_limits_L2 (tn : Int) (tp : Int) (tw : Int) (tf : Int → Int) (bg : Int) (bf : Int) (fq : Int → Int) (zg : Int) : Nat → Int → Int → Int → (Int → Int) → Int × Int × Int × (Int → Int)
  | 0, _, _, _, _ => (0, 0, 0, fun _ => 0)
  | n9 + 1, k, q, w, yq =>
    if 4 < k then
      (1, q, w, yq)
    else
      match f_XT_skipIf tn q w tf 113 with
      | (r, tp1') =>
        if r = 0 then
          (1, tp1', w, yq)
        else
          match f_XT_takeOneOf tn tp1' w tf 48 4 with
          | (r1, tp1'2, tw1') =>
            if r1 = (-1) then
              (0, tp1'2, tw1', yq)
            else
              if (f_XB_tellsLimit bg bf yq zg r1) = 0 then
                match f_XT_take tn tp1'2 tw1' tf 60 with
                | (r9, tp1'10, tw1'11) =>
                  if r9 = 0 then
                    (0, tp1'10, tw1'11, yq)
                  else
                    match f_XT_number tn tp1'10 tw1'11 tf 0 999999 with
                    | (r16, tp1'17, tw1'18) =>
                      if r16 = (-1) then
                        (0, tp1'17, tw1'18, yq)
                      else
                        g_XR_limits_L2 tn tp tw tf bg bf fq zg n9 (k + 1) tp1'17 tw1'18 (f_XB_tellLimit bg bf yq zg r1 r16)
              else
                match f_XT_refuseLast tn tp1'2 tw1' tf with
                | (r25, tw1'26) =>
                  (r25, tp1'2, tw1'26, yq)
noncomputable def f_XR_limits_L2 : Int → Int → Int → (Int → Int) → Int → Int → (Int → Int) → Int → Nat → Int → Int → Int → (Int → Int) → Int × Int × Int × (Int → Int) := jopq g_XR_limits_L2
theorem f_XR_limits_L2_q : f_XR_limits_L2 = g_XR_limits_L2 := jopq_eq _
theorem f_XR_limits_L2_s (tn : Int) (tp : Int) (tw : Int) (tf : Int → Int) (bg : Int) (bf : Int) (fq : Int → Int) (zg : Int) (n9 : Nat) (k : Int) (q : Int) (w : Int) (yq : Int → Int) : f_XR_limits_L2 tn tp tw tf bg bf fq zg (n9 + 1) k q w yq = (
    if 4 < k then
      (1, q, w, yq)
    else
      match f_XT_skipIf tn q w tf 113 with
      | (r, tp1') =>
        if r = 0 then
          (1, tp1', w, yq)
        else
          match f_XT_takeOneOf tn tp1' w tf 48 4 with
          | (r1, tp1'2, tw1') =>
            if r1 = (-1) then
              (0, tp1'2, tw1', yq)
            else
              if (f_XB_tellsLimit bg bf yq zg r1) = 0 then
                match f_XT_take tn tp1'2 tw1' tf 60 with
                | (r9, tp1'10, tw1'11) =>
                  if r9 = 0 then
                    (0, tp1'10, tw1'11, yq)
                  else
                    match f_XT_number tn tp1'10 tw1'11 tf 0 999999 with
                    | (r16, tp1'17, tw1'18) =>
                      if r16 = (-1) then
                        (0, tp1'17, tw1'18, yq)
                      else
                        f_XR_limits_L2 tn tp tw tf bg bf fq zg n9 (k + 1) tp1'17 tw1'18 (f_XB_tellLimit bg bf yq zg r1 r16)
              else
                match f_XT_refuseLast tn tp1'2 tw1' tf with
                | (r25, tw1'26) =>
                  (r25, tp1'2, tw1'26, yq)
  : Int × Int × Int × (Int → Int)) := by rw [f_XR_limits_L2_q]; rfl
noncomputable def g_XR_limits (tn : Int) (tp : Int) (tw : Int) (tf : Int → Int) (bg : Int) (bf : Int) (fq : Int → Int) (zg : Int) : Int × Int × Int × (Int → Int) :=
  f_XR_limits_L2 tn tp tw tf bg bf fq zg (Int.toNat (5 - 0) + 1) 0 tp tw fq
noncomputable def f_XR_limits : Int → Int → Int → (Int → Int) → Int → Int → (Int → Int) → Int → Int × Int × Int × (Int → Int) := jopq g_XR_limits
theorem f_XR_limits_q : f_XR_limits = g_XR_limits := jopq_eq _
theorem f_XR_limits_s (tn : Int) (tp : Int) (tw : Int) (tf : Int → Int) (bg : Int) (bf : Int) (fq : Int → Int) (zg : Int) : f_XR_limits tn tp tw tf bg bf fq zg = (
    f_XR_limits_L2 tn tp tw tf bg bf fq zg (Int.toNat (5 - 0) + 1) 0 tp tw fq
  : Int × Int × Int × (Int → Int)) := by rw [f_XR_limits_q]; rfl
set_option maxHeartbeats 4000000 in
set_option maxRecDepth 100000 in
theorem c_XR_limits (l : Launch) (dC : Nat → ClassId) (dI : Nat → Nat → Nat) (cA : ClassId) (sz : Nat) (rda : Nat) (ta : Nat) (ts : Nat) (tn : Int) (tp : Int) (tw : Int) (tf : Int → Int) (ba : Nat) (bt : Nat) (bp : Nat) (bl : Nat) (bh : Nat) (bq : Nat) (br : Nat) (bd : Nat) (bg : Int) (bf : Int) (fq : Int → Int) (zg : Int) (hn : 0 ≤ tn ∧ tn ≤ 400) (hp : 0 ≤ tp ∧ tp ≤ tn) (hf : ∀ i, 0 ≤ tf i ∧ tf i < 256) (hbq : ∀ i, -1 ≤ fq i ∧ fq i ≤ 999999) (hzg : 0 ≤ zg ∧ zg ≤ 30) : Met l yXR_limits (Cond.code yXR_limits cXR_limits 6 (some .boolean) :: TBL) ({ frames := 2, cells := 0, slots := 0, locals := 44 } : Room) (va_Pc [.ref rda, .ref ba, .int (jI zg)] (jBw (dC, dI) [(cA, .int)] [(rda, .inr (2, [.ref ta])), (ta, .inr (3, [.ref ts, .int (jI tn), .int (jI tp), .int (jI tw)])), (ts, .inl (cA, 400, .inl (jA tf))), (ba, .inr (0, [.ref bt, .ref bp, .ref bl, .ref bh, .ref bq, .ref br, .ref bd, .int (jI bg), .int (jI bf)])), (bq, .inl (cA, 124, .inl (jA fq)))] sz)) (va_Qi (fun (r : Int32) (u : Int × Int × Int × (Int → Int)) => r = jI u.1 ∧ u = f_XR_limits tn tp tw tf bg bf fq zg ∧ (0 ≤ u.1 ∧ u.1 ≤ 1) ∧ (0 ≤ u.2.1 ∧ u.2.1 ≤ tn) ∧ (∀ i, -1 ≤ u.2.2.2 i ∧ u.2.2.2 i ≤ 999999)) (fun u t => jE (dC, dI) [(cA, .int)] [(rda, .inr (2, [.ref ta])), (ta, .inr (3, [.ref ts, .int (jI tn), .int (jI tp), .int (jI tw)])), (ts, .inl (cA, 400, .inl (jA tf))), (ba, .inr (0, [.ref bt, .ref bp, .ref bl, .ref bh, .ref bq, .ref br, .ref bd, .int (jI bg), .int (jI bf)])), (bq, .inl (cA, 124, .inl (jA fq)))] sz [(rda, .inr (2, [.ref ta])), (ta, .inr (3, [.ref ts, .int (jI tn), .int (jI u.2.1), .int (jI u.2.2.1)])), (ts, .inl (cA, 400, .inl (jA tf))), (ba, .inr (0, [.ref bt, .ref bp, .ref bl, .ref bh, .ref bq, .ref br, .ref bd, .int (jI bg), .int (jI bf)])), (bq, .inl (cA, 124, .inl (jA u.2.2.2)))] t) (va_A [(rda, .inr (2, [.ref ta])), (ta, .inr (3, [.ref ts, .int (jI tn), .int (jI tp), .int (jI tw)])), (ts, .inl (cA, 400, .inl (jA tf))), (ba, .inr (0, [.ref bt, .ref bp, .ref bl, .ref bh, .ref bq, .ref br, .ref bd, .int (jI bg), .int (jI bf)])), (bq, .inl (cA, 124, .inl (jA fq)))] sz)) 0 0 (va_A [(rda, .inr (2, [.ref ta])), (ta, .inr (3, [.ref ts, .int (jI tn), .int (jI tp), .int (jI tw)])), (ts, .inl (cA, 400, .inl (jA tf))), (ba, .inr (0, [.ref bt, .ref bp, .ref bl, .ref bh, .ref bq, .ref br, .ref bd, .int (jI bg), .int (jI bf)])), (bq, .inl (cA, 124, .inl (jA fq)))] sz) := by
  refine jMet (cc := cXR_limits) (maxL := 6) (ret := some .boolean) (by decide) rfl ?_
  intro p e s m args below meth c s₁ R Q hR hQ B hml hv
  obtain ⟨rfl, hsz, hP, hK, hD0, hN⟩ := hv
  have hx := B.exec
  have hb := B.bytes
  have hr := B.returns
  have hts := atoms_spec (ws := Cond.code yXR_limits cXR_limits 6 (some .boolean) :: TBL) B.pre
  have hown : s.vm.findClass RXR = some m.cls := findClass_of_methodNamed B.named
  have hlocks := B.notSynchronized
  subst hsz
  obtain ⟨A, hAe⟩ : ∃ A, A = va_A [(rda, .inr (2, [.ref ta])), (ta, .inr (3, [.ref ts, .int (jI tn), .int (jI tp), .int (jI tw)])), (ts, .inl (cA, 400, .inl (jA tf))), (ba, .inr (0, [.ref bt, .ref bp, .ref bl, .ref bh, .ref bq, .ref br, .ref bd, .int (jI bg), .int (jI bf)])), (bq, .inl (cA, 124, .inl (jA fq)))] s.heap.size := ⟨_, rfl⟩
  have hD : va_D A [(rda, .inr (2, [.ref ta])), (ta, .inr (3, [.ref ts, .int (jI tn), .int (jI tp), .int (jI tw)])), (ts, .inl (cA, 400, .inl (jA tf))), (ba, .inr (0, [.ref bt, .ref bp, .ref bl, .ref bh, .ref bq, .ref br, .ref bd, .int (jI bg), .int (jI bf)])), (bq, .inl (cA, 124, .inl (jA fq)))] := by rw [hAe]; exact hD0.self
  have hA : ∀ q : Nat, s.heap.size ≤ q → A q := fun q h => by rw [hAe]; exact Or.inr h
  have hS : va_S A s.heap s.heap [] := va_S.rf
  have hP : va_P (dC, dI) vwCl [(rda, .inr (2, [.ref ta])), (ta, .inr (3, [.ref ts, .int (jI tn), .int (jI tp), .int (jI tw)])), (ts, .inl (cA, 400, .inl (jA tf))), (ba, .inr (0, [.ref bt, .ref bp, .ref bl, .ref bh, .ref bq, .ref br, .ref bd, .int (jI bg), .int (jI bf)])), (bq, .inl (cA, 124, .inl (jA fq)))] s.heap := hP
  have hl := lv_entry ([.ref rda, .ref ba, .int (jI zg)]) (n := 6) (Nat.le_of_ble_eq_true rfl)
  rw [lg_entry_eq]
  generalize (lg_sl ([.ref rda, .ref ba, .int (jI zg)]) ++ List.replicate (6 - (lg_sl ([.ref rda, .ref ba, .int (jI zg)])).length) Slot.unset).toArray = ls at hl ⊢
  have hl : lv_has ls 6 [(0, .ref rda), (1, .ref ba), (2, .int (jI zg))] := hl
  refine ji_iconst hx hb dXR_limits_0 ?_
  refine lv_istore_n (lv' := [(3, .int (jI 0)), (0, .ref rda), (1, .ref ba), (2, .int (jI zg))]) hx hb dXR_limits_1 rfl hl (by decide) rfl (fun ls hl => ?_)
  have loop2 : ∀ (n9 : Nat) (k : Int) (q : Int) (w : Int) (yq : Int → Int) , 5 - k < (n9 : Int) → f_XR_limits_L2 tn tp tw tf bg bf fq zg n9 k q w yq = f_XR_limits tn tp tw tf bg bf fq zg → (0 ≤ k ∧ k ≤ 5) → (0 ≤ q ∧ q ≤ tn) → (∀ i, -1 ≤ yq i ∧ yq i ≤ 999999) → ∀ (H : Heap) (locs : List Loc), va_P (dC, dI) vwCl [(rda, .inr (2, [.ref ta])), (ta, .inr (3, [.ref ts, .int (jI tn), .int (jI q), .int (jI w)])), (ts, .inl (cA, 400, .inl (jA tf))), (ba, .inr (0, [.ref bt, .ref bp, .ref bl, .ref bh, .ref bq, .ref br, .ref bd, .int (jI bg), .int (jI bf)])), (bq, .inl (cA, 124, .inl (jA yq)))] H → va_D A [(rda, .inr (2, [.ref ta])), (ta, .inr (3, [.ref ts, .int (jI tn), .int (jI q), .int (jI w)])), (ts, .inl (cA, 400, .inl (jA tf))), (ba, .inr (0, [.ref bt, .ref bp, .ref bl, .ref bh, .ref bq, .ref br, .ref bd, .int (jI bg), .int (jI bf)])), (bq, .inl (cA, 124, .inl (jA yq)))] → va_S A s.heap H locs → ∀ ls : Array Slot, lv_has ls 6 [(3, .int (jI k)), (0, .ref rda), (1, .ref ba), (2, .int (jI zg))] → W p l e R s m ([.ref rda, .ref ba, .int (jI zg)] : List Value).toArray below meth c H locs 0 0 Q (F0 m 2 ls []) := by
    intro n9
    induction n9 with
    | zero =>
      intro k q w yq hm hF hk hq haq
      exact absurd hm (by omega)
    | succ n9 ih2 =>
      intro k q w yq hm hF hk hq haq H locs hP hD hS ls hl
      refine lv_iload_n hx hb dXR_limits_2 rfl (lv_at hl 0 rfl) ?_
      refine ji_iconst hx hb dXR_limits_3 ?_
      refine ji_icmp_gt (tgt := 106) hx hb dXR_limits_4 (by decide) (by omega) (by omega) (fun c4_ => ?_) (fun c4_ => ?_)
      · refine ji_iconst hx hb dXR_limits_106 ?_
        have hP9 := hP.sub (ws' := [(rda, .inr (2, [.ref ta])), (ta, .inr (3, [.ref ts, .int (jI tn), .int (jI q), .int (jI w)])), (ts, .inl (cA, 400, .inl (jA tf))), (ba, .inr (0, [.ref bt, .ref bp, .ref bl, .ref bh, .ref bq, .ref br, .ref bd, .int (jI bg), .int (jI bf)])), (bq, .inl (cA, 124, .inl (jA yq)))]) [0, 1, 2, 3, 4] rfl
        have hD9 := hD.sub (ws' := [(rda, .inr (2, [.ref ta])), (ta, .inr (3, [.ref ts, .int (jI tn), .int (jI q), .int (jI w)])), (ts, .inl (cA, 400, .inl (jA tf))), (ba, .inr (0, [.ref bt, .ref bp, .ref bl, .ref bh, .ref bq, .ref br, .ref bd, .int (jI bg), .int (jI bf)])), (bq, .inl (cA, 124, .inl (jA yq)))]) [0, 1, 2, 3, 4] (by decide) rfl
        subst hAe
        subst hQ
        exact W.zret (v := jI 1) hx hb hr (by first | decide | exact jz (by omega)) (fun t ht hW => ⟨⟨_, (1, q, w, yq), rfl, ⟨rfl, Eq.trans (by rw [f_XR_limits_L2_s]; rw [if_pos c4_]; try rfl) hF, show 0 ≤ 1 ∧ 1 ≤ 1 from by first | assumption | omega, show 0 ≤ q ∧ q ≤ tn from by first | assumption | omega, show ∀ i, -1 ≤ yq i ∧ yq i ≤ 999999 from by first | assumption | omega⟩, ⟨by rw [ht]; exact hP9, va_K.moved hW.alike hK, hD9⟩⟩, hS.F ht⟩) hS.2.2 dXR_limits_107
      · refine lv_aload_n hx hb dXR_limits_7 rfl (lv_at hl 1 rfl) ?_
        refine va_get (D := (dC, dI)) (ci := 2) (v := .ref ta) (C := RXR) (T := TXR) (N := 1) hx hb hts (fun w h => jmem (inXR w h)) hown hK hP 0 rfl rfl 0 (by decide) (hts _ (jmem tw_50)) (fun _ h9 => h9) rfl dXR_limits_8 ?_
        refine ji_bipush hx hb dXR_limits_11 (by decide) ?_
        refine jwVi (rest := []) (wr := [(rda, .inr (2, [.ref ta])), (ba, .inr (0, [.ref bt, .ref bp, .ref bl, .ref bh, .ref bq, .ref br, .ref bd, .int (jI bg), .int (jI bf)])), (bq, .inl (cA, 124, .inl (jA yq)))]) ⟨hx, hb, hml, hown, hts⟩ (c_XT_skipIf l dC dI cA _ ta ts tn q w tf 113 (by first | assumption | omega) (by first | assumption | omega) (by first | assumption | omega) (by first | assumption | omega) (by first | assumption | omega)) (cwV 1 hts (jG_V tw_150 tw_151 tw_152 tw_2 tw_153) rfl rfl rfl (by decide +kernel) (by rw [hR]; exact ⟨Nat.le_of_ble_eq_true rfl, Nat.le_of_ble_eq_true rfl⟩)) hK hP hD hS hA hN [1, 2] [0, 3, 4] rfl rfl (by decide) (by decide) (by decide) 1 3 rfl rfl rfl rfl hl.1 rfl (Nat.le_of_ble_eq_true rfl) dXR_limits_13 (by rw [hR]; exact ⟨Nat.le_of_ble_eq_true rfl, Nat.le_of_ble_eq_true rfl⟩) (fun v u H locs hwb hP hD hS => ?_)
        obtain ⟨r, tp1'⟩ := u
        try dsimp only at hwb
        obtain ⟨er, hwb⟩ := hwb
        subst er
        have hP : va_P (dC, dI) vwCl [(rda, .inr (2, [.ref ta])), (ba, .inr (0, [.ref bt, .ref bp, .ref bl, .ref bh, .ref bq, .ref br, .ref bd, .int (jI bg), .int (jI bf)])), (bq, .inl (cA, 124, .inl (jA yq))), (ta, .inr (3, [.ref ts, .int (jI tn), .int (jI tp1'), .int (jI w)])), (ts, .inl (cA, 400, .inl (jA tf)))] H := hP
        have hD : va_D A [(rda, .inr (2, [.ref ta])), (ba, .inr (0, [.ref bt, .ref bp, .ref bl, .ref bh, .ref bq, .ref br, .ref bd, .int (jI bg), .int (jI bf)])), (bq, .inl (cA, 124, .inl (jA yq))), (ta, .inr (3, [.ref ts, .int (jI tn), .int (jI tp1'), .int (jI w)])), (ts, .inl (cA, 400, .inl (jA tf)))] := hD
        have f := f_XT_skipIf_b tn q w tf 113 (by first | assumption | omega) (by first | assumption | omega) (by first | assumption | omega) (by first | assumption | omega) (by first | assumption | omega)
        rw [← hwb] at f; try dsimp only at f
        refine ji_if_eq (tgt := 106) hx hb dXR_limits_16 (by decide) (by omega) (fun c16_ => ?_) (fun c16_ => ?_)
        · refine ji_iconst hx hb dXR_limits_106 ?_
          have hP9 := hP.sub (ws' := [(rda, .inr (2, [.ref ta])), (ta, .inr (3, [.ref ts, .int (jI tn), .int (jI tp1'), .int (jI w)])), (ts, .inl (cA, 400, .inl (jA tf))), (ba, .inr (0, [.ref bt, .ref bp, .ref bl, .ref bh, .ref bq, .ref br, .ref bd, .int (jI bg), .int (jI bf)])), (bq, .inl (cA, 124, .inl (jA yq)))]) [0, 3, 4, 1, 2] rfl
          have hD9 := hD.sub (ws' := [(rda, .inr (2, [.ref ta])), (ta, .inr (3, [.ref ts, .int (jI tn), .int (jI tp1'), .int (jI w)])), (ts, .inl (cA, 400, .inl (jA tf))), (ba, .inr (0, [.ref bt, .ref bp, .ref bl, .ref bh, .ref bq, .ref br, .ref bd, .int (jI bg), .int (jI bf)])), (bq, .inl (cA, 124, .inl (jA yq)))]) [0, 3, 4, 1, 2] (by decide) rfl
          subst hAe
          subst hQ
          exact W.zret (v := jI 1) hx hb hr (by first | decide | exact jz (by omega)) (fun t ht hW => ⟨⟨_, (1, tp1', w, yq), rfl, ⟨rfl, Eq.trans (by rw [f_XR_limits_L2_s]; rw [if_neg (Int.not_lt.mpr c4_)]; rw [← hwb]; try dsimp only; rw [if_pos c16_]; try rfl) hF, show 0 ≤ 1 ∧ 1 ≤ 1 from by first | assumption | omega, show 0 ≤ tp1' ∧ tp1' ≤ tn from by first | assumption | omega, show ∀ i, -1 ≤ yq i ∧ yq i ≤ 999999 from by first | assumption | omega⟩, ⟨by rw [ht]; exact hP9, va_K.moved hW.alike hK, hD9⟩⟩, hS.F ht⟩) hS.2.2 dXR_limits_107
        · refine lv_aload_n hx hb dXR_limits_19 rfl (lv_at hl 1 rfl) ?_
          refine va_get (D := (dC, dI)) (ci := 2) (v := .ref ta) (C := RXR) (T := TXR) (N := 1) hx hb hts (fun w h => jmem (inXR w h)) hown hK hP 0 rfl rfl 0 (by decide) (hts _ (jmem tw_50)) (fun _ h9 => h9) rfl dXR_limits_20 ?_
          refine ji_bipush hx hb dXR_limits_23 (by decide) ?_
          refine ji_iconst hx hb dXR_limits_25 ?_
          refine jwVi (rest := []) (wr := [(rda, .inr (2, [.ref ta])), (ba, .inr (0, [.ref bt, .ref bp, .ref bl, .ref bh, .ref bq, .ref br, .ref bd, .int (jI bg), .int (jI bf)])), (bq, .inl (cA, 124, .inl (jA yq)))]) ⟨hx, hb, hml, hown, hts⟩ (c_XT_takeOneOf l dC dI cA _ ta ts tn tp1' w tf 48 4 (by first | assumption | omega) (by first | assumption | omega) (by first | assumption | omega) (by first | assumption | omega) (by first | assumption | omega)) (cwV 2 hts (jG_V tw_159 tw_160 tw_161 tw_2 tw_162) rfl rfl rfl (by decide +kernel) (by rw [hR]; exact ⟨Nat.le_of_ble_eq_true rfl, Nat.le_of_ble_eq_true rfl⟩)) hK hP hD hS hA hN [3, 4] [0, 1, 2] rfl rfl (by decide) (by decide) (by decide) 3 3 rfl rfl rfl rfl hl.1 rfl (Nat.le_of_ble_eq_true rfl) dXR_limits_26 (by rw [hR]; exact ⟨Nat.le_of_ble_eq_true rfl, Nat.le_of_ble_eq_true rfl⟩) (fun v4 u3 H locs hwb5 hP hD hS => ?_)
          obtain ⟨r1, tp1'2, tw1'⟩ := u3
          try dsimp only at hwb5
          obtain ⟨er, hwb5⟩ := hwb5
          subst er
          have hP : va_P (dC, dI) vwCl [(rda, .inr (2, [.ref ta])), (ba, .inr (0, [.ref bt, .ref bp, .ref bl, .ref bh, .ref bq, .ref br, .ref bd, .int (jI bg), .int (jI bf)])), (bq, .inl (cA, 124, .inl (jA yq))), (ta, .inr (3, [.ref ts, .int (jI tn), .int (jI tp1'2), .int (jI tw1')])), (ts, .inl (cA, 400, .inl (jA tf)))] H := hP
          have hD : va_D A [(rda, .inr (2, [.ref ta])), (ba, .inr (0, [.ref bt, .ref bp, .ref bl, .ref bh, .ref bq, .ref br, .ref bd, .int (jI bg), .int (jI bf)])), (bq, .inl (cA, 124, .inl (jA yq))), (ta, .inr (3, [.ref ts, .int (jI tn), .int (jI tp1'2), .int (jI tw1')])), (ts, .inl (cA, 400, .inl (jA tf)))] := hD
          have f6 := f_XT_takeOneOf_b tn tp1' w tf 48 4 (by first | assumption | omega) (by first | assumption | omega) (by first | assumption | omega) (by first | assumption | omega) (by first | assumption | omega)
          rw [← hwb5] at f6; try dsimp only at f6
          refine lv_istore (lv' := [(4, .int (jI r1)), (3, .int (jI k)), (0, .ref rda), (1, .ref ba), (2, .int (jI zg))]) hx hb dXR_limits_29 hl (by decide) rfl (fun ls hl => ?_)
          refine lv_iload hx hb dXR_limits_31 (lv_at hl 0 rfl) ?_
          refine ji_iconst hx hb dXR_limits_33 ?_
          refine ji_icmp_ne (tgt := 39) hx hb dXR_limits_34 (by decide) (by omega) (by omega) (fun c34_ => ?_) (fun c34_ => ?_)
          · refine lv_aload_n hx hb dXR_limits_39 rfl (lv_at hl 3 rfl) ?_
            refine lv_iload_n hx hb dXR_limits_40 rfl (lv_at hl 4 rfl) ?_
            refine lv_iload hx hb dXR_limits_41 (lv_at hl 0 rfl) ?_
            refine jrVi (rest := []) ⟨hx, hb, hml, hown, hts⟩ (c_XB_tellsLimit l dC dI cA ba bt bp bl bh bq br bd bg bf yq zg r1 (by first | assumption | omega) (by first | assumption | omega) (by first | assumption | omega)) (cwV 2 hts (jG_V tw_260 tw_261 tw_262 tw_5 tw_263) rfl rfl rfl (by decide +kernel) (by rw [hR]; exact ⟨Nat.le_of_ble_eq_true rfl, Nat.le_of_ble_eq_true rfl⟩)) hK hP hN [1, 2] rfl 1 0 rfl rfl rfl rfl hl.1 rfl (Nat.le_of_ble_eq_true rfl) dXR_limits_43 (by rw [hR]; exact ⟨Nat.le_of_ble_eq_true rfl, Nat.le_of_ble_eq_true rfl⟩) ?_
            have f7 := f_XB_tellsLimit_b bg bf yq zg r1 (by first | assumption | omega) (by first | assumption | omega) (by first | assumption | omega)
            have f8 := f_XB_tellsLimit_c bg bf yq zg r1 (by first | assumption | omega) (by first | assumption | omega) (by first | assumption | omega)
            refine ji_if_eq (tgt := 57) hx hb dXR_limits_46 (by decide) (by omega) (fun c46_ => ?_) (fun c46_ => ?_)
            · refine lv_aload_n hx hb dXR_limits_57 rfl (lv_at hl 2 rfl) ?_
              refine va_get (D := (dC, dI)) (ci := 2) (v := .ref ta) (C := RXR) (T := TXR) (N := 1) hx hb hts (fun w h => jmem (inXR w h)) hown hK hP 0 rfl rfl 0 (by decide) (hts _ (jmem tw_50)) (fun _ h9 => h9) rfl dXR_limits_58 ?_
              refine ji_bipush hx hb dXR_limits_61 (by decide) ?_
              refine jwVi (rest := []) (wr := [(rda, .inr (2, [.ref ta])), (ba, .inr (0, [.ref bt, .ref bp, .ref bl, .ref bh, .ref bq, .ref br, .ref bd, .int (jI bg), .int (jI bf)])), (bq, .inl (cA, 124, .inl (jA yq)))]) ⟨hx, hb, hml, hown, hts⟩ (c_XT_take l dC dI cA _ ta ts tn tp1'2 tw1' tf 60 (by first | assumption | omega) (by first | assumption | omega) (by first | assumption | omega) (by first | assumption | omega) (by first | assumption | omega)) (cwV 1 hts (jG_V tw_182 tw_183 tw_184 tw_2 tw_185) rfl rfl rfl (by decide +kernel) (by rw [hR]; exact ⟨Nat.le_of_ble_eq_true rfl, Nat.le_of_ble_eq_true rfl⟩)) hK hP hD hS hA hN [3, 4] [0, 1, 2] rfl rfl (by decide) (by decide) (by decide) 3 3 rfl rfl rfl rfl hl.1 rfl (Nat.le_of_ble_eq_true rfl) dXR_limits_63 (by rw [hR]; exact ⟨Nat.le_of_ble_eq_true rfl, Nat.le_of_ble_eq_true rfl⟩) (fun v13 u12 H locs hwb14 hP hD hS => ?_)
              obtain ⟨r9, tp1'10, tw1'11⟩ := u12
              try dsimp only at hwb14
              obtain ⟨er, hwb14⟩ := hwb14
              subst er
              have hP : va_P (dC, dI) vwCl [(rda, .inr (2, [.ref ta])), (ba, .inr (0, [.ref bt, .ref bp, .ref bl, .ref bh, .ref bq, .ref br, .ref bd, .int (jI bg), .int (jI bf)])), (bq, .inl (cA, 124, .inl (jA yq))), (ta, .inr (3, [.ref ts, .int (jI tn), .int (jI tp1'10), .int (jI tw1'11)])), (ts, .inl (cA, 400, .inl (jA tf)))] H := hP
              have hD : va_D A [(rda, .inr (2, [.ref ta])), (ba, .inr (0, [.ref bt, .ref bp, .ref bl, .ref bh, .ref bq, .ref br, .ref bd, .int (jI bg), .int (jI bf)])), (bq, .inl (cA, 124, .inl (jA yq))), (ta, .inr (3, [.ref ts, .int (jI tn), .int (jI tp1'10), .int (jI tw1'11)])), (ts, .inl (cA, 400, .inl (jA tf)))] := hD
              have f15 := f_XT_take_b tn tp1'2 tw1' tf 60 (by first | assumption | omega) (by first | assumption | omega) (by first | assumption | omega) (by first | assumption | omega) (by first | assumption | omega)
              rw [← hwb14] at f15; try dsimp only at f15
              refine ji_if_ne (tgt := 71) hx hb dXR_limits_66 (by decide) (by omega) (fun c66_ => ?_) (fun c66_ => ?_)
              · refine lv_aload_n hx hb dXR_limits_71 rfl (lv_at hl 2 rfl) ?_
                refine va_get (D := (dC, dI)) (ci := 2) (v := .ref ta) (C := RXR) (T := TXR) (N := 1) hx hb hts (fun w h => jmem (inXR w h)) hown hK hP 0 rfl rfl 0 (by decide) (hts _ (jmem tw_50)) (fun _ h9 => h9) rfl dXR_limits_72 ?_
                refine ji_iconst hx hb dXR_limits_75 ?_
                refine lv_ldc hx hb hown (hts _ (jmem tw_264)) dXR_limits_76 ?_
                refine ji_re (y := 999999) (by decide) ?_
                refine jwVi (rest := []) (wr := [(rda, .inr (2, [.ref ta])), (ba, .inr (0, [.ref bt, .ref bp, .ref bl, .ref bh, .ref bq, .ref br, .ref bd, .int (jI bg), .int (jI bf)])), (bq, .inl (cA, 124, .inl (jA yq)))]) ⟨hx, hb, hml, hown, hts⟩ (c_XT_number l dC dI cA _ ta ts tn tp1'10 tw1'11 tf 0 999999 (by first | assumption | omega) (by first | assumption | omega) (by first | assumption | omega) (by first | assumption | omega) (by first | assumption | omega)) (cwV 2 hts (jG_V tw_194 tw_195 tw_196 tw_2 tw_197) rfl rfl rfl (by decide +kernel) (by rw [hR]; exact ⟨Nat.le_of_ble_eq_true rfl, Nat.le_of_ble_eq_true rfl⟩)) hK hP hD hS hA hN [3, 4] [0, 1, 2] rfl rfl (by decide) (by decide) (by decide) 3 3 rfl rfl rfl rfl hl.1 rfl (Nat.le_of_ble_eq_true rfl) dXR_limits_78 (by rw [hR]; exact ⟨Nat.le_of_ble_eq_true rfl, Nat.le_of_ble_eq_true rfl⟩) (fun v20 u19 H locs hwb21 hP hD hS => ?_)
                obtain ⟨r16, tp1'17, tw1'18⟩ := u19
                try dsimp only at hwb21
                obtain ⟨er, hwb21⟩ := hwb21
                subst er
                have hP : va_P (dC, dI) vwCl [(rda, .inr (2, [.ref ta])), (ba, .inr (0, [.ref bt, .ref bp, .ref bl, .ref bh, .ref bq, .ref br, .ref bd, .int (jI bg), .int (jI bf)])), (bq, .inl (cA, 124, .inl (jA yq))), (ta, .inr (3, [.ref ts, .int (jI tn), .int (jI tp1'17), .int (jI tw1'18)])), (ts, .inl (cA, 400, .inl (jA tf)))] H := hP
                have hD : va_D A [(rda, .inr (2, [.ref ta])), (ba, .inr (0, [.ref bt, .ref bp, .ref bl, .ref bh, .ref bq, .ref br, .ref bd, .int (jI bg), .int (jI bf)])), (bq, .inl (cA, 124, .inl (jA yq))), (ta, .inr (3, [.ref ts, .int (jI tn), .int (jI tp1'17), .int (jI tw1'18)])), (ts, .inl (cA, 400, .inl (jA tf)))] := hD
                have f22 := f_XT_number_b tn tp1'10 tw1'11 tf 0 999999 (by first | assumption | omega) (by first | assumption | omega) (by first | assumption | omega) (by first | assumption | omega) (by first | assumption | omega)
                rw [← hwb21] at f22; try dsimp only at f22
                refine lv_istore (lv' := [(5, .int (jI r16)), (4, .int (jI r1)), (3, .int (jI k)), (0, .ref rda), (1, .ref ba), (2, .int (jI zg))]) hx hb dXR_limits_81 hl (by decide) rfl (fun ls hl => ?_)
                refine lv_iload hx hb dXR_limits_83 (lv_at hl 0 rfl) ?_
                refine ji_iconst hx hb dXR_limits_85 ?_
                refine ji_icmp_ne (tgt := 91) hx hb dXR_limits_86 (by decide) (by omega) (by omega) (fun c86_ => ?_) (fun c86_ => ?_)
                · refine lv_aload_n hx hb dXR_limits_91 rfl (lv_at hl 4 rfl) ?_
                  refine lv_iload_n hx hb dXR_limits_92 rfl (lv_at hl 5 rfl) ?_
                  refine lv_iload hx hb dXR_limits_93 (lv_at hl 1 rfl) ?_
                  refine lv_iload hx hb dXR_limits_95 (lv_at hl 0 rfl) ?_
                  refine jwVv (rest := []) (wr := [(rda, .inr (2, [.ref ta])), (ta, .inr (3, [.ref ts, .int (jI tn), .int (jI tp1'17), .int (jI tw1'18)])), (ts, .inl (cA, 400, .inl (jA tf)))]) ⟨hx, hb, hml, hown, hts⟩ (c_XB_tellLimit l dC dI cA _ ba bt bp bl bh bq br bd bg bf yq zg r1 r16 (by first | assumption | omega) (by first | assumption | omega) (by first | assumption | omega) (by first | assumption | omega)) (cwV 3 hts (jG_V tw_265 tw_266 tw_267 tw_5 tw_268) rfl rfl rfl (by decide +kernel) (by rw [hR]; exact ⟨Nat.le_of_ble_eq_true rfl, Nat.le_of_ble_eq_true rfl⟩)) hK hP hD hS hA hN [1, 2] [0, 3, 4] rfl rfl (by decide) (by decide) (by decide) 1 0 rfl rfl rfl rfl hl.1 rfl (Nat.le_of_ble_eq_true rfl) dXR_limits_97 (by rw [hR]; exact ⟨Nat.le_of_ble_eq_true rfl, Nat.le_of_ble_eq_true rfl⟩) (fun u23 H locs hw hP hD hS => ?_)
                  subst hw
                  have hP : va_P (dC, dI) vwCl [(rda, .inr (2, [.ref ta])), (ta, .inr (3, [.ref ts, .int (jI tn), .int (jI tp1'17), .int (jI tw1'18)])), (ts, .inl (cA, 400, .inl (jA tf))), (ba, .inr (0, [.ref bt, .ref bp, .ref bl, .ref bh, .ref bq, .ref br, .ref bd, .int (jI bg), .int (jI bf)])), (bq, .inl (cA, 124, .inl (jA (f_XB_tellLimit bg bf yq zg r1 r16))))] H := hP
                  have hD : va_D A [(rda, .inr (2, [.ref ta])), (ta, .inr (3, [.ref ts, .int (jI tn), .int (jI tp1'17), .int (jI tw1'18)])), (ts, .inl (cA, 400, .inl (jA tf))), (ba, .inr (0, [.ref bt, .ref bp, .ref bl, .ref bh, .ref bq, .ref br, .ref bd, .int (jI bg), .int (jI bf)])), (bq, .inl (cA, 124, .inl (jA (f_XB_tellLimit bg bf yq zg r1 r16))))] := hD
                  have f24 := f_XB_tellLimit_b bg bf yq zg r1 r16 (by first | assumption | omega) (by first | assumption | omega) (by first | assumption | omega) (by first | assumption | omega)
                  refine ji_iinc (k := 2) (lv' := [(3, .int (jI (k + 1))), (5, .int (jI r16)), (4, .int (jI r1)), (0, .ref rda), (1, .ref ba), (2, .int (jI zg))]) hx hb dXR_limits_100 hl rfl (by decide) rfl (fun ls hl => ?_)
                  refine lv_goto (tgt := 2) hx hb dXR_limits_103 (by decide) ?_
                  exact ih2 (k + 1) tp1'17 tw1'18 (f_XB_tellLimit bg bf yq zg r1 r16) (by omega) (Eq.trans (by rw [f_XR_limits_L2_s]; rw [if_neg (Int.not_lt.mpr c4_)]; rw [← hwb]; try dsimp only; rw [if_neg c16_]; rw [← hwb5]; try dsimp only; rw [if_neg c34_, if_pos c46_]; rw [← hwb14]; try dsimp only; rw [if_neg c66_]; rw [← hwb21]; try dsimp only; rw [if_neg c86_]; try rfl) hF) (by first | assumption | omega) (by first | assumption | omega) (by first | assumption | omega) _ _ hP hD hS ls (lv_sub hl [0, 3, 4, 5] rfl)
                · refine ji_iconst hx hb dXR_limits_89 ?_
                  have hP9 := hP.sub (ws' := [(rda, .inr (2, [.ref ta])), (ta, .inr (3, [.ref ts, .int (jI tn), .int (jI tp1'17), .int (jI tw1'18)])), (ts, .inl (cA, 400, .inl (jA tf))), (ba, .inr (0, [.ref bt, .ref bp, .ref bl, .ref bh, .ref bq, .ref br, .ref bd, .int (jI bg), .int (jI bf)])), (bq, .inl (cA, 124, .inl (jA yq)))]) [0, 3, 4, 1, 2] rfl
                  have hD9 := hD.sub (ws' := [(rda, .inr (2, [.ref ta])), (ta, .inr (3, [.ref ts, .int (jI tn), .int (jI tp1'17), .int (jI tw1'18)])), (ts, .inl (cA, 400, .inl (jA tf))), (ba, .inr (0, [.ref bt, .ref bp, .ref bl, .ref bh, .ref bq, .ref br, .ref bd, .int (jI bg), .int (jI bf)])), (bq, .inl (cA, 124, .inl (jA yq)))]) [0, 3, 4, 1, 2] (by decide) rfl
                  subst hAe
                  subst hQ
                  exact W.zret (v := jI 0) hx hb hr (by first | decide | exact jz (by omega)) (fun t ht hW => ⟨⟨_, (0, tp1'17, tw1'18, yq), rfl, ⟨rfl, Eq.trans (by rw [f_XR_limits_L2_s]; rw [if_neg (Int.not_lt.mpr c4_)]; rw [← hwb]; try dsimp only; rw [if_neg c16_]; rw [← hwb5]; try dsimp only; rw [if_neg c34_, if_pos c46_]; rw [← hwb14]; try dsimp only; rw [if_neg c66_]; rw [← hwb21]; try dsimp only; rw [if_pos c86_]; try rfl) hF, show 0 ≤ 0 ∧ 0 ≤ 1 from by first | assumption | omega, show 0 ≤ tp1'17 ∧ tp1'17 ≤ tn from by first | assumption | omega, show ∀ i, -1 ≤ yq i ∧ yq i ≤ 999999 from by first | assumption | omega⟩, ⟨by rw [ht]; exact hP9, va_K.moved hW.alike hK, hD9⟩⟩, hS.F ht⟩) hS.2.2 dXR_limits_90
              · refine ji_iconst hx hb dXR_limits_69 ?_
                have hP9 := hP.sub (ws' := [(rda, .inr (2, [.ref ta])), (ta, .inr (3, [.ref ts, .int (jI tn), .int (jI tp1'10), .int (jI tw1'11)])), (ts, .inl (cA, 400, .inl (jA tf))), (ba, .inr (0, [.ref bt, .ref bp, .ref bl, .ref bh, .ref bq, .ref br, .ref bd, .int (jI bg), .int (jI bf)])), (bq, .inl (cA, 124, .inl (jA yq)))]) [0, 3, 4, 1, 2] rfl
                have hD9 := hD.sub (ws' := [(rda, .inr (2, [.ref ta])), (ta, .inr (3, [.ref ts, .int (jI tn), .int (jI tp1'10), .int (jI tw1'11)])), (ts, .inl (cA, 400, .inl (jA tf))), (ba, .inr (0, [.ref bt, .ref bp, .ref bl, .ref bh, .ref bq, .ref br, .ref bd, .int (jI bg), .int (jI bf)])), (bq, .inl (cA, 124, .inl (jA yq)))]) [0, 3, 4, 1, 2] (by decide) rfl
                subst hAe
                subst hQ
                exact W.zret (v := jI 0) hx hb hr (by first | decide | exact jz (by omega)) (fun t ht hW => ⟨⟨_, (0, tp1'10, tw1'11, yq), rfl, ⟨rfl, Eq.trans (by rw [f_XR_limits_L2_s]; rw [if_neg (Int.not_lt.mpr c4_)]; rw [← hwb]; try dsimp only; rw [if_neg c16_]; rw [← hwb5]; try dsimp only; rw [if_neg c34_, if_pos c46_]; rw [← hwb14]; try dsimp only; rw [if_pos c66_]; try rfl) hF, show 0 ≤ 0 ∧ 0 ≤ 1 from by first | assumption | omega, show 0 ≤ tp1'10 ∧ tp1'10 ≤ tn from by first | assumption | omega, show ∀ i, -1 ≤ yq i ∧ yq i ≤ 999999 from by first | assumption | omega⟩, ⟨by rw [ht]; exact hP9, va_K.moved hW.alike hK, hD9⟩⟩, hS.F ht⟩) hS.2.2 dXR_limits_70
            · refine lv_aload_n hx hb dXR_limits_49 rfl (lv_at hl 2 rfl) ?_
              refine va_get (D := (dC, dI)) (ci := 2) (v := .ref ta) (C := RXR) (T := TXR) (N := 1) hx hb hts (fun w h => jmem (inXR w h)) hown hK hP 0 rfl rfl 0 (by decide) (hts _ (jmem tw_50)) (fun _ h9 => h9) rfl dXR_limits_50 ?_
              refine jwVi (rest := []) (wr := [(rda, .inr (2, [.ref ta])), (ba, .inr (0, [.ref bt, .ref bp, .ref bl, .ref bh, .ref bq, .ref br, .ref bd, .int (jI bg), .int (jI bf)])), (bq, .inl (cA, 124, .inl (jA yq)))]) ⟨hx, hb, hml, hown, hts⟩ (c_XT_refuseLast l dC dI cA _ ta ts tn tp1'2 tw1' tf) (cwV 0 hts (jG_V tw_174 tw_175 tw_176 tw_2 tw_177) rfl rfl rfl (by decide +kernel) (by rw [hR]; exact ⟨Nat.le_of_ble_eq_true rfl, Nat.le_of_ble_eq_true rfl⟩)) hK hP hD hS hA hN [3, 4] [0, 1, 2] rfl rfl (by decide) (by decide) (by decide) 3 3 rfl rfl rfl rfl hl.1 rfl (Nat.le_of_ble_eq_true rfl) dXR_limits_53 (by rw [hR]; exact ⟨Nat.le_of_ble_eq_true rfl, Nat.le_of_ble_eq_true rfl⟩) (fun v28 u27 H locs hwb29 hP hD hS => ?_)
              obtain ⟨r25, tw1'26⟩ := u27
              try dsimp only at hwb29
              obtain ⟨er, hwb29⟩ := hwb29
              subst er
              have hP : va_P (dC, dI) vwCl [(rda, .inr (2, [.ref ta])), (ba, .inr (0, [.ref bt, .ref bp, .ref bl, .ref bh, .ref bq, .ref br, .ref bd, .int (jI bg), .int (jI bf)])), (bq, .inl (cA, 124, .inl (jA yq))), (ta, .inr (3, [.ref ts, .int (jI tn), .int (jI tp1'2), .int (jI tw1'26)])), (ts, .inl (cA, 400, .inl (jA tf)))] H := hP
              have hD : va_D A [(rda, .inr (2, [.ref ta])), (ba, .inr (0, [.ref bt, .ref bp, .ref bl, .ref bh, .ref bq, .ref br, .ref bd, .int (jI bg), .int (jI bf)])), (bq, .inl (cA, 124, .inl (jA yq))), (ta, .inr (3, [.ref ts, .int (jI tn), .int (jI tp1'2), .int (jI tw1'26)])), (ts, .inl (cA, 400, .inl (jA tf)))] := hD
              have f30 := f_XT_refuseLast_b tn tp1'2 tw1' tf
              rw [← hwb29] at f30; try dsimp only at f30
              have hP9 := hP.sub (ws' := [(rda, .inr (2, [.ref ta])), (ta, .inr (3, [.ref ts, .int (jI tn), .int (jI tp1'2), .int (jI tw1'26)])), (ts, .inl (cA, 400, .inl (jA tf))), (ba, .inr (0, [.ref bt, .ref bp, .ref bl, .ref bh, .ref bq, .ref br, .ref bd, .int (jI bg), .int (jI bf)])), (bq, .inl (cA, 124, .inl (jA yq)))]) [0, 3, 4, 1, 2] rfl
              have hD9 := hD.sub (ws' := [(rda, .inr (2, [.ref ta])), (ta, .inr (3, [.ref ts, .int (jI tn), .int (jI tp1'2), .int (jI tw1'26)])), (ts, .inl (cA, 400, .inl (jA tf))), (ba, .inr (0, [.ref bt, .ref bp, .ref bl, .ref bh, .ref bq, .ref br, .ref bd, .int (jI bg), .int (jI bf)])), (bq, .inl (cA, 124, .inl (jA yq)))]) [0, 3, 4, 1, 2] (by decide) rfl
              subst hAe
              subst hQ
              exact W.zret (v := jI r25) hx hb hr (by first | decide | exact jz (by omega)) (fun t ht hW => ⟨⟨_, (r25, tp1'2, tw1'26, yq), rfl, ⟨rfl, Eq.trans (by rw [f_XR_limits_L2_s]; rw [if_neg (Int.not_lt.mpr c4_)]; rw [← hwb]; try dsimp only; rw [if_neg c16_]; rw [← hwb5]; try dsimp only; rw [if_neg c34_, if_neg c46_]; rw [← hwb29]; try dsimp only; try rfl) hF, show 0 ≤ r25 ∧ r25 ≤ 1 from by first | assumption | omega, show 0 ≤ tp1'2 ∧ tp1'2 ≤ tn from by first | assumption | omega, show ∀ i, -1 ≤ yq i ∧ yq i ≤ 999999 from by first | assumption | omega⟩, ⟨by rw [ht]; exact hP9, va_K.moved hW.alike hK, hD9⟩⟩, hS.F ht⟩) hS.2.2 dXR_limits_56
          · refine ji_iconst hx hb dXR_limits_37 ?_
            have hP9 := hP.sub (ws' := [(rda, .inr (2, [.ref ta])), (ta, .inr (3, [.ref ts, .int (jI tn), .int (jI tp1'2), .int (jI tw1')])), (ts, .inl (cA, 400, .inl (jA tf))), (ba, .inr (0, [.ref bt, .ref bp, .ref bl, .ref bh, .ref bq, .ref br, .ref bd, .int (jI bg), .int (jI bf)])), (bq, .inl (cA, 124, .inl (jA yq)))]) [0, 3, 4, 1, 2] rfl
            have hD9 := hD.sub (ws' := [(rda, .inr (2, [.ref ta])), (ta, .inr (3, [.ref ts, .int (jI tn), .int (jI tp1'2), .int (jI tw1')])), (ts, .inl (cA, 400, .inl (jA tf))), (ba, .inr (0, [.ref bt, .ref bp, .ref bl, .ref bh, .ref bq, .ref br, .ref bd, .int (jI bg), .int (jI bf)])), (bq, .inl (cA, 124, .inl (jA yq)))]) [0, 3, 4, 1, 2] (by decide) rfl
            subst hAe
            subst hQ
            exact W.zret (v := jI 0) hx hb hr (by first | decide | exact jz (by omega)) (fun t ht hW => ⟨⟨_, (0, tp1'2, tw1', yq), rfl, ⟨rfl, Eq.trans (by rw [f_XR_limits_L2_s]; rw [if_neg (Int.not_lt.mpr c4_)]; rw [← hwb]; try dsimp only; rw [if_neg c16_]; rw [← hwb5]; try dsimp only; rw [if_pos c34_]; try rfl) hF, show 0 ≤ 0 ∧ 0 ≤ 1 from by first | assumption | omega, show 0 ≤ tp1'2 ∧ tp1'2 ≤ tn from by first | assumption | omega, show ∀ i, -1 ≤ yq i ∧ yq i ≤ 999999 from by first | assumption | omega⟩, ⟨by rw [ht]; exact hP9, va_K.moved hW.alike hK, hD9⟩⟩, hS.F ht⟩) hS.2.2 dXR_limits_38
  exact loop2 (Int.toNat (5 - 0) + 1) 0 tp tw fq (by omega) (Eq.trans (by rw [f_XR_limits_s]; try rfl) rfl) (by first | assumption | omega) (by first | assumption | omega) (by first | assumption | omega) _ _ hP hD hS ls (lv_sub hl [0, 1, 2, 3] rfl)

end
section
noncomputable def g_XR_grade (tn : Int) (tp : Int) (tw : Int) (tf : Int → Int) (bg : Int) (bf : Int) (ft : Int → Int) (fl : Int → Int) (fh : Int → Int) (fq : Int → Int) (fr : Int → Int) : Int × Int × Int × (Int → Int) × (Int → Int) × (Int → Int) × (Int → Int) × (Int → Int) × Int :=
  match f_XT_number tn tp tw tf 1 30 with
  | (r, tp1', tw1') =>
    if r = (-1) then
      (0, tp1', tw1', ft, fl, fh, fq, fr, bg)
    else
      if (f_XB_knows bg bf r) = 0 then
        match f_XR_parent tn tp1' tw1' tf (f_XB_tellGrade bg bf r) bf ft r with
        | (r5, tp1'6, tw1'7, ft1') =>
          if r5 = 0 then
            (0, tp1'6, tw1'7, ft1', fl, fh, fq, fr, f_XB_tellGrade bg bf r)
          else
            match f_XR_spans tn tp1'6 tw1'7 tf (f_XB_tellGrade bg bf r) bf fl fh r with
            | (r14, tp1'15, tw1'16, fl1', fh1') =>
              if r14 = 0 then
                (0, tp1'15, tw1'16, ft1', fl1', fh1', fq, fr, f_XB_tellGrade bg bf r)
              else
                match f_XR_routes tn tp1'15 tw1'16 tf (f_XB_tellGrade bg bf r) bf fr r with
                | (r24, tp1'25, tw1'26, fr1') =>
                  if r24 = 0 then
                    (0, tp1'25, tw1'26, ft1', fl1', fh1', fq, fr1', f_XB_tellGrade bg bf r)
                  else
                    match f_XR_limits tn tp1'25 tw1'26 tf (f_XB_tellGrade bg bf r) bf fq r with
                    | (r33, tp1'34, tw1'35, fq1') =>
                      if r33 = 0 then
                        (0, tp1'34, tw1'35, ft1', fl1', fh1', fq1', fr1', f_XB_tellGrade bg bf r)
                      else
                        (1, tp1'34, tw1'35, ft1', fl1', fh1', fq1', fr1', f_XB_tellGrade bg bf r)
      else
        match f_XT_refuseLast tn tp1' tw1' tf with
        | (r42, tw1'43) =>
          (r42, tp1', tw1'43, ft, fl, fh, fq, fr, bg)
noncomputable def f_XR_grade : Int → Int → Int → (Int → Int) → Int → Int → (Int → Int) → (Int → Int) → (Int → Int) → (Int → Int) → (Int → Int) → Int × Int × Int × (Int → Int) × (Int → Int) × (Int → Int) × (Int → Int) × (Int → Int) × Int := jopq g_XR_grade
theorem f_XR_grade_q : f_XR_grade = g_XR_grade := jopq_eq _
theorem f_XR_grade_s (tn : Int) (tp : Int) (tw : Int) (tf : Int → Int) (bg : Int) (bf : Int) (ft : Int → Int) (fl : Int → Int) (fh : Int → Int) (fq : Int → Int) (fr : Int → Int) : f_XR_grade tn tp tw tf bg bf ft fl fh fq fr = (
    match f_XT_number tn tp tw tf 1 30 with
    | (r, tp1', tw1') =>
      if r = (-1) then
        (0, tp1', tw1', ft, fl, fh, fq, fr, bg)
      else
        if (f_XB_knows bg bf r) = 0 then
          match f_XR_parent tn tp1' tw1' tf (f_XB_tellGrade bg bf r) bf ft r with
          | (r5, tp1'6, tw1'7, ft1') =>
            if r5 = 0 then
              (0, tp1'6, tw1'7, ft1', fl, fh, fq, fr, f_XB_tellGrade bg bf r)
            else
              match f_XR_spans tn tp1'6 tw1'7 tf (f_XB_tellGrade bg bf r) bf fl fh r with
              | (r14, tp1'15, tw1'16, fl1', fh1') =>
                if r14 = 0 then
                  (0, tp1'15, tw1'16, ft1', fl1', fh1', fq, fr, f_XB_tellGrade bg bf r)
                else
                  match f_XR_routes tn tp1'15 tw1'16 tf (f_XB_tellGrade bg bf r) bf fr r with
                  | (r24, tp1'25, tw1'26, fr1') =>
                    if r24 = 0 then
                      (0, tp1'25, tw1'26, ft1', fl1', fh1', fq, fr1', f_XB_tellGrade bg bf r)
                    else
                      match f_XR_limits tn tp1'25 tw1'26 tf (f_XB_tellGrade bg bf r) bf fq r with
                      | (r33, tp1'34, tw1'35, fq1') =>
                        if r33 = 0 then
                          (0, tp1'34, tw1'35, ft1', fl1', fh1', fq1', fr1', f_XB_tellGrade bg bf r)
                        else
                          (1, tp1'34, tw1'35, ft1', fl1', fh1', fq1', fr1', f_XB_tellGrade bg bf r)
        else
          match f_XT_refuseLast tn tp1' tw1' tf with
          | (r42, tw1'43) =>
            (r42, tp1', tw1'43, ft, fl, fh, fq, fr, bg)
  : Int × Int × Int × (Int → Int) × (Int → Int) × (Int → Int) × (Int → Int) × (Int → Int) × Int) := by rw [f_XR_grade_q]; rfl
set_option maxHeartbeats 4000000 in
set_option maxRecDepth 100000 in
theorem c_XR_grade (l : Launch) (dC : Nat → ClassId) (dI : Nat → Nat → Nat) (cA : ClassId) (sz : Nat) (rda : Nat) (ta : Nat) (ts : Nat) (tn : Int) (tp : Int) (tw : Int) (tf : Int → Int) (ba : Nat) (bt : Nat) (bp : Nat) (bl : Nat) (bh : Nat) (bq : Nat) (br : Nat) (bd : Nat) (bg : Int) (bf : Int) (ft : Int → Int) (fl : Int → Int) (fh : Int → Int) (fq : Int → Int) (fr : Int → Int) (hn : 0 ≤ tn ∧ tn ≤ 400) (hp : 0 ≤ tp ∧ tp ≤ tn) (hf : ∀ i, 0 ≤ tf i ∧ tf i < 256) (hbt : ∀ i, 0 ≤ ft i ∧ ft i ≤ 30) (hbl : ∀ i, 0 ≤ fl i ∧ fl i ≤ 100000) (hbh : ∀ i, -1 ≤ fh i ∧ fh i ≤ 100000) (hbq : ∀ i, -1 ≤ fq i ∧ fq i ≤ 999999) (hbr : ∀ i, 0 ≤ fr i ∧ fr i < 2147483648) (hbg : 0 ≤ bg ∧ bg < 2147483648) : Met l yXR_grade (Cond.code yXR_grade cXR_grade 3 (some .boolean) :: TBL) ({ frames := 3, cells := 0, slots := 0, locals := 70 } : Room) (va_Pc [.ref rda, .ref ba] (jBw (dC, dI) [(cA, .int)] [(rda, .inr (2, [.ref ta])), (ta, .inr (3, [.ref ts, .int (jI tn), .int (jI tp), .int (jI tw)])), (ts, .inl (cA, 400, .inl (jA tf))), (ba, .inr (0, [.ref bt, .ref bp, .ref bl, .ref bh, .ref bq, .ref br, .ref bd, .int (jI bg), .int (jI bf)])), (bt, .inl (cA, 31, .inl (jA ft))), (bl, .inl (cA, 248, .inl (jA fl))), (bh, .inl (cA, 248, .inl (jA fh))), (bq, .inl (cA, 124, .inl (jA fq))), (br, .inl (cA, 31, .inl (jA fr)))] sz)) (va_Qi (fun (r : Int32) (u : Int × Int × Int × (Int → Int) × (Int → Int) × (Int → Int) × (Int → Int) × (Int → Int) × Int) => r = jI u.1 ∧ u = f_XR_grade tn tp tw tf bg bf ft fl fh fq fr ∧ (0 ≤ u.1 ∧ u.1 ≤ 1) ∧ (0 ≤ u.2.1 ∧ u.2.1 ≤ tn) ∧ (∀ i, 0 ≤ u.2.2.2.1 i ∧ u.2.2.2.1 i ≤ 30) ∧ (∀ i, 0 ≤ u.2.2.2.2.1 i ∧ u.2.2.2.2.1 i ≤ 100000) ∧ (∀ i, -1 ≤ u.2.2.2.2.2.1 i ∧ u.2.2.2.2.2.1 i ≤ 100000) ∧ (∀ i, -1 ≤ u.2.2.2.2.2.2.1 i ∧ u.2.2.2.2.2.2.1 i ≤ 999999) ∧ (∀ i, 0 ≤ u.2.2.2.2.2.2.2.1 i ∧ u.2.2.2.2.2.2.2.1 i < 2147483648) ∧ (0 ≤ u.2.2.2.2.2.2.2.2 ∧ u.2.2.2.2.2.2.2.2 < 2147483648)) (fun u t => jE (dC, dI) [(cA, .int)] [(rda, .inr (2, [.ref ta])), (ta, .inr (3, [.ref ts, .int (jI tn), .int (jI tp), .int (jI tw)])), (ts, .inl (cA, 400, .inl (jA tf))), (ba, .inr (0, [.ref bt, .ref bp, .ref bl, .ref bh, .ref bq, .ref br, .ref bd, .int (jI bg), .int (jI bf)])), (bt, .inl (cA, 31, .inl (jA ft))), (bl, .inl (cA, 248, .inl (jA fl))), (bh, .inl (cA, 248, .inl (jA fh))), (bq, .inl (cA, 124, .inl (jA fq))), (br, .inl (cA, 31, .inl (jA fr)))] sz [(rda, .inr (2, [.ref ta])), (ta, .inr (3, [.ref ts, .int (jI tn), .int (jI u.2.1), .int (jI u.2.2.1)])), (ts, .inl (cA, 400, .inl (jA tf))), (ba, .inr (0, [.ref bt, .ref bp, .ref bl, .ref bh, .ref bq, .ref br, .ref bd, .int (jI u.2.2.2.2.2.2.2.2), .int (jI bf)])), (bt, .inl (cA, 31, .inl (jA u.2.2.2.1))), (bl, .inl (cA, 248, .inl (jA u.2.2.2.2.1))), (bh, .inl (cA, 248, .inl (jA u.2.2.2.2.2.1))), (bq, .inl (cA, 124, .inl (jA u.2.2.2.2.2.2.1))), (br, .inl (cA, 31, .inl (jA u.2.2.2.2.2.2.2.1)))] t) (va_A [(rda, .inr (2, [.ref ta])), (ta, .inr (3, [.ref ts, .int (jI tn), .int (jI tp), .int (jI tw)])), (ts, .inl (cA, 400, .inl (jA tf))), (ba, .inr (0, [.ref bt, .ref bp, .ref bl, .ref bh, .ref bq, .ref br, .ref bd, .int (jI bg), .int (jI bf)])), (bt, .inl (cA, 31, .inl (jA ft))), (bl, .inl (cA, 248, .inl (jA fl))), (bh, .inl (cA, 248, .inl (jA fh))), (bq, .inl (cA, 124, .inl (jA fq))), (br, .inl (cA, 31, .inl (jA fr)))] sz)) 0 0 (va_A [(rda, .inr (2, [.ref ta])), (ta, .inr (3, [.ref ts, .int (jI tn), .int (jI tp), .int (jI tw)])), (ts, .inl (cA, 400, .inl (jA tf))), (ba, .inr (0, [.ref bt, .ref bp, .ref bl, .ref bh, .ref bq, .ref br, .ref bd, .int (jI bg), .int (jI bf)])), (bt, .inl (cA, 31, .inl (jA ft))), (bl, .inl (cA, 248, .inl (jA fl))), (bh, .inl (cA, 248, .inl (jA fh))), (bq, .inl (cA, 124, .inl (jA fq))), (br, .inl (cA, 31, .inl (jA fr)))] sz) := by
  refine jMet (cc := cXR_grade) (maxL := 3) (ret := some .boolean) (by decide) rfl ?_
  intro p e s m args below meth c s₁ R Q hR hQ B hml hv
  obtain ⟨rfl, hsz, hP, hK, hD0, hN⟩ := hv
  have hx := B.exec
  have hb := B.bytes
  have hr := B.returns
  have hts := atoms_spec (ws := Cond.code yXR_grade cXR_grade 3 (some .boolean) :: TBL) B.pre
  have hown : s.vm.findClass RXR = some m.cls := findClass_of_methodNamed B.named
  have hlocks := B.notSynchronized
  subst hsz
  obtain ⟨A, hAe⟩ : ∃ A, A = va_A [(rda, .inr (2, [.ref ta])), (ta, .inr (3, [.ref ts, .int (jI tn), .int (jI tp), .int (jI tw)])), (ts, .inl (cA, 400, .inl (jA tf))), (ba, .inr (0, [.ref bt, .ref bp, .ref bl, .ref bh, .ref bq, .ref br, .ref bd, .int (jI bg), .int (jI bf)])), (bt, .inl (cA, 31, .inl (jA ft))), (bl, .inl (cA, 248, .inl (jA fl))), (bh, .inl (cA, 248, .inl (jA fh))), (bq, .inl (cA, 124, .inl (jA fq))), (br, .inl (cA, 31, .inl (jA fr)))] s.heap.size := ⟨_, rfl⟩
  have hD : va_D A [(rda, .inr (2, [.ref ta])), (ta, .inr (3, [.ref ts, .int (jI tn), .int (jI tp), .int (jI tw)])), (ts, .inl (cA, 400, .inl (jA tf))), (ba, .inr (0, [.ref bt, .ref bp, .ref bl, .ref bh, .ref bq, .ref br, .ref bd, .int (jI bg), .int (jI bf)])), (bt, .inl (cA, 31, .inl (jA ft))), (bl, .inl (cA, 248, .inl (jA fl))), (bh, .inl (cA, 248, .inl (jA fh))), (bq, .inl (cA, 124, .inl (jA fq))), (br, .inl (cA, 31, .inl (jA fr)))] := by rw [hAe]; exact hD0.self
  have hA : ∀ q : Nat, s.heap.size ≤ q → A q := fun q h => by rw [hAe]; exact Or.inr h
  have hS : va_S A s.heap s.heap [] := va_S.rf
  have hP : va_P (dC, dI) vwCl [(rda, .inr (2, [.ref ta])), (ta, .inr (3, [.ref ts, .int (jI tn), .int (jI tp), .int (jI tw)])), (ts, .inl (cA, 400, .inl (jA tf))), (ba, .inr (0, [.ref bt, .ref bp, .ref bl, .ref bh, .ref bq, .ref br, .ref bd, .int (jI bg), .int (jI bf)])), (bt, .inl (cA, 31, .inl (jA ft))), (bl, .inl (cA, 248, .inl (jA fl))), (bh, .inl (cA, 248, .inl (jA fh))), (bq, .inl (cA, 124, .inl (jA fq))), (br, .inl (cA, 31, .inl (jA fr)))] s.heap := hP
  have hl := lv_entry ([.ref rda, .ref ba]) (n := 3) (Nat.le_of_ble_eq_true rfl)
  rw [lg_entry_eq]
  generalize (lg_sl ([.ref rda, .ref ba]) ++ List.replicate (3 - (lg_sl ([.ref rda, .ref ba])).length) Slot.unset).toArray = ls at hl ⊢
  have hl : lv_has ls 3 [(0, .ref rda), (1, .ref ba)] := hl
  refine lv_aload_n hx hb dXR_grade_0 rfl (lv_at hl 0 rfl) ?_
  refine va_get (D := (dC, dI)) (ci := 2) (v := .ref ta) (C := RXR) (T := TXR) (N := 1) hx hb hts (fun w h => jmem (inXR w h)) hown hK hP 0 rfl rfl 0 (by decide) (hts _ (jmem tw_50)) (fun _ h9 => h9) rfl dXR_grade_1 ?_
  refine ji_iconst hx hb dXR_grade_4 ?_
  refine ji_bipush hx hb dXR_grade_5 (by decide) ?_
  refine jwVi (rest := []) (wr := [(rda, .inr (2, [.ref ta])), (ba, .inr (0, [.ref bt, .ref bp, .ref bl, .ref bh, .ref bq, .ref br, .ref bd, .int (jI bg), .int (jI bf)])), (bt, .inl (cA, 31, .inl (jA ft))), (bl, .inl (cA, 248, .inl (jA fl))), (bh, .inl (cA, 248, .inl (jA fh))), (bq, .inl (cA, 124, .inl (jA fq))), (br, .inl (cA, 31, .inl (jA fr)))]) ⟨hx, hb, hml, hown, hts⟩ (c_XT_number l dC dI cA _ ta ts tn tp tw tf 1 30 (by first | assumption | omega) (by first | assumption | omega) (by first | assumption | omega) (by first | assumption | omega) (by first | assumption | omega)) (cwV 2 hts (jG_V tw_194 tw_195 tw_196 tw_2 tw_197) rfl rfl rfl (by decide +kernel) (by rw [hR]; exact ⟨Nat.le_of_ble_eq_true rfl, Nat.le_of_ble_eq_true rfl⟩)) hK hP hD hS hA hN [1, 2] [0, 3, 4, 5, 6, 7, 8] rfl rfl (by decide) (by decide) (by decide) 1 3 rfl rfl rfl rfl hl.1 rfl (Nat.le_of_ble_eq_true rfl) dXR_grade_7 (by rw [hR]; exact ⟨Nat.le_of_ble_eq_true rfl, Nat.le_of_ble_eq_true rfl⟩) (fun v u H locs hwb hP hD hS => ?_)
  obtain ⟨r, tp1', tw1'⟩ := u
  try dsimp only at hwb
  obtain ⟨er, hwb⟩ := hwb
  subst er
  have hP : va_P (dC, dI) vwCl [(rda, .inr (2, [.ref ta])), (ba, .inr (0, [.ref bt, .ref bp, .ref bl, .ref bh, .ref bq, .ref br, .ref bd, .int (jI bg), .int (jI bf)])), (bt, .inl (cA, 31, .inl (jA ft))), (bl, .inl (cA, 248, .inl (jA fl))), (bh, .inl (cA, 248, .inl (jA fh))), (bq, .inl (cA, 124, .inl (jA fq))), (br, .inl (cA, 31, .inl (jA fr))), (ta, .inr (3, [.ref ts, .int (jI tn), .int (jI tp1'), .int (jI tw1')])), (ts, .inl (cA, 400, .inl (jA tf)))] H := hP
  have hD : va_D A [(rda, .inr (2, [.ref ta])), (ba, .inr (0, [.ref bt, .ref bp, .ref bl, .ref bh, .ref bq, .ref br, .ref bd, .int (jI bg), .int (jI bf)])), (bt, .inl (cA, 31, .inl (jA ft))), (bl, .inl (cA, 248, .inl (jA fl))), (bh, .inl (cA, 248, .inl (jA fh))), (bq, .inl (cA, 124, .inl (jA fq))), (br, .inl (cA, 31, .inl (jA fr))), (ta, .inr (3, [.ref ts, .int (jI tn), .int (jI tp1'), .int (jI tw1')])), (ts, .inl (cA, 400, .inl (jA tf)))] := hD
  have f := f_XT_number_b tn tp tw tf 1 30 (by first | assumption | omega) (by first | assumption | omega) (by first | assumption | omega) (by first | assumption | omega) (by first | assumption | omega)
  rw [← hwb] at f; try dsimp only at f
  refine lv_istore_n (lv' := [(2, .int (jI r)), (0, .ref rda), (1, .ref ba)]) hx hb dXR_grade_10 rfl hl (by decide) rfl (fun ls hl => ?_)
  refine lv_iload_n hx hb dXR_grade_11 rfl (lv_at hl 0 rfl) ?_
  refine ji_iconst hx hb dXR_grade_12 ?_
  refine ji_icmp_ne (tgt := 18) hx hb dXR_grade_13 (by decide) (by omega) (by omega) (fun c13_ => ?_) (fun c13_ => ?_)
  · refine lv_aload_n hx hb dXR_grade_18 rfl (lv_at hl 2 rfl) ?_
    refine lv_iload_n hx hb dXR_grade_19 rfl (lv_at hl 0 rfl) ?_
    refine jrVi (rest := []) ⟨hx, hb, hml, hown, hts⟩ (c_XB_knows l dC dI cA ba bt bp bl bh bq br bd bg bf r (by first | assumption | omega) (by first | assumption | omega)) (cwV 1 hts (jG_V tw_215 tw_216 tw_217 tw_5 tw_218) rfl rfl rfl (by decide +kernel) (by rw [hR]; exact ⟨Nat.le_of_ble_eq_true rfl, Nat.le_of_ble_eq_true rfl⟩)) hK hP hN [1] rfl 1 0 rfl rfl rfl rfl hl.1 rfl (Nat.le_of_ble_eq_true rfl) dXR_grade_20 (by rw [hR]; exact ⟨Nat.le_of_ble_eq_true rfl, Nat.le_of_ble_eq_true rfl⟩) ?_
    have f1 := f_XB_knows_b bg bf r (by first | assumption | omega) (by first | assumption | omega)
    have f2 := f_XB_knows_c bg bf r (by first | assumption | omega) (by first | assumption | omega)
    refine ji_if_eq (tgt := 34) hx hb dXR_grade_23 (by decide) (by omega) (fun c23_ => ?_) (fun c23_ => ?_)
    · refine lv_aload_n hx hb dXR_grade_34 rfl (lv_at hl 2 rfl) ?_
      refine lv_iload_n hx hb dXR_grade_35 rfl (lv_at hl 0 rfl) ?_
      refine jwVv (rest := []) (wr := [(rda, .inr (2, [.ref ta])), (bt, .inl (cA, 31, .inl (jA ft))), (bl, .inl (cA, 248, .inl (jA fl))), (bh, .inl (cA, 248, .inl (jA fh))), (bq, .inl (cA, 124, .inl (jA fq))), (br, .inl (cA, 31, .inl (jA fr))), (ta, .inr (3, [.ref ts, .int (jI tn), .int (jI tp1'), .int (jI tw1')])), (ts, .inl (cA, 400, .inl (jA tf)))]) ⟨hx, hb, hml, hown, hts⟩ (c_XB_tellGrade l dC dI cA _ ba bt bp bl bh bq br bd bg bf r (by first | assumption | omega) (by first | assumption | omega)) (cwV 1 hts (jG_V tw_219 tw_220 tw_221 tw_5 tw_222) rfl rfl rfl (by decide +kernel) (by rw [hR]; exact ⟨Nat.le_of_ble_eq_true rfl, Nat.le_of_ble_eq_true rfl⟩)) hK hP hD hS hA hN [1] [0, 2, 3, 4, 5, 6, 7, 8] rfl rfl (by decide) (by decide) (by decide) 1 0 rfl rfl rfl rfl hl.1 rfl (Nat.le_of_ble_eq_true rfl) dXR_grade_36 (by rw [hR]; exact ⟨Nat.le_of_ble_eq_true rfl, Nat.le_of_ble_eq_true rfl⟩) (fun u3 H locs hw hP hD hS => ?_)
      subst hw
      have hP : va_P (dC, dI) vwCl [(rda, .inr (2, [.ref ta])), (bt, .inl (cA, 31, .inl (jA ft))), (bl, .inl (cA, 248, .inl (jA fl))), (bh, .inl (cA, 248, .inl (jA fh))), (bq, .inl (cA, 124, .inl (jA fq))), (br, .inl (cA, 31, .inl (jA fr))), (ta, .inr (3, [.ref ts, .int (jI tn), .int (jI tp1'), .int (jI tw1')])), (ts, .inl (cA, 400, .inl (jA tf))), (ba, .inr (0, [.ref bt, .ref bp, .ref bl, .ref bh, .ref bq, .ref br, .ref bd, .int (jI (f_XB_tellGrade bg bf r)), .int (jI bf)]))] H := hP
      have hD : va_D A [(rda, .inr (2, [.ref ta])), (bt, .inl (cA, 31, .inl (jA ft))), (bl, .inl (cA, 248, .inl (jA fl))), (bh, .inl (cA, 248, .inl (jA fh))), (bq, .inl (cA, 124, .inl (jA fq))), (br, .inl (cA, 31, .inl (jA fr))), (ta, .inr (3, [.ref ts, .int (jI tn), .int (jI tp1'), .int (jI tw1')])), (ts, .inl (cA, 400, .inl (jA tf))), (ba, .inr (0, [.ref bt, .ref bp, .ref bl, .ref bh, .ref bq, .ref br, .ref bd, .int (jI (f_XB_tellGrade bg bf r)), .int (jI bf)]))] := hD
      have f4 := f_XB_tellGrade_b bg bf r (by first | assumption | omega) (by first | assumption | omega)
      refine lv_aload_n hx hb dXR_grade_39 rfl (lv_at hl 1 rfl) ?_
      refine lv_aload_n hx hb dXR_grade_40 rfl (lv_at hl 2 rfl) ?_
      refine lv_iload_n hx hb dXR_grade_41 rfl (lv_at hl 0 rfl) ?_
      refine jwVi (rest := []) (wr := [(bl, .inl (cA, 248, .inl (jA fl))), (bh, .inl (cA, 248, .inl (jA fh))), (bq, .inl (cA, 124, .inl (jA fq))), (br, .inl (cA, 31, .inl (jA fr)))]) ⟨hx, hb, hml, hown, hts⟩ (c_XR_parent l dC dI cA _ rda ta ts tn tp1' tw1' tf ba bt bp bl bh bq br bd (f_XB_tellGrade bg bf r) bf ft r (by first | assumption | omega) (by first | assumption | omega) (by first | assumption | omega) (by first | assumption | omega) (by first | assumption | omega)) (cwV 2 hts (jG_V tw_223 tw_225 ts_4 tw_3 tw_226) rfl rfl rfl (by decide +kernel) (by rw [hR]; exact ⟨Nat.le_of_ble_eq_true rfl, Nat.le_of_ble_eq_true rfl⟩)) hK hP hD hS hA hN [0, 6, 7, 8, 1] [2, 3, 4, 5] rfl rfl (by decide) (by decide) (by decide) 0 2 rfl rfl rfl rfl hl.1 rfl (Nat.le_of_ble_eq_true rfl) dXR_grade_42 (by rw [hR]; exact ⟨Nat.le_of_ble_eq_true rfl, Nat.le_of_ble_eq_true rfl⟩) (fun v9 u8 H locs hwb10 hP hD hS => ?_)
      obtain ⟨r5, tp1'6, tw1'7, ft1'⟩ := u8
      try dsimp only at hwb10
      obtain ⟨er, hwb10, f11, f12, f13⟩ := hwb10
      subst er
      have f11 : 0 ≤ r5 ∧ r5 ≤ 1 := f11
      have f12 : 0 ≤ tp1'6 ∧ tp1'6 ≤ tn := f12
      have f13 : ∀ i, 0 ≤ ft1' i ∧ ft1' i ≤ 30 := f13
      have hP : va_P (dC, dI) vwCl [(bl, .inl (cA, 248, .inl (jA fl))), (bh, .inl (cA, 248, .inl (jA fh))), (bq, .inl (cA, 124, .inl (jA fq))), (br, .inl (cA, 31, .inl (jA fr))), (rda, .inr (2, [.ref ta])), (ta, .inr (3, [.ref ts, .int (jI tn), .int (jI tp1'6), .int (jI tw1'7)])), (ts, .inl (cA, 400, .inl (jA tf))), (ba, .inr (0, [.ref bt, .ref bp, .ref bl, .ref bh, .ref bq, .ref br, .ref bd, .int (jI (f_XB_tellGrade bg bf r)), .int (jI bf)])), (bt, .inl (cA, 31, .inl (jA ft1')))] H := hP
      have hD : va_D A [(bl, .inl (cA, 248, .inl (jA fl))), (bh, .inl (cA, 248, .inl (jA fh))), (bq, .inl (cA, 124, .inl (jA fq))), (br, .inl (cA, 31, .inl (jA fr))), (rda, .inr (2, [.ref ta])), (ta, .inr (3, [.ref ts, .int (jI tn), .int (jI tp1'6), .int (jI tw1'7)])), (ts, .inl (cA, 400, .inl (jA tf))), (ba, .inr (0, [.ref bt, .ref bp, .ref bl, .ref bh, .ref bq, .ref br, .ref bd, .int (jI (f_XB_tellGrade bg bf r)), .int (jI bf)])), (bt, .inl (cA, 31, .inl (jA ft1')))] := hD
      refine ji_if_eq (tgt := 79) hx hb dXR_grade_45 (by decide) (by omega) (fun c45_ => ?_) (fun c45_ => ?_)
      · refine ji_iconst hx hb dXR_grade_79 ?_
        have hP9 := hP.sub (ws' := [(rda, .inr (2, [.ref ta])), (ta, .inr (3, [.ref ts, .int (jI tn), .int (jI tp1'6), .int (jI tw1'7)])), (ts, .inl (cA, 400, .inl (jA tf))), (ba, .inr (0, [.ref bt, .ref bp, .ref bl, .ref bh, .ref bq, .ref br, .ref bd, .int (jI (f_XB_tellGrade bg bf r)), .int (jI bf)])), (bt, .inl (cA, 31, .inl (jA ft1'))), (bl, .inl (cA, 248, .inl (jA fl))), (bh, .inl (cA, 248, .inl (jA fh))), (bq, .inl (cA, 124, .inl (jA fq))), (br, .inl (cA, 31, .inl (jA fr)))]) [4, 5, 6, 7, 8, 0, 1, 2, 3] rfl
        have hD9 := hD.sub (ws' := [(rda, .inr (2, [.ref ta])), (ta, .inr (3, [.ref ts, .int (jI tn), .int (jI tp1'6), .int (jI tw1'7)])), (ts, .inl (cA, 400, .inl (jA tf))), (ba, .inr (0, [.ref bt, .ref bp, .ref bl, .ref bh, .ref bq, .ref br, .ref bd, .int (jI (f_XB_tellGrade bg bf r)), .int (jI bf)])), (bt, .inl (cA, 31, .inl (jA ft1'))), (bl, .inl (cA, 248, .inl (jA fl))), (bh, .inl (cA, 248, .inl (jA fh))), (bq, .inl (cA, 124, .inl (jA fq))), (br, .inl (cA, 31, .inl (jA fr)))]) [4, 5, 6, 7, 8, 0, 1, 2, 3] (by decide) rfl
        subst hAe
        subst hQ
        exact W.zret (v := jI 0) hx hb hr (by first | decide | exact jz (by omega)) (fun t ht hW => ⟨⟨_, (0, tp1'6, tw1'7, ft1', fl, fh, fq, fr, f_XB_tellGrade bg bf r), rfl, ⟨rfl, Eq.trans (by rw [f_XR_grade_s]; rw [← hwb]; try dsimp only; rw [if_neg c13_, if_pos c23_]; rw [← hwb10]; try dsimp only; rw [if_pos c45_]; try rfl) rfl, show 0 ≤ 0 ∧ 0 ≤ 1 from by first | assumption | omega, show 0 ≤ tp1'6 ∧ tp1'6 ≤ tn from by first | assumption | omega, show ∀ i, 0 ≤ ft1' i ∧ ft1' i ≤ 30 from by first | assumption | omega, show ∀ i, 0 ≤ fl i ∧ fl i ≤ 100000 from by first | assumption | omega, show ∀ i, -1 ≤ fh i ∧ fh i ≤ 100000 from by first | assumption | omega, show ∀ i, -1 ≤ fq i ∧ fq i ≤ 999999 from by first | assumption | omega, show ∀ i, 0 ≤ fr i ∧ fr i < 2147483648 from by first | assumption | omega, show 0 ≤ (f_XB_tellGrade bg bf r) ∧ (f_XB_tellGrade bg bf r) < 2147483648 from by first | assumption | omega⟩, ⟨by rw [ht]; exact hP9, va_K.moved hW.alike hK, hD9⟩⟩, hS.F ht⟩) hS.2.2 dXR_grade_80
      · refine lv_aload_n hx hb dXR_grade_48 rfl (lv_at hl 1 rfl) ?_
        refine lv_aload_n hx hb dXR_grade_49 rfl (lv_at hl 2 rfl) ?_
        refine lv_iload_n hx hb dXR_grade_50 rfl (lv_at hl 0 rfl) ?_
        refine jwVi (rest := []) (wr := [(bq, .inl (cA, 124, .inl (jA fq))), (br, .inl (cA, 31, .inl (jA fr))), (bt, .inl (cA, 31, .inl (jA ft1')))]) ⟨hx, hb, hml, hown, hts⟩ (c_XR_spans l dC dI cA _ rda ta ts tn tp1'6 tw1'7 tf ba bt bp bl bh bq br bd (f_XB_tellGrade bg bf r) bf fl fh r (by first | assumption | omega) (by first | assumption | omega) (by first | assumption | omega) (by first | assumption | omega) (by first | assumption | omega) (by first | assumption | omega)) (cwV 2 hts (jG_V tw_231 tw_233 ts_5 tw_3 tw_234) rfl rfl rfl (by decide +kernel) (by rw [hR]; exact ⟨Nat.le_of_ble_eq_true rfl, Nat.le_of_ble_eq_true rfl⟩)) hK hP hD hS hA hN [4, 5, 6, 7, 0, 1] [2, 3, 8] rfl rfl (by decide) (by decide) (by decide) 4 2 rfl rfl rfl rfl hl.1 rfl (Nat.le_of_ble_eq_true rfl) dXR_grade_51 (by rw [hR]; exact ⟨Nat.le_of_ble_eq_true rfl, Nat.le_of_ble_eq_true rfl⟩) (fun v18 u17 H locs hwb19 hP hD hS => ?_)
        obtain ⟨r14, tp1'15, tw1'16, fl1', fh1'⟩ := u17
        try dsimp only at hwb19
        obtain ⟨er, hwb19, f20, f21, f22, f23⟩ := hwb19
        subst er
        have f20 : 0 ≤ r14 ∧ r14 ≤ 1 := f20
        have f21 : 0 ≤ tp1'15 ∧ tp1'15 ≤ tn := f21
        have f22 : ∀ i, 0 ≤ fl1' i ∧ fl1' i ≤ 100000 := f22
        have f23 : ∀ i, -1 ≤ fh1' i ∧ fh1' i ≤ 100000 := f23
        have hP : va_P (dC, dI) vwCl [(bq, .inl (cA, 124, .inl (jA fq))), (br, .inl (cA, 31, .inl (jA fr))), (bt, .inl (cA, 31, .inl (jA ft1'))), (rda, .inr (2, [.ref ta])), (ta, .inr (3, [.ref ts, .int (jI tn), .int (jI tp1'15), .int (jI tw1'16)])), (ts, .inl (cA, 400, .inl (jA tf))), (ba, .inr (0, [.ref bt, .ref bp, .ref bl, .ref bh, .ref bq, .ref br, .ref bd, .int (jI (f_XB_tellGrade bg bf r)), .int (jI bf)])), (bl, .inl (cA, 248, .inl (jA fl1'))), (bh, .inl (cA, 248, .inl (jA fh1')))] H := hP
        have hD : va_D A [(bq, .inl (cA, 124, .inl (jA fq))), (br, .inl (cA, 31, .inl (jA fr))), (bt, .inl (cA, 31, .inl (jA ft1'))), (rda, .inr (2, [.ref ta])), (ta, .inr (3, [.ref ts, .int (jI tn), .int (jI tp1'15), .int (jI tw1'16)])), (ts, .inl (cA, 400, .inl (jA tf))), (ba, .inr (0, [.ref bt, .ref bp, .ref bl, .ref bh, .ref bq, .ref br, .ref bd, .int (jI (f_XB_tellGrade bg bf r)), .int (jI bf)])), (bl, .inl (cA, 248, .inl (jA fl1'))), (bh, .inl (cA, 248, .inl (jA fh1')))] := hD
        refine ji_if_eq (tgt := 79) hx hb dXR_grade_54 (by decide) (by omega) (fun c54_ => ?_) (fun c54_ => ?_)
        · refine ji_iconst hx hb dXR_grade_79 ?_
          have hP9 := hP.sub (ws' := [(rda, .inr (2, [.ref ta])), (ta, .inr (3, [.ref ts, .int (jI tn), .int (jI tp1'15), .int (jI tw1'16)])), (ts, .inl (cA, 400, .inl (jA tf))), (ba, .inr (0, [.ref bt, .ref bp, .ref bl, .ref bh, .ref bq, .ref br, .ref bd, .int (jI (f_XB_tellGrade bg bf r)), .int (jI bf)])), (bt, .inl (cA, 31, .inl (jA ft1'))), (bl, .inl (cA, 248, .inl (jA fl1'))), (bh, .inl (cA, 248, .inl (jA fh1'))), (bq, .inl (cA, 124, .inl (jA fq))), (br, .inl (cA, 31, .inl (jA fr)))]) [3, 4, 5, 6, 2, 7, 8, 0, 1] rfl
          have hD9 := hD.sub (ws' := [(rda, .inr (2, [.ref ta])), (ta, .inr (3, [.ref ts, .int (jI tn), .int (jI tp1'15), .int (jI tw1'16)])), (ts, .inl (cA, 400, .inl (jA tf))), (ba, .inr (0, [.ref bt, .ref bp, .ref bl, .ref bh, .ref bq, .ref br, .ref bd, .int (jI (f_XB_tellGrade bg bf r)), .int (jI bf)])), (bt, .inl (cA, 31, .inl (jA ft1'))), (bl, .inl (cA, 248, .inl (jA fl1'))), (bh, .inl (cA, 248, .inl (jA fh1'))), (bq, .inl (cA, 124, .inl (jA fq))), (br, .inl (cA, 31, .inl (jA fr)))]) [3, 4, 5, 6, 2, 7, 8, 0, 1] (by decide) rfl
          subst hAe
          subst hQ
          exact W.zret (v := jI 0) hx hb hr (by first | decide | exact jz (by omega)) (fun t ht hW => ⟨⟨_, (0, tp1'15, tw1'16, ft1', fl1', fh1', fq, fr, f_XB_tellGrade bg bf r), rfl, ⟨rfl, Eq.trans (by rw [f_XR_grade_s]; rw [← hwb]; try dsimp only; rw [if_neg c13_, if_pos c23_]; rw [← hwb10]; try dsimp only; rw [if_neg c45_]; rw [← hwb19]; try dsimp only; rw [if_pos c54_]; try rfl) rfl, show 0 ≤ 0 ∧ 0 ≤ 1 from by first | assumption | omega, show 0 ≤ tp1'15 ∧ tp1'15 ≤ tn from by first | assumption | omega, show ∀ i, 0 ≤ ft1' i ∧ ft1' i ≤ 30 from by first | assumption | omega, show ∀ i, 0 ≤ fl1' i ∧ fl1' i ≤ 100000 from by first | assumption | omega, show ∀ i, -1 ≤ fh1' i ∧ fh1' i ≤ 100000 from by first | assumption | omega, show ∀ i, -1 ≤ fq i ∧ fq i ≤ 999999 from by first | assumption | omega, show ∀ i, 0 ≤ fr i ∧ fr i < 2147483648 from by first | assumption | omega, show 0 ≤ (f_XB_tellGrade bg bf r) ∧ (f_XB_tellGrade bg bf r) < 2147483648 from by first | assumption | omega⟩, ⟨by rw [ht]; exact hP9, va_K.moved hW.alike hK, hD9⟩⟩, hS.F ht⟩) hS.2.2 dXR_grade_80
        · refine lv_aload_n hx hb dXR_grade_57 rfl (lv_at hl 1 rfl) ?_
          refine lv_aload_n hx hb dXR_grade_58 rfl (lv_at hl 2 rfl) ?_
          refine lv_iload_n hx hb dXR_grade_59 rfl (lv_at hl 0 rfl) ?_
          refine jwVi (rest := []) (wr := [(bq, .inl (cA, 124, .inl (jA fq))), (bt, .inl (cA, 31, .inl (jA ft1'))), (bl, .inl (cA, 248, .inl (jA fl1'))), (bh, .inl (cA, 248, .inl (jA fh1')))]) ⟨hx, hb, hml, hown, hts⟩ (c_XR_routes l dC dI cA _ rda ta ts tn tp1'15 tw1'16 tf ba bt bp bl bh bq br bd (f_XB_tellGrade bg bf r) bf fr r (by first | assumption | omega) (by first | assumption | omega) (by first | assumption | omega) (by first | assumption | omega) (by first | assumption | omega)) (cwV 2 hts (jG_V tw_247 tw_249 ts_6 tw_3 tw_250) rfl rfl rfl (by decide +kernel) (by rw [hR]; exact ⟨Nat.le_of_ble_eq_true rfl, Nat.le_of_ble_eq_true rfl⟩)) hK hP hD hS hA hN [3, 4, 5, 6, 1] [0, 2, 7, 8] rfl rfl (by decide) (by decide) (by decide) 3 2 rfl rfl rfl rfl hl.1 rfl (Nat.le_of_ble_eq_true rfl) dXR_grade_60 (by rw [hR]; exact ⟨Nat.le_of_ble_eq_true rfl, Nat.le_of_ble_eq_true rfl⟩) (fun v28 u27 H locs hwb29 hP hD hS => ?_)
          obtain ⟨r24, tp1'25, tw1'26, fr1'⟩ := u27
          try dsimp only at hwb29
          obtain ⟨er, hwb29, f30, f31, f32⟩ := hwb29
          subst er
          have f30 : 0 ≤ r24 ∧ r24 ≤ 1 := f30
          have f31 : 0 ≤ tp1'25 ∧ tp1'25 ≤ tn := f31
          have f32 : ∀ i, 0 ≤ fr1' i ∧ fr1' i < 2147483648 := f32
          have hP : va_P (dC, dI) vwCl [(bq, .inl (cA, 124, .inl (jA fq))), (bt, .inl (cA, 31, .inl (jA ft1'))), (bl, .inl (cA, 248, .inl (jA fl1'))), (bh, .inl (cA, 248, .inl (jA fh1'))), (rda, .inr (2, [.ref ta])), (ta, .inr (3, [.ref ts, .int (jI tn), .int (jI tp1'25), .int (jI tw1'26)])), (ts, .inl (cA, 400, .inl (jA tf))), (ba, .inr (0, [.ref bt, .ref bp, .ref bl, .ref bh, .ref bq, .ref br, .ref bd, .int (jI (f_XB_tellGrade bg bf r)), .int (jI bf)])), (br, .inl (cA, 31, .inl (jA fr1')))] H := hP
          have hD : va_D A [(bq, .inl (cA, 124, .inl (jA fq))), (bt, .inl (cA, 31, .inl (jA ft1'))), (bl, .inl (cA, 248, .inl (jA fl1'))), (bh, .inl (cA, 248, .inl (jA fh1'))), (rda, .inr (2, [.ref ta])), (ta, .inr (3, [.ref ts, .int (jI tn), .int (jI tp1'25), .int (jI tw1'26)])), (ts, .inl (cA, 400, .inl (jA tf))), (ba, .inr (0, [.ref bt, .ref bp, .ref bl, .ref bh, .ref bq, .ref br, .ref bd, .int (jI (f_XB_tellGrade bg bf r)), .int (jI bf)])), (br, .inl (cA, 31, .inl (jA fr1')))] := hD
          refine ji_if_eq (tgt := 79) hx hb dXR_grade_63 (by decide) (by omega) (fun c63_ => ?_) (fun c63_ => ?_)
          · refine ji_iconst hx hb dXR_grade_79 ?_
            have hP9 := hP.sub (ws' := [(rda, .inr (2, [.ref ta])), (ta, .inr (3, [.ref ts, .int (jI tn), .int (jI tp1'25), .int (jI tw1'26)])), (ts, .inl (cA, 400, .inl (jA tf))), (ba, .inr (0, [.ref bt, .ref bp, .ref bl, .ref bh, .ref bq, .ref br, .ref bd, .int (jI (f_XB_tellGrade bg bf r)), .int (jI bf)])), (bt, .inl (cA, 31, .inl (jA ft1'))), (bl, .inl (cA, 248, .inl (jA fl1'))), (bh, .inl (cA, 248, .inl (jA fh1'))), (bq, .inl (cA, 124, .inl (jA fq))), (br, .inl (cA, 31, .inl (jA fr1')))]) [4, 5, 6, 7, 1, 2, 3, 0, 8] rfl
            have hD9 := hD.sub (ws' := [(rda, .inr (2, [.ref ta])), (ta, .inr (3, [.ref ts, .int (jI tn), .int (jI tp1'25), .int (jI tw1'26)])), (ts, .inl (cA, 400, .inl (jA tf))), (ba, .inr (0, [.ref bt, .ref bp, .ref bl, .ref bh, .ref bq, .ref br, .ref bd, .int (jI (f_XB_tellGrade bg bf r)), .int (jI bf)])), (bt, .inl (cA, 31, .inl (jA ft1'))), (bl, .inl (cA, 248, .inl (jA fl1'))), (bh, .inl (cA, 248, .inl (jA fh1'))), (bq, .inl (cA, 124, .inl (jA fq))), (br, .inl (cA, 31, .inl (jA fr1')))]) [4, 5, 6, 7, 1, 2, 3, 0, 8] (by decide) rfl
            subst hAe
            subst hQ
            exact W.zret (v := jI 0) hx hb hr (by first | decide | exact jz (by omega)) (fun t ht hW => ⟨⟨_, (0, tp1'25, tw1'26, ft1', fl1', fh1', fq, fr1', f_XB_tellGrade bg bf r), rfl, ⟨rfl, Eq.trans (by rw [f_XR_grade_s]; rw [← hwb]; try dsimp only; rw [if_neg c13_, if_pos c23_]; rw [← hwb10]; try dsimp only; rw [if_neg c45_]; rw [← hwb19]; try dsimp only; rw [if_neg c54_]; rw [← hwb29]; try dsimp only; rw [if_pos c63_]; try rfl) rfl, show 0 ≤ 0 ∧ 0 ≤ 1 from by first | assumption | omega, show 0 ≤ tp1'25 ∧ tp1'25 ≤ tn from by first | assumption | omega, show ∀ i, 0 ≤ ft1' i ∧ ft1' i ≤ 30 from by first | assumption | omega, show ∀ i, 0 ≤ fl1' i ∧ fl1' i ≤ 100000 from by first | assumption | omega, show ∀ i, -1 ≤ fh1' i ∧ fh1' i ≤ 100000 from by first | assumption | omega, show ∀ i, -1 ≤ fq i ∧ fq i ≤ 999999 from by first | assumption | omega, show ∀ i, 0 ≤ fr1' i ∧ fr1' i < 2147483648 from by first | assumption | omega, show 0 ≤ (f_XB_tellGrade bg bf r) ∧ (f_XB_tellGrade bg bf r) < 2147483648 from by first | assumption | omega⟩, ⟨by rw [ht]; exact hP9, va_K.moved hW.alike hK, hD9⟩⟩, hS.F ht⟩) hS.2.2 dXR_grade_80
          · refine lv_aload_n hx hb dXR_grade_66 rfl (lv_at hl 1 rfl) ?_
            refine lv_aload_n hx hb dXR_grade_67 rfl (lv_at hl 2 rfl) ?_
            refine lv_iload_n hx hb dXR_grade_68 rfl (lv_at hl 0 rfl) ?_
            refine jwVi (rest := []) (wr := [(bt, .inl (cA, 31, .inl (jA ft1'))), (bl, .inl (cA, 248, .inl (jA fl1'))), (bh, .inl (cA, 248, .inl (jA fh1'))), (br, .inl (cA, 31, .inl (jA fr1')))]) ⟨hx, hb, hml, hown, hts⟩ (c_XR_limits l dC dI cA _ rda ta ts tn tp1'25 tw1'26 tf ba bt bp bl bh bq br bd (f_XB_tellGrade bg bf r) bf fq r (by first | assumption | omega) (by first | assumption | omega) (by first | assumption | omega) (by first | assumption | omega) (by first | assumption | omega)) (cwV 2 hts (jG_V tw_256 tw_258 ts_7 tw_3 tw_259) rfl rfl rfl (by decide +kernel) (by rw [hR]; exact ⟨Nat.le_of_ble_eq_true rfl, Nat.le_of_ble_eq_true rfl⟩)) hK hP hD hS hA hN [4, 5, 6, 7, 0] [1, 2, 3, 8] rfl rfl (by decide) (by decide) (by decide) 4 2 rfl rfl rfl rfl hl.1 rfl (Nat.le_of_ble_eq_true rfl) dXR_grade_69 (by rw [hR]; exact ⟨Nat.le_of_ble_eq_true rfl, Nat.le_of_ble_eq_true rfl⟩) (fun v37 u36 H locs hwb38 hP hD hS => ?_)
            obtain ⟨r33, tp1'34, tw1'35, fq1'⟩ := u36
            try dsimp only at hwb38
            obtain ⟨er, hwb38, f39, f40, f41⟩ := hwb38
            subst er
            have f39 : 0 ≤ r33 ∧ r33 ≤ 1 := f39
            have f40 : 0 ≤ tp1'34 ∧ tp1'34 ≤ tn := f40
            have f41 : ∀ i, -1 ≤ fq1' i ∧ fq1' i ≤ 999999 := f41
            have hP : va_P (dC, dI) vwCl [(bt, .inl (cA, 31, .inl (jA ft1'))), (bl, .inl (cA, 248, .inl (jA fl1'))), (bh, .inl (cA, 248, .inl (jA fh1'))), (br, .inl (cA, 31, .inl (jA fr1'))), (rda, .inr (2, [.ref ta])), (ta, .inr (3, [.ref ts, .int (jI tn), .int (jI tp1'34), .int (jI tw1'35)])), (ts, .inl (cA, 400, .inl (jA tf))), (ba, .inr (0, [.ref bt, .ref bp, .ref bl, .ref bh, .ref bq, .ref br, .ref bd, .int (jI (f_XB_tellGrade bg bf r)), .int (jI bf)])), (bq, .inl (cA, 124, .inl (jA fq1')))] H := hP
            have hD : va_D A [(bt, .inl (cA, 31, .inl (jA ft1'))), (bl, .inl (cA, 248, .inl (jA fl1'))), (bh, .inl (cA, 248, .inl (jA fh1'))), (br, .inl (cA, 31, .inl (jA fr1'))), (rda, .inr (2, [.ref ta])), (ta, .inr (3, [.ref ts, .int (jI tn), .int (jI tp1'34), .int (jI tw1'35)])), (ts, .inl (cA, 400, .inl (jA tf))), (ba, .inr (0, [.ref bt, .ref bp, .ref bl, .ref bh, .ref bq, .ref br, .ref bd, .int (jI (f_XB_tellGrade bg bf r)), .int (jI bf)])), (bq, .inl (cA, 124, .inl (jA fq1')))] := hD
            refine ji_if_eq (tgt := 79) hx hb dXR_grade_72 (by decide) (by omega) (fun c72_ => ?_) (fun c72_ => ?_)
            · refine ji_iconst hx hb dXR_grade_79 ?_
              have hP9 := hP.sub (ws' := [(rda, .inr (2, [.ref ta])), (ta, .inr (3, [.ref ts, .int (jI tn), .int (jI tp1'34), .int (jI tw1'35)])), (ts, .inl (cA, 400, .inl (jA tf))), (ba, .inr (0, [.ref bt, .ref bp, .ref bl, .ref bh, .ref bq, .ref br, .ref bd, .int (jI (f_XB_tellGrade bg bf r)), .int (jI bf)])), (bt, .inl (cA, 31, .inl (jA ft1'))), (bl, .inl (cA, 248, .inl (jA fl1'))), (bh, .inl (cA, 248, .inl (jA fh1'))), (bq, .inl (cA, 124, .inl (jA fq1'))), (br, .inl (cA, 31, .inl (jA fr1')))]) [4, 5, 6, 7, 0, 1, 2, 8, 3] rfl
              have hD9 := hD.sub (ws' := [(rda, .inr (2, [.ref ta])), (ta, .inr (3, [.ref ts, .int (jI tn), .int (jI tp1'34), .int (jI tw1'35)])), (ts, .inl (cA, 400, .inl (jA tf))), (ba, .inr (0, [.ref bt, .ref bp, .ref bl, .ref bh, .ref bq, .ref br, .ref bd, .int (jI (f_XB_tellGrade bg bf r)), .int (jI bf)])), (bt, .inl (cA, 31, .inl (jA ft1'))), (bl, .inl (cA, 248, .inl (jA fl1'))), (bh, .inl (cA, 248, .inl (jA fh1'))), (bq, .inl (cA, 124, .inl (jA fq1'))), (br, .inl (cA, 31, .inl (jA fr1')))]) [4, 5, 6, 7, 0, 1, 2, 8, 3] (by decide) rfl
              subst hAe
              subst hQ
              exact W.zret (v := jI 0) hx hb hr (by first | decide | exact jz (by omega)) (fun t ht hW => ⟨⟨_, (0, tp1'34, tw1'35, ft1', fl1', fh1', fq1', fr1', f_XB_tellGrade bg bf r), rfl, ⟨rfl, Eq.trans (by rw [f_XR_grade_s]; rw [← hwb]; try dsimp only; rw [if_neg c13_, if_pos c23_]; rw [← hwb10]; try dsimp only; rw [if_neg c45_]; rw [← hwb19]; try dsimp only; rw [if_neg c54_]; rw [← hwb29]; try dsimp only; rw [if_neg c63_]; rw [← hwb38]; try dsimp only; rw [if_pos c72_]; try rfl) rfl, show 0 ≤ 0 ∧ 0 ≤ 1 from by first | assumption | omega, show 0 ≤ tp1'34 ∧ tp1'34 ≤ tn from by first | assumption | omega, show ∀ i, 0 ≤ ft1' i ∧ ft1' i ≤ 30 from by first | assumption | omega, show ∀ i, 0 ≤ fl1' i ∧ fl1' i ≤ 100000 from by first | assumption | omega, show ∀ i, -1 ≤ fh1' i ∧ fh1' i ≤ 100000 from by first | assumption | omega, show ∀ i, -1 ≤ fq1' i ∧ fq1' i ≤ 999999 from by first | assumption | omega, show ∀ i, 0 ≤ fr1' i ∧ fr1' i < 2147483648 from by first | assumption | omega, show 0 ≤ (f_XB_tellGrade bg bf r) ∧ (f_XB_tellGrade bg bf r) < 2147483648 from by first | assumption | omega⟩, ⟨by rw [ht]; exact hP9, va_K.moved hW.alike hK, hD9⟩⟩, hS.F ht⟩) hS.2.2 dXR_grade_80
            · refine ji_iconst hx hb dXR_grade_75 ?_
              refine lv_goto (tgt := 80) hx hb dXR_grade_76 (by decide) ?_
              have hP9 := hP.sub (ws' := [(rda, .inr (2, [.ref ta])), (ta, .inr (3, [.ref ts, .int (jI tn), .int (jI tp1'34), .int (jI tw1'35)])), (ts, .inl (cA, 400, .inl (jA tf))), (ba, .inr (0, [.ref bt, .ref bp, .ref bl, .ref bh, .ref bq, .ref br, .ref bd, .int (jI (f_XB_tellGrade bg bf r)), .int (jI bf)])), (bt, .inl (cA, 31, .inl (jA ft1'))), (bl, .inl (cA, 248, .inl (jA fl1'))), (bh, .inl (cA, 248, .inl (jA fh1'))), (bq, .inl (cA, 124, .inl (jA fq1'))), (br, .inl (cA, 31, .inl (jA fr1')))]) [4, 5, 6, 7, 0, 1, 2, 8, 3] rfl
              have hD9 := hD.sub (ws' := [(rda, .inr (2, [.ref ta])), (ta, .inr (3, [.ref ts, .int (jI tn), .int (jI tp1'34), .int (jI tw1'35)])), (ts, .inl (cA, 400, .inl (jA tf))), (ba, .inr (0, [.ref bt, .ref bp, .ref bl, .ref bh, .ref bq, .ref br, .ref bd, .int (jI (f_XB_tellGrade bg bf r)), .int (jI bf)])), (bt, .inl (cA, 31, .inl (jA ft1'))), (bl, .inl (cA, 248, .inl (jA fl1'))), (bh, .inl (cA, 248, .inl (jA fh1'))), (bq, .inl (cA, 124, .inl (jA fq1'))), (br, .inl (cA, 31, .inl (jA fr1')))]) [4, 5, 6, 7, 0, 1, 2, 8, 3] (by decide) rfl
              subst hAe
              subst hQ
              exact W.zret (v := jI 1) hx hb hr (by first | decide | exact jz (by omega)) (fun t ht hW => ⟨⟨_, (1, tp1'34, tw1'35, ft1', fl1', fh1', fq1', fr1', f_XB_tellGrade bg bf r), rfl, ⟨rfl, Eq.trans (by rw [f_XR_grade_s]; rw [← hwb]; try dsimp only; rw [if_neg c13_, if_pos c23_]; rw [← hwb10]; try dsimp only; rw [if_neg c45_]; rw [← hwb19]; try dsimp only; rw [if_neg c54_]; rw [← hwb29]; try dsimp only; rw [if_neg c63_]; rw [← hwb38]; try dsimp only; rw [if_neg c72_]; try rfl) rfl, show 0 ≤ 1 ∧ 1 ≤ 1 from by first | assumption | omega, show 0 ≤ tp1'34 ∧ tp1'34 ≤ tn from by first | assumption | omega, show ∀ i, 0 ≤ ft1' i ∧ ft1' i ≤ 30 from by first | assumption | omega, show ∀ i, 0 ≤ fl1' i ∧ fl1' i ≤ 100000 from by first | assumption | omega, show ∀ i, -1 ≤ fh1' i ∧ fh1' i ≤ 100000 from by first | assumption | omega, show ∀ i, -1 ≤ fq1' i ∧ fq1' i ≤ 999999 from by first | assumption | omega, show ∀ i, 0 ≤ fr1' i ∧ fr1' i < 2147483648 from by first | assumption | omega, show 0 ≤ (f_XB_tellGrade bg bf r) ∧ (f_XB_tellGrade bg bf r) < 2147483648 from by first | assumption | omega⟩, ⟨by rw [ht]; exact hP9, va_K.moved hW.alike hK, hD9⟩⟩, hS.F ht⟩) hS.2.2 dXR_grade_80
    · refine lv_aload_n hx hb dXR_grade_26 rfl (lv_at hl 1 rfl) ?_
      refine va_get (D := (dC, dI)) (ci := 2) (v := .ref ta) (C := RXR) (T := TXR) (N := 1) hx hb hts (fun w h => jmem (inXR w h)) hown hK hP 0 rfl rfl 0 (by decide) (hts _ (jmem tw_50)) (fun _ h9 => h9) rfl dXR_grade_27 ?_
      refine jwVi (rest := []) (wr := [(rda, .inr (2, [.ref ta])), (ba, .inr (0, [.ref bt, .ref bp, .ref bl, .ref bh, .ref bq, .ref br, .ref bd, .int (jI bg), .int (jI bf)])), (bt, .inl (cA, 31, .inl (jA ft))), (bl, .inl (cA, 248, .inl (jA fl))), (bh, .inl (cA, 248, .inl (jA fh))), (bq, .inl (cA, 124, .inl (jA fq))), (br, .inl (cA, 31, .inl (jA fr)))]) ⟨hx, hb, hml, hown, hts⟩ (c_XT_refuseLast l dC dI cA _ ta ts tn tp1' tw1' tf) (cwV 0 hts (jG_V tw_174 tw_175 tw_176 tw_2 tw_177) rfl rfl rfl (by decide +kernel) (by rw [hR]; exact ⟨Nat.le_of_ble_eq_true rfl, Nat.le_of_ble_eq_true rfl⟩)) hK hP hD hS hA hN [7, 8] [0, 1, 2, 3, 4, 5, 6] rfl rfl (by decide) (by decide) (by decide) 7 3 rfl rfl rfl rfl hl.1 rfl (Nat.le_of_ble_eq_true rfl) dXR_grade_30 (by rw [hR]; exact ⟨Nat.le_of_ble_eq_true rfl, Nat.le_of_ble_eq_true rfl⟩) (fun v45 u44 H locs hwb46 hP hD hS => ?_)
      obtain ⟨r42, tw1'43⟩ := u44
      try dsimp only at hwb46
      obtain ⟨er, hwb46⟩ := hwb46
      subst er
      have hP : va_P (dC, dI) vwCl [(rda, .inr (2, [.ref ta])), (ba, .inr (0, [.ref bt, .ref bp, .ref bl, .ref bh, .ref bq, .ref br, .ref bd, .int (jI bg), .int (jI bf)])), (bt, .inl (cA, 31, .inl (jA ft))), (bl, .inl (cA, 248, .inl (jA fl))), (bh, .inl (cA, 248, .inl (jA fh))), (bq, .inl (cA, 124, .inl (jA fq))), (br, .inl (cA, 31, .inl (jA fr))), (ta, .inr (3, [.ref ts, .int (jI tn), .int (jI tp1'), .int (jI tw1'43)])), (ts, .inl (cA, 400, .inl (jA tf)))] H := hP
      have hD : va_D A [(rda, .inr (2, [.ref ta])), (ba, .inr (0, [.ref bt, .ref bp, .ref bl, .ref bh, .ref bq, .ref br, .ref bd, .int (jI bg), .int (jI bf)])), (bt, .inl (cA, 31, .inl (jA ft))), (bl, .inl (cA, 248, .inl (jA fl))), (bh, .inl (cA, 248, .inl (jA fh))), (bq, .inl (cA, 124, .inl (jA fq))), (br, .inl (cA, 31, .inl (jA fr))), (ta, .inr (3, [.ref ts, .int (jI tn), .int (jI tp1'), .int (jI tw1'43)])), (ts, .inl (cA, 400, .inl (jA tf)))] := hD
      have f47 := f_XT_refuseLast_b tn tp1' tw1' tf
      rw [← hwb46] at f47; try dsimp only at f47
      have hP9 := hP.sub (ws' := [(rda, .inr (2, [.ref ta])), (ta, .inr (3, [.ref ts, .int (jI tn), .int (jI tp1'), .int (jI tw1'43)])), (ts, .inl (cA, 400, .inl (jA tf))), (ba, .inr (0, [.ref bt, .ref bp, .ref bl, .ref bh, .ref bq, .ref br, .ref bd, .int (jI bg), .int (jI bf)])), (bt, .inl (cA, 31, .inl (jA ft))), (bl, .inl (cA, 248, .inl (jA fl))), (bh, .inl (cA, 248, .inl (jA fh))), (bq, .inl (cA, 124, .inl (jA fq))), (br, .inl (cA, 31, .inl (jA fr)))]) [0, 7, 8, 1, 2, 3, 4, 5, 6] rfl
      have hD9 := hD.sub (ws' := [(rda, .inr (2, [.ref ta])), (ta, .inr (3, [.ref ts, .int (jI tn), .int (jI tp1'), .int (jI tw1'43)])), (ts, .inl (cA, 400, .inl (jA tf))), (ba, .inr (0, [.ref bt, .ref bp, .ref bl, .ref bh, .ref bq, .ref br, .ref bd, .int (jI bg), .int (jI bf)])), (bt, .inl (cA, 31, .inl (jA ft))), (bl, .inl (cA, 248, .inl (jA fl))), (bh, .inl (cA, 248, .inl (jA fh))), (bq, .inl (cA, 124, .inl (jA fq))), (br, .inl (cA, 31, .inl (jA fr)))]) [0, 7, 8, 1, 2, 3, 4, 5, 6] (by decide) rfl
      subst hAe
      subst hQ
      exact W.zret (v := jI r42) hx hb hr (by first | decide | exact jz (by omega)) (fun t ht hW => ⟨⟨_, (r42, tp1', tw1'43, ft, fl, fh, fq, fr, bg), rfl, ⟨rfl, Eq.trans (by rw [f_XR_grade_s]; rw [← hwb]; try dsimp only; rw [if_neg c13_, if_neg c23_]; rw [← hwb46]; try dsimp only; try rfl) rfl, show 0 ≤ r42 ∧ r42 ≤ 1 from by first | assumption | omega, show 0 ≤ tp1' ∧ tp1' ≤ tn from by first | assumption | omega, show ∀ i, 0 ≤ ft i ∧ ft i ≤ 30 from by first | assumption | omega, show ∀ i, 0 ≤ fl i ∧ fl i ≤ 100000 from by first | assumption | omega, show ∀ i, -1 ≤ fh i ∧ fh i ≤ 100000 from by first | assumption | omega, show ∀ i, -1 ≤ fq i ∧ fq i ≤ 999999 from by first | assumption | omega, show ∀ i, 0 ≤ fr i ∧ fr i < 2147483648 from by first | assumption | omega, show 0 ≤ bg ∧ bg < 2147483648 from by first | assumption | omega⟩, ⟨by rw [ht]; exact hP9, va_K.moved hW.alike hK, hD9⟩⟩, hS.F ht⟩) hS.2.2 dXR_grade_33
  · refine ji_iconst hx hb dXR_grade_16 ?_
    have hP9 := hP.sub (ws' := [(rda, .inr (2, [.ref ta])), (ta, .inr (3, [.ref ts, .int (jI tn), .int (jI tp1'), .int (jI tw1')])), (ts, .inl (cA, 400, .inl (jA tf))), (ba, .inr (0, [.ref bt, .ref bp, .ref bl, .ref bh, .ref bq, .ref br, .ref bd, .int (jI bg), .int (jI bf)])), (bt, .inl (cA, 31, .inl (jA ft))), (bl, .inl (cA, 248, .inl (jA fl))), (bh, .inl (cA, 248, .inl (jA fh))), (bq, .inl (cA, 124, .inl (jA fq))), (br, .inl (cA, 31, .inl (jA fr)))]) [0, 7, 8, 1, 2, 3, 4, 5, 6] rfl
    have hD9 := hD.sub (ws' := [(rda, .inr (2, [.ref ta])), (ta, .inr (3, [.ref ts, .int (jI tn), .int (jI tp1'), .int (jI tw1')])), (ts, .inl (cA, 400, .inl (jA tf))), (ba, .inr (0, [.ref bt, .ref bp, .ref bl, .ref bh, .ref bq, .ref br, .ref bd, .int (jI bg), .int (jI bf)])), (bt, .inl (cA, 31, .inl (jA ft))), (bl, .inl (cA, 248, .inl (jA fl))), (bh, .inl (cA, 248, .inl (jA fh))), (bq, .inl (cA, 124, .inl (jA fq))), (br, .inl (cA, 31, .inl (jA fr)))]) [0, 7, 8, 1, 2, 3, 4, 5, 6] (by decide) rfl
    subst hAe
    subst hQ
    exact W.zret (v := jI 0) hx hb hr (by first | decide | exact jz (by omega)) (fun t ht hW => ⟨⟨_, (0, tp1', tw1', ft, fl, fh, fq, fr, bg), rfl, ⟨rfl, Eq.trans (by rw [f_XR_grade_s]; rw [← hwb]; try dsimp only; rw [if_pos c13_]; try rfl) rfl, show 0 ≤ 0 ∧ 0 ≤ 1 from by first | assumption | omega, show 0 ≤ tp1' ∧ tp1' ≤ tn from by first | assumption | omega, show ∀ i, 0 ≤ ft i ∧ ft i ≤ 30 from by first | assumption | omega, show ∀ i, 0 ≤ fl i ∧ fl i ≤ 100000 from by first | assumption | omega, show ∀ i, -1 ≤ fh i ∧ fh i ≤ 100000 from by first | assumption | omega, show ∀ i, -1 ≤ fq i ∧ fq i ≤ 999999 from by first | assumption | omega, show ∀ i, 0 ≤ fr i ∧ fr i < 2147483648 from by first | assumption | omega, show 0 ≤ bg ∧ bg < 2147483648 from by first | assumption | omega⟩, ⟨by rw [ht]; exact hP9, va_K.moved hW.alike hK, hD9⟩⟩, hS.F ht⟩) hS.2.2 dXR_grade_17
noncomputable def g_XR_row (tn : Int) (tp : Int) (tw : Int) (tf : Int → Int) (bg : Int) (bf : Int) (ft : Int → Int) (fl : Int → Int) (fh : Int → Int) (fq : Int → Int) (fr : Int → Int) (fd : Int → Int) : Int × Int × Int × (Int → Int) × (Int → Int) × (Int → Int) × (Int → Int) × (Int → Int) × (Int → Int) × Int × Int :=
  match f_XT_skipIf tn tp tw tf 101 with
  | (r, tp1') =>
    if r = 0 then
      match f_XT_skipIf tn tp1' tw tf 103 with
      | (r1, tp1'2) =>
        if r1 = 0 then
          match f_XT_refuse tn tp1'2 tw tf with
          | (r7, tw1') =>
            (r7, tp1'2, tw1', ft, fl, fh, fq, fr, fd, bg, bf)
        else
          match f_XR_grade tn tp1'2 tw tf bg bf ft fl fh fq fr with
          | (r12, tp1'13, tw1'14, ft1', fl1', fh1', fq1', fr1', bg1') =>
            if r12 = 0 then
              (0, tp1'13, tw1'14, ft1', fl1', fh1', fq1', fr1', fd, bg1', bf)
            else
              match f_XT_take tn tp1'13 tw1'14 tf 59 with
              | (r26, tp1'27, tw1'28) =>
                if r26 = 0 then
                  (0, tp1'27, tw1'28, ft1', fl1', fh1', fq1', fr1', fd, bg1', bf)
                else
                  (1, tp1'27, tw1'28, ft1', fl1', fh1', fq1', fr1', fd, bg1', bf)
    else
      match f_XR_formula tn tp1' tw tf bg bf fd with
      | (r33, tp1'34, tw1'35, fd1', bf1') =>
        if r33 = 0 then
          (0, tp1'34, tw1'35, ft, fl, fh, fq, fr, fd1', bg, bf1')
        else
          match f_XT_take tn tp1'34 tw1'35 tf 59 with
          | (r43, tp1'44, tw1'45) =>
            if r43 = 0 then
              (0, tp1'44, tw1'45, ft, fl, fh, fq, fr, fd1', bg, bf1')
            else
              (1, tp1'44, tw1'45, ft, fl, fh, fq, fr, fd1', bg, bf1')
noncomputable def f_XR_row : Int → Int → Int → (Int → Int) → Int → Int → (Int → Int) → (Int → Int) → (Int → Int) → (Int → Int) → (Int → Int) → (Int → Int) → Int × Int × Int × (Int → Int) × (Int → Int) × (Int → Int) × (Int → Int) × (Int → Int) × (Int → Int) × Int × Int := jopq g_XR_row
theorem f_XR_row_q : f_XR_row = g_XR_row := jopq_eq _
theorem f_XR_row_s (tn : Int) (tp : Int) (tw : Int) (tf : Int → Int) (bg : Int) (bf : Int) (ft : Int → Int) (fl : Int → Int) (fh : Int → Int) (fq : Int → Int) (fr : Int → Int) (fd : Int → Int) : f_XR_row tn tp tw tf bg bf ft fl fh fq fr fd = (
    match f_XT_skipIf tn tp tw tf 101 with
    | (r, tp1') =>
      if r = 0 then
        match f_XT_skipIf tn tp1' tw tf 103 with
        | (r1, tp1'2) =>
          if r1 = 0 then
            match f_XT_refuse tn tp1'2 tw tf with
            | (r7, tw1') =>
              (r7, tp1'2, tw1', ft, fl, fh, fq, fr, fd, bg, bf)
          else
            match f_XR_grade tn tp1'2 tw tf bg bf ft fl fh fq fr with
            | (r12, tp1'13, tw1'14, ft1', fl1', fh1', fq1', fr1', bg1') =>
              if r12 = 0 then
                (0, tp1'13, tw1'14, ft1', fl1', fh1', fq1', fr1', fd, bg1', bf)
              else
                match f_XT_take tn tp1'13 tw1'14 tf 59 with
                | (r26, tp1'27, tw1'28) =>
                  if r26 = 0 then
                    (0, tp1'27, tw1'28, ft1', fl1', fh1', fq1', fr1', fd, bg1', bf)
                  else
                    (1, tp1'27, tw1'28, ft1', fl1', fh1', fq1', fr1', fd, bg1', bf)
      else
        match f_XR_formula tn tp1' tw tf bg bf fd with
        | (r33, tp1'34, tw1'35, fd1', bf1') =>
          if r33 = 0 then
            (0, tp1'34, tw1'35, ft, fl, fh, fq, fr, fd1', bg, bf1')
          else
            match f_XT_take tn tp1'34 tw1'35 tf 59 with
            | (r43, tp1'44, tw1'45) =>
              if r43 = 0 then
                (0, tp1'44, tw1'45, ft, fl, fh, fq, fr, fd1', bg, bf1')
              else
                (1, tp1'44, tw1'45, ft, fl, fh, fq, fr, fd1', bg, bf1')
  : Int × Int × Int × (Int → Int) × (Int → Int) × (Int → Int) × (Int → Int) × (Int → Int) × (Int → Int) × Int × Int) := by rw [f_XR_row_q]; rfl
set_option maxHeartbeats 4000000 in
set_option maxRecDepth 100000 in
theorem c_XR_row (l : Launch) (dC : Nat → ClassId) (dI : Nat → Nat → Nat) (cA : ClassId) (sz : Nat) (rda : Nat) (ta : Nat) (ts : Nat) (tn : Int) (tp : Int) (tw : Int) (tf : Int → Int) (ba : Nat) (bt : Nat) (bp : Nat) (bl : Nat) (bh : Nat) (bq : Nat) (br : Nat) (bd : Nat) (bg : Int) (bf : Int) (ft : Int → Int) (fl : Int → Int) (fh : Int → Int) (fq : Int → Int) (fr : Int → Int) (fd : Int → Int) (hn : 0 ≤ tn ∧ tn ≤ 400) (hp : 0 ≤ tp ∧ tp ≤ tn) (hf : ∀ i, 0 ≤ tf i ∧ tf i < 256) (hbt : ∀ i, 0 ≤ ft i ∧ ft i ≤ 30) (hbl : ∀ i, 0 ≤ fl i ∧ fl i ≤ 100000) (hbh : ∀ i, -1 ≤ fh i ∧ fh i ≤ 100000) (hbq : ∀ i, -1 ≤ fq i ∧ fq i ≤ 999999) (hbr : ∀ i, 0 ≤ fr i ∧ fr i < 2147483648) (hbd : ∀ i, 0 ≤ fd i ∧ fd i ≤ 20) (hbg : 0 ≤ bg ∧ bg < 2147483648) (hbf : 0 ≤ bf ∧ bf < 2147483648) : Met l yXR_row (Cond.code yXR_row cXR_row 2 (some .boolean) :: TBL) ({ frames := 4, cells := 0, slots := 0, locals := 92 } : Room) (va_Pc [.ref rda, .ref ba] (jBw (dC, dI) [(cA, .int)] [(rda, .inr (2, [.ref ta])), (ta, .inr (3, [.ref ts, .int (jI tn), .int (jI tp), .int (jI tw)])), (ts, .inl (cA, 400, .inl (jA tf))), (ba, .inr (0, [.ref bt, .ref bp, .ref bl, .ref bh, .ref bq, .ref br, .ref bd, .int (jI bg), .int (jI bf)])), (bt, .inl (cA, 31, .inl (jA ft))), (bl, .inl (cA, 248, .inl (jA fl))), (bh, .inl (cA, 248, .inl (jA fh))), (bq, .inl (cA, 124, .inl (jA fq))), (br, .inl (cA, 31, .inl (jA fr))), (bd, .inl (cA, 32, .inl (jA fd)))] sz)) (va_Qi (fun (r : Int32) (u : Int × Int × Int × (Int → Int) × (Int → Int) × (Int → Int) × (Int → Int) × (Int → Int) × (Int → Int) × Int × Int) => r = jI u.1 ∧ u = f_XR_row tn tp tw tf bg bf ft fl fh fq fr fd ∧ (0 ≤ u.1 ∧ u.1 ≤ 1) ∧ (0 ≤ u.2.1 ∧ u.2.1 ≤ tn) ∧ (∀ i, 0 ≤ u.2.2.2.1 i ∧ u.2.2.2.1 i ≤ 30) ∧ (∀ i, 0 ≤ u.2.2.2.2.1 i ∧ u.2.2.2.2.1 i ≤ 100000) ∧ (∀ i, -1 ≤ u.2.2.2.2.2.1 i ∧ u.2.2.2.2.2.1 i ≤ 100000) ∧ (∀ i, -1 ≤ u.2.2.2.2.2.2.1 i ∧ u.2.2.2.2.2.2.1 i ≤ 999999) ∧ (∀ i, 0 ≤ u.2.2.2.2.2.2.2.1 i ∧ u.2.2.2.2.2.2.2.1 i < 2147483648) ∧ (∀ i, 0 ≤ u.2.2.2.2.2.2.2.2.1 i ∧ u.2.2.2.2.2.2.2.2.1 i ≤ 20) ∧ (0 ≤ u.2.2.2.2.2.2.2.2.2.1 ∧ u.2.2.2.2.2.2.2.2.2.1 < 2147483648) ∧ (0 ≤ u.2.2.2.2.2.2.2.2.2.2 ∧ u.2.2.2.2.2.2.2.2.2.2 < 2147483648)) (fun u t => jE (dC, dI) [(cA, .int)] [(rda, .inr (2, [.ref ta])), (ta, .inr (3, [.ref ts, .int (jI tn), .int (jI tp), .int (jI tw)])), (ts, .inl (cA, 400, .inl (jA tf))), (ba, .inr (0, [.ref bt, .ref bp, .ref bl, .ref bh, .ref bq, .ref br, .ref bd, .int (jI bg), .int (jI bf)])), (bt, .inl (cA, 31, .inl (jA ft))), (bl, .inl (cA, 248, .inl (jA fl))), (bh, .inl (cA, 248, .inl (jA fh))), (bq, .inl (cA, 124, .inl (jA fq))), (br, .inl (cA, 31, .inl (jA fr))), (bd, .inl (cA, 32, .inl (jA fd)))] sz [(rda, .inr (2, [.ref ta])), (ta, .inr (3, [.ref ts, .int (jI tn), .int (jI u.2.1), .int (jI u.2.2.1)])), (ts, .inl (cA, 400, .inl (jA tf))), (ba, .inr (0, [.ref bt, .ref bp, .ref bl, .ref bh, .ref bq, .ref br, .ref bd, .int (jI u.2.2.2.2.2.2.2.2.2.1), .int (jI u.2.2.2.2.2.2.2.2.2.2)])), (bt, .inl (cA, 31, .inl (jA u.2.2.2.1))), (bl, .inl (cA, 248, .inl (jA u.2.2.2.2.1))), (bh, .inl (cA, 248, .inl (jA u.2.2.2.2.2.1))), (bq, .inl (cA, 124, .inl (jA u.2.2.2.2.2.2.1))), (br, .inl (cA, 31, .inl (jA u.2.2.2.2.2.2.2.1))), (bd, .inl (cA, 32, .inl (jA u.2.2.2.2.2.2.2.2.1)))] t) (va_A [(rda, .inr (2, [.ref ta])), (ta, .inr (3, [.ref ts, .int (jI tn), .int (jI tp), .int (jI tw)])), (ts, .inl (cA, 400, .inl (jA tf))), (ba, .inr (0, [.ref bt, .ref bp, .ref bl, .ref bh, .ref bq, .ref br, .ref bd, .int (jI bg), .int (jI bf)])), (bt, .inl (cA, 31, .inl (jA ft))), (bl, .inl (cA, 248, .inl (jA fl))), (bh, .inl (cA, 248, .inl (jA fh))), (bq, .inl (cA, 124, .inl (jA fq))), (br, .inl (cA, 31, .inl (jA fr))), (bd, .inl (cA, 32, .inl (jA fd)))] sz)) 0 0 (va_A [(rda, .inr (2, [.ref ta])), (ta, .inr (3, [.ref ts, .int (jI tn), .int (jI tp), .int (jI tw)])), (ts, .inl (cA, 400, .inl (jA tf))), (ba, .inr (0, [.ref bt, .ref bp, .ref bl, .ref bh, .ref bq, .ref br, .ref bd, .int (jI bg), .int (jI bf)])), (bt, .inl (cA, 31, .inl (jA ft))), (bl, .inl (cA, 248, .inl (jA fl))), (bh, .inl (cA, 248, .inl (jA fh))), (bq, .inl (cA, 124, .inl (jA fq))), (br, .inl (cA, 31, .inl (jA fr))), (bd, .inl (cA, 32, .inl (jA fd)))] sz) := by
  refine jMet (cc := cXR_row) (maxL := 2) (ret := some .boolean) (by decide) rfl ?_
  intro p e s m args below meth c s₁ R Q hR hQ B hml hv
  obtain ⟨rfl, hsz, hP, hK, hD0, hN⟩ := hv
  have hx := B.exec
  have hb := B.bytes
  have hr := B.returns
  have hts := atoms_spec (ws := Cond.code yXR_row cXR_row 2 (some .boolean) :: TBL) B.pre
  have hown : s.vm.findClass RXR = some m.cls := findClass_of_methodNamed B.named
  have hlocks := B.notSynchronized
  subst hsz
  obtain ⟨A, hAe⟩ : ∃ A, A = va_A [(rda, .inr (2, [.ref ta])), (ta, .inr (3, [.ref ts, .int (jI tn), .int (jI tp), .int (jI tw)])), (ts, .inl (cA, 400, .inl (jA tf))), (ba, .inr (0, [.ref bt, .ref bp, .ref bl, .ref bh, .ref bq, .ref br, .ref bd, .int (jI bg), .int (jI bf)])), (bt, .inl (cA, 31, .inl (jA ft))), (bl, .inl (cA, 248, .inl (jA fl))), (bh, .inl (cA, 248, .inl (jA fh))), (bq, .inl (cA, 124, .inl (jA fq))), (br, .inl (cA, 31, .inl (jA fr))), (bd, .inl (cA, 32, .inl (jA fd)))] s.heap.size := ⟨_, rfl⟩
  have hD : va_D A [(rda, .inr (2, [.ref ta])), (ta, .inr (3, [.ref ts, .int (jI tn), .int (jI tp), .int (jI tw)])), (ts, .inl (cA, 400, .inl (jA tf))), (ba, .inr (0, [.ref bt, .ref bp, .ref bl, .ref bh, .ref bq, .ref br, .ref bd, .int (jI bg), .int (jI bf)])), (bt, .inl (cA, 31, .inl (jA ft))), (bl, .inl (cA, 248, .inl (jA fl))), (bh, .inl (cA, 248, .inl (jA fh))), (bq, .inl (cA, 124, .inl (jA fq))), (br, .inl (cA, 31, .inl (jA fr))), (bd, .inl (cA, 32, .inl (jA fd)))] := by rw [hAe]; exact hD0.self
  have hA : ∀ q : Nat, s.heap.size ≤ q → A q := fun q h => by rw [hAe]; exact Or.inr h
  have hS : va_S A s.heap s.heap [] := va_S.rf
  have hP : va_P (dC, dI) vwCl [(rda, .inr (2, [.ref ta])), (ta, .inr (3, [.ref ts, .int (jI tn), .int (jI tp), .int (jI tw)])), (ts, .inl (cA, 400, .inl (jA tf))), (ba, .inr (0, [.ref bt, .ref bp, .ref bl, .ref bh, .ref bq, .ref br, .ref bd, .int (jI bg), .int (jI bf)])), (bt, .inl (cA, 31, .inl (jA ft))), (bl, .inl (cA, 248, .inl (jA fl))), (bh, .inl (cA, 248, .inl (jA fh))), (bq, .inl (cA, 124, .inl (jA fq))), (br, .inl (cA, 31, .inl (jA fr))), (bd, .inl (cA, 32, .inl (jA fd)))] s.heap := hP
  have hl := lv_entry ([.ref rda, .ref ba]) (n := 2) (Nat.le_of_ble_eq_true rfl)
  rw [lg_entry_eq]
  generalize (lg_sl ([.ref rda, .ref ba]) ++ List.replicate (2 - (lg_sl ([.ref rda, .ref ba])).length) Slot.unset).toArray = ls at hl ⊢
  have hl : lv_has ls 2 [(0, .ref rda), (1, .ref ba)] := hl
  refine lv_aload_n hx hb dXR_row_0 rfl (lv_at hl 0 rfl) ?_
  refine va_get (D := (dC, dI)) (ci := 2) (v := .ref ta) (C := RXR) (T := TXR) (N := 1) hx hb hts (fun w h => jmem (inXR w h)) hown hK hP 0 rfl rfl 0 (by decide) (hts _ (jmem tw_50)) (fun _ h9 => h9) rfl dXR_row_1 ?_
  refine ji_bipush hx hb dXR_row_4 (by decide) ?_
  refine jwVi (rest := []) (wr := [(rda, .inr (2, [.ref ta])), (ba, .inr (0, [.ref bt, .ref bp, .ref bl, .ref bh, .ref bq, .ref br, .ref bd, .int (jI bg), .int (jI bf)])), (bt, .inl (cA, 31, .inl (jA ft))), (bl, .inl (cA, 248, .inl (jA fl))), (bh, .inl (cA, 248, .inl (jA fh))), (bq, .inl (cA, 124, .inl (jA fq))), (br, .inl (cA, 31, .inl (jA fr))), (bd, .inl (cA, 32, .inl (jA fd)))]) ⟨hx, hb, hml, hown, hts⟩ (c_XT_skipIf l dC dI cA _ ta ts tn tp tw tf 101 (by first | assumption | omega) (by first | assumption | omega) (by first | assumption | omega) (by first | assumption | omega) (by first | assumption | omega)) (cwV 1 hts (jG_V tw_150 tw_151 tw_152 tw_2 tw_153) rfl rfl rfl (by decide +kernel) (by rw [hR]; exact ⟨Nat.le_of_ble_eq_true rfl, Nat.le_of_ble_eq_true rfl⟩)) hK hP hD hS hA hN [1, 2] [0, 3, 4, 5, 6, 7, 8, 9] rfl rfl (by decide) (by decide) (by decide) 1 3 rfl rfl rfl rfl hl.1 rfl (Nat.le_of_ble_eq_true rfl) dXR_row_6 (by rw [hR]; exact ⟨Nat.le_of_ble_eq_true rfl, Nat.le_of_ble_eq_true rfl⟩) (fun v u H locs hwb hP hD hS => ?_)
  obtain ⟨r, tp1'⟩ := u
  try dsimp only at hwb
  obtain ⟨er, hwb⟩ := hwb
  subst er
  have hP : va_P (dC, dI) vwCl [(rda, .inr (2, [.ref ta])), (ba, .inr (0, [.ref bt, .ref bp, .ref bl, .ref bh, .ref bq, .ref br, .ref bd, .int (jI bg), .int (jI bf)])), (bt, .inl (cA, 31, .inl (jA ft))), (bl, .inl (cA, 248, .inl (jA fl))), (bh, .inl (cA, 248, .inl (jA fh))), (bq, .inl (cA, 124, .inl (jA fq))), (br, .inl (cA, 31, .inl (jA fr))), (bd, .inl (cA, 32, .inl (jA fd))), (ta, .inr (3, [.ref ts, .int (jI tn), .int (jI tp1'), .int (jI tw)])), (ts, .inl (cA, 400, .inl (jA tf)))] H := hP
  have hD : va_D A [(rda, .inr (2, [.ref ta])), (ba, .inr (0, [.ref bt, .ref bp, .ref bl, .ref bh, .ref bq, .ref br, .ref bd, .int (jI bg), .int (jI bf)])), (bt, .inl (cA, 31, .inl (jA ft))), (bl, .inl (cA, 248, .inl (jA fl))), (bh, .inl (cA, 248, .inl (jA fh))), (bq, .inl (cA, 124, .inl (jA fq))), (br, .inl (cA, 31, .inl (jA fr))), (bd, .inl (cA, 32, .inl (jA fd))), (ta, .inr (3, [.ref ts, .int (jI tn), .int (jI tp1'), .int (jI tw)])), (ts, .inl (cA, 400, .inl (jA tf)))] := hD
  have f := f_XT_skipIf_b tn tp tw tf 101 (by first | assumption | omega) (by first | assumption | omega) (by first | assumption | omega) (by first | assumption | omega) (by first | assumption | omega)
  rw [← hwb] at f; try dsimp only at f
  refine ji_if_eq (tgt := 38) hx hb dXR_row_9 (by decide) (by omega) (fun c9_ => ?_) (fun c9_ => ?_)
  · refine lv_aload_n hx hb dXR_row_38 rfl (lv_at hl 0 rfl) ?_
    refine va_get (D := (dC, dI)) (ci := 2) (v := .ref ta) (C := RXR) (T := TXR) (N := 1) hx hb hts (fun w h => jmem (inXR w h)) hown hK hP 0 rfl rfl 0 (by decide) (hts _ (jmem tw_50)) (fun _ h9 => h9) rfl dXR_row_39 ?_
    refine ji_bipush hx hb dXR_row_42 (by decide) ?_
    refine jwVi (rest := []) (wr := [(rda, .inr (2, [.ref ta])), (ba, .inr (0, [.ref bt, .ref bp, .ref bl, .ref bh, .ref bq, .ref br, .ref bd, .int (jI bg), .int (jI bf)])), (bt, .inl (cA, 31, .inl (jA ft))), (bl, .inl (cA, 248, .inl (jA fl))), (bh, .inl (cA, 248, .inl (jA fh))), (bq, .inl (cA, 124, .inl (jA fq))), (br, .inl (cA, 31, .inl (jA fr))), (bd, .inl (cA, 32, .inl (jA fd)))]) ⟨hx, hb, hml, hown, hts⟩ (c_XT_skipIf l dC dI cA _ ta ts tn tp1' tw tf 103 (by first | assumption | omega) (by first | assumption | omega) (by first | assumption | omega) (by first | assumption | omega) (by first | assumption | omega)) (cwV 1 hts (jG_V tw_150 tw_151 tw_152 tw_2 tw_153) rfl rfl rfl (by decide +kernel) (by rw [hR]; exact ⟨Nat.le_of_ble_eq_true rfl, Nat.le_of_ble_eq_true rfl⟩)) hK hP hD hS hA hN [8, 9] [0, 1, 2, 3, 4, 5, 6, 7] rfl rfl (by decide) (by decide) (by decide) 8 3 rfl rfl rfl rfl hl.1 rfl (Nat.le_of_ble_eq_true rfl) dXR_row_44 (by rw [hR]; exact ⟨Nat.le_of_ble_eq_true rfl, Nat.le_of_ble_eq_true rfl⟩) (fun v4 u3 H locs hwb5 hP hD hS => ?_)
    obtain ⟨r1, tp1'2⟩ := u3
    try dsimp only at hwb5
    obtain ⟨er, hwb5⟩ := hwb5
    subst er
    have hP : va_P (dC, dI) vwCl [(rda, .inr (2, [.ref ta])), (ba, .inr (0, [.ref bt, .ref bp, .ref bl, .ref bh, .ref bq, .ref br, .ref bd, .int (jI bg), .int (jI bf)])), (bt, .inl (cA, 31, .inl (jA ft))), (bl, .inl (cA, 248, .inl (jA fl))), (bh, .inl (cA, 248, .inl (jA fh))), (bq, .inl (cA, 124, .inl (jA fq))), (br, .inl (cA, 31, .inl (jA fr))), (bd, .inl (cA, 32, .inl (jA fd))), (ta, .inr (3, [.ref ts, .int (jI tn), .int (jI tp1'2), .int (jI tw)])), (ts, .inl (cA, 400, .inl (jA tf)))] H := hP
    have hD : va_D A [(rda, .inr (2, [.ref ta])), (ba, .inr (0, [.ref bt, .ref bp, .ref bl, .ref bh, .ref bq, .ref br, .ref bd, .int (jI bg), .int (jI bf)])), (bt, .inl (cA, 31, .inl (jA ft))), (bl, .inl (cA, 248, .inl (jA fl))), (bh, .inl (cA, 248, .inl (jA fh))), (bq, .inl (cA, 124, .inl (jA fq))), (br, .inl (cA, 31, .inl (jA fr))), (bd, .inl (cA, 32, .inl (jA fd))), (ta, .inr (3, [.ref ts, .int (jI tn), .int (jI tp1'2), .int (jI tw)])), (ts, .inl (cA, 400, .inl (jA tf)))] := hD
    have f6 := f_XT_skipIf_b tn tp1' tw tf 103 (by first | assumption | omega) (by first | assumption | omega) (by first | assumption | omega) (by first | assumption | omega) (by first | assumption | omega)
    rw [← hwb5] at f6; try dsimp only at f6
    refine ji_if_eq (tgt := 76) hx hb dXR_row_47 (by decide) (by omega) (fun c47_ => ?_) (fun c47_ => ?_)
    · refine lv_aload_n hx hb dXR_row_76 rfl (lv_at hl 0 rfl) ?_
      refine va_get (D := (dC, dI)) (ci := 2) (v := .ref ta) (C := RXR) (T := TXR) (N := 1) hx hb hts (fun w h => jmem (inXR w h)) hown hK hP 0 rfl rfl 0 (by decide) (hts _ (jmem tw_50)) (fun _ h9 => h9) rfl dXR_row_77 ?_
      refine jwVi (rest := []) (wr := [(rda, .inr (2, [.ref ta])), (ba, .inr (0, [.ref bt, .ref bp, .ref bl, .ref bh, .ref bq, .ref br, .ref bd, .int (jI bg), .int (jI bf)])), (bt, .inl (cA, 31, .inl (jA ft))), (bl, .inl (cA, 248, .inl (jA fl))), (bh, .inl (cA, 248, .inl (jA fh))), (bq, .inl (cA, 124, .inl (jA fq))), (br, .inl (cA, 31, .inl (jA fr))), (bd, .inl (cA, 32, .inl (jA fd)))]) ⟨hx, hb, hml, hown, hts⟩ (c_XT_refuse l dC dI cA _ ta ts tn tp1'2 tw tf) (cwV 0 hts (jG_V tw_210 tw_164 tw_165 tw_2 tw_166) rfl rfl rfl (by decide +kernel) (by rw [hR]; exact ⟨Nat.le_of_ble_eq_true rfl, Nat.le_of_ble_eq_true rfl⟩)) hK hP hD hS hA hN [8, 9] [0, 1, 2, 3, 4, 5, 6, 7] rfl rfl (by decide) (by decide) (by decide) 8 3 rfl rfl rfl rfl hl.1 rfl (Nat.le_of_ble_eq_true rfl) dXR_row_80 (by rw [hR]; exact ⟨Nat.le_of_ble_eq_true rfl, Nat.le_of_ble_eq_true rfl⟩) (fun v9 u8 H locs hwb10 hP hD hS => ?_)
      obtain ⟨r7, tw1'⟩ := u8
      try dsimp only at hwb10
      obtain ⟨er, hwb10⟩ := hwb10
      subst er
      have hP : va_P (dC, dI) vwCl [(rda, .inr (2, [.ref ta])), (ba, .inr (0, [.ref bt, .ref bp, .ref bl, .ref bh, .ref bq, .ref br, .ref bd, .int (jI bg), .int (jI bf)])), (bt, .inl (cA, 31, .inl (jA ft))), (bl, .inl (cA, 248, .inl (jA fl))), (bh, .inl (cA, 248, .inl (jA fh))), (bq, .inl (cA, 124, .inl (jA fq))), (br, .inl (cA, 31, .inl (jA fr))), (bd, .inl (cA, 32, .inl (jA fd))), (ta, .inr (3, [.ref ts, .int (jI tn), .int (jI tp1'2), .int (jI tw1')])), (ts, .inl (cA, 400, .inl (jA tf)))] H := hP
      have hD : va_D A [(rda, .inr (2, [.ref ta])), (ba, .inr (0, [.ref bt, .ref bp, .ref bl, .ref bh, .ref bq, .ref br, .ref bd, .int (jI bg), .int (jI bf)])), (bt, .inl (cA, 31, .inl (jA ft))), (bl, .inl (cA, 248, .inl (jA fl))), (bh, .inl (cA, 248, .inl (jA fh))), (bq, .inl (cA, 124, .inl (jA fq))), (br, .inl (cA, 31, .inl (jA fr))), (bd, .inl (cA, 32, .inl (jA fd))), (ta, .inr (3, [.ref ts, .int (jI tn), .int (jI tp1'2), .int (jI tw1')])), (ts, .inl (cA, 400, .inl (jA tf)))] := hD
      have f11 := f_XT_refuse_b tn tp1'2 tw tf
      rw [← hwb10] at f11; try dsimp only at f11
      have hP9 := hP.sub (ws' := [(rda, .inr (2, [.ref ta])), (ta, .inr (3, [.ref ts, .int (jI tn), .int (jI tp1'2), .int (jI tw1')])), (ts, .inl (cA, 400, .inl (jA tf))), (ba, .inr (0, [.ref bt, .ref bp, .ref bl, .ref bh, .ref bq, .ref br, .ref bd, .int (jI bg), .int (jI bf)])), (bt, .inl (cA, 31, .inl (jA ft))), (bl, .inl (cA, 248, .inl (jA fl))), (bh, .inl (cA, 248, .inl (jA fh))), (bq, .inl (cA, 124, .inl (jA fq))), (br, .inl (cA, 31, .inl (jA fr))), (bd, .inl (cA, 32, .inl (jA fd)))]) [0, 8, 9, 1, 2, 3, 4, 5, 6, 7] rfl
      have hD9 := hD.sub (ws' := [(rda, .inr (2, [.ref ta])), (ta, .inr (3, [.ref ts, .int (jI tn), .int (jI tp1'2), .int (jI tw1')])), (ts, .inl (cA, 400, .inl (jA tf))), (ba, .inr (0, [.ref bt, .ref bp, .ref bl, .ref bh, .ref bq, .ref br, .ref bd, .int (jI bg), .int (jI bf)])), (bt, .inl (cA, 31, .inl (jA ft))), (bl, .inl (cA, 248, .inl (jA fl))), (bh, .inl (cA, 248, .inl (jA fh))), (bq, .inl (cA, 124, .inl (jA fq))), (br, .inl (cA, 31, .inl (jA fr))), (bd, .inl (cA, 32, .inl (jA fd)))]) [0, 8, 9, 1, 2, 3, 4, 5, 6, 7] (by decide) rfl
      subst hAe
      subst hQ
      exact W.zret (v := jI r7) hx hb hr (by first | decide | exact jz (by omega)) (fun t ht hW => ⟨⟨_, (r7, tp1'2, tw1', ft, fl, fh, fq, fr, fd, bg, bf), rfl, ⟨rfl, Eq.trans (by rw [f_XR_row_s]; rw [← hwb]; try dsimp only; rw [if_pos c9_]; rw [← hwb5]; try dsimp only; rw [if_pos c47_]; rw [← hwb10]; try dsimp only; try rfl) rfl, show 0 ≤ r7 ∧ r7 ≤ 1 from by first | assumption | omega, show 0 ≤ tp1'2 ∧ tp1'2 ≤ tn from by first | assumption | omega, show ∀ i, 0 ≤ ft i ∧ ft i ≤ 30 from by first | assumption | omega, show ∀ i, 0 ≤ fl i ∧ fl i ≤ 100000 from by first | assumption | omega, show ∀ i, -1 ≤ fh i ∧ fh i ≤ 100000 from by first | assumption | omega, show ∀ i, -1 ≤ fq i ∧ fq i ≤ 999999 from by first | assumption | omega, show ∀ i, 0 ≤ fr i ∧ fr i < 2147483648 from by first | assumption | omega, show ∀ i, 0 ≤ fd i ∧ fd i ≤ 20 from by first | assumption | omega, show 0 ≤ bg ∧ bg < 2147483648 from by first | assumption | omega, show 0 ≤ bf ∧ bf < 2147483648 from by first | assumption | omega⟩, ⟨by rw [ht]; exact hP9, va_K.moved hW.alike hK, hD9⟩⟩, hS.F ht⟩) hS.2.2 dXR_row_83
    · refine lv_aload_n hx hb dXR_row_50 rfl (lv_at hl 0 rfl) ?_
      refine lv_aload_n hx hb dXR_row_51 rfl (lv_at hl 1 rfl) ?_
      refine jwVi (rest := []) (wr := [(bd, .inl (cA, 32, .inl (jA fd)))]) ⟨hx, hb, hml, hown, hts⟩ (c_XR_grade l dC dI cA _ rda ta ts tn tp1'2 tw tf ba bt bp bl bh bq br bd bg bf ft fl fh fq fr (by first | assumption | omega) (by first | assumption | omega) (by first | assumption | omega) (by first | assumption | omega) (by first | assumption | omega) (by first | assumption | omega) (by first | assumption | omega) (by first | assumption | omega) (by first | assumption | omega)) (cwV 1 hts (jG_V tw_211 tw_213 ts_3 tw_3 tw_214) rfl rfl rfl (by decide +kernel) (by rw [hR]; exact ⟨Nat.le_of_ble_eq_true rfl, Nat.le_of_ble_eq_true rfl⟩)) hK hP hD hS hA hN [0, 8, 9, 1, 2, 3, 4, 5, 6] [7] rfl rfl (by decide) (by decide) (by decide) 0 2 rfl rfl rfl rfl hl.1 rfl (Nat.le_of_ble_eq_true rfl) dXR_row_52 (by rw [hR]; exact ⟨Nat.le_of_ble_eq_true rfl, Nat.le_of_ble_eq_true rfl⟩) (fun v16 u15 H locs hwb17 hP hD hS => ?_)
      obtain ⟨r12, tp1'13, tw1'14, ft1', fl1', fh1', fq1', fr1', bg1'⟩ := u15
      try dsimp only at hwb17
      obtain ⟨er, hwb17, f18, f19, f20, f21, f22, f23, f24, f25⟩ := hwb17
      subst er
      have f18 : 0 ≤ r12 ∧ r12 ≤ 1 := f18
      have f19 : 0 ≤ tp1'13 ∧ tp1'13 ≤ tn := f19
      have f20 : ∀ i, 0 ≤ ft1' i ∧ ft1' i ≤ 30 := f20
      have f21 : ∀ i, 0 ≤ fl1' i ∧ fl1' i ≤ 100000 := f21
      have f22 : ∀ i, -1 ≤ fh1' i ∧ fh1' i ≤ 100000 := f22
      have f23 : ∀ i, -1 ≤ fq1' i ∧ fq1' i ≤ 999999 := f23
      have f24 : ∀ i, 0 ≤ fr1' i ∧ fr1' i < 2147483648 := f24
      have f25 : 0 ≤ bg1' ∧ bg1' < 2147483648 := f25
      have hP : va_P (dC, dI) vwCl [(bd, .inl (cA, 32, .inl (jA fd))), (rda, .inr (2, [.ref ta])), (ta, .inr (3, [.ref ts, .int (jI tn), .int (jI tp1'13), .int (jI tw1'14)])), (ts, .inl (cA, 400, .inl (jA tf))), (ba, .inr (0, [.ref bt, .ref bp, .ref bl, .ref bh, .ref bq, .ref br, .ref bd, .int (jI bg1'), .int (jI bf)])), (bt, .inl (cA, 31, .inl (jA ft1'))), (bl, .inl (cA, 248, .inl (jA fl1'))), (bh, .inl (cA, 248, .inl (jA fh1'))), (bq, .inl (cA, 124, .inl (jA fq1'))), (br, .inl (cA, 31, .inl (jA fr1')))] H := hP
      have hD : va_D A [(bd, .inl (cA, 32, .inl (jA fd))), (rda, .inr (2, [.ref ta])), (ta, .inr (3, [.ref ts, .int (jI tn), .int (jI tp1'13), .int (jI tw1'14)])), (ts, .inl (cA, 400, .inl (jA tf))), (ba, .inr (0, [.ref bt, .ref bp, .ref bl, .ref bh, .ref bq, .ref br, .ref bd, .int (jI bg1'), .int (jI bf)])), (bt, .inl (cA, 31, .inl (jA ft1'))), (bl, .inl (cA, 248, .inl (jA fl1'))), (bh, .inl (cA, 248, .inl (jA fh1'))), (bq, .inl (cA, 124, .inl (jA fq1'))), (br, .inl (cA, 31, .inl (jA fr1')))] := hD
      refine ji_if_eq (tgt := 74) hx hb dXR_row_55 (by decide) (by omega) (fun c55_ => ?_) (fun c55_ => ?_)
      · refine ji_iconst hx hb dXR_row_74 ?_
        have hP9 := hP.sub (ws' := [(rda, .inr (2, [.ref ta])), (ta, .inr (3, [.ref ts, .int (jI tn), .int (jI tp1'13), .int (jI tw1'14)])), (ts, .inl (cA, 400, .inl (jA tf))), (ba, .inr (0, [.ref bt, .ref bp, .ref bl, .ref bh, .ref bq, .ref br, .ref bd, .int (jI bg1'), .int (jI bf)])), (bt, .inl (cA, 31, .inl (jA ft1'))), (bl, .inl (cA, 248, .inl (jA fl1'))), (bh, .inl (cA, 248, .inl (jA fh1'))), (bq, .inl (cA, 124, .inl (jA fq1'))), (br, .inl (cA, 31, .inl (jA fr1'))), (bd, .inl (cA, 32, .inl (jA fd)))]) [1, 2, 3, 4, 5, 6, 7, 8, 9, 0] rfl
        have hD9 := hD.sub (ws' := [(rda, .inr (2, [.ref ta])), (ta, .inr (3, [.ref ts, .int (jI tn), .int (jI tp1'13), .int (jI tw1'14)])), (ts, .inl (cA, 400, .inl (jA tf))), (ba, .inr (0, [.ref bt, .ref bp, .ref bl, .ref bh, .ref bq, .ref br, .ref bd, .int (jI bg1'), .int (jI bf)])), (bt, .inl (cA, 31, .inl (jA ft1'))), (bl, .inl (cA, 248, .inl (jA fl1'))), (bh, .inl (cA, 248, .inl (jA fh1'))), (bq, .inl (cA, 124, .inl (jA fq1'))), (br, .inl (cA, 31, .inl (jA fr1'))), (bd, .inl (cA, 32, .inl (jA fd)))]) [1, 2, 3, 4, 5, 6, 7, 8, 9, 0] (by decide) rfl
        subst hAe
        subst hQ
        exact W.zret (v := jI 0) hx hb hr (by first | decide | exact jz (by omega)) (fun t ht hW => ⟨⟨_, (0, tp1'13, tw1'14, ft1', fl1', fh1', fq1', fr1', fd, bg1', bf), rfl, ⟨rfl, Eq.trans (by rw [f_XR_row_s]; rw [← hwb]; try dsimp only; rw [if_pos c9_]; rw [← hwb5]; try dsimp only; rw [if_neg c47_]; rw [← hwb17]; try dsimp only; rw [if_pos c55_]; try rfl) rfl, show 0 ≤ 0 ∧ 0 ≤ 1 from by first | assumption | omega, show 0 ≤ tp1'13 ∧ tp1'13 ≤ tn from by first | assumption | omega, show ∀ i, 0 ≤ ft1' i ∧ ft1' i ≤ 30 from by first | assumption | omega, show ∀ i, 0 ≤ fl1' i ∧ fl1' i ≤ 100000 from by first | assumption | omega, show ∀ i, -1 ≤ fh1' i ∧ fh1' i ≤ 100000 from by first | assumption | omega, show ∀ i, -1 ≤ fq1' i ∧ fq1' i ≤ 999999 from by first | assumption | omega, show ∀ i, 0 ≤ fr1' i ∧ fr1' i < 2147483648 from by first | assumption | omega, show ∀ i, 0 ≤ fd i ∧ fd i ≤ 20 from by first | assumption | omega, show 0 ≤ bg1' ∧ bg1' < 2147483648 from by first | assumption | omega, show 0 ≤ bf ∧ bf < 2147483648 from by first | assumption | omega⟩, ⟨by rw [ht]; exact hP9, va_K.moved hW.alike hK, hD9⟩⟩, hS.F ht⟩) hS.2.2 dXR_row_75
      · refine lv_aload_n hx hb dXR_row_58 rfl (lv_at hl 0 rfl) ?_
        refine va_get (D := (dC, dI)) (ci := 2) (v := .ref ta) (C := RXR) (T := TXR) (N := 1) hx hb hts (fun w h => jmem (inXR w h)) hown hK hP 1 rfl rfl 0 (by decide) (hts _ (jmem tw_50)) (fun _ h9 => h9) rfl dXR_row_59 ?_
        refine ji_bipush hx hb dXR_row_62 (by decide) ?_
        refine jwVi (rest := []) (wr := [(bd, .inl (cA, 32, .inl (jA fd))), (rda, .inr (2, [.ref ta])), (ba, .inr (0, [.ref bt, .ref bp, .ref bl, .ref bh, .ref bq, .ref br, .ref bd, .int (jI bg1'), .int (jI bf)])), (bt, .inl (cA, 31, .inl (jA ft1'))), (bl, .inl (cA, 248, .inl (jA fl1'))), (bh, .inl (cA, 248, .inl (jA fh1'))), (bq, .inl (cA, 124, .inl (jA fq1'))), (br, .inl (cA, 31, .inl (jA fr1')))]) ⟨hx, hb, hml, hown, hts⟩ (c_XT_take l dC dI cA _ ta ts tn tp1'13 tw1'14 tf 59 (by first | assumption | omega) (by first | assumption | omega) (by first | assumption | omega) (by first | assumption | omega) (by first | assumption | omega)) (cwV 1 hts (jG_V tw_182 tw_183 tw_184 tw_2 tw_185) rfl rfl rfl (by decide +kernel) (by rw [hR]; exact ⟨Nat.le_of_ble_eq_true rfl, Nat.le_of_ble_eq_true rfl⟩)) hK hP hD hS hA hN [2, 3] [0, 1, 4, 5, 6, 7, 8, 9] rfl rfl (by decide) (by decide) (by decide) 2 3 rfl rfl rfl rfl hl.1 rfl (Nat.le_of_ble_eq_true rfl) dXR_row_64 (by rw [hR]; exact ⟨Nat.le_of_ble_eq_true rfl, Nat.le_of_ble_eq_true rfl⟩) (fun v30 u29 H locs hwb31 hP hD hS => ?_)
        obtain ⟨r26, tp1'27, tw1'28⟩ := u29
        try dsimp only at hwb31
        obtain ⟨er, hwb31⟩ := hwb31
        subst er
        have hP : va_P (dC, dI) vwCl [(bd, .inl (cA, 32, .inl (jA fd))), (rda, .inr (2, [.ref ta])), (ba, .inr (0, [.ref bt, .ref bp, .ref bl, .ref bh, .ref bq, .ref br, .ref bd, .int (jI bg1'), .int (jI bf)])), (bt, .inl (cA, 31, .inl (jA ft1'))), (bl, .inl (cA, 248, .inl (jA fl1'))), (bh, .inl (cA, 248, .inl (jA fh1'))), (bq, .inl (cA, 124, .inl (jA fq1'))), (br, .inl (cA, 31, .inl (jA fr1'))), (ta, .inr (3, [.ref ts, .int (jI tn), .int (jI tp1'27), .int (jI tw1'28)])), (ts, .inl (cA, 400, .inl (jA tf)))] H := hP
        have hD : va_D A [(bd, .inl (cA, 32, .inl (jA fd))), (rda, .inr (2, [.ref ta])), (ba, .inr (0, [.ref bt, .ref bp, .ref bl, .ref bh, .ref bq, .ref br, .ref bd, .int (jI bg1'), .int (jI bf)])), (bt, .inl (cA, 31, .inl (jA ft1'))), (bl, .inl (cA, 248, .inl (jA fl1'))), (bh, .inl (cA, 248, .inl (jA fh1'))), (bq, .inl (cA, 124, .inl (jA fq1'))), (br, .inl (cA, 31, .inl (jA fr1'))), (ta, .inr (3, [.ref ts, .int (jI tn), .int (jI tp1'27), .int (jI tw1'28)])), (ts, .inl (cA, 400, .inl (jA tf)))] := hD
        have f32 := f_XT_take_b tn tp1'13 tw1'14 tf 59 (by first | assumption | omega) (by first | assumption | omega) (by first | assumption | omega) (by first | assumption | omega) (by first | assumption | omega)
        rw [← hwb31] at f32; try dsimp only at f32
        refine ji_if_eq (tgt := 74) hx hb dXR_row_67 (by decide) (by omega) (fun c67_ => ?_) (fun c67_ => ?_)
        · refine ji_iconst hx hb dXR_row_74 ?_
          have hP9 := hP.sub (ws' := [(rda, .inr (2, [.ref ta])), (ta, .inr (3, [.ref ts, .int (jI tn), .int (jI tp1'27), .int (jI tw1'28)])), (ts, .inl (cA, 400, .inl (jA tf))), (ba, .inr (0, [.ref bt, .ref bp, .ref bl, .ref bh, .ref bq, .ref br, .ref bd, .int (jI bg1'), .int (jI bf)])), (bt, .inl (cA, 31, .inl (jA ft1'))), (bl, .inl (cA, 248, .inl (jA fl1'))), (bh, .inl (cA, 248, .inl (jA fh1'))), (bq, .inl (cA, 124, .inl (jA fq1'))), (br, .inl (cA, 31, .inl (jA fr1'))), (bd, .inl (cA, 32, .inl (jA fd)))]) [1, 8, 9, 2, 3, 4, 5, 6, 7, 0] rfl
          have hD9 := hD.sub (ws' := [(rda, .inr (2, [.ref ta])), (ta, .inr (3, [.ref ts, .int (jI tn), .int (jI tp1'27), .int (jI tw1'28)])), (ts, .inl (cA, 400, .inl (jA tf))), (ba, .inr (0, [.ref bt, .ref bp, .ref bl, .ref bh, .ref bq, .ref br, .ref bd, .int (jI bg1'), .int (jI bf)])), (bt, .inl (cA, 31, .inl (jA ft1'))), (bl, .inl (cA, 248, .inl (jA fl1'))), (bh, .inl (cA, 248, .inl (jA fh1'))), (bq, .inl (cA, 124, .inl (jA fq1'))), (br, .inl (cA, 31, .inl (jA fr1'))), (bd, .inl (cA, 32, .inl (jA fd)))]) [1, 8, 9, 2, 3, 4, 5, 6, 7, 0] (by decide) rfl
          subst hAe
          subst hQ
          exact W.zret (v := jI 0) hx hb hr (by first | decide | exact jz (by omega)) (fun t ht hW => ⟨⟨_, (0, tp1'27, tw1'28, ft1', fl1', fh1', fq1', fr1', fd, bg1', bf), rfl, ⟨rfl, Eq.trans (by rw [f_XR_row_s]; rw [← hwb]; try dsimp only; rw [if_pos c9_]; rw [← hwb5]; try dsimp only; rw [if_neg c47_]; rw [← hwb17]; try dsimp only; rw [if_neg c55_]; rw [← hwb31]; try dsimp only; rw [if_pos c67_]; try rfl) rfl, show 0 ≤ 0 ∧ 0 ≤ 1 from by first | assumption | omega, show 0 ≤ tp1'27 ∧ tp1'27 ≤ tn from by first | assumption | omega, show ∀ i, 0 ≤ ft1' i ∧ ft1' i ≤ 30 from by first | assumption | omega, show ∀ i, 0 ≤ fl1' i ∧ fl1' i ≤ 100000 from by first | assumption | omega, show ∀ i, -1 ≤ fh1' i ∧ fh1' i ≤ 100000 from by first | assumption | omega, show ∀ i, -1 ≤ fq1' i ∧ fq1' i ≤ 999999 from by first | assumption | omega, show ∀ i, 0 ≤ fr1' i ∧ fr1' i < 2147483648 from by first | assumption | omega, show ∀ i, 0 ≤ fd i ∧ fd i ≤ 20 from by first | assumption | omega, show 0 ≤ bg1' ∧ bg1' < 2147483648 from by first | assumption | omega, show 0 ≤ bf ∧ bf < 2147483648 from by first | assumption | omega⟩, ⟨by rw [ht]; exact hP9, va_K.moved hW.alike hK, hD9⟩⟩, hS.F ht⟩) hS.2.2 dXR_row_75
        · refine ji_iconst hx hb dXR_row_70 ?_
          refine lv_goto (tgt := 75) hx hb dXR_row_71 (by decide) ?_
          have hP9 := hP.sub (ws' := [(rda, .inr (2, [.ref ta])), (ta, .inr (3, [.ref ts, .int (jI tn), .int (jI tp1'27), .int (jI tw1'28)])), (ts, .inl (cA, 400, .inl (jA tf))), (ba, .inr (0, [.ref bt, .ref bp, .ref bl, .ref bh, .ref bq, .ref br, .ref bd, .int (jI bg1'), .int (jI bf)])), (bt, .inl (cA, 31, .inl (jA ft1'))), (bl, .inl (cA, 248, .inl (jA fl1'))), (bh, .inl (cA, 248, .inl (jA fh1'))), (bq, .inl (cA, 124, .inl (jA fq1'))), (br, .inl (cA, 31, .inl (jA fr1'))), (bd, .inl (cA, 32, .inl (jA fd)))]) [1, 8, 9, 2, 3, 4, 5, 6, 7, 0] rfl
          have hD9 := hD.sub (ws' := [(rda, .inr (2, [.ref ta])), (ta, .inr (3, [.ref ts, .int (jI tn), .int (jI tp1'27), .int (jI tw1'28)])), (ts, .inl (cA, 400, .inl (jA tf))), (ba, .inr (0, [.ref bt, .ref bp, .ref bl, .ref bh, .ref bq, .ref br, .ref bd, .int (jI bg1'), .int (jI bf)])), (bt, .inl (cA, 31, .inl (jA ft1'))), (bl, .inl (cA, 248, .inl (jA fl1'))), (bh, .inl (cA, 248, .inl (jA fh1'))), (bq, .inl (cA, 124, .inl (jA fq1'))), (br, .inl (cA, 31, .inl (jA fr1'))), (bd, .inl (cA, 32, .inl (jA fd)))]) [1, 8, 9, 2, 3, 4, 5, 6, 7, 0] (by decide) rfl
          subst hAe
          subst hQ
          exact W.zret (v := jI 1) hx hb hr (by first | decide | exact jz (by omega)) (fun t ht hW => ⟨⟨_, (1, tp1'27, tw1'28, ft1', fl1', fh1', fq1', fr1', fd, bg1', bf), rfl, ⟨rfl, Eq.trans (by rw [f_XR_row_s]; rw [← hwb]; try dsimp only; rw [if_pos c9_]; rw [← hwb5]; try dsimp only; rw [if_neg c47_]; rw [← hwb17]; try dsimp only; rw [if_neg c55_]; rw [← hwb31]; try dsimp only; rw [if_neg c67_]; try rfl) rfl, show 0 ≤ 1 ∧ 1 ≤ 1 from by first | assumption | omega, show 0 ≤ tp1'27 ∧ tp1'27 ≤ tn from by first | assumption | omega, show ∀ i, 0 ≤ ft1' i ∧ ft1' i ≤ 30 from by first | assumption | omega, show ∀ i, 0 ≤ fl1' i ∧ fl1' i ≤ 100000 from by first | assumption | omega, show ∀ i, -1 ≤ fh1' i ∧ fh1' i ≤ 100000 from by first | assumption | omega, show ∀ i, -1 ≤ fq1' i ∧ fq1' i ≤ 999999 from by first | assumption | omega, show ∀ i, 0 ≤ fr1' i ∧ fr1' i < 2147483648 from by first | assumption | omega, show ∀ i, 0 ≤ fd i ∧ fd i ≤ 20 from by first | assumption | omega, show 0 ≤ bg1' ∧ bg1' < 2147483648 from by first | assumption | omega, show 0 ≤ bf ∧ bf < 2147483648 from by first | assumption | omega⟩, ⟨by rw [ht]; exact hP9, va_K.moved hW.alike hK, hD9⟩⟩, hS.F ht⟩) hS.2.2 dXR_row_75
  · refine lv_aload_n hx hb dXR_row_12 rfl (lv_at hl 0 rfl) ?_
    refine lv_aload_n hx hb dXR_row_13 rfl (lv_at hl 1 rfl) ?_
    refine jwVi (rest := []) (wr := [(bt, .inl (cA, 31, .inl (jA ft))), (bl, .inl (cA, 248, .inl (jA fl))), (bh, .inl (cA, 248, .inl (jA fh))), (bq, .inl (cA, 124, .inl (jA fq))), (br, .inl (cA, 31, .inl (jA fr)))]) ⟨hx, hb, hml, hown, hts⟩ (c_XR_formula l dC dI cA _ rda ta ts tn tp1' tw tf ba bt bp bl bh bq br bd bg bf fd (by first | assumption | omega) (by first | assumption | omega) (by first | assumption | omega) (by first | assumption | omega) (by first | assumption | omega)) (cwV 1 hts (jG_V tw_155 tw_157 ts_1 tw_3 tw_158) rfl rfl rfl (by decide +kernel) (by rw [hR]; exact ⟨Nat.le_of_ble_eq_true rfl, Nat.le_of_ble_eq_true rfl⟩)) hK hP hD hS hA hN [0, 8, 9, 1, 7] [2, 3, 4, 5, 6] rfl rfl (by decide) (by decide) (by decide) 0 2 rfl rfl rfl rfl hl.1 rfl (Nat.le_of_ble_eq_true rfl) dXR_row_14 (by rw [hR]; exact ⟨Nat.le_of_ble_eq_true rfl, Nat.le_of_ble_eq_true rfl⟩) (fun v37 u36 H locs hwb38 hP hD hS => ?_)
    obtain ⟨r33, tp1'34, tw1'35, fd1', bf1'⟩ := u36
    try dsimp only at hwb38
    obtain ⟨er, hwb38, f39, f40, f41, f42⟩ := hwb38
    subst er
    have f39 : 0 ≤ r33 ∧ r33 ≤ 1 := f39
    have f40 : 0 ≤ tp1'34 ∧ tp1'34 ≤ tn := f40
    have f41 : ∀ i, 0 ≤ fd1' i ∧ fd1' i ≤ 20 := f41
    have f42 : 0 ≤ bf1' ∧ bf1' < 2147483648 := f42
    have hP : va_P (dC, dI) vwCl [(bt, .inl (cA, 31, .inl (jA ft))), (bl, .inl (cA, 248, .inl (jA fl))), (bh, .inl (cA, 248, .inl (jA fh))), (bq, .inl (cA, 124, .inl (jA fq))), (br, .inl (cA, 31, .inl (jA fr))), (rda, .inr (2, [.ref ta])), (ta, .inr (3, [.ref ts, .int (jI tn), .int (jI tp1'34), .int (jI tw1'35)])), (ts, .inl (cA, 400, .inl (jA tf))), (ba, .inr (0, [.ref bt, .ref bp, .ref bl, .ref bh, .ref bq, .ref br, .ref bd, .int (jI bg), .int (jI bf1')])), (bd, .inl (cA, 32, .inl (jA fd1')))] H := hP
    have hD : va_D A [(bt, .inl (cA, 31, .inl (jA ft))), (bl, .inl (cA, 248, .inl (jA fl))), (bh, .inl (cA, 248, .inl (jA fh))), (bq, .inl (cA, 124, .inl (jA fq))), (br, .inl (cA, 31, .inl (jA fr))), (rda, .inr (2, [.ref ta])), (ta, .inr (3, [.ref ts, .int (jI tn), .int (jI tp1'34), .int (jI tw1'35)])), (ts, .inl (cA, 400, .inl (jA tf))), (ba, .inr (0, [.ref bt, .ref bp, .ref bl, .ref bh, .ref bq, .ref br, .ref bd, .int (jI bg), .int (jI bf1')])), (bd, .inl (cA, 32, .inl (jA fd1')))] := hD
    refine ji_if_eq (tgt := 36) hx hb dXR_row_17 (by decide) (by omega) (fun c17_ => ?_) (fun c17_ => ?_)
    · refine ji_iconst hx hb dXR_row_36 ?_
      have hP9 := hP.sub (ws' := [(rda, .inr (2, [.ref ta])), (ta, .inr (3, [.ref ts, .int (jI tn), .int (jI tp1'34), .int (jI tw1'35)])), (ts, .inl (cA, 400, .inl (jA tf))), (ba, .inr (0, [.ref bt, .ref bp, .ref bl, .ref bh, .ref bq, .ref br, .ref bd, .int (jI bg), .int (jI bf1')])), (bt, .inl (cA, 31, .inl (jA ft))), (bl, .inl (cA, 248, .inl (jA fl))), (bh, .inl (cA, 248, .inl (jA fh))), (bq, .inl (cA, 124, .inl (jA fq))), (br, .inl (cA, 31, .inl (jA fr))), (bd, .inl (cA, 32, .inl (jA fd1')))]) [5, 6, 7, 8, 0, 1, 2, 3, 4, 9] rfl
      have hD9 := hD.sub (ws' := [(rda, .inr (2, [.ref ta])), (ta, .inr (3, [.ref ts, .int (jI tn), .int (jI tp1'34), .int (jI tw1'35)])), (ts, .inl (cA, 400, .inl (jA tf))), (ba, .inr (0, [.ref bt, .ref bp, .ref bl, .ref bh, .ref bq, .ref br, .ref bd, .int (jI bg), .int (jI bf1')])), (bt, .inl (cA, 31, .inl (jA ft))), (bl, .inl (cA, 248, .inl (jA fl))), (bh, .inl (cA, 248, .inl (jA fh))), (bq, .inl (cA, 124, .inl (jA fq))), (br, .inl (cA, 31, .inl (jA fr))), (bd, .inl (cA, 32, .inl (jA fd1')))]) [5, 6, 7, 8, 0, 1, 2, 3, 4, 9] (by decide) rfl
      subst hAe
      subst hQ
      exact W.zret (v := jI 0) hx hb hr (by first | decide | exact jz (by omega)) (fun t ht hW => ⟨⟨_, (0, tp1'34, tw1'35, ft, fl, fh, fq, fr, fd1', bg, bf1'), rfl, ⟨rfl, Eq.trans (by rw [f_XR_row_s]; rw [← hwb]; try dsimp only; rw [if_neg c9_]; rw [← hwb38]; try dsimp only; rw [if_pos c17_]; try rfl) rfl, show 0 ≤ 0 ∧ 0 ≤ 1 from by first | assumption | omega, show 0 ≤ tp1'34 ∧ tp1'34 ≤ tn from by first | assumption | omega, show ∀ i, 0 ≤ ft i ∧ ft i ≤ 30 from by first | assumption | omega, show ∀ i, 0 ≤ fl i ∧ fl i ≤ 100000 from by first | assumption | omega, show ∀ i, -1 ≤ fh i ∧ fh i ≤ 100000 from by first | assumption | omega, show ∀ i, -1 ≤ fq i ∧ fq i ≤ 999999 from by first | assumption | omega, show ∀ i, 0 ≤ fr i ∧ fr i < 2147483648 from by first | assumption | omega, show ∀ i, 0 ≤ fd1' i ∧ fd1' i ≤ 20 from by first | assumption | omega, show 0 ≤ bg ∧ bg < 2147483648 from by first | assumption | omega, show 0 ≤ bf1' ∧ bf1' < 2147483648 from by first | assumption | omega⟩, ⟨by rw [ht]; exact hP9, va_K.moved hW.alike hK, hD9⟩⟩, hS.F ht⟩) hS.2.2 dXR_row_37
    · refine lv_aload_n hx hb dXR_row_20 rfl (lv_at hl 0 rfl) ?_
      refine va_get (D := (dC, dI)) (ci := 2) (v := .ref ta) (C := RXR) (T := TXR) (N := 1) hx hb hts (fun w h => jmem (inXR w h)) hown hK hP 5 rfl rfl 0 (by decide) (hts _ (jmem tw_50)) (fun _ h9 => h9) rfl dXR_row_21 ?_
      refine ji_bipush hx hb dXR_row_24 (by decide) ?_
      refine jwVi (rest := []) (wr := [(bt, .inl (cA, 31, .inl (jA ft))), (bl, .inl (cA, 248, .inl (jA fl))), (bh, .inl (cA, 248, .inl (jA fh))), (bq, .inl (cA, 124, .inl (jA fq))), (br, .inl (cA, 31, .inl (jA fr))), (rda, .inr (2, [.ref ta])), (ba, .inr (0, [.ref bt, .ref bp, .ref bl, .ref bh, .ref bq, .ref br, .ref bd, .int (jI bg), .int (jI bf1')])), (bd, .inl (cA, 32, .inl (jA fd1')))]) ⟨hx, hb, hml, hown, hts⟩ (c_XT_take l dC dI cA _ ta ts tn tp1'34 tw1'35 tf 59 (by first | assumption | omega) (by first | assumption | omega) (by first | assumption | omega) (by first | assumption | omega) (by first | assumption | omega)) (cwV 1 hts (jG_V tw_182 tw_183 tw_184 tw_2 tw_185) rfl rfl rfl (by decide +kernel) (by rw [hR]; exact ⟨Nat.le_of_ble_eq_true rfl, Nat.le_of_ble_eq_true rfl⟩)) hK hP hD hS hA hN [6, 7] [0, 1, 2, 3, 4, 5, 8, 9] rfl rfl (by decide) (by decide) (by decide) 6 3 rfl rfl rfl rfl hl.1 rfl (Nat.le_of_ble_eq_true rfl) dXR_row_26 (by rw [hR]; exact ⟨Nat.le_of_ble_eq_true rfl, Nat.le_of_ble_eq_true rfl⟩) (fun v47 u46 H locs hwb48 hP hD hS => ?_)
      obtain ⟨r43, tp1'44, tw1'45⟩ := u46
      try dsimp only at hwb48
      obtain ⟨er, hwb48⟩ := hwb48
      subst er
      have hP : va_P (dC, dI) vwCl [(bt, .inl (cA, 31, .inl (jA ft))), (bl, .inl (cA, 248, .inl (jA fl))), (bh, .inl (cA, 248, .inl (jA fh))), (bq, .inl (cA, 124, .inl (jA fq))), (br, .inl (cA, 31, .inl (jA fr))), (rda, .inr (2, [.ref ta])), (ba, .inr (0, [.ref bt, .ref bp, .ref bl, .ref bh, .ref bq, .ref br, .ref bd, .int (jI bg), .int (jI bf1')])), (bd, .inl (cA, 32, .inl (jA fd1'))), (ta, .inr (3, [.ref ts, .int (jI tn), .int (jI tp1'44), .int (jI tw1'45)])), (ts, .inl (cA, 400, .inl (jA tf)))] H := hP
      have hD : va_D A [(bt, .inl (cA, 31, .inl (jA ft))), (bl, .inl (cA, 248, .inl (jA fl))), (bh, .inl (cA, 248, .inl (jA fh))), (bq, .inl (cA, 124, .inl (jA fq))), (br, .inl (cA, 31, .inl (jA fr))), (rda, .inr (2, [.ref ta])), (ba, .inr (0, [.ref bt, .ref bp, .ref bl, .ref bh, .ref bq, .ref br, .ref bd, .int (jI bg), .int (jI bf1')])), (bd, .inl (cA, 32, .inl (jA fd1'))), (ta, .inr (3, [.ref ts, .int (jI tn), .int (jI tp1'44), .int (jI tw1'45)])), (ts, .inl (cA, 400, .inl (jA tf)))] := hD
      have f49 := f_XT_take_b tn tp1'34 tw1'35 tf 59 (by first | assumption | omega) (by first | assumption | omega) (by first | assumption | omega) (by first | assumption | omega) (by first | assumption | omega)
      rw [← hwb48] at f49; try dsimp only at f49
      refine ji_if_eq (tgt := 36) hx hb dXR_row_29 (by decide) (by omega) (fun c29_ => ?_) (fun c29_ => ?_)
      · refine ji_iconst hx hb dXR_row_36 ?_
        have hP9 := hP.sub (ws' := [(rda, .inr (2, [.ref ta])), (ta, .inr (3, [.ref ts, .int (jI tn), .int (jI tp1'44), .int (jI tw1'45)])), (ts, .inl (cA, 400, .inl (jA tf))), (ba, .inr (0, [.ref bt, .ref bp, .ref bl, .ref bh, .ref bq, .ref br, .ref bd, .int (jI bg), .int (jI bf1')])), (bt, .inl (cA, 31, .inl (jA ft))), (bl, .inl (cA, 248, .inl (jA fl))), (bh, .inl (cA, 248, .inl (jA fh))), (bq, .inl (cA, 124, .inl (jA fq))), (br, .inl (cA, 31, .inl (jA fr))), (bd, .inl (cA, 32, .inl (jA fd1')))]) [5, 8, 9, 6, 0, 1, 2, 3, 4, 7] rfl
        have hD9 := hD.sub (ws' := [(rda, .inr (2, [.ref ta])), (ta, .inr (3, [.ref ts, .int (jI tn), .int (jI tp1'44), .int (jI tw1'45)])), (ts, .inl (cA, 400, .inl (jA tf))), (ba, .inr (0, [.ref bt, .ref bp, .ref bl, .ref bh, .ref bq, .ref br, .ref bd, .int (jI bg), .int (jI bf1')])), (bt, .inl (cA, 31, .inl (jA ft))), (bl, .inl (cA, 248, .inl (jA fl))), (bh, .inl (cA, 248, .inl (jA fh))), (bq, .inl (cA, 124, .inl (jA fq))), (br, .inl (cA, 31, .inl (jA fr))), (bd, .inl (cA, 32, .inl (jA fd1')))]) [5, 8, 9, 6, 0, 1, 2, 3, 4, 7] (by decide) rfl
        subst hAe
        subst hQ
        exact W.zret (v := jI 0) hx hb hr (by first | decide | exact jz (by omega)) (fun t ht hW => ⟨⟨_, (0, tp1'44, tw1'45, ft, fl, fh, fq, fr, fd1', bg, bf1'), rfl, ⟨rfl, Eq.trans (by rw [f_XR_row_s]; rw [← hwb]; try dsimp only; rw [if_neg c9_]; rw [← hwb38]; try dsimp only; rw [if_neg c17_]; rw [← hwb48]; try dsimp only; rw [if_pos c29_]; try rfl) rfl, show 0 ≤ 0 ∧ 0 ≤ 1 from by first | assumption | omega, show 0 ≤ tp1'44 ∧ tp1'44 ≤ tn from by first | assumption | omega, show ∀ i, 0 ≤ ft i ∧ ft i ≤ 30 from by first | assumption | omega, show ∀ i, 0 ≤ fl i ∧ fl i ≤ 100000 from by first | assumption | omega, show ∀ i, -1 ≤ fh i ∧ fh i ≤ 100000 from by first | assumption | omega, show ∀ i, -1 ≤ fq i ∧ fq i ≤ 999999 from by first | assumption | omega, show ∀ i, 0 ≤ fr i ∧ fr i < 2147483648 from by first | assumption | omega, show ∀ i, 0 ≤ fd1' i ∧ fd1' i ≤ 20 from by first | assumption | omega, show 0 ≤ bg ∧ bg < 2147483648 from by first | assumption | omega, show 0 ≤ bf1' ∧ bf1' < 2147483648 from by first | assumption | omega⟩, ⟨by rw [ht]; exact hP9, va_K.moved hW.alike hK, hD9⟩⟩, hS.F ht⟩) hS.2.2 dXR_row_37
      · refine ji_iconst hx hb dXR_row_32 ?_
        refine lv_goto (tgt := 37) hx hb dXR_row_33 (by decide) ?_
        have hP9 := hP.sub (ws' := [(rda, .inr (2, [.ref ta])), (ta, .inr (3, [.ref ts, .int (jI tn), .int (jI tp1'44), .int (jI tw1'45)])), (ts, .inl (cA, 400, .inl (jA tf))), (ba, .inr (0, [.ref bt, .ref bp, .ref bl, .ref bh, .ref bq, .ref br, .ref bd, .int (jI bg), .int (jI bf1')])), (bt, .inl (cA, 31, .inl (jA ft))), (bl, .inl (cA, 248, .inl (jA fl))), (bh, .inl (cA, 248, .inl (jA fh))), (bq, .inl (cA, 124, .inl (jA fq))), (br, .inl (cA, 31, .inl (jA fr))), (bd, .inl (cA, 32, .inl (jA fd1')))]) [5, 8, 9, 6, 0, 1, 2, 3, 4, 7] rfl
        have hD9 := hD.sub (ws' := [(rda, .inr (2, [.ref ta])), (ta, .inr (3, [.ref ts, .int (jI tn), .int (jI tp1'44), .int (jI tw1'45)])), (ts, .inl (cA, 400, .inl (jA tf))), (ba, .inr (0, [.ref bt, .ref bp, .ref bl, .ref bh, .ref bq, .ref br, .ref bd, .int (jI bg), .int (jI bf1')])), (bt, .inl (cA, 31, .inl (jA ft))), (bl, .inl (cA, 248, .inl (jA fl))), (bh, .inl (cA, 248, .inl (jA fh))), (bq, .inl (cA, 124, .inl (jA fq))), (br, .inl (cA, 31, .inl (jA fr))), (bd, .inl (cA, 32, .inl (jA fd1')))]) [5, 8, 9, 6, 0, 1, 2, 3, 4, 7] (by decide) rfl
        subst hAe
        subst hQ
        exact W.zret (v := jI 1) hx hb hr (by first | decide | exact jz (by omega)) (fun t ht hW => ⟨⟨_, (1, tp1'44, tw1'45, ft, fl, fh, fq, fr, fd1', bg, bf1'), rfl, ⟨rfl, Eq.trans (by rw [f_XR_row_s]; rw [← hwb]; try dsimp only; rw [if_neg c9_]; rw [← hwb38]; try dsimp only; rw [if_neg c17_]; rw [← hwb48]; try dsimp only; rw [if_neg c29_]; try rfl) rfl, show 0 ≤ 1 ∧ 1 ≤ 1 from by first | assumption | omega, show 0 ≤ tp1'44 ∧ tp1'44 ≤ tn from by first | assumption | omega, show ∀ i, 0 ≤ ft i ∧ ft i ≤ 30 from by first | assumption | omega, show ∀ i, 0 ≤ fl i ∧ fl i ≤ 100000 from by first | assumption | omega, show ∀ i, -1 ≤ fh i ∧ fh i ≤ 100000 from by first | assumption | omega, show ∀ i, -1 ≤ fq i ∧ fq i ≤ 999999 from by first | assumption | omega, show ∀ i, 0 ≤ fr i ∧ fr i < 2147483648 from by first | assumption | omega, show ∀ i, 0 ≤ fd1' i ∧ fd1' i ≤ 20 from by first | assumption | omega, show 0 ≤ bg ∧ bg < 2147483648 from by first | assumption | omega, show 0 ≤ bf1' ∧ bf1' < 2147483648 from by first | assumption | omega⟩, ⟨by rw [ht]; exact hP9, va_K.moved hW.alike hK, hD9⟩⟩, hS.F ht⟩) hS.2.2 dXR_row_37
noncomputable def g_XR_text_L9 (tn : Int) (tp : Int) (tw : Int) (tf : Int → Int) (bg : Int) (bf : Int) (ft : Int → Int) (fl : Int → Int) (fh : Int → Int) (fq : Int → Int) (fr : Int → Int) (fd : Int → Int) : Nat → Int → Int → Int → (Int → Int) → (Int → Int) → (Int → Int) → (Int → Int) → (Int → Int) → (Int → Int) → Int → Int → Int × Int × Int × (Int → Int) × (Int → Int) × (Int → Int) × (Int → Int) × (Int → Int) × (Int → Int) × Int × Int
  | 0, _, _, _, _, _, _, _, _, _, _, _ => (0, 0, 0, fun _ => 0, fun _ => 0, fun _ => 0, fun _ => 0, fun _ => 0, fun _ => 0, 0, 0)
  | n9 + 1, k, q, w, yt, yl, yh, yq, yr, yd, yg, yf =>
    if k < 400 then
      match f_XT_next tn q w tf with
      | (r, tp1') =>
        if r = (-1) then
          (1, tp1', w, yt, yl, yh, yq, yr, yd, yg, yf)
        else
          match f_XR_row tn tp1' w tf yg yf yt yl yh yq yr yd with
          | (r3, tp1'4, tw1', ft1', fl1', fh1', fq1', fr1', fd1', bg1', bf1') =>
            if r3 = 0 then
              (0, tp1'4, tw1', ft1', fl1', fh1', fq1', fr1', fd1', bg1', bf1')
            else
              g_XR_text_L9 tn tp tw tf bg bf ft fl fh fq fr fd n9 (k + 1) tp1'4 tw1' ft1' fl1' fh1' fq1' fr1' fd1' bg1' bf1'
    else
      (1, q, w, yt, yl, yh, yq, yr, yd, yg, yf)
noncomputable def f_XR_text_L9 : Int → Int → Int → (Int → Int) → Int → Int → (Int → Int) → (Int → Int) → (Int → Int) → (Int → Int) → (Int → Int) → (Int → Int) → Nat → Int → Int → Int → (Int → Int) → (Int → Int) → (Int → Int) → (Int → Int) → (Int → Int) → (Int → Int) → Int → Int → Int × Int × Int × (Int → Int) × (Int → Int) × (Int → Int) × (Int → Int) × (Int → Int) × (Int → Int) × Int × Int := jopq g_XR_text_L9
theorem f_XR_text_L9_q : f_XR_text_L9 = g_XR_text_L9 := jopq_eq _
theorem f_XR_text_L9_s (tn : Int) (tp : Int) (tw : Int) (tf : Int → Int) (bg : Int) (bf : Int) (ft : Int → Int) (fl : Int → Int) (fh : Int → Int) (fq : Int → Int) (fr : Int → Int) (fd : Int → Int) (n9 : Nat) (k : Int) (q : Int) (w : Int) (yt : Int → Int) (yl : Int → Int) (yh : Int → Int) (yq : Int → Int) (yr : Int → Int) (yd : Int → Int) (yg : Int) (yf : Int) : f_XR_text_L9 tn tp tw tf bg bf ft fl fh fq fr fd (n9 + 1) k q w yt yl yh yq yr yd yg yf = (
    if k < 400 then
      match f_XT_next tn q w tf with
      | (r, tp1') =>
        if r = (-1) then
          (1, tp1', w, yt, yl, yh, yq, yr, yd, yg, yf)
        else
          match f_XR_row tn tp1' w tf yg yf yt yl yh yq yr yd with
          | (r3, tp1'4, tw1', ft1', fl1', fh1', fq1', fr1', fd1', bg1', bf1') =>
            if r3 = 0 then
              (0, tp1'4, tw1', ft1', fl1', fh1', fq1', fr1', fd1', bg1', bf1')
            else
              f_XR_text_L9 tn tp tw tf bg bf ft fl fh fq fr fd n9 (k + 1) tp1'4 tw1' ft1' fl1' fh1' fq1' fr1' fd1' bg1' bf1'
    else
      (1, q, w, yt, yl, yh, yq, yr, yd, yg, yf)
  : Int × Int × Int × (Int → Int) × (Int → Int) × (Int → Int) × (Int → Int) × (Int → Int) × (Int → Int) × Int × Int) := by rw [f_XR_text_L9_q]; rfl
noncomputable def g_XR_text (tn : Int) (tp : Int) (tw : Int) (tf : Int → Int) (bg : Int) (bf : Int) (ft : Int → Int) (fl : Int → Int) (fh : Int → Int) (fq : Int → Int) (fr : Int → Int) (fd : Int → Int) : Int × Int × Int × (Int → Int) × (Int → Int) × (Int → Int) × (Int → Int) × (Int → Int) × (Int → Int) × Int × Int :=
  f_XR_text_L9 tn tp tw tf bg bf ft fl fh fq fr fd (Int.toNat (400 - 0) + 1) 0 (f_XT_rewind tn tp tw tf) tw ft fl fh fq fr fd bg bf
noncomputable def f_XR_text : Int → Int → Int → (Int → Int) → Int → Int → (Int → Int) → (Int → Int) → (Int → Int) → (Int → Int) → (Int → Int) → (Int → Int) → Int × Int × Int × (Int → Int) × (Int → Int) × (Int → Int) × (Int → Int) × (Int → Int) × (Int → Int) × Int × Int := jopq g_XR_text
theorem f_XR_text_q : f_XR_text = g_XR_text := jopq_eq _
theorem f_XR_text_s (tn : Int) (tp : Int) (tw : Int) (tf : Int → Int) (bg : Int) (bf : Int) (ft : Int → Int) (fl : Int → Int) (fh : Int → Int) (fq : Int → Int) (fr : Int → Int) (fd : Int → Int) : f_XR_text tn tp tw tf bg bf ft fl fh fq fr fd = (
    f_XR_text_L9 tn tp tw tf bg bf ft fl fh fq fr fd (Int.toNat (400 - 0) + 1) 0 (f_XT_rewind tn tp tw tf) tw ft fl fh fq fr fd bg bf
  : Int × Int × Int × (Int → Int) × (Int → Int) × (Int → Int) × (Int → Int) × (Int → Int) × (Int → Int) × Int × Int) := by rw [f_XR_text_q]; rfl
set_option maxHeartbeats 4000000 in
set_option maxRecDepth 100000 in
theorem c_XR_text (l : Launch) (dC : Nat → ClassId) (dI : Nat → Nat → Nat) (cA : ClassId) (sz : Nat) (rda : Nat) (ta : Nat) (ts : Nat) (tn : Int) (tp : Int) (tw : Int) (tf : Int → Int) (ba : Nat) (bt : Nat) (bp : Nat) (bl : Nat) (bh : Nat) (bq : Nat) (br : Nat) (bd : Nat) (bg : Int) (bf : Int) (ft : Int → Int) (fl : Int → Int) (fh : Int → Int) (fq : Int → Int) (fr : Int → Int) (fd : Int → Int) (hn : 0 ≤ tn ∧ tn ≤ 400) (hf : ∀ i, 0 ≤ tf i ∧ tf i < 256) (hbt : ∀ i, 0 ≤ ft i ∧ ft i ≤ 30) (hbl : ∀ i, 0 ≤ fl i ∧ fl i ≤ 100000) (hbh : ∀ i, -1 ≤ fh i ∧ fh i ≤ 100000) (hbq : ∀ i, -1 ≤ fq i ∧ fq i ≤ 999999) (hbr : ∀ i, 0 ≤ fr i ∧ fr i < 2147483648) (hbd : ∀ i, 0 ≤ fd i ∧ fd i ≤ 20) (hbg : 0 ≤ bg ∧ bg < 2147483648) (hbf : 0 ≤ bf ∧ bf < 2147483648) : Met l yXR_text (Cond.code yXR_text cXR_text 3 (some .boolean) :: TBL) ({ frames := 5, cells := 0, slots := 0, locals := 113 } : Room) (va_Pc [.ref rda, .ref ba] (jBw (dC, dI) [(cA, .int)] [(rda, .inr (2, [.ref ta])), (ta, .inr (3, [.ref ts, .int (jI tn), .int (jI tp), .int (jI tw)])), (ts, .inl (cA, 400, .inl (jA tf))), (ba, .inr (0, [.ref bt, .ref bp, .ref bl, .ref bh, .ref bq, .ref br, .ref bd, .int (jI bg), .int (jI bf)])), (bt, .inl (cA, 31, .inl (jA ft))), (bl, .inl (cA, 248, .inl (jA fl))), (bh, .inl (cA, 248, .inl (jA fh))), (bq, .inl (cA, 124, .inl (jA fq))), (br, .inl (cA, 31, .inl (jA fr))), (bd, .inl (cA, 32, .inl (jA fd)))] sz)) (va_Qi (fun (r : Int32) (u : Int × Int × Int × (Int → Int) × (Int → Int) × (Int → Int) × (Int → Int) × (Int → Int) × (Int → Int) × Int × Int) => r = jI u.1 ∧ u = f_XR_text tn tp tw tf bg bf ft fl fh fq fr fd ∧ (0 ≤ u.1 ∧ u.1 ≤ 1) ∧ (0 ≤ u.2.1 ∧ u.2.1 ≤ tn) ∧ (∀ i, 0 ≤ u.2.2.2.1 i ∧ u.2.2.2.1 i ≤ 30) ∧ (∀ i, 0 ≤ u.2.2.2.2.1 i ∧ u.2.2.2.2.1 i ≤ 100000) ∧ (∀ i, -1 ≤ u.2.2.2.2.2.1 i ∧ u.2.2.2.2.2.1 i ≤ 100000) ∧ (∀ i, -1 ≤ u.2.2.2.2.2.2.1 i ∧ u.2.2.2.2.2.2.1 i ≤ 999999) ∧ (∀ i, 0 ≤ u.2.2.2.2.2.2.2.1 i ∧ u.2.2.2.2.2.2.2.1 i < 2147483648) ∧ (∀ i, 0 ≤ u.2.2.2.2.2.2.2.2.1 i ∧ u.2.2.2.2.2.2.2.2.1 i ≤ 20) ∧ (0 ≤ u.2.2.2.2.2.2.2.2.2.1 ∧ u.2.2.2.2.2.2.2.2.2.1 < 2147483648) ∧ (0 ≤ u.2.2.2.2.2.2.2.2.2.2 ∧ u.2.2.2.2.2.2.2.2.2.2 < 2147483648)) (fun u t => jE (dC, dI) [(cA, .int)] [(rda, .inr (2, [.ref ta])), (ta, .inr (3, [.ref ts, .int (jI tn), .int (jI tp), .int (jI tw)])), (ts, .inl (cA, 400, .inl (jA tf))), (ba, .inr (0, [.ref bt, .ref bp, .ref bl, .ref bh, .ref bq, .ref br, .ref bd, .int (jI bg), .int (jI bf)])), (bt, .inl (cA, 31, .inl (jA ft))), (bl, .inl (cA, 248, .inl (jA fl))), (bh, .inl (cA, 248, .inl (jA fh))), (bq, .inl (cA, 124, .inl (jA fq))), (br, .inl (cA, 31, .inl (jA fr))), (bd, .inl (cA, 32, .inl (jA fd)))] sz [(rda, .inr (2, [.ref ta])), (ta, .inr (3, [.ref ts, .int (jI tn), .int (jI u.2.1), .int (jI u.2.2.1)])), (ts, .inl (cA, 400, .inl (jA tf))), (ba, .inr (0, [.ref bt, .ref bp, .ref bl, .ref bh, .ref bq, .ref br, .ref bd, .int (jI u.2.2.2.2.2.2.2.2.2.1), .int (jI u.2.2.2.2.2.2.2.2.2.2)])), (bt, .inl (cA, 31, .inl (jA u.2.2.2.1))), (bl, .inl (cA, 248, .inl (jA u.2.2.2.2.1))), (bh, .inl (cA, 248, .inl (jA u.2.2.2.2.2.1))), (bq, .inl (cA, 124, .inl (jA u.2.2.2.2.2.2.1))), (br, .inl (cA, 31, .inl (jA u.2.2.2.2.2.2.2.1))), (bd, .inl (cA, 32, .inl (jA u.2.2.2.2.2.2.2.2.1)))] t) (va_A [(rda, .inr (2, [.ref ta])), (ta, .inr (3, [.ref ts, .int (jI tn), .int (jI tp), .int (jI tw)])), (ts, .inl (cA, 400, .inl (jA tf))), (ba, .inr (0, [.ref bt, .ref bp, .ref bl, .ref bh, .ref bq, .ref br, .ref bd, .int (jI bg), .int (jI bf)])), (bt, .inl (cA, 31, .inl (jA ft))), (bl, .inl (cA, 248, .inl (jA fl))), (bh, .inl (cA, 248, .inl (jA fh))), (bq, .inl (cA, 124, .inl (jA fq))), (br, .inl (cA, 31, .inl (jA fr))), (bd, .inl (cA, 32, .inl (jA fd)))] sz)) 0 0 (va_A [(rda, .inr (2, [.ref ta])), (ta, .inr (3, [.ref ts, .int (jI tn), .int (jI tp), .int (jI tw)])), (ts, .inl (cA, 400, .inl (jA tf))), (ba, .inr (0, [.ref bt, .ref bp, .ref bl, .ref bh, .ref bq, .ref br, .ref bd, .int (jI bg), .int (jI bf)])), (bt, .inl (cA, 31, .inl (jA ft))), (bl, .inl (cA, 248, .inl (jA fl))), (bh, .inl (cA, 248, .inl (jA fh))), (bq, .inl (cA, 124, .inl (jA fq))), (br, .inl (cA, 31, .inl (jA fr))), (bd, .inl (cA, 32, .inl (jA fd)))] sz) := by
  refine jMet (cc := cXR_text) (maxL := 3) (ret := some .boolean) (by decide) rfl ?_
  intro p e s m args below meth c s₁ R Q hR hQ B hml hv
  obtain ⟨rfl, hsz, hP, hK, hD0, hN⟩ := hv
  have hx := B.exec
  have hb := B.bytes
  have hr := B.returns
  have hts := atoms_spec (ws := Cond.code yXR_text cXR_text 3 (some .boolean) :: TBL) B.pre
  have hown : s.vm.findClass RXR = some m.cls := findClass_of_methodNamed B.named
  have hlocks := B.notSynchronized
  subst hsz
  obtain ⟨A, hAe⟩ : ∃ A, A = va_A [(rda, .inr (2, [.ref ta])), (ta, .inr (3, [.ref ts, .int (jI tn), .int (jI tp), .int (jI tw)])), (ts, .inl (cA, 400, .inl (jA tf))), (ba, .inr (0, [.ref bt, .ref bp, .ref bl, .ref bh, .ref bq, .ref br, .ref bd, .int (jI bg), .int (jI bf)])), (bt, .inl (cA, 31, .inl (jA ft))), (bl, .inl (cA, 248, .inl (jA fl))), (bh, .inl (cA, 248, .inl (jA fh))), (bq, .inl (cA, 124, .inl (jA fq))), (br, .inl (cA, 31, .inl (jA fr))), (bd, .inl (cA, 32, .inl (jA fd)))] s.heap.size := ⟨_, rfl⟩
  have hD : va_D A [(rda, .inr (2, [.ref ta])), (ta, .inr (3, [.ref ts, .int (jI tn), .int (jI tp), .int (jI tw)])), (ts, .inl (cA, 400, .inl (jA tf))), (ba, .inr (0, [.ref bt, .ref bp, .ref bl, .ref bh, .ref bq, .ref br, .ref bd, .int (jI bg), .int (jI bf)])), (bt, .inl (cA, 31, .inl (jA ft))), (bl, .inl (cA, 248, .inl (jA fl))), (bh, .inl (cA, 248, .inl (jA fh))), (bq, .inl (cA, 124, .inl (jA fq))), (br, .inl (cA, 31, .inl (jA fr))), (bd, .inl (cA, 32, .inl (jA fd)))] := by rw [hAe]; exact hD0.self
  have hA : ∀ q : Nat, s.heap.size ≤ q → A q := fun q h => by rw [hAe]; exact Or.inr h
  have hS : va_S A s.heap s.heap [] := va_S.rf
  have hP : va_P (dC, dI) vwCl [(rda, .inr (2, [.ref ta])), (ta, .inr (3, [.ref ts, .int (jI tn), .int (jI tp), .int (jI tw)])), (ts, .inl (cA, 400, .inl (jA tf))), (ba, .inr (0, [.ref bt, .ref bp, .ref bl, .ref bh, .ref bq, .ref br, .ref bd, .int (jI bg), .int (jI bf)])), (bt, .inl (cA, 31, .inl (jA ft))), (bl, .inl (cA, 248, .inl (jA fl))), (bh, .inl (cA, 248, .inl (jA fh))), (bq, .inl (cA, 124, .inl (jA fq))), (br, .inl (cA, 31, .inl (jA fr))), (bd, .inl (cA, 32, .inl (jA fd)))] s.heap := hP
  have hl := lv_entry ([.ref rda, .ref ba]) (n := 3) (Nat.le_of_ble_eq_true rfl)
  rw [lg_entry_eq]
  generalize (lg_sl ([.ref rda, .ref ba]) ++ List.replicate (3 - (lg_sl ([.ref rda, .ref ba])).length) Slot.unset).toArray = ls at hl ⊢
  have hl : lv_has ls 3 [(0, .ref rda), (1, .ref ba)] := hl
  refine lv_aload_n hx hb dXR_text_0 rfl (lv_at hl 0 rfl) ?_
  refine va_get (D := (dC, dI)) (ci := 2) (v := .ref ta) (C := RXR) (T := TXR) (N := 1) hx hb hts (fun w h => jmem (inXR w h)) hown hK hP 0 rfl rfl 0 (by decide) (hts _ (jmem tw_50)) (fun _ h9 => h9) rfl dXR_text_1 ?_
  refine jwVv (rest := []) (wr := [(rda, .inr (2, [.ref ta])), (ba, .inr (0, [.ref bt, .ref bp, .ref bl, .ref bh, .ref bq, .ref br, .ref bd, .int (jI bg), .int (jI bf)])), (bt, .inl (cA, 31, .inl (jA ft))), (bl, .inl (cA, 248, .inl (jA fl))), (bh, .inl (cA, 248, .inl (jA fh))), (bq, .inl (cA, 124, .inl (jA fq))), (br, .inl (cA, 31, .inl (jA fr))), (bd, .inl (cA, 32, .inl (jA fd)))]) ⟨hx, hb, hml, hown, hts⟩ (c_XT_rewind l dC dI cA _ ta ts tn tp tw tf) (cwV 0 hts (jG_V tw_138 tw_139 tw_140 tw_2 tw_141) rfl rfl rfl (by decide +kernel) (by rw [hR]; exact ⟨Nat.le_of_ble_eq_true rfl, Nat.le_of_ble_eq_true rfl⟩)) hK hP hD hS hA hN [1, 2] [0, 3, 4, 5, 6, 7, 8, 9] rfl rfl (by decide) (by decide) (by decide) 1 3 rfl rfl rfl rfl hl.1 rfl (Nat.le_of_ble_eq_true rfl) dXR_text_4 (by rw [hR]; exact ⟨Nat.le_of_ble_eq_true rfl, Nat.le_of_ble_eq_true rfl⟩) (fun u H locs hw hP hD hS => ?_)
  subst hw
  have hP : va_P (dC, dI) vwCl [(rda, .inr (2, [.ref ta])), (ba, .inr (0, [.ref bt, .ref bp, .ref bl, .ref bh, .ref bq, .ref br, .ref bd, .int (jI bg), .int (jI bf)])), (bt, .inl (cA, 31, .inl (jA ft))), (bl, .inl (cA, 248, .inl (jA fl))), (bh, .inl (cA, 248, .inl (jA fh))), (bq, .inl (cA, 124, .inl (jA fq))), (br, .inl (cA, 31, .inl (jA fr))), (bd, .inl (cA, 32, .inl (jA fd))), (ta, .inr (3, [.ref ts, .int (jI tn), .int (jI (f_XT_rewind tn tp tw tf)), .int (jI tw)])), (ts, .inl (cA, 400, .inl (jA tf)))] H := hP
  have hD : va_D A [(rda, .inr (2, [.ref ta])), (ba, .inr (0, [.ref bt, .ref bp, .ref bl, .ref bh, .ref bq, .ref br, .ref bd, .int (jI bg), .int (jI bf)])), (bt, .inl (cA, 31, .inl (jA ft))), (bl, .inl (cA, 248, .inl (jA fl))), (bh, .inl (cA, 248, .inl (jA fh))), (bq, .inl (cA, 124, .inl (jA fq))), (br, .inl (cA, 31, .inl (jA fr))), (bd, .inl (cA, 32, .inl (jA fd))), (ta, .inr (3, [.ref ts, .int (jI tn), .int (jI (f_XT_rewind tn tp tw tf)), .int (jI tw)])), (ts, .inl (cA, 400, .inl (jA tf)))] := hD
  have f := f_XT_rewind_b tn tp tw tf
  refine ji_iconst hx hb dXR_text_7 ?_
  refine lv_istore_n (lv' := [(2, .int (jI 0)), (0, .ref rda), (1, .ref ba)]) hx hb dXR_text_8 rfl hl (by decide) rfl (fun ls hl => ?_)
  have loop9 : ∀ (n9 : Nat) (k : Int) (q : Int) (w : Int) (yt : Int → Int) (yl : Int → Int) (yh : Int → Int) (yq : Int → Int) (yr : Int → Int) (yd : Int → Int) (yg : Int) (yf : Int) , 400 - k < (n9 : Int) → f_XR_text_L9 tn tp tw tf bg bf ft fl fh fq fr fd n9 k q w yt yl yh yq yr yd yg yf = f_XR_text tn tp tw tf bg bf ft fl fh fq fr fd → (0 ≤ k ∧ k ≤ 400) → (0 ≤ q ∧ q ≤ tn) → (∀ i, 0 ≤ yt i ∧ yt i ≤ 30) → (∀ i, 0 ≤ yl i ∧ yl i ≤ 100000) → (∀ i, -1 ≤ yh i ∧ yh i ≤ 100000) → (∀ i, -1 ≤ yq i ∧ yq i ≤ 999999) → (∀ i, 0 ≤ yr i ∧ yr i < 2147483648) → (∀ i, 0 ≤ yd i ∧ yd i ≤ 20) → (0 ≤ yg ∧ yg < 2147483648) → (0 ≤ yf ∧ yf < 2147483648) → ∀ (H : Heap) (locs : List Loc), va_P (dC, dI) vwCl [(rda, .inr (2, [.ref ta])), (ba, .inr (0, [.ref bt, .ref bp, .ref bl, .ref bh, .ref bq, .ref br, .ref bd, .int (jI yg), .int (jI yf)])), (bt, .inl (cA, 31, .inl (jA yt))), (bl, .inl (cA, 248, .inl (jA yl))), (bh, .inl (cA, 248, .inl (jA yh))), (bq, .inl (cA, 124, .inl (jA yq))), (br, .inl (cA, 31, .inl (jA yr))), (bd, .inl (cA, 32, .inl (jA yd))), (ta, .inr (3, [.ref ts, .int (jI tn), .int (jI q), .int (jI w)])), (ts, .inl (cA, 400, .inl (jA tf)))] H → va_D A [(rda, .inr (2, [.ref ta])), (ba, .inr (0, [.ref bt, .ref bp, .ref bl, .ref bh, .ref bq, .ref br, .ref bd, .int (jI yg), .int (jI yf)])), (bt, .inl (cA, 31, .inl (jA yt))), (bl, .inl (cA, 248, .inl (jA yl))), (bh, .inl (cA, 248, .inl (jA yh))), (bq, .inl (cA, 124, .inl (jA yq))), (br, .inl (cA, 31, .inl (jA yr))), (bd, .inl (cA, 32, .inl (jA yd))), (ta, .inr (3, [.ref ts, .int (jI tn), .int (jI q), .int (jI w)])), (ts, .inl (cA, 400, .inl (jA tf)))] → va_S A s.heap H locs → ∀ ls : Array Slot, lv_has ls 3 [(2, .int (jI k)), (0, .ref rda), (1, .ref ba)] → W p l e R s m ([.ref rda, .ref ba] : List Value).toArray below meth c H locs 0 0 Q (F0 m 9 ls []) := by
    intro n9
    induction n9 with
    | zero =>
      intro k q w yt yl yh yq yr yd yg yf hm hF hk hq hat hal hah haq har had hag haf
      exact absurd hm (by omega)
    | succ n9 ih9 =>
      intro k q w yt yl yh yq yr yd yg yf hm hF hk hq hat hal hah haq har had hag haf H locs hP hD hS ls hl
      refine lv_iload_n hx hb dXR_text_9 rfl (lv_at hl 0 rfl) ?_
      refine ji_sipush hx hb dXR_text_10 (by decide) ?_
      refine ji_icmp_ge (tgt := 43) hx hb dXR_text_13 (by decide) (by omega) (by omega) (fun c13_ => ?_) (fun c13_ => ?_)
      · refine ji_iconst hx hb dXR_text_43 ?_
        have hP9 := hP.sub (ws' := [(rda, .inr (2, [.ref ta])), (ta, .inr (3, [.ref ts, .int (jI tn), .int (jI q), .int (jI w)])), (ts, .inl (cA, 400, .inl (jA tf))), (ba, .inr (0, [.ref bt, .ref bp, .ref bl, .ref bh, .ref bq, .ref br, .ref bd, .int (jI yg), .int (jI yf)])), (bt, .inl (cA, 31, .inl (jA yt))), (bl, .inl (cA, 248, .inl (jA yl))), (bh, .inl (cA, 248, .inl (jA yh))), (bq, .inl (cA, 124, .inl (jA yq))), (br, .inl (cA, 31, .inl (jA yr))), (bd, .inl (cA, 32, .inl (jA yd)))]) [0, 8, 9, 1, 2, 3, 4, 5, 6, 7] rfl
        have hD9 := hD.sub (ws' := [(rda, .inr (2, [.ref ta])), (ta, .inr (3, [.ref ts, .int (jI tn), .int (jI q), .int (jI w)])), (ts, .inl (cA, 400, .inl (jA tf))), (ba, .inr (0, [.ref bt, .ref bp, .ref bl, .ref bh, .ref bq, .ref br, .ref bd, .int (jI yg), .int (jI yf)])), (bt, .inl (cA, 31, .inl (jA yt))), (bl, .inl (cA, 248, .inl (jA yl))), (bh, .inl (cA, 248, .inl (jA yh))), (bq, .inl (cA, 124, .inl (jA yq))), (br, .inl (cA, 31, .inl (jA yr))), (bd, .inl (cA, 32, .inl (jA yd)))]) [0, 8, 9, 1, 2, 3, 4, 5, 6, 7] (by decide) rfl
        subst hAe
        subst hQ
        exact W.zret (v := jI 1) hx hb hr (by first | decide | exact jz (by omega)) (fun t ht hW => ⟨⟨_, (1, q, w, yt, yl, yh, yq, yr, yd, yg, yf), rfl, ⟨rfl, Eq.trans (by rw [f_XR_text_L9_s]; rw [if_neg (Int.not_lt.mpr c13_)]; try rfl) hF, show 0 ≤ 1 ∧ 1 ≤ 1 from by first | assumption | omega, show 0 ≤ q ∧ q ≤ tn from by first | assumption | omega, show ∀ i, 0 ≤ yt i ∧ yt i ≤ 30 from by first | assumption | omega, show ∀ i, 0 ≤ yl i ∧ yl i ≤ 100000 from by first | assumption | omega, show ∀ i, -1 ≤ yh i ∧ yh i ≤ 100000 from by first | assumption | omega, show ∀ i, -1 ≤ yq i ∧ yq i ≤ 999999 from by first | assumption | omega, show ∀ i, 0 ≤ yr i ∧ yr i < 2147483648 from by first | assumption | omega, show ∀ i, 0 ≤ yd i ∧ yd i ≤ 20 from by first | assumption | omega, show 0 ≤ yg ∧ yg < 2147483648 from by first | assumption | omega, show 0 ≤ yf ∧ yf < 2147483648 from by first | assumption | omega⟩, ⟨by rw [ht]; exact hP9, va_K.moved hW.alike hK, hD9⟩⟩, hS.F ht⟩) hS.2.2 dXR_text_44
      · refine lv_aload_n hx hb dXR_text_16 rfl (lv_at hl 1 rfl) ?_
        refine va_get (D := (dC, dI)) (ci := 2) (v := .ref ta) (C := RXR) (T := TXR) (N := 1) hx hb hts (fun w h => jmem (inXR w h)) hown hK hP 0 rfl rfl 0 (by decide) (hts _ (jmem tw_50)) (fun _ h9 => h9) rfl dXR_text_17 ?_
        refine jwVi (rest := []) (wr := [(rda, .inr (2, [.ref ta])), (ba, .inr (0, [.ref bt, .ref bp, .ref bl, .ref bh, .ref bq, .ref br, .ref bd, .int (jI yg), .int (jI yf)])), (bt, .inl (cA, 31, .inl (jA yt))), (bl, .inl (cA, 248, .inl (jA yl))), (bh, .inl (cA, 248, .inl (jA yh))), (bq, .inl (cA, 124, .inl (jA yq))), (br, .inl (cA, 31, .inl (jA yr))), (bd, .inl (cA, 32, .inl (jA yd)))]) ⟨hx, hb, hml, hown, hts⟩ (c_XT_next l dC dI cA _ ta ts tn q w tf (by first | assumption | omega) (by first | assumption | omega) (by first | assumption | omega)) (cwV 0 hts (jG_V tw_142 tw_143 tw_144 tw_2 tw_145) rfl rfl rfl (by decide +kernel) (by rw [hR]; exact ⟨Nat.le_of_ble_eq_true rfl, Nat.le_of_ble_eq_true rfl⟩)) hK hP hD hS hA hN [8, 9] [0, 1, 2, 3, 4, 5, 6, 7] rfl rfl (by decide) (by decide) (by decide) 8 3 rfl rfl rfl rfl hl.1 rfl (Nat.le_of_ble_eq_true rfl) dXR_text_20 (by rw [hR]; exact ⟨Nat.le_of_ble_eq_true rfl, Nat.le_of_ble_eq_true rfl⟩) (fun v u1 H locs hwb hP hD hS => ?_)
        obtain ⟨r, tp1'⟩ := u1
        try dsimp only at hwb
        obtain ⟨er, hwb⟩ := hwb
        subst er
        have hP : va_P (dC, dI) vwCl [(rda, .inr (2, [.ref ta])), (ba, .inr (0, [.ref bt, .ref bp, .ref bl, .ref bh, .ref bq, .ref br, .ref bd, .int (jI yg), .int (jI yf)])), (bt, .inl (cA, 31, .inl (jA yt))), (bl, .inl (cA, 248, .inl (jA yl))), (bh, .inl (cA, 248, .inl (jA yh))), (bq, .inl (cA, 124, .inl (jA yq))), (br, .inl (cA, 31, .inl (jA yr))), (bd, .inl (cA, 32, .inl (jA yd))), (ta, .inr (3, [.ref ts, .int (jI tn), .int (jI tp1'), .int (jI w)])), (ts, .inl (cA, 400, .inl (jA tf)))] H := hP
        have hD : va_D A [(rda, .inr (2, [.ref ta])), (ba, .inr (0, [.ref bt, .ref bp, .ref bl, .ref bh, .ref bq, .ref br, .ref bd, .int (jI yg), .int (jI yf)])), (bt, .inl (cA, 31, .inl (jA yt))), (bl, .inl (cA, 248, .inl (jA yl))), (bh, .inl (cA, 248, .inl (jA yh))), (bq, .inl (cA, 124, .inl (jA yq))), (br, .inl (cA, 31, .inl (jA yr))), (bd, .inl (cA, 32, .inl (jA yd))), (ta, .inr (3, [.ref ts, .int (jI tn), .int (jI tp1'), .int (jI w)])), (ts, .inl (cA, 400, .inl (jA tf)))] := hD
        have f2 := f_XT_next_b tn q w tf (by first | assumption | omega) (by first | assumption | omega) (by first | assumption | omega)
        rw [← hwb] at f2; try dsimp only at f2
        refine ji_iconst hx hb dXR_text_23 ?_
        refine ji_icmp_eq (tgt := 43) hx hb dXR_text_24 (by decide) (by omega) (by omega) (fun c24_ => ?_) (fun c24_ => ?_)
        · refine ji_iconst hx hb dXR_text_43 ?_
          have hP9 := hP.sub (ws' := [(rda, .inr (2, [.ref ta])), (ta, .inr (3, [.ref ts, .int (jI tn), .int (jI tp1'), .int (jI w)])), (ts, .inl (cA, 400, .inl (jA tf))), (ba, .inr (0, [.ref bt, .ref bp, .ref bl, .ref bh, .ref bq, .ref br, .ref bd, .int (jI yg), .int (jI yf)])), (bt, .inl (cA, 31, .inl (jA yt))), (bl, .inl (cA, 248, .inl (jA yl))), (bh, .inl (cA, 248, .inl (jA yh))), (bq, .inl (cA, 124, .inl (jA yq))), (br, .inl (cA, 31, .inl (jA yr))), (bd, .inl (cA, 32, .inl (jA yd)))]) [0, 8, 9, 1, 2, 3, 4, 5, 6, 7] rfl
          have hD9 := hD.sub (ws' := [(rda, .inr (2, [.ref ta])), (ta, .inr (3, [.ref ts, .int (jI tn), .int (jI tp1'), .int (jI w)])), (ts, .inl (cA, 400, .inl (jA tf))), (ba, .inr (0, [.ref bt, .ref bp, .ref bl, .ref bh, .ref bq, .ref br, .ref bd, .int (jI yg), .int (jI yf)])), (bt, .inl (cA, 31, .inl (jA yt))), (bl, .inl (cA, 248, .inl (jA yl))), (bh, .inl (cA, 248, .inl (jA yh))), (bq, .inl (cA, 124, .inl (jA yq))), (br, .inl (cA, 31, .inl (jA yr))), (bd, .inl (cA, 32, .inl (jA yd)))]) [0, 8, 9, 1, 2, 3, 4, 5, 6, 7] (by decide) rfl
          subst hAe
          subst hQ
          exact W.zret (v := jI 1) hx hb hr (by first | decide | exact jz (by omega)) (fun t ht hW => ⟨⟨_, (1, tp1', w, yt, yl, yh, yq, yr, yd, yg, yf), rfl, ⟨rfl, Eq.trans (by rw [f_XR_text_L9_s]; rw [if_pos c13_]; rw [← hwb]; try dsimp only; rw [if_pos c24_]; try rfl) hF, show 0 ≤ 1 ∧ 1 ≤ 1 from by first | assumption | omega, show 0 ≤ tp1' ∧ tp1' ≤ tn from by first | assumption | omega, show ∀ i, 0 ≤ yt i ∧ yt i ≤ 30 from by first | assumption | omega, show ∀ i, 0 ≤ yl i ∧ yl i ≤ 100000 from by first | assumption | omega, show ∀ i, -1 ≤ yh i ∧ yh i ≤ 100000 from by first | assumption | omega, show ∀ i, -1 ≤ yq i ∧ yq i ≤ 999999 from by first | assumption | omega, show ∀ i, 0 ≤ yr i ∧ yr i < 2147483648 from by first | assumption | omega, show ∀ i, 0 ≤ yd i ∧ yd i ≤ 20 from by first | assumption | omega, show 0 ≤ yg ∧ yg < 2147483648 from by first | assumption | omega, show 0 ≤ yf ∧ yf < 2147483648 from by first | assumption | omega⟩, ⟨by rw [ht]; exact hP9, va_K.moved hW.alike hK, hD9⟩⟩, hS.F ht⟩) hS.2.2 dXR_text_44
        · refine lv_aload_n hx hb dXR_text_27 rfl (lv_at hl 1 rfl) ?_
          refine lv_aload_n hx hb dXR_text_28 rfl (lv_at hl 2 rfl) ?_
          refine jwVi (rest := []) (wr := []) ⟨hx, hb, hml, hown, hts⟩ (c_XR_row l dC dI cA _ rda ta ts tn tp1' w tf ba bt bp bl bh bq br bd yg yf yt yl yh yq yr yd (by first | assumption | omega) (by first | assumption | omega) (by first | assumption | omega) (by first | assumption | omega) (by first | assumption | omega) (by first | assumption | omega) (by first | assumption | omega) (by first | assumption | omega) (by first | assumption | omega) (by first | assumption | omega) (by first | assumption | omega)) (cwV 1 hts (jG_V tw_146 tw_148 ts_0 tw_3 tw_149) rfl rfl rfl (by decide +kernel) (by rw [hR]; exact ⟨Nat.le_of_ble_eq_true rfl, Nat.le_of_ble_eq_true rfl⟩)) hK hP hD hS hA hN [0, 8, 9, 1, 2, 3, 4, 5, 6, 7] [] rfl rfl (by decide) (by decide) (by decide) 0 2 rfl rfl rfl rfl hl.1 rfl (Nat.le_of_ble_eq_true rfl) dXR_text_29 (by rw [hR]; exact ⟨Nat.le_of_ble_eq_true rfl, Nat.le_of_ble_eq_true rfl⟩) (fun v6 u5 H locs hwb7 hP hD hS => ?_)
          obtain ⟨r3, tp1'4, tw1', ft1', fl1', fh1', fq1', fr1', fd1', bg1', bf1'⟩ := u5
          try dsimp only at hwb7
          obtain ⟨er, hwb7, f8, f9, f10, f11, f12, f13, f14, f15, f16, f17⟩ := hwb7
          subst er
          have f8 : 0 ≤ r3 ∧ r3 ≤ 1 := f8
          have f9 : 0 ≤ tp1'4 ∧ tp1'4 ≤ tn := f9
          have f10 : ∀ i, 0 ≤ ft1' i ∧ ft1' i ≤ 30 := f10
          have f11 : ∀ i, 0 ≤ fl1' i ∧ fl1' i ≤ 100000 := f11
          have f12 : ∀ i, -1 ≤ fh1' i ∧ fh1' i ≤ 100000 := f12
          have f13 : ∀ i, -1 ≤ fq1' i ∧ fq1' i ≤ 999999 := f13
          have f14 : ∀ i, 0 ≤ fr1' i ∧ fr1' i < 2147483648 := f14
          have f15 : ∀ i, 0 ≤ fd1' i ∧ fd1' i ≤ 20 := f15
          have f16 : 0 ≤ bg1' ∧ bg1' < 2147483648 := f16
          have f17 : 0 ≤ bf1' ∧ bf1' < 2147483648 := f17
          have hP : va_P (dC, dI) vwCl [(rda, .inr (2, [.ref ta])), (ta, .inr (3, [.ref ts, .int (jI tn), .int (jI tp1'4), .int (jI tw1')])), (ts, .inl (cA, 400, .inl (jA tf))), (ba, .inr (0, [.ref bt, .ref bp, .ref bl, .ref bh, .ref bq, .ref br, .ref bd, .int (jI bg1'), .int (jI bf1')])), (bt, .inl (cA, 31, .inl (jA ft1'))), (bl, .inl (cA, 248, .inl (jA fl1'))), (bh, .inl (cA, 248, .inl (jA fh1'))), (bq, .inl (cA, 124, .inl (jA fq1'))), (br, .inl (cA, 31, .inl (jA fr1'))), (bd, .inl (cA, 32, .inl (jA fd1')))] H := hP
          have hD : va_D A [(rda, .inr (2, [.ref ta])), (ta, .inr (3, [.ref ts, .int (jI tn), .int (jI tp1'4), .int (jI tw1')])), (ts, .inl (cA, 400, .inl (jA tf))), (ba, .inr (0, [.ref bt, .ref bp, .ref bl, .ref bh, .ref bq, .ref br, .ref bd, .int (jI bg1'), .int (jI bf1')])), (bt, .inl (cA, 31, .inl (jA ft1'))), (bl, .inl (cA, 248, .inl (jA fl1'))), (bh, .inl (cA, 248, .inl (jA fh1'))), (bq, .inl (cA, 124, .inl (jA fq1'))), (br, .inl (cA, 31, .inl (jA fr1'))), (bd, .inl (cA, 32, .inl (jA fd1')))] := hD
          refine ji_if_ne (tgt := 37) hx hb dXR_text_32 (by decide) (by omega) (fun c32_ => ?_) (fun c32_ => ?_)
          · refine ji_iinc (k := 0) (lv' := [(2, .int (jI (k + 1))), (0, .ref rda), (1, .ref ba)]) hx hb dXR_text_37 hl rfl (by decide) rfl (fun ls hl => ?_)
            refine lv_goto (tgt := 9) hx hb dXR_text_40 (by decide) ?_
            exact ih9 (k + 1) tp1'4 tw1' ft1' fl1' fh1' fq1' fr1' fd1' bg1' bf1' (by omega) (Eq.trans (by rw [f_XR_text_L9_s]; rw [if_pos c13_]; rw [← hwb]; try dsimp only; rw [if_neg c24_]; rw [← hwb7]; try dsimp only; rw [if_neg c32_]; try rfl) hF) (by first | assumption | omega) (by first | assumption | omega) (by first | assumption | omega) (by first | assumption | omega) (by first | assumption | omega) (by first | assumption | omega) (by first | assumption | omega) (by first | assumption | omega) (by first | assumption | omega) (by first | assumption | omega) _ _ (hP.sub [0, 3, 4, 5, 6, 7, 8, 9, 1, 2] rfl) (hD.sub [0, 3, 4, 5, 6, 7, 8, 9, 1, 2] (by decide) rfl) hS ls (lv_sub hl [0, 1, 2] rfl)
          · refine ji_iconst hx hb dXR_text_35 ?_
            have hP9 := hP.sub (ws' := [(rda, .inr (2, [.ref ta])), (ta, .inr (3, [.ref ts, .int (jI tn), .int (jI tp1'4), .int (jI tw1')])), (ts, .inl (cA, 400, .inl (jA tf))), (ba, .inr (0, [.ref bt, .ref bp, .ref bl, .ref bh, .ref bq, .ref br, .ref bd, .int (jI bg1'), .int (jI bf1')])), (bt, .inl (cA, 31, .inl (jA ft1'))), (bl, .inl (cA, 248, .inl (jA fl1'))), (bh, .inl (cA, 248, .inl (jA fh1'))), (bq, .inl (cA, 124, .inl (jA fq1'))), (br, .inl (cA, 31, .inl (jA fr1'))), (bd, .inl (cA, 32, .inl (jA fd1')))]) [0, 1, 2, 3, 4, 5, 6, 7, 8, 9] rfl
            have hD9 := hD.sub (ws' := [(rda, .inr (2, [.ref ta])), (ta, .inr (3, [.ref ts, .int (jI tn), .int (jI tp1'4), .int (jI tw1')])), (ts, .inl (cA, 400, .inl (jA tf))), (ba, .inr (0, [.ref bt, .ref bp, .ref bl, .ref bh, .ref bq, .ref br, .ref bd, .int (jI bg1'), .int (jI bf1')])), (bt, .inl (cA, 31, .inl (jA ft1'))), (bl, .inl (cA, 248, .inl (jA fl1'))), (bh, .inl (cA, 248, .inl (jA fh1'))), (bq, .inl (cA, 124, .inl (jA fq1'))), (br, .inl (cA, 31, .inl (jA fr1'))), (bd, .inl (cA, 32, .inl (jA fd1')))]) [0, 1, 2, 3, 4, 5, 6, 7, 8, 9] (by decide) rfl
            subst hAe
            subst hQ
            exact W.zret (v := jI 0) hx hb hr (by first | decide | exact jz (by omega)) (fun t ht hW => ⟨⟨_, (0, tp1'4, tw1', ft1', fl1', fh1', fq1', fr1', fd1', bg1', bf1'), rfl, ⟨rfl, Eq.trans (by rw [f_XR_text_L9_s]; rw [if_pos c13_]; rw [← hwb]; try dsimp only; rw [if_neg c24_]; rw [← hwb7]; try dsimp only; rw [if_pos c32_]; try rfl) hF, show 0 ≤ 0 ∧ 0 ≤ 1 from by first | assumption | omega, show 0 ≤ tp1'4 ∧ tp1'4 ≤ tn from by first | assumption | omega, show ∀ i, 0 ≤ ft1' i ∧ ft1' i ≤ 30 from by first | assumption | omega, show ∀ i, 0 ≤ fl1' i ∧ fl1' i ≤ 100000 from by first | assumption | omega, show ∀ i, -1 ≤ fh1' i ∧ fh1' i ≤ 100000 from by first | assumption | omega, show ∀ i, -1 ≤ fq1' i ∧ fq1' i ≤ 999999 from by first | assumption | omega, show ∀ i, 0 ≤ fr1' i ∧ fr1' i < 2147483648 from by first | assumption | omega, show ∀ i, 0 ≤ fd1' i ∧ fd1' i ≤ 20 from by first | assumption | omega, show 0 ≤ bg1' ∧ bg1' < 2147483648 from by first | assumption | omega, show 0 ≤ bf1' ∧ bf1' < 2147483648 from by first | assumption | omega⟩, ⟨by rw [ht]; exact hP9, va_K.moved hW.alike hK, hD9⟩⟩, hS.F ht⟩) hS.2.2 dXR_text_36
  exact loop9 (Int.toNat (400 - 0) + 1) 0 (f_XT_rewind tn tp tw tf) tw ft fl fh fq fr fd bg bf (by omega) (Eq.trans (by rw [f_XR_text_s]; try rfl) rfl) (by first | assumption | omega) (by first | assumption | omega) (by first | assumption | omega) (by first | assumption | omega) (by first | assumption | omega) (by first | assumption | omega) (by first | assumption | omega) (by first | assumption | omega) (by first | assumption | omega) (by first | assumption | omega) _ _ hP hD hS ls (lv_sub hl [0, 1, 2] rfl)

end
section
theorem jI_ti (x : Int32) : jI x.toInt = x := Int32.ofInt_toInt x
theorem jti_i (x : Int32) : i32 x.toInt := ⟨by have := Int32.le_toInt x; omega, by have := Int32.toInt_lt x; omega⟩
def jus (x y : Int32) : Int32 := (x.toUInt32 >>> (y.toUInt32 &&& Int32.toUInt32 31)).toInt32
theorem jL_div_any {a b : Int} (ha : i64 a) (hm : a ≠ -9223372036854775808) (hb : i64 b) : jL a / jL b = jL (a.tdiv b) := by
  have hne : jL a ≠ Int64.minValue := fun q => hm (by have := congrArg Int64.toInt q; rw [jL_toInt ha] at this; exact this)
  have h := Int64.toInt_div_of_ne_left (jL a) (jL b) hne
  rw [jL_toInt ha, jL_toInt hb] at h
  have hr : jL a / jL b = Int64.ofInt (jL a / jL b).toInt := (Int64.ofInt_toInt _).symm
  rw [hr, h]; rfl
theorem jL_rem_any {a b : Int} (ha : i64 a) (hm : a ≠ -9223372036854775808) (hb : i64 b) : jL a - jL a / jL b * jL b = jL (a.tmod b) := by
  rw [jL_div_any ha hm hb, jL_mul, jL_sub, Int.tmod_def, Int.mul_comm]
theorem jtmod_le {u v B : Int} (h : -B ≤ u ∧ u ≤ B) : -B ≤ u.tmod v ∧ u.tmod v ≤ B := by
  have h1 : (u.tmod v).natAbs = u.natAbs % v.natAbs := Int.natAbs_tmod u v
  have h2 := Nat.mod_le u.natAbs v.natAbs
  omega
section JD
variable {p : Program} {l : Launch} {e : Env} {R : Room} {s : State} {m : MethodId} {args : Array Value} {below : List Frame} {meth : Method} {c : Code} {H : Heap} {locs : List Loc} {cells slots : Nat} {Q : State → Prop}
variable {cc : ByteArray} {pc : Nat} {ls : Array Slot} {rest : List Value}
theorem ji_lrem_any (hx : p.tables.exec = Jvm.exec) (hb : c.code = cc) {x y : Int} (hdg : decode cc pc = .ok (.lrem, 1)) (h1 : i64 x ∧ x ≠ -9223372036854775808) (h2 : i64 y) (h3 : y ≠ 0) (kk : W p l e R s m args below meth c H locs cells slots Q (F0 m (pc + 1) ls (.long (jL (Int.tmod x y)) :: rest))) : W p l e R s m args below meth c H locs cells slots Q (F0 m pc ls (.long (jL y) :: .long (jL x) :: rest)) := lv_lrem hx hb hdg (fun q => h3 ((jL_inj h2 (by decide)).mp (q.trans jL_0))) (by rw [jL_rem_any h1.1 h1.2 h2]; exact kk)
end JD
noncomputable def g_XI_bitCount (zi : Int) : Int :=
  (((((((((jI zi - ((jus (jI zi) (jI 1)) &&& jI 1431655765)) &&& jI 858993459) + ((jus (jI zi - ((jus (jI zi) (jI 1)) &&& jI 1431655765)) (jI 2)) &&& jI 858993459)) + (jus (((jI zi - ((jus (jI zi) (jI 1)) &&& jI 1431655765)) &&& jI 858993459) + ((jus (jI zi - ((jus (jI zi) (jI 1)) &&& jI 1431655765)) (jI 2)) &&& jI 858993459)) (jI 4))) &&& jI 252645135) + (jus (((((jI zi - ((jus (jI zi) (jI 1)) &&& jI 1431655765)) &&& jI 858993459) + ((jus (jI zi - ((jus (jI zi) (jI 1)) &&& jI 1431655765)) (jI 2)) &&& jI 858993459)) + (jus (((jI zi - ((jus (jI zi) (jI 1)) &&& jI 1431655765)) &&& jI 858993459) + ((jus (jI zi - ((jus (jI zi) (jI 1)) &&& jI 1431655765)) (jI 2)) &&& jI 858993459)) (jI 4))) &&& jI 252645135) (jI 8))) + (jus ((((((jI zi - ((jus (jI zi) (jI 1)) &&& jI 1431655765)) &&& jI 858993459) + ((jus (jI zi - ((jus (jI zi) (jI 1)) &&& jI 1431655765)) (jI 2)) &&& jI 858993459)) + (jus (((jI zi - ((jus (jI zi) (jI 1)) &&& jI 1431655765)) &&& jI 858993459) + ((jus (jI zi - ((jus (jI zi) (jI 1)) &&& jI 1431655765)) (jI 2)) &&& jI 858993459)) (jI 4))) &&& jI 252645135) + (jus (((((jI zi - ((jus (jI zi) (jI 1)) &&& jI 1431655765)) &&& jI 858993459) + ((jus (jI zi - ((jus (jI zi) (jI 1)) &&& jI 1431655765)) (jI 2)) &&& jI 858993459)) + (jus (((jI zi - ((jus (jI zi) (jI 1)) &&& jI 1431655765)) &&& jI 858993459) + ((jus (jI zi - ((jus (jI zi) (jI 1)) &&& jI 1431655765)) (jI 2)) &&& jI 858993459)) (jI 4))) &&& jI 252645135) (jI 8))) (jI 16))) &&& jI 63)).toInt
noncomputable def f_XI_bitCount : Int → Int := jopq g_XI_bitCount
theorem f_XI_bitCount_q : f_XI_bitCount = g_XI_bitCount := jopq_eq _
theorem f_XI_bitCount_s (zi : Int) : f_XI_bitCount zi = (
    (((((((((jI zi - ((jus (jI zi) (jI 1)) &&& jI 1431655765)) &&& jI 858993459) + ((jus (jI zi - ((jus (jI zi) (jI 1)) &&& jI 1431655765)) (jI 2)) &&& jI 858993459)) + (jus (((jI zi - ((jus (jI zi) (jI 1)) &&& jI 1431655765)) &&& jI 858993459) + ((jus (jI zi - ((jus (jI zi) (jI 1)) &&& jI 1431655765)) (jI 2)) &&& jI 858993459)) (jI 4))) &&& jI 252645135) + (jus (((((jI zi - ((jus (jI zi) (jI 1)) &&& jI 1431655765)) &&& jI 858993459) + ((jus (jI zi - ((jus (jI zi) (jI 1)) &&& jI 1431655765)) (jI 2)) &&& jI 858993459)) + (jus (((jI zi - ((jus (jI zi) (jI 1)) &&& jI 1431655765)) &&& jI 858993459) + ((jus (jI zi - ((jus (jI zi) (jI 1)) &&& jI 1431655765)) (jI 2)) &&& jI 858993459)) (jI 4))) &&& jI 252645135) (jI 8))) + (jus ((((((jI zi - ((jus (jI zi) (jI 1)) &&& jI 1431655765)) &&& jI 858993459) + ((jus (jI zi - ((jus (jI zi) (jI 1)) &&& jI 1431655765)) (jI 2)) &&& jI 858993459)) + (jus (((jI zi - ((jus (jI zi) (jI 1)) &&& jI 1431655765)) &&& jI 858993459) + ((jus (jI zi - ((jus (jI zi) (jI 1)) &&& jI 1431655765)) (jI 2)) &&& jI 858993459)) (jI 4))) &&& jI 252645135) + (jus (((((jI zi - ((jus (jI zi) (jI 1)) &&& jI 1431655765)) &&& jI 858993459) + ((jus (jI zi - ((jus (jI zi) (jI 1)) &&& jI 1431655765)) (jI 2)) &&& jI 858993459)) + (jus (((jI zi - ((jus (jI zi) (jI 1)) &&& jI 1431655765)) &&& jI 858993459) + ((jus (jI zi - ((jus (jI zi) (jI 1)) &&& jI 1431655765)) (jI 2)) &&& jI 858993459)) (jI 4))) &&& jI 252645135) (jI 8))) (jI 16))) &&& jI 63)).toInt
  : Int) := by rw [f_XI_bitCount_q]; rfl
theorem f_XI_bitCount_b (zi : Int) : i32 (f_XI_bitCount zi) := by rw [f_XI_bitCount_s]; exact jti_i _
set_option maxHeartbeats 4000000 in
set_option maxRecDepth 100000 in
theorem c_XI_bitCount (l : Launch) (dC : Nat → ClassId) (dI : Nat → Nat → Nat) (cA : ClassId) (zi : Int) : Met l yXI_bitCount (Cond.code yXI_bitCount cXI_bitCount 1 (some .int) :: TBL) ({ frames := 0, cells := 0, slots := 0, locals := 0 } : Room) (va_Pc [.int (jI zi)] (jB (dC, dI) [(cA, .int)] [])) (vp_Si (fun r => r = jI (f_XI_bitCount zi))) 0 0 (fun _ => False) := by
  refine jMet (cc := cXI_bitCount) (maxL := 1) (ret := some .int) (by decide) rfl ?_
  intro p e s m args below meth c s₁ R Q hR hQ B hml hv
  obtain ⟨rfl, hP, hK, hN⟩ := hv
  have hx := B.exec
  have hb := B.bytes
  have hr := B.returns
  have hts := atoms_spec (ws := Cond.code yXI_bitCount cXI_bitCount 1 (some .int) :: TBL) B.pre
  have hown : s.vm.findClass RXI = some m.cls := findClass_of_methodNamed B.named
  have hlocks := B.notSynchronized
  have hP : va_P (dC, dI) vwCl [] s.heap := hP
  have hl := lv_entry ([.int (jI zi)]) (n := 1) (Nat.le_of_ble_eq_true rfl)
  rw [lg_entry_eq]
  generalize (lg_sl ([.int (jI zi)]) ++ List.replicate (1 - (lg_sl ([.int (jI zi)])).length) Slot.unset).toArray = ls at hl ⊢
  have hl : lv_has ls 1 [(0, .int (jI zi))] := hl
  refine lv_iload_n hx hb dXI_bitCount_0 rfl (lv_at hl 0 rfl) ?_
  refine lv_iload_n hx hb dXI_bitCount_1 rfl (lv_at hl 0 rfl) ?_
  refine ji_iconst hx hb dXI_bitCount_2 ?_
  refine lv_iushr (v := (jus (jI zi) (jI 1))) hx hb dXI_bitCount_3 rfl ?_
  refine lv_ldcw hx hb hown (hts _ (jmem tw_293)) dXI_bitCount_4 ?_
  refine ji_re (y := 1431655765) (by decide) ?_
  refine lv_iand hx hb dXI_bitCount_7 ?_
  refine lv_isub hx hb dXI_bitCount_8 ?_
  refine lv_istore_n (lv' := [(0, .int (jI zi - ((jus (jI zi) (jI 1)) &&& jI 1431655765)))]) hx hb dXI_bitCount_9 rfl hl (by decide) rfl (fun ls hl => ?_)
  refine lv_iload_n hx hb dXI_bitCount_10 rfl (lv_at hl 0 rfl) ?_
  refine lv_ldcw hx hb hown (hts _ (jmem tw_294)) dXI_bitCount_11 ?_
  refine ji_re (y := 858993459) (by decide) ?_
  refine lv_iand hx hb dXI_bitCount_14 ?_
  refine lv_iload_n hx hb dXI_bitCount_15 rfl (lv_at hl 0 rfl) ?_
  refine ji_iconst hx hb dXI_bitCount_16 ?_
  refine lv_iushr (v := (jus (jI zi - ((jus (jI zi) (jI 1)) &&& jI 1431655765)) (jI 2))) hx hb dXI_bitCount_17 rfl ?_
  refine lv_ldcw hx hb hown (hts _ (jmem tw_294)) dXI_bitCount_18 ?_
  refine ji_re (y := 858993459) (by decide) ?_
  refine lv_iand hx hb dXI_bitCount_21 ?_
  refine lv_iadd hx hb dXI_bitCount_22 ?_
  refine lv_istore_n (lv' := [(0, .int (((jI zi - ((jus (jI zi) (jI 1)) &&& jI 1431655765)) &&& jI 858993459) + ((jus (jI zi - ((jus (jI zi) (jI 1)) &&& jI 1431655765)) (jI 2)) &&& jI 858993459)))]) hx hb dXI_bitCount_23 rfl hl (by decide) rfl (fun ls hl => ?_)
  refine lv_iload_n hx hb dXI_bitCount_24 rfl (lv_at hl 0 rfl) ?_
  refine lv_iload_n hx hb dXI_bitCount_25 rfl (lv_at hl 0 rfl) ?_
  refine ji_iconst hx hb dXI_bitCount_26 ?_
  refine lv_iushr (v := (jus (((jI zi - ((jus (jI zi) (jI 1)) &&& jI 1431655765)) &&& jI 858993459) + ((jus (jI zi - ((jus (jI zi) (jI 1)) &&& jI 1431655765)) (jI 2)) &&& jI 858993459)) (jI 4))) hx hb dXI_bitCount_27 rfl ?_
  refine lv_iadd hx hb dXI_bitCount_28 ?_
  refine lv_ldcw hx hb hown (hts _ (jmem tw_295)) dXI_bitCount_29 ?_
  refine ji_re (y := 252645135) (by decide) ?_
  refine lv_iand hx hb dXI_bitCount_32 ?_
  refine lv_istore_n (lv' := [(0, .int (((((jI zi - ((jus (jI zi) (jI 1)) &&& jI 1431655765)) &&& jI 858993459) + ((jus (jI zi - ((jus (jI zi) (jI 1)) &&& jI 1431655765)) (jI 2)) &&& jI 858993459)) + (jus (((jI zi - ((jus (jI zi) (jI 1)) &&& jI 1431655765)) &&& jI 858993459) + ((jus (jI zi - ((jus (jI zi) (jI 1)) &&& jI 1431655765)) (jI 2)) &&& jI 858993459)) (jI 4))) &&& jI 252645135))]) hx hb dXI_bitCount_33 rfl hl (by decide) rfl (fun ls hl => ?_)
  refine lv_iload_n hx hb dXI_bitCount_34 rfl (lv_at hl 0 rfl) ?_
  refine lv_iload_n hx hb dXI_bitCount_35 rfl (lv_at hl 0 rfl) ?_
  refine ji_bipush hx hb dXI_bitCount_36 (by decide) ?_
  refine lv_iushr (v := (jus (((((jI zi - ((jus (jI zi) (jI 1)) &&& jI 1431655765)) &&& jI 858993459) + ((jus (jI zi - ((jus (jI zi) (jI 1)) &&& jI 1431655765)) (jI 2)) &&& jI 858993459)) + (jus (((jI zi - ((jus (jI zi) (jI 1)) &&& jI 1431655765)) &&& jI 858993459) + ((jus (jI zi - ((jus (jI zi) (jI 1)) &&& jI 1431655765)) (jI 2)) &&& jI 858993459)) (jI 4))) &&& jI 252645135) (jI 8))) hx hb dXI_bitCount_38 rfl ?_
  refine lv_iadd hx hb dXI_bitCount_39 ?_
  refine lv_istore_n (lv' := [(0, .int ((((((jI zi - ((jus (jI zi) (jI 1)) &&& jI 1431655765)) &&& jI 858993459) + ((jus (jI zi - ((jus (jI zi) (jI 1)) &&& jI 1431655765)) (jI 2)) &&& jI 858993459)) + (jus (((jI zi - ((jus (jI zi) (jI 1)) &&& jI 1431655765)) &&& jI 858993459) + ((jus (jI zi - ((jus (jI zi) (jI 1)) &&& jI 1431655765)) (jI 2)) &&& jI 858993459)) (jI 4))) &&& jI 252645135) + (jus (((((jI zi - ((jus (jI zi) (jI 1)) &&& jI 1431655765)) &&& jI 858993459) + ((jus (jI zi - ((jus (jI zi) (jI 1)) &&& jI 1431655765)) (jI 2)) &&& jI 858993459)) + (jus (((jI zi - ((jus (jI zi) (jI 1)) &&& jI 1431655765)) &&& jI 858993459) + ((jus (jI zi - ((jus (jI zi) (jI 1)) &&& jI 1431655765)) (jI 2)) &&& jI 858993459)) (jI 4))) &&& jI 252645135) (jI 8))))]) hx hb dXI_bitCount_40 rfl hl (by decide) rfl (fun ls hl => ?_)
  refine lv_iload_n hx hb dXI_bitCount_41 rfl (lv_at hl 0 rfl) ?_
  refine lv_iload_n hx hb dXI_bitCount_42 rfl (lv_at hl 0 rfl) ?_
  refine ji_bipush hx hb dXI_bitCount_43 (by decide) ?_
  refine lv_iushr (v := (jus ((((((jI zi - ((jus (jI zi) (jI 1)) &&& jI 1431655765)) &&& jI 858993459) + ((jus (jI zi - ((jus (jI zi) (jI 1)) &&& jI 1431655765)) (jI 2)) &&& jI 858993459)) + (jus (((jI zi - ((jus (jI zi) (jI 1)) &&& jI 1431655765)) &&& jI 858993459) + ((jus (jI zi - ((jus (jI zi) (jI 1)) &&& jI 1431655765)) (jI 2)) &&& jI 858993459)) (jI 4))) &&& jI 252645135) + (jus (((((jI zi - ((jus (jI zi) (jI 1)) &&& jI 1431655765)) &&& jI 858993459) + ((jus (jI zi - ((jus (jI zi) (jI 1)) &&& jI 1431655765)) (jI 2)) &&& jI 858993459)) + (jus (((jI zi - ((jus (jI zi) (jI 1)) &&& jI 1431655765)) &&& jI 858993459) + ((jus (jI zi - ((jus (jI zi) (jI 1)) &&& jI 1431655765)) (jI 2)) &&& jI 858993459)) (jI 4))) &&& jI 252645135) (jI 8))) (jI 16))) hx hb dXI_bitCount_45 rfl ?_
  refine lv_iadd hx hb dXI_bitCount_46 ?_
  refine lv_istore_n (lv' := [(0, .int (((((((jI zi - ((jus (jI zi) (jI 1)) &&& jI 1431655765)) &&& jI 858993459) + ((jus (jI zi - ((jus (jI zi) (jI 1)) &&& jI 1431655765)) (jI 2)) &&& jI 858993459)) + (jus (((jI zi - ((jus (jI zi) (jI 1)) &&& jI 1431655765)) &&& jI 858993459) + ((jus (jI zi - ((jus (jI zi) (jI 1)) &&& jI 1431655765)) (jI 2)) &&& jI 858993459)) (jI 4))) &&& jI 252645135) + (jus (((((jI zi - ((jus (jI zi) (jI 1)) &&& jI 1431655765)) &&& jI 858993459) + ((jus (jI zi - ((jus (jI zi) (jI 1)) &&& jI 1431655765)) (jI 2)) &&& jI 858993459)) + (jus (((jI zi - ((jus (jI zi) (jI 1)) &&& jI 1431655765)) &&& jI 858993459) + ((jus (jI zi - ((jus (jI zi) (jI 1)) &&& jI 1431655765)) (jI 2)) &&& jI 858993459)) (jI 4))) &&& jI 252645135) (jI 8))) + (jus ((((((jI zi - ((jus (jI zi) (jI 1)) &&& jI 1431655765)) &&& jI 858993459) + ((jus (jI zi - ((jus (jI zi) (jI 1)) &&& jI 1431655765)) (jI 2)) &&& jI 858993459)) + (jus (((jI zi - ((jus (jI zi) (jI 1)) &&& jI 1431655765)) &&& jI 858993459) + ((jus (jI zi - ((jus (jI zi) (jI 1)) &&& jI 1431655765)) (jI 2)) &&& jI 858993459)) (jI 4))) &&& jI 252645135) + (jus (((((jI zi - ((jus (jI zi) (jI 1)) &&& jI 1431655765)) &&& jI 858993459) + ((jus (jI zi - ((jus (jI zi) (jI 1)) &&& jI 1431655765)) (jI 2)) &&& jI 858993459)) + (jus (((jI zi - ((jus (jI zi) (jI 1)) &&& jI 1431655765)) &&& jI 858993459) + ((jus (jI zi - ((jus (jI zi) (jI 1)) &&& jI 1431655765)) (jI 2)) &&& jI 858993459)) (jI 4))) &&& jI 252645135) (jI 8))) (jI 16))))]) hx hb dXI_bitCount_47 rfl hl (by decide) rfl (fun ls hl => ?_)
  refine lv_iload_n hx hb dXI_bitCount_48 rfl (lv_at hl 0 rfl) ?_
  refine ji_bipush hx hb dXI_bitCount_49 (by decide) ?_
  refine lv_iand hx hb dXI_bitCount_51 ?_
  subst hQ
  exact W.iret (v := ((((((((jI zi - ((jus (jI zi) (jI 1)) &&& jI 1431655765)) &&& jI 858993459) + ((jus (jI zi - ((jus (jI zi) (jI 1)) &&& jI 1431655765)) (jI 2)) &&& jI 858993459)) + (jus (((jI zi - ((jus (jI zi) (jI 1)) &&& jI 1431655765)) &&& jI 858993459) + ((jus (jI zi - ((jus (jI zi) (jI 1)) &&& jI 1431655765)) (jI 2)) &&& jI 858993459)) (jI 4))) &&& jI 252645135) + (jus (((((jI zi - ((jus (jI zi) (jI 1)) &&& jI 1431655765)) &&& jI 858993459) + ((jus (jI zi - ((jus (jI zi) (jI 1)) &&& jI 1431655765)) (jI 2)) &&& jI 858993459)) + (jus (((jI zi - ((jus (jI zi) (jI 1)) &&& jI 1431655765)) &&& jI 858993459) + ((jus (jI zi - ((jus (jI zi) (jI 1)) &&& jI 1431655765)) (jI 2)) &&& jI 858993459)) (jI 4))) &&& jI 252645135) (jI 8))) + (jus ((((((jI zi - ((jus (jI zi) (jI 1)) &&& jI 1431655765)) &&& jI 858993459) + ((jus (jI zi - ((jus (jI zi) (jI 1)) &&& jI 1431655765)) (jI 2)) &&& jI 858993459)) + (jus (((jI zi - ((jus (jI zi) (jI 1)) &&& jI 1431655765)) &&& jI 858993459) + ((jus (jI zi - ((jus (jI zi) (jI 1)) &&& jI 1431655765)) (jI 2)) &&& jI 858993459)) (jI 4))) &&& jI 252645135) + (jus (((((jI zi - ((jus (jI zi) (jI 1)) &&& jI 1431655765)) &&& jI 858993459) + ((jus (jI zi - ((jus (jI zi) (jI 1)) &&& jI 1431655765)) (jI 2)) &&& jI 858993459)) + (jus (((jI zi - ((jus (jI zi) (jI 1)) &&& jI 1431655765)) &&& jI 858993459) + ((jus (jI zi - ((jus (jI zi) (jI 1)) &&& jI 1431655765)) (jI 2)) &&& jI 858993459)) (jI 4))) &&& jI 252645135) (jI 8))) (jI 16))) &&& jI 63)) hx hb hr (fun t ht hW => ⟨_, rfl, (by rw [f_XI_bitCount_s]; exact (jI_ti _).symm), ht⟩) (fun _ h => nomatch h) dXI_bitCount_52
noncomputable def g_XB_count (bg : Int) (bf : Int) : Int :=
  f_XI_bitCount bg
noncomputable def f_XB_count : Int → Int → Int := jopq g_XB_count
theorem f_XB_count_q : f_XB_count = g_XB_count := jopq_eq _
theorem f_XB_count_s (bg : Int) (bf : Int) : f_XB_count bg bf = (
    f_XI_bitCount bg
  : Int) := by rw [f_XB_count_q]; rfl
set_option maxHeartbeats 4000000 in
set_option maxRecDepth 100000 in
theorem c_XB_count (l : Launch) (dC : Nat → ClassId) (dI : Nat → Nat → Nat) (cA : ClassId) (ba : Nat) (bt : Nat) (bp : Nat) (bl : Nat) (bh : Nat) (bq : Nat) (br : Nat) (bd : Nat) (bg : Int) (bf : Int) : Met l yXB_count (Cond.code yXB_count cXB_count 1 (some .int) :: TBL) ({ frames := 1, cells := 0, slots := 0, locals := 20 } : Room) (va_Pc [.ref ba] (jB (dC, dI) [(cA, .int)] [(ba, .inr (0, [.ref bt, .ref bp, .ref bl, .ref bh, .ref bq, .ref br, .ref bd, .int (jI bg), .int (jI bf)]))])) (vp_Si (fun r => r = jI (f_XB_count bg bf))) 0 0 (fun _ => False) := by
  refine jMet (cc := cXB_count) (maxL := 1) (ret := some .int) (by decide) rfl ?_
  intro p e s m args below meth c s₁ R Q hR hQ B hml hv
  obtain ⟨rfl, hP, hK, hN⟩ := hv
  have hx := B.exec
  have hb := B.bytes
  have hr := B.returns
  have hts := atoms_spec (ws := Cond.code yXB_count cXB_count 1 (some .int) :: TBL) B.pre
  have hown : s.vm.findClass RXB = some m.cls := findClass_of_methodNamed B.named
  have hlocks := B.notSynchronized
  have hP : va_P (dC, dI) vwCl [(ba, .inr (0, [.ref bt, .ref bp, .ref bl, .ref bh, .ref bq, .ref br, .ref bd, .int (jI bg), .int (jI bf)]))] s.heap := hP
  have hl := lv_entry ([.ref ba]) (n := 1) (Nat.le_of_ble_eq_true rfl)
  rw [lg_entry_eq]
  generalize (lg_sl ([.ref ba]) ++ List.replicate (1 - (lg_sl ([.ref ba])).length) Slot.unset).toArray = ls at hl ⊢
  have hl : lv_has ls 1 [(0, .ref ba)] := hl
  refine lv_aload_n hx hb dXB_count_0 rfl (lv_at hl 0 rfl) ?_
  refine va_get (D := (dC, dI)) (ci := 0) (v := .int (jI bg)) (C := RXB) (T := TXB) (N := 9) hx hb hts (fun w h => jmem (inXB w h)) hown hK hP 0 rfl rfl 7 (by decide) (hts _ (jmem tw_80)) (fun _ h9 => h9) rfl dXB_count_1 ?_
  refine jrSi (rest := []) ⟨hx, hb, hml, hown, hts⟩ (c_XI_bitCount l dC dI cA bg) (va_cwS 1 hts (jG_T tw_290 tw_291 tw_13 tw_292) rfl rfl rfl (by decide +kernel) (by rw [hR]; exact ⟨Nat.le_of_ble_eq_true rfl, Nat.le_of_ble_eq_true rfl⟩)) hK hP hN [] rfl rfl hl.1 rfl (Nat.le_of_ble_eq_true rfl) dXB_count_4 (by rw [hR]; exact ⟨Nat.le_of_ble_eq_true rfl, Nat.le_of_ble_eq_true rfl⟩) ?_
  have f := f_XI_bitCount_b bg
  subst hQ
  exact W.iret (v := jI (f_XI_bitCount bg)) hx hb hr (fun t ht hW => ⟨_, rfl, congrArg jI (Eq.trans (by rw [f_XB_count_s]; try rfl) rfl), ht⟩) (fun _ h => nomatch h) dXB_count_7
noncomputable def g_XG_greatestDivisor_L9 (za : Int) (zb : Int) : Nat → Int → Int → Int → Int
  | 0, _, _, _ => 0
  | n9 + 1, u9, v, k =>
    if k < 100 then
      if v = 0 then
        u9
      else
        g_XG_greatestDivisor_L9 za zb n9 v (Int.tmod u9 v) (k + 1)
    else
      u9
noncomputable def f_XG_greatestDivisor_L9 : Int → Int → Nat → Int → Int → Int → Int := jopq g_XG_greatestDivisor_L9
theorem f_XG_greatestDivisor_L9_q : f_XG_greatestDivisor_L9 = g_XG_greatestDivisor_L9 := jopq_eq _
theorem f_XG_greatestDivisor_L9_s (za : Int) (zb : Int) (n9 : Nat) (u9 : Int) (v : Int) (k : Int) : f_XG_greatestDivisor_L9 za zb (n9 + 1) u9 v k = (
    if k < 100 then
      if v = 0 then
        u9
      else
        f_XG_greatestDivisor_L9 za zb n9 v (Int.tmod u9 v) (k + 1)
    else
      u9
  : Int) := by rw [f_XG_greatestDivisor_L9_q]; rfl
theorem f_XG_greatestDivisor_L9_z (za : Int) (zb : Int) (u9 : Int) (v : Int) (k : Int) : f_XG_greatestDivisor_L9 za zb 0 u9 v k = 0 := by rw [f_XG_greatestDivisor_L9_q]; rfl
noncomputable def g_XG_greatestDivisor (za : Int) (zb : Int) : Int :=
  f_XG_greatestDivisor_L9 za zb (Int.toNat (100 - 0) + 1) za zb 0
noncomputable def f_XG_greatestDivisor : Int → Int → Int := jopq g_XG_greatestDivisor
theorem f_XG_greatestDivisor_q : f_XG_greatestDivisor = g_XG_greatestDivisor := jopq_eq _
theorem f_XG_greatestDivisor_s (za : Int) (zb : Int) : f_XG_greatestDivisor za zb = (
    f_XG_greatestDivisor_L9 za zb (Int.toNat (100 - 0) + 1) za zb 0
  : Int) := by rw [f_XG_greatestDivisor_q]; rfl
theorem f_XG_greatestDivisor_L (za zb : Int) : ∀ (n : Nat) (u9 v k : Int), (-1000000000000000000 ≤ u9 ∧ u9 ≤ 1000000000000000000) → (-1000000000000000000 ≤ v ∧ v ≤ 1000000000000000000) → -1000000000000000000 ≤ f_XG_greatestDivisor_L9 za zb n u9 v k ∧ f_XG_greatestDivisor_L9 za zb n u9 v k ≤ 1000000000000000000 := by
  intro n
  induction n with
  | zero => intro u9 v k _ _; simp only [f_XG_greatestDivisor_L9_z] <;> omega
  | succ n ih =>
    intro u9 v k h1 h2
    rw [f_XG_greatestDivisor_L9_s]
    (repeat' split) <;> first | exact h1 | exact ih _ _ _ h2 (jtmod_le h1)
theorem f_XG_greatestDivisor_b (za : Int) (zb : Int) (hza : -1000000000000000000 ≤ za ∧ za ≤ 1000000000000000000) (hzb : -1000000000000000000 ≤ zb ∧ zb ≤ 1000000000000000000) : -1000000000000000000 ≤ (f_XG_greatestDivisor za zb) ∧ (f_XG_greatestDivisor za zb) ≤ 1000000000000000000 := by rw [f_XG_greatestDivisor_s]; exact f_XG_greatestDivisor_L _ _ _ _ _ _ hza hzb
set_option maxHeartbeats 4000000 in
set_option maxRecDepth 100000 in
theorem c_XG_greatestDivisor (l : Launch) (dC : Nat → ClassId) (dI : Nat → Nat → Nat) (cA : ClassId) (za : Int) (zb : Int) (hza : -1000000000000000000 ≤ za ∧ za ≤ 1000000000000000000) (hzb : -1000000000000000000 ≤ zb ∧ zb ≤ 1000000000000000000) : Met l yXG_greatestDivisor (Cond.code yXG_greatestDivisor cXG_greatestDivisor 11 (some .long) :: TBL) ({ frames := 0, cells := 0, slots := 0, locals := 0 } : Room) (va_Pc [.long (jL za), .long (jL zb)] (jB (dC, dI) [(cA, .int)] [])) (vp_Sl (fun r => r = jL (f_XG_greatestDivisor za zb))) 0 0 (fun _ => False) := by
  refine jMet (cc := cXG_greatestDivisor) (maxL := 11) (ret := some .long) (by decide) rfl ?_
  intro p e s m args below meth c s₁ R Q hR hQ B hml hv
  obtain ⟨rfl, hP, hK, hN⟩ := hv
  have hx := B.exec
  have hb := B.bytes
  have hr := B.returns
  have hts := atoms_spec (ws := Cond.code yXG_greatestDivisor cXG_greatestDivisor 11 (some .long) :: TBL) B.pre
  have hown : s.vm.findClass RXG = some m.cls := findClass_of_methodNamed B.named
  have hlocks := B.notSynchronized
  have hP : va_P (dC, dI) vwCl [] s.heap := hP
  have hl := lv_entry ([.long (jL za), .long (jL zb)]) (n := 11) (Nat.le_of_ble_eq_true rfl)
  rw [lg_entry_eq]
  generalize (lg_sl ([.long (jL za), .long (jL zb)]) ++ List.replicate (11 - (lg_sl ([.long (jL za), .long (jL zb)])).length) Slot.unset).toArray = ls at hl ⊢
  have hl : lv_has ls 11 [(0, .long (jL za)), (2, .long (jL zb))] := hl
  refine lv_lload_n hx hb dXG_greatestDivisor_0 rfl (lv_at hl 0 rfl) ?_
  refine lv_lstore (lv' := [(4, .long (jL za)), (0, .long (jL za)), (2, .long (jL zb))]) hx hb dXG_greatestDivisor_1 hl (by decide) rfl (fun ls hl => ?_)
  refine lv_lload_n hx hb dXG_greatestDivisor_3 rfl (lv_at hl 2 rfl) ?_
  refine lv_lstore (lv' := [(6, .long (jL zb)), (4, .long (jL za)), (0, .long (jL za)), (2, .long (jL zb))]) hx hb dXG_greatestDivisor_4 hl (by decide) rfl (fun ls hl => ?_)
  refine ji_iconst hx hb dXG_greatestDivisor_6 ?_
  refine lv_istore (lv' := [(8, .int (jI 0)), (6, .long (jL zb)), (4, .long (jL za)), (0, .long (jL za)), (2, .long (jL zb))]) hx hb dXG_greatestDivisor_7 hl (by decide) rfl (fun ls hl => ?_)
  have loop9 : ∀ (n9 : Nat) (u9 : Int) (v : Int) (k : Int) , 100 - k < (n9 : Int) → f_XG_greatestDivisor_L9 za zb n9 u9 v k = f_XG_greatestDivisor za zb → (0 ≤ k ∧ k ≤ 100) → (-1000000000000000000 ≤ u9 ∧ u9 ≤ 1000000000000000000) → (-1000000000000000000 ≤ v ∧ v ≤ 1000000000000000000) → ∀ ls : Array Slot, lv_has ls 11 [(8, .int (jI k)), (6, .long (jL v)), (4, .long (jL u9)), (0, .long (jL za)), (2, .long (jL zb))] → W p l e R s m ([.long (jL za), .long (jL zb)] : List Value).toArray below meth c s.heap [] 0 0 Q (F0 m 9 ls []) := by
    intro n9
    induction n9 with
    | zero =>
      intro u9 v k hm hF hk hu hv
      exact absurd hm (by omega)
    | succ n9 ih9 =>
      intro u9 v k hm hF hk hu hv ls hl
      refine lv_iload hx hb dXG_greatestDivisor_9 (lv_at hl 0 rfl) ?_
      refine ji_bipush hx hb dXG_greatestDivisor_11 (by decide) ?_
      refine ji_icmp_ge (tgt := 44) hx hb dXG_greatestDivisor_13 (by decide) (by omega) (by omega) (fun c13_ => ?_) (fun c13_ => ?_)
      · refine lv_lload hx hb dXG_greatestDivisor_44 (lv_at hl 2 rfl) ?_
        subst hQ
        exact W.lret (v := jL u9) hx hb hr (fun t ht hW => ⟨_, rfl, congrArg jL (Eq.trans (by rw [f_XG_greatestDivisor_L9_s]; rw [if_neg (Int.not_lt.mpr c13_)]; try rfl) hF), ht⟩) (fun _ h => nomatch h) dXG_greatestDivisor_46
      · refine lv_lload hx hb dXG_greatestDivisor_16 (lv_at hl 1 rfl) ?_
        refine ji_lconst (z := 0) hx hb dXG_greatestDivisor_18 rfl ?_
        refine ji_lcmp hx hb dXG_greatestDivisor_19 (by omega) (by omega) ?_
        refine ji_if_eq (tgt := 44) hx hb dXG_greatestDivisor_20 (by decide) (jcmp_i _ _) (fun c20_ => ?_) (fun c20_ => ?_)
        · have c20_ := jcmp_eq.mp c20_
          refine lv_lload hx hb dXG_greatestDivisor_44 (lv_at hl 2 rfl) ?_
          subst hQ
          exact W.lret (v := jL u9) hx hb hr (fun t ht hW => ⟨_, rfl, congrArg jL (Eq.trans (by rw [f_XG_greatestDivisor_L9_s]; rw [if_pos c13_, if_pos c20_]; try rfl) hF), ht⟩) (fun _ h => nomatch h) dXG_greatestDivisor_46
        · have c20_ := jcmp_ne.mp c20_
          refine lv_lload hx hb dXG_greatestDivisor_23 (lv_at hl 2 rfl) ?_
          refine lv_lload hx hb dXG_greatestDivisor_25 (lv_at hl 1 rfl) ?_
          refine ji_lrem_any hx hb dXG_greatestDivisor_27 (by omega) (by omega) (by omega) ?_
          refine lv_lstore (lv' := [(9, .long (jL (Int.tmod u9 v))), (8, .int (jI k)), (6, .long (jL v)), (4, .long (jL u9)), (0, .long (jL za)), (2, .long (jL zb))]) hx hb dXG_greatestDivisor_28 hl (by decide) rfl (fun ls hl => ?_)
          refine lv_lload hx hb dXG_greatestDivisor_30 (lv_at hl 2 rfl) ?_
          refine lv_lstore (lv' := [(4, .long (jL v)), (9, .long (jL (Int.tmod u9 v))), (8, .int (jI k)), (6, .long (jL v)), (0, .long (jL za)), (2, .long (jL zb))]) hx hb dXG_greatestDivisor_32 hl (by decide) rfl (fun ls hl => ?_)
          refine lv_lload hx hb dXG_greatestDivisor_34 (lv_at hl 1 rfl) ?_
          refine lv_lstore (lv' := [(6, .long (jL (Int.tmod u9 v))), (4, .long (jL v)), (9, .long (jL (Int.tmod u9 v))), (8, .int (jI k)), (0, .long (jL za)), (2, .long (jL zb))]) hx hb dXG_greatestDivisor_36 hl (by decide) rfl (fun ls hl => ?_)
          refine ji_iinc (k := 3) (lv' := [(8, .int (jI (k + 1))), (6, .long (jL (Int.tmod u9 v))), (4, .long (jL v)), (9, .long (jL (Int.tmod u9 v))), (0, .long (jL za)), (2, .long (jL zb))]) hx hb dXG_greatestDivisor_38 hl rfl (by decide) rfl (fun ls hl => ?_)
          refine lv_goto (tgt := 9) hx hb dXG_greatestDivisor_41 (by decide) ?_
          exact ih9 v (Int.tmod u9 v) (k + 1) (by omega) (Eq.trans (by rw [f_XG_greatestDivisor_L9_s]; rw [if_pos c13_, if_neg c20_]; try rfl) hF) (by first | assumption | omega) (by first | assumption | omega) (jtmod_le hu) ls (lv_sub hl [0, 1, 2, 4, 5] rfl)
  exact loop9 (Int.toNat (100 - 0) + 1) za zb 0 (by omega) (Eq.trans (by rw [f_XG_greatestDivisor_s]; try rfl) rfl) (by first | assumption | omega) (by first | assumption | omega) (by first | assumption | omega) ls (lv_sub hl [0, 1, 2, 3, 4] rfl)
noncomputable def g_XG_inLowestTerms (za : Int) (zp : Int) : Int :=
  if (f_XG_greatestDivisor za 232792560) < 1 then
    0
  else
    if zp = 0 then
      Int.tdiv za (f_XG_greatestDivisor za 232792560)
    else
      Int.tdiv 232792560 (f_XG_greatestDivisor za 232792560)
noncomputable def f_XG_inLowestTerms : Int → Int → Int := jopq g_XG_inLowestTerms
theorem f_XG_inLowestTerms_q : f_XG_inLowestTerms = g_XG_inLowestTerms := jopq_eq _
theorem f_XG_inLowestTerms_s (za : Int) (zp : Int) : f_XG_inLowestTerms za zp = (
    if (f_XG_greatestDivisor za 232792560) < 1 then
      0
    else
      if zp = 0 then
        Int.tdiv za (f_XG_greatestDivisor za 232792560)
      else
        Int.tdiv 232792560 (f_XG_greatestDivisor za 232792560)
  : Int) := by rw [f_XG_inLowestTerms_q]; rfl
set_option maxHeartbeats 4000000 in
set_option maxRecDepth 100000 in
theorem c_XG_inLowestTerms (l : Launch) (dC : Nat → ClassId) (dI : Nat → Nat → Nat) (cA : ClassId) (za : Int) (zp : Int) (hza : -1000000000000000000 ≤ za ∧ za ≤ 1000000000000000000) (hzp : i32 zp) : Met l yXG_inLowestTerms (Cond.code yXG_inLowestTerms cXG_inLowestTerms 5 (some .long) :: TBL) ({ frames := 1, cells := 0, slots := 0, locals := 30 } : Room) (va_Pc [.long (jL za), .int (jI zp)] (jB (dC, dI) [(cA, .int)] [])) (vp_Sl (fun r => r = jL (f_XG_inLowestTerms za zp))) 0 0 (fun _ => False) := by
  refine jMet (cc := cXG_inLowestTerms) (maxL := 5) (ret := some .long) (by decide) rfl ?_
  intro p e s m args below meth c s₁ R Q hR hQ B hml hv
  obtain ⟨rfl, hP, hK, hN⟩ := hv
  have hx := B.exec
  have hb := B.bytes
  have hr := B.returns
  have hts := atoms_spec (ws := Cond.code yXG_inLowestTerms cXG_inLowestTerms 5 (some .long) :: TBL) B.pre
  have hown : s.vm.findClass RXG = some m.cls := findClass_of_methodNamed B.named
  have hlocks := B.notSynchronized
  have hP : va_P (dC, dI) vwCl [] s.heap := hP
  have hl := lv_entry ([.long (jL za), .int (jI zp)]) (n := 5) (Nat.le_of_ble_eq_true rfl)
  rw [lg_entry_eq]
  generalize (lg_sl ([.long (jL za), .int (jI zp)]) ++ List.replicate (5 - (lg_sl ([.long (jL za), .int (jI zp)])).length) Slot.unset).toArray = ls at hl ⊢
  have hl : lv_has ls 5 [(0, .long (jL za)), (2, .int (jI zp))] := hl
  refine lv_lload_n hx hb dXG_inLowestTerms_0 rfl (lv_at hl 0 rfl) ?_
  refine lv_ldc2 hx hb hown (hts _ (jmem tw_498)) dXG_inLowestTerms_1 ?_
  refine ji_rel (y := 232792560) (by decide) ?_
  refine jrSl (rest := []) ⟨hx, hb, hml, hown, hts⟩ (c_XG_greatestDivisor l dC dI cA za 232792560 (by first | assumption | omega) (by first | assumption | omega)) (cwS 2 hts (jG_S tw_499 tw_500 tw_1 tw_501) rfl rfl rfl (by decide +kernel) (by rw [hR]; exact ⟨Nat.le_of_ble_eq_true rfl, Nat.le_of_ble_eq_true rfl⟩)) hK hP hN [] rfl rfl hl.1 rfl (Nat.le_of_ble_eq_true rfl) dXG_inLowestTerms_4 (by rw [hR]; exact ⟨Nat.le_of_ble_eq_true rfl, Nat.le_of_ble_eq_true rfl⟩) ?_
  have f := f_XG_greatestDivisor_b za 232792560 (by first | assumption | omega) (by first | assumption | omega)
  refine lv_lstore_n (lv' := [(3, .long (jL (f_XG_greatestDivisor za 232792560))), (0, .long (jL za)), (2, .int (jI zp))]) hx hb dXG_inLowestTerms_7 rfl hl (by decide) rfl (fun ls hl => ?_)
  refine lv_lload_n hx hb dXG_inLowestTerms_8 rfl (lv_at hl 0 rfl) ?_
  refine ji_lconst (z := 1) hx hb dXG_inLowestTerms_9 rfl ?_
  refine ji_lcmp hx hb dXG_inLowestTerms_10 (by omega) (by omega) ?_
  refine ji_if_ge (tgt := 16) hx hb dXG_inLowestTerms_11 (by decide) (jcmp_i _ _) (fun c11_ => ?_) (fun c11_ => ?_)
  · have c11_ := jcmp_nlt.mp c11_
    refine lv_iload_n hx hb dXG_inLowestTerms_16 rfl (lv_at hl 2 rfl) ?_
    refine ji_if_ne (tgt := 24) hx hb dXG_inLowestTerms_17 (by decide) (by omega) (fun c17_ => ?_) (fun c17_ => ?_)
    · refine lv_ldc2 hx hb hown (hts _ (jmem tw_498)) dXG_inLowestTerms_24 ?_
      refine ji_rel (y := 232792560) (by decide) ?_
      refine lv_lload_n hx hb dXG_inLowestTerms_27 rfl (lv_at hl 0 rfl) ?_
      refine ji_ldiv hx hb dXG_inLowestTerms_28 (by omega) (by omega) (by omega) (by omega) ?_
      subst hQ
      exact W.lret (v := jL (Int.tdiv 232792560 (f_XG_greatestDivisor za 232792560))) hx hb hr (fun t ht hW => ⟨_, rfl, congrArg jL (Eq.trans (by rw [f_XG_inLowestTerms_s]; rw [if_neg (Int.not_lt.mpr c11_), if_neg c17_]; try rfl) rfl), ht⟩) (fun _ h => nomatch h) dXG_inLowestTerms_29
    · refine lv_lload_n hx hb dXG_inLowestTerms_20 rfl (lv_at hl 1 rfl) ?_
      refine lv_goto (tgt := 27) hx hb dXG_inLowestTerms_21 (by decide) ?_
      refine lv_lload_n hx hb dXG_inLowestTerms_27 rfl (lv_at hl 0 rfl) ?_
      refine ji_ldiv hx hb dXG_inLowestTerms_28 (by omega) (by omega) (by omega) (by omega) ?_
      subst hQ
      exact W.lret (v := jL (Int.tdiv za (f_XG_greatestDivisor za 232792560))) hx hb hr (fun t ht hW => ⟨_, rfl, congrArg jL (Eq.trans (by rw [f_XG_inLowestTerms_s]; rw [if_neg (Int.not_lt.mpr c11_), if_pos c17_]; try rfl) rfl), ht⟩) (fun _ h => nomatch h) dXG_inLowestTerms_29
  · have c11_ := jcmp_lt.mp c11_
    refine ji_lconst (z := 0) hx hb dXG_inLowestTerms_14 rfl ?_
    subst hQ
    exact W.lret (v := jL 0) hx hb hr (fun t ht hW => ⟨_, rfl, congrArg jL (Eq.trans (by rw [f_XG_inLowestTerms_s]; rw [if_pos c11_]; try rfl) rfl), ht⟩) (fun _ h => nomatch h) dXG_inLowestTerms_15

end
section
noncomputable def g_XG_clear (tn : Int) (tp : Int) (tw : Int) (tf : Int → Int) (bg : Int) (bf : Int) (ft : Int → Int) (fh : Int → Int) (fq : Int → Int) (fr : Int → Int) (fd : Int → Int) (fs : Int → Int) : Int × (Int → Int) × (Int → Int) × (Int → Int) × (Int → Int) × (Int → Int) × Int × Int × (Int → Int) :=
  match f_XB_forget bg bf ft fh fq fr fd with
  | (ft1', fh1', fq1', fr1', fd1', bg1', bf1') =>
    (f_XT_empty tn tp tw tf, ft1', fh1', fq1', fr1', fd1', bg1', bf1', f_XA_fill8 fs 0)
noncomputable def f_XG_clear : Int → Int → Int → (Int → Int) → Int → Int → (Int → Int) → (Int → Int) → (Int → Int) → (Int → Int) → (Int → Int) → (Int → Int) → Int × (Int → Int) × (Int → Int) × (Int → Int) × (Int → Int) × (Int → Int) × Int × Int × (Int → Int) := jopq g_XG_clear
theorem f_XG_clear_q : f_XG_clear = g_XG_clear := jopq_eq _
theorem f_XG_clear_s (tn : Int) (tp : Int) (tw : Int) (tf : Int → Int) (bg : Int) (bf : Int) (ft : Int → Int) (fh : Int → Int) (fq : Int → Int) (fr : Int → Int) (fd : Int → Int) (fs : Int → Int) : f_XG_clear tn tp tw tf bg bf ft fh fq fr fd fs = (
    match f_XB_forget bg bf ft fh fq fr fd with
    | (ft1', fh1', fq1', fr1', fd1', bg1', bf1') =>
      (f_XT_empty tn tp tw tf, ft1', fh1', fq1', fr1', fd1', bg1', bf1', f_XA_fill8 fs 0)
  : Int × (Int → Int) × (Int → Int) × (Int → Int) × (Int → Int) × (Int → Int) × Int × Int × (Int → Int)) := by rw [f_XG_clear_q]; rfl
set_option maxHeartbeats 4000000 in
set_option maxRecDepth 100000 in
theorem c_XG_clear (l : Launch) (dC : Nat → ClassId) (dI : Nat → Nat → Nat) (cA : ClassId) (sz : Nat) (ga : Nat) (rda : Nat) (pa : Nat) (sa : Nat) (ea : Nat) (da : Nat) (ta : Nat) (ts : Nat) (tn : Int) (tp : Int) (tw : Int) (tf : Int → Int) (ba : Nat) (bt : Nat) (bp : Nat) (bl : Nat) (bh : Nat) (bq : Nat) (br : Nat) (bd : Nat) (bg : Int) (bf : Int) (ft : Int → Int) (fh : Int → Int) (fq : Int → Int) (fr : Int → Int) (fd : Int → Int) (fs : Int → Int) (hbt : ∀ i, 0 ≤ ft i ∧ ft i ≤ 30) (hbh : ∀ i, -1 ≤ fh i ∧ fh i ≤ 100000) (hbq : ∀ i, -1 ≤ fq i ∧ fq i ≤ 999999) (hbr : ∀ i, 0 ≤ fr i ∧ fr i < 2147483648) (hbd : ∀ i, 0 ≤ fd i ∧ fd i ≤ 20) : Met l yXG_clear (Cond.code yXG_clear cXG_clear 1 none :: TBL) ({ frames := 2, cells := 0, slots := 0, locals := 43 } : Room) (va_Pc [.ref ga] (jBw (dC, dI) [(cA, .int)] [(ga, .inr (4, [.ref ta, .ref rda, .ref pa, .ref sa, .ref ea, .ref ba, .ref da])), (ta, .inr (3, [.ref ts, .int (jI tn), .int (jI tp), .int (jI tw)])), (ts, .inl (cA, 400, .inl (jA tf))), (ba, .inr (0, [.ref bt, .ref bp, .ref bl, .ref bh, .ref bq, .ref br, .ref bd, .int (jI bg), .int (jI bf)])), (bt, .inl (cA, 31, .inl (jA ft))), (bh, .inl (cA, 248, .inl (jA fh))), (bq, .inl (cA, 124, .inl (jA fq))), (br, .inl (cA, 31, .inl (jA fr))), (bd, .inl (cA, 32, .inl (jA fd))), (sa, .inl (cA, 8, .inl (jA fs)))] sz)) (va_Qv (fun (u : Int × (Int → Int) × (Int → Int) × (Int → Int) × (Int → Int) × (Int → Int) × Int × Int × (Int → Int)) => u = f_XG_clear tn tp tw tf bg bf ft fh fq fr fd fs ∧ (u.1 = 0) ∧ (∀ i, 0 ≤ u.2.1 i ∧ u.2.1 i ≤ 30) ∧ (∀ i, -1 ≤ u.2.2.1 i ∧ u.2.2.1 i ≤ 100000) ∧ (∀ i, -1 ≤ u.2.2.2.1 i ∧ u.2.2.2.1 i ≤ 999999) ∧ (∀ i, 0 ≤ u.2.2.2.2.1 i ∧ u.2.2.2.2.1 i < 2147483648) ∧ (∀ i, 0 ≤ u.2.2.2.2.2.1 i ∧ u.2.2.2.2.2.1 i ≤ 20) ∧ (u.2.2.2.2.2.2.1 = 0) ∧ (u.2.2.2.2.2.2.2.1 = 0)) (fun u t => jE (dC, dI) [(cA, .int)] [(ga, .inr (4, [.ref ta, .ref rda, .ref pa, .ref sa, .ref ea, .ref ba, .ref da])), (ta, .inr (3, [.ref ts, .int (jI tn), .int (jI tp), .int (jI tw)])), (ts, .inl (cA, 400, .inl (jA tf))), (ba, .inr (0, [.ref bt, .ref bp, .ref bl, .ref bh, .ref bq, .ref br, .ref bd, .int (jI bg), .int (jI bf)])), (bt, .inl (cA, 31, .inl (jA ft))), (bh, .inl (cA, 248, .inl (jA fh))), (bq, .inl (cA, 124, .inl (jA fq))), (br, .inl (cA, 31, .inl (jA fr))), (bd, .inl (cA, 32, .inl (jA fd))), (sa, .inl (cA, 8, .inl (jA fs)))] sz [(ga, .inr (4, [.ref ta, .ref rda, .ref pa, .ref sa, .ref ea, .ref ba, .ref da])), (ta, .inr (3, [.ref ts, .int (jI u.1), .int (jI tp), .int (jI tw)])), (ts, .inl (cA, 400, .inl (jA tf))), (ba, .inr (0, [.ref bt, .ref bp, .ref bl, .ref bh, .ref bq, .ref br, .ref bd, .int (jI u.2.2.2.2.2.2.1), .int (jI u.2.2.2.2.2.2.2.1)])), (bt, .inl (cA, 31, .inl (jA u.2.1))), (bh, .inl (cA, 248, .inl (jA u.2.2.1))), (bq, .inl (cA, 124, .inl (jA u.2.2.2.1))), (br, .inl (cA, 31, .inl (jA u.2.2.2.2.1))), (bd, .inl (cA, 32, .inl (jA u.2.2.2.2.2.1))), (sa, .inl (cA, 8, .inl (jA u.2.2.2.2.2.2.2.2)))] t) (va_A [(ga, .inr (4, [.ref ta, .ref rda, .ref pa, .ref sa, .ref ea, .ref ba, .ref da])), (ta, .inr (3, [.ref ts, .int (jI tn), .int (jI tp), .int (jI tw)])), (ts, .inl (cA, 400, .inl (jA tf))), (ba, .inr (0, [.ref bt, .ref bp, .ref bl, .ref bh, .ref bq, .ref br, .ref bd, .int (jI bg), .int (jI bf)])), (bt, .inl (cA, 31, .inl (jA ft))), (bh, .inl (cA, 248, .inl (jA fh))), (bq, .inl (cA, 124, .inl (jA fq))), (br, .inl (cA, 31, .inl (jA fr))), (bd, .inl (cA, 32, .inl (jA fd))), (sa, .inl (cA, 8, .inl (jA fs)))] sz)) 0 0 (va_A [(ga, .inr (4, [.ref ta, .ref rda, .ref pa, .ref sa, .ref ea, .ref ba, .ref da])), (ta, .inr (3, [.ref ts, .int (jI tn), .int (jI tp), .int (jI tw)])), (ts, .inl (cA, 400, .inl (jA tf))), (ba, .inr (0, [.ref bt, .ref bp, .ref bl, .ref bh, .ref bq, .ref br, .ref bd, .int (jI bg), .int (jI bf)])), (bt, .inl (cA, 31, .inl (jA ft))), (bh, .inl (cA, 248, .inl (jA fh))), (bq, .inl (cA, 124, .inl (jA fq))), (br, .inl (cA, 31, .inl (jA fr))), (bd, .inl (cA, 32, .inl (jA fd))), (sa, .inl (cA, 8, .inl (jA fs)))] sz) := by
  refine jMet (cc := cXG_clear) (maxL := 1) (ret := none) (by decide) rfl ?_
  intro p e s m args below meth c s₁ R Q hR hQ B hml hv
  obtain ⟨rfl, hsz, hP, hK, hD0, hN⟩ := hv
  have hx := B.exec
  have hb := B.bytes
  have hr := B.returns
  have hts := atoms_spec (ws := Cond.code yXG_clear cXG_clear 1 none :: TBL) B.pre
  have hown : s.vm.findClass RXG = some m.cls := findClass_of_methodNamed B.named
  have hlocks := B.notSynchronized
  subst hsz
  obtain ⟨A, hAe⟩ : ∃ A, A = va_A [(ga, .inr (4, [.ref ta, .ref rda, .ref pa, .ref sa, .ref ea, .ref ba, .ref da])), (ta, .inr (3, [.ref ts, .int (jI tn), .int (jI tp), .int (jI tw)])), (ts, .inl (cA, 400, .inl (jA tf))), (ba, .inr (0, [.ref bt, .ref bp, .ref bl, .ref bh, .ref bq, .ref br, .ref bd, .int (jI bg), .int (jI bf)])), (bt, .inl (cA, 31, .inl (jA ft))), (bh, .inl (cA, 248, .inl (jA fh))), (bq, .inl (cA, 124, .inl (jA fq))), (br, .inl (cA, 31, .inl (jA fr))), (bd, .inl (cA, 32, .inl (jA fd))), (sa, .inl (cA, 8, .inl (jA fs)))] s.heap.size := ⟨_, rfl⟩
  have hD : va_D A [(ga, .inr (4, [.ref ta, .ref rda, .ref pa, .ref sa, .ref ea, .ref ba, .ref da])), (ta, .inr (3, [.ref ts, .int (jI tn), .int (jI tp), .int (jI tw)])), (ts, .inl (cA, 400, .inl (jA tf))), (ba, .inr (0, [.ref bt, .ref bp, .ref bl, .ref bh, .ref bq, .ref br, .ref bd, .int (jI bg), .int (jI bf)])), (bt, .inl (cA, 31, .inl (jA ft))), (bh, .inl (cA, 248, .inl (jA fh))), (bq, .inl (cA, 124, .inl (jA fq))), (br, .inl (cA, 31, .inl (jA fr))), (bd, .inl (cA, 32, .inl (jA fd))), (sa, .inl (cA, 8, .inl (jA fs)))] := by rw [hAe]; exact hD0.self
  have hA : ∀ q : Nat, s.heap.size ≤ q → A q := fun q h => by rw [hAe]; exact Or.inr h
  have hS : va_S A s.heap s.heap [] := va_S.rf
  have hP : va_P (dC, dI) vwCl [(ga, .inr (4, [.ref ta, .ref rda, .ref pa, .ref sa, .ref ea, .ref ba, .ref da])), (ta, .inr (3, [.ref ts, .int (jI tn), .int (jI tp), .int (jI tw)])), (ts, .inl (cA, 400, .inl (jA tf))), (ba, .inr (0, [.ref bt, .ref bp, .ref bl, .ref bh, .ref bq, .ref br, .ref bd, .int (jI bg), .int (jI bf)])), (bt, .inl (cA, 31, .inl (jA ft))), (bh, .inl (cA, 248, .inl (jA fh))), (bq, .inl (cA, 124, .inl (jA fq))), (br, .inl (cA, 31, .inl (jA fr))), (bd, .inl (cA, 32, .inl (jA fd))), (sa, .inl (cA, 8, .inl (jA fs)))] s.heap := hP
  have hl := lv_entry ([.ref ga]) (n := 1) (Nat.le_of_ble_eq_true rfl)
  rw [lg_entry_eq]
  generalize (lg_sl ([.ref ga]) ++ List.replicate (1 - (lg_sl ([.ref ga])).length) Slot.unset).toArray = ls at hl ⊢
  have hl : lv_has ls 1 [(0, .ref ga)] := hl
  refine lv_aload_n hx hb dXG_clear_0 rfl (lv_at hl 0 rfl) ?_
  refine va_get (D := (dC, dI)) (ci := 4) (v := .ref ta) (C := RXG) (T := TXG) (N := 7) hx hb hts (fun w h => jmem (inXG w h)) hown hK hP 0 rfl rfl 0 (by decide) (hts _ (jmem tw_101)) (fun _ h9 => h9) rfl dXG_clear_1 ?_
  refine jwVv (rest := []) (wr := [(ga, .inr (4, [.ref ta, .ref rda, .ref pa, .ref sa, .ref ea, .ref ba, .ref da])), (ba, .inr (0, [.ref bt, .ref bp, .ref bl, .ref bh, .ref bq, .ref br, .ref bd, .int (jI bg), .int (jI bf)])), (bt, .inl (cA, 31, .inl (jA ft))), (bh, .inl (cA, 248, .inl (jA fh))), (bq, .inl (cA, 124, .inl (jA fq))), (br, .inl (cA, 31, .inl (jA fr))), (bd, .inl (cA, 32, .inl (jA fd))), (sa, .inl (cA, 8, .inl (jA fs)))]) ⟨hx, hb, hml, hown, hts⟩ (c_XT_empty l dC dI cA _ ta ts tn tp tw tf) (cwV 0 hts (jG_V tw_269 tw_270 tw_271 tw_2 tw_272) rfl rfl rfl (by decide +kernel) (by rw [hR]; exact ⟨Nat.le_of_ble_eq_true rfl, Nat.le_of_ble_eq_true rfl⟩)) hK hP hD hS hA hN [1, 2] [0, 3, 4, 5, 6, 7, 8, 9] rfl rfl (by decide) (by decide) (by decide) 1 3 rfl rfl rfl rfl hl.1 rfl (Nat.le_of_ble_eq_true rfl) dXG_clear_4 (by rw [hR]; exact ⟨Nat.le_of_ble_eq_true rfl, Nat.le_of_ble_eq_true rfl⟩) (fun u H locs hw hP hD hS => ?_)
  subst hw
  have hP : va_P (dC, dI) vwCl [(ga, .inr (4, [.ref ta, .ref rda, .ref pa, .ref sa, .ref ea, .ref ba, .ref da])), (ba, .inr (0, [.ref bt, .ref bp, .ref bl, .ref bh, .ref bq, .ref br, .ref bd, .int (jI bg), .int (jI bf)])), (bt, .inl (cA, 31, .inl (jA ft))), (bh, .inl (cA, 248, .inl (jA fh))), (bq, .inl (cA, 124, .inl (jA fq))), (br, .inl (cA, 31, .inl (jA fr))), (bd, .inl (cA, 32, .inl (jA fd))), (sa, .inl (cA, 8, .inl (jA fs))), (ta, .inr (3, [.ref ts, .int (jI (f_XT_empty tn tp tw tf)), .int (jI tp), .int (jI tw)])), (ts, .inl (cA, 400, .inl (jA tf)))] H := hP
  have hD : va_D A [(ga, .inr (4, [.ref ta, .ref rda, .ref pa, .ref sa, .ref ea, .ref ba, .ref da])), (ba, .inr (0, [.ref bt, .ref bp, .ref bl, .ref bh, .ref bq, .ref br, .ref bd, .int (jI bg), .int (jI bf)])), (bt, .inl (cA, 31, .inl (jA ft))), (bh, .inl (cA, 248, .inl (jA fh))), (bq, .inl (cA, 124, .inl (jA fq))), (br, .inl (cA, 31, .inl (jA fr))), (bd, .inl (cA, 32, .inl (jA fd))), (sa, .inl (cA, 8, .inl (jA fs))), (ta, .inr (3, [.ref ts, .int (jI (f_XT_empty tn tp tw tf)), .int (jI tp), .int (jI tw)])), (ts, .inl (cA, 400, .inl (jA tf)))] := hD
  have f := f_XT_empty_b tn tp tw tf
  refine lv_aload_n hx hb dXG_clear_7 rfl (lv_at hl 0 rfl) ?_
  refine va_get (D := (dC, dI)) (ci := 4) (v := .ref ba) (C := RXG) (T := TXG) (N := 7) hx hb hts (fun w h => jmem (inXG w h)) hown hK hP 0 rfl rfl 5 (by decide) (hts _ (jmem tw_106)) (fun _ h9 => h9) rfl dXG_clear_8 ?_
  refine jwVv (rest := []) (wr := [(ga, .inr (4, [.ref ta, .ref rda, .ref pa, .ref sa, .ref ea, .ref ba, .ref da])), (sa, .inl (cA, 8, .inl (jA fs))), (ta, .inr (3, [.ref ts, .int (jI (f_XT_empty tn tp tw tf)), .int (jI tp), .int (jI tw)])), (ts, .inl (cA, 400, .inl (jA tf)))]) ⟨hx, hb, hml, hown, hts⟩ (c_XB_forget l dC dI cA _ ba bt bp bl bh bq br bd bg bf ft fh fq fr fd (by first | assumption | omega) (by first | assumption | omega) (by first | assumption | omega) (by first | assumption | omega) (by first | assumption | omega)) (cwV 0 hts (jG_V tw_127 tw_128 tw_129 tw_5 tw_130) rfl rfl rfl (by decide +kernel) (by rw [hR]; exact ⟨Nat.le_of_ble_eq_true rfl, Nat.le_of_ble_eq_true rfl⟩)) hK hP hD hS hA hN [1, 2, 3, 4, 5, 6] [0, 7, 8, 9] rfl rfl (by decide) (by decide) (by decide) 1 0 rfl rfl rfl rfl hl.1 rfl (Nat.le_of_ble_eq_true rfl) dXG_clear_11 (by rw [hR]; exact ⟨Nat.le_of_ble_eq_true rfl, Nat.le_of_ble_eq_true rfl⟩) (fun u1 H locs hwb hP hD hS => ?_)
  obtain ⟨ft1', fh1', fq1', fr1', fd1', bg1', bf1'⟩ := u1
  try dsimp only at hwb
  obtain ⟨hwb, f2, f3, f4, f5, f6, f7, f8⟩ := hwb
  have f2 : ∀ i, 0 ≤ ft1' i ∧ ft1' i ≤ 30 := f2
  have f3 : ∀ i, -1 ≤ fh1' i ∧ fh1' i ≤ 100000 := f3
  have f4 : ∀ i, -1 ≤ fq1' i ∧ fq1' i ≤ 999999 := f4
  have f5 : ∀ i, 0 ≤ fr1' i ∧ fr1' i < 2147483648 := f5
  have f6 : ∀ i, 0 ≤ fd1' i ∧ fd1' i ≤ 20 := f6
  have f7 : bg1' = 0 := f7
  have f8 : bf1' = 0 := f8
  have hP : va_P (dC, dI) vwCl [(ga, .inr (4, [.ref ta, .ref rda, .ref pa, .ref sa, .ref ea, .ref ba, .ref da])), (sa, .inl (cA, 8, .inl (jA fs))), (ta, .inr (3, [.ref ts, .int (jI (f_XT_empty tn tp tw tf)), .int (jI tp), .int (jI tw)])), (ts, .inl (cA, 400, .inl (jA tf))), (ba, .inr (0, [.ref bt, .ref bp, .ref bl, .ref bh, .ref bq, .ref br, .ref bd, .int (jI bg1'), .int (jI bf1')])), (bt, .inl (cA, 31, .inl (jA ft1'))), (bh, .inl (cA, 248, .inl (jA fh1'))), (bq, .inl (cA, 124, .inl (jA fq1'))), (br, .inl (cA, 31, .inl (jA fr1'))), (bd, .inl (cA, 32, .inl (jA fd1')))] H := hP
  have hD : va_D A [(ga, .inr (4, [.ref ta, .ref rda, .ref pa, .ref sa, .ref ea, .ref ba, .ref da])), (sa, .inl (cA, 8, .inl (jA fs))), (ta, .inr (3, [.ref ts, .int (jI (f_XT_empty tn tp tw tf)), .int (jI tp), .int (jI tw)])), (ts, .inl (cA, 400, .inl (jA tf))), (ba, .inr (0, [.ref bt, .ref bp, .ref bl, .ref bh, .ref bq, .ref br, .ref bd, .int (jI bg1'), .int (jI bf1')])), (bt, .inl (cA, 31, .inl (jA ft1'))), (bh, .inl (cA, 248, .inl (jA fh1'))), (bq, .inl (cA, 124, .inl (jA fq1'))), (br, .inl (cA, 31, .inl (jA fr1'))), (bd, .inl (cA, 32, .inl (jA fd1')))] := hD
  refine lv_aload_n hx hb dXG_clear_14 rfl (lv_at hl 0 rfl) ?_
  refine va_get (D := (dC, dI)) (ci := 4) (v := .ref sa) (C := RXG) (T := TXG) (N := 7) hx hb hts (fun w h => jmem (inXG w h)) hown hK hP 0 rfl rfl 3 (by decide) (hts _ (jmem tw_104)) (fun _ h9 => h9) rfl dXG_clear_15 ?_
  refine ji_iconst hx hb dXG_clear_18 ?_
  refine jwSv (rest := []) (wr := [(ga, .inr (4, [.ref ta, .ref rda, .ref pa, .ref sa, .ref ea, .ref ba, .ref da])), (ta, .inr (3, [.ref ts, .int (jI (f_XT_empty tn tp tw tf)), .int (jI tp), .int (jI tw)])), (ts, .inl (cA, 400, .inl (jA tf))), (ba, .inr (0, [.ref bt, .ref bp, .ref bl, .ref bh, .ref bq, .ref br, .ref bd, .int (jI bg1'), .int (jI bf1')])), (bt, .inl (cA, 31, .inl (jA ft1'))), (bh, .inl (cA, 248, .inl (jA fh1'))), (bq, .inl (cA, 124, .inl (jA fq1'))), (br, .inl (cA, 31, .inl (jA fr1'))), (bd, .inl (cA, 32, .inl (jA fd1')))]) ⟨hx, hb, hml, hown, hts⟩ (c_XA_fill8 l dC dI cA _ sa fs 0) (va_cwS 2 hts (jG_T tw_300 tw_132 tw_12 tw_133) rfl rfl rfl (by decide +kernel) (by rw [hR]; exact ⟨Nat.le_of_ble_eq_true rfl, Nat.le_of_ble_eq_true rfl⟩)) hK hP hD hS hA hN [1] [0, 2, 3, 4, 5, 6, 7, 8, 9] rfl rfl (by decide) (by decide) (by decide) rfl hl.1 rfl (Nat.le_of_ble_eq_true rfl) dXG_clear_19 (by rw [hR]; exact ⟨Nat.le_of_ble_eq_true rfl, Nat.le_of_ble_eq_true rfl⟩) (fun u9 H locs hw hP hD hS => ?_)
  subst hw
  have hP : va_P (dC, dI) vwCl [(ga, .inr (4, [.ref ta, .ref rda, .ref pa, .ref sa, .ref ea, .ref ba, .ref da])), (ta, .inr (3, [.ref ts, .int (jI (f_XT_empty tn tp tw tf)), .int (jI tp), .int (jI tw)])), (ts, .inl (cA, 400, .inl (jA tf))), (ba, .inr (0, [.ref bt, .ref bp, .ref bl, .ref bh, .ref bq, .ref br, .ref bd, .int (jI bg1'), .int (jI bf1')])), (bt, .inl (cA, 31, .inl (jA ft1'))), (bh, .inl (cA, 248, .inl (jA fh1'))), (bq, .inl (cA, 124, .inl (jA fq1'))), (br, .inl (cA, 31, .inl (jA fr1'))), (bd, .inl (cA, 32, .inl (jA fd1'))), (sa, .inl (cA, 8, .inl (jA (f_XA_fill8 fs 0))))] H := hP
  have hD : va_D A [(ga, .inr (4, [.ref ta, .ref rda, .ref pa, .ref sa, .ref ea, .ref ba, .ref da])), (ta, .inr (3, [.ref ts, .int (jI (f_XT_empty tn tp tw tf)), .int (jI tp), .int (jI tw)])), (ts, .inl (cA, 400, .inl (jA tf))), (ba, .inr (0, [.ref bt, .ref bp, .ref bl, .ref bh, .ref bq, .ref br, .ref bd, .int (jI bg1'), .int (jI bf1')])), (bt, .inl (cA, 31, .inl (jA ft1'))), (bh, .inl (cA, 248, .inl (jA fh1'))), (bq, .inl (cA, 124, .inl (jA fq1'))), (br, .inl (cA, 31, .inl (jA fr1'))), (bd, .inl (cA, 32, .inl (jA fd1'))), (sa, .inl (cA, 8, .inl (jA (f_XA_fill8 fs 0))))] := hD
  have hP9 := hP.sub (ws' := [(ga, .inr (4, [.ref ta, .ref rda, .ref pa, .ref sa, .ref ea, .ref ba, .ref da])), (ta, .inr (3, [.ref ts, .int (jI (f_XT_empty tn tp tw tf)), .int (jI tp), .int (jI tw)])), (ts, .inl (cA, 400, .inl (jA tf))), (ba, .inr (0, [.ref bt, .ref bp, .ref bl, .ref bh, .ref bq, .ref br, .ref bd, .int (jI bg1'), .int (jI bf1')])), (bt, .inl (cA, 31, .inl (jA ft1'))), (bh, .inl (cA, 248, .inl (jA fh1'))), (bq, .inl (cA, 124, .inl (jA fq1'))), (br, .inl (cA, 31, .inl (jA fr1'))), (bd, .inl (cA, 32, .inl (jA fd1'))), (sa, .inl (cA, 8, .inl (jA (f_XA_fill8 fs 0))))]) [0, 1, 2, 3, 4, 5, 6, 7, 8, 9] rfl
  have hD9 := hD.sub (ws' := [(ga, .inr (4, [.ref ta, .ref rda, .ref pa, .ref sa, .ref ea, .ref ba, .ref da])), (ta, .inr (3, [.ref ts, .int (jI (f_XT_empty tn tp tw tf)), .int (jI tp), .int (jI tw)])), (ts, .inl (cA, 400, .inl (jA tf))), (ba, .inr (0, [.ref bt, .ref bp, .ref bl, .ref bh, .ref bq, .ref br, .ref bd, .int (jI bg1'), .int (jI bf1')])), (bt, .inl (cA, 31, .inl (jA ft1'))), (bh, .inl (cA, 248, .inl (jA fh1'))), (bq, .inl (cA, 124, .inl (jA fq1'))), (br, .inl (cA, 31, .inl (jA fr1'))), (bd, .inl (cA, 32, .inl (jA fd1'))), (sa, .inl (cA, 8, .inl (jA (f_XA_fill8 fs 0))))]) [0, 1, 2, 3, 4, 5, 6, 7, 8, 9] (by decide) rfl
  subst hAe
  subst hQ
  exact W.vret hx hb hr (fun t ht hW => ⟨⟨(f_XT_empty tn tp tw tf, ft1', fh1', fq1', fr1', fd1', bg1', bf1', f_XA_fill8 fs 0), rfl, ⟨Eq.trans (by rw [f_XG_clear_s]; rw [← hwb]; try dsimp only; try rfl) rfl, show (f_XT_empty tn tp tw tf) = 0 from by first | assumption | omega, show ∀ i, 0 ≤ ft1' i ∧ ft1' i ≤ 30 from by first | assumption | omega, show ∀ i, -1 ≤ fh1' i ∧ fh1' i ≤ 100000 from by first | assumption | omega, show ∀ i, -1 ≤ fq1' i ∧ fq1' i ≤ 999999 from by first | assumption | omega, show ∀ i, 0 ≤ fr1' i ∧ fr1' i < 2147483648 from by first | assumption | omega, show ∀ i, 0 ≤ fd1' i ∧ fd1' i ≤ 20 from by first | assumption | omega, show bg1' = 0 from by first | assumption | omega, show bf1' = 0 from by first | assumption | omega⟩, ⟨by rw [ht]; exact hP9, va_K.moved hW.alike hK, hD9⟩⟩, hS.F ht⟩) hS.2.2 dXG_clear_22
noncomputable def g_XG_read (ba : Nat) (tn : Int) (tp : Int) (tw : Int) (tf : Int → Int) (da : Nat) (dg : Int) (df : Int) (xt : Int → Int) (xp : Int → Int) (xl : Int → Int) (xh : Int → Int) (xq : Int → Int) (xr : Int → Int) (xd : Int → Int) : Int × Nat × Nat × Int × Int × Int × (Int → Int) × (Int → Int) × (Int → Int) × (Int → Int) × (Int → Int) × (Int → Int) × (Int → Int) × Int × Int :=
  match f_XB_forget dg df xt xh xq xr xd with
  | (ft1', fh1', fq1', fr1', fd1', bg1', bf1') =>
    match f_XR_text tn tp tw tf bg1' bf1' ft1' xl fh1' fq1' fr1' fd1' with
    | (r, tp1', tw1', ft1'7, fl1', fh1'8, fq1'9, fr1'10, fd1'11, bg1'12, bf1'13) =>
      if r = 0 then
        ((-1) - (f_XT_wrongPlace (f_XT_empty tn tp1' tw1' tf) tp1' tw1' tf), ba, da, f_XT_empty tn tp1' tw1' tf, tp1', tw1', ft1'7, xp, fl1', fh1'8, fq1'9, fr1'10, fd1'11, bg1'12, bf1'13)
      else
        (f_XB_count bg1'12 bf1'13, da, ba, f_XT_empty tn tp1' tw1' tf, tp1', tw1', ft1'7, f_XB_settle bg1'12 bf1'13 ft1'7 xp, fl1', fh1'8, fq1'9, fr1'10, fd1'11, bg1'12, bf1'13)
noncomputable def f_XG_read : Nat → Int → Int → Int → (Int → Int) → Nat → Int → Int → (Int → Int) → (Int → Int) → (Int → Int) → (Int → Int) → (Int → Int) → (Int → Int) → (Int → Int) → Int × Nat × Nat × Int × Int × Int × (Int → Int) × (Int → Int) × (Int → Int) × (Int → Int) × (Int → Int) × (Int → Int) × (Int → Int) × Int × Int := jopq g_XG_read
theorem f_XG_read_q : f_XG_read = g_XG_read := jopq_eq _
theorem f_XG_read_s (ba : Nat) (tn : Int) (tp : Int) (tw : Int) (tf : Int → Int) (da : Nat) (dg : Int) (df : Int) (xt : Int → Int) (xp : Int → Int) (xl : Int → Int) (xh : Int → Int) (xq : Int → Int) (xr : Int → Int) (xd : Int → Int) : f_XG_read ba tn tp tw tf da dg df xt xp xl xh xq xr xd = (
    match f_XB_forget dg df xt xh xq xr xd with
    | (ft1', fh1', fq1', fr1', fd1', bg1', bf1') =>
      match f_XR_text tn tp tw tf bg1' bf1' ft1' xl fh1' fq1' fr1' fd1' with
      | (r, tp1', tw1', ft1'7, fl1', fh1'8, fq1'9, fr1'10, fd1'11, bg1'12, bf1'13) =>
        if r = 0 then
          ((-1) - (f_XT_wrongPlace (f_XT_empty tn tp1' tw1' tf) tp1' tw1' tf), ba, da, f_XT_empty tn tp1' tw1' tf, tp1', tw1', ft1'7, xp, fl1', fh1'8, fq1'9, fr1'10, fd1'11, bg1'12, bf1'13)
        else
          (f_XB_count bg1'12 bf1'13, da, ba, f_XT_empty tn tp1' tw1' tf, tp1', tw1', ft1'7, f_XB_settle bg1'12 bf1'13 ft1'7 xp, fl1', fh1'8, fq1'9, fr1'10, fd1'11, bg1'12, bf1'13)
  : Int × Nat × Nat × Int × Int × Int × (Int → Int) × (Int → Int) × (Int → Int) × (Int → Int) × (Int → Int) × (Int → Int) × (Int → Int) × Int × Int) := by rw [f_XG_read_q]; rfl
set_option maxHeartbeats 4000000 in
set_option maxRecDepth 100000 in
theorem c_XG_read (l : Launch) (dC : Nat → ClassId) (dI : Nat → Nat → Nat) (cA : ClassId) (sz : Nat) (ga : Nat) (rda : Nat) (pa : Nat) (sa : Nat) (ea : Nat) (ba : Nat) (ta : Nat) (ts : Nat) (tn : Int) (tp : Int) (tw : Int) (tf : Int → Int) (da : Nat) (dt : Nat) (dp : Nat) (dl : Nat) (dh : Nat) (dq : Nat) (dr : Nat) (dd : Nat) (dg : Int) (df : Int) (xt : Int → Int) (xp : Int → Int) (xl : Int → Int) (xh : Int → Int) (xq : Int → Int) (xr : Int → Int) (xd : Int → Int) (hn : 0 ≤ tn ∧ tn ≤ 400) (hf : ∀ i, 0 ≤ tf i ∧ tf i < 256) (hbt9 : ∀ i, 0 ≤ xt i ∧ xt i ≤ 30) (hbp9 : ∀ i, 0 ≤ xp i ∧ xp i ≤ 30) (hbl9 : ∀ i, 0 ≤ xl i ∧ xl i ≤ 100000) (hbh9 : ∀ i, -1 ≤ xh i ∧ xh i ≤ 100000) (hbq9 : ∀ i, -1 ≤ xq i ∧ xq i ≤ 999999) (hbr9 : ∀ i, 0 ≤ xr i ∧ xr i < 2147483648) (hbd9 : ∀ i, 0 ≤ xd i ∧ xd i ≤ 20) : Met l yXG_read (Cond.code yXG_read cXG_read 3 (some .int) :: TBL) ({ frames := 6, cells := 0, slots := 0, locals := 135 } : Room) (va_Pc [.ref ga] (jBw (dC, dI) [(cA, .int)] [(ga, .inr (4, [.ref ta, .ref rda, .ref pa, .ref sa, .ref ea, .ref ba, .ref da])), (ta, .inr (3, [.ref ts, .int (jI tn), .int (jI tp), .int (jI tw)])), (ts, .inl (cA, 400, .inl (jA tf))), (rda, .inr (2, [.ref ta])), (da, .inr (0, [.ref dt, .ref dp, .ref dl, .ref dh, .ref dq, .ref dr, .ref dd, .int (jI dg), .int (jI df)])), (dt, .inl (cA, 31, .inl (jA xt))), (dp, .inl (cA, 31, .inl (jA xp))), (dl, .inl (cA, 248, .inl (jA xl))), (dh, .inl (cA, 248, .inl (jA xh))), (dq, .inl (cA, 124, .inl (jA xq))), (dr, .inl (cA, 31, .inl (jA xr))), (dd, .inl (cA, 32, .inl (jA xd)))] sz)) (va_Qi (fun (r : Int32) (u : Int × Nat × Nat × Int × Int × Int × (Int → Int) × (Int → Int) × (Int → Int) × (Int → Int) × (Int → Int) × (Int → Int) × (Int → Int) × Int × Int) => r = jI u.1 ∧ u = f_XG_read ba tn tp tw tf da dg df xt xp xl xh xq xr xd ∧ ((u.2.1 = ba ∧ u.2.2.1 = da) ∨ (u.2.1 = da ∧ u.2.2.1 = ba)) ∧ (u.2.2.2.1 = 0) ∧ (∀ i, 0 ≤ u.2.2.2.2.2.2.1 i ∧ u.2.2.2.2.2.2.1 i ≤ 30) ∧ (∀ i, 0 ≤ u.2.2.2.2.2.2.2.2.1 i ∧ u.2.2.2.2.2.2.2.2.1 i ≤ 100000) ∧ (∀ i, -1 ≤ u.2.2.2.2.2.2.2.2.2.1 i ∧ u.2.2.2.2.2.2.2.2.2.1 i ≤ 100000) ∧ (∀ i, -1 ≤ u.2.2.2.2.2.2.2.2.2.2.1 i ∧ u.2.2.2.2.2.2.2.2.2.2.1 i ≤ 999999) ∧ (∀ i, 0 ≤ u.2.2.2.2.2.2.2.2.2.2.2.1 i ∧ u.2.2.2.2.2.2.2.2.2.2.2.1 i < 2147483648) ∧ (∀ i, 0 ≤ u.2.2.2.2.2.2.2.2.2.2.2.2.1 i ∧ u.2.2.2.2.2.2.2.2.2.2.2.2.1 i ≤ 20) ∧ (0 ≤ u.2.2.2.2.2.2.2.2.2.2.2.2.2.1 ∧ u.2.2.2.2.2.2.2.2.2.2.2.2.2.1 < 2147483648) ∧ (0 ≤ u.2.2.2.2.2.2.2.2.2.2.2.2.2.2 ∧ u.2.2.2.2.2.2.2.2.2.2.2.2.2.2 < 2147483648) ∧ (∀ i, 0 ≤ u.2.2.2.2.2.2.2.1 i ∧ u.2.2.2.2.2.2.2.1 i ≤ 30)) (fun u t => jE (dC, dI) [(cA, .int)] [(ga, .inr (4, [.ref ta, .ref rda, .ref pa, .ref sa, .ref ea, .ref ba, .ref da])), (ta, .inr (3, [.ref ts, .int (jI tn), .int (jI tp), .int (jI tw)])), (ts, .inl (cA, 400, .inl (jA tf))), (rda, .inr (2, [.ref ta])), (da, .inr (0, [.ref dt, .ref dp, .ref dl, .ref dh, .ref dq, .ref dr, .ref dd, .int (jI dg), .int (jI df)])), (dt, .inl (cA, 31, .inl (jA xt))), (dp, .inl (cA, 31, .inl (jA xp))), (dl, .inl (cA, 248, .inl (jA xl))), (dh, .inl (cA, 248, .inl (jA xh))), (dq, .inl (cA, 124, .inl (jA xq))), (dr, .inl (cA, 31, .inl (jA xr))), (dd, .inl (cA, 32, .inl (jA xd)))] sz [(ga, .inr (4, [.ref ta, .ref rda, .ref pa, .ref sa, .ref ea, .ref u.2.1, .ref u.2.2.1])), (ta, .inr (3, [.ref ts, .int (jI u.2.2.2.1), .int (jI u.2.2.2.2.1), .int (jI u.2.2.2.2.2.1)])), (ts, .inl (cA, 400, .inl (jA tf))), (rda, .inr (2, [.ref ta])), (da, .inr (0, [.ref dt, .ref dp, .ref dl, .ref dh, .ref dq, .ref dr, .ref dd, .int (jI u.2.2.2.2.2.2.2.2.2.2.2.2.2.1), .int (jI u.2.2.2.2.2.2.2.2.2.2.2.2.2.2)])), (dt, .inl (cA, 31, .inl (jA u.2.2.2.2.2.2.1))), (dp, .inl (cA, 31, .inl (jA u.2.2.2.2.2.2.2.1))), (dl, .inl (cA, 248, .inl (jA u.2.2.2.2.2.2.2.2.1))), (dh, .inl (cA, 248, .inl (jA u.2.2.2.2.2.2.2.2.2.1))), (dq, .inl (cA, 124, .inl (jA u.2.2.2.2.2.2.2.2.2.2.1))), (dr, .inl (cA, 31, .inl (jA u.2.2.2.2.2.2.2.2.2.2.2.1))), (dd, .inl (cA, 32, .inl (jA u.2.2.2.2.2.2.2.2.2.2.2.2.1)))] t) (va_A [(ga, .inr (4, [.ref ta, .ref rda, .ref pa, .ref sa, .ref ea, .ref ba, .ref da])), (ta, .inr (3, [.ref ts, .int (jI tn), .int (jI tp), .int (jI tw)])), (ts, .inl (cA, 400, .inl (jA tf))), (rda, .inr (2, [.ref ta])), (da, .inr (0, [.ref dt, .ref dp, .ref dl, .ref dh, .ref dq, .ref dr, .ref dd, .int (jI dg), .int (jI df)])), (dt, .inl (cA, 31, .inl (jA xt))), (dp, .inl (cA, 31, .inl (jA xp))), (dl, .inl (cA, 248, .inl (jA xl))), (dh, .inl (cA, 248, .inl (jA xh))), (dq, .inl (cA, 124, .inl (jA xq))), (dr, .inl (cA, 31, .inl (jA xr))), (dd, .inl (cA, 32, .inl (jA xd)))] sz)) 0 0 (va_A [(ga, .inr (4, [.ref ta, .ref rda, .ref pa, .ref sa, .ref ea, .ref ba, .ref da])), (ta, .inr (3, [.ref ts, .int (jI tn), .int (jI tp), .int (jI tw)])), (ts, .inl (cA, 400, .inl (jA tf))), (rda, .inr (2, [.ref ta])), (da, .inr (0, [.ref dt, .ref dp, .ref dl, .ref dh, .ref dq, .ref dr, .ref dd, .int (jI dg), .int (jI df)])), (dt, .inl (cA, 31, .inl (jA xt))), (dp, .inl (cA, 31, .inl (jA xp))), (dl, .inl (cA, 248, .inl (jA xl))), (dh, .inl (cA, 248, .inl (jA xh))), (dq, .inl (cA, 124, .inl (jA xq))), (dr, .inl (cA, 31, .inl (jA xr))), (dd, .inl (cA, 32, .inl (jA xd)))] sz) := by
  refine jMet (cc := cXG_read) (maxL := 3) (ret := some .int) (by decide) rfl ?_
  intro p e s m args below meth c s₁ R Q hR hQ B hml hv
  obtain ⟨rfl, hsz, hP, hK, hD0, hN⟩ := hv
  have hx := B.exec
  have hb := B.bytes
  have hr := B.returns
  have hts := atoms_spec (ws := Cond.code yXG_read cXG_read 3 (some .int) :: TBL) B.pre
  have hown : s.vm.findClass RXG = some m.cls := findClass_of_methodNamed B.named
  have hlocks := B.notSynchronized
  subst hsz
  obtain ⟨A, hAe⟩ : ∃ A, A = va_A [(ga, .inr (4, [.ref ta, .ref rda, .ref pa, .ref sa, .ref ea, .ref ba, .ref da])), (ta, .inr (3, [.ref ts, .int (jI tn), .int (jI tp), .int (jI tw)])), (ts, .inl (cA, 400, .inl (jA tf))), (rda, .inr (2, [.ref ta])), (da, .inr (0, [.ref dt, .ref dp, .ref dl, .ref dh, .ref dq, .ref dr, .ref dd, .int (jI dg), .int (jI df)])), (dt, .inl (cA, 31, .inl (jA xt))), (dp, .inl (cA, 31, .inl (jA xp))), (dl, .inl (cA, 248, .inl (jA xl))), (dh, .inl (cA, 248, .inl (jA xh))), (dq, .inl (cA, 124, .inl (jA xq))), (dr, .inl (cA, 31, .inl (jA xr))), (dd, .inl (cA, 32, .inl (jA xd)))] s.heap.size := ⟨_, rfl⟩
  have hD : va_D A [(ga, .inr (4, [.ref ta, .ref rda, .ref pa, .ref sa, .ref ea, .ref ba, .ref da])), (ta, .inr (3, [.ref ts, .int (jI tn), .int (jI tp), .int (jI tw)])), (ts, .inl (cA, 400, .inl (jA tf))), (rda, .inr (2, [.ref ta])), (da, .inr (0, [.ref dt, .ref dp, .ref dl, .ref dh, .ref dq, .ref dr, .ref dd, .int (jI dg), .int (jI df)])), (dt, .inl (cA, 31, .inl (jA xt))), (dp, .inl (cA, 31, .inl (jA xp))), (dl, .inl (cA, 248, .inl (jA xl))), (dh, .inl (cA, 248, .inl (jA xh))), (dq, .inl (cA, 124, .inl (jA xq))), (dr, .inl (cA, 31, .inl (jA xr))), (dd, .inl (cA, 32, .inl (jA xd)))] := by rw [hAe]; exact hD0.self
  have hA : ∀ q : Nat, s.heap.size ≤ q → A q := fun q h => by rw [hAe]; exact Or.inr h
  have hS : va_S A s.heap s.heap [] := va_S.rf
  have hP : va_P (dC, dI) vwCl [(ga, .inr (4, [.ref ta, .ref rda, .ref pa, .ref sa, .ref ea, .ref ba, .ref da])), (ta, .inr (3, [.ref ts, .int (jI tn), .int (jI tp), .int (jI tw)])), (ts, .inl (cA, 400, .inl (jA tf))), (rda, .inr (2, [.ref ta])), (da, .inr (0, [.ref dt, .ref dp, .ref dl, .ref dh, .ref dq, .ref dr, .ref dd, .int (jI dg), .int (jI df)])), (dt, .inl (cA, 31, .inl (jA xt))), (dp, .inl (cA, 31, .inl (jA xp))), (dl, .inl (cA, 248, .inl (jA xl))), (dh, .inl (cA, 248, .inl (jA xh))), (dq, .inl (cA, 124, .inl (jA xq))), (dr, .inl (cA, 31, .inl (jA xr))), (dd, .inl (cA, 32, .inl (jA xd)))] s.heap := hP
  have hl := lv_entry ([.ref ga]) (n := 3) (Nat.le_of_ble_eq_true rfl)
  rw [lg_entry_eq]
  generalize (lg_sl ([.ref ga]) ++ List.replicate (3 - (lg_sl ([.ref ga])).length) Slot.unset).toArray = ls at hl ⊢
  have hl : lv_has ls 3 [(0, .ref ga)] := hl
  refine lv_aload_n hx hb dXG_read_0 rfl (lv_at hl 0 rfl) ?_
  refine va_get (D := (dC, dI)) (ci := 4) (v := .ref da) (C := RXG) (T := TXG) (N := 7) hx hb hts (fun w h => jmem (inXG w h)) hown hK hP 0 rfl rfl 6 (by decide) (hts _ (jmem tw_107)) (fun _ h9 => h9) rfl dXG_read_1 ?_
  refine jwVv (rest := []) (wr := [(ga, .inr (4, [.ref ta, .ref rda, .ref pa, .ref sa, .ref ea, .ref ba, .ref da])), (ta, .inr (3, [.ref ts, .int (jI tn), .int (jI tp), .int (jI tw)])), (ts, .inl (cA, 400, .inl (jA tf))), (rda, .inr (2, [.ref ta])), (dp, .inl (cA, 31, .inl (jA xp))), (dl, .inl (cA, 248, .inl (jA xl)))]) ⟨hx, hb, hml, hown, hts⟩ (c_XB_forget l dC dI cA _ da dt dp dl dh dq dr dd dg df xt xh xq xr xd (by first | assumption | omega) (by first | assumption | omega) (by first | assumption | omega) (by first | assumption | omega) (by first | assumption | omega)) (cwV 0 hts (jG_V tw_127 tw_128 tw_129 tw_5 tw_130) rfl rfl rfl (by decide +kernel) (by rw [hR]; exact ⟨Nat.le_of_ble_eq_true rfl, Nat.le_of_ble_eq_true rfl⟩)) hK hP hD hS hA hN [4, 5, 8, 9, 10, 11] [0, 1, 2, 3, 6, 7] rfl rfl (by decide) (by decide) (by decide) 4 0 rfl rfl rfl rfl hl.1 rfl (Nat.le_of_ble_eq_true rfl) dXG_read_4 (by rw [hR]; exact ⟨Nat.le_of_ble_eq_true rfl, Nat.le_of_ble_eq_true rfl⟩) (fun u H locs hwb hP hD hS => ?_)
  obtain ⟨ft1', fh1', fq1', fr1', fd1', bg1', bf1'⟩ := u
  try dsimp only at hwb
  obtain ⟨hwb, f, f1, f2, f3, f4, f5, f6⟩ := hwb
  have f : ∀ i, 0 ≤ ft1' i ∧ ft1' i ≤ 30 := f
  have f1 : ∀ i, -1 ≤ fh1' i ∧ fh1' i ≤ 100000 := f1
  have f2 : ∀ i, -1 ≤ fq1' i ∧ fq1' i ≤ 999999 := f2
  have f3 : ∀ i, 0 ≤ fr1' i ∧ fr1' i < 2147483648 := f3
  have f4 : ∀ i, 0 ≤ fd1' i ∧ fd1' i ≤ 20 := f4
  have f5 : bg1' = 0 := f5
  have f6 : bf1' = 0 := f6
  have hP : va_P (dC, dI) vwCl [(ga, .inr (4, [.ref ta, .ref rda, .ref pa, .ref sa, .ref ea, .ref ba, .ref da])), (ta, .inr (3, [.ref ts, .int (jI tn), .int (jI tp), .int (jI tw)])), (ts, .inl (cA, 400, .inl (jA tf))), (rda, .inr (2, [.ref ta])), (dp, .inl (cA, 31, .inl (jA xp))), (dl, .inl (cA, 248, .inl (jA xl))), (da, .inr (0, [.ref dt, .ref dp, .ref dl, .ref dh, .ref dq, .ref dr, .ref dd, .int (jI bg1'), .int (jI bf1')])), (dt, .inl (cA, 31, .inl (jA ft1'))), (dh, .inl (cA, 248, .inl (jA fh1'))), (dq, .inl (cA, 124, .inl (jA fq1'))), (dr, .inl (cA, 31, .inl (jA fr1'))), (dd, .inl (cA, 32, .inl (jA fd1')))] H := hP
  have hD : va_D A [(ga, .inr (4, [.ref ta, .ref rda, .ref pa, .ref sa, .ref ea, .ref ba, .ref da])), (ta, .inr (3, [.ref ts, .int (jI tn), .int (jI tp), .int (jI tw)])), (ts, .inl (cA, 400, .inl (jA tf))), (rda, .inr (2, [.ref ta])), (dp, .inl (cA, 31, .inl (jA xp))), (dl, .inl (cA, 248, .inl (jA xl))), (da, .inr (0, [.ref dt, .ref dp, .ref dl, .ref dh, .ref dq, .ref dr, .ref dd, .int (jI bg1'), .int (jI bf1')])), (dt, .inl (cA, 31, .inl (jA ft1'))), (dh, .inl (cA, 248, .inl (jA fh1'))), (dq, .inl (cA, 124, .inl (jA fq1'))), (dr, .inl (cA, 31, .inl (jA fr1'))), (dd, .inl (cA, 32, .inl (jA fd1')))] := hD
  refine lv_aload_n hx hb dXG_read_7 rfl (lv_at hl 0 rfl) ?_
  refine va_get (D := (dC, dI)) (ci := 4) (v := .ref rda) (C := RXG) (T := TXG) (N := 7) hx hb hts (fun w h => jmem (inXG w h)) hown hK hP 0 rfl rfl 1 (by decide) (hts _ (jmem tw_102)) (fun _ h9 => h9) rfl dXG_read_8 ?_
  refine lv_aload_n hx hb dXG_read_11 rfl (lv_at hl 0 rfl) ?_
  refine va_get (D := (dC, dI)) (ci := 4) (v := .ref da) (C := RXG) (T := TXG) (N := 7) hx hb hts (fun w h => jmem (inXG w h)) hown hK hP 0 rfl rfl 6 (by decide) (hts _ (jmem tw_107)) (fun _ h9 => h9) rfl dXG_read_12 ?_
  refine jwVi (rest := []) (wr := [(ga, .inr (4, [.ref ta, .ref rda, .ref pa, .ref sa, .ref ea, .ref ba, .ref da])), (dp, .inl (cA, 31, .inl (jA xp)))]) ⟨hx, hb, hml, hown, hts⟩ (c_XR_text l dC dI cA _ rda ta ts tn tp tw tf da dt dp dl dh dq dr dd bg1' bf1' ft1' xl fh1' fq1' fr1' fd1' (by first | assumption | omega) (by first | assumption | omega) (by first | assumption | omega) (by first | assumption | omega) (by first | assumption | omega) (by first | assumption | omega) (by first | assumption | omega) (by first | assumption | omega) (by first | assumption | omega) (by first | assumption | omega)) (cwV 1 hts (jG_V tw_134 tw_135 tw_136 tw_3 tw_137) rfl rfl rfl (by decide +kernel) (by rw [hR]; exact ⟨Nat.le_of_ble_eq_true rfl, Nat.le_of_ble_eq_true rfl⟩)) hK hP hD hS hA hN [3, 1, 2, 6, 7, 5, 8, 9, 10, 11] [0, 4] rfl rfl (by decide) (by decide) (by decide) 3 2 rfl rfl rfl rfl hl.1 rfl (Nat.le_of_ble_eq_true rfl) dXG_read_15 (by rw [hR]; exact ⟨Nat.le_of_ble_eq_true rfl, Nat.le_of_ble_eq_true rfl⟩) (fun v u14 H locs hwb15 hP hD hS => ?_)
  obtain ⟨r, tp1', tw1', ft1'7, fl1', fh1'8, fq1'9, fr1'10, fd1'11, bg1'12, bf1'13⟩ := u14
  try dsimp only at hwb15
  obtain ⟨er, hwb15, f16, f17, f18, f19, f20, f21, f22, f23, f24, f25⟩ := hwb15
  subst er
  have f16 : 0 ≤ r ∧ r ≤ 1 := f16
  have f17 : 0 ≤ tp1' ∧ tp1' ≤ tn := f17
  have f18 : ∀ i, 0 ≤ ft1'7 i ∧ ft1'7 i ≤ 30 := f18
  have f19 : ∀ i, 0 ≤ fl1' i ∧ fl1' i ≤ 100000 := f19
  have f20 : ∀ i, -1 ≤ fh1'8 i ∧ fh1'8 i ≤ 100000 := f20
  have f21 : ∀ i, -1 ≤ fq1'9 i ∧ fq1'9 i ≤ 999999 := f21
  have f22 : ∀ i, 0 ≤ fr1'10 i ∧ fr1'10 i < 2147483648 := f22
  have f23 : ∀ i, 0 ≤ fd1'11 i ∧ fd1'11 i ≤ 20 := f23
  have f24 : 0 ≤ bg1'12 ∧ bg1'12 < 2147483648 := f24
  have f25 : 0 ≤ bf1'13 ∧ bf1'13 < 2147483648 := f25
  have hP : va_P (dC, dI) vwCl [(ga, .inr (4, [.ref ta, .ref rda, .ref pa, .ref sa, .ref ea, .ref ba, .ref da])), (dp, .inl (cA, 31, .inl (jA xp))), (rda, .inr (2, [.ref ta])), (ta, .inr (3, [.ref ts, .int (jI tn), .int (jI tp1'), .int (jI tw1')])), (ts, .inl (cA, 400, .inl (jA tf))), (da, .inr (0, [.ref dt, .ref dp, .ref dl, .ref dh, .ref dq, .ref dr, .ref dd, .int (jI bg1'12), .int (jI bf1'13)])), (dt, .inl (cA, 31, .inl (jA ft1'7))), (dl, .inl (cA, 248, .inl (jA fl1'))), (dh, .inl (cA, 248, .inl (jA fh1'8))), (dq, .inl (cA, 124, .inl (jA fq1'9))), (dr, .inl (cA, 31, .inl (jA fr1'10))), (dd, .inl (cA, 32, .inl (jA fd1'11)))] H := hP
  have hD : va_D A [(ga, .inr (4, [.ref ta, .ref rda, .ref pa, .ref sa, .ref ea, .ref ba, .ref da])), (dp, .inl (cA, 31, .inl (jA xp))), (rda, .inr (2, [.ref ta])), (ta, .inr (3, [.ref ts, .int (jI tn), .int (jI tp1'), .int (jI tw1')])), (ts, .inl (cA, 400, .inl (jA tf))), (da, .inr (0, [.ref dt, .ref dp, .ref dl, .ref dh, .ref dq, .ref dr, .ref dd, .int (jI bg1'12), .int (jI bf1'13)])), (dt, .inl (cA, 31, .inl (jA ft1'7))), (dl, .inl (cA, 248, .inl (jA fl1'))), (dh, .inl (cA, 248, .inl (jA fh1'8))), (dq, .inl (cA, 124, .inl (jA fq1'9))), (dr, .inl (cA, 31, .inl (jA fr1'10))), (dd, .inl (cA, 32, .inl (jA fd1'11)))] := hD
  refine lv_istore_n (lv' := [(1, .int (jI r)), (0, .ref ga)]) hx hb dXG_read_18 rfl hl (by decide) rfl (fun ls hl => ?_)
  refine lv_aload_n hx hb dXG_read_19 rfl (lv_at hl 1 rfl) ?_
  refine va_get (D := (dC, dI)) (ci := 4) (v := .ref ta) (C := RXG) (T := TXG) (N := 7) hx hb hts (fun w h => jmem (inXG w h)) hown hK hP 0 rfl rfl 0 (by decide) (hts _ (jmem tw_101)) (fun _ h9 => h9) rfl dXG_read_20 ?_
  refine jwVv (rest := []) (wr := [(ga, .inr (4, [.ref ta, .ref rda, .ref pa, .ref sa, .ref ea, .ref ba, .ref da])), (dp, .inl (cA, 31, .inl (jA xp))), (rda, .inr (2, [.ref ta])), (da, .inr (0, [.ref dt, .ref dp, .ref dl, .ref dh, .ref dq, .ref dr, .ref dd, .int (jI bg1'12), .int (jI bf1'13)])), (dt, .inl (cA, 31, .inl (jA ft1'7))), (dl, .inl (cA, 248, .inl (jA fl1'))), (dh, .inl (cA, 248, .inl (jA fh1'8))), (dq, .inl (cA, 124, .inl (jA fq1'9))), (dr, .inl (cA, 31, .inl (jA fr1'10))), (dd, .inl (cA, 32, .inl (jA fd1'11)))]) ⟨hx, hb, hml, hown, hts⟩ (c_XT_empty l dC dI cA _ ta ts tn tp1' tw1' tf) (cwV 0 hts (jG_V tw_269 tw_270 tw_271 tw_2 tw_272) rfl rfl rfl (by decide +kernel) (by rw [hR]; exact ⟨Nat.le_of_ble_eq_true rfl, Nat.le_of_ble_eq_true rfl⟩)) hK hP hD hS hA hN [3, 4] [0, 1, 2, 5, 6, 7, 8, 9, 10, 11] rfl rfl (by decide) (by decide) (by decide) 3 3 rfl rfl rfl rfl hl.1 rfl (Nat.le_of_ble_eq_true rfl) dXG_read_23 (by rw [hR]; exact ⟨Nat.le_of_ble_eq_true rfl, Nat.le_of_ble_eq_true rfl⟩) (fun u26 H locs hw hP hD hS => ?_)
  subst hw
  have hP : va_P (dC, dI) vwCl [(ga, .inr (4, [.ref ta, .ref rda, .ref pa, .ref sa, .ref ea, .ref ba, .ref da])), (dp, .inl (cA, 31, .inl (jA xp))), (rda, .inr (2, [.ref ta])), (da, .inr (0, [.ref dt, .ref dp, .ref dl, .ref dh, .ref dq, .ref dr, .ref dd, .int (jI bg1'12), .int (jI bf1'13)])), (dt, .inl (cA, 31, .inl (jA ft1'7))), (dl, .inl (cA, 248, .inl (jA fl1'))), (dh, .inl (cA, 248, .inl (jA fh1'8))), (dq, .inl (cA, 124, .inl (jA fq1'9))), (dr, .inl (cA, 31, .inl (jA fr1'10))), (dd, .inl (cA, 32, .inl (jA fd1'11))), (ta, .inr (3, [.ref ts, .int (jI (f_XT_empty tn tp1' tw1' tf)), .int (jI tp1'), .int (jI tw1')])), (ts, .inl (cA, 400, .inl (jA tf)))] H := hP
  have hD : va_D A [(ga, .inr (4, [.ref ta, .ref rda, .ref pa, .ref sa, .ref ea, .ref ba, .ref da])), (dp, .inl (cA, 31, .inl (jA xp))), (rda, .inr (2, [.ref ta])), (da, .inr (0, [.ref dt, .ref dp, .ref dl, .ref dh, .ref dq, .ref dr, .ref dd, .int (jI bg1'12), .int (jI bf1'13)])), (dt, .inl (cA, 31, .inl (jA ft1'7))), (dl, .inl (cA, 248, .inl (jA fl1'))), (dh, .inl (cA, 248, .inl (jA fh1'8))), (dq, .inl (cA, 124, .inl (jA fq1'9))), (dr, .inl (cA, 31, .inl (jA fr1'10))), (dd, .inl (cA, 32, .inl (jA fd1'11))), (ta, .inr (3, [.ref ts, .int (jI (f_XT_empty tn tp1' tw1' tf)), .int (jI tp1'), .int (jI tw1')])), (ts, .inl (cA, 400, .inl (jA tf)))] := hD
  have f27 := f_XT_empty_b tn tp1' tw1' tf
  refine lv_iload_n hx hb dXG_read_26 rfl (lv_at hl 0 rfl) ?_
  refine ji_if_ne (tgt := 40) hx hb dXG_read_27 (by decide) (by omega) (fun c27_ => ?_) (fun c27_ => ?_)
  · refine lv_aload_n hx hb dXG_read_40 rfl (lv_at hl 1 rfl) ?_
    refine va_get (D := (dC, dI)) (ci := 4) (v := .ref da) (C := RXG) (T := TXG) (N := 7) hx hb hts (fun w h => jmem (inXG w h)) hown hK hP 0 rfl rfl 6 (by decide) (hts _ (jmem tw_107)) (fun _ h9 => h9) rfl dXG_read_41 ?_
    refine jwVv (rest := []) (wr := [(ga, .inr (4, [.ref ta, .ref rda, .ref pa, .ref sa, .ref ea, .ref ba, .ref da])), (rda, .inr (2, [.ref ta])), (dl, .inl (cA, 248, .inl (jA fl1'))), (dh, .inl (cA, 248, .inl (jA fh1'8))), (dq, .inl (cA, 124, .inl (jA fq1'9))), (dr, .inl (cA, 31, .inl (jA fr1'10))), (dd, .inl (cA, 32, .inl (jA fd1'11))), (ta, .inr (3, [.ref ts, .int (jI (f_XT_empty tn tp1' tw1' tf)), .int (jI tp1'), .int (jI tw1')])), (ts, .inl (cA, 400, .inl (jA tf)))]) ⟨hx, hb, hml, hown, hts⟩ (c_XB_settle l dC dI cA _ da dt dp dl dh dq dr dd bg1'12 bf1'13 ft1'7 xp (by first | assumption | omega) (by first | assumption | omega) (by first | assumption | omega)) (cwV 0 hts (jG_V tw_277 tw_278 tw_279 tw_5 tw_280) rfl rfl rfl (by decide +kernel) (by rw [hR]; exact ⟨Nat.le_of_ble_eq_true rfl, Nat.le_of_ble_eq_true rfl⟩)) hK hP hD hS hA hN [3, 4, 1] [0, 2, 5, 6, 7, 8, 9, 10, 11] rfl rfl (by decide) (by decide) (by decide) 3 0 rfl rfl rfl rfl hl.1 rfl (Nat.le_of_ble_eq_true rfl) dXG_read_44 (by rw [hR]; exact ⟨Nat.le_of_ble_eq_true rfl, Nat.le_of_ble_eq_true rfl⟩) (fun u28 H locs hw hP hD hS => ?_)
    subst hw
    have hP : va_P (dC, dI) vwCl [(ga, .inr (4, [.ref ta, .ref rda, .ref pa, .ref sa, .ref ea, .ref ba, .ref da])), (rda, .inr (2, [.ref ta])), (dl, .inl (cA, 248, .inl (jA fl1'))), (dh, .inl (cA, 248, .inl (jA fh1'8))), (dq, .inl (cA, 124, .inl (jA fq1'9))), (dr, .inl (cA, 31, .inl (jA fr1'10))), (dd, .inl (cA, 32, .inl (jA fd1'11))), (ta, .inr (3, [.ref ts, .int (jI (f_XT_empty tn tp1' tw1' tf)), .int (jI tp1'), .int (jI tw1')])), (ts, .inl (cA, 400, .inl (jA tf))), (da, .inr (0, [.ref dt, .ref dp, .ref dl, .ref dh, .ref dq, .ref dr, .ref dd, .int (jI bg1'12), .int (jI bf1'13)])), (dt, .inl (cA, 31, .inl (jA ft1'7))), (dp, .inl (cA, 31, .inl (jA (f_XB_settle bg1'12 bf1'13 ft1'7 xp))))] H := hP
    have hD : va_D A [(ga, .inr (4, [.ref ta, .ref rda, .ref pa, .ref sa, .ref ea, .ref ba, .ref da])), (rda, .inr (2, [.ref ta])), (dl, .inl (cA, 248, .inl (jA fl1'))), (dh, .inl (cA, 248, .inl (jA fh1'8))), (dq, .inl (cA, 124, .inl (jA fq1'9))), (dr, .inl (cA, 31, .inl (jA fr1'10))), (dd, .inl (cA, 32, .inl (jA fd1'11))), (ta, .inr (3, [.ref ts, .int (jI (f_XT_empty tn tp1' tw1' tf)), .int (jI tp1'), .int (jI tw1')])), (ts, .inl (cA, 400, .inl (jA tf))), (da, .inr (0, [.ref dt, .ref dp, .ref dl, .ref dh, .ref dq, .ref dr, .ref dd, .int (jI bg1'12), .int (jI bf1'13)])), (dt, .inl (cA, 31, .inl (jA ft1'7))), (dp, .inl (cA, 31, .inl (jA (f_XB_settle bg1'12 bf1'13 ft1'7 xp))))] := hD
    have f29 := f_XB_settle_b bg1'12 bf1'13 ft1'7 xp (by first | assumption | omega) (by first | assumption | omega) (by first | assumption | omega)
    refine lv_aload_n hx hb dXG_read_47 rfl (lv_at hl 1 rfl) ?_
    refine va_get (D := (dC, dI)) (ci := 4) (v := .ref ba) (C := RXG) (T := TXG) (N := 7) hx hb hts (fun w h => jmem (inXG w h)) hown hK hP 0 rfl rfl 5 (by decide) (hts _ (jmem tw_106)) (fun _ h9 => h9) rfl dXG_read_48 ?_
    refine lv_astore_n (lv' := [(2, .ref ba), (1, .int (jI r)), (0, .ref ga)]) hx hb dXG_read_51 rfl hl (by decide) rfl (fun ls hl => ?_)
    refine lv_aload_n hx hb dXG_read_52 rfl (lv_at hl 2 rfl) ?_
    refine lv_aload_n hx hb dXG_read_53 rfl (lv_at hl 2 rfl) ?_
    refine va_get (D := (dC, dI)) (ci := 4) (v := .ref da) (C := RXG) (T := TXG) (N := 7) hx hb hts (fun w h => jmem (inXG w h)) hown hK hP 0 rfl rfl 6 (by decide) (hts _ (jmem tw_107)) (fun _ h9 => h9) rfl dXG_read_54 ?_
    refine va_put (D := (dC, dI)) (ci := 4) (v := .ref da) (ty := (.object "GradeTexts$Book")) (C := RXG) (T := TXG) (N := 7) hx hb hts (fun w h => jmem (inXG w h)) tyXG tyXG_ok nXG hown hK hP hD hS 0 rfl rfl 5 (by decide) (hts _ (jmem tw_106)) (fun _ h9 => h9) rfl (by decide +kernel) rfl rfl (Nat.le_of_ble_eq_true rfl) dXG_read_57 (fun H locs hP hD hS => ?_)
    have hP : va_P (dC, dI) vwCl [(ga, .inr (4, [.ref ta, .ref rda, .ref pa, .ref sa, .ref ea, .ref da, .ref da])), (rda, .inr (2, [.ref ta])), (dl, .inl (cA, 248, .inl (jA fl1'))), (dh, .inl (cA, 248, .inl (jA fh1'8))), (dq, .inl (cA, 124, .inl (jA fq1'9))), (dr, .inl (cA, 31, .inl (jA fr1'10))), (dd, .inl (cA, 32, .inl (jA fd1'11))), (ta, .inr (3, [.ref ts, .int (jI (f_XT_empty tn tp1' tw1' tf)), .int (jI tp1'), .int (jI tw1')])), (ts, .inl (cA, 400, .inl (jA tf))), (da, .inr (0, [.ref dt, .ref dp, .ref dl, .ref dh, .ref dq, .ref dr, .ref dd, .int (jI bg1'12), .int (jI bf1'13)])), (dt, .inl (cA, 31, .inl (jA ft1'7))), (dp, .inl (cA, 31, .inl (jA (f_XB_settle bg1'12 bf1'13 ft1'7 xp))))] H := hP
    have hD : va_D A [(ga, .inr (4, [.ref ta, .ref rda, .ref pa, .ref sa, .ref ea, .ref da, .ref da])), (rda, .inr (2, [.ref ta])), (dl, .inl (cA, 248, .inl (jA fl1'))), (dh, .inl (cA, 248, .inl (jA fh1'8))), (dq, .inl (cA, 124, .inl (jA fq1'9))), (dr, .inl (cA, 31, .inl (jA fr1'10))), (dd, .inl (cA, 32, .inl (jA fd1'11))), (ta, .inr (3, [.ref ts, .int (jI (f_XT_empty tn tp1' tw1' tf)), .int (jI tp1'), .int (jI tw1')])), (ts, .inl (cA, 400, .inl (jA tf))), (da, .inr (0, [.ref dt, .ref dp, .ref dl, .ref dh, .ref dq, .ref dr, .ref dd, .int (jI bg1'12), .int (jI bf1'13)])), (dt, .inl (cA, 31, .inl (jA ft1'7))), (dp, .inl (cA, 31, .inl (jA (f_XB_settle bg1'12 bf1'13 ft1'7 xp))))] := hD
    refine lv_aload_n hx hb dXG_read_60 rfl (lv_at hl 2 rfl) ?_
    refine lv_aload_n hx hb dXG_read_61 rfl (lv_at hl 0 rfl) ?_
    refine va_put (D := (dC, dI)) (ci := 4) (v := .ref ba) (ty := (.object "GradeTexts$Book")) (C := RXG) (T := TXG) (N := 7) hx hb hts (fun w h => jmem (inXG w h)) tyXG tyXG_ok nXG hown hK hP hD hS 0 rfl rfl 6 (by decide) (hts _ (jmem tw_107)) (fun _ h9 => h9) rfl (by decide +kernel) rfl rfl (Nat.le_of_ble_eq_true rfl) dXG_read_62 (fun H locs hP hD hS => ?_)
    have hP : va_P (dC, dI) vwCl [(ga, .inr (4, [.ref ta, .ref rda, .ref pa, .ref sa, .ref ea, .ref da, .ref ba])), (rda, .inr (2, [.ref ta])), (dl, .inl (cA, 248, .inl (jA fl1'))), (dh, .inl (cA, 248, .inl (jA fh1'8))), (dq, .inl (cA, 124, .inl (jA fq1'9))), (dr, .inl (cA, 31, .inl (jA fr1'10))), (dd, .inl (cA, 32, .inl (jA fd1'11))), (ta, .inr (3, [.ref ts, .int (jI (f_XT_empty tn tp1' tw1' tf)), .int (jI tp1'), .int (jI tw1')])), (ts, .inl (cA, 400, .inl (jA tf))), (da, .inr (0, [.ref dt, .ref dp, .ref dl, .ref dh, .ref dq, .ref dr, .ref dd, .int (jI bg1'12), .int (jI bf1'13)])), (dt, .inl (cA, 31, .inl (jA ft1'7))), (dp, .inl (cA, 31, .inl (jA (f_XB_settle bg1'12 bf1'13 ft1'7 xp))))] H := hP
    have hD : va_D A [(ga, .inr (4, [.ref ta, .ref rda, .ref pa, .ref sa, .ref ea, .ref da, .ref ba])), (rda, .inr (2, [.ref ta])), (dl, .inl (cA, 248, .inl (jA fl1'))), (dh, .inl (cA, 248, .inl (jA fh1'8))), (dq, .inl (cA, 124, .inl (jA fq1'9))), (dr, .inl (cA, 31, .inl (jA fr1'10))), (dd, .inl (cA, 32, .inl (jA fd1'11))), (ta, .inr (3, [.ref ts, .int (jI (f_XT_empty tn tp1' tw1' tf)), .int (jI tp1'), .int (jI tw1')])), (ts, .inl (cA, 400, .inl (jA tf))), (da, .inr (0, [.ref dt, .ref dp, .ref dl, .ref dh, .ref dq, .ref dr, .ref dd, .int (jI bg1'12), .int (jI bf1'13)])), (dt, .inl (cA, 31, .inl (jA ft1'7))), (dp, .inl (cA, 31, .inl (jA (f_XB_settle bg1'12 bf1'13 ft1'7 xp))))] := hD
    refine lv_aload_n hx hb dXG_read_65 rfl (lv_at hl 2 rfl) ?_
    refine va_get (D := (dC, dI)) (ci := 4) (v := .ref da) (C := RXG) (T := TXG) (N := 7) hx hb hts (fun w h => jmem (inXG w h)) hown hK hP 0 rfl rfl 5 (by decide) (hts _ (jmem tw_106)) (fun _ h9 => h9) rfl dXG_read_66 ?_
    refine jrVi (rest := []) ⟨hx, hb, hml, hown, hts⟩ (c_XB_count l dC dI cA da dt dp dl dh dq dr dd bg1'12 bf1'13) (cwV 0 hts (jG_V tw_286 tw_287 tw_288 tw_5 tw_289) rfl rfl rfl (by decide +kernel) (by rw [hR]; exact ⟨Nat.le_of_ble_eq_true rfl, Nat.le_of_ble_eq_true rfl⟩)) hK hP hN [9] rfl 9 0 rfl rfl rfl rfl hl.1 rfl (Nat.le_of_ble_eq_true rfl) dXG_read_69 (by rw [hR]; exact ⟨Nat.le_of_ble_eq_true rfl, Nat.le_of_ble_eq_true rfl⟩) ?_
    have hP9 := hP.sub (ws' := [(ga, .inr (4, [.ref ta, .ref rda, .ref pa, .ref sa, .ref ea, .ref da, .ref ba])), (ta, .inr (3, [.ref ts, .int (jI (f_XT_empty tn tp1' tw1' tf)), .int (jI tp1'), .int (jI tw1')])), (ts, .inl (cA, 400, .inl (jA tf))), (rda, .inr (2, [.ref ta])), (da, .inr (0, [.ref dt, .ref dp, .ref dl, .ref dh, .ref dq, .ref dr, .ref dd, .int (jI bg1'12), .int (jI bf1'13)])), (dt, .inl (cA, 31, .inl (jA ft1'7))), (dp, .inl (cA, 31, .inl (jA (f_XB_settle bg1'12 bf1'13 ft1'7 xp)))), (dl, .inl (cA, 248, .inl (jA fl1'))), (dh, .inl (cA, 248, .inl (jA fh1'8))), (dq, .inl (cA, 124, .inl (jA fq1'9))), (dr, .inl (cA, 31, .inl (jA fr1'10))), (dd, .inl (cA, 32, .inl (jA fd1'11)))]) [0, 7, 8, 1, 9, 10, 11, 2, 3, 4, 5, 6] rfl
    have hD9 := hD.sub (ws' := [(ga, .inr (4, [.ref ta, .ref rda, .ref pa, .ref sa, .ref ea, .ref da, .ref ba])), (ta, .inr (3, [.ref ts, .int (jI (f_XT_empty tn tp1' tw1' tf)), .int (jI tp1'), .int (jI tw1')])), (ts, .inl (cA, 400, .inl (jA tf))), (rda, .inr (2, [.ref ta])), (da, .inr (0, [.ref dt, .ref dp, .ref dl, .ref dh, .ref dq, .ref dr, .ref dd, .int (jI bg1'12), .int (jI bf1'13)])), (dt, .inl (cA, 31, .inl (jA ft1'7))), (dp, .inl (cA, 31, .inl (jA (f_XB_settle bg1'12 bf1'13 ft1'7 xp)))), (dl, .inl (cA, 248, .inl (jA fl1'))), (dh, .inl (cA, 248, .inl (jA fh1'8))), (dq, .inl (cA, 124, .inl (jA fq1'9))), (dr, .inl (cA, 31, .inl (jA fr1'10))), (dd, .inl (cA, 32, .inl (jA fd1'11)))]) [0, 7, 8, 1, 9, 10, 11, 2, 3, 4, 5, 6] (by decide) rfl
    subst hAe
    subst hQ
    exact W.iret (v := jI (f_XB_count bg1'12 bf1'13)) hx hb hr (fun t ht hW => ⟨⟨_, (f_XB_count bg1'12 bf1'13, da, ba, f_XT_empty tn tp1' tw1' tf, tp1', tw1', ft1'7, f_XB_settle bg1'12 bf1'13 ft1'7 xp, fl1', fh1'8, fq1'9, fr1'10, fd1'11, bg1'12, bf1'13), rfl, ⟨rfl, Eq.trans (by rw [f_XG_read_s]; rw [← hwb]; try dsimp only; rw [← hwb15]; try dsimp only; rw [if_neg c27_]; try rfl) rfl, show (da = ba ∧ ba = da) ∨ (da = da ∧ ba = ba) from by first | assumption | omega | exact Or.inr ⟨rfl, rfl⟩, show (f_XT_empty tn tp1' tw1' tf) = 0 from by first | assumption | omega | exact Or.inr ⟨rfl, rfl⟩, show ∀ i, 0 ≤ ft1'7 i ∧ ft1'7 i ≤ 30 from by first | assumption | omega | exact Or.inr ⟨rfl, rfl⟩, show ∀ i, 0 ≤ fl1' i ∧ fl1' i ≤ 100000 from by first | assumption | omega | exact Or.inr ⟨rfl, rfl⟩, show ∀ i, -1 ≤ fh1'8 i ∧ fh1'8 i ≤ 100000 from by first | assumption | omega | exact Or.inr ⟨rfl, rfl⟩, show ∀ i, -1 ≤ fq1'9 i ∧ fq1'9 i ≤ 999999 from by first | assumption | omega | exact Or.inr ⟨rfl, rfl⟩, show ∀ i, 0 ≤ fr1'10 i ∧ fr1'10 i < 2147483648 from by first | assumption | omega | exact Or.inr ⟨rfl, rfl⟩, show ∀ i, 0 ≤ fd1'11 i ∧ fd1'11 i ≤ 20 from by first | assumption | omega | exact Or.inr ⟨rfl, rfl⟩, show 0 ≤ bg1'12 ∧ bg1'12 < 2147483648 from by first | assumption | omega | exact Or.inr ⟨rfl, rfl⟩, show 0 ≤ bf1'13 ∧ bf1'13 < 2147483648 from by first | assumption | omega | exact Or.inr ⟨rfl, rfl⟩, show ∀ i, 0 ≤ (f_XB_settle bg1'12 bf1'13 ft1'7 xp) i ∧ (f_XB_settle bg1'12 bf1'13 ft1'7 xp) i ≤ 30 from by first | assumption | omega | exact Or.inr ⟨rfl, rfl⟩⟩, ⟨by rw [ht]; exact hP9, va_K.moved hW.alike hK, hD9⟩⟩, hS.F ht⟩) hS.2.2 dXG_read_72
  · refine ji_iconst hx hb dXG_read_30 ?_
    refine lv_aload_n hx hb dXG_read_31 rfl (lv_at hl 1 rfl) ?_
    refine va_get (D := (dC, dI)) (ci := 4) (v := .ref ta) (C := RXG) (T := TXG) (N := 7) hx hb hts (fun w h => jmem (inXG w h)) hown hK hP 0 rfl rfl 0 (by decide) (hts _ (jmem tw_101)) (fun _ h9 => h9) rfl dXG_read_32 ?_
    refine jrVi (rest := [.int (jI (-1))]) ⟨hx, hb, hml, hown, hts⟩ (c_XT_wrongPlace l dC dI cA ta ts (f_XT_empty tn tp1' tw1' tf) tp1' tw1' tf) (cwV 0 hts (jG_V tw_273 tw_274 tw_275 tw_2 tw_276) rfl rfl rfl (by decide +kernel) (by rw [hR]; exact ⟨Nat.le_of_ble_eq_true rfl, Nat.le_of_ble_eq_true rfl⟩)) hK hP hN [10, 11] rfl 10 3 rfl rfl rfl rfl hl.1 rfl (Nat.le_of_ble_eq_true rfl) dXG_read_35 (by rw [hR]; exact ⟨Nat.le_of_ble_eq_true rfl, Nat.le_of_ble_eq_true rfl⟩) ?_
    refine ji_isub hx hb dXG_read_38 ?_
    have hP9 := hP.sub (ws' := [(ga, .inr (4, [.ref ta, .ref rda, .ref pa, .ref sa, .ref ea, .ref ba, .ref da])), (ta, .inr (3, [.ref ts, .int (jI (f_XT_empty tn tp1' tw1' tf)), .int (jI tp1'), .int (jI tw1')])), (ts, .inl (cA, 400, .inl (jA tf))), (rda, .inr (2, [.ref ta])), (da, .inr (0, [.ref dt, .ref dp, .ref dl, .ref dh, .ref dq, .ref dr, .ref dd, .int (jI bg1'12), .int (jI bf1'13)])), (dt, .inl (cA, 31, .inl (jA ft1'7))), (dp, .inl (cA, 31, .inl (jA xp))), (dl, .inl (cA, 248, .inl (jA fl1'))), (dh, .inl (cA, 248, .inl (jA fh1'8))), (dq, .inl (cA, 124, .inl (jA fq1'9))), (dr, .inl (cA, 31, .inl (jA fr1'10))), (dd, .inl (cA, 32, .inl (jA fd1'11)))]) [0, 10, 11, 2, 3, 4, 1, 5, 6, 7, 8, 9] rfl
    have hD9 := hD.sub (ws' := [(ga, .inr (4, [.ref ta, .ref rda, .ref pa, .ref sa, .ref ea, .ref ba, .ref da])), (ta, .inr (3, [.ref ts, .int (jI (f_XT_empty tn tp1' tw1' tf)), .int (jI tp1'), .int (jI tw1')])), (ts, .inl (cA, 400, .inl (jA tf))), (rda, .inr (2, [.ref ta])), (da, .inr (0, [.ref dt, .ref dp, .ref dl, .ref dh, .ref dq, .ref dr, .ref dd, .int (jI bg1'12), .int (jI bf1'13)])), (dt, .inl (cA, 31, .inl (jA ft1'7))), (dp, .inl (cA, 31, .inl (jA xp))), (dl, .inl (cA, 248, .inl (jA fl1'))), (dh, .inl (cA, 248, .inl (jA fh1'8))), (dq, .inl (cA, 124, .inl (jA fq1'9))), (dr, .inl (cA, 31, .inl (jA fr1'10))), (dd, .inl (cA, 32, .inl (jA fd1'11)))]) [0, 10, 11, 2, 3, 4, 1, 5, 6, 7, 8, 9] (by decide) rfl
    subst hAe
    subst hQ
    exact W.iret (v := jI ((-1) - (f_XT_wrongPlace (f_XT_empty tn tp1' tw1' tf) tp1' tw1' tf))) hx hb hr (fun t ht hW => ⟨⟨_, ((-1) - (f_XT_wrongPlace (f_XT_empty tn tp1' tw1' tf) tp1' tw1' tf), ba, da, f_XT_empty tn tp1' tw1' tf, tp1', tw1', ft1'7, xp, fl1', fh1'8, fq1'9, fr1'10, fd1'11, bg1'12, bf1'13), rfl, ⟨rfl, Eq.trans (by rw [f_XG_read_s]; rw [← hwb]; try dsimp only; rw [← hwb15]; try dsimp only; rw [if_pos c27_]; try rfl) rfl, show (ba = ba ∧ da = da) ∨ (ba = da ∧ da = ba) from by first | assumption | omega | exact Or.inl ⟨rfl, rfl⟩, show (f_XT_empty tn tp1' tw1' tf) = 0 from by first | assumption | omega | exact Or.inl ⟨rfl, rfl⟩, show ∀ i, 0 ≤ ft1'7 i ∧ ft1'7 i ≤ 30 from by first | assumption | omega | exact Or.inl ⟨rfl, rfl⟩, show ∀ i, 0 ≤ fl1' i ∧ fl1' i ≤ 100000 from by first | assumption | omega | exact Or.inl ⟨rfl, rfl⟩, show ∀ i, -1 ≤ fh1'8 i ∧ fh1'8 i ≤ 100000 from by first | assumption | omega | exact Or.inl ⟨rfl, rfl⟩, show ∀ i, -1 ≤ fq1'9 i ∧ fq1'9 i ≤ 999999 from by first | assumption | omega | exact Or.inl ⟨rfl, rfl⟩, show ∀ i, 0 ≤ fr1'10 i ∧ fr1'10 i < 2147483648 from by first | assumption | omega | exact Or.inl ⟨rfl, rfl⟩, show ∀ i, 0 ≤ fd1'11 i ∧ fd1'11 i ≤ 20 from by first | assumption | omega | exact Or.inl ⟨rfl, rfl⟩, show 0 ≤ bg1'12 ∧ bg1'12 < 2147483648 from by first | assumption | omega | exact Or.inl ⟨rfl, rfl⟩, show 0 ≤ bf1'13 ∧ bf1'13 < 2147483648 from by first | assumption | omega | exact Or.inl ⟨rfl, rfl⟩, show ∀ i, 0 ≤ xp i ∧ xp i ≤ 30 from by first | assumption | omega | exact Or.inl ⟨rfl, rfl⟩⟩, ⟨by rw [ht]; exact hP9, va_K.moved hW.alike hK, hD9⟩⟩, hS.F ht⟩) hS.2.2 dXG_read_39

end
