noncomputable def g_XR_parent (tn : Int) (tp : Int) (tw : Int) (tf : Int → Int) (bg : Int) (bf : Int) (ft : Int → Int) (zg : Int) : Int × Int × Int × (Int → Int) :=
  match f_XT_skipIf tn tp tw tf 60 with
  | (r, tp1') =>
    if r = 0 then
      (1, tp1', tw, ft)
    else
      match f_XT_number tn tp1' tw tf 1 30 with
      | (r1, tp1'2, tw1') =>
        if r1 = (-1) then
          (0, tp1'2, tw1', ft)
        else
          (1, tp1'2, tw1', f_XB_tellParent bg bf ft zg r1)
noncomputable def f_XR_parent : Int → Int → Int → (Int → Int) → Int → Int → (Int → Int) → Int → Int × Int × Int × (Int → Int) := jopq g_XR_parent
theorem f_XR_parent_q : f_XR_parent = g_XR_parent := jopq_eq _
theorem f_XR_parent_s (tn : Int) (tp : Int) (tw : Int) (tf : Int → Int) (bg : Int) (bf : Int) (ft : Int → Int) (zg : Int) : f_XR_parent tn tp tw tf bg bf ft zg = (
    match f_XT_skipIf tn tp tw tf 60 with
    | (r, tp1') =>
      if r = 0 then
        (1, tp1', tw, ft)
      else
        match f_XT_number tn tp1' tw tf 1 30 with
        | (r1, tp1'2, tw1') =>
          if r1 = (-1) then
            (0, tp1'2, tw1', ft)
          else
            (1, tp1'2, tw1', f_XB_tellParent bg bf ft zg r1)
  : Int × Int × Int × (Int → Int)) := by rw [f_XR_parent_q]; rfl
set_option maxHeartbeats 4000000 in
set_option maxRecDepth 100000 in
theorem c_XR_parent (l : Launch) (dC : Nat → ClassId) (dI : Nat → Nat → Nat) (cA : ClassId) (sz : Nat) (rda : Nat) (ta : Nat) (ts : Nat) (tn : Int) (tp : Int) (tw : Int) (tf : Int → Int) (ba : Nat) (bt : Nat) (bp : Nat) (bl : Nat) (bh : Nat) (bq : Nat) (br : Nat) (bd : Nat) (bg : Int) (bf : Int) (ft : Int → Int) (zg : Int) (hn : 0 ≤ tn ∧ tn ≤ 400) (hp : 0 ≤ tp ∧ tp ≤ tn) (hf : ∀ i, 0 ≤ tf i ∧ tf i < 256) (hbt : ∀ i, 0 ≤ ft i ∧ ft i ≤ 30) (hzg : 0 ≤ zg ∧ zg ≤ 30) : Met l yXR_parent (Cond.code yXR_parent cXR_parent 4 (some .boolean) :: TBL) ({ frames := 2, cells := 0, slots := 0, locals := 44 } : Room) (va_Pc [.ref rda, .ref ba, .int (jI zg)] (jBw (dC, dI) [(cA, .int)] [(rda, .inr (2, [.ref ta])), (ta, .inr (3, [.ref ts, .int (jI tn), .int (jI tp), .int (jI tw)])), (ts, .inl (cA, 400, .inl (jA tf))), (ba, .inr (0, [.ref bt, .ref bp, .ref bl, .ref bh, .ref bq, .ref br, .ref bd, .int (jI bg), .int (jI bf)])), (bt, .inl (cA, 31, .inl (jA ft)))] sz)) (va_Qi (fun (r : Int32) (u : Int × Int × Int × (Int → Int)) => r = jI u.1 ∧ u = f_XR_parent tn tp tw tf bg bf ft zg ∧ (0 ≤ u.1 ∧ u.1 ≤ 1) ∧ (0 ≤ u.2.1 ∧ u.2.1 ≤ tn) ∧ (∀ i, 0 ≤ u.2.2.2 i ∧ u.2.2.2 i ≤ 30)) (fun u t => jE (dC, dI) [(cA, .int)] [(rda, .inr (2, [.ref ta])), (ta, .inr (3, [.ref ts, .int (jI tn), .int (jI tp), .int (jI tw)])), (ts, .inl (cA, 400, .inl (jA tf))), (ba, .inr (0, [.ref bt, .ref bp, .ref bl, .ref bh, .ref bq, .ref br, .ref bd, .int (jI bg), .int (jI bf)])), (bt, .inl (cA, 31, .inl (jA ft)))] sz [(rda, .inr (2, [.ref ta])), (ta, .inr (3, [.ref ts, .int (jI tn), .int (jI u.2.1), .int (jI u.2.2.1)])), (ts, .inl (cA, 400, .inl (jA tf))), (ba, .inr (0, [.ref bt, .ref bp, .ref bl, .ref bh, .ref bq, .ref br, .ref bd, .int (jI bg), .int (jI bf)])), (bt, .inl (cA, 31, .inl (jA u.2.2.2)))] t) (va_A [(rda, .inr (2, [.ref ta])), (ta, .inr (3, [.ref ts, .int (jI tn), .int (jI tp), .int (jI tw)])), (ts, .inl (cA, 400, .inl (jA tf))), (ba, .inr (0, [.ref bt, .ref bp, .ref bl, .ref bh, .ref bq, .ref br, .ref bd, .int (jI bg), .int (jI bf)])), (bt, .inl (cA, 31, .inl (jA ft)))] sz)) 0 0 (va_A [(rda, .inr (2, [.ref ta])), (ta, .inr (3, [.ref ts, .int (jI tn), .int (jI tp), .int (jI tw)])), (ts, .inl (cA, 400, .inl (jA tf))), (ba, .inr (0, [.ref bt, .ref bp, .ref bl, .ref bh, .ref bq, .ref br, .ref bd, .int (jI bg), .int (jI bf)])), (bt, .inl (cA, 31, .inl (jA ft)))] sz) := by
  refine jMet (cc := cXR_parent) (maxL := 4) (ret := some .boolean) (by decide) rfl ?_
  intro p e s m args below meth c s₁ R Q hR hQ B hml hv
  obtain ⟨rfl, hsz, hP, hK, hD0, hN⟩ := hv
  have hx := B.exec
  have hb := B.bytes
  have hr := B.returns
  have hts := atoms_spec (ws := Cond.code yXR_parent cXR_parent 4 (some .boolean) :: TBL) B.pre
  have hown : s.vm.findClass RXR = some m.cls := findClass_of_methodNamed B.named
  have hlocks := B.notSynchronized
  subst hsz
  obtain ⟨A, hAe⟩ : ∃ A, A = va_A [(rda, .inr (2, [.ref ta])), (ta, .inr (3, [.ref ts, .int (jI tn), .int (jI tp), .int (jI tw)])), (ts, .inl (cA, 400, .inl (jA tf))), (ba, .inr (0, [.ref bt, .ref bp, .ref bl, .ref bh, .ref bq, .ref br, .ref bd, .int (jI bg), .int (jI bf)])), (bt, .inl (cA, 31, .inl (jA ft)))] s.heap.size := ⟨_, rfl⟩
  have hD : va_D A [(rda, .inr (2, [.ref ta])), (ta, .inr (3, [.ref ts, .int (jI tn), .int (jI tp), .int (jI tw)])), (ts, .inl (cA, 400, .inl (jA tf))), (ba, .inr (0, [.ref bt, .ref bp, .ref bl, .ref bh, .ref bq, .ref br, .ref bd, .int (jI bg), .int (jI bf)])), (bt, .inl (cA, 31, .inl (jA ft)))] := by rw [hAe]; exact hD0.self
  have hA : ∀ q : Nat, s.heap.size ≤ q → A q := fun q h => by rw [hAe]; exact Or.inr h
  have hS : va_S A s.heap s.heap [] := va_S.rf
  have hP : va_P (dC, dI) vwCl [(rda, .inr (2, [.ref ta])), (ta, .inr (3, [.ref ts, .int (jI tn), .int (jI tp), .int (jI tw)])), (ts, .inl (cA, 400, .inl (jA tf))), (ba, .inr (0, [.ref bt, .ref bp, .ref bl, .ref bh, .ref bq, .ref br, .ref bd, .int (jI bg), .int (jI bf)])), (bt, .inl (cA, 31, .inl (jA ft)))] s.heap := hP
  have hl := lv_entry ([.ref rda, .ref ba, .int (jI zg)]) (n := 4) (Nat.le_of_ble_eq_true rfl)
  rw [lg_entry_eq]
  generalize (lg_sl ([.ref rda, .ref ba, .int (jI zg)]) ++ List.replicate (4 - (lg_sl ([.ref rda, .ref ba, .int (jI zg)])).length) Slot.unset).toArray = ls at hl ⊢
  have hl : lv_has ls 4 [(0, .ref rda), (1, .ref ba), (2, .int (jI zg))] := hl
  refine lv_aload_n hx hb dXR_parent_0 rfl (lv_at hl 0 rfl) ?_
  refine va_get (D := (dC, dI)) (ci := 2) (v := .ref ta) (C := RXR) (T := TXR) (N := 1) hx hb hts (fun w h => jmem (inXR w h)) hown hK hP 0 rfl rfl 0 (by decide) (hts _ (jmem tw_50)) (fun _ h9 => h9) rfl dXR_parent_1 ?_
  refine ji_bipush hx hb dXR_parent_4 (by decide) ?_
  refine jwVi (rest := []) (wr := [(rda, .inr (2, [.ref ta])), (ba, .inr (0, [.ref bt, .ref bp, .ref bl, .ref bh, .ref bq, .ref br, .ref bd, .int (jI bg), .int (jI bf)])), (bt, .inl (cA, 31, .inl (jA ft)))]) ⟨hx, hb, hml, hown, hts⟩ (c_XT_skipIf l dC dI cA _ ta ts tn tp tw tf 60 (by first | assumption | omega) (by first | assumption | omega) (by first | assumption | omega) (by first | assumption | omega) (by first | assumption | omega)) (cwV 1 hts (jG_V tw_150 tw_151 tw_152 tw_2 tw_153) rfl rfl rfl (by decide +kernel) (by rw [hR]; exact ⟨Nat.le_of_ble_eq_true rfl, Nat.le_of_ble_eq_true rfl⟩)) hK hP hD hS hA hN [1, 2] [0, 3, 4] rfl rfl (by decide) (by decide) (by decide) 1 3 rfl rfl rfl rfl hl.1 rfl (Nat.le_of_ble_eq_true rfl) dXR_parent_6 (by rw [hR]; exact ⟨Nat.le_of_ble_eq_true rfl, Nat.le_of_ble_eq_true rfl⟩) (fun v u H locs hwb hP hD hS => ?_)
  obtain ⟨r, tp1'⟩ := u
  try dsimp only at hwb
  obtain ⟨er, hwb⟩ := hwb
  subst er
  have hP : va_P (dC, dI) vwCl [(rda, .inr (2, [.ref ta])), (ba, .inr (0, [.ref bt, .ref bp, .ref bl, .ref bh, .ref bq, .ref br, .ref bd, .int (jI bg), .int (jI bf)])), (bt, .inl (cA, 31, .inl (jA ft))), (ta, .inr (3, [.ref ts, .int (jI tn), .int (jI tp1'), .int (jI tw)])), (ts, .inl (cA, 400, .inl (jA tf)))] H := hP
  have hD : va_D A [(rda, .inr (2, [.ref ta])), (ba, .inr (0, [.ref bt, .ref bp, .ref bl, .ref bh, .ref bq, .ref br, .ref bd, .int (jI bg), .int (jI bf)])), (bt, .inl (cA, 31, .inl (jA ft))), (ta, .inr (3, [.ref ts, .int (jI tn), .int (jI tp1'), .int (jI tw)])), (ts, .inl (cA, 400, .inl (jA tf)))] := hD
  have f := f_XT_skipIf_b tn tp tw tf 60 (by first | assumption | omega) (by first | assumption | omega) (by first | assumption | omega) (by first | assumption | omega) (by first | assumption | omega)
  rw [← hwb] at f; try dsimp only at f
  refine ji_if_ne (tgt := 14) hx hb dXR_parent_9 (by decide) (by omega) (fun c9_ => ?_) (fun c9_ => ?_)
  · refine lv_aload_n hx hb dXR_parent_14 rfl (lv_at hl 0 rfl) ?_
    refine va_get (D := (dC, dI)) (ci := 2) (v := .ref ta) (C := RXR) (T := TXR) (N := 1) hx hb hts (fun w h => jmem (inXR w h)) hown hK hP 0 rfl rfl 0 (by decide) (hts _ (jmem tw_50)) (fun _ h9 => h9) rfl dXR_parent_15 ?_
    refine ji_iconst hx hb dXR_parent_18 ?_
    refine ji_bipush hx hb dXR_parent_19 (by decide) ?_
    refine jwVi (rest := []) (wr := [(rda, .inr (2, [.ref ta])), (ba, .inr (0, [.ref bt, .ref bp, .ref bl, .ref bh, .ref bq, .ref br, .ref bd, .int (jI bg), .int (jI bf)])), (bt, .inl (cA, 31, .inl (jA ft)))]) ⟨hx, hb, hml, hown, hts⟩ (c_XT_number l dC dI cA _ ta ts tn tp1' tw tf 1 30 (by first | assumption | omega) (by first | assumption | omega) (by first | assumption | omega) (by first | assumption | omega) (by first | assumption | omega)) (cwV 2 hts (jG_V tw_194 tw_195 tw_196 tw_2 tw_197) rfl rfl rfl (by decide +kernel) (by rw [hR]; exact ⟨Nat.le_of_ble_eq_true rfl, Nat.le_of_ble_eq_true rfl⟩)) hK hP hD hS hA hN [3, 4] [0, 1, 2] rfl rfl (by decide) (by decide) (by decide) 3 3 rfl rfl rfl rfl hl.1 rfl (Nat.le_of_ble_eq_true rfl) dXR_parent_21 (by rw [hR]; exact ⟨Nat.le_of_ble_eq_true rfl, Nat.le_of_ble_eq_true rfl⟩) (fun v4 u3 H locs hwb5 hP hD hS => ?_)
    obtain ⟨r1, tp1'2, tw1'⟩ := u3
    try dsimp only at hwb5
    obtain ⟨er, hwb5⟩ := hwb5
    subst er
    have hP : va_P (dC, dI) vwCl [(rda, .inr (2, [.ref ta])), (ba, .inr (0, [.ref bt, .ref bp, .ref bl, .ref bh, .ref bq, .ref br, .ref bd, .int (jI bg), .int (jI bf)])), (bt, .inl (cA, 31, .inl (jA ft))), (ta, .inr (3, [.ref ts, .int (jI tn), .int (jI tp1'2), .int (jI tw1')])), (ts, .inl (cA, 400, .inl (jA tf)))] H := hP
    have hD : va_D A [(rda, .inr (2, [.ref ta])), (ba, .inr (0, [.ref bt, .ref bp, .ref bl, .ref bh, .ref bq, .ref br, .ref bd, .int (jI bg), .int (jI bf)])), (bt, .inl (cA, 31, .inl (jA ft))), (ta, .inr (3, [.ref ts, .int (jI tn), .int (jI tp1'2), .int (jI tw1')])), (ts, .inl (cA, 400, .inl (jA tf)))] := hD
    have f6 := f_XT_number_b tn tp1' tw tf 1 30 (by first | assumption | omega) (by first | assumption | omega) (by first | assumption | omega) (by first | assumption | omega) (by first | assumption | omega)
    rw [← hwb5] at f6; try dsimp only at f6
    refine lv_istore_n (lv' := [(3, .int (jI r1)), (0, .ref rda), (1, .ref ba), (2, .int (jI zg))]) hx hb dXR_parent_24 rfl hl (by decide) rfl (fun ls hl => ?_)
    refine lv_iload_n hx hb dXR_parent_25 rfl (lv_at hl 0 rfl) ?_
    refine ji_iconst hx hb dXR_parent_26 ?_
    refine ji_icmp_ne (tgt := 32) hx hb dXR_parent_27 (by decide) (by omega) (by omega) (fun c27_ => ?_) (fun c27_ => ?_)
    · refine lv_aload_n hx hb dXR_parent_32 rfl (lv_at hl 2 rfl) ?_
      refine lv_iload_n hx hb dXR_parent_33 rfl (lv_at hl 3 rfl) ?_
      refine lv_iload_n hx hb dXR_parent_34 rfl (lv_at hl 0 rfl) ?_
      refine jwVv (rest := []) (wr := [(rda, .inr (2, [.ref ta])), (ta, .inr (3, [.ref ts, .int (jI tn), .int (jI tp1'2), .int (jI tw1')])), (ts, .inl (cA, 400, .inl (jA tf)))]) ⟨hx, hb, hml, hown, hts⟩ (c_XB_tellParent l dC dI cA _ ba bt bp bl bh bq br bd bg bf ft zg r1 (by first | assumption | omega) (by first | assumption | omega) (by first | assumption | omega)) (cwV 2 hts (jG_V tw_227 tw_228 tw_229 tw_5 tw_230) rfl rfl rfl (by decide +kernel) (by rw [hR]; exact ⟨Nat.le_of_ble_eq_true rfl, Nat.le_of_ble_eq_true rfl⟩)) hK hP hD hS hA hN [1, 2] [0, 3, 4] rfl rfl (by decide) (by decide) (by decide) 1 0 rfl rfl rfl rfl hl.1 rfl (Nat.le_of_ble_eq_true rfl) dXR_parent_35 (by rw [hR]; exact ⟨Nat.le_of_ble_eq_true rfl, Nat.le_of_ble_eq_true rfl⟩) (fun u7 H locs hw hP hD hS => ?_)
      subst hw
      have hP : va_P (dC, dI) vwCl [(rda, .inr (2, [.ref ta])), (ta, .inr (3, [.ref ts, .int (jI tn), .int (jI tp1'2), .int (jI tw1')])), (ts, .inl (cA, 400, .inl (jA tf))), (ba, .inr (0, [.ref bt, .ref bp, .ref bl, .ref bh, .ref bq, .ref br, .ref bd, .int (jI bg), .int (jI bf)])), (bt, .inl (cA, 31, .inl (jA (f_XB_tellParent bg bf ft zg r1))))] H := hP
      have hD : va_D A [(rda, .inr (2, [.ref ta])), (ta, .inr (3, [.ref ts, .int (jI tn), .int (jI tp1'2), .int (jI tw1')])), (ts, .inl (cA, 400, .inl (jA tf))), (ba, .inr (0, [.ref bt, .ref bp, .ref bl, .ref bh, .ref bq, .ref br, .ref bd, .int (jI bg), .int (jI bf)])), (bt, .inl (cA, 31, .inl (jA (f_XB_tellParent bg bf ft zg r1))))] := hD
      have f8 := f_XB_tellParent_b bg bf ft zg r1 (by first | assumption | omega) (by first | assumption | omega) (by first | assumption | omega)
      refine ji_iconst hx hb dXR_parent_38 ?_
      have hP9 := hP.sub (ws' := [(rda, .inr (2, [.ref ta])), (ta, .inr (3, [.ref ts, .int (jI tn), .int (jI tp1'2), .int (jI tw1')])), (ts, .inl (cA, 400, .inl (jA tf))), (ba, .inr (0, [.ref bt, .ref bp, .ref bl, .ref bh, .ref bq, .ref br, .ref bd, .int (jI bg), .int (jI bf)])), (bt, .inl (cA, 31, .inl (jA (f_XB_tellParent bg bf ft zg r1))))]) [0, 1, 2, 3, 4] rfl
      have hD9 := hD.sub (ws' := [(rda, .inr (2, [.ref ta])), (ta, .inr (3, [.ref ts, .int (jI tn), .int (jI tp1'2), .int (jI tw1')])), (ts, .inl (cA, 400, .inl (jA tf))), (ba, .inr (0, [.ref bt, .ref bp, .ref bl, .ref bh, .ref bq, .ref br, .ref bd, .int (jI bg), .int (jI bf)])), (bt, .inl (cA, 31, .inl (jA (f_XB_tellParent bg bf ft zg r1))))]) [0, 1, 2, 3, 4] (by decide) rfl
      subst hAe
      subst hQ
      exact W.zret (v := jI 1) hx hb hr (by first | decide | exact jz (by omega)) (fun t ht hW => ⟨⟨_, (1, tp1'2, tw1', f_XB_tellParent bg bf ft zg r1), rfl, ⟨rfl, Eq.trans (by rw [f_XR_parent_s]; rw [← hwb]; try dsimp only; rw [if_neg c9_]; rw [← hwb5]; try dsimp only; rw [if_neg c27_]; try rfl) rfl, show 0 ≤ 1 ∧ 1 ≤ 1 from by first | assumption | omega, show 0 ≤ tp1'2 ∧ tp1'2 ≤ tn from by first | assumption | omega, show ∀ i, 0 ≤ (f_XB_tellParent bg bf ft zg r1) i ∧ (f_XB_tellParent bg bf ft zg r1) i ≤ 30 from by first | assumption | omega⟩, ⟨by rw [ht]; exact hP9, va_K.moved hW.alike hK, hD9⟩⟩, hS.F ht⟩) hS.2.2 dXR_parent_39
    · refine ji_iconst hx hb dXR_parent_30 ?_
      have hP9 := hP.sub (ws' := [(rda, .inr (2, [.ref ta])), (ta, .inr (3, [.ref ts, .int (jI tn), .int (jI tp1'2), .int (jI tw1')])), (ts, .inl (cA, 400, .inl (jA tf))), (ba, .inr (0, [.ref bt, .ref bp, .ref bl, .ref bh, .ref bq, .ref br, .ref bd, .int (jI bg), .int (jI bf)])), (bt, .inl (cA, 31, .inl (jA ft)))]) [0, 3, 4, 1, 2] rfl
      have hD9 := hD.sub (ws' := [(rda, .inr (2, [.ref ta])), (ta, .inr (3, [.ref ts, .int (jI tn), .int (jI tp1'2), .int (jI tw1')])), (ts, .inl (cA, 400, .inl (jA tf))), (ba, .inr (0, [.ref bt, .ref bp, .ref bl, .ref bh, .ref bq, .ref br, .ref bd, .int (jI bg), .int (jI bf)])), (bt, .inl (cA, 31, .inl (jA ft)))]) [0, 3, 4, 1, 2] (by decide) rfl
      subst hAe
      subst hQ
      exact W.zret (v := jI 0) hx hb hr (by first | decide | exact jz (by omega)) (fun t ht hW => ⟨⟨_, (0, tp1'2, tw1', ft), rfl, ⟨rfl, Eq.trans (by rw [f_XR_parent_s]; rw [← hwb]; try dsimp only; rw [if_neg c9_]; rw [← hwb5]; try dsimp only; rw [if_pos c27_]; try rfl) rfl, show 0 ≤ 0 ∧ 0 ≤ 1 from by first | assumption | omega, show 0 ≤ tp1'2 ∧ tp1'2 ≤ tn from by first | assumption | omega, show ∀ i, 0 ≤ ft i ∧ ft i ≤ 30 from by first | assumption | omega⟩, ⟨by rw [ht]; exact hP9, va_K.moved hW.alike hK, hD9⟩⟩, hS.F ht⟩) hS.2.2 dXR_parent_31
  · refine ji_iconst hx hb dXR_parent_12 ?_
    have hP9 := hP.sub (ws' := [(rda, .inr (2, [.ref ta])), (ta, .inr (3, [.ref ts, .int (jI tn), .int (jI tp1'), .int (jI tw)])), (ts, .inl (cA, 400, .inl (jA tf))), (ba, .inr (0, [.ref bt, .ref bp, .ref bl, .ref bh, .ref bq, .ref br, .ref bd, .int (jI bg), .int (jI bf)])), (bt, .inl (cA, 31, .inl (jA ft)))]) [0, 3, 4, 1, 2] rfl
    have hD9 := hD.sub (ws' := [(rda, .inr (2, [.ref ta])), (ta, .inr (3, [.ref ts, .int (jI tn), .int (jI tp1'), .int (jI tw)])), (ts, .inl (cA, 400, .inl (jA tf))), (ba, .inr (0, [.ref bt, .ref bp, .ref bl, .ref bh, .ref bq, .ref br, .ref bd, .int (jI bg), .int (jI bf)])), (bt, .inl (cA, 31, .inl (jA ft)))]) [0, 3, 4, 1, 2] (by decide) rfl
    subst hAe
    subst hQ
    exact W.zret (v := jI 1) hx hb hr (by first | decide | exact jz (by omega)) (fun t ht hW => ⟨⟨_, (1, tp1', tw, ft), rfl, ⟨rfl, Eq.trans (by rw [f_XR_parent_s]; rw [← hwb]; try dsimp only; rw [if_pos c9_]; try rfl) rfl, show 0 ≤ 1 ∧ 1 ≤ 1 from by first | assumption | omega, show 0 ≤ tp1' ∧ tp1' ≤ tn from by first | assumption | omega, show ∀ i, 0 ≤ ft i ∧ ft i ≤ 30 from by first | assumption | omega⟩, ⟨by rw [ht]; exact hP9, va_K.moved hW.alike hK, hD9⟩⟩, hS.F ht⟩) hS.2.2 dXR_parent_13
noncomputable def g_XR_terms_L2 (tn : Int) (tp : Int) (tw : Int) (tf : Int → Int) (bg : Int) (bf : Int) (fd : Int → Int) (zk : Int) : Nat → Int → Int → Int → (Int → Int) → Int × Int × Int × (Int → Int)
  | 0, _, _, _, _ => (0, 0, 0, fun _ => 0)
  | n9 + 1, k, q, w, yd =>
    if 8 < k then
      match f_XT_refuse tn q w tf with
      | (r, tw1') =>
        (r, q, tw1', yd)
    else
      match f_XT_takeOneOf tn q w tf 65 8 with
      | (r1, tp1', tw1'2) =>
        if r1 = (-1) then
          (0, tp1', tw1'2, yd)
        else
          if 0 < (f_XB_divisorOf bg bf yd zk r1) then
            match f_XT_refuseLast tn tp1' tw1'2 tf with
            | (r39, tw1'40) =>
              (r39, tp1', tw1'40, yd)
          else
            match f_XT_skipIf tn tp1' tw1'2 tf 47 with
            | (r8, tp1'9) =>
              if r8 = 0 then
                if 1 = (-1) then
                  (0, tp1'9, tw1'2, yd)
                else
                  match f_XT_skipIf tn tp1'9 tw1'2 tf 43 with
                  | (r16, tp1'17) =>
                    if r16 = 0 then
                      (1, tp1'17, tw1'2, f_XB_tellTerm bg bf yd zk r1 1)
                    else
                      g_XR_terms_L2 tn tp tw tf bg bf fd zk n9 (k + 1) tp1'17 tw1'2 (f_XB_tellTerm bg bf yd zk r1 1)
              else
                match f_XT_number tn tp1'9 tw1'2 tf 1 20 with
                | (r22, tp1'23, tw1'24) =>
                  if r22 = (-1) then
                    (0, tp1'23, tw1'24, yd)
                  else
                    match f_XT_skipIf tn tp1'23 tw1'24 tf 43 with
                    | (r32, tp1'33) =>
                      if r32 = 0 then
                        (1, tp1'33, tw1'24, f_XB_tellTerm bg bf yd zk r1 r22)
                      else
                        g_XR_terms_L2 tn tp tw tf bg bf fd zk n9 (k + 1) tp1'33 tw1'24 (f_XB_tellTerm bg bf yd zk r1 r22)
noncomputable def f_XR_terms_L2 : Int → Int → Int → (Int → Int) → Int → Int → (Int → Int) → Int → Nat → Int → Int → Int → (Int → Int) → Int × Int × Int × (Int → Int) := jopq g_XR_terms_L2
theorem f_XR_terms_L2_q : f_XR_terms_L2 = g_XR_terms_L2 := jopq_eq _
theorem f_XR_terms_L2_s (tn : Int) (tp : Int) (tw : Int) (tf : Int → Int) (bg : Int) (bf : Int) (fd : Int → Int) (zk : Int) (n9 : Nat) (k : Int) (q : Int) (w : Int) (yd : Int → Int) : f_XR_terms_L2 tn tp tw tf bg bf fd zk (n9 + 1) k q w yd = (
    if 8 < k then
      match f_XT_refuse tn q w tf with
      | (r, tw1') =>
        (r, q, tw1', yd)
    else
      match f_XT_takeOneOf tn q w tf 65 8 with
      | (r1, tp1', tw1'2) =>
        if r1 = (-1) then
          (0, tp1', tw1'2, yd)
        else
          if 0 < (f_XB_divisorOf bg bf yd zk r1) then
            match f_XT_refuseLast tn tp1' tw1'2 tf with
            | (r39, tw1'40) =>
              (r39, tp1', tw1'40, yd)
          else
            match f_XT_skipIf tn tp1' tw1'2 tf 47 with
            | (r8, tp1'9) =>
              if r8 = 0 then
                if 1 = (-1) then
                  (0, tp1'9, tw1'2, yd)
                else
                  match f_XT_skipIf tn tp1'9 tw1'2 tf 43 with
                  | (r16, tp1'17) =>
                    if r16 = 0 then
                      (1, tp1'17, tw1'2, f_XB_tellTerm bg bf yd zk r1 1)
                    else
                      f_XR_terms_L2 tn tp tw tf bg bf fd zk n9 (k + 1) tp1'17 tw1'2 (f_XB_tellTerm bg bf yd zk r1 1)
              else
                match f_XT_number tn tp1'9 tw1'2 tf 1 20 with
                | (r22, tp1'23, tw1'24) =>
                  if r22 = (-1) then
                    (0, tp1'23, tw1'24, yd)
                  else
                    match f_XT_skipIf tn tp1'23 tw1'24 tf 43 with
                    | (r32, tp1'33) =>
                      if r32 = 0 then
                        (1, tp1'33, tw1'24, f_XB_tellTerm bg bf yd zk r1 r22)
                      else
                        f_XR_terms_L2 tn tp tw tf bg bf fd zk n9 (k + 1) tp1'33 tw1'24 (f_XB_tellTerm bg bf yd zk r1 r22)
  : Int × Int × Int × (Int → Int)) := by rw [f_XR_terms_L2_q]; rfl
theorem f_XR_terms_L2_z (tn : Int) (tp : Int) (tw : Int) (tf : Int → Int) (bg : Int) (bf : Int) (fd : Int → Int) (zk : Int) (k : Int) (q : Int) (w : Int) (yd : Int → Int) : f_XR_terms_L2 tn tp tw tf bg bf fd zk 0 k q w yd = (0, 0, 0, fun _ => 0) := by rw [f_XR_terms_L2_q]; rfl
noncomputable def g_XR_terms (tn : Int) (tp : Int) (tw : Int) (tf : Int → Int) (bg : Int) (bf : Int) (fd : Int → Int) (zk : Int) : Int × Int × Int × (Int → Int) :=
  f_XR_terms_L2 tn tp tw tf bg bf fd zk (Int.toNat (9 - 0) + 1) 0 tp tw fd
noncomputable def f_XR_terms : Int → Int → Int → (Int → Int) → Int → Int → (Int → Int) → Int → Int × Int × Int × (Int → Int) := jopq g_XR_terms
theorem f_XR_terms_q : f_XR_terms = g_XR_terms := jopq_eq _
theorem f_XR_terms_s (tn : Int) (tp : Int) (tw : Int) (tf : Int → Int) (bg : Int) (bf : Int) (fd : Int → Int) (zk : Int) : f_XR_terms tn tp tw tf bg bf fd zk = (
    f_XR_terms_L2 tn tp tw tf bg bf fd zk (Int.toNat (9 - 0) + 1) 0 tp tw fd
  : Int × Int × Int × (Int → Int)) := by rw [f_XR_terms_q]; rfl
set_option maxHeartbeats 4000000 in
set_option maxRecDepth 100000 in
theorem c_XR_terms (l : Launch) (dC : Nat → ClassId) (dI : Nat → Nat → Nat) (cA : ClassId) (sz : Nat) (rda : Nat) (ta : Nat) (ts : Nat) (tn : Int) (tp : Int) (tw : Int) (tf : Int → Int) (ba : Nat) (bt : Nat) (bp : Nat) (bl : Nat) (bh : Nat) (bq : Nat) (br : Nat) (bd : Nat) (bg : Int) (bf : Int) (fd : Int → Int) (zk : Int) (hn : 0 ≤ tn ∧ tn ≤ 400) (hp : 0 ≤ tp ∧ tp ≤ tn) (hf : ∀ i, 0 ≤ tf i ∧ tf i < 256) (hbd : ∀ i, 0 ≤ fd i ∧ fd i ≤ 20) (hzk : 0 ≤ zk ∧ zk < 4) : Met l yXR_terms (Cond.code yXR_terms cXR_terms 6 (some .boolean) :: TBL) ({ frames := 2, cells := 0, slots := 0, locals := 44 } : Room) (va_Pc [.ref rda, .ref ba, .int (jI zk)] (jBw (dC, dI) [(cA, .int)] [(rda, .inr (2, [.ref ta])), (ta, .inr (3, [.ref ts, .int (jI tn), .int (jI tp), .int (jI tw)])), (ts, .inl (cA, 400, .inl (jA tf))), (ba, .inr (0, [.ref bt, .ref bp, .ref bl, .ref bh, .ref bq, .ref br, .ref bd, .int (jI bg), .int (jI bf)])), (bd, .inl (cA, 32, .inl (jA fd)))] sz)) (va_Qi (fun (r : Int32) (u : Int × Int × Int × (Int → Int)) => r = jI u.1 ∧ u = f_XR_terms tn tp tw tf bg bf fd zk ∧ (0 ≤ u.1 ∧ u.1 ≤ 1) ∧ (0 ≤ u.2.1 ∧ u.2.1 ≤ tn) ∧ (∀ i, 0 ≤ u.2.2.2 i ∧ u.2.2.2 i ≤ 20)) (fun u t => jE (dC, dI) [(cA, .int)] [(rda, .inr (2, [.ref ta])), (ta, .inr (3, [.ref ts, .int (jI tn), .int (jI tp), .int (jI tw)])), (ts, .inl (cA, 400, .inl (jA tf))), (ba, .inr (0, [.ref bt, .ref bp, .ref bl, .ref bh, .ref bq, .ref br, .ref bd, .int (jI bg), .int (jI bf)])), (bd, .inl (cA, 32, .inl (jA fd)))] sz [(rda, .inr (2, [.ref ta])), (ta, .inr (3, [.ref ts, .int (jI tn), .int (jI u.2.1), .int (jI u.2.2.1)])), (ts, .inl (cA, 400, .inl (jA tf))), (ba, .inr (0, [.ref bt, .ref bp, .ref bl, .ref bh, .ref bq, .ref br, .ref bd, .int (jI bg), .int (jI bf)])), (bd, .inl (cA, 32, .inl (jA u.2.2.2)))] t) (va_A [(rda, .inr (2, [.ref ta])), (ta, .inr (3, [.ref ts, .int (jI tn), .int (jI tp), .int (jI tw)])), (ts, .inl (cA, 400, .inl (jA tf))), (ba, .inr (0, [.ref bt, .ref bp, .ref bl, .ref bh, .ref bq, .ref br, .ref bd, .int (jI bg), .int (jI bf)])), (bd, .inl (cA, 32, .inl (jA fd)))] sz)) 0 0 (va_A [(rda, .inr (2, [.ref ta])), (ta, .inr (3, [.ref ts, .int (jI tn), .int (jI tp), .int (jI tw)])), (ts, .inl (cA, 400, .inl (jA tf))), (ba, .inr (0, [.ref bt, .ref bp, .ref bl, .ref bh, .ref bq, .ref br, .ref bd, .int (jI bg), .int (jI bf)])), (bd, .inl (cA, 32, .inl (jA fd)))] sz) := by
  refine jMet (cc := cXR_terms) (maxL := 6) (ret := some .boolean) (by decide) rfl ?_
  intro p e s m args below meth c s₁ R Q hR hQ B hml hv
  obtain ⟨rfl, hsz, hP, hK, hD0, hN⟩ := hv
  have hx := B.exec
  have hb := B.bytes
  have hr := B.returns
  have hts := atoms_spec (ws := Cond.code yXR_terms cXR_terms 6 (some .boolean) :: TBL) B.pre
  have hown : s.vm.findClass RXR = some m.cls := findClass_of_methodNamed B.named
  have hlocks := B.notSynchronized
  subst hsz
  obtain ⟨A, hAe⟩ : ∃ A, A = va_A [(rda, .inr (2, [.ref ta])), (ta, .inr (3, [.ref ts, .int (jI tn), .int (jI tp), .int (jI tw)])), (ts, .inl (cA, 400, .inl (jA tf))), (ba, .inr (0, [.ref bt, .ref bp, .ref bl, .ref bh, .ref bq, .ref br, .ref bd, .int (jI bg), .int (jI bf)])), (bd, .inl (cA, 32, .inl (jA fd)))] s.heap.size := ⟨_, rfl⟩
  have hD : va_D A [(rda, .inr (2, [.ref ta])), (ta, .inr (3, [.ref ts, .int (jI tn), .int (jI tp), .int (jI tw)])), (ts, .inl (cA, 400, .inl (jA tf))), (ba, .inr (0, [.ref bt, .ref bp, .ref bl, .ref bh, .ref bq, .ref br, .ref bd, .int (jI bg), .int (jI bf)])), (bd, .inl (cA, 32, .inl (jA fd)))] := by rw [hAe]; exact hD0.self
  have hA : ∀ q : Nat, s.heap.size ≤ q → A q := fun q h => by rw [hAe]; exact Or.inr h
  have hS : va_S A s.heap s.heap [] := va_S.rf
  have hP : va_P (dC, dI) vwCl [(rda, .inr (2, [.ref ta])), (ta, .inr (3, [.ref ts, .int (jI tn), .int (jI tp), .int (jI tw)])), (ts, .inl (cA, 400, .inl (jA tf))), (ba, .inr (0, [.ref bt, .ref bp, .ref bl, .ref bh, .ref bq, .ref br, .ref bd, .int (jI bg), .int (jI bf)])), (bd, .inl (cA, 32, .inl (jA fd)))] s.heap := hP
  have hl := lv_entry ([.ref rda, .ref ba, .int (jI zk)]) (n := 6) (Nat.le_of_ble_eq_true rfl)
  rw [lg_entry_eq]
  generalize (lg_sl ([.ref rda, .ref ba, .int (jI zk)]) ++ List.replicate (6 - (lg_sl ([.ref rda, .ref ba, .int (jI zk)])).length) Slot.unset).toArray = ls at hl ⊢
  have hl : lv_has ls 6 [(0, .ref rda), (1, .ref ba), (2, .int (jI zk))] := hl
  refine ji_iconst hx hb dXR_terms_0 ?_
  refine lv_istore_n (lv' := [(3, .int (jI 0)), (0, .ref rda), (1, .ref ba), (2, .int (jI zk))]) hx hb dXR_terms_1 rfl hl (by decide) rfl (fun ls hl => ?_)
  have loop2 : ∀ (n9 : Nat) (k : Int) (q : Int) (w : Int) (yd : Int → Int) , 9 - k < (n9 : Int) → f_XR_terms_L2 tn tp tw tf bg bf fd zk n9 k q w yd = f_XR_terms tn tp tw tf bg bf fd zk → (0 ≤ k ∧ k ≤ 9) → (0 ≤ q ∧ q ≤ tn) → (∀ i, 0 ≤ yd i ∧ yd i ≤ 20) → ∀ (H : Heap) (locs : List Loc), va_P (dC, dI) vwCl [(rda, .inr (2, [.ref ta])), (ta, .inr (3, [.ref ts, .int (jI tn), .int (jI q), .int (jI w)])), (ts, .inl (cA, 400, .inl (jA tf))), (ba, .inr (0, [.ref bt, .ref bp, .ref bl, .ref bh, .ref bq, .ref br, .ref bd, .int (jI bg), .int (jI bf)])), (bd, .inl (cA, 32, .inl (jA yd)))] H → va_D A [(rda, .inr (2, [.ref ta])), (ta, .inr (3, [.ref ts, .int (jI tn), .int (jI q), .int (jI w)])), (ts, .inl (cA, 400, .inl (jA tf))), (ba, .inr (0, [.ref bt, .ref bp, .ref bl, .ref bh, .ref bq, .ref br, .ref bd, .int (jI bg), .int (jI bf)])), (bd, .inl (cA, 32, .inl (jA yd)))] → va_S A s.heap H locs → ∀ ls : Array Slot, lv_has ls 6 [(3, .int (jI k)), (0, .ref rda), (1, .ref ba), (2, .int (jI zk))] → W p l e R s m ([.ref rda, .ref ba, .int (jI zk)] : List Value).toArray below meth c H locs 0 0 Q (F0 m 2 ls []) := by
    intro n9
    induction n9 with
    | zero =>
      intro k q w yd hm hF hk hq had
      exact absurd hm (by omega)
    | succ n9 ih2 =>
      intro k q w yd hm hF hk hq had H locs hP hD hS ls hl
      refine lv_iload_n hx hb dXR_terms_2 rfl (lv_at hl 0 rfl) ?_
      refine ji_bipush hx hb dXR_terms_3 (by decide) ?_
      refine ji_icmp_gt (tgt := 112) hx hb dXR_terms_5 (by decide) (by omega) (by omega) (fun c5_ => ?_) (fun c5_ => ?_)
      · refine lv_aload_n hx hb dXR_terms_112 rfl (lv_at hl 1 rfl) ?_
        refine va_get (D := (dC, dI)) (ci := 2) (v := .ref ta) (C := RXR) (T := TXR) (N := 1) hx hb hts (fun w h => jmem (inXR w h)) hown hK hP 0 rfl rfl 0 (by decide) (hts _ (jmem tw_50)) (fun _ h9 => h9) rfl dXR_terms_113 ?_
        refine jwVi (rest := []) (wr := [(rda, .inr (2, [.ref ta])), (ba, .inr (0, [.ref bt, .ref bp, .ref bl, .ref bh, .ref bq, .ref br, .ref bd, .int (jI bg), .int (jI bf)])), (bd, .inl (cA, 32, .inl (jA yd)))]) ⟨hx, hb, hml, hown, hts⟩ (c_XT_refuse l dC dI cA _ ta ts tn q w tf) (cwV 0 hts (jG_V tw_210 tw_164 tw_165 tw_2 tw_166) rfl rfl rfl (by decide +kernel) (by rw [hR]; exact ⟨Nat.le_of_ble_eq_true rfl, Nat.le_of_ble_eq_true rfl⟩)) hK hP hD hS hA hN [1, 2] [0, 3, 4] rfl rfl (by decide) (by decide) (by decide) 1 3 rfl rfl rfl rfl hl.1 rfl (Nat.le_of_ble_eq_true rfl) dXR_terms_116 (by rw [hR]; exact ⟨Nat.le_of_ble_eq_true rfl, Nat.le_of_ble_eq_true rfl⟩) (fun v u H locs hwb hP hD hS => ?_)
        obtain ⟨r, tw1'⟩ := u
        try dsimp only at hwb
        obtain ⟨er, hwb⟩ := hwb
        subst er
        have hP : va_P (dC, dI) vwCl [(rda, .inr (2, [.ref ta])), (ba, .inr (0, [.ref bt, .ref bp, .ref bl, .ref bh, .ref bq, .ref br, .ref bd, .int (jI bg), .int (jI bf)])), (bd, .inl (cA, 32, .inl (jA yd))), (ta, .inr (3, [.ref ts, .int (jI tn), .int (jI q), .int (jI tw1')])), (ts, .inl (cA, 400, .inl (jA tf)))] H := hP
        have hD : va_D A [(rda, .inr (2, [.ref ta])), (ba, .inr (0, [.ref bt, .ref bp, .ref bl, .ref bh, .ref bq, .ref br, .ref bd, .int (jI bg), .int (jI bf)])), (bd, .inl (cA, 32, .inl (jA yd))), (ta, .inr (3, [.ref ts, .int (jI tn), .int (jI q), .int (jI tw1')])), (ts, .inl (cA, 400, .inl (jA tf)))] := hD
        have f := f_XT_refuse_b tn q w tf
        rw [← hwb] at f; try dsimp only at f
        have hP9 := hP.sub (ws' := [(rda, .inr (2, [.ref ta])), (ta, .inr (3, [.ref ts, .int (jI tn), .int (jI q), .int (jI tw1')])), (ts, .inl (cA, 400, .inl (jA tf))), (ba, .inr (0, [.ref bt, .ref bp, .ref bl, .ref bh, .ref bq, .ref br, .ref bd, .int (jI bg), .int (jI bf)])), (bd, .inl (cA, 32, .inl (jA yd)))]) [0, 3, 4, 1, 2] rfl
        have hD9 := hD.sub (ws' := [(rda, .inr (2, [.ref ta])), (ta, .inr (3, [.ref ts, .int (jI tn), .int (jI q), .int (jI tw1')])), (ts, .inl (cA, 400, .inl (jA tf))), (ba, .inr (0, [.ref bt, .ref bp, .ref bl, .ref bh, .ref bq, .ref br, .ref bd, .int (jI bg), .int (jI bf)])), (bd, .inl (cA, 32, .inl (jA yd)))]) [0, 3, 4, 1, 2] (by decide) rfl
        subst hAe
        subst hQ
        exact W.zret (v := jI r) hx hb hr (by first | decide | exact jz (by omega)) (fun t ht hW => ⟨⟨_, (r, q, tw1', yd), rfl, ⟨rfl, Eq.trans (by rw [f_XR_terms_L2_s]; rw [if_pos c5_]; rw [← hwb]; try dsimp only; try rfl) hF, show 0 ≤ r ∧ r ≤ 1 from by first | assumption | omega, show 0 ≤ q ∧ q ≤ tn from by first | assumption | omega, show ∀ i, 0 ≤ yd i ∧ yd i ≤ 20 from by first | assumption | omega⟩, ⟨by rw [ht]; exact hP9, va_K.moved hW.alike hK, hD9⟩⟩, hS.F ht⟩) hS.2.2 dXR_terms_119
      · refine lv_aload_n hx hb dXR_terms_8 rfl (lv_at hl 1 rfl) ?_
        refine va_get (D := (dC, dI)) (ci := 2) (v := .ref ta) (C := RXR) (T := TXR) (N := 1) hx hb hts (fun w h => jmem (inXR w h)) hown hK hP 0 rfl rfl 0 (by decide) (hts _ (jmem tw_50)) (fun _ h9 => h9) rfl dXR_terms_9 ?_
        refine ji_bipush hx hb dXR_terms_12 (by decide) ?_
        refine ji_bipush hx hb dXR_terms_14 (by decide) ?_
        refine jwVi (rest := []) (wr := [(rda, .inr (2, [.ref ta])), (ba, .inr (0, [.ref bt, .ref bp, .ref bl, .ref bh, .ref bq, .ref br, .ref bd, .int (jI bg), .int (jI bf)])), (bd, .inl (cA, 32, .inl (jA yd)))]) ⟨hx, hb, hml, hown, hts⟩ (c_XT_takeOneOf l dC dI cA _ ta ts tn q w tf 65 8 (by first | assumption | omega) (by first | assumption | omega) (by first | assumption | omega) (by first | assumption | omega) (by first | assumption | omega)) (cwV 2 hts (jG_V tw_159 tw_160 tw_161 tw_2 tw_162) rfl rfl rfl (by decide +kernel) (by rw [hR]; exact ⟨Nat.le_of_ble_eq_true rfl, Nat.le_of_ble_eq_true rfl⟩)) hK hP hD hS hA hN [1, 2] [0, 3, 4] rfl rfl (by decide) (by decide) (by decide) 1 3 rfl rfl rfl rfl hl.1 rfl (Nat.le_of_ble_eq_true rfl) dXR_terms_16 (by rw [hR]; exact ⟨Nat.le_of_ble_eq_true rfl, Nat.le_of_ble_eq_true rfl⟩) (fun v4 u3 H locs hwb5 hP hD hS => ?_)
        obtain ⟨r1, tp1', tw1'2⟩ := u3
        try dsimp only at hwb5
        obtain ⟨er, hwb5⟩ := hwb5
        subst er
        have hP : va_P (dC, dI) vwCl [(rda, .inr (2, [.ref ta])), (ba, .inr (0, [.ref bt, .ref bp, .ref bl, .ref bh, .ref bq, .ref br, .ref bd, .int (jI bg), .int (jI bf)])), (bd, .inl (cA, 32, .inl (jA yd))), (ta, .inr (3, [.ref ts, .int (jI tn), .int (jI tp1'), .int (jI tw1'2)])), (ts, .inl (cA, 400, .inl (jA tf)))] H := hP
        have hD : va_D A [(rda, .inr (2, [.ref ta])), (ba, .inr (0, [.ref bt, .ref bp, .ref bl, .ref bh, .ref bq, .ref br, .ref bd, .int (jI bg), .int (jI bf)])), (bd, .inl (cA, 32, .inl (jA yd))), (ta, .inr (3, [.ref ts, .int (jI tn), .int (jI tp1'), .int (jI tw1'2)])), (ts, .inl (cA, 400, .inl (jA tf)))] := hD
        have f6 := f_XT_takeOneOf_b tn q w tf 65 8 (by first | assumption | omega) (by first | assumption | omega) (by first | assumption | omega) (by first | assumption | omega) (by first | assumption | omega)
        rw [← hwb5] at f6; try dsimp only at f6
        refine lv_istore (lv' := [(4, .int (jI r1)), (3, .int (jI k)), (0, .ref rda), (1, .ref ba), (2, .int (jI zk))]) hx hb dXR_terms_19 hl (by decide) rfl (fun ls hl => ?_)
        refine lv_iload hx hb dXR_terms_21 (lv_at hl 0 rfl) ?_
        refine ji_iconst hx hb dXR_terms_23 ?_
        refine ji_icmp_ne (tgt := 29) hx hb dXR_terms_24 (by decide) (by omega) (by omega) (fun c24_ => ?_) (fun c24_ => ?_)
        · refine lv_aload_n hx hb dXR_terms_29 rfl (lv_at hl 3 rfl) ?_
          refine lv_iload_n hx hb dXR_terms_30 rfl (lv_at hl 4 rfl) ?_
          refine lv_iload hx hb dXR_terms_31 (lv_at hl 0 rfl) ?_
          refine jrVi (rest := []) ⟨hx, hb, hml, hown, hts⟩ (c_XB_divisorOf l dC dI cA ba bt bp bl bh bq br bd bg bf yd zk r1 (by first | assumption | omega) (by first | assumption | omega) (by first | assumption | omega)) (cwV 2 hts (jG_V tw_190 tw_191 tw_192 tw_5 tw_193) rfl rfl rfl (by decide +kernel) (by rw [hR]; exact ⟨Nat.le_of_ble_eq_true rfl, Nat.le_of_ble_eq_true rfl⟩)) hK hP hN [1, 2] rfl 1 0 rfl rfl rfl rfl hl.1 rfl (Nat.le_of_ble_eq_true rfl) dXR_terms_33 (by rw [hR]; exact ⟨Nat.le_of_ble_eq_true rfl, Nat.le_of_ble_eq_true rfl⟩) ?_
          have f7 := f_XB_divisorOf_b bg bf yd zk r1 (by first | assumption | omega) (by first | assumption | omega) (by first | assumption | omega)
          refine ji_if_le (tgt := 47) hx hb dXR_terms_36 (by decide) (by omega) (fun c36_ => ?_) (fun c36_ => ?_)
          · refine lv_aload_n hx hb dXR_terms_47 rfl (lv_at hl 2 rfl) ?_
            refine va_get (D := (dC, dI)) (ci := 2) (v := .ref ta) (C := RXR) (T := TXR) (N := 1) hx hb hts (fun w h => jmem (inXR w h)) hown hK hP 0 rfl rfl 0 (by decide) (hts _ (jmem tw_50)) (fun _ h9 => h9) rfl dXR_terms_48 ?_
            refine ji_bipush hx hb dXR_terms_51 (by decide) ?_
            refine jwVi (rest := []) (wr := [(rda, .inr (2, [.ref ta])), (ba, .inr (0, [.ref bt, .ref bp, .ref bl, .ref bh, .ref bq, .ref br, .ref bd, .int (jI bg), .int (jI bf)])), (bd, .inl (cA, 32, .inl (jA yd)))]) ⟨hx, hb, hml, hown, hts⟩ (c_XT_skipIf l dC dI cA _ ta ts tn tp1' tw1'2 tf 47 (by first | assumption | omega) (by first | assumption | omega) (by first | assumption | omega) (by first | assumption | omega) (by first | assumption | omega)) (cwV 1 hts (jG_V tw_150 tw_151 tw_152 tw_2 tw_153) rfl rfl rfl (by decide +kernel) (by rw [hR]; exact ⟨Nat.le_of_ble_eq_true rfl, Nat.le_of_ble_eq_true rfl⟩)) hK hP hD hS hA hN [3, 4] [0, 1, 2] rfl rfl (by decide) (by decide) (by decide) 3 3 rfl rfl rfl rfl hl.1 rfl (Nat.le_of_ble_eq_true rfl) dXR_terms_53 (by rw [hR]; exact ⟨Nat.le_of_ble_eq_true rfl, Nat.le_of_ble_eq_true rfl⟩) (fun v11 u10 H locs hwb12 hP hD hS => ?_)
            obtain ⟨r8, tp1'9⟩ := u10
            try dsimp only at hwb12
            obtain ⟨er, hwb12⟩ := hwb12
            subst er
            have hP : va_P (dC, dI) vwCl [(rda, .inr (2, [.ref ta])), (ba, .inr (0, [.ref bt, .ref bp, .ref bl, .ref bh, .ref bq, .ref br, .ref bd, .int (jI bg), .int (jI bf)])), (bd, .inl (cA, 32, .inl (jA yd))), (ta, .inr (3, [.ref ts, .int (jI tn), .int (jI tp1'9), .int (jI tw1'2)])), (ts, .inl (cA, 400, .inl (jA tf)))] H := hP
            have hD : va_D A [(rda, .inr (2, [.ref ta])), (ba, .inr (0, [.ref bt, .ref bp, .ref bl, .ref bh, .ref bq, .ref br, .ref bd, .int (jI bg), .int (jI bf)])), (bd, .inl (cA, 32, .inl (jA yd))), (ta, .inr (3, [.ref ts, .int (jI tn), .int (jI tp1'9), .int (jI tw1'2)])), (ts, .inl (cA, 400, .inl (jA tf)))] := hD
            have f13 := f_XT_skipIf_b tn tp1' tw1'2 tf 47 (by first | assumption | omega) (by first | assumption | omega) (by first | assumption | omega) (by first | assumption | omega) (by first | assumption | omega)
            rw [← hwb12] at f13; try dsimp only at f13
            refine ji_if_eq (tgt := 72) hx hb dXR_terms_56 (by decide) (by omega) (fun c56_ => ?_) (fun c56_ => ?_)
            · refine ji_iconst hx hb dXR_terms_72 ?_
              refine lv_istore (lv' := [(5, .int (jI 1)), (4, .int (jI r1)), (3, .int (jI k)), (0, .ref rda), (1, .ref ba), (2, .int (jI zk))]) hx hb dXR_terms_73 hl (by decide) rfl (fun ls hl => ?_)
              refine lv_iload hx hb dXR_terms_75 (lv_at hl 0 rfl) ?_
              refine ji_iconst hx hb dXR_terms_77 ?_
              refine ji_icmp_ne (tgt := 83) hx hb dXR_terms_78 (by decide) (by omega) (by omega) (fun c78_ => ?_) (fun c78_ => ?_)
              · refine lv_aload_n hx hb dXR_terms_83 rfl (lv_at hl 4 rfl) ?_
                refine lv_iload_n hx hb dXR_terms_84 rfl (lv_at hl 5 rfl) ?_
                refine lv_iload hx hb dXR_terms_85 (lv_at hl 1 rfl) ?_
                refine lv_iload hx hb dXR_terms_87 (lv_at hl 0 rfl) ?_
                refine jwVv (rest := []) (wr := [(rda, .inr (2, [.ref ta])), (ta, .inr (3, [.ref ts, .int (jI tn), .int (jI tp1'9), .int (jI tw1'2)])), (ts, .inl (cA, 400, .inl (jA tf)))]) ⟨hx, hb, hml, hown, hts⟩ (c_XB_tellTerm l dC dI cA _ ba bt bp bl bh bq br bd bg bf yd zk r1 1 (by first | assumption | omega) (by first | assumption | omega) (by first | assumption | omega) (by first | assumption | omega)) (cwV 3 hts (jG_V tw_206 tw_207 tw_208 tw_5 tw_209) rfl rfl rfl (by decide +kernel) (by rw [hR]; exact ⟨Nat.le_of_ble_eq_true rfl, Nat.le_of_ble_eq_true rfl⟩)) hK hP hD hS hA hN [1, 2] [0, 3, 4] rfl rfl (by decide) (by decide) (by decide) 1 0 rfl rfl rfl rfl hl.1 rfl (Nat.le_of_ble_eq_true rfl) dXR_terms_89 (by rw [hR]; exact ⟨Nat.le_of_ble_eq_true rfl, Nat.le_of_ble_eq_true rfl⟩) (fun u14 H locs hw hP hD hS => ?_)
                subst hw
                have hP : va_P (dC, dI) vwCl [(rda, .inr (2, [.ref ta])), (ta, .inr (3, [.ref ts, .int (jI tn), .int (jI tp1'9), .int (jI tw1'2)])), (ts, .inl (cA, 400, .inl (jA tf))), (ba, .inr (0, [.ref bt, .ref bp, .ref bl, .ref bh, .ref bq, .ref br, .ref bd, .int (jI bg), .int (jI bf)])), (bd, .inl (cA, 32, .inl (jA (f_XB_tellTerm bg bf yd zk r1 1))))] H := hP
                have hD : va_D A [(rda, .inr (2, [.ref ta])), (ta, .inr (3, [.ref ts, .int (jI tn), .int (jI tp1'9), .int (jI tw1'2)])), (ts, .inl (cA, 400, .inl (jA tf))), (ba, .inr (0, [.ref bt, .ref bp, .ref bl, .ref bh, .ref bq, .ref br, .ref bd, .int (jI bg), .int (jI bf)])), (bd, .inl (cA, 32, .inl (jA (f_XB_tellTerm bg bf yd zk r1 1))))] := hD
                have f15 := f_XB_tellTerm_b bg bf yd zk r1 1 (by first | assumption | omega) (by first | assumption | omega) (by first | assumption | omega) (by first | assumption | omega)
                refine lv_aload_n hx hb dXR_terms_92 rfl (lv_at hl 3 rfl) ?_
                refine va_get (D := (dC, dI)) (ci := 2) (v := .ref ta) (C := RXR) (T := TXR) (N := 1) hx hb hts (fun w h => jmem (inXR w h)) hown hK hP 0 rfl rfl 0 (by decide) (hts _ (jmem tw_50)) (fun _ h9 => h9) rfl dXR_terms_93 ?_
                refine ji_bipush hx hb dXR_terms_96 (by decide) ?_
                refine jwVi (rest := []) (wr := [(rda, .inr (2, [.ref ta])), (ba, .inr (0, [.ref bt, .ref bp, .ref bl, .ref bh, .ref bq, .ref br, .ref bd, .int (jI bg), .int (jI bf)])), (bd, .inl (cA, 32, .inl (jA (f_XB_tellTerm bg bf yd zk r1 1))))]) ⟨hx, hb, hml, hown, hts⟩ (c_XT_skipIf l dC dI cA _ ta ts tn tp1'9 tw1'2 tf 43 (by first | assumption | omega) (by first | assumption | omega) (by first | assumption | omega) (by first | assumption | omega) (by first | assumption | omega)) (cwV 1 hts (jG_V tw_150 tw_151 tw_152 tw_2 tw_153) rfl rfl rfl (by decide +kernel) (by rw [hR]; exact ⟨Nat.le_of_ble_eq_true rfl, Nat.le_of_ble_eq_true rfl⟩)) hK hP hD hS hA hN [1, 2] [0, 3, 4] rfl rfl (by decide) (by decide) (by decide) 1 3 rfl rfl rfl rfl hl.1 rfl (Nat.le_of_ble_eq_true rfl) dXR_terms_98 (by rw [hR]; exact ⟨Nat.le_of_ble_eq_true rfl, Nat.le_of_ble_eq_true rfl⟩) (fun v19 u18 H locs hwb20 hP hD hS => ?_)
                obtain ⟨r16, tp1'17⟩ := u18
                try dsimp only at hwb20
                obtain ⟨er, hwb20⟩ := hwb20
                subst er
                have hP : va_P (dC, dI) vwCl [(rda, .inr (2, [.ref ta])), (ba, .inr (0, [.ref bt, .ref bp, .ref bl, .ref bh, .ref bq, .ref br, .ref bd, .int (jI bg), .int (jI bf)])), (bd, .inl (cA, 32, .inl (jA (f_XB_tellTerm bg bf yd zk r1 1)))), (ta, .inr (3, [.ref ts, .int (jI tn), .int (jI tp1'17), .int (jI tw1'2)])), (ts, .inl (cA, 400, .inl (jA tf)))] H := hP
                have hD : va_D A [(rda, .inr (2, [.ref ta])), (ba, .inr (0, [.ref bt, .ref bp, .ref bl, .ref bh, .ref bq, .ref br, .ref bd, .int (jI bg), .int (jI bf)])), (bd, .inl (cA, 32, .inl (jA (f_XB_tellTerm bg bf yd zk r1 1)))), (ta, .inr (3, [.ref ts, .int (jI tn), .int (jI tp1'17), .int (jI tw1'2)])), (ts, .inl (cA, 400, .inl (jA tf)))] := hD
                have f21 := f_XT_skipIf_b tn tp1'9 tw1'2 tf 43 (by first | assumption | omega) (by first | assumption | omega) (by first | assumption | omega) (by first | assumption | omega) (by first | assumption | omega)
                rw [← hwb20] at f21; try dsimp only at f21
                refine ji_if_ne (tgt := 106) hx hb dXR_terms_101 (by decide) (by omega) (fun c101_ => ?_) (fun c101_ => ?_)
                · refine ji_iinc (k := 2) (lv' := [(3, .int (jI (k + 1))), (5, .int (jI 1)), (4, .int (jI r1)), (0, .ref rda), (1, .ref ba), (2, .int (jI zk))]) hx hb dXR_terms_106 hl rfl (by decide) rfl (fun ls hl => ?_)
                  refine lv_goto (tgt := 2) hx hb dXR_terms_109 (by decide) ?_
                  exact ih2 (k + 1) tp1'17 tw1'2 (f_XB_tellTerm bg bf yd zk r1 1) (by omega) (Eq.trans (by rw [f_XR_terms_L2_s]; rw [if_neg (Int.not_lt.mpr c5_)]; rw [← hwb5]; try dsimp only; rw [if_neg c24_, if_neg (Int.not_lt.mpr c36_)]; rw [← hwb12]; try dsimp only; rw [if_pos c56_, if_neg c78_]; rw [← hwb20]; try dsimp only; rw [if_neg c101_]; try rfl) hF) (by first | assumption | omega) (by first | assumption | omega) (by first | assumption | omega) _ _ (hP.sub [0, 3, 4, 1, 2] rfl) (hD.sub [0, 3, 4, 1, 2] (by decide) rfl) hS ls (lv_sub hl [0, 3, 4, 5] rfl)
                · refine ji_iconst hx hb dXR_terms_104 ?_
                  have hP9 := hP.sub (ws' := [(rda, .inr (2, [.ref ta])), (ta, .inr (3, [.ref ts, .int (jI tn), .int (jI tp1'17), .int (jI tw1'2)])), (ts, .inl (cA, 400, .inl (jA tf))), (ba, .inr (0, [.ref bt, .ref bp, .ref bl, .ref bh, .ref bq, .ref br, .ref bd, .int (jI bg), .int (jI bf)])), (bd, .inl (cA, 32, .inl (jA (f_XB_tellTerm bg bf yd zk r1 1))))]) [0, 3, 4, 1, 2] rfl
                  have hD9 := hD.sub (ws' := [(rda, .inr (2, [.ref ta])), (ta, .inr (3, [.ref ts, .int (jI tn), .int (jI tp1'17), .int (jI tw1'2)])), (ts, .inl (cA, 400, .inl (jA tf))), (ba, .inr (0, [.ref bt, .ref bp, .ref bl, .ref bh, .ref bq, .ref br, .ref bd, .int (jI bg), .int (jI bf)])), (bd, .inl (cA, 32, .inl (jA (f_XB_tellTerm bg bf yd zk r1 1))))]) [0, 3, 4, 1, 2] (by decide) rfl
                  subst hAe
                  subst hQ
                  exact W.zret (v := jI 1) hx hb hr (by first | decide | exact jz (by omega)) (fun t ht hW => ⟨⟨_, (1, tp1'17, tw1'2, f_XB_tellTerm bg bf yd zk r1 1), rfl, ⟨rfl, Eq.trans (by rw [f_XR_terms_L2_s]; rw [if_neg (Int.not_lt.mpr c5_)]; rw [← hwb5]; try dsimp only; rw [if_neg c24_, if_neg (Int.not_lt.mpr c36_)]; rw [← hwb12]; try dsimp only; rw [if_pos c56_, if_neg c78_]; rw [← hwb20]; try dsimp only; rw [if_pos c101_]; try rfl) hF, show 0 ≤ 1 ∧ 1 ≤ 1 from by first | assumption | omega, show 0 ≤ tp1'17 ∧ tp1'17 ≤ tn from by first | assumption | omega, show ∀ i, 0 ≤ (f_XB_tellTerm bg bf yd zk r1 1) i ∧ (f_XB_tellTerm bg bf yd zk r1 1) i ≤ 20 from by first | assumption | omega⟩, ⟨by rw [ht]; exact hP9, va_K.moved hW.alike hK, hD9⟩⟩, hS.F ht⟩) hS.2.2 dXR_terms_105
              · refine ji_iconst hx hb dXR_terms_81 ?_
                have hP9 := hP.sub (ws' := [(rda, .inr (2, [.ref ta])), (ta, .inr (3, [.ref ts, .int (jI tn), .int (jI tp1'9), .int (jI tw1'2)])), (ts, .inl (cA, 400, .inl (jA tf))), (ba, .inr (0, [.ref bt, .ref bp, .ref bl, .ref bh, .ref bq, .ref br, .ref bd, .int (jI bg), .int (jI bf)])), (bd, .inl (cA, 32, .inl (jA yd)))]) [0, 3, 4, 1, 2] rfl
                have hD9 := hD.sub (ws' := [(rda, .inr (2, [.ref ta])), (ta, .inr (3, [.ref ts, .int (jI tn), .int (jI tp1'9), .int (jI tw1'2)])), (ts, .inl (cA, 400, .inl (jA tf))), (ba, .inr (0, [.ref bt, .ref bp, .ref bl, .ref bh, .ref bq, .ref br, .ref bd, .int (jI bg), .int (jI bf)])), (bd, .inl (cA, 32, .inl (jA yd)))]) [0, 3, 4, 1, 2] (by decide) rfl
                subst hAe
                subst hQ
                exact W.zret (v := jI 0) hx hb hr (by first | decide | exact jz (by omega)) (fun t ht hW => ⟨⟨_, (0, tp1'9, tw1'2, yd), rfl, ⟨rfl, Eq.trans (by rw [f_XR_terms_L2_s]; rw [if_neg (Int.not_lt.mpr c5_)]; rw [← hwb5]; try dsimp only; rw [if_neg c24_, if_neg (Int.not_lt.mpr c36_)]; rw [← hwb12]; try dsimp only; rw [if_pos c56_, if_pos c78_]; try rfl) hF, show 0 ≤ 0 ∧ 0 ≤ 1 from by first | assumption | omega, show 0 ≤ tp1'9 ∧ tp1'9 ≤ tn from by first | assumption | omega, show ∀ i, 0 ≤ yd i ∧ yd i ≤ 20 from by first | assumption | omega⟩, ⟨by rw [ht]; exact hP9, va_K.moved hW.alike hK, hD9⟩⟩, hS.F ht⟩) hS.2.2 dXR_terms_82
            · refine lv_aload_n hx hb dXR_terms_59 rfl (lv_at hl 2 rfl) ?_
              refine va_get (D := (dC, dI)) (ci := 2) (v := .ref ta) (C := RXR) (T := TXR) (N := 1) hx hb hts (fun w h => jmem (inXR w h)) hown hK hP 0 rfl rfl 0 (by decide) (hts _ (jmem tw_50)) (fun _ h9 => h9) rfl dXR_terms_60 ?_
              refine ji_iconst hx hb dXR_terms_63 ?_
              refine ji_bipush hx hb dXR_terms_64 (by decide) ?_
              refine jwVi (rest := []) (wr := [(rda, .inr (2, [.ref ta])), (ba, .inr (0, [.ref bt, .ref bp, .ref bl, .ref bh, .ref bq, .ref br, .ref bd, .int (jI bg), .int (jI bf)])), (bd, .inl (cA, 32, .inl (jA yd)))]) ⟨hx, hb, hml, hown, hts⟩ (c_XT_number l dC dI cA _ ta ts tn tp1'9 tw1'2 tf 1 20 (by first | assumption | omega) (by first | assumption | omega) (by first | assumption | omega) (by first | assumption | omega) (by first | assumption | omega)) (cwV 2 hts (jG_V tw_194 tw_195 tw_196 tw_2 tw_197) rfl rfl rfl (by decide +kernel) (by rw [hR]; exact ⟨Nat.le_of_ble_eq_true rfl, Nat.le_of_ble_eq_true rfl⟩)) hK hP hD hS hA hN [3, 4] [0, 1, 2] rfl rfl (by decide) (by decide) (by decide) 3 3 rfl rfl rfl rfl hl.1 rfl (Nat.le_of_ble_eq_true rfl) dXR_terms_66 (by rw [hR]; exact ⟨Nat.le_of_ble_eq_true rfl, Nat.le_of_ble_eq_true rfl⟩) (fun v26 u25 H locs hwb27 hP hD hS => ?_)
              obtain ⟨r22, tp1'23, tw1'24⟩ := u25
              try dsimp only at hwb27
              obtain ⟨er, hwb27⟩ := hwb27
              subst er
              have hP : va_P (dC, dI) vwCl [(rda, .inr (2, [.ref ta])), (ba, .inr (0, [.ref bt, .ref bp, .ref bl, .ref bh, .ref bq, .ref br, .ref bd, .int (jI bg), .int (jI bf)])), (bd, .inl (cA, 32, .inl (jA yd))), (ta, .inr (3, [.ref ts, .int (jI tn), .int (jI tp1'23), .int (jI tw1'24)])), (ts, .inl (cA, 400, .inl (jA tf)))] H := hP
              have hD : va_D A [(rda, .inr (2, [.ref ta])), (ba, .inr (0, [.ref bt, .ref bp, .ref bl, .ref bh, .ref bq, .ref br, .ref bd, .int (jI bg), .int (jI bf)])), (bd, .inl (cA, 32, .inl (jA yd))), (ta, .inr (3, [.ref ts, .int (jI tn), .int (jI tp1'23), .int (jI tw1'24)])), (ts, .inl (cA, 400, .inl (jA tf)))] := hD
              have f28 := f_XT_number_b tn tp1'9 tw1'2 tf 1 20 (by first | assumption | omega) (by first | assumption | omega) (by first | assumption | omega) (by first | assumption | omega) (by first | assumption | omega)
              rw [← hwb27] at f28; try dsimp only at f28
              refine lv_goto (tgt := 73) hx hb dXR_terms_69 (by decide) ?_
              refine lv_istore (lv' := [(5, .int (jI r22)), (4, .int (jI r1)), (3, .int (jI k)), (0, .ref rda), (1, .ref ba), (2, .int (jI zk))]) hx hb dXR_terms_73 hl (by decide) rfl (fun ls hl => ?_)
              refine lv_iload hx hb dXR_terms_75 (lv_at hl 0 rfl) ?_
              refine ji_iconst hx hb dXR_terms_77 ?_
              refine ji_icmp_ne (tgt := 83) hx hb dXR_terms_78 (by decide) (by omega) (by omega) (fun c78_29 => ?_) (fun c78_29 => ?_)
              · refine lv_aload_n hx hb dXR_terms_83 rfl (lv_at hl 4 rfl) ?_
                refine lv_iload_n hx hb dXR_terms_84 rfl (lv_at hl 5 rfl) ?_
                refine lv_iload hx hb dXR_terms_85 (lv_at hl 1 rfl) ?_
                refine lv_iload hx hb dXR_terms_87 (lv_at hl 0 rfl) ?_
                refine jwVv (rest := []) (wr := [(rda, .inr (2, [.ref ta])), (ta, .inr (3, [.ref ts, .int (jI tn), .int (jI tp1'23), .int (jI tw1'24)])), (ts, .inl (cA, 400, .inl (jA tf)))]) ⟨hx, hb, hml, hown, hts⟩ (c_XB_tellTerm l dC dI cA _ ba bt bp bl bh bq br bd bg bf yd zk r1 r22 (by first | assumption | omega) (by first | assumption | omega) (by first | assumption | omega) (by first | assumption | omega)) (cwV 3 hts (jG_V tw_206 tw_207 tw_208 tw_5 tw_209) rfl rfl rfl (by decide +kernel) (by rw [hR]; exact ⟨Nat.le_of_ble_eq_true rfl, Nat.le_of_ble_eq_true rfl⟩)) hK hP hD hS hA hN [1, 2] [0, 3, 4] rfl rfl (by decide) (by decide) (by decide) 1 0 rfl rfl rfl rfl hl.1 rfl (Nat.le_of_ble_eq_true rfl) dXR_terms_89 (by rw [hR]; exact ⟨Nat.le_of_ble_eq_true rfl, Nat.le_of_ble_eq_true rfl⟩) (fun u30 H locs hw hP hD hS => ?_)
                subst hw
                have hP : va_P (dC, dI) vwCl [(rda, .inr (2, [.ref ta])), (ta, .inr (3, [.ref ts, .int (jI tn), .int (jI tp1'23), .int (jI tw1'24)])), (ts, .inl (cA, 400, .inl (jA tf))), (ba, .inr (0, [.ref bt, .ref bp, .ref bl, .ref bh, .ref bq, .ref br, .ref bd, .int (jI bg), .int (jI bf)])), (bd, .inl (cA, 32, .inl (jA (f_XB_tellTerm bg bf yd zk r1 r22))))] H := hP
                have hD : va_D A [(rda, .inr (2, [.ref ta])), (ta, .inr (3, [.ref ts, .int (jI tn), .int (jI tp1'23), .int (jI tw1'24)])), (ts, .inl (cA, 400, .inl (jA tf))), (ba, .inr (0, [.ref bt, .ref bp, .ref bl, .ref bh, .ref bq, .ref br, .ref bd, .int (jI bg), .int (jI bf)])), (bd, .inl (cA, 32, .inl (jA (f_XB_tellTerm bg bf yd zk r1 r22))))] := hD
                have f31 := f_XB_tellTerm_b bg bf yd zk r1 r22 (by first | assumption | omega) (by first | assumption | omega) (by first | assumption | omega) (by first | assumption | omega)
                refine lv_aload_n hx hb dXR_terms_92 rfl (lv_at hl 3 rfl) ?_
                refine va_get (D := (dC, dI)) (ci := 2) (v := .ref ta) (C := RXR) (T := TXR) (N := 1) hx hb hts (fun w h => jmem (inXR w h)) hown hK hP 0 rfl rfl 0 (by decide) (hts _ (jmem tw_50)) (fun _ h9 => h9) rfl dXR_terms_93 ?_
                refine ji_bipush hx hb dXR_terms_96 (by decide) ?_
                refine jwVi (rest := []) (wr := [(rda, .inr (2, [.ref ta])), (ba, .inr (0, [.ref bt, .ref bp, .ref bl, .ref bh, .ref bq, .ref br, .ref bd, .int (jI bg), .int (jI bf)])), (bd, .inl (cA, 32, .inl (jA (f_XB_tellTerm bg bf yd zk r1 r22))))]) ⟨hx, hb, hml, hown, hts⟩ (c_XT_skipIf l dC dI cA _ ta ts tn tp1'23 tw1'24 tf 43 (by first | assumption | omega) (by first | assumption | omega) (by first | assumption | omega) (by first | assumption | omega) (by first | assumption | omega)) (cwV 1 hts (jG_V tw_150 tw_151 tw_152 tw_2 tw_153) rfl rfl rfl (by decide +kernel) (by rw [hR]; exact ⟨Nat.le_of_ble_eq_true rfl, Nat.le_of_ble_eq_true rfl⟩)) hK hP hD hS hA hN [1, 2] [0, 3, 4] rfl rfl (by decide) (by decide) (by decide) 1 3 rfl rfl rfl rfl hl.1 rfl (Nat.le_of_ble_eq_true rfl) dXR_terms_98 (by rw [hR]; exact ⟨Nat.le_of_ble_eq_true rfl, Nat.le_of_ble_eq_true rfl⟩) (fun v35 u34 H locs hwb36 hP hD hS => ?_)
                obtain ⟨r32, tp1'33⟩ := u34
                try dsimp only at hwb36
                obtain ⟨er, hwb36⟩ := hwb36
                subst er
                have hP : va_P (dC, dI) vwCl [(rda, .inr (2, [.ref ta])), (ba, .inr (0, [.ref bt, .ref bp, .ref bl, .ref bh, .ref bq, .ref br, .ref bd, .int (jI bg), .int (jI bf)])), (bd, .inl (cA, 32, .inl (jA (f_XB_tellTerm bg bf yd zk r1 r22)))), (ta, .inr (3, [.ref ts, .int (jI tn), .int (jI tp1'33), .int (jI tw1'24)])), (ts, .inl (cA, 400, .inl (jA tf)))] H := hP
                have hD : va_D A [(rda, .inr (2, [.ref ta])), (ba, .inr (0, [.ref bt, .ref bp, .ref bl, .ref bh, .ref bq, .ref br, .ref bd, .int (jI bg), .int (jI bf)])), (bd, .inl (cA, 32, .inl (jA (f_XB_tellTerm bg bf yd zk r1 r22)))), (ta, .inr (3, [.ref ts, .int (jI tn), .int (jI tp1'33), .int (jI tw1'24)])), (ts, .inl (cA, 400, .inl (jA tf)))] := hD
                have f37 := f_XT_skipIf_b tn tp1'23 tw1'24 tf 43 (by first | assumption | omega) (by first | assumption | omega) (by first | assumption | omega) (by first | assumption | omega) (by first | assumption | omega)
                rw [← hwb36] at f37; try dsimp only at f37
                refine ji_if_ne (tgt := 106) hx hb dXR_terms_101 (by decide) (by omega) (fun c101_38 => ?_) (fun c101_38 => ?_)
                · refine ji_iinc (k := 2) (lv' := [(3, .int (jI (k + 1))), (5, .int (jI r22)), (4, .int (jI r1)), (0, .ref rda), (1, .ref ba), (2, .int (jI zk))]) hx hb dXR_terms_106 hl rfl (by decide) rfl (fun ls hl => ?_)
                  refine lv_goto (tgt := 2) hx hb dXR_terms_109 (by decide) ?_
                  exact ih2 (k + 1) tp1'33 tw1'24 (f_XB_tellTerm bg bf yd zk r1 r22) (by omega) (Eq.trans (by rw [f_XR_terms_L2_s]; rw [if_neg (Int.not_lt.mpr c5_)]; rw [← hwb5]; try dsimp only; rw [if_neg c24_, if_neg (Int.not_lt.mpr c36_)]; rw [← hwb12]; try dsimp only; rw [if_neg c56_]; rw [← hwb27]; try dsimp only; rw [if_neg c78_29]; rw [← hwb36]; try dsimp only; rw [if_neg c101_38]; try rfl) hF) (by first | assumption | omega) (by first | assumption | omega) (by first | assumption | omega) _ _ (hP.sub [0, 3, 4, 1, 2] rfl) (hD.sub [0, 3, 4, 1, 2] (by decide) rfl) hS ls (lv_sub hl [0, 3, 4, 5] rfl)
                · refine ji_iconst hx hb dXR_terms_104 ?_
                  have hP9 := hP.sub (ws' := [(rda, .inr (2, [.ref ta])), (ta, .inr (3, [.ref ts, .int (jI tn), .int (jI tp1'33), .int (jI tw1'24)])), (ts, .inl (cA, 400, .inl (jA tf))), (ba, .inr (0, [.ref bt, .ref bp, .ref bl, .ref bh, .ref bq, .ref br, .ref bd, .int (jI bg), .int (jI bf)])), (bd, .inl (cA, 32, .inl (jA (f_XB_tellTerm bg bf yd zk r1 r22))))]) [0, 3, 4, 1, 2] rfl
                  have hD9 := hD.sub (ws' := [(rda, .inr (2, [.ref ta])), (ta, .inr (3, [.ref ts, .int (jI tn), .int (jI tp1'33), .int (jI tw1'24)])), (ts, .inl (cA, 400, .inl (jA tf))), (ba, .inr (0, [.ref bt, .ref bp, .ref bl, .ref bh, .ref bq, .ref br, .ref bd, .int (jI bg), .int (jI bf)])), (bd, .inl (cA, 32, .inl (jA (f_XB_tellTerm bg bf yd zk r1 r22))))]) [0, 3, 4, 1, 2] (by decide) rfl
                  subst hAe
                  subst hQ
                  exact W.zret (v := jI 1) hx hb hr (by first | decide | exact jz (by omega)) (fun t ht hW => ⟨⟨_, (1, tp1'33, tw1'24, f_XB_tellTerm bg bf yd zk r1 r22), rfl, ⟨rfl, Eq.trans (by rw [f_XR_terms_L2_s]; rw [if_neg (Int.not_lt.mpr c5_)]; rw [← hwb5]; try dsimp only; rw [if_neg c24_, if_neg (Int.not_lt.mpr c36_)]; rw [← hwb12]; try dsimp only; rw [if_neg c56_]; rw [← hwb27]; try dsimp only; rw [if_neg c78_29]; rw [← hwb36]; try dsimp only; rw [if_pos c101_38]; try rfl) hF, show 0 ≤ 1 ∧ 1 ≤ 1 from by first | assumption | omega, show 0 ≤ tp1'33 ∧ tp1'33 ≤ tn from by first | assumption | omega, show ∀ i, 0 ≤ (f_XB_tellTerm bg bf yd zk r1 r22) i ∧ (f_XB_tellTerm bg bf yd zk r1 r22) i ≤ 20 from by first | assumption | omega⟩, ⟨by rw [ht]; exact hP9, va_K.moved hW.alike hK, hD9⟩⟩, hS.F ht⟩) hS.2.2 dXR_terms_105
              · refine ji_iconst hx hb dXR_terms_81 ?_
                have hP9 := hP.sub (ws' := [(rda, .inr (2, [.ref ta])), (ta, .inr (3, [.ref ts, .int (jI tn), .int (jI tp1'23), .int (jI tw1'24)])), (ts, .inl (cA, 400, .inl (jA tf))), (ba, .inr (0, [.ref bt, .ref bp, .ref bl, .ref bh, .ref bq, .ref br, .ref bd, .int (jI bg), .int (jI bf)])), (bd, .inl (cA, 32, .inl (jA yd)))]) [0, 3, 4, 1, 2] rfl
                have hD9 := hD.sub (ws' := [(rda, .inr (2, [.ref ta])), (ta, .inr (3, [.ref ts, .int (jI tn), .int (jI tp1'23), .int (jI tw1'24)])), (ts, .inl (cA, 400, .inl (jA tf))), (ba, .inr (0, [.ref bt, .ref bp, .ref bl, .ref bh, .ref bq, .ref br, .ref bd, .int (jI bg), .int (jI bf)])), (bd, .inl (cA, 32, .inl (jA yd)))]) [0, 3, 4, 1, 2] (by decide) rfl
                subst hAe
                subst hQ
                exact W.zret (v := jI 0) hx hb hr (by first | decide | exact jz (by omega)) (fun t ht hW => ⟨⟨_, (0, tp1'23, tw1'24, yd), rfl, ⟨rfl, Eq.trans (by rw [f_XR_terms_L2_s]; rw [if_neg (Int.not_lt.mpr c5_)]; rw [← hwb5]; try dsimp only; rw [if_neg c24_, if_neg (Int.not_lt.mpr c36_)]; rw [← hwb12]; try dsimp only; rw [if_neg c56_]; rw [← hwb27]; try dsimp only; rw [if_pos c78_29]; try rfl) hF, show 0 ≤ 0 ∧ 0 ≤ 1 from by first | assumption | omega, show 0 ≤ tp1'23 ∧ tp1'23 ≤ tn from by first | assumption | omega, show ∀ i, 0 ≤ yd i ∧ yd i ≤ 20 from by first | assumption | omega⟩, ⟨by rw [ht]; exact hP9, va_K.moved hW.alike hK, hD9⟩⟩, hS.F ht⟩) hS.2.2 dXR_terms_82
          · refine lv_aload_n hx hb dXR_terms_39 rfl (lv_at hl 2 rfl) ?_
            refine va_get (D := (dC, dI)) (ci := 2) (v := .ref ta) (C := RXR) (T := TXR) (N := 1) hx hb hts (fun w h => jmem (inXR w h)) hown hK hP 0 rfl rfl 0 (by decide) (hts _ (jmem tw_50)) (fun _ h9 => h9) rfl dXR_terms_40 ?_
            refine jwVi (rest := []) (wr := [(rda, .inr (2, [.ref ta])), (ba, .inr (0, [.ref bt, .ref bp, .ref bl, .ref bh, .ref bq, .ref br, .ref bd, .int (jI bg), .int (jI bf)])), (bd, .inl (cA, 32, .inl (jA yd)))]) ⟨hx, hb, hml, hown, hts⟩ (c_XT_refuseLast l dC dI cA _ ta ts tn tp1' tw1'2 tf) (cwV 0 hts (jG_V tw_174 tw_175 tw_176 tw_2 tw_177) rfl rfl rfl (by decide +kernel) (by rw [hR]; exact ⟨Nat.le_of_ble_eq_true rfl, Nat.le_of_ble_eq_true rfl⟩)) hK hP hD hS hA hN [3, 4] [0, 1, 2] rfl rfl (by decide) (by decide) (by decide) 3 3 rfl rfl rfl rfl hl.1 rfl (Nat.le_of_ble_eq_true rfl) dXR_terms_43 (by rw [hR]; exact ⟨Nat.le_of_ble_eq_true rfl, Nat.le_of_ble_eq_true rfl⟩) (fun v42 u41 H locs hwb43 hP hD hS => ?_)
            obtain ⟨r39, tw1'40⟩ := u41
            try dsimp only at hwb43
            obtain ⟨er, hwb43⟩ := hwb43
            subst er
            have hP : va_P (dC, dI) vwCl [(rda, .inr (2, [.ref ta])), (ba, .inr (0, [.ref bt, .ref bp, .ref bl, .ref bh, .ref bq, .ref br, .ref bd, .int (jI bg), .int (jI bf)])), (bd, .inl (cA, 32, .inl (jA yd))), (ta, .inr (3, [.ref ts, .int (jI tn), .int (jI tp1'), .int (jI tw1'40)])), (ts, .inl (cA, 400, .inl (jA tf)))] H := hP
            have hD : va_D A [(rda, .inr (2, [.ref ta])), (ba, .inr (0, [.ref bt, .ref bp, .ref bl, .ref bh, .ref bq, .ref br, .ref bd, .int (jI bg), .int (jI bf)])), (bd, .inl (cA, 32, .inl (jA yd))), (ta, .inr (3, [.ref ts, .int (jI tn), .int (jI tp1'), .int (jI tw1'40)])), (ts, .inl (cA, 400, .inl (jA tf)))] := hD
            have f44 := f_XT_refuseLast_b tn tp1' tw1'2 tf
            rw [← hwb43] at f44; try dsimp only at f44
            have hP9 := hP.sub (ws' := [(rda, .inr (2, [.ref ta])), (ta, .inr (3, [.ref ts, .int (jI tn), .int (jI tp1'), .int (jI tw1'40)])), (ts, .inl (cA, 400, .inl (jA tf))), (ba, .inr (0, [.ref bt, .ref bp, .ref bl, .ref bh, .ref bq, .ref br, .ref bd, .int (jI bg), .int (jI bf)])), (bd, .inl (cA, 32, .inl (jA yd)))]) [0, 3, 4, 1, 2] rfl
            have hD9 := hD.sub (ws' := [(rda, .inr (2, [.ref ta])), (ta, .inr (3, [.ref ts, .int (jI tn), .int (jI tp1'), .int (jI tw1'40)])), (ts, .inl (cA, 400, .inl (jA tf))), (ba, .inr (0, [.ref bt, .ref bp, .ref bl, .ref bh, .ref bq, .ref br, .ref bd, .int (jI bg), .int (jI bf)])), (bd, .inl (cA, 32, .inl (jA yd)))]) [0, 3, 4, 1, 2] (by decide) rfl
            subst hAe
            subst hQ
            exact W.zret (v := jI r39) hx hb hr (by first | decide | exact jz (by omega)) (fun t ht hW => ⟨⟨_, (r39, tp1', tw1'40, yd), rfl, ⟨rfl, Eq.trans (by rw [f_XR_terms_L2_s]; rw [if_neg (Int.not_lt.mpr c5_)]; rw [← hwb5]; try dsimp only; rw [if_neg c24_, if_pos c36_]; rw [← hwb43]; try dsimp only; try rfl) hF, show 0 ≤ r39 ∧ r39 ≤ 1 from by first | assumption | omega, show 0 ≤ tp1' ∧ tp1' ≤ tn from by first | assumption | omega, show ∀ i, 0 ≤ yd i ∧ yd i ≤ 20 from by first | assumption | omega⟩, ⟨by rw [ht]; exact hP9, va_K.moved hW.alike hK, hD9⟩⟩, hS.F ht⟩) hS.2.2 dXR_terms_46
        · refine ji_iconst hx hb dXR_terms_27 ?_
          have hP9 := hP.sub (ws' := [(rda, .inr (2, [.ref ta])), (ta, .inr (3, [.ref ts, .int (jI tn), .int (jI tp1'), .int (jI tw1'2)])), (ts, .inl (cA, 400, .inl (jA tf))), (ba, .inr (0, [.ref bt, .ref bp, .ref bl, .ref bh, .ref bq, .ref br, .ref bd, .int (jI bg), .int (jI bf)])), (bd, .inl (cA, 32, .inl (jA yd)))]) [0, 3, 4, 1, 2] rfl
          have hD9 := hD.sub (ws' := [(rda, .inr (2, [.ref ta])), (ta, .inr (3, [.ref ts, .int (jI tn), .int (jI tp1'), .int (jI tw1'2)])), (ts, .inl (cA, 400, .inl (jA tf))), (ba, .inr (0, [.ref bt, .ref bp, .ref bl, .ref bh, .ref bq, .ref br, .ref bd, .int (jI bg), .int (jI bf)])), (bd, .inl (cA, 32, .inl (jA yd)))]) [0, 3, 4, 1, 2] (by decide) rfl
          subst hAe
          subst hQ
          exact W.zret (v := jI 0) hx hb hr (by first | decide | exact jz (by omega)) (fun t ht hW => ⟨⟨_, (0, tp1', tw1'2, yd), rfl, ⟨rfl, Eq.trans (by rw [f_XR_terms_L2_s]; rw [if_neg (Int.not_lt.mpr c5_)]; rw [← hwb5]; try dsimp only; rw [if_pos c24_]; try rfl) hF, show 0 ≤ 0 ∧ 0 ≤ 1 from by first | assumption | omega, show 0 ≤ tp1' ∧ tp1' ≤ tn from by first | assumption | omega, show ∀ i, 0 ≤ yd i ∧ yd i ≤ 20 from by first | assumption | omega⟩, ⟨by rw [ht]; exact hP9, va_K.moved hW.alike hK, hD9⟩⟩, hS.F ht⟩) hS.2.2 dXR_terms_28
  exact loop2 (Int.toNat (9 - 0) + 1) 0 tp tw fd (by omega) (Eq.trans (by rw [f_XR_terms_s]; try rfl) rfl) (by first | assumption | omega) (by first | assumption | omega) (by first | assumption | omega) _ _ hP hD hS ls (lv_sub hl [0, 1, 2, 3] rfl)
noncomputable def g_XR_formula (tn : Int) (tp : Int) (tw : Int) (tf : Int → Int) (bg : Int) (bf : Int) (fd : Int → Int) : Int × Int × Int × (Int → Int) × Int :=
  match f_XT_takeOneOf tn tp tw tf 48 4 with
  | (r, tp1', tw1') =>
    if r = (-1) then
      (0, tp1', tw1', fd, bf)
    else
      if (f_XB_hasFormula bg bf r) = 0 then
        match f_XT_take tn tp1' tw1' tf 61 with
        | (r4, tp1'5, tw1'6) =>
          if r4 = 0 then
            (0, tp1'5, tw1'6, fd, f_XB_tellFormula bg bf r)
          else
            match f_XR_terms tn tp1'5 tw1'6 tf bg (f_XB_tellFormula bg bf r) fd r with
            | (r11, tp1'12, tw1'13, fd1') =>
              if r11 = 0 then
                (0, tp1'12, tw1'13, fd1', f_XB_tellFormula bg bf r)
              else
                (1, tp1'12, tw1'13, fd1', f_XB_tellFormula bg bf r)
      else
        match f_XT_refuseLast tn tp1' tw1' tf with
        | (r20, tw1'21) =>
          (r20, tp1', tw1'21, fd, bf)
noncomputable def f_XR_formula : Int → Int → Int → (Int → Int) → Int → Int → (Int → Int) → Int × Int × Int × (Int → Int) × Int := jopq g_XR_formula
theorem f_XR_formula_q : f_XR_formula = g_XR_formula := jopq_eq _
theorem f_XR_formula_s (tn : Int) (tp : Int) (tw : Int) (tf : Int → Int) (bg : Int) (bf : Int) (fd : Int → Int) : f_XR_formula tn tp tw tf bg bf fd = (
    match f_XT_takeOneOf tn tp tw tf 48 4 with
    | (r, tp1', tw1') =>
      if r = (-1) then
        (0, tp1', tw1', fd, bf)
      else
        if (f_XB_hasFormula bg bf r) = 0 then
          match f_XT_take tn tp1' tw1' tf 61 with
          | (r4, tp1'5, tw1'6) =>
            if r4 = 0 then
              (0, tp1'5, tw1'6, fd, f_XB_tellFormula bg bf r)
            else
              match f_XR_terms tn tp1'5 tw1'6 tf bg (f_XB_tellFormula bg bf r) fd r with
              | (r11, tp1'12, tw1'13, fd1') =>
                if r11 = 0 then
                  (0, tp1'12, tw1'13, fd1', f_XB_tellFormula bg bf r)
                else
                  (1, tp1'12, tw1'13, fd1', f_XB_tellFormula bg bf r)
        else
          match f_XT_refuseLast tn tp1' tw1' tf with
          | (r20, tw1'21) =>
            (r20, tp1', tw1'21, fd, bf)
  : Int × Int × Int × (Int → Int) × Int) := by rw [f_XR_formula_q]; rfl
set_option maxHeartbeats 4000000 in
set_option maxRecDepth 100000 in
theorem c_XR_formula (l : Launch) (dC : Nat → ClassId) (dI : Nat → Nat → Nat) (cA : ClassId) (sz : Nat) (rda : Nat) (ta : Nat) (ts : Nat) (tn : Int) (tp : Int) (tw : Int) (tf : Int → Int) (ba : Nat) (bt : Nat) (bp : Nat) (bl : Nat) (bh : Nat) (bq : Nat) (br : Nat) (bd : Nat) (bg : Int) (bf : Int) (fd : Int → Int) (hn : 0 ≤ tn ∧ tn ≤ 400) (hp : 0 ≤ tp ∧ tp ≤ tn) (hf : ∀ i, 0 ≤ tf i ∧ tf i < 256) (hbd : ∀ i, 0 ≤ fd i ∧ fd i ≤ 20) (hbf : 0 ≤ bf ∧ bf < 2147483648) : Met l yXR_formula (Cond.code yXR_formula cXR_formula 3 (some .boolean) :: TBL) ({ frames := 3, cells := 0, slots := 0, locals := 69 } : Room) (va_Pc [.ref rda, .ref ba] (jBw (dC, dI) [(cA, .int)] [(rda, .inr (2, [.ref ta])), (ta, .inr (3, [.ref ts, .int (jI tn), .int (jI tp), .int (jI tw)])), (ts, .inl (cA, 400, .inl (jA tf))), (ba, .inr (0, [.ref bt, .ref bp, .ref bl, .ref bh, .ref bq, .ref br, .ref bd, .int (jI bg), .int (jI bf)])), (bd, .inl (cA, 32, .inl (jA fd)))] sz)) (va_Qi (fun (r : Int32) (u : Int × Int × Int × (Int → Int) × Int) => r = jI u.1 ∧ u = f_XR_formula tn tp tw tf bg bf fd ∧ (0 ≤ u.1 ∧ u.1 ≤ 1) ∧ (0 ≤ u.2.1 ∧ u.2.1 ≤ tn) ∧ (∀ i, 0 ≤ u.2.2.2.1 i ∧ u.2.2.2.1 i ≤ 20) ∧ (0 ≤ u.2.2.2.2 ∧ u.2.2.2.2 < 2147483648)) (fun u t => jE (dC, dI) [(cA, .int)] [(rda, .inr (2, [.ref ta])), (ta, .inr (3, [.ref ts, .int (jI tn), .int (jI tp), .int (jI tw)])), (ts, .inl (cA, 400, .inl (jA tf))), (ba, .inr (0, [.ref bt, .ref bp, .ref bl, .ref bh, .ref bq, .ref br, .ref bd, .int (jI bg), .int (jI bf)])), (bd, .inl (cA, 32, .inl (jA fd)))] sz [(rda, .inr (2, [.ref ta])), (ta, .inr (3, [.ref ts, .int (jI tn), .int (jI u.2.1), .int (jI u.2.2.1)])), (ts, .inl (cA, 400, .inl (jA tf))), (ba, .inr (0, [.ref bt, .ref bp, .ref bl, .ref bh, .ref bq, .ref br, .ref bd, .int (jI bg), .int (jI u.2.2.2.2)])), (bd, .inl (cA, 32, .inl (jA u.2.2.2.1)))] t) (va_A [(rda, .inr (2, [.ref ta])), (ta, .inr (3, [.ref ts, .int (jI tn), .int (jI tp), .int (jI tw)])), (ts, .inl (cA, 400, .inl (jA tf))), (ba, .inr (0, [.ref bt, .ref bp, .ref bl, .ref bh, .ref bq, .ref br, .ref bd, .int (jI bg), .int (jI bf)])), (bd, .inl (cA, 32, .inl (jA fd)))] sz)) 0 0 (va_A [(rda, .inr (2, [.ref ta])), (ta, .inr (3, [.ref ts, .int (jI tn), .int (jI tp), .int (jI tw)])), (ts, .inl (cA, 400, .inl (jA tf))), (ba, .inr (0, [.ref bt, .ref bp, .ref bl, .ref bh, .ref bq, .ref br, .ref bd, .int (jI bg), .int (jI bf)])), (bd, .inl (cA, 32, .inl (jA fd)))] sz) := by
  refine jMet (cc := cXR_formula) (maxL := 3) (ret := some .boolean) (by decide) rfl ?_
  intro p e s m args below meth c s₁ R Q hR hQ B hml hv
  obtain ⟨rfl, hsz, hP, hK, hD0, hN⟩ := hv
  have hx := B.exec
  have hb := B.bytes
  have hr := B.returns
  have hts := atoms_spec (ws := Cond.code yXR_formula cXR_formula 3 (some .boolean) :: TBL) B.pre
  have hown : s.vm.findClass RXR = some m.cls := findClass_of_methodNamed B.named
  have hlocks := B.notSynchronized
  subst hsz
  obtain ⟨A, hAe⟩ : ∃ A, A = va_A [(rda, .inr (2, [.ref ta])), (ta, .inr (3, [.ref ts, .int (jI tn), .int (jI tp), .int (jI tw)])), (ts, .inl (cA, 400, .inl (jA tf))), (ba, .inr (0, [.ref bt, .ref bp, .ref bl, .ref bh, .ref bq, .ref br, .ref bd, .int (jI bg), .int (jI bf)])), (bd, .inl (cA, 32, .inl (jA fd)))] s.heap.size := ⟨_, rfl⟩
  have hD : va_D A [(rda, .inr (2, [.ref ta])), (ta, .inr (3, [.ref ts, .int (jI tn), .int (jI tp), .int (jI tw)])), (ts, .inl (cA, 400, .inl (jA tf))), (ba, .inr (0, [.ref bt, .ref bp, .ref bl, .ref bh, .ref bq, .ref br, .ref bd, .int (jI bg), .int (jI bf)])), (bd, .inl (cA, 32, .inl (jA fd)))] := by rw [hAe]; exact hD0.self
  have hA : ∀ q : Nat, s.heap.size ≤ q → A q := fun q h => by rw [hAe]; exact Or.inr h
  have hS : va_S A s.heap s.heap [] := va_S.rf
  have hP : va_P (dC, dI) vwCl [(rda, .inr (2, [.ref ta])), (ta, .inr (3, [.ref ts, .int (jI tn), .int (jI tp), .int (jI tw)])), (ts, .inl (cA, 400, .inl (jA tf))), (ba, .inr (0, [.ref bt, .ref bp, .ref bl, .ref bh, .ref bq, .ref br, .ref bd, .int (jI bg), .int (jI bf)])), (bd, .inl (cA, 32, .inl (jA fd)))] s.heap := hP
  have hl := lv_entry ([.ref rda, .ref ba]) (n := 3) (Nat.le_of_ble_eq_true rfl)
  rw [lg_entry_eq]
  generalize (lg_sl ([.ref rda, .ref ba]) ++ List.replicate (3 - (lg_sl ([.ref rda, .ref ba])).length) Slot.unset).toArray = ls at hl ⊢
  have hl : lv_has ls 3 [(0, .ref rda), (1, .ref ba)] := hl
  refine lv_aload_n hx hb dXR_formula_0 rfl (lv_at hl 0 rfl) ?_
  refine va_get (D := (dC, dI)) (ci := 2) (v := .ref ta) (C := RXR) (T := TXR) (N := 1) hx hb hts (fun w h => jmem (inXR w h)) hown hK hP 0 rfl rfl 0 (by decide) (hts _ (jmem tw_50)) (fun _ h9 => h9) rfl dXR_formula_1 ?_
  refine ji_bipush hx hb dXR_formula_4 (by decide) ?_
  refine ji_iconst hx hb dXR_formula_6 ?_
  refine jwVi (rest := []) (wr := [(rda, .inr (2, [.ref ta])), (ba, .inr (0, [.ref bt, .ref bp, .ref bl, .ref bh, .ref bq, .ref br, .ref bd, .int (jI bg), .int (jI bf)])), (bd, .inl (cA, 32, .inl (jA fd)))]) ⟨hx, hb, hml, hown, hts⟩ (c_XT_takeOneOf l dC dI cA _ ta ts tn tp tw tf 48 4 (by first | assumption | omega) (by first | assumption | omega) (by first | assumption | omega) (by first | assumption | omega) (by first | assumption | omega)) (cwV 2 hts (jG_V tw_159 tw_160 tw_161 tw_2 tw_162) rfl rfl rfl (by decide +kernel) (by rw [hR]; exact ⟨Nat.le_of_ble_eq_true rfl, Nat.le_of_ble_eq_true rfl⟩)) hK hP hD hS hA hN [1, 2] [0, 3, 4] rfl rfl (by decide) (by decide) (by decide) 1 3 rfl rfl rfl rfl hl.1 rfl (Nat.le_of_ble_eq_true rfl) dXR_formula_7 (by rw [hR]; exact ⟨Nat.le_of_ble_eq_true rfl, Nat.le_of_ble_eq_true rfl⟩) (fun v u H locs hwb hP hD hS => ?_)
  obtain ⟨r, tp1', tw1'⟩ := u
  try dsimp only at hwb
  obtain ⟨er, hwb⟩ := hwb
  subst er
  have hP : va_P (dC, dI) vwCl [(rda, .inr (2, [.ref ta])), (ba, .inr (0, [.ref bt, .ref bp, .ref bl, .ref bh, .ref bq, .ref br, .ref bd, .int (jI bg), .int (jI bf)])), (bd, .inl (cA, 32, .inl (jA fd))), (ta, .inr (3, [.ref ts, .int (jI tn), .int (jI tp1'), .int (jI tw1')])), (ts, .inl (cA, 400, .inl (jA tf)))] H := hP
  have hD : va_D A [(rda, .inr (2, [.ref ta])), (ba, .inr (0, [.ref bt, .ref bp, .ref bl, .ref bh, .ref bq, .ref br, .ref bd, .int (jI bg), .int (jI bf)])), (bd, .inl (cA, 32, .inl (jA fd))), (ta, .inr (3, [.ref ts, .int (jI tn), .int (jI tp1'), .int (jI tw1')])), (ts, .inl (cA, 400, .inl (jA tf)))] := hD
  have f := f_XT_takeOneOf_b tn tp tw tf 48 4 (by first | assumption | omega) (by first | assumption | omega) (by first | assumption | omega) (by first | assumption | omega) (by first | assumption | omega)
  rw [← hwb] at f; try dsimp only at f
  refine lv_istore_n (lv' := [(2, .int (jI r)), (0, .ref rda), (1, .ref ba)]) hx hb dXR_formula_10 rfl hl (by decide) rfl (fun ls hl => ?_)
  refine lv_iload_n hx hb dXR_formula_11 rfl (lv_at hl 0 rfl) ?_
  refine ji_iconst hx hb dXR_formula_12 ?_
  refine ji_icmp_ne (tgt := 18) hx hb dXR_formula_13 (by decide) (by omega) (by omega) (fun c13_ => ?_) (fun c13_ => ?_)
  · refine lv_aload_n hx hb dXR_formula_18 rfl (lv_at hl 2 rfl) ?_
    refine lv_iload_n hx hb dXR_formula_19 rfl (lv_at hl 0 rfl) ?_
    refine jrVi (rest := []) ⟨hx, hb, hml, hown, hts⟩ (c_XB_hasFormula l dC dI cA ba bt bp bl bh bq br bd bg bf r (by first | assumption | omega) (by first | assumption | omega)) (cwV 1 hts (jG_V tw_167 tw_168 tw_169 tw_5 tw_170) rfl rfl rfl (by decide +kernel) (by rw [hR]; exact ⟨Nat.le_of_ble_eq_true rfl, Nat.le_of_ble_eq_true rfl⟩)) hK hP hN [1] rfl 1 0 rfl rfl rfl rfl hl.1 rfl (Nat.le_of_ble_eq_true rfl) dXR_formula_20 (by rw [hR]; exact ⟨Nat.le_of_ble_eq_true rfl, Nat.le_of_ble_eq_true rfl⟩) ?_
    have f1 := f_XB_hasFormula_b bg bf r (by first | assumption | omega) (by first | assumption | omega)
    refine ji_if_eq (tgt := 34) hx hb dXR_formula_23 (by decide) (by omega) (fun c23_ => ?_) (fun c23_ => ?_)
    · refine lv_aload_n hx hb dXR_formula_34 rfl (lv_at hl 2 rfl) ?_
      refine lv_iload_n hx hb dXR_formula_35 rfl (lv_at hl 0 rfl) ?_
      refine jwVv (rest := []) (wr := [(rda, .inr (2, [.ref ta])), (bd, .inl (cA, 32, .inl (jA fd))), (ta, .inr (3, [.ref ts, .int (jI tn), .int (jI tp1'), .int (jI tw1')])), (ts, .inl (cA, 400, .inl (jA tf)))]) ⟨hx, hb, hml, hown, hts⟩ (c_XB_tellFormula l dC dI cA _ ba bt bp bl bh bq br bd bg bf r (by first | assumption | omega) (by first | assumption | omega)) (cwV 1 hts (jG_V tw_178 tw_179 tw_180 tw_5 tw_181) rfl rfl rfl (by decide +kernel) (by rw [hR]; exact ⟨Nat.le_of_ble_eq_true rfl, Nat.le_of_ble_eq_true rfl⟩)) hK hP hD hS hA hN [1] [0, 2, 3, 4] rfl rfl (by decide) (by decide) (by decide) 1 0 rfl rfl rfl rfl hl.1 rfl (Nat.le_of_ble_eq_true rfl) dXR_formula_36 (by rw [hR]; exact ⟨Nat.le_of_ble_eq_true rfl, Nat.le_of_ble_eq_true rfl⟩) (fun u2 H locs hw hP hD hS => ?_)
      subst hw
      have hP : va_P (dC, dI) vwCl [(rda, .inr (2, [.ref ta])), (bd, .inl (cA, 32, .inl (jA fd))), (ta, .inr (3, [.ref ts, .int (jI tn), .int (jI tp1'), .int (jI tw1')])), (ts, .inl (cA, 400, .inl (jA tf))), (ba, .inr (0, [.ref bt, .ref bp, .ref bl, .ref bh, .ref bq, .ref br, .ref bd, .int (jI bg), .int (jI (f_XB_tellFormula bg bf r))]))] H := hP
      have hD : va_D A [(rda, .inr (2, [.ref ta])), (bd, .inl (cA, 32, .inl (jA fd))), (ta, .inr (3, [.ref ts, .int (jI tn), .int (jI tp1'), .int (jI tw1')])), (ts, .inl (cA, 400, .inl (jA tf))), (ba, .inr (0, [.ref bt, .ref bp, .ref bl, .ref bh, .ref bq, .ref br, .ref bd, .int (jI bg), .int (jI (f_XB_tellFormula bg bf r))]))] := hD
      have f3 := f_XB_tellFormula_b bg bf r (by first | assumption | omega) (by first | assumption | omega)
      refine lv_aload_n hx hb dXR_formula_39 rfl (lv_at hl 1 rfl) ?_
      refine va_get (D := (dC, dI)) (ci := 2) (v := .ref ta) (C := RXR) (T := TXR) (N := 1) hx hb hts (fun w h => jmem (inXR w h)) hown hK hP 0 rfl rfl 0 (by decide) (hts _ (jmem tw_50)) (fun _ h9 => h9) rfl dXR_formula_40 ?_
      refine ji_bipush hx hb dXR_formula_43 (by decide) ?_
      refine jwVi (rest := []) (wr := [(rda, .inr (2, [.ref ta])), (bd, .inl (cA, 32, .inl (jA fd))), (ba, .inr (0, [.ref bt, .ref bp, .ref bl, .ref bh, .ref bq, .ref br, .ref bd, .int (jI bg), .int (jI (f_XB_tellFormula bg bf r))]))]) ⟨hx, hb, hml, hown, hts⟩ (c_XT_take l dC dI cA _ ta ts tn tp1' tw1' tf 61 (by first | assumption | omega) (by first | assumption | omega) (by first | assumption | omega) (by first | assumption | omega) (by first | assumption | omega)) (cwV 1 hts (jG_V tw_182 tw_183 tw_184 tw_2 tw_185) rfl rfl rfl (by decide +kernel) (by rw [hR]; exact ⟨Nat.le_of_ble_eq_true rfl, Nat.le_of_ble_eq_true rfl⟩)) hK hP hD hS hA hN [2, 3] [0, 1, 4] rfl rfl (by decide) (by decide) (by decide) 2 3 rfl rfl rfl rfl hl.1 rfl (Nat.le_of_ble_eq_true rfl) dXR_formula_45 (by rw [hR]; exact ⟨Nat.le_of_ble_eq_true rfl, Nat.le_of_ble_eq_true rfl⟩) (fun v8 u7 H locs hwb9 hP hD hS => ?_)
      obtain ⟨r4, tp1'5, tw1'6⟩ := u7
      try dsimp only at hwb9
      obtain ⟨er, hwb9⟩ := hwb9
      subst er
      have hP : va_P (dC, dI) vwCl [(rda, .inr (2, [.ref ta])), (bd, .inl (cA, 32, .inl (jA fd))), (ba, .inr (0, [.ref bt, .ref bp, .ref bl, .ref bh, .ref bq, .ref br, .ref bd, .int (jI bg), .int (jI (f_XB_tellFormula bg bf r))])), (ta, .inr (3, [.ref ts, .int (jI tn), .int (jI tp1'5), .int (jI tw1'6)])), (ts, .inl (cA, 400, .inl (jA tf)))] H := hP
      have hD : va_D A [(rda, .inr (2, [.ref ta])), (bd, .inl (cA, 32, .inl (jA fd))), (ba, .inr (0, [.ref bt, .ref bp, .ref bl, .ref bh, .ref bq, .ref br, .ref bd, .int (jI bg), .int (jI (f_XB_tellFormula bg bf r))])), (ta, .inr (3, [.ref ts, .int (jI tn), .int (jI tp1'5), .int (jI tw1'6)])), (ts, .inl (cA, 400, .inl (jA tf)))] := hD
      have f10 := f_XT_take_b tn tp1' tw1' tf 61 (by first | assumption | omega) (by first | assumption | omega) (by first | assumption | omega) (by first | assumption | omega) (by first | assumption | omega)
      rw [← hwb9] at f10; try dsimp only at f10
      refine ji_if_eq (tgt := 64) hx hb dXR_formula_48 (by decide) (by omega) (fun c48_ => ?_) (fun c48_ => ?_)
      · refine ji_iconst hx hb dXR_formula_64 ?_
        have hP9 := hP.sub (ws' := [(rda, .inr (2, [.ref ta])), (ta, .inr (3, [.ref ts, .int (jI tn), .int (jI tp1'5), .int (jI tw1'6)])), (ts, .inl (cA, 400, .inl (jA tf))), (ba, .inr (0, [.ref bt, .ref bp, .ref bl, .ref bh, .ref bq, .ref br, .ref bd, .int (jI bg), .int (jI (f_XB_tellFormula bg bf r))])), (bd, .inl (cA, 32, .inl (jA fd)))]) [0, 3, 4, 2, 1] rfl
        have hD9 := hD.sub (ws' := [(rda, .inr (2, [.ref ta])), (ta, .inr (3, [.ref ts, .int (jI tn), .int (jI tp1'5), .int (jI tw1'6)])), (ts, .inl (cA, 400, .inl (jA tf))), (ba, .inr (0, [.ref bt, .ref bp, .ref bl, .ref bh, .ref bq, .ref br, .ref bd, .int (jI bg), .int (jI (f_XB_tellFormula bg bf r))])), (bd, .inl (cA, 32, .inl (jA fd)))]) [0, 3, 4, 2, 1] (by decide) rfl
        subst hAe
        subst hQ
        exact W.zret (v := jI 0) hx hb hr (by first | decide | exact jz (by omega)) (fun t ht hW => ⟨⟨_, (0, tp1'5, tw1'6, fd, f_XB_tellFormula bg bf r), rfl, ⟨rfl, Eq.trans (by rw [f_XR_formula_s]; rw [← hwb]; try dsimp only; rw [if_neg c13_, if_pos c23_]; rw [← hwb9]; try dsimp only; rw [if_pos c48_]; try rfl) rfl, show 0 ≤ 0 ∧ 0 ≤ 1 from by first | assumption | omega, show 0 ≤ tp1'5 ∧ tp1'5 ≤ tn from by first | assumption | omega, show ∀ i, 0 ≤ fd i ∧ fd i ≤ 20 from by first | assumption | omega, show 0 ≤ (f_XB_tellFormula bg bf r) ∧ (f_XB_tellFormula bg bf r) < 2147483648 from by first | assumption | omega⟩, ⟨by rw [ht]; exact hP9, va_K.moved hW.alike hK, hD9⟩⟩, hS.F ht⟩) hS.2.2 dXR_formula_65
      · refine lv_aload_n hx hb dXR_formula_51 rfl (lv_at hl 1 rfl) ?_
        refine lv_aload_n hx hb dXR_formula_52 rfl (lv_at hl 2 rfl) ?_
        refine lv_iload_n hx hb dXR_formula_53 rfl (lv_at hl 0 rfl) ?_
        refine jwVi (rest := []) (wr := []) ⟨hx, hb, hml, hown, hts⟩ (c_XR_terms l dC dI cA _ rda ta ts tn tp1'5 tw1'6 tf ba bt bp bl bh bq br bd bg (f_XB_tellFormula bg bf r) fd r (by first | assumption | omega) (by first | assumption | omega) (by first | assumption | omega) (by first | assumption | omega) (by first | assumption | omega)) (cwV 2 hts (jG_V tw_186 tw_188 ts_2 tw_3 tw_189) rfl rfl rfl (by decide +kernel) (by rw [hR]; exact ⟨Nat.le_of_ble_eq_true rfl, Nat.le_of_ble_eq_true rfl⟩)) hK hP hD hS hA hN [0, 3, 4, 2, 1] [] rfl rfl (by decide) (by decide) (by decide) 0 2 rfl rfl rfl rfl hl.1 rfl (Nat.le_of_ble_eq_true rfl) dXR_formula_54 (by rw [hR]; exact ⟨Nat.le_of_ble_eq_true rfl, Nat.le_of_ble_eq_true rfl⟩) (fun v15 u14 H locs hwb16 hP hD hS => ?_)
        obtain ⟨r11, tp1'12, tw1'13, fd1'⟩ := u14
        try dsimp only at hwb16
        obtain ⟨er, hwb16, f17, f18, f19⟩ := hwb16
        subst er
        have f17 : 0 ≤ r11 ∧ r11 ≤ 1 := f17
        have f18 : 0 ≤ tp1'12 ∧ tp1'12 ≤ tn := f18
        have f19 : ∀ i, 0 ≤ fd1' i ∧ fd1' i ≤ 20 := f19
        have hP : va_P (dC, dI) vwCl [(rda, .inr (2, [.ref ta])), (ta, .inr (3, [.ref ts, .int (jI tn), .int (jI tp1'12), .int (jI tw1'13)])), (ts, .inl (cA, 400, .inl (jA tf))), (ba, .inr (0, [.ref bt, .ref bp, .ref bl, .ref bh, .ref bq, .ref br, .ref bd, .int (jI bg), .int (jI (f_XB_tellFormula bg bf r))])), (bd, .inl (cA, 32, .inl (jA fd1')))] H := hP
        have hD : va_D A [(rda, .inr (2, [.ref ta])), (ta, .inr (3, [.ref ts, .int (jI tn), .int (jI tp1'12), .int (jI tw1'13)])), (ts, .inl (cA, 400, .inl (jA tf))), (ba, .inr (0, [.ref bt, .ref bp, .ref bl, .ref bh, .ref bq, .ref br, .ref bd, .int (jI bg), .int (jI (f_XB_tellFormula bg bf r))])), (bd, .inl (cA, 32, .inl (jA fd1')))] := hD
        refine ji_if_eq (tgt := 64) hx hb dXR_formula_57 (by decide) (by omega) (fun c57_ => ?_) (fun c57_ => ?_)
        · refine ji_iconst hx hb dXR_formula_64 ?_
          have hP9 := hP.sub (ws' := [(rda, .inr (2, [.ref ta])), (ta, .inr (3, [.ref ts, .int (jI tn), .int (jI tp1'12), .int (jI tw1'13)])), (ts, .inl (cA, 400, .inl (jA tf))), (ba, .inr (0, [.ref bt, .ref bp, .ref bl, .ref bh, .ref bq, .ref br, .ref bd, .int (jI bg), .int (jI (f_XB_tellFormula bg bf r))])), (bd, .inl (cA, 32, .inl (jA fd1')))]) [0, 1, 2, 3, 4] rfl
          have hD9 := hD.sub (ws' := [(rda, .inr (2, [.ref ta])), (ta, .inr (3, [.ref ts, .int (jI tn), .int (jI tp1'12), .int (jI tw1'13)])), (ts, .inl (cA, 400, .inl (jA tf))), (ba, .inr (0, [.ref bt, .ref bp, .ref bl, .ref bh, .ref bq, .ref br, .ref bd, .int (jI bg), .int (jI (f_XB_tellFormula bg bf r))])), (bd, .inl (cA, 32, .inl (jA fd1')))]) [0, 1, 2, 3, 4] (by decide) rfl
          subst hAe
          subst hQ
          exact W.zret (v := jI 0) hx hb hr (by first | decide | exact jz (by omega)) (fun t ht hW => ⟨⟨_, (0, tp1'12, tw1'13, fd1', f_XB_tellFormula bg bf r), rfl, ⟨rfl, Eq.trans (by rw [f_XR_formula_s]; rw [← hwb]; try dsimp only; rw [if_neg c13_, if_pos c23_]; rw [← hwb9]; try dsimp only; rw [if_neg c48_]; rw [← hwb16]; try dsimp only; rw [if_pos c57_]; try rfl) rfl, show 0 ≤ 0 ∧ 0 ≤ 1 from by first | assumption | omega, show 0 ≤ tp1'12 ∧ tp1'12 ≤ tn from by first | assumption | omega, show ∀ i, 0 ≤ fd1' i ∧ fd1' i ≤ 20 from by first | assumption | omega, show 0 ≤ (f_XB_tellFormula bg bf r) ∧ (f_XB_tellFormula bg bf r) < 2147483648 from by first | assumption | omega⟩, ⟨by rw [ht]; exact hP9, va_K.moved hW.alike hK, hD9⟩⟩, hS.F ht⟩) hS.2.2 dXR_formula_65
        · refine ji_iconst hx hb dXR_formula_60 ?_
          refine lv_goto (tgt := 65) hx hb dXR_formula_61 (by decide) ?_
          have hP9 := hP.sub (ws' := [(rda, .inr (2, [.ref ta])), (ta, .inr (3, [.ref ts, .int (jI tn), .int (jI tp1'12), .int (jI tw1'13)])), (ts, .inl (cA, 400, .inl (jA tf))), (ba, .inr (0, [.ref bt, .ref bp, .ref bl, .ref bh, .ref bq, .ref br, .ref bd, .int (jI bg), .int (jI (f_XB_tellFormula bg bf r))])), (bd, .inl (cA, 32, .inl (jA fd1')))]) [0, 1, 2, 3, 4] rfl
          have hD9 := hD.sub (ws' := [(rda, .inr (2, [.ref ta])), (ta, .inr (3, [.ref ts, .int (jI tn), .int (jI tp1'12), .int (jI tw1'13)])), (ts, .inl (cA, 400, .inl (jA tf))), (ba, .inr (0, [.ref bt, .ref bp, .ref bl, .ref bh, .ref bq, .ref br, .ref bd, .int (jI bg), .int (jI (f_XB_tellFormula bg bf r))])), (bd, .inl (cA, 32, .inl (jA fd1')))]) [0, 1, 2, 3, 4] (by decide) rfl
          subst hAe
          subst hQ
          exact W.zret (v := jI 1) hx hb hr (by first | decide | exact jz (by omega)) (fun t ht hW => ⟨⟨_, (1, tp1'12, tw1'13, fd1', f_XB_tellFormula bg bf r), rfl, ⟨rfl, Eq.trans (by rw [f_XR_formula_s]; rw [← hwb]; try dsimp only; rw [if_neg c13_, if_pos c23_]; rw [← hwb9]; try dsimp only; rw [if_neg c48_]; rw [← hwb16]; try dsimp only; rw [if_neg c57_]; try rfl) rfl, show 0 ≤ 1 ∧ 1 ≤ 1 from by first | assumption | omega, show 0 ≤ tp1'12 ∧ tp1'12 ≤ tn from by first | assumption | omega, show ∀ i, 0 ≤ fd1' i ∧ fd1' i ≤ 20 from by first | assumption | omega, show 0 ≤ (f_XB_tellFormula bg bf r) ∧ (f_XB_tellFormula bg bf r) < 2147483648 from by first | assumption | omega⟩, ⟨by rw [ht]; exact hP9, va_K.moved hW.alike hK, hD9⟩⟩, hS.F ht⟩) hS.2.2 dXR_formula_65
    · refine lv_aload_n hx hb dXR_formula_26 rfl (lv_at hl 1 rfl) ?_
      refine va_get (D := (dC, dI)) (ci := 2) (v := .ref ta) (C := RXR) (T := TXR) (N := 1) hx hb hts (fun w h => jmem (inXR w h)) hown hK hP 0 rfl rfl 0 (by decide) (hts _ (jmem tw_50)) (fun _ h9 => h9) rfl dXR_formula_27 ?_
      refine jwVi (rest := []) (wr := [(rda, .inr (2, [.ref ta])), (ba, .inr (0, [.ref bt, .ref bp, .ref bl, .ref bh, .ref bq, .ref br, .ref bd, .int (jI bg), .int (jI bf)])), (bd, .inl (cA, 32, .inl (jA fd)))]) ⟨hx, hb, hml, hown, hts⟩ (c_XT_refuseLast l dC dI cA _ ta ts tn tp1' tw1' tf) (cwV 0 hts (jG_V tw_174 tw_175 tw_176 tw_2 tw_177) rfl rfl rfl (by decide +kernel) (by rw [hR]; exact ⟨Nat.le_of_ble_eq_true rfl, Nat.le_of_ble_eq_true rfl⟩)) hK hP hD hS hA hN [3, 4] [0, 1, 2] rfl rfl (by decide) (by decide) (by decide) 3 3 rfl rfl rfl rfl hl.1 rfl (Nat.le_of_ble_eq_true rfl) dXR_formula_30 (by rw [hR]; exact ⟨Nat.le_of_ble_eq_true rfl, Nat.le_of_ble_eq_true rfl⟩) (fun v23 u22 H locs hwb24 hP hD hS => ?_)
      obtain ⟨r20, tw1'21⟩ := u22
      try dsimp only at hwb24
      obtain ⟨er, hwb24⟩ := hwb24
      subst er
      have hP : va_P (dC, dI) vwCl [(rda, .inr (2, [.ref ta])), (ba, .inr (0, [.ref bt, .ref bp, .ref bl, .ref bh, .ref bq, .ref br, .ref bd, .int (jI bg), .int (jI bf)])), (bd, .inl (cA, 32, .inl (jA fd))), (ta, .inr (3, [.ref ts, .int (jI tn), .int (jI tp1'), .int (jI tw1'21)])), (ts, .inl (cA, 400, .inl (jA tf)))] H := hP
      have hD : va_D A [(rda, .inr (2, [.ref ta])), (ba, .inr (0, [.ref bt, .ref bp, .ref bl, .ref bh, .ref bq, .ref br, .ref bd, .int (jI bg), .int (jI bf)])), (bd, .inl (cA, 32, .inl (jA fd))), (ta, .inr (3, [.ref ts, .int (jI tn), .int (jI tp1'), .int (jI tw1'21)])), (ts, .inl (cA, 400, .inl (jA tf)))] := hD
      have f25 := f_XT_refuseLast_b tn tp1' tw1' tf
      rw [← hwb24] at f25; try dsimp only at f25
      have hP9 := hP.sub (ws' := [(rda, .inr (2, [.ref ta])), (ta, .inr (3, [.ref ts, .int (jI tn), .int (jI tp1'), .int (jI tw1'21)])), (ts, .inl (cA, 400, .inl (jA tf))), (ba, .inr (0, [.ref bt, .ref bp, .ref bl, .ref bh, .ref bq, .ref br, .ref bd, .int (jI bg), .int (jI bf)])), (bd, .inl (cA, 32, .inl (jA fd)))]) [0, 3, 4, 1, 2] rfl
      have hD9 := hD.sub (ws' := [(rda, .inr (2, [.ref ta])), (ta, .inr (3, [.ref ts, .int (jI tn), .int (jI tp1'), .int (jI tw1'21)])), (ts, .inl (cA, 400, .inl (jA tf))), (ba, .inr (0, [.ref bt, .ref bp, .ref bl, .ref bh, .ref bq, .ref br, .ref bd, .int (jI bg), .int (jI bf)])), (bd, .inl (cA, 32, .inl (jA fd)))]) [0, 3, 4, 1, 2] (by decide) rfl
      subst hAe
      subst hQ
      exact W.zret (v := jI r20) hx hb hr (by first | decide | exact jz (by omega)) (fun t ht hW => ⟨⟨_, (r20, tp1', tw1'21, fd, bf), rfl, ⟨rfl, Eq.trans (by rw [f_XR_formula_s]; rw [← hwb]; try dsimp only; rw [if_neg c13_, if_neg c23_]; rw [← hwb24]; try dsimp only; try rfl) rfl, show 0 ≤ r20 ∧ r20 ≤ 1 from by first | assumption | omega, show 0 ≤ tp1' ∧ tp1' ≤ tn from by first | assumption | omega, show ∀ i, 0 ≤ fd i ∧ fd i ≤ 20 from by first | assumption | omega, show 0 ≤ bf ∧ bf < 2147483648 from by first | assumption | omega⟩, ⟨by rw [ht]; exact hP9, va_K.moved hW.alike hK, hD9⟩⟩, hS.F ht⟩) hS.2.2 dXR_formula_33
  · refine ji_iconst hx hb dXR_formula_16 ?_
    have hP9 := hP.sub (ws' := [(rda, .inr (2, [.ref ta])), (ta, .inr (3, [.ref ts, .int (jI tn), .int (jI tp1'), .int (jI tw1')])), (ts, .inl (cA, 400, .inl (jA tf))), (ba, .inr (0, [.ref bt, .ref bp, .ref bl, .ref bh, .ref bq, .ref br, .ref bd, .int (jI bg), .int (jI bf)])), (bd, .inl (cA, 32, .inl (jA fd)))]) [0, 3, 4, 1, 2] rfl
    have hD9 := hD.sub (ws' := [(rda, .inr (2, [.ref ta])), (ta, .inr (3, [.ref ts, .int (jI tn), .int (jI tp1'), .int (jI tw1')])), (ts, .inl (cA, 400, .inl (jA tf))), (ba, .inr (0, [.ref bt, .ref bp, .ref bl, .ref bh, .ref bq, .ref br, .ref bd, .int (jI bg), .int (jI bf)])), (bd, .inl (cA, 32, .inl (jA fd)))]) [0, 3, 4, 1, 2] (by decide) rfl
    subst hAe
    subst hQ
    exact W.zret (v := jI 0) hx hb hr (by first | decide | exact jz (by omega)) (fun t ht hW => ⟨⟨_, (0, tp1', tw1', fd, bf), rfl, ⟨rfl, Eq.trans (by rw [f_XR_formula_s]; rw [← hwb]; try dsimp only; rw [if_pos c13_]; try rfl) rfl, show 0 ≤ 0 ∧ 0 ≤ 1 from by first | assumption | omega, show 0 ≤ tp1' ∧ tp1' ≤ tn from by first | assumption | omega, show ∀ i, 0 ≤ fd i ∧ fd i ≤ 20 from by first | assumption | omega, show 0 ≤ bf ∧ bf < 2147483648 from by first | assumption | omega⟩, ⟨by rw [ht]; exact hP9, va_K.moved hW.alike hK, hD9⟩⟩, hS.F ht⟩) hS.2.2 dXR_formula_17
