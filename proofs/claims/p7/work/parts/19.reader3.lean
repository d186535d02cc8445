noncomputable def g_XR_grade (tn : Int) (tp : Int) (tw : Int) (tf : Int → Int) (bg : Int) (bf : Int) (ft : Int → Int) (fl : Int → Int) (fh : Int → Int) (fq : Int → Int) (fr : Int → Int) : Int × Int × Int × (Int → Int) × (Int → Int) × (Int → Int) × (Int → Int) × (Int → Int) × Int :=
  match f_XT_number tn tp tw tf 1 30 with
  | (r, tp1', tw1') =>
    if r = (-1) then
      (0, tp1', tw1', ft, fl, fh, fq, fr, bg)
    else
      if (f_XB_knows bg bf r) = 0 then
        match f_XR_parent tn tp1' tw1' tf (f_XB_tellGrade bg bf r) bf ft r with
        | (r5, tp1'6, tw1'7, ft1') =>
          if r5 = 0 then
            (0, tp1'6, tw1'7, ft1', fl, fh, fq, fr, f_XB_tellGrade bg bf r)
          else
            match f_XR_spans tn tp1'6 tw1'7 tf (f_XB_tellGrade bg bf r) bf fl fh r with
            | (r14, tp1'15, tw1'16, fl1', fh1') =>
              if r14 = 0 then
                (0, tp1'15, tw1'16, ft1', fl1', fh1', fq, fr, f_XB_tellGrade bg bf r)
              else
                match f_XR_routes tn tp1'15 tw1'16 tf (f_XB_tellGrade bg bf r) bf fr r with
                | (r24, tp1'25, tw1'26, fr1') =>
                  if r24 = 0 then
                    (0, tp1'25, tw1'26, ft1', fl1', fh1', fq, fr1', f_XB_tellGrade bg bf r)
                  else
                    match f_XR_limits tn tp1'25 tw1'26 tf (f_XB_tellGrade bg bf r) bf fq r with
                    | (r33, tp1'34, tw1'35, fq1') =>
                      if r33 = 0 then
                        (0, tp1'34, tw1'35, ft1', fl1', fh1', fq1', fr1', f_XB_tellGrade bg bf r)
                      else
                        (1, tp1'34, tw1'35, ft1', fl1', fh1', fq1', fr1', f_XB_tellGrade bg bf r)
      else
        match f_XT_refuseLast tn tp1' tw1' tf with
        | (r42, tw1'43) =>
          (r42, tp1', tw1'43, ft, fl, fh, fq, fr, bg)
noncomputable def f_XR_grade : Int → Int → Int → (Int → Int) → Int → Int → (Int → Int) → (Int → Int) → (Int → Int) → (Int → Int) → (Int → Int) → Int × Int × Int × (Int → Int) × (Int → Int) × (Int → Int) × (Int → Int) × (Int → Int) × Int := jopq g_XR_grade
theorem f_XR_grade_q : f_XR_grade = g_XR_grade := jopq_eq _
theorem f_XR_grade_s (tn : Int) (tp : Int) (tw : Int) (tf : Int → Int) (bg : Int) (bf : Int) (ft : Int → Int) (fl : Int → Int) (fh : Int → Int) (fq : Int → Int) (fr : Int → Int) : f_XR_grade tn tp tw tf bg bf ft fl fh fq fr = (
    match f_XT_number tn tp tw tf 1 30 with
    | (r, tp1', tw1') =>
      if r = (-1) then
        (0, tp1', tw1', ft, fl, fh, fq, fr, bg)
      else
        if (f_XB_knows bg bf r) = 0 then
          match f_XR_parent tn tp1' tw1' tf (f_XB_tellGrade bg bf r) bf ft r with
          | (r5, tp1'6, tw1'7, ft1') =>
            if r5 = 0 then
              (0, tp1'6, tw1'7, ft1', fl, fh, fq, fr, f_XB_tellGrade bg bf r)
            else
              match f_XR_spans tn tp1'6 tw1'7 tf (f_XB_tellGrade bg bf r) bf fl fh r with
              | (r14, tp1'15, tw1'16, fl1', fh1') =>
                if r14 = 0 then
                  (0, tp1'15, tw1'16, ft1', fl1', fh1', fq, fr, f_XB_tellGrade bg bf r)
                else
                  match f_XR_routes tn tp1'15 tw1'16 tf (f_XB_tellGrade bg bf r) bf fr r with
                  | (r24, tp1'25, tw1'26, fr1') =>
                    if r24 = 0 then
                      (0, tp1'25, tw1'26, ft1', fl1', fh1', fq, fr1', f_XB_tellGrade bg bf r)
                    else
                      match f_XR_limits tn tp1'25 tw1'26 tf (f_XB_tellGrade bg bf r) bf fq r with
                      | (r33, tp1'34, tw1'35, fq1') =>
                        if r33 = 0 then
                          (0, tp1'34, tw1'35, ft1', fl1', fh1', fq1', fr1', f_XB_tellGrade bg bf r)
                        else
                          (1, tp1'34, tw1'35, ft1', fl1', fh1', fq1', fr1', f_XB_tellGrade bg bf r)
        else
          match f_XT_refuseLast tn tp1' tw1' tf with
          | (r42, tw1'43) =>
            (r42, tp1', tw1'43, ft, fl, fh, fq, fr, bg)
  ) := by rw [f_XR_grade_q]; rfl
set_option maxHeartbeats 4000000 in
set_option maxRecDepth 100000 in
theorem c_XR_grade (l : Launch) (dC : Nat → ClassId) (dI : Nat → Nat → Nat) (cA : ClassId) (sz : Nat) (rda : Nat) (ta : Nat) (ts : Nat) (tn : Int) (tp : Int) (tw : Int) (tf : Int → Int) (ba : Nat) (bt : Nat) (bp : Nat) (bl : Nat) (bh : Nat) (bq : Nat) (br : Nat) (bd : Nat) (bg : Int) (bf : Int) (ft : Int → Int) (fl : Int → Int) (fh : Int → Int) (fq : Int → Int) (fr : Int → Int) (hn : 0 ≤ tn ∧ tn ≤ 400) (hp : 0 ≤ tp ∧ tp ≤ tn) (hf : ∀ i, 0 ≤ tf i ∧ tf i < 256) (hbt : ∀ i, 0 ≤ ft i ∧ ft i ≤ 30) (hbl : ∀ i, 0 ≤ fl i ∧ fl i ≤ 100000) (hbh : ∀ i, -1 ≤ fh i ∧ fh i ≤ 100000) (hbq : ∀ i, -1 ≤ fq i ∧ fq i ≤ 999999) (hbr : ∀ i, 0 ≤ fr i ∧ fr i < 2147483648) (hbg : 0 ≤ bg ∧ bg < 2147483648) : Met l yXR_grade (Cond.code yXR_grade cXR_grade 3 (some .boolean) :: TBL) ({ frames := 3, cells := 0, slots := 0, locals := 70 } : Room) (va_Pc [.ref rda, .ref ba] (jBw (dC, dI) [(cA, .int)] [(rda, .inr (2, [.ref ta])), (ta, .inr (3, [.ref ts, .int (jI tn), .int (jI tp), .int (jI tw)])), (ts, .inl (cA, 400, .inl (jA tf))), (ba, .inr (0, [.ref bt, .ref bp, .ref bl, .ref bh, .ref bq, .ref br, .ref bd, .int (jI bg), .int (jI bf)])), (bt, .inl (cA, 31, .inl (jA ft))), (bl, .inl (cA, 248, .inl (jA fl))), (bh, .inl (cA, 248, .inl (jA fh))), (bq, .inl (cA, 124, .inl (jA fq))), (br, .inl (cA, 31, .inl (jA fr)))] sz)) (va_Qi (fun (r : Int32) (u : Int × Int × Int × (Int → Int) × (Int → Int) × (Int → Int) × (Int → Int) × (Int → Int) × Int) => r = jI u.1 ∧ u = f_XR_grade tn tp tw tf bg bf ft fl fh fq fr ∧ (0 ≤ u.1 ∧ u.1 ≤ 1) ∧ (0 ≤ u.2.1 ∧ u.2.1 ≤ tn) ∧ (∀ i, 0 ≤ u.2.2.2.1 i ∧ u.2.2.2.1 i ≤ 30) ∧ (∀ i, 0 ≤ u.2.2.2.2.1 i ∧ u.2.2.2.2.1 i ≤ 100000) ∧ (∀ i, -1 ≤ u.2.2.2.2.2.1 i ∧ u.2.2.2.2.2.1 i ≤ 100000) ∧ (∀ i, -1 ≤ u.2.2.2.2.2.2.1 i ∧ u.2.2.2.2.2.2.1 i ≤ 999999) ∧ (∀ i, 0 ≤ u.2.2.2.2.2.2.2.1 i ∧ u.2.2.2.2.2.2.2.1 i < 2147483648) ∧ (0 ≤ u.2.2.2.2.2.2.2.2 ∧ u.2.2.2.2.2.2.2.2 < 2147483648)) (fun u t => jE (dC, dI) [(cA, .int)] [(rda, .inr (2, [.ref ta])), (ta, .inr (3, [.ref ts, .int (jI tn), .int (jI tp), .int (jI tw)])), (ts, .inl (cA, 400, .inl (jA tf))), (ba, .inr (0, [.ref bt, .ref bp, .ref bl, .ref bh, .ref bq, .ref br, .ref bd, .int (jI bg), .int (jI bf)])), (bt, .inl (cA, 31, .inl (jA ft))), (bl, .inl (cA, 248, .inl (jA fl))), (bh, .inl (cA, 248, .inl (jA fh))), (bq, .inl (cA, 124, .inl (jA fq))), (br, .inl (cA, 31, .inl (jA fr)))] sz [(rda, .inr (2, [.ref ta])), (ta, .inr (3, [.ref ts, .int (jI tn), .int (jI u.2.1), .int (jI u.2.2.1)])), (ts, .inl (cA, 400, .inl (jA tf))), (ba, .inr (0, [.ref bt, .ref bp, .ref bl, .ref bh, .ref bq, .ref br, .ref bd, .int (jI u.2.2.2.2.2.2.2.2), .int (jI bf)])), (bt, .inl (cA, 31, .inl (jA u.2.2.2.1))), (bl, .inl (cA, 248, .inl (jA u.2.2.2.2.1))), (bh, .inl (cA, 248, .inl (jA u.2.2.2.2.2.1))), (bq, .inl (cA, 124, .inl (jA u.2.2.2.2.2.2.1))), (br, .inl (cA, 31, .inl (jA u.2.2.2.2.2.2.2.1)))] t) (va_A [(rda, .inr (2, [.ref ta])), (ta, .inr (3, [.ref ts, .int (jI tn), .int (jI tp), .int (jI tw)])), (ts, .inl (cA, 400, .inl (jA tf))), (ba, .inr (0, [.ref bt, .ref bp, .ref bl, .ref bh, .ref bq, .ref br, .ref bd, .int (jI bg), .int (jI bf)])), (bt, .inl (cA, 31, .inl (jA ft))), (bl, .inl (cA, 248, .inl (jA fl))), (bh, .inl (cA, 248, .inl (jA fh))), (bq, .inl (cA, 124, .inl (jA fq))), (br, .inl (cA, 31, .inl (jA fr)))] sz)) 0 0 (va_A [(rda, .inr (2, [.ref ta])), (ta, .inr (3, [.ref ts, .int (jI tn), .int (jI tp), .int (jI tw)])), (ts, .inl (cA, 400, .inl (jA tf))), (ba, .inr (0, [.ref bt, .ref bp, .ref bl, .ref bh, .ref bq, .ref br, .ref bd, .int (jI bg), .int (jI bf)])), (bt, .inl (cA, 31, .inl (jA ft))), (bl, .inl (cA, 248, .inl (jA fl))), (bh, .inl (cA, 248, .inl (jA fh))), (bq, .inl (cA, 124, .inl (jA fq))), (br, .inl (cA, 31, .inl (jA fr)))] sz) := by
  refine jMet (cc := cXR_grade) (maxL := 3) (ret := some .boolean) (by decide) rfl ?_
  intro p e s m args below meth c s₁ R Q hR hQ B hml hv
  obtain ⟨rfl, hsz, hP, hK, hD0, hN⟩ := hv
  have hx := B.exec
  have hb := B.bytes
  have hr := B.returns
  have hts := atoms_spec (ws := Cond.code yXR_grade cXR_grade 3 (some .boolean) :: TBL) B.pre
  have hown : s.vm.findClass RXR = some m.cls := findClass_of_methodNamed B.named
  have hlocks := B.notSynchronized
  subst hsz
  obtain ⟨A, hAe⟩ : ∃ A, A = va_A [(rda, .inr (2, [.ref ta])), (ta, .inr (3, [.ref ts, .int (jI tn), .int (jI tp), .int (jI tw)])), (ts, .inl (cA, 400, .inl (jA tf))), (ba, .inr (0, [.ref bt, .ref bp, .ref bl, .ref bh, .ref bq, .ref br, .ref bd, .int (jI bg), .int (jI bf)])), (bt, .inl (cA, 31, .inl (jA ft))), (bl, .inl (cA, 248, .inl (jA fl))), (bh, .inl (cA, 248, .inl (jA fh))), (bq, .inl (cA, 124, .inl (jA fq))), (br, .inl (cA, 31, .inl (jA fr)))] s.heap.size := ⟨_, rfl⟩
  have hD : va_D A [(rda, .inr (2, [.ref ta])), (ta, .inr (3, [.ref ts, .int (jI tn), .int (jI tp), .int (jI tw)])), (ts, .inl (cA, 400, .inl (jA tf))), (ba, .inr (0, [.ref bt, .ref bp, .ref bl, .ref bh, .ref bq, .ref br, .ref bd, .int (jI bg), .int (jI bf)])), (bt, .inl (cA, 31, .inl (jA ft))), (bl, .inl (cA, 248, .inl (jA fl))), (bh, .inl (cA, 248, .inl (jA fh))), (bq, .inl (cA, 124, .inl (jA fq))), (br, .inl (cA, 31, .inl (jA fr)))] := by rw [hAe]; exact hD0.self
  have hA : ∀ q : Nat, s.heap.size ≤ q → A q := fun q h => by rw [hAe]; exact Or.inr h
  have hS : va_S A s.heap s.heap [] := va_S.rf
  have hP : va_P (dC, dI) vwCl [(rda, .inr (2, [.ref ta])), (ta, .inr (3, [.ref ts, .int (jI tn), .int (jI tp), .int (jI tw)])), (ts, .inl (cA, 400, .inl (jA tf))), (ba, .inr (0, [.ref bt, .ref bp, .ref bl, .ref bh, .ref bq, .ref br, .ref bd, .int (jI bg), .int (jI bf)])), (bt, .inl (cA, 31, .inl (jA ft))), (bl, .inl (cA, 248, .inl (jA fl))), (bh, .inl (cA, 248, .inl (jA fh))), (bq, .inl (cA, 124, .inl (jA fq))), (br, .inl (cA, 31, .inl (jA fr)))] s.heap := hP
  have hl := lv_entry ([.ref rda, .ref ba]) (n := 3) (Nat.le_of_ble_eq_true rfl)
  rw [lg_entry_eq]
  generalize (lg_sl ([.ref rda, .ref ba]) ++ List.replicate (3 - (lg_sl ([.ref rda, .ref ba])).length) Slot.unset).toArray = ls at hl ⊢
  have hl : lv_has ls 3 [(0, .ref rda), (1, .ref ba)] := hl
  refine lv_aload_n hx hb dXR_grade_0 rfl (lv_at hl 0 rfl) ?_
  refine va_get (D := (dC, dI)) (ci := 2) (v := .ref ta) (C := RXR) (T := TXR) (N := 1) hx hb hts (fun w h => jmem (inXR w h)) hown hK hP 0 rfl rfl 0 (by decide) (hts _ (jmem tw_50)) (fun _ h9 => h9) rfl dXR_grade_1 ?_
  refine ji_iconst hx hb dXR_grade_4 ?_
  refine ji_bipush hx hb dXR_grade_5 (by decide) ?_
  refine jwVi (rest := []) (wr := [(rda, .inr (2, [.ref ta])), (ba, .inr (0, [.ref bt, .ref bp, .ref bl, .ref bh, .ref bq, .ref br, .ref bd, .int (jI bg), .int (jI bf)])), (bt, .inl (cA, 31, .inl (jA ft))), (bl, .inl (cA, 248, .inl (jA fl))), (bh, .inl (cA, 248, .inl (jA fh))), (bq, .inl (cA, 124, .inl (jA fq))), (br, .inl (cA, 31, .inl (jA fr)))]) ⟨hx, hb, hml, hown, hts⟩ (c_XT_number l dC dI cA _ ta ts tn tp tw tf 1 30 (by first | assumption | omega) (by first | assumption | omega) (by first | assumption | omega) (by first | assumption | omega) (by first | assumption | omega)) (cwV 2 hts (jG_V tw_194 tw_195 tw_196 tw_2 tw_197) rfl rfl rfl (by decide +kernel) (by rw [hR]; exact ⟨Nat.le_of_ble_eq_true rfl, Nat.le_of_ble_eq_true rfl⟩)) hK hP hD hS hA hN [1, 2] [0, 3, 4, 5, 6, 7, 8] rfl rfl (by decide) (by decide) (by decide) 1 3 rfl rfl rfl rfl hl.1 rfl (Nat.le_of_ble_eq_true rfl) dXR_grade_7 (by rw [hR]; exact ⟨Nat.le_of_ble_eq_true rfl, Nat.le_of_ble_eq_true rfl⟩) (fun v u H locs hwb hP hD hS => ?_)
  obtain ⟨r, tp1', tw1'⟩ := u
  try dsimp only at hwb
  obtain ⟨er, hwb⟩ := hwb
  subst er
  have hP : va_P (dC, dI) vwCl [(rda, .inr (2, [.ref ta])), (ba, .inr (0, [.ref bt, .ref bp, .ref bl, .ref bh, .ref bq, .ref br, .ref bd, .int (jI bg), .int (jI bf)])), (bt, .inl (cA, 31, .inl (jA ft))), (bl, .inl (cA, 248, .inl (jA fl))), (bh, .inl (cA, 248, .inl (jA fh))), (bq, .inl (cA, 124, .inl (jA fq))), (br, .inl (cA, 31, .inl (jA fr))), (ta, .inr (3, [.ref ts, .int (jI tn), .int (jI tp1'), .int (jI tw1')])), (ts, .inl (cA, 400, .inl (jA tf)))] H := hP
  have hD : va_D A [(rda, .inr (2, [.ref ta])), (ba, .inr (0, [.ref bt, .ref bp, .ref bl, .ref bh, .ref bq, .ref br, .ref bd, .int (jI bg), .int (jI bf)])), (bt, .inl (cA, 31, .inl (jA ft))), (bl, .inl (cA, 248, .inl (jA fl))), (bh, .inl (cA, 248, .inl (jA fh))), (bq, .inl (cA, 124, .inl (jA fq))), (br, .inl (cA, 31, .inl (jA fr))), (ta, .inr (3, [.ref ts, .int (jI tn), .int (jI tp1'), .int (jI tw1')])), (ts, .inl (cA, 400, .inl (jA tf)))] := hD
  have f := f_XT_number_b tn tp tw tf 1 30 (by first | assumption | omega) (by first | assumption | omega) (by first | assumption | omega) (by first | assumption | omega) (by first | assumption | omega)
  rw [← hwb] at f; try dsimp only at f
  refine lv_istore_n (lv' := [(2, .int (jI r)), (0, .ref rda), (1, .ref ba)]) hx hb dXR_grade_10 rfl hl (by decide) rfl (fun ls hl => ?_)
  refine lv_iload_n hx hb dXR_grade_11 rfl (lv_at hl 0 rfl) ?_
  refine ji_iconst hx hb dXR_grade_12 ?_
  refine ji_icmp_ne (tgt := 18) hx hb dXR_grade_13 (by decide) (by omega) (by omega) (fun c13_ => ?_) (fun c13_ => ?_)
  · refine lv_aload_n hx hb dXR_grade_18 rfl (lv_at hl 2 rfl) ?_
    refine lv_iload_n hx hb dXR_grade_19 rfl (lv_at hl 0 rfl) ?_
    refine jrVi (rest := []) ⟨hx, hb, hml, hown, hts⟩ (c_XB_knows l dC dI cA ba bt bp bl bh bq br bd bg bf r (by first | assumption | omega) (by first | assumption | omega)) (cwV 1 hts (jG_V tw_215 tw_216 tw_217 tw_5 tw_218) rfl rfl rfl (by decide +kernel) (by rw [hR]; exact ⟨Nat.le_of_ble_eq_true rfl, Nat.le_of_ble_eq_true rfl⟩)) hK hP hN [1] rfl 1 0 rfl rfl rfl rfl hl.1 rfl (Nat.le_of_ble_eq_true rfl) dXR_grade_20 (by rw [hR]; exact ⟨Nat.le_of_ble_eq_true rfl, Nat.le_of_ble_eq_true rfl⟩) ?_
    have f1 := f_XB_knows_b bg bf r (by first | assumption | omega) (by first | assumption | omega)
    have f2 := f_XB_knows_c bg bf r (by first | assumption | omega) (by first | assumption | omega)
    refine ji_if_eq (tgt := 34) hx hb dXR_grade_23 (by decide) (by omega) (fun c23_ => ?_) (fun c23_ => ?_)
    · refine lv_aload_n hx hb dXR_grade_34 rfl (lv_at hl 2 rfl) ?_
      refine lv_iload_n hx hb dXR_grade_35 rfl (lv_at hl 0 rfl) ?_
      refine jwVv (rest := []) (wr := [(rda, .inr (2, [.ref ta])), (bt, .inl (cA, 31, .inl (jA ft))), (bl, .inl (cA, 248, .inl (jA fl))), (bh, .inl (cA, 248, .inl (jA fh))), (bq, .inl (cA, 124, .inl (jA fq))), (br, .inl (cA, 31, .inl (jA fr))), (ta, .inr (3, [.ref ts, .int (jI tn), .int (jI tp1'), .int (jI tw1')])), (ts, .inl (cA, 400, .inl (jA tf)))]) ⟨hx, hb, hml, hown, hts⟩ (c_XB_tellGrade l dC dI cA _ ba bt bp bl bh bq br bd bg bf r (by first | assumption | omega) (by first | assumption | omega)) (cwV 1 hts (jG_V tw_219 tw_220 tw_221 tw_5 tw_222) rfl rfl rfl (by decide +kernel) (by rw [hR]; exact ⟨Nat.le_of_ble_eq_true rfl, Nat.le_of_ble_eq_true rfl⟩)) hK hP hD hS hA hN [1] [0, 2, 3, 4, 5, 6, 7, 8] rfl rfl (by decide) (by decide) (by decide) 1 0 rfl rfl rfl rfl hl.1 rfl (Nat.le_of_ble_eq_true rfl) dXR_grade_36 (by rw [hR]; exact ⟨Nat.le_of_ble_eq_true rfl, Nat.le_of_ble_eq_true rfl⟩) (fun u3 H locs hw hP hD hS => ?_)
      subst hw
      have hP : va_P (dC, dI) vwCl [(rda, .inr (2, [.ref ta])), (bt, .inl (cA, 31, .inl (jA ft))), (bl, .inl (cA, 248, .inl (jA fl))), (bh, .inl (cA, 248, .inl (jA fh))), (bq, .inl (cA, 124, .inl (jA fq))), (br, .inl (cA, 31, .inl (jA fr))), (ta, .inr (3, [.ref ts, .int (jI tn), .int (jI tp1'), .int (jI tw1')])), (ts, .inl (cA, 400, .inl (jA tf))), (ba, .inr (0, [.ref bt, .ref bp, .ref bl, .ref bh, .ref bq, .ref br, .ref bd, .int (jI (f_XB_tellGrade bg bf r)), .int (jI bf)]))] H := hP
      have hD : va_D A [(rda, .inr (2, [.ref ta])), (bt, .inl (cA, 31, .inl (jA ft))), (bl, .inl (cA, 248, .inl (jA fl))), (bh, .inl (cA, 248, .inl (jA fh))), (bq, .inl (cA, 124, .inl (jA fq))), (br, .inl (cA, 31, .inl (jA fr))), (ta, .inr (3, [.ref ts, .int (jI tn), .int (jI tp1'), .int (jI tw1')])), (ts, .inl (cA, 400, .inl (jA tf))), (ba, .inr (0, [.ref bt, .ref bp, .ref bl, .ref bh, .ref bq, .ref br, .ref bd, .int (jI (f_XB_tellGrade bg bf r)), .int (jI bf)]))] := hD
      have f4 := f_XB_tellGrade_b bg bf r (by first | assumption | omega) (by first | assumption | omega)
      refine lv_aload_n hx hb dXR_grade_39 rfl (lv_at hl 1 rfl) ?_
      refine lv_aload_n hx hb dXR_grade_40 rfl (lv_at hl 2 rfl) ?_
      refine lv_iload_n hx hb dXR_grade_41 rfl (lv_at hl 0 rfl) ?_
      refine jwVi (rest := []) (wr := [(bl, .inl (cA, 248, .inl (jA fl))), (bh, .inl (cA, 248, .inl (jA fh))), (bq, .inl (cA, 124, .inl (jA fq))), (br, .inl (cA, 31, .inl (jA fr)))]) ⟨hx, hb, hml, hown, hts⟩ (c_XR_parent l dC dI cA _ rda ta ts tn tp1' tw1' tf ba bt bp bl bh bq br bd (f_XB_tellGrade bg bf r) bf ft r (by first | assumption | omega) (by first | assumption | omega) (by first | assumption | omega) (by first | assumption | omega) (by first | assumption | omega)) (cwV 2 hts (jG_V tw_223 tw_225 ts_4 tw_3 tw_226) rfl rfl rfl (by decide +kernel) (by rw [hR]; exact ⟨Nat.le_of_ble_eq_true rfl, Nat.le_of_ble_eq_true rfl⟩)) hK hP hD hS hA hN [0, 6, 7, 8, 1] [2, 3, 4, 5] rfl rfl (by decide) (by decide) (by decide) 0 2 rfl rfl rfl rfl hl.1 rfl (Nat.le_of_ble_eq_true rfl) dXR_grade_42 (by rw [hR]; exact ⟨Nat.le_of_ble_eq_true rfl, Nat.le_of_ble_eq_true rfl⟩) (fun v9 u8 H locs hwb10 hP hD hS => ?_)
      obtain ⟨r5, tp1'6, tw1'7, ft1'⟩ := u8
      try dsimp only at hwb10
      obtain ⟨er, hwb10, f11, f12, f13⟩ := hwb10
      subst er
      have f11 : 0 ≤ r5 ∧ r5 ≤ 1 := f11
      have f12 : 0 ≤ tp1'6 ∧ tp1'6 ≤ tn := f12
      have f13 : ∀ i, 0 ≤ ft1' i ∧ ft1' i ≤ 30 := f13
      have hP : va_P (dC, dI) vwCl [(bl, .inl (cA, 248, .inl (jA fl))), (bh, .inl (cA, 248, .inl (jA fh))), (bq, .inl (cA, 124, .inl (jA fq))), (br, .inl (cA, 31, .inl (jA fr))), (rda, .inr (2, [.ref ta])), (ta, .inr (3, [.ref ts, .int (jI tn), .int (jI tp1'6), .int (jI tw1'7)])), (ts, .inl (cA, 400, .inl (jA tf))), (ba, .inr (0, [.ref bt, .ref bp, .ref bl, .ref bh, .ref bq, .ref br, .ref bd, .int (jI (f_XB_tellGrade bg bf r)), .int (jI bf)])), (bt, .inl (cA, 31, .inl (jA ft1')))] H := hP
      have hD : va_D A [(bl, .inl (cA, 248, .inl (jA fl))), (bh, .inl (cA, 248, .inl (jA fh))), (bq, .inl (cA, 124, .inl (jA fq))), (br, .inl (cA, 31, .inl (jA fr))), (rda, .inr (2, [.ref ta])), (ta, .inr (3, [.ref ts, .int (jI tn), .int (jI tp1'6), .int (jI tw1'7)])), (ts, .inl (cA, 400, .inl (jA tf))), (ba, .inr (0, [.ref bt, .ref bp, .ref bl, .ref bh, .ref bq, .ref br, .ref bd, .int (jI (f_XB_tellGrade bg bf r)), .int (jI bf)])), (bt, .inl (cA, 31, .inl (jA ft1')))] := hD
      refine ji_if_eq (tgt := 79) hx hb dXR_grade_45 (by decide) (by omega) (fun c45_ => ?_) (fun c45_ => ?_)
      · refine ji_iconst hx hb dXR_grade_79 ?_
        have hP9 := hP.sub (ws' := [(rda, .inr (2, [.ref ta])), (ta, .inr (3, [.ref ts, .int (jI tn), .int (jI tp1'6), .int (jI tw1'7)])), (ts, .inl (cA, 400, .inl (jA tf))), (ba, .inr (0, [.ref bt, .ref bp, .ref bl, .ref bh, .ref bq, .ref br, .ref bd, .int (jI (f_XB_tellGrade bg bf r)), .int (jI bf)])), (bt, .inl (cA, 31, .inl (jA ft1'))), (bl, .inl (cA, 248, .inl (jA fl))), (bh, .inl (cA, 248, .inl (jA fh))), (bq, .inl (cA, 124, .inl (jA fq))), (br, .inl (cA, 31, .inl (jA fr)))]) [4, 5, 6, 7, 8, 0, 1, 2, 3] rfl
        have hD9 := hD.sub (ws' := [(rda, .inr (2, [.ref ta])), (ta, .inr (3, [.ref ts, .int (jI tn), .int (jI tp1'6), .int (jI tw1'7)])), (ts, .inl (cA, 400, .inl (jA tf))), (ba, .inr (0, [.ref bt, .ref bp, .ref bl, .ref bh, .ref bq, .ref br, .ref bd, .int (jI (f_XB_tellGrade bg bf r)), .int (jI bf)])), (bt, .inl (cA, 31, .inl (jA ft1'))), (bl, .inl (cA, 248, .inl (jA fl))), (bh, .inl (cA, 248, .inl (jA fh))), (bq, .inl (cA, 124, .inl (jA fq))), (br, .inl (cA, 31, .inl (jA fr)))]) [4, 5, 6, 7, 8, 0, 1, 2, 3] (by decide) rfl
        subst hAe
        subst hQ
        exact W.zret (v := jI 0) hx hb hr (by first | decide | exact jz (by omega)) (fun t ht hW => ⟨⟨_, (0, tp1'6, tw1'7, ft1', fl, fh, fq, fr, f_XB_tellGrade bg bf r), rfl, ⟨rfl, Eq.trans (by rw [f_XR_grade_s]; rw [← hwb]; try dsimp only; rw [if_neg c13_, if_pos c23_]; rw [← hwb10]; try dsimp only; rw [if_pos c45_]; try rfl) rfl, show 0 ≤ 0 ∧ 0 ≤ 1 from by first | assumption | omega, show 0 ≤ tp1'6 ∧ tp1'6 ≤ tn from by first | assumption | omega, show ∀ i, 0 ≤ ft1' i ∧ ft1' i ≤ 30 from by first | assumption | omega, show ∀ i, 0 ≤ fl i ∧ fl i ≤ 100000 from by first | assumption | omega, show ∀ i, -1 ≤ fh i ∧ fh i ≤ 100000 from by first | assumption | omega, show ∀ i, -1 ≤ fq i ∧ fq i ≤ 999999 from by first | assumption | omega, show ∀ i, 0 ≤ fr i ∧ fr i < 2147483648 from by first | assumption | omega, show 0 ≤ (f_XB_tellGrade bg bf r) ∧ (f_XB_tellGrade bg bf r) < 2147483648 from by first | assumption | omega⟩, ⟨by rw [ht]; exact hP9, va_K.moved hW.alike hK, hD9⟩⟩, hS.F ht⟩) hS.2.2 dXR_grade_80
      · refine lv_aload_n hx hb dXR_grade_48 rfl (lv_at hl 1 rfl) ?_
        refine lv_aload_n hx hb dXR_grade_49 rfl (lv_at hl 2 rfl) ?_
        refine lv_iload_n hx hb dXR_grade_50 rfl (lv_at hl 0 rfl) ?_
        refine jwVi (rest := []) (wr := [(bq, .inl (cA, 124, .inl (jA fq))), (br, .inl (cA, 31, .inl (jA fr))), (bt, .inl (cA, 31, .inl (jA ft1')))]) ⟨hx, hb, hml, hown, hts⟩ (c_XR_spans l dC dI cA _ rda ta ts tn tp1'6 tw1'7 tf ba bt bp bl bh bq br bd (f_XB_tellGrade bg bf r) bf fl fh r (by first | assumption | omega) (by first | assumption | omega) (by first | assumption | omega) (by first | assumption | omega) (by first | assumption | omega) (by first | assumption | omega)) (cwV 2 hts (jG_V tw_231 tw_233 ts_5 tw_3 tw_234) rfl rfl rfl (by decide +kernel) (by rw [hR]; exact ⟨Nat.le_of_ble_eq_true rfl, Nat.le_of_ble_eq_true rfl⟩)) hK hP hD hS hA hN [4, 5, 6, 7, 0, 1] [2, 3, 8] rfl rfl (by decide) (by decide) (by decide) 4 2 rfl rfl rfl rfl hl.1 rfl (Nat.le_of_ble_eq_true rfl) dXR_grade_51 (by rw [hR]; exact ⟨Nat.le_of_ble_eq_true rfl, Nat.le_of_ble_eq_true rfl⟩) (fun v18 u17 H locs hwb19 hP hD hS => ?_)
        obtain ⟨r14, tp1'15, tw1'16, fl1', fh1'⟩ := u17
        try dsimp only at hwb19
        obtain ⟨er, hwb19, f20, f21, f22, f23⟩ := hwb19
        subst er
        have f20 : 0 ≤ r14 ∧ r14 ≤ 1 := f20
        have f21 : 0 ≤ tp1'15 ∧ tp1'15 ≤ tn := f21
        have f22 : ∀ i, 0 ≤ fl1' i ∧ fl1' i ≤ 100000 := f22
        have f23 : ∀ i, -1 ≤ fh1' i ∧ fh1' i ≤ 100000 := f23
        have hP : va_P (dC, dI) vwCl [(bq, .inl (cA, 124, .inl (jA fq))), (br, .inl (cA, 31, .inl (jA fr))), (bt, .inl (cA, 31, .inl (jA ft1'))), (rda, .inr (2, [.ref ta])), (ta, .inr (3, [.ref ts, .int (jI tn), .int (jI tp1'15), .int (jI tw1'16)])), (ts, .inl (cA, 400, .inl (jA tf))), (ba, .inr (0, [.ref bt, .ref bp, .ref bl, .ref bh, .ref bq, .ref br, .ref bd, .int (jI (f_XB_tellGrade bg bf r)), .int (jI bf)])), (bl, .inl (cA, 248, .inl (jA fl1'))), (bh, .inl (cA, 248, .inl (jA fh1')))] H := hP
        have hD : va_D A [(bq, .inl (cA, 124, .inl (jA fq))), (br, .inl (cA, 31, .inl (jA fr))), (bt, .inl (cA, 31, .inl (jA ft1'))), (rda, .inr (2, [.ref ta])), (ta, .inr (3, [.ref ts, .int (jI tn), .int (jI tp1'15), .int (jI tw1'16)])), (ts, .inl (cA, 400, .inl (jA tf))), (ba, .inr (0, [.ref bt, .ref bp, .ref bl, .ref bh, .ref bq, .ref br, .ref bd, .int (jI (f_XB_tellGrade bg bf r)), .int (jI bf)])), (bl, .inl (cA, 248, .inl (jA fl1'))), (bh, .inl (cA, 248, .inl (jA fh1')))] := hD
        refine ji_if_eq (tgt := 79) hx hb dXR_grade_54 (by decide) (by omega) (fun c54_ => ?_) (fun c54_ => ?_)
        · refine ji_iconst hx hb dXR_grade_79 ?_
          have hP9 := hP.sub (ws' := [(rda, .inr (2, [.ref ta])), (ta, .inr (3, [.ref ts, .int (jI tn), .int (jI tp1'15), .int (jI tw1'16)])), (ts, .inl (cA, 400, .inl (jA tf))), (ba, .inr (0, [.ref bt, .ref bp, .ref bl, .ref bh, .ref bq, .ref br, .ref bd, .int (jI (f_XB_tellGrade bg bf r)), .int (jI bf)])), (bt, .inl (cA, 31, .inl (jA ft1'))), (bl, .inl (cA, 248, .inl (jA fl1'))), (bh, .inl (cA, 248, .inl (jA fh1'))), (bq, .inl (cA, 124, .inl (jA fq))), (br, .inl (cA, 31, .inl (jA fr)))]) [3, 4, 5, 6, 2, 7, 8, 0, 1] rfl
          have hD9 := hD.sub (ws' := [(rda, .inr (2, [.ref ta])), (ta, .inr (3, [.ref ts, .int (jI tn), .int (jI tp1'15), .int (jI tw1'16)])), (ts, .inl (cA, 400, .inl (jA tf))), (ba, .inr (0, [.ref bt, .ref bp, .ref bl, .ref bh, .ref bq, .ref br, .ref bd, .int (jI (f_XB_tellGrade bg bf r)), .int (jI bf)])), (bt, .inl (cA, 31, .inl (jA ft1'))), (bl, .inl (cA, 248, .inl (jA fl1'))), (bh, .inl (cA, 248, .inl (jA fh1'))), (bq, .inl (cA, 124, .inl (jA fq))), (br, .inl (cA, 31, .inl (jA fr)))]) [3, 4, 5, 6, 2, 7, 8, 0, 1] (by decide) rfl
          subst hAe
          subst hQ
          exact W.zret (v := jI 0) hx hb hr (by first | decide | exact jz (by omega)) (fun t ht hW => ⟨⟨_, (0, tp1'15, tw1'16, ft1', fl1', fh1', fq, fr, f_XB_tellGrade bg bf r), rfl, ⟨rfl, Eq.trans (by rw [f_XR_grade_s]; rw [← hwb]; try dsimp only; rw [if_neg c13_, if_pos c23_]; rw [← hwb10]; try dsimp only; rw [if_neg c45_]; rw [← hwb19]; try dsimp only; rw [if_pos c54_]; try rfl) rfl, show 0 ≤ 0 ∧ 0 ≤ 1 from by first | assumption | omega, show 0 ≤ tp1'15 ∧ tp1'15 ≤ tn from by first | assumption | omega, show ∀ i, 0 ≤ ft1' i ∧ ft1' i ≤ 30 from by first | assumption | omega, show ∀ i, 0 ≤ fl1' i ∧ fl1' i ≤ 100000 from by first | assumption | omega, show ∀ i, -1 ≤ fh1' i ∧ fh1' i ≤ 100000 from by first | assumption | omega, show ∀ i, -1 ≤ fq i ∧ fq i ≤ 999999 from by first | assumption | omega, show ∀ i, 0 ≤ fr i ∧ fr i < 2147483648 from by first | assumption | omega, show 0 ≤ (f_XB_tellGrade bg bf r) ∧ (f_XB_tellGrade bg bf r) < 2147483648 from by first | assumption | omega⟩, ⟨by rw [ht]; exact hP9, va_K.moved hW.alike hK, hD9⟩⟩, hS.F ht⟩) hS.2.2 dXR_grade_80
        · refine lv_aload_n hx hb dXR_grade_57 rfl (lv_at hl 1 rfl) ?_
          refine lv_aload_n hx hb dXR_grade_58 rfl (lv_at hl 2 rfl) ?_
          refine lv_iload_n hx hb dXR_grade_59 rfl (lv_at hl 0 rfl) ?_
          refine jwVi (rest := []) (wr := [(bq, .inl (cA, 124, .inl (jA fq))), (bt, .inl (cA, 31, .inl (jA ft1'))), (bl, .inl (cA, 248, .inl (jA fl1'))), (bh, .inl (cA, 248, .inl (jA fh1')))]) ⟨hx, hb, hml, hown, hts⟩ (c_XR_routes l dC dI cA _ rda ta ts tn tp1'15 tw1'16 tf ba bt bp bl bh bq br bd (f_XB_tellGrade bg bf r) bf fr r (by first | assumption | omega) (by first | assumption | omega) (by first | assumption | omega) (by first | assumption | omega) (by first | assumption | omega)) (cwV 2 hts (jG_V tw_247 tw_249 ts_6 tw_3 tw_250) rfl rfl rfl (by decide +kernel) (by rw [hR]; exact ⟨Nat.le_of_ble_eq_true rfl, Nat.le_of_ble_eq_true rfl⟩)) hK hP hD hS hA hN [3, 4, 5, 6, 1] [0, 2, 7, 8] rfl rfl (by decide) (by decide) (by decide) 3 2 rfl rfl rfl rfl hl.1 rfl (Nat.le_of_ble_eq_true rfl) dXR_grade_60 (by rw [hR]; exact ⟨Nat.le_of_ble_eq_true rfl, Nat.le_of_ble_eq_true rfl⟩) (fun v28 u27 H locs hwb29 hP hD hS => ?_)
          obtain ⟨r24, tp1'25, tw1'26, fr1'⟩ := u27
          try dsimp only at hwb29
          obtain ⟨er, hwb29, f30, f31, f32⟩ := hwb29
          subst er
          have f30 : 0 ≤ r24 ∧ r24 ≤ 1 := f30
          have f31 : 0 ≤ tp1'25 ∧ tp1'25 ≤ tn := f31
          have f32 : ∀ i, 0 ≤ fr1' i ∧ fr1' i < 2147483648 := f32
          have hP : va_P (dC, dI) vwCl [(bq, .inl (cA, 124, .inl (jA fq))), (bt, .inl (cA, 31, .inl (jA ft1'))), (bl, .inl (cA, 248, .inl (jA fl1'))), (bh, .inl (cA, 248, .inl (jA fh1'))), (rda, .inr (2, [.ref ta])), (ta, .inr (3, [.ref ts, .int (jI tn), .int (jI tp1'25), .int (jI tw1'26)])), (ts, .inl (cA, 400, .inl (jA tf))), (ba, .inr (0, [.ref bt, .ref bp, .ref bl, .ref bh, .ref bq, .ref br, .ref bd, .int (jI (f_XB_tellGrade bg bf r)), .int (jI bf)])), (br, .inl (cA, 31, .inl (jA fr1')))] H := hP
          have hD : va_D A [(bq, .inl (cA, 124, .inl (jA fq))), (bt, .inl (cA, 31, .inl (jA ft1'))), (bl, .inl (cA, 248, .inl (jA fl1'))), (bh, .inl (cA, 248, .inl (jA fh1'))), (rda, .inr (2, [.ref ta])), (ta, .inr (3, [.ref ts, .int (jI tn), .int (jI tp1'25), .int (jI tw1'26)])), (ts, .inl (cA, 400, .inl (jA tf))), (ba, .inr (0, [.ref bt, .ref bp, .ref bl, .ref bh, .ref bq, .ref br, .ref bd, .int (jI (f_XB_tellGrade bg bf r)), .int (jI bf)])), (br, .inl (cA, 31, .inl (jA fr1')))] := hD
          refine ji_if_eq (tgt := 79) hx hb dXR_grade_63 (by decide) (by omega) (fun c63_ => ?_) (fun c63_ => ?_)
          · refine ji_iconst hx hb dXR_grade_79 ?_
            have hP9 := hP.sub (ws' := [(rda, .inr (2, [.ref ta])), (ta, .inr (3, [.ref ts, .int (jI tn), .int (jI tp1'25), .int (jI tw1'26)])), (ts, .inl (cA, 400, .inl (jA tf))), (ba, .inr (0, [.ref bt, .ref bp, .ref bl, .ref bh, .ref bq, .ref br, .ref bd, .int (jI (f_XB_tellGrade bg bf r)), .int (jI bf)])), (bt, .inl (cA, 31, .inl (jA ft1'))), (bl, .inl (cA, 248, .inl (jA fl1'))), (bh, .inl (cA, 248, .inl (jA fh1'))), (bq, .inl (cA, 124, .inl (jA fq))), (br, .inl (cA, 31, .inl (jA fr1')))]) [4, 5, 6, 7, 1, 2, 3, 0, 8] rfl
            have hD9 := hD.sub (ws' := [(rda, .inr (2, [.ref ta])), (ta, .inr (3, [.ref ts, .int (jI tn), .int (jI tp1'25), .int (jI tw1'26)])), (ts, .inl (cA, 400, .inl (jA tf))), (ba, .inr (0, [.ref bt, .ref bp, .ref bl, .ref bh, .ref bq, .ref br, .ref bd, .int (jI (f_XB_tellGrade bg bf r)), .int (jI bf)])), (bt, .inl (cA, 31, .inl (jA ft1'))), (bl, .inl (cA, 248, .inl (jA fl1'))), (bh, .inl (cA, 248, .inl (jA fh1'))), (bq, .inl (cA, 124, .inl (jA fq))), (br, .inl (cA, 31, .inl (jA fr1')))]) [4, 5, 6, 7, 1, 2, 3, 0, 8] (by decide) rfl
            subst hAe
            subst hQ
            exact W.zret (v := jI 0) hx hb hr (by first | decide | exact jz (by omega)) (fun t ht hW => ⟨⟨_, (0, tp1'25, tw1'26, ft1', fl1', fh1', fq, fr1', f_XB_tellGrade bg bf r), rfl, ⟨rfl, Eq.trans (by rw [f_XR_grade_s]; rw [← hwb]; try dsimp only; rw [if_neg c13_, if_pos c23_]; rw [← hwb10]; try dsimp only; rw [if_neg c45_]; rw [← hwb19]; try dsimp only; rw [if_neg c54_]; rw [← hwb29]; try dsimp only; rw [if_pos c63_]; try rfl) rfl, show 0 ≤ 0 ∧ 0 ≤ 1 from by first | assumption | omega, show 0 ≤ tp1'25 ∧ tp1'25 ≤ tn from by first | assumption | omega, show ∀ i, 0 ≤ ft1' i ∧ ft1' i ≤ 30 from by first | assumption | omega, show ∀ i, 0 ≤ fl1' i ∧ fl1' i ≤ 100000 from by first | assumption | omega, show ∀ i, -1 ≤ fh1' i ∧ fh1' i ≤ 100000 from by first | assumption | omega, show ∀ i, -1 ≤ fq i ∧ fq i ≤ 999999 from by first | assumption | omega, show ∀ i, 0 ≤ fr1' i ∧ fr1' i < 2147483648 from by first | assumption | omega, show 0 ≤ (f_XB_tellGrade bg bf r) ∧ (f_XB_tellGrade bg bf r) < 2147483648 from by first | assumption | omega⟩, ⟨by rw [ht]; exact hP9, va_K.moved hW.alike hK, hD9⟩⟩, hS.F ht⟩) hS.2.2 dXR_grade_80
          · refine lv_aload_n hx hb dXR_grade_66 rfl (lv_at hl 1 rfl) ?_
            refine lv_aload_n hx hb dXR_grade_67 rfl (lv_at hl 2 rfl) ?_
            refine lv_iload_n hx hb dXR_grade_68 rfl (lv_at hl 0 rfl) ?_
            refine jwVi (rest := []) (wr := [(bt, .inl (cA, 31, .inl (jA ft1'))), (bl, .inl (cA, 248, .inl (jA fl1'))), (bh, .inl (cA, 248, .inl (jA fh1'))), (br, .inl (cA, 31, .inl (jA fr1')))]) ⟨hx, hb, hml, hown, hts⟩ (c_XR_limits l dC dI cA _ rda ta ts tn tp1'25 tw1'26 tf ba bt bp bl bh bq br bd (f_XB_tellGrade bg bf r) bf fq r (by first | assumption | omega) (by first | assumption | omega) (by first | assumption | omega) (by first | assumption | omega) (by first | assumption | omega)) (cwV 2 hts (jG_V tw_256 tw_258 ts_7 tw_3 tw_259) rfl rfl rfl (by decide +kernel) (by rw [hR]; exact ⟨Nat.le_of_ble_eq_true rfl, Nat.le_of_ble_eq_true rfl⟩)) hK hP hD hS hA hN [4, 5, 6, 7, 0] [1, 2, 3, 8] rfl rfl (by decide) (by decide) (by decide) 4 2 rfl rfl rfl rfl hl.1 rfl (Nat.le_of_ble_eq_true rfl) dXR_grade_69 (by rw [hR]; exact ⟨Nat.le_of_ble_eq_true rfl, Nat.le_of_ble_eq_true rfl⟩) (fun v37 u36 H locs hwb38 hP hD hS => ?_)
            obtain ⟨r33, tp1'34, tw1'35, fq1'⟩ := u36
            try dsimp only at hwb38
            obtain ⟨er, hwb38, f39, f40, f41⟩ := hwb38
            subst er
            have f39 : 0 ≤ r33 ∧ r33 ≤ 1 := f39
            have f40 : 0 ≤ tp1'34 ∧ tp1'34 ≤ tn := f40
            have f41 : ∀ i, -1 ≤ fq1' i ∧ fq1' i ≤ 999999 := f41
            have hP : va_P (dC, dI) vwCl [(bt, .inl (cA, 31, .inl (jA ft1'))), (bl, .inl (cA, 248, .inl (jA fl1'))), (bh, .inl (cA, 248, .inl (jA fh1'))), (br, .inl (cA, 31, .inl (jA fr1'))), (rda, .inr (2, [.ref ta])), (ta, .inr (3, [.ref ts, .int (jI tn), .int (jI tp1'34), .int (jI tw1'35)])), (ts, .inl (cA, 400, .inl (jA tf))), (ba, .inr (0, [.ref bt, .ref bp, .ref bl, .ref bh, .ref bq, .ref br, .ref bd, .int (jI (f_XB_tellGrade bg bf r)), .int (jI bf)])), (bq, .inl (cA, 124, .inl (jA fq1')))] H := hP
            have hD : va_D A [(bt, .inl (cA, 31, .inl (jA ft1'))), (bl, .inl (cA, 248, .inl (jA fl1'))), (bh, .inl (cA, 248, .inl (jA fh1'))), (br, .inl (cA, 31, .inl (jA fr1'))), (rda, .inr (2, [.ref ta])), (ta, .inr (3, [.ref ts, .int (jI tn), .int (jI tp1'34), .int (jI tw1'35)])), (ts, .inl (cA, 400, .inl (jA tf))), (ba, .inr (0, [.ref bt, .ref bp, .ref bl, .ref bh, .ref bq, .ref br, .ref bd, .int (jI (f_XB_tellGrade bg bf r)), .int (jI bf)])), (bq, .inl (cA, 124, .inl (jA fq1')))] := hD
            refine ji_if_eq (tgt := 79) hx hb dXR_grade_72 (by decide) (by omega) (fun c72_ => ?_) (fun c72_ => ?_)
            · refine ji_iconst hx hb dXR_grade_79 ?_
              have hP9 := hP.sub (ws' := [(rda, .inr (2, [.ref ta])), (ta, .inr (3, [.ref ts, .int (jI tn), .int (jI tp1'34), .int (jI tw1'35)])), (ts, .inl (cA, 400, .inl (jA tf))), (ba, .inr (0, [.ref bt, .ref bp, .ref bl, .ref bh, .ref bq, .ref br, .ref bd, .int (jI (f_XB_tellGrade bg bf r)), .int (jI bf)])), (bt, .inl (cA, 31, .inl (jA ft1'))), (bl, .inl (cA, 248, .inl (jA fl1'))), (bh, .inl (cA, 248, .inl (jA fh1'))), (bq, .inl (cA, 124, .inl (jA fq1'))), (br, .inl (cA, 31, .inl (jA fr1')))]) [4, 5, 6, 7, 0, 1, 2, 8, 3] rfl
              have hD9 := hD.sub (ws' := [(rda, .inr (2, [.ref ta])), (ta, .inr (3, [.ref ts, .int (jI tn), .int (jI tp1'34), .int (jI tw1'35)])), (ts, .inl (cA, 400, .inl (jA tf))), (ba, .inr (0, [.ref bt, .ref bp, .ref bl, .ref bh, .ref bq, .ref br, .ref bd, .int (jI (f_XB_tellGrade bg bf r)), .int (jI bf)])), (bt, .inl (cA, 31, .inl (jA ft1'))), (bl, .inl (cA, 248, .inl (jA fl1'))), (bh, .inl (cA, 248, .inl (jA fh1'))), (bq, .inl (cA, 124, .inl (jA fq1'))), (br, .inl (cA, 31, .inl (jA fr1')))]) [4, 5, 6, 7, 0, 1, 2, 8, 3] (by decide) rfl
              subst hAe
              subst hQ
              exact W.zret (v := jI 0) hx hb hr (by first | decide | exact jz (by omega)) (fun t ht hW => ⟨⟨_, (0, tp1'34, tw1'35, ft1', fl1', fh1', fq1', fr1', f_XB_tellGrade bg bf r), rfl, ⟨rfl, Eq.trans (by rw [f_XR_grade_s]; rw [← hwb]; try dsimp only; rw [if_neg c13_, if_pos c23_]; rw [← hwb10]; try dsimp only; rw [if_neg c45_]; rw [← hwb19]; try dsimp only; rw [if_neg c54_]; rw [← hwb29]; try dsimp only; rw [if_neg c63_]; rw [← hwb38]; try dsimp only; rw [if_pos c72_]; try rfl) rfl, show 0 ≤ 0 ∧ 0 ≤ 1 from by first | assumption | omega, show 0 ≤ tp1'34 ∧ tp1'34 ≤ tn from by first | assumption | omega, show ∀ i, 0 ≤ ft1' i ∧ ft1' i ≤ 30 from by first | assumption | omega, show ∀ i, 0 ≤ fl1' i ∧ fl1' i ≤ 100000 from by first | assumption | omega, show ∀ i, -1 ≤ fh1' i ∧ fh1' i ≤ 100000 from by first | assumption | omega, show ∀ i, -1 ≤ fq1' i ∧ fq1' i ≤ 999999 from by first | assumption | omega, show ∀ i, 0 ≤ fr1' i ∧ fr1' i < 2147483648 from by first | assumption | omega, show 0 ≤ (f_XB_tellGrade bg bf r) ∧ (f_XB_tellGrade bg bf r) < 2147483648 from by first | assumption | omega⟩, ⟨by rw [ht]; exact hP9, va_K.moved hW.alike hK, hD9⟩⟩, hS.F ht⟩) hS.2.2 dXR_grade_80
            · refine ji_iconst hx hb dXR_grade_75 ?_
              refine lv_goto (tgt := 80) hx hb dXR_grade_76 (by decide) ?_
              have hP9 := hP.sub (ws' := [(rda, .inr (2, [.ref ta])), (ta, .inr (3, [.ref ts, .int (jI tn), .int (jI tp1'34), .int (jI tw1'35)])), (ts, .inl (cA, 400, .inl (jA tf))), (ba, .inr (0, [.ref bt, .ref bp, .ref bl, .ref bh, .ref bq, .ref br, .ref bd, .int (jI (f_XB_tellGrade bg bf r)), .int (jI bf)])), (bt, .inl (cA, 31, .inl (jA ft1'))), (bl, .inl (cA, 248, .inl (jA fl1'))), (bh, .inl (cA, 248, .inl (jA fh1'))), (bq, .inl (cA, 124, .inl (jA fq1'))), (br, .inl (cA, 31, .inl (jA fr1')))]) [4, 5, 6, 7, 0, 1, 2, 8, 3] rfl
              have hD9 := hD.sub (ws' := [(rda, .inr (2, [.ref ta])), (ta, .inr (3, [.ref ts, .int (jI tn), .int (jI tp1'34), .int (jI tw1'35)])), (ts, .inl (cA, 400, .inl (jA tf))), (ba, .inr (0, [.ref bt, .ref bp, .ref bl, .ref bh, .ref bq, .ref br, .ref bd, .int (jI (f_XB_tellGrade bg bf r)), .int (jI bf)])), (bt, .inl (cA, 31, .inl (jA ft1'))), (bl, .inl (cA, 248, .inl (jA fl1'))), (bh, .inl (cA, 248, .inl (jA fh1'))), (bq, .inl (cA, 124, .inl (jA fq1'))), (br, .inl (cA, 31, .inl (jA fr1')))]) [4, 5, 6, 7, 0, 1, 2, 8, 3] (by decide) rfl
              subst hAe
              subst hQ
              exact W.zret (v := jI 1) hx hb hr (by first | decide | exact jz (by omega)) (fun t ht hW => ⟨⟨_, (1, tp1'34, tw1'35, ft1', fl1', fh1', fq1', fr1', f_XB_tellGrade bg bf r), rfl, ⟨rfl, Eq.trans (by rw [f_XR_grade_s]; rw [← hwb]; try dsimp only; rw [if_neg c13_, if_pos c23_]; rw [← hwb10]; try dsimp only; rw [if_neg c45_]; rw [← hwb19]; try dsimp only; rw [if_neg c54_]; rw [← hwb29]; try dsimp only; rw [if_neg c63_]; rw [← hwb38]; try dsimp only; rw [if_neg c72_]; try rfl) rfl, show 0 ≤ 1 ∧ 1 ≤ 1 from by first | assumption | omega, show 0 ≤ tp1'34 ∧ tp1'34 ≤ tn from by first | assumption | omega, show ∀ i, 0 ≤ ft1' i ∧ ft1' i ≤ 30 from by first | assumption | omega, show ∀ i, 0 ≤ fl1' i ∧ fl1' i ≤ 100000 from by first | assumption | omega, show ∀ i, -1 ≤ fh1' i ∧ fh1' i ≤ 100000 from by first | assumption | omega, show ∀ i, -1 ≤ fq1' i ∧ fq1' i ≤ 999999 from by first | assumption | omega, show ∀ i, 0 ≤ fr1' i ∧ fr1' i < 2147483648 from by first | assumption | omega, show 0 ≤ (f_XB_tellGrade bg bf r) ∧ (f_XB_tellGrade bg bf r) < 2147483648 from by first | assumption | omega⟩, ⟨by rw [ht]; exact hP9, va_K.moved hW.alike hK, hD9⟩⟩, hS.F ht⟩) hS.2.2 dXR_grade_80
    · refine lv_aload_n hx hb dXR_grade_26 rfl (lv_at hl 1 rfl) ?_
      refine va_get (D := (dC, dI)) (ci := 2) (v := .ref ta) (C := RXR) (T := TXR) (N := 1) hx hb hts (fun w h => jmem (inXR w h)) hown hK hP 0 rfl rfl 0 (by decide) (hts _ (jmem tw_50)) (fun _ h9 => h9) rfl dXR_grade_27 ?_
      refine jwVi (rest := []) (wr := [(rda, .inr (2, [.ref ta])), (ba, .inr (0, [.ref bt, .ref bp, .ref bl, .ref bh, .ref bq, .ref br, .ref bd, .int (jI bg), .int (jI bf)])), (bt, .inl (cA, 31, .inl (jA ft))), (bl, .inl (cA, 248, .inl (jA fl))), (bh, .inl (cA, 248, .inl (jA fh))), (bq, .inl (cA, 124, .inl (jA fq))), (br, .inl (cA, 31, .inl (jA fr)))]) ⟨hx, hb, hml, hown, hts⟩ (c_XT_refuseLast l dC dI cA _ ta ts tn tp1' tw1' tf) (cwV 0 hts (jG_V tw_174 tw_175 tw_176 tw_2 tw_177) rfl rfl rfl (by decide +kernel) (by rw [hR]; exact ⟨Nat.le_of_ble_eq_true rfl, Nat.le_of_ble_eq_true rfl⟩)) hK hP hD hS hA hN [7, 8] [0, 1, 2, 3, 4, 5, 6] rfl rfl (by decide) (by decide) (by decide) 7 3 rfl rfl rfl rfl hl.1 rfl (Nat.le_of_ble_eq_true rfl) dXR_grade_30 (by rw [hR]; exact ⟨Nat.le_of_ble_eq_true rfl, Nat.le_of_ble_eq_true rfl⟩) (fun v45 u44 H locs hwb46 hP hD hS => ?_)
      obtain ⟨r42, tw1'43⟩ := u44
      try dsimp only at hwb46
      obtain ⟨er, hwb46⟩ := hwb46
      subst er
      have hP : va_P (dC, dI) vwCl [(rda, .inr (2, [.ref ta])), (ba, .inr (0, [.ref bt, .ref bp, .ref bl, .ref bh, .ref bq, .ref br, .ref bd, .int (jI bg), .int (jI bf)])), (bt, .inl (cA, 31, .inl (jA ft))), (bl, .inl (cA, 248, .inl (jA fl))), (bh, .inl (cA, 248, .inl (jA fh))), (bq, .inl (cA, 124, .inl (jA fq))), (br, .inl (cA, 31, .inl (jA fr))), (ta, .inr (3, [.ref ts, .int (jI tn), .int (jI tp1'), .int (jI tw1'43)])), (ts, .inl (cA, 400, .inl (jA tf)))] H := hP
      have hD : va_D A [(rda, .inr (2, [.ref ta])), (ba, .inr (0, [.ref bt, .ref bp, .ref bl, .ref bh, .ref bq, .ref br, .ref bd, .int (jI bg), .int (jI bf)])), (bt, .inl (cA, 31, .inl (jA ft))), (bl, .inl (cA, 248, .inl (jA fl))), (bh, .inl (cA, 248, .inl (jA fh))), (bq, .inl (cA, 124, .inl (jA fq))), (br, .inl (cA, 31, .inl (jA fr))), (ta, .inr (3, [.ref ts, .int (jI tn), .int (jI tp1'), .int (jI tw1'43)])), (ts, .inl (cA, 400, .inl (jA tf)))] := hD
      have f47 := f_XT_refuseLast_b tn tp1' tw1' tf
      rw [← hwb46] at f47; try dsimp only at f47
      have hP9 := hP.sub (ws' := [(rda, .inr (2, [.ref ta])), (ta, .inr (3, [.ref ts, .int (jI tn), .int (jI tp1'), .int (jI tw1'43)])), (ts, .inl (cA, 400, .inl (jA tf))), (ba, .inr (0, [.ref bt, .ref bp, .ref bl, .ref bh, .ref bq, .ref br, .ref bd, .int (jI bg), .int (jI bf)])), (bt, .inl (cA, 31, .inl (jA ft))), (bl, .inl (cA, 248, .inl (jA fl))), (bh, .inl (cA, 248, .inl (jA fh))), (bq, .inl (cA, 124, .inl (jA fq))), (br, .inl (cA, 31, .inl (jA fr)))]) [0, 7, 8, 1, 2, 3, 4, 5, 6] rfl
      have hD9 := hD.sub (ws' := [(rda, .inr (2, [.ref ta])), (ta, .inr (3, [.ref ts, .int (jI tn), .int (jI tp1'), .int (jI tw1'43)])), (ts, .inl (cA, 400, .inl (jA tf))), (ba, .inr (0, [.ref bt, .ref bp, .ref bl, .ref bh, .ref bq, .ref br, .ref bd, .int (jI bg), .int (jI bf)])), (bt, .inl (cA, 31, .inl (jA ft))), (bl, .inl (cA, 248, .inl (jA fl))), (bh, .inl (cA, 248, .inl (jA fh))), (bq, .inl (cA, 124, .inl (jA fq))), (br, .inl (cA, 31, .inl (jA fr)))]) [0, 7, 8, 1, 2, 3, 4, 5, 6] (by decide) rfl
      subst hAe
      subst hQ
      exact W.zret (v := jI r42) hx hb hr (by first | decide | exact jz (by omega)) (fun t ht hW => ⟨⟨_, (r42, tp1', tw1'43, ft, fl, fh, fq, fr, bg), rfl, ⟨rfl, Eq.trans (by rw [f_XR_grade_s]; rw [← hwb]; try dsimp only; rw [if_neg c13_, if_neg c23_]; rw [← hwb46]; try dsimp only; try rfl) rfl, show 0 ≤ r42 ∧ r42 ≤ 1 from by first | assumption | omega, show 0 ≤ tp1' ∧ tp1' ≤ tn from by first | assumption | omega, show ∀ i, 0 ≤ ft i ∧ ft i ≤ 30 from by first | assumption | omega, show ∀ i, 0 ≤ fl i ∧ fl i ≤ 100000 from by first | assumption | omega, show ∀ i, -1 ≤ fh i ∧ fh i ≤ 100000 from by first | assumption | omega, show ∀ i, -1 ≤ fq i ∧ fq i ≤ 999999 from by first | assumption | omega, show ∀ i, 0 ≤ fr i ∧ fr i < 2147483648 from by first | assumption | omega, show 0 ≤ bg ∧ bg < 2147483648 from by first | assumption | omega⟩, ⟨by rw [ht]; exact hP9, va_K.moved hW.alike hK, hD9⟩⟩, hS.F ht⟩) hS.2.2 dXR_grade_33
  · refine ji_iconst hx hb dXR_grade_16 ?_
    have hP9 := hP.sub (ws' := [(rda, .inr (2, [.ref ta])), (ta, .inr (3, [.ref ts, .int (jI tn), .int (jI tp1'), .int (jI tw1')])), (ts, .inl (cA, 400, .inl (jA tf))), (ba, .inr (0, [.ref bt, .ref bp, .ref bl, .ref bh, .ref bq, .ref br, .ref bd, .int (jI bg), .int (jI bf)])), (bt, .inl (cA, 31, .inl (jA ft))), (bl, .inl (cA, 248, .inl (jA fl))), (bh, .inl (cA, 248, .inl (jA fh))), (bq, .inl (cA, 124, .inl (jA fq))), (br, .inl (cA, 31, .inl (jA fr)))]) [0, 7, 8, 1, 2, 3, 4, 5, 6] rfl
    have hD9 := hD.sub (ws' := [(rda, .inr (2, [.ref ta])), (ta, .inr (3, [.ref ts, .int (jI tn), .int (jI tp1'), .int (jI tw1')])), (ts, .inl (cA, 400, .inl (jA tf))), (ba, .inr (0, [.ref bt, .ref bp, .ref bl, .ref bh, .ref bq, .ref br, .ref bd, .int (jI bg), .int (jI bf)])), (bt, .inl (cA, 31, .inl (jA ft))), (bl, .inl (cA, 248, .inl (jA fl))), (bh, .inl (cA, 248, .inl (jA fh))), (bq, .inl (cA, 124, .inl (jA fq))), (br, .inl (cA, 31, .inl (jA fr)))]) [0, 7, 8, 1, 2, 3, 4, 5, 6] (by decide) rfl
    subst hAe
    subst hQ
    exact W.zret (v := jI 0) hx hb hr (by first | decide | exact jz (by omega)) (fun t ht hW => ⟨⟨_, (0, tp1', tw1', ft, fl, fh, fq, fr, bg), rfl, ⟨rfl, Eq.trans (by rw [f_XR_grade_s]; rw [← hwb]; try dsimp only; rw [if_pos c13_]; try rfl) rfl, show 0 ≤ 0 ∧ 0 ≤ 1 from by first | assumption | omega, show 0 ≤ tp1' ∧ tp1' ≤ tn from by first | assumption | omega, show ∀ i, 0 ≤ ft i ∧ ft i ≤ 30 from by first | assumption | omega, show ∀ i, 0 ≤ fl i ∧ fl i ≤ 100000 from by first | assumption | omega, show ∀ i, -1 ≤ fh i ∧ fh i ≤ 100000 from by first | assumption | omega, show ∀ i, -1 ≤ fq i ∧ fq i ≤ 999999 from by first | assumption | omega, show ∀ i, 0 ≤ fr i ∧ fr i < 2147483648 from by first | assumption | omega, show 0 ≤ bg ∧ bg < 2147483648 from by first | assumption | omega⟩, ⟨by rw [ht]; exact hP9, va_K.moved hW.alike hK, hD9⟩⟩, hS.F ht⟩) hS.2.2 dXR_grade_17
noncomputable def g_XR_row (tn : Int) (tp : Int) (tw : Int) (tf : Int → Int) (bg : Int) (bf : Int) (ft : Int → Int) (fl : Int → Int) (fh : Int → Int) (fq : Int → Int) (fr : Int → Int) (fd : Int → Int) : Int × Int × Int × (Int → Int) × (Int → Int) × (Int → Int) × (Int → Int) × (Int → Int) × (Int → Int) × Int × Int :=
  match f_XT_skipIf tn tp tw tf 101 with
  | (r, tp1') =>
    if r = 0 then
      match f_XT_skipIf tn tp1' tw tf 103 with
      | (r1, tp1'2) =>
        if r1 = 0 then
          match f_XT_refuse tn tp1'2 tw tf with
          | (r7, tw1') =>
            (r7, tp1'2, tw1', ft, fl, fh, fq, fr, fd, bg, bf)
        else
          match f_XR_grade tn tp1'2 tw tf bg bf ft fl fh fq fr with
          | (r12, tp1'13, tw1'14, ft1', fl1', fh1', fq1', fr1', bg1') =>
            if r12 = 0 then
              (0, tp1'13, tw1'14, ft1', fl1', fh1', fq1', fr1', fd, bg1', bf)
            else
              match f_XT_take tn tp1'13 tw1'14 tf 59 with
              | (r26, tp1'27, tw1'28) =>
                if r26 = 0 then
                  (0, tp1'27, tw1'28, ft1', fl1', fh1', fq1', fr1', fd, bg1', bf)
                else
                  (1, tp1'27, tw1'28, ft1', fl1', fh1', fq1', fr1', fd, bg1', bf)
    else
      match f_XR_formula tn tp1' tw tf bg bf fd with
      | (r33, tp1'34, tw1'35, fd1', bf1') =>
        if r33 = 0 then
          (0, tp1'34, tw1'35, ft, fl, fh, fq, fr, fd1', bg, bf1')
        else
          match f_XT_take tn tp1'34 tw1'35 tf 59 with
          | (r43, tp1'44, tw1'45) =>
            if r43 = 0 then
              (0, tp1'44, tw1'45, ft, fl, fh, fq, fr, fd1', bg, bf1')
            else
              (1, tp1'44, tw1'45, ft, fl, fh, fq, fr, fd1', bg, bf1')
noncomputable def f_XR_row : Int → Int → Int → (Int → Int) → Int → Int → (Int → Int) → (Int → Int) → (Int → Int) → (Int → Int) → (Int → Int) → (Int → Int) → Int × Int × Int × (Int → Int) × (Int → Int) × (Int → Int) × (Int → Int) × (Int → Int) × (Int → Int) × Int × Int := jopq g_XR_row
theorem f_XR_row_q : f_XR_row = g_XR_row := jopq_eq _
theorem f_XR_row_s (tn : Int) (tp : Int) (tw : Int) (tf : Int → Int) (bg : Int) (bf : Int) (ft : Int → Int) (fl : Int → Int) (fh : Int → Int) (fq : Int → Int) (fr : Int → Int) (fd : Int → Int) : f_XR_row tn tp tw tf bg bf ft fl fh fq fr fd = (
    match f_XT_skipIf tn tp tw tf 101 with
    | (r, tp1') =>
      if r = 0 then
        match f_XT_skipIf tn tp1' tw tf 103 with
        | (r1, tp1'2) =>
          if r1 = 0 then
            match f_XT_refuse tn tp1'2 tw tf with
            | (r7, tw1') =>
              (r7, tp1'2, tw1', ft, fl, fh, fq, fr, fd, bg, bf)
          else
            match f_XR_grade tn tp1'2 tw tf bg bf ft fl fh fq fr with
            | (r12, tp1'13, tw1'14, ft1', fl1', fh1', fq1', fr1', bg1') =>
              if r12 = 0 then
                (0, tp1'13, tw1'14, ft1', fl1', fh1', fq1', fr1', fd, bg1', bf)
              else
                match f_XT_take tn tp1'13 tw1'14 tf 59 with
                | (r26, tp1'27, tw1'28) =>
                  if r26 = 0 then
                    (0, tp1'27, tw1'28, ft1', fl1', fh1', fq1', fr1', fd, bg1', bf)
                  else
                    (1, tp1'27, tw1'28, ft1', fl1', fh1', fq1', fr1', fd, bg1', bf)
      else
        match f_XR_formula tn tp1' tw tf bg bf fd with
        | (r33, tp1'34, tw1'35, fd1', bf1') =>
          if r33 = 0 then
            (0, tp1'34, tw1'35, ft, fl, fh, fq, fr, fd1', bg, bf1')
          else
            match f_XT_take tn tp1'34 tw1'35 tf 59 with
            | (r43, tp1'44, tw1'45) =>
              if r43 = 0 then
                (0, tp1'44, tw1'45, ft, fl, fh, fq, fr, fd1', bg, bf1')
              else
                (1, tp1'44, tw1'45, ft, fl, fh, fq, fr, fd1', bg, bf1')
  ) := by rw [f_XR_row_q]; rfl
set_option maxHeartbeats 4000000 in
set_option maxRecDepth 100000 in
theorem c_XR_row (l : Launch) (dC : Nat → ClassId) (dI : Nat → Nat → Nat) (cA : ClassId) (sz : Nat) (rda : Nat) (ta : Nat) (ts : Nat) (tn : Int) (tp : Int) (tw : Int) (tf : Int → Int) (ba : Nat) (bt : Nat) (bp : Nat) (bl : Nat) (bh : Nat) (bq : Nat) (br : Nat) (bd : Nat) (bg : Int) (bf : Int) (ft : Int → Int) (fl : Int → Int) (fh : Int → Int) (fq : Int → Int) (fr : Int → Int) (fd : Int → Int) (hn : 0 ≤ tn ∧ tn ≤ 400) (hp : 0 ≤ tp ∧ tp ≤ tn) (hf : ∀ i, 0 ≤ tf i ∧ tf i < 256) (hbt : ∀ i, 0 ≤ ft i ∧ ft i ≤ 30) (hbl : ∀ i, 0 ≤ fl i ∧ fl i ≤ 100000) (hbh : ∀ i, -1 ≤ fh i ∧ fh i ≤ 100000) (hbq : ∀ i, -1 ≤ fq i ∧ fq i ≤ 999999) (hbr : ∀ i, 0 ≤ fr i ∧ fr i < 2147483648) (hbd : ∀ i, 0 ≤ fd i ∧ fd i ≤ 20) (hbg : 0 ≤ bg ∧ bg < 2147483648) (hbf : 0 ≤ bf ∧ bf < 2147483648) : Met l yXR_row (Cond.code yXR_row cXR_row 2 (some .boolean) :: TBL) ({ frames := 4, cells := 0, slots := 0, locals := 92 } : Room) (va_Pc [.ref rda, .ref ba] (jBw (dC, dI) [(cA, .int)] [(rda, .inr (2, [.ref ta])), (ta, .inr (3, [.ref ts, .int (jI tn), .int (jI tp), .int (jI tw)])), (ts, .inl (cA, 400, .inl (jA tf))), (ba, .inr (0, [.ref bt, .ref bp, .ref bl, .ref bh, .ref bq, .ref br, .ref bd, .int (jI bg), .int (jI bf)])), (bt, .inl (cA, 31, .inl (jA ft))), (bl, .inl (cA, 248, .inl (jA fl))), (bh, .inl (cA, 248, .inl (jA fh))), (bq, .inl (cA, 124, .inl (jA fq))), (br, .inl (cA, 31, .inl (jA fr))), (bd, .inl (cA, 32, .inl (jA fd)))] sz)) (va_Qi (fun (r : Int32) (u : Int × Int × Int × (Int → Int) × (Int → Int) × (Int → Int) × (Int → Int) × (Int → Int) × (Int → Int) × Int × Int) => r = jI u.1 ∧ u = f_XR_row tn tp tw tf bg bf ft fl fh fq fr fd ∧ (0 ≤ u.1 ∧ u.1 ≤ 1) ∧ (0 ≤ u.2.1 ∧ u.2.1 ≤ tn) ∧ (∀ i, 0 ≤ u.2.2.2.1 i ∧ u.2.2.2.1 i ≤ 30) ∧ (∀ i, 0 ≤ u.2.2.2.2.1 i ∧ u.2.2.2.2.1 i ≤ 100000) ∧ (∀ i, -1 ≤ u.2.2.2.2.2.1 i ∧ u.2.2.2.2.2.1 i ≤ 100000) ∧ (∀ i, -1 ≤ u.2.2.2.2.2.2.1 i ∧ u.2.2.2.2.2.2.1 i ≤ 999999) ∧ (∀ i, 0 ≤ u.2.2.2.2.2.2.2.1 i ∧ u.2.2.2.2.2.2.2.1 i < 2147483648) ∧ (∀ i, 0 ≤ u.2.2.2.2.2.2.2.2.1 i ∧ u.2.2.2.2.2.2.2.2.1 i ≤ 20) ∧ (0 ≤ u.2.2.2.2.2.2.2.2.2.1 ∧ u.2.2.2.2.2.2.2.2.2.1 < 2147483648) ∧ (0 ≤ u.2.2.2.2.2.2.2.2.2.2 ∧ u.2.2.2.2.2.2.2.2.2.2 < 2147483648)) (fun u t => jE (dC, dI) [(cA, .int)] [(rda, .inr (2, [.ref ta])), (ta, .inr (3, [.ref ts, .int (jI tn), .int (jI tp), .int (jI tw)])), (ts, .inl (cA, 400, .inl (jA tf))), (ba, .inr (0, [.ref bt, .ref bp, .ref bl, .ref bh, .ref bq, .ref br, .ref bd, .int (jI bg), .int (jI bf)])), (bt, .inl (cA, 31, .inl (jA ft))), (bl, .inl (cA, 248, .inl (jA fl))), (bh, .inl (cA, 248, .inl (jA fh))), (bq, .inl (cA, 124, .inl (jA fq))), (br, .inl (cA, 31, .inl (jA fr))), (bd, .inl (cA, 32, .inl (jA fd)))] sz [(rda, .inr (2, [.ref ta])), (ta, .inr (3, [.ref ts, .int (jI tn), .int (jI u.2.1), .int (jI u.2.2.1)])), (ts, .inl (cA, 400, .inl (jA tf))), (ba, .inr (0, [.ref bt, .ref bp, .ref bl, .ref bh, .ref bq, .ref br, .ref bd, .int (jI u.2.2.2.2.2.2.2.2.2.1), .int (jI u.2.2.2.2.2.2.2.2.2.2)])), (bt, .inl (cA, 31, .inl (jA u.2.2.2.1))), (bl, .inl (cA, 248, .inl (jA u.2.2.2.2.1))), (bh, .inl (cA, 248, .inl (jA u.2.2.2.2.2.1))), (bq, .inl (cA, 124, .inl (jA u.2.2.2.2.2.2.1))), (br, .inl (cA, 31, .inl (jA u.2.2.2.2.2.2.2.1))), (bd, .inl (cA, 32, .inl (jA u.2.2.2.2.2.2.2.2.1)))] t) (va_A [(rda, .inr (2, [.ref ta])), (ta, .inr (3, [.ref ts, .int (jI tn), .int (jI tp), .int (jI tw)])), (ts, .inl (cA, 400, .inl (jA tf))), (ba, .inr (0, [.ref bt, .ref bp, .ref bl, .ref bh, .ref bq, .ref br, .ref bd, .int (jI bg), .int (jI bf)])), (bt, .inl (cA, 31, .inl (jA ft))), (bl, .inl (cA, 248, .inl (jA fl))), (bh, .inl (cA, 248, .inl (jA fh))), (bq, .inl (cA, 124, .inl (jA fq))), (br, .inl (cA, 31, .inl (jA fr))), (bd, .inl (cA, 32, .inl (jA fd)))] sz)) 0 0 (va_A [(rda, .inr (2, [.ref ta])), (ta, .inr (3, [.ref ts, .int (jI tn), .int (jI tp), .int (jI tw)])), (ts, .inl (cA, 400, .inl (jA tf))), (ba, .inr (0, [.ref bt, .ref bp, .ref bl, .ref bh, .ref bq, .ref br, .ref bd, .int (jI bg), .int (jI bf)])), (bt, .inl (cA, 31, .inl (jA ft))), (bl, .inl (cA, 248, .inl (jA fl))), (bh, .inl (cA, 248, .inl (jA fh))), (bq, .inl (cA, 124, .inl (jA fq))), (br, .inl (cA, 31, .inl (jA fr))), (bd, .inl (cA, 32, .inl (jA fd)))] sz) := by
  refine jMet (cc := cXR_row) (maxL := 2) (ret := some .boolean) (by decide) rfl ?_
  intro p e s m args below meth c s₁ R Q hR hQ B hml hv
  obtain ⟨rfl, hsz, hP, hK, hD0, hN⟩ := hv
  have hx := B.exec
  have hb := B.bytes
  have hr := B.returns
  have hts := atoms_spec (ws := Cond.code yXR_row cXR_row 2 (some .boolean) :: TBL) B.pre
  have hown : s.vm.findClass RXR = some m.cls := findClass_of_methodNamed B.named
  have hlocks := B.notSynchronized
  subst hsz
  obtain ⟨A, hAe⟩ : ∃ A, A = va_A [(rda, .inr (2, [.ref ta])), (ta, .inr (3, [.ref ts, .int (jI tn), .int (jI tp), .int (jI tw)])), (ts, .inl (cA, 400, .inl (jA tf))), (ba, .inr (0, [.ref bt, .ref bp, .ref bl, .ref bh, .ref bq, .ref br, .ref bd, .int (jI bg), .int (jI bf)])), (bt, .inl (cA, 31, .inl (jA ft))), (bl, .inl (cA, 248, .inl (jA fl))), (bh, .inl (cA, 248, .inl (jA fh))), (bq, .inl (cA, 124, .inl (jA fq))), (br, .inl (cA, 31, .inl (jA fr))), (bd, .inl (cA, 32, .inl (jA fd)))] s.heap.size := ⟨_, rfl⟩
  have hD : va_D A [(rda, .inr (2, [.ref ta])), (ta, .inr (3, [.ref ts, .int (jI tn), .int (jI tp), .int (jI tw)])), (ts, .inl (cA, 400, .inl (jA tf))), (ba, .inr (0, [.ref bt, .ref bp, .ref bl, .ref bh, .ref bq, .ref br, .ref bd, .int (jI bg), .int (jI bf)])), (bt, .inl (cA, 31, .inl (jA ft))), (bl, .inl (cA, 248, .inl (jA fl))), (bh, .inl (cA, 248, .inl (jA fh))), (bq, .inl (cA, 124, .inl (jA fq))), (br, .inl (cA, 31, .inl (jA fr))), (bd, .inl (cA, 32, .inl (jA fd)))] := by rw [hAe]; exact hD0.self
  have hA : ∀ q : Nat, s.heap.size ≤ q → A q := fun q h => by rw [hAe]; exact Or.inr h
  have hS : va_S A s.heap s.heap [] := va_S.rf
  have hP : va_P (dC, dI) vwCl [(rda, .inr (2, [.ref ta])), (ta, .inr (3, [.ref ts, .int (jI tn), .int (jI tp), .int (jI tw)])), (ts, .inl (cA, 400, .inl (jA tf))), (ba, .inr (0, [.ref bt, .ref bp, .ref bl, .ref bh, .ref bq, .ref br, .ref bd, .int (jI bg), .int (jI bf)])), (bt, .inl (cA, 31, .inl (jA ft))), (bl, .inl (cA, 248, .inl (jA fl))), (bh, .inl (cA, 248, .inl (jA fh))), (bq, .inl (cA, 124, .inl (jA fq))), (br, .inl (cA, 31, .inl (jA fr))), (bd, .inl (cA, 32, .inl (jA fd)))] s.heap := hP
  have hl := lv_entry ([.ref rda, .ref ba]) (n := 2) (Nat.le_of_ble_eq_true rfl)
  rw [lg_entry_eq]
  generalize (lg_sl ([.ref rda, .ref ba]) ++ List.replicate (2 - (lg_sl ([.ref rda, .ref ba])).length) Slot.unset).toArray = ls at hl ⊢
  have hl : lv_has ls 2 [(0, .ref rda), (1, .ref ba)] := hl
  refine lv_aload_n hx hb dXR_row_0 rfl (lv_at hl 0 rfl) ?_
  refine va_get (D := (dC, dI)) (ci := 2) (v := .ref ta) (C := RXR) (T := TXR) (N := 1) hx hb hts (fun w h => jmem (inXR w h)) hown hK hP 0 rfl rfl 0 (by decide) (hts _ (jmem tw_50)) (fun _ h9 => h9) rfl dXR_row_1 ?_
  refine ji_bipush hx hb dXR_row_4 (by decide) ?_
  refine jwVi (rest := []) (wr := [(rda, .inr (2, [.ref ta])), (ba, .inr (0, [.ref bt, .ref bp, .ref bl, .ref bh, .ref bq, .ref br, .ref bd, .int (jI bg), .int (jI bf)])), (bt, .inl (cA, 31, .inl (jA ft))), (bl, .inl (cA, 248, .inl (jA fl))), (bh, .inl (cA, 248, .inl (jA fh))), (bq, .inl (cA, 124, .inl (jA fq))), (br, .inl (cA, 31, .inl (jA fr))), (bd, .inl (cA, 32, .inl (jA fd)))]) ⟨hx, hb, hml, hown, hts⟩ (c_XT_skipIf l dC dI cA _ ta ts tn tp tw tf 101 (by first | assumption | omega) (by first | assumption | omega) (by first | assumption | omega) (by first | assumption | omega) (by first | assumption | omega)) (cwV 1 hts (jG_V tw_150 tw_151 tw_152 tw_2 tw_153) rfl rfl rfl (by decide +kernel) (by rw [hR]; exact ⟨Nat.le_of_ble_eq_true rfl, Nat.le_of_ble_eq_true rfl⟩)) hK hP hD hS hA hN [1, 2] [0, 3, 4, 5, 6, 7, 8, 9] rfl rfl (by decide) (by decide) (by decide) 1 3 rfl rfl rfl rfl hl.1 rfl (Nat.le_of_ble_eq_true rfl) dXR_row_6 (by rw [hR]; exact ⟨Nat.le_of_ble_eq_true rfl, Nat.le_of_ble_eq_true rfl⟩) (fun v u H locs hwb hP hD hS => ?_)
  obtain ⟨r, tp1'⟩ := u
  try dsimp only at hwb
  obtain ⟨er, hwb⟩ := hwb
  subst er
  have hP : va_P (dC, dI) vwCl [(rda, .inr (2, [.ref ta])), (ba, .inr (0, [.ref bt, .ref bp, .ref bl, .ref bh, .ref bq, .ref br, .ref bd, .int (jI bg), .int (jI bf)])), (bt, .inl (cA, 31, .inl (jA ft))), (bl, .inl (cA, 248, .inl (jA fl))), (bh, .inl (cA, 248, .inl (jA fh))), (bq, .inl (cA, 124, .inl (jA fq))), (br, .inl (cA, 31, .inl (jA fr))), (bd, .inl (cA, 32, .inl (jA fd))), (ta, .inr (3, [.ref ts, .int (jI tn), .int (jI tp1'), .int (jI tw)])), (ts, .inl (cA, 400, .inl (jA tf)))] H := hP
  have hD : va_D A [(rda, .inr (2, [.ref ta])), (ba, .inr (0, [.ref bt, .ref bp, .ref bl, .ref bh, .ref bq, .ref br, .ref bd, .int (jI bg), .int (jI bf)])), (bt, .inl (cA, 31, .inl (jA ft))), (bl, .inl (cA, 248, .inl (jA fl))), (bh, .inl (cA, 248, .inl (jA fh))), (bq, .inl (cA, 124, .inl (jA fq))), (br, .inl (cA, 31, .inl (jA fr))), (bd, .inl (cA, 32, .inl (jA fd))), (ta, .inr (3, [.ref ts, .int (jI tn), .int (jI tp1'), .int (jI tw)])), (ts, .inl (cA, 400, .inl (jA tf)))] := hD
  have f := f_XT_skipIf_b tn tp tw tf 101 (by first | assumption | omega) (by first | assumption | omega) (by first | assumption | omega) (by first | assumption | omega) (by first | assumption | omega)
  rw [← hwb] at f; try dsimp only at f
  refine ji_if_eq (tgt := 38) hx hb dXR_row_9 (by decide) (by omega) (fun c9_ => ?_) (fun c9_ => ?_)
  · refine lv_aload_n hx hb dXR_row_38 rfl (lv_at hl 0 rfl) ?_
    refine va_get (D := (dC, dI)) (ci := 2) (v := .ref ta) (C := RXR) (T := TXR) (N := 1) hx hb hts (fun w h => jmem (inXR w h)) hown hK hP 0 rfl rfl 0 (by decide) (hts _ (jmem tw_50)) (fun _ h9 => h9) rfl dXR_row_39 ?_
    refine ji_bipush hx hb dXR_row_42 (by decide) ?_
    refine jwVi (rest := []) (wr := [(rda, .inr (2, [.ref ta])), (ba, .inr (0, [.ref bt, .ref bp, .ref bl, .ref bh, .ref bq, .ref br, .ref bd, .int (jI bg), .int (jI bf)])), (bt, .inl (cA, 31, .inl (jA ft))), (bl, .inl (cA, 248, .inl (jA fl))), (bh, .inl (cA, 248, .inl (jA fh))), (bq, .inl (cA, 124, .inl (jA fq))), (br, .inl (cA, 31, .inl (jA fr))), (bd, .inl (cA, 32, .inl (jA fd)))]) ⟨hx, hb, hml, hown, hts⟩ (c_XT_skipIf l dC dI cA _ ta ts tn tp1' tw tf 103 (by first | assumption | omega) (by first | assumption | omega) (by first | assumption | omega) (by first | assumption | omega) (by first | assumption | omega)) (cwV 1 hts (jG_V tw_150 tw_151 tw_152 tw_2 tw_153) rfl rfl rfl (by decide +kernel) (by rw [hR]; exact ⟨Nat.le_of_ble_eq_true rfl, Nat.le_of_ble_eq_true rfl⟩)) hK hP hD hS hA hN [8, 9] [0, 1, 2, 3, 4, 5, 6, 7] rfl rfl (by decide) (by decide) (by decide) 8 3 rfl rfl rfl rfl hl.1 rfl (Nat.le_of_ble_eq_true rfl) dXR_row_44 (by rw [hR]; exact ⟨Nat.le_of_ble_eq_true rfl, Nat.le_of_ble_eq_true rfl⟩) (fun v4 u3 H locs hwb5 hP hD hS => ?_)
    obtain ⟨r1, tp1'2⟩ := u3
    try dsimp only at hwb5
    obtain ⟨er, hwb5⟩ := hwb5
    subst er
    have hP : va_P (dC, dI) vwCl [(rda, .inr (2, [.ref ta])), (ba, .inr (0, [.ref bt, .ref bp, .ref bl, .ref bh, .ref bq, .ref br, .ref bd, .int (jI bg), .int (jI bf)])), (bt, .inl (cA, 31, .inl (jA ft))), (bl, .inl (cA, 248, .inl (jA fl))), (bh, .inl (cA, 248, .inl (jA fh))), (bq, .inl (cA, 124, .inl (jA fq))), (br, .inl (cA, 31, .inl (jA fr))), (bd, .inl (cA, 32, .inl (jA fd))), (ta, .inr (3, [.ref ts, .int (jI tn), .int (jI tp1'2), .int (jI tw)])), (ts, .inl (cA, 400, .inl (jA tf)))] H := hP
    have hD : va_D A [(rda, .inr (2, [.ref ta])), (ba, .inr (0, [.ref bt, .ref bp, .ref bl, .ref bh, .ref bq, .ref br, .ref bd, .int (jI bg), .int (jI bf)])), (bt, .inl (cA, 31, .inl (jA ft))), (bl, .inl (cA, 248, .inl (jA fl))), (bh, .inl (cA, 248, .inl (jA fh))), (bq, .inl (cA, 124, .inl (jA fq))), (br, .inl (cA, 31, .inl (jA fr))), (bd, .inl (cA, 32, .inl (jA fd))), (ta, .inr (3, [.ref ts, .int (jI tn), .int (jI tp1'2), .int (jI tw)])), (ts, .inl (cA, 400, .inl (jA tf)))] := hD
    have f6 := f_XT_skipIf_b tn tp1' tw tf 103 (by first | assumption | omega) (by first | assumption | omega) (by first | assumption | omega) (by first | assumption | omega) (by first | assumption | omega)
    rw [← hwb5] at f6; try dsimp only at f6
    refine ji_if_eq (tgt := 76) hx hb dXR_row_47 (by decide) (by omega) (fun c47_ => ?_) (fun c47_ => ?_)
    · refine lv_aload_n hx hb dXR_row_76 rfl (lv_at hl 0 rfl) ?_
      refine va_get (D := (dC, dI)) (ci := 2) (v := .ref ta) (C := RXR) (T := TXR) (N := 1) hx hb hts (fun w h => jmem (inXR w h)) hown hK hP 0 rfl rfl 0 (by decide) (hts _ (jmem tw_50)) (fun _ h9 => h9) rfl dXR_row_77 ?_
      refine jwVi (rest := []) (wr := [(rda, .inr (2, [.ref ta])), (ba, .inr (0, [.ref bt, .ref bp, .ref bl, .ref bh, .ref bq, .ref br, .ref bd, .int (jI bg), .int (jI bf)])), (bt, .inl (cA, 31, .inl (jA ft))), (bl, .inl (cA, 248, .inl (jA fl))), (bh, .inl (cA, 248, .inl (jA fh))), (bq, .inl (cA, 124, .inl (jA fq))), (br, .inl (cA, 31, .inl (jA fr))), (bd, .inl (cA, 32, .inl (jA fd)))]) ⟨hx, hb, hml, hown, hts⟩ (c_XT_refuse l dC dI cA _ ta ts tn tp1'2 tw tf) (cwV 0 hts (jG_V tw_210 tw_164 tw_165 tw_2 tw_166) rfl rfl rfl (by decide +kernel) (by rw [hR]; exact ⟨Nat.le_of_ble_eq_true rfl, Nat.le_of_ble_eq_true rfl⟩)) hK hP hD hS hA hN [8, 9] [0, 1, 2, 3, 4, 5, 6, 7] rfl rfl (by decide) (by decide) (by decide) 8 3 rfl rfl rfl rfl hl.1 rfl (Nat.le_of_ble_eq_true rfl) dXR_row_80 (by rw [hR]; exact ⟨Nat.le_of_ble_eq_true rfl, Nat.le_of_ble_eq_true rfl⟩) (fun v9 u8 H locs hwb10 hP hD hS => ?_)
      obtain ⟨r7, tw1'⟩ := u8
      try dsimp only at hwb10
      obtain ⟨er, hwb10⟩ := hwb10
      subst er
      have hP : va_P (dC, dI) vwCl [(rda, .inr (2, [.ref ta])), (ba, .inr (0, [.ref bt, .ref bp, .ref bl, .ref bh, .ref bq, .ref br, .ref bd, .int (jI bg), .int (jI bf)])), (bt, .inl (cA, 31, .inl (jA ft))), (bl, .inl (cA, 248, .inl (jA fl))), (bh, .inl (cA, 248, .inl (jA fh))), (bq, .inl (cA, 124, .inl (jA fq))), (br, .inl (cA, 31, .inl (jA fr))), (bd, .inl (cA, 32, .inl (jA fd))), (ta, .inr (3, [.ref ts, .int (jI tn), .int (jI tp1'2), .int (jI tw1')])), (ts, .inl (cA, 400, .inl (jA tf)))] H := hP
      have hD : va_D A [(rda, .inr (2, [.ref ta])), (ba, .inr (0, [.ref bt, .ref bp, .ref bl, .ref bh, .ref bq, .ref br, .ref bd, .int (jI bg), .int (jI bf)])), (bt, .inl (cA, 31, .inl (jA ft))), (bl, .inl (cA, 248, .inl (jA fl))), (bh, .inl (cA, 248, .inl (jA fh))), (bq, .inl (cA, 124, .inl (jA fq))), (br, .inl (cA, 31, .inl (jA fr))), (bd, .inl (cA, 32, .inl (jA fd))), (ta, .inr (3, [.ref ts, .int (jI tn), .int (jI tp1'2), .int (jI tw1')])), (ts, .inl (cA, 400, .inl (jA tf)))] := hD
      have f11 := f_XT_refuse_b tn tp1'2 tw tf
      rw [← hwb10] at f11; try dsimp only at f11
      have hP9 := hP.sub (ws' := [(rda, .inr (2, [.ref ta])), (ta, .inr (3, [.ref ts, .int (jI tn), .int (jI tp1'2), .int (jI tw1')])), (ts, .inl (cA, 400, .inl (jA tf))), (ba, .inr (0, [.ref bt, .ref bp, .ref bl, .ref bh, .ref bq, .ref br, .ref bd, .int (jI bg), .int (jI bf)])), (bt, .inl (cA, 31, .inl (jA ft))), (bl, .inl (cA, 248, .inl (jA fl))), (bh, .inl (cA, 248, .inl (jA fh))), (bq, .inl (cA, 124, .inl (jA fq))), (br, .inl (cA, 31, .inl (jA fr))), (bd, .inl (cA, 32, .inl (jA fd)))]) [0, 8, 9, 1, 2, 3, 4, 5, 6, 7] rfl
      have hD9 := hD.sub (ws' := [(rda, .inr (2, [.ref ta])), (ta, .inr (3, [.ref ts, .int (jI tn), .int (jI tp1'2), .int (jI tw1')])), (ts, .inl (cA, 400, .inl (jA tf))), (ba, .inr (0, [.ref bt, .ref bp, .ref bl, .ref bh, .ref bq, .ref br, .ref bd, .int (jI bg), .int (jI bf)])), (bt, .inl (cA, 31, .inl (jA ft))), (bl, .inl (cA, 248, .inl (jA fl))), (bh, .inl (cA, 248, .inl (jA fh))), (bq, .inl (cA, 124, .inl (jA fq))), (br, .inl (cA, 31, .inl (jA fr))), (bd, .inl (cA, 32, .inl (jA fd)))]) [0, 8, 9, 1, 2, 3, 4, 5, 6, 7] (by decide) rfl
      subst hAe
      subst hQ
      exact W.zret (v := jI r7) hx hb hr (by first | decide | exact jz (by omega)) (fun t ht hW => ⟨⟨_, (r7, tp1'2, tw1', ft, fl, fh, fq, fr, fd, bg, bf), rfl, ⟨rfl, Eq.trans (by rw [f_XR_row_s]; rw [← hwb]; try dsimp only; rw [if_pos c9_]; rw [← hwb5]; try dsimp only; rw [if_pos c47_]; rw [← hwb10]; try dsimp only; try rfl) rfl, show 0 ≤ r7 ∧ r7 ≤ 1 from by first | assumption | omega, show 0 ≤ tp1'2 ∧ tp1'2 ≤ tn from by first | assumption | omega, show ∀ i, 0 ≤ ft i ∧ ft i ≤ 30 from by first | assumption | omega, show ∀ i, 0 ≤ fl i ∧ fl i ≤ 100000 from by first | assumption | omega, show ∀ i, -1 ≤ fh i ∧ fh i ≤ 100000 from by first | assumption | omega, show ∀ i, -1 ≤ fq i ∧ fq i ≤ 999999 from by first | assumption | omega, show ∀ i, 0 ≤ fr i ∧ fr i < 2147483648 from by first | assumption | omega, show ∀ i, 0 ≤ fd i ∧ fd i ≤ 20 from by first | assumption | omega, show 0 ≤ bg ∧ bg < 2147483648 from by first | assumption | omega, show 0 ≤ bf ∧ bf < 2147483648 from by first | assumption | omega⟩, ⟨by rw [ht]; exact hP9, va_K.moved hW.alike hK, hD9⟩⟩, hS.F ht⟩) hS.2.2 dXR_row_83
    · refine lv_aload_n hx hb dXR_row_50 rfl (lv_at hl 0 rfl) ?_
      refine lv_aload_n hx hb dXR_row_51 rfl (lv_at hl 1 rfl) ?_
      refine jwVi (rest := []) (wr := [(bd, .inl (cA, 32, .inl (jA fd)))]) ⟨hx, hb, hml, hown, hts⟩ (c_XR_grade l dC dI cA _ rda ta ts tn tp1'2 tw tf ba bt bp bl bh bq br bd bg bf ft fl fh fq fr (by first | assumption | omega) (by first | assumption | omega) (by first | assumption | omega) (by first | assumption | omega) (by first | assumption | omega) (by first | assumption | omega) (by first | assumption | omega) (by first | assumption | omega) (by first | assumption | omega)) (cwV 1 hts (jG_V tw_211 tw_213 ts_3 tw_3 tw_214) rfl rfl rfl (by decide +kernel) (by rw [hR]; exact ⟨Nat.le_of_ble_eq_true rfl, Nat.le_of_ble_eq_true rfl⟩)) hK hP hD hS hA hN [0, 8, 9, 1, 2, 3, 4, 5, 6] [7] rfl rfl (by decide) (by decide) (by decide) 0 2 rfl rfl rfl rfl hl.1 rfl (Nat.le_of_ble_eq_true rfl) dXR_row_52 (by rw [hR]; exact ⟨Nat.le_of_ble_eq_true rfl, Nat.le_of_ble_eq_true rfl⟩) (fun v16 u15 H locs hwb17 hP hD hS => ?_)
      obtain ⟨r12, tp1'13, tw1'14, ft1', fl1', fh1', fq1', fr1', bg1'⟩ := u15
      try dsimp only at hwb17
      obtain ⟨er, hwb17, f18, f19, f20, f21, f22, f23, f24, f25⟩ := hwb17
      subst er
      have f18 : 0 ≤ r12 ∧ r12 ≤ 1 := f18
      have f19 : 0 ≤ tp1'13 ∧ tp1'13 ≤ tn := f19
      have f20 : ∀ i, 0 ≤ ft1' i ∧ ft1' i ≤ 30 := f20
      have f21 : ∀ i, 0 ≤ fl1' i ∧ fl1' i ≤ 100000 := f21
      have f22 : ∀ i, -1 ≤ fh1' i ∧ fh1' i ≤ 100000 := f22
      have f23 : ∀ i, -1 ≤ fq1' i ∧ fq1' i ≤ 999999 := f23
      have f24 : ∀ i, 0 ≤ fr1' i ∧ fr1' i < 2147483648 := f24
      have f25 : 0 ≤ bg1' ∧ bg1' < 2147483648 := f25
      have hP : va_P (dC, dI) vwCl [(bd, .inl (cA, 32, .inl (jA fd))), (rda, .inr (2, [.ref ta])), (ta, .inr (3, [.ref ts, .int (jI tn), .int (jI tp1'13), .int (jI tw1'14)])), (ts, .inl (cA, 400, .inl (jA tf))), (ba, .inr (0, [.ref bt, .ref bp, .ref bl, .ref bh, .ref bq, .ref br, .ref bd, .int (jI bg1'), .int (jI bf)])), (bt, .inl (cA, 31, .inl (jA ft1'))), (bl, .inl (cA, 248, .inl (jA fl1'))), (bh, .inl (cA, 248, .inl (jA fh1'))), (bq, .inl (cA, 124, .inl (jA fq1'))), (br, .inl (cA, 31, .inl (jA fr1')))] H := hP
      have hD : va_D A [(bd, .inl (cA, 32, .inl (jA fd))), (rda, .inr (2, [.ref ta])), (ta, .inr (3, [.ref ts, .int (jI tn), .int (jI tp1'13), .int (jI tw1'14)])), (ts, .inl (cA, 400, .inl (jA tf))), (ba, .inr (0, [.ref bt, .ref bp, .ref bl, .ref bh, .ref bq, .ref br, .ref bd, .int (jI bg1'), .int (jI bf)])), (bt, .inl (cA, 31, .inl (jA ft1'))), (bl, .inl (cA, 248, .inl (jA fl1'))), (bh, .inl (cA, 248, .inl (jA fh1'))), (bq, .inl (cA, 124, .inl (jA fq1'))), (br, .inl (cA, 31, .inl (jA fr1')))] := hD
      refine ji_if_eq (tgt := 74) hx hb dXR_row_55 (by decide) (by omega) (fun c55_ => ?_) (fun c55_ => ?_)
      · refine ji_iconst hx hb dXR_row_74 ?_
        have hP9 := hP.sub (ws' := [(rda, .inr (2, [.ref ta])), (ta, .inr (3, [.ref ts, .int (jI tn), .int (jI tp1'13), .int (jI tw1'14)])), (ts, .inl (cA, 400, .inl (jA tf))), (ba, .inr (0, [.ref bt, .ref bp, .ref bl, .ref bh, .ref bq, .ref br, .ref bd, .int (jI bg1'), .int (jI bf)])), (bt, .inl (cA, 31, .inl (jA ft1'))), (bl, .inl (cA, 248, .inl (jA fl1'))), (bh, .inl (cA, 248, .inl (jA fh1'))), (bq, .inl (cA, 124, .inl (jA fq1'))), (br, .inl (cA, 31, .inl (jA fr1'))), (bd, .inl (cA, 32, .inl (jA fd)))]) [1, 2, 3, 4, 5, 6, 7, 8, 9, 0] rfl
        have hD9 := hD.sub (ws' := [(rda, .inr (2, [.ref ta])), (ta, .inr (3, [.ref ts, .int (jI tn), .int (jI tp1'13), .int (jI tw1'14)])), (ts, .inl (cA, 400, .inl (jA tf))), (ba, .inr (0, [.ref bt, .ref bp, .ref bl, .ref bh, .ref bq, .ref br, .ref bd, .int (jI bg1'), .int (jI bf)])), (bt, .inl (cA, 31, .inl (jA ft1'))), (bl, .inl (cA, 248, .inl (jA fl1'))), (bh, .inl (cA, 248, .inl (jA fh1'))), (bq, .inl (cA, 124, .inl (jA fq1'))), (br, .inl (cA, 31, .inl (jA fr1'))), (bd, .inl (cA, 32, .inl (jA fd)))]) [1, 2, 3, 4, 5, 6, 7, 8, 9, 0] (by decide) rfl
        subst hAe
        subst hQ
        exact W.zret (v := jI 0) hx hb hr (by first | decide | exact jz (by omega)) (fun t ht hW => ⟨⟨_, (0, tp1'13, tw1'14, ft1', fl1', fh1', fq1', fr1', fd, bg1', bf), rfl, ⟨rfl, Eq.trans (by rw [f_XR_row_s]; rw [← hwb]; try dsimp only; rw [if_pos c9_]; rw [← hwb5]; try dsimp only; rw [if_neg c47_]; rw [← hwb17]; try dsimp only; rw [if_pos c55_]; try rfl) rfl, show 0 ≤ 0 ∧ 0 ≤ 1 from by first | assumption | omega, show 0 ≤ tp1'13 ∧ tp1'13 ≤ tn from by first | assumption | omega, show ∀ i, 0 ≤ ft1' i ∧ ft1' i ≤ 30 from by first | assumption | omega, show ∀ i, 0 ≤ fl1' i ∧ fl1' i ≤ 100000 from by first | assumption | omega, show ∀ i, -1 ≤ fh1' i ∧ fh1' i ≤ 100000 from by first | assumption | omega, show ∀ i, -1 ≤ fq1' i ∧ fq1' i ≤ 999999 from by first | assumption | omega, show ∀ i, 0 ≤ fr1' i ∧ fr1' i < 2147483648 from by first | assumption | omega, show ∀ i, 0 ≤ fd i ∧ fd i ≤ 20 from by first | assumption | omega, show 0 ≤ bg1' ∧ bg1' < 2147483648 from by first | assumption | omega, show 0 ≤ bf ∧ bf < 2147483648 from by first | assumption | omega⟩, ⟨by rw [ht]; exact hP9, va_K.moved hW.alike hK, hD9⟩⟩, hS.F ht⟩) hS.2.2 dXR_row_75
      · refine lv_aload_n hx hb dXR_row_58 rfl (lv_at hl 0 rfl) ?_
        refine va_get (D := (dC, dI)) (ci := 2) (v := .ref ta) (C := RXR) (T := TXR) (N := 1) hx hb hts (fun w h => jmem (inXR w h)) hown hK hP 1 rfl rfl 0 (by decide) (hts _ (jmem tw_50)) (fun _ h9 => h9) rfl dXR_row_59 ?_
        refine ji_bipush hx hb dXR_row_62 (by decide) ?_
        refine jwVi (rest := []) (wr := [(bd, .inl (cA, 32, .inl (jA fd))), (rda, .inr (2, [.ref ta])), (ba, .inr (0, [.ref bt, .ref bp, .ref bl, .ref bh, .ref bq, .ref br, .ref bd, .int (jI bg1'), .int (jI bf)])), (bt, .inl (cA, 31, .inl (jA ft1'))), (bl, .inl (cA, 248, .inl (jA fl1'))), (bh, .inl (cA, 248, .inl (jA fh1'))), (bq, .inl (cA, 124, .inl (jA fq1'))), (br, .inl (cA, 31, .inl (jA fr1')))]) ⟨hx, hb, hml, hown, hts⟩ (c_XT_take l dC dI cA _ ta ts tn tp1'13 tw1'14 tf 59 (by first | assumption | omega) (by first | assumption | omega) (by first | assumption | omega) (by first | assumption | omega) (by first | assumption | omega)) (cwV 1 hts (jG_V tw_182 tw_183 tw_184 tw_2 tw_185) rfl rfl rfl (by decide +kernel) (by rw [hR]; exact ⟨Nat.le_of_ble_eq_true rfl, Nat.le_of_ble_eq_true rfl⟩)) hK hP hD hS hA hN [2, 3] [0, 1, 4, 5, 6, 7, 8, 9] rfl rfl (by decide) (by decide) (by decide) 2 3 rfl rfl rfl rfl hl.1 rfl (Nat.le_of_ble_eq_true rfl) dXR_row_64 (by rw [hR]; exact ⟨Nat.le_of_ble_eq_true rfl, Nat.le_of_ble_eq_true rfl⟩) (fun v30 u29 H locs hwb31 hP hD hS => ?_)
        obtain ⟨r26, tp1'27, tw1'28⟩ := u29
        try dsimp only at hwb31
        obtain ⟨er, hwb31⟩ := hwb31
        subst er
        have hP : va_P (dC, dI) vwCl [(bd, .inl (cA, 32, .inl (jA fd))), (rda, .inr (2, [.ref ta])), (ba, .inr (0, [.ref bt, .ref bp, .ref bl, .ref bh, .ref bq, .ref br, .ref bd, .int (jI bg1'), .int (jI bf)])), (bt, .inl (cA, 31, .inl (jA ft1'))), (bl, .inl (cA, 248, .inl (jA fl1'))), (bh, .inl (cA, 248, .inl (jA fh1'))), (bq, .inl (cA, 124, .inl (jA fq1'))), (br, .inl (cA, 31, .inl (jA fr1'))), (ta, .inr (3, [.ref ts, .int (jI tn), .int (jI tp1'27), .int (jI tw1'28)])), (ts, .inl (cA, 400, .inl (jA tf)))] H := hP
        have hD : va_D A [(bd, .inl (cA, 32, .inl (jA fd))), (rda, .inr (2, [.ref ta])), (ba, .inr (0, [.ref bt, .ref bp, .ref bl, .ref bh, .ref bq, .ref br, .ref bd, .int (jI bg1'), .int (jI bf)])), (bt, .inl (cA, 31, .inl (jA ft1'))), (bl, .inl (cA, 248, .inl (jA fl1'))), (bh, .inl (cA, 248, .inl (jA fh1'))), (bq, .inl (cA, 124, .inl (jA fq1'))), (br, .inl (cA, 31, .inl (jA fr1'))), (ta, .inr (3, [.ref ts, .int (jI tn), .int (jI tp1'27), .int (jI tw1'28)])), (ts, .inl (cA, 400, .inl (jA tf)))] := hD
        have f32 := f_XT_take_b tn tp1'13 tw1'14 tf 59 (by first | assumption | omega) (by first | assumption | omega) (by first | assumption | omega) (by first | assumption | omega) (by first | assumption | omega)
        rw [← hwb31] at f32; try dsimp only at f32
        refine ji_if_eq (tgt := 74) hx hb dXR_row_67 (by decide) (by omega) (fun c67_ => ?_) (fun c67_ => ?_)
        · refine ji_iconst hx hb dXR_row_74 ?_
          have hP9 := hP.sub (ws' := [(rda, .inr (2, [.ref ta])), (ta, .inr (3, [.ref ts, .int (jI tn), .int (jI tp1'27), .int (jI tw1'28)])), (ts, .inl (cA, 400, .inl (jA tf))), (ba, .inr (0, [.ref bt, .ref bp, .ref bl, .ref bh, .ref bq, .ref br, .ref bd, .int (jI bg1'), .int (jI bf)])), (bt, .inl (cA, 31, .inl (jA ft1'))), (bl, .inl (cA, 248, .inl (jA fl1'))), (bh, .inl (cA, 248, .inl (jA fh1'))), (bq, .inl (cA, 124, .inl (jA fq1'))), (br, .inl (cA, 31, .inl (jA fr1'))), (bd, .inl (cA, 32, .inl (jA fd)))]) [1, 8, 9, 2, 3, 4, 5, 6, 7, 0] rfl
          have hD9 := hD.sub (ws' := [(rda, .inr (2, [.ref ta])), (ta, .inr (3, [.ref ts, .int (jI tn), .int (jI tp1'27), .int (jI tw1'28)])), (ts, .inl (cA, 400, .inl (jA tf))), (ba, .inr (0, [.ref bt, .ref bp, .ref bl, .ref bh, .ref bq, .ref br, .ref bd, .int (jI bg1'), .int (jI bf)])), (bt, .inl (cA, 31, .inl (jA ft1'))), (bl, .inl (cA, 248, .inl (jA fl1'))), (bh, .inl (cA, 248, .inl (jA fh1'))), (bq, .inl (cA, 124, .inl (jA fq1'))), (br, .inl (cA, 31, .inl (jA fr1'))), (bd, .inl (cA, 32, .inl (jA fd)))]) [1, 8, 9, 2, 3, 4, 5, 6, 7, 0] (by decide) rfl
          subst hAe
          subst hQ
          exact W.zret (v := jI 0) hx hb hr (by first | decide | exact jz (by omega)) (fun t ht hW => ⟨⟨_, (0, tp1'27, tw1'28, ft1', fl1', fh1', fq1', fr1', fd, bg1', bf), rfl, ⟨rfl, Eq.trans (by rw [f_XR_row_s]; rw [← hwb]; try dsimp only; rw [if_pos c9_]; rw [← hwb5]; try dsimp only; rw [if_neg c47_]; rw [← hwb17]; try dsimp only; rw [if_neg c55_]; rw [← hwb31]; try dsimp only; rw [if_pos c67_]; try rfl) rfl, show 0 ≤ 0 ∧ 0 ≤ 1 from by first | assumption | omega, show 0 ≤ tp1'27 ∧ tp1'27 ≤ tn from by first | assumption | omega, show ∀ i, 0 ≤ ft1' i ∧ ft1' i ≤ 30 from by first | assumption | omega, show ∀ i, 0 ≤ fl1' i ∧ fl1' i ≤ 100000 from by first | assumption | omega, show ∀ i, -1 ≤ fh1' i ∧ fh1' i ≤ 100000 from by first | assumption | omega, show ∀ i, -1 ≤ fq1' i ∧ fq1' i ≤ 999999 from by first | assumption | omega, show ∀ i, 0 ≤ fr1' i ∧ fr1' i < 2147483648 from by first | assumption | omega, show ∀ i, 0 ≤ fd i ∧ fd i ≤ 20 from by first | assumption | omega, show 0 ≤ bg1' ∧ bg1' < 2147483648 from by first | assumption | omega, show 0 ≤ bf ∧ bf < 2147483648 from by first | assumption | omega⟩, ⟨by rw [ht]; exact hP9, va_K.moved hW.alike hK, hD9⟩⟩, hS.F ht⟩) hS.2.2 dXR_row_75
        · refine ji_iconst hx hb dXR_row_70 ?_
          refine lv_goto (tgt := 75) hx hb dXR_row_71 (by decide) ?_
          have hP9 := hP.sub (ws' := [(rda, .inr (2, [.ref ta])), (ta, .inr (3, [.ref ts, .int (jI tn), .int (jI tp1'27), .int (jI tw1'28)])), (ts, .inl (cA, 400, .inl (jA tf))), (ba, .inr (0, [.ref bt, .ref bp, .ref bl, .ref bh, .ref bq, .ref br, .ref bd, .int (jI bg1'), .int (jI bf)])), (bt, .inl (cA, 31, .inl (jA ft1'))), (bl, .inl (cA, 248, .inl (jA fl1'))), (bh, .inl (cA, 248, .inl (jA fh1'))), (bq, .inl (cA, 124, .inl (jA fq1'))), (br, .inl (cA, 31, .inl (jA fr1'))), (bd, .inl (cA, 32, .inl (jA fd)))]) [1, 8, 9, 2, 3, 4, 5, 6, 7, 0] rfl
          have hD9 := hD.sub (ws' := [(rda, .inr (2, [.ref ta])), (ta, .inr (3, [.ref ts, .int (jI tn), .int (jI tp1'27), .int (jI tw1'28)])), (ts, .inl (cA, 400, .inl (jA tf))), (ba, .inr (0, [.ref bt, .ref bp, .ref bl, .ref bh, .ref bq, .ref br, .ref bd, .int (jI bg1'), .int (jI bf)])), (bt, .inl (cA, 31, .inl (jA ft1'))), (bl, .inl (cA, 248, .inl (jA fl1'))), (bh, .inl (cA, 248, .inl (jA fh1'))), (bq, .inl (cA, 124, .inl (jA fq1'))), (br, .inl (cA, 31, .inl (jA fr1'))), (bd, .inl (cA, 32, .inl (jA fd)))]) [1, 8, 9, 2, 3, 4, 5, 6, 7, 0] (by decide) rfl
          subst hAe
          subst hQ
          exact W.zret (v := jI 1) hx hb hr (by first | decide | exact jz (by omega)) (fun t ht hW => ⟨⟨_, (1, tp1'27, tw1'28, ft1', fl1', fh1', fq1', fr1', fd, bg1', bf), rfl, ⟨rfl, Eq.trans (by rw [f_XR_row_s]; rw [← hwb]; try dsimp only; rw [if_pos c9_]; rw [← hwb5]; try dsimp only; rw [if_neg c47_]; rw [← hwb17]; try dsimp only; rw [if_neg c55_]; rw [← hwb31]; try dsimp only; rw [if_neg c67_]; try rfl) rfl, show 0 ≤ 1 ∧ 1 ≤ 1 from by first | assumption | omega, show 0 ≤ tp1'27 ∧ tp1'27 ≤ tn from by first | assumption | omega, show ∀ i, 0 ≤ ft1' i ∧ ft1' i ≤ 30 from by first | assumption | omega, show ∀ i, 0 ≤ fl1' i ∧ fl1' i ≤ 100000 from by first | assumption | omega, show ∀ i, -1 ≤ fh1' i ∧ fh1' i ≤ 100000 from by first | assumption | omega, show ∀ i, -1 ≤ fq1' i ∧ fq1' i ≤ 999999 from by first | assumption | omega, show ∀ i, 0 ≤ fr1' i ∧ fr1' i < 2147483648 from by first | assumption | omega, show ∀ i, 0 ≤ fd i ∧ fd i ≤ 20 from by first | assumption | omega, show 0 ≤ bg1' ∧ bg1' < 2147483648 from by first | assumption | omega, show 0 ≤ bf ∧ bf < 2147483648 from by first | assumption | omega⟩, ⟨by rw [ht]; exact hP9, va_K.moved hW.alike hK, hD9⟩⟩, hS.F ht⟩) hS.2.2 dXR_row_75
  · refine lv_aload_n hx hb dXR_row_12 rfl (lv_at hl 0 rfl) ?_
    refine lv_aload_n hx hb dXR_row_13 rfl (lv_at hl 1 rfl) ?_
    refine jwVi (rest := []) (wr := [(bt, .inl (cA, 31, .inl (jA ft))), (bl, .inl (cA, 248, .inl (jA fl))), (bh, .inl (cA, 248, .inl (jA fh))), (bq, .inl (cA, 124, .inl (jA fq))), (br, .inl (cA, 31, .inl (jA fr)))]) ⟨hx, hb, hml, hown, hts⟩ (c_XR_formula l dC dI cA _ rda ta ts tn tp1' tw tf ba bt bp bl bh bq br bd bg bf fd (by first | assumption | omega) (by first | assumption | omega) (by first | assumption | omega) (by first | assumption | omega) (by first | assumption | omega)) (cwV 1 hts (jG_V tw_155 tw_157 ts_1 tw_3 tw_158) rfl rfl rfl (by decide +kernel) (by rw [hR]; exact ⟨Nat.le_of_ble_eq_true rfl, Nat.le_of_ble_eq_true rfl⟩)) hK hP hD hS hA hN [0, 8, 9, 1, 7] [2, 3, 4, 5, 6] rfl rfl (by decide) (by decide) (by decide) 0 2 rfl rfl rfl rfl hl.1 rfl (Nat.le_of_ble_eq_true rfl) dXR_row_14 (by rw [hR]; exact ⟨Nat.le_of_ble_eq_true rfl, Nat.le_of_ble_eq_true rfl⟩) (fun v37 u36 H locs hwb38 hP hD hS => ?_)
    obtain ⟨r33, tp1'34, tw1'35, fd1', bf1'⟩ := u36
    try dsimp only at hwb38
    obtain ⟨er, hwb38, f39, f40, f41, f42⟩ := hwb38
    subst er
    have f39 : 0 ≤ r33 ∧ r33 ≤ 1 := f39
    have f40 : 0 ≤ tp1'34 ∧ tp1'34 ≤ tn := f40
    have f41 : ∀ i, 0 ≤ fd1' i ∧ fd1' i ≤ 20 := f41
    have f42 : 0 ≤ bf1' ∧ bf1' < 2147483648 := f42
    have hP : va_P (dC, dI) vwCl [(bt, .inl (cA, 31, .inl (jA ft))), (bl, .inl (cA, 248, .inl (jA fl))), (bh, .inl (cA, 248, .inl (jA fh))), (bq, .inl (cA, 124, .inl (jA fq))), (br, .inl (cA, 31, .inl (jA fr))), (rda, .inr (2, [.ref ta])), (ta, .inr (3, [.ref ts, .int (jI tn), .int (jI tp1'34), .int (jI tw1'35)])), (ts, .inl (cA, 400, .inl (jA tf))), (ba, .inr (0, [.ref bt, .ref bp, .ref bl, .ref bh, .ref bq, .ref br, .ref bd, .int (jI bg), .int (jI bf1')])), (bd, .inl (cA, 32, .inl (jA fd1')))] H := hP
    have hD : va_D A [(bt, .inl (cA, 31, .inl (jA ft))), (bl, .inl (cA, 248, .inl (jA fl))), (bh, .inl (cA, 248, .inl (jA fh))), (bq, .inl (cA, 124, .inl (jA fq))), (br, .inl (cA, 31, .inl (jA fr))), (rda, .inr (2, [.ref ta])), (ta, .inr (3, [.ref ts, .int (jI tn), .int (jI tp1'34), .int (jI tw1'35)])), (ts, .inl (cA, 400, .inl (jA tf))), (ba, .inr (0, [.ref bt, .ref bp, .ref bl, .ref bh, .ref bq, .ref br, .ref bd, .int (jI bg), .int (jI bf1')])), (bd, .inl (cA, 32, .inl (jA fd1')))] := hD
    refine ji_if_eq (tgt := 36) hx hb dXR_row_17 (by decide) (by omega) (fun c17_ => ?_) (fun c17_ => ?_)
    · refine ji_iconst hx hb dXR_row_36 ?_
      have hP9 := hP.sub (ws' := [(rda, .inr (2, [.ref ta])), (ta, .inr (3, [.ref ts, .int (jI tn), .int (jI tp1'34), .int (jI tw1'35)])), (ts, .inl (cA, 400, .inl (jA tf))), (ba, .inr (0, [.ref bt, .ref bp, .ref bl, .ref bh, .ref bq, .ref br, .ref bd, .int (jI bg), .int (jI bf1')])), (bt, .inl (cA, 31, .inl (jA ft))), (bl, .inl (cA, 248, .inl (jA fl))), (bh, .inl (cA, 248, .inl (jA fh))), (bq, .inl (cA, 124, .inl (jA fq))), (br, .inl (cA, 31, .inl (jA fr))), (bd, .inl (cA, 32, .inl (jA fd1')))]) [5, 6, 7, 8, 0, 1, 2, 3, 4, 9] rfl
      have hD9 := hD.sub (ws' := [(rda, .inr (2, [.ref ta])), (ta, .inr (3, [.ref ts, .int (jI tn), .int (jI tp1'34), .int (jI tw1'35)])), (ts, .inl (cA, 400, .inl (jA tf))), (ba, .inr (0, [.ref bt, .ref bp, .ref bl, .ref bh, .ref bq, .ref br, .ref bd, .int (jI bg), .int (jI bf1')])), (bt, .inl (cA, 31, .inl (jA ft))), (bl, .inl (cA, 248, .inl (jA fl))), (bh, .inl (cA, 248, .inl (jA fh))), (bq, .inl (cA, 124, .inl (jA fq))), (br, .inl (cA, 31, .inl (jA fr))), (bd, .inl (cA, 32, .inl (jA fd1')))]) [5, 6, 7, 8, 0, 1, 2, 3, 4, 9] (by decide) rfl
      subst hAe
      subst hQ
      exact W.zret (v := jI 0) hx hb hr (by first | decide | exact jz (by omega)) (fun t ht hW => ⟨⟨_, (0, tp1'34, tw1'35, ft, fl, fh, fq, fr, fd1', bg, bf1'), rfl, ⟨rfl, Eq.trans (by rw [f_XR_row_s]; rw [← hwb]; try dsimp only; rw [if_neg c9_]; rw [← hwb38]; try dsimp only; rw [if_pos c17_]; try rfl) rfl, show 0 ≤ 0 ∧ 0 ≤ 1 from by first | assumption | omega, show 0 ≤ tp1'34 ∧ tp1'34 ≤ tn from by first | assumption | omega, show ∀ i, 0 ≤ ft i ∧ ft i ≤ 30 from by first | assumption | omega, show ∀ i, 0 ≤ fl i ∧ fl i ≤ 100000 from by first | assumption | omega, show ∀ i, -1 ≤ fh i ∧ fh i ≤ 100000 from by first | assumption | omega, show ∀ i, -1 ≤ fq i ∧ fq i ≤ 999999 from by first | assumption | omega, show ∀ i, 0 ≤ fr i ∧ fr i < 2147483648 from by first | assumption | omega, show ∀ i, 0 ≤ fd1' i ∧ fd1' i ≤ 20 from by first | assumption | omega, show 0 ≤ bg ∧ bg < 2147483648 from by first | assumption | omega, show 0 ≤ bf1' ∧ bf1' < 2147483648 from by first | assumption | omega⟩, ⟨by rw [ht]; exact hP9, va_K.moved hW.alike hK, hD9⟩⟩, hS.F ht⟩) hS.2.2 dXR_row_37
    · refine lv_aload_n hx hb dXR_row_20 rfl (lv_at hl 0 rfl) ?_
      refine va_get (D := (dC, dI)) (ci := 2) (v := .ref ta) (C := RXR) (T := TXR) (N := 1) hx hb hts (fun w h => jmem (inXR w h)) hown hK hP 5 rfl rfl 0 (by decide) (hts _ (jmem tw_50)) (fun _ h9 => h9) rfl dXR_row_21 ?_
      refine ji_bipush hx hb dXR_row_24 (by decide) ?_
      refine jwVi (rest := []) (wr := [(bt, .inl (cA, 31, .inl (jA ft))), (bl, .inl (cA, 248, .inl (jA fl))), (bh, .inl (cA, 248, .inl (jA fh))), (bq, .inl (cA, 124, .inl (jA fq))), (br, .inl (cA, 31, .inl (jA fr))), (rda, .inr (2, [.ref ta])), (ba, .inr (0, [.ref bt, .ref bp, .ref bl, .ref bh, .ref bq, .ref br, .ref bd, .int (jI bg), .int (jI bf1')])), (bd, .inl (cA, 32, .inl (jA fd1')))]) ⟨hx, hb, hml, hown, hts⟩ (c_XT_take l dC dI cA _ ta ts tn tp1'34 tw1'35 tf 59 (by first | assumption | omega) (by first | assumption | omega) (by first | assumption | omega) (by first | assumption | omega) (by first | assumption | omega)) (cwV 1 hts (jG_V tw_182 tw_183 tw_184 tw_2 tw_185) rfl rfl rfl (by decide +kernel) (by rw [hR]; exact ⟨Nat.le_of_ble_eq_true rfl, Nat.le_of_ble_eq_true rfl⟩)) hK hP hD hS hA hN [6, 7] [0, 1, 2, 3, 4, 5, 8, 9] rfl rfl (by decide) (by decide) (by decide) 6 3 rfl rfl rfl rfl hl.1 rfl (Nat.le_of_ble_eq_true rfl) dXR_row_26 (by rw [hR]; exact ⟨Nat.le_of_ble_eq_true rfl, Nat.le_of_ble_eq_true rfl⟩) (fun v47 u46 H locs hwb48 hP hD hS => ?_)
      obtain ⟨r43, tp1'44, tw1'45⟩ := u46
      try dsimp only at hwb48
      obtain ⟨er, hwb48⟩ := hwb48
      subst er
      have hP : va_P (dC, dI) vwCl [(bt, .inl (cA, 31, .inl (jA ft))), (bl, .inl (cA, 248, .inl (jA fl))), (bh, .inl (cA, 248, .inl (jA fh))), (bq, .inl (cA, 124, .inl (jA fq))), (br, .inl (cA, 31, .inl (jA fr))), (rda, .inr (2, [.ref ta])), (ba, .inr (0, [.ref bt, .ref bp, .ref bl, .ref bh, .ref bq, .ref br, .ref bd, .int (jI bg), .int (jI bf1')])), (bd, .inl (cA, 32, .inl (jA fd1'))), (ta, .inr (3, [.ref ts, .int (jI tn), .int (jI tp1'44), .int (jI tw1'45)])), (ts, .inl (cA, 400, .inl (jA tf)))] H := hP
      have hD : va_D A [(bt, .inl (cA, 31, .inl (jA ft))), (bl, .inl (cA, 248, .inl (jA fl))), (bh, .inl (cA, 248, .inl (jA fh))), (bq, .inl (cA, 124, .inl (jA fq))), (br, .inl (cA, 31, .inl (jA fr))), (rda, .inr (2, [.ref ta])), (ba, .inr (0, [.ref bt, .ref bp, .ref bl, .ref bh, .ref bq, .ref br, .ref bd, .int (jI bg), .int (jI bf1')])), (bd, .inl (cA, 32, .inl (jA fd1'))), (ta, .inr (3, [.ref ts, .int (jI tn), .int (jI tp1'44), .int (jI tw1'45)])), (ts, .inl (cA, 400, .inl (jA tf)))] := hD
      have f49 := f_XT_take_b tn tp1'34 tw1'35 tf 59 (by first | assumption | omega) (by first | assumption | omega) (by first | assumption | omega) (by first | assumption | omega) (by first | assumption | omega)
      rw [← hwb48] at f49; try dsimp only at f49
      refine ji_if_eq (tgt := 36) hx hb dXR_row_29 (by decide) (by omega) (fun c29_ => ?_) (fun c29_ => ?_)
      · refine ji_iconst hx hb dXR_row_36 ?_
        have hP9 := hP.sub (ws' := [(rda, .inr (2, [.ref ta])), (ta, .inr (3, [.ref ts, .int (jI tn), .int (jI tp1'44), .int (jI tw1'45)])), (ts, .inl (cA, 400, .inl (jA tf))), (ba, .inr (0, [.ref bt, .ref bp, .ref bl, .ref bh, .ref bq, .ref br, .ref bd, .int (jI bg), .int (jI bf1')])), (bt, .inl (cA, 31, .inl (jA ft))), (bl, .inl (cA, 248, .inl (jA fl))), (bh, .inl (cA, 248, .inl (jA fh))), (bq, .inl (cA, 124, .inl (jA fq))), (br, .inl (cA, 31, .inl (jA fr))), (bd, .inl (cA, 32, .inl (jA fd1')))]) [5, 8, 9, 6, 0, 1, 2, 3, 4, 7] rfl
        have hD9 := hD.sub (ws' := [(rda, .inr (2, [.ref ta])), (ta, .inr (3, [.ref ts, .int (jI tn), .int (jI tp1'44), .int (jI tw1'45)])), (ts, .inl (cA, 400, .inl (jA tf))), (ba, .inr (0, [.ref bt, .ref bp, .ref bl, .ref bh, .ref bq, .ref br, .ref bd, .int (jI bg), .int (jI bf1')])), (bt, .inl (cA, 31, .inl (jA ft))), (bl, .inl (cA, 248, .inl (jA fl))), (bh, .inl (cA, 248, .inl (jA fh))), (bq, .inl (cA, 124, .inl (jA fq))), (br, .inl (cA, 31, .inl (jA fr))), (bd, .inl (cA, 32, .inl (jA fd1')))]) [5, 8, 9, 6, 0, 1, 2, 3, 4, 7] (by decide) rfl
        subst hAe
        subst hQ
        exact W.zret (v := jI 0) hx hb hr (by first | decide | exact jz (by omega)) (fun t ht hW => ⟨⟨_, (0, tp1'44, tw1'45, ft, fl, fh, fq, fr, fd1', bg, bf1'), rfl, ⟨rfl, Eq.trans (by rw [f_XR_row_s]; rw [← hwb]; try dsimp only; rw [if_neg c9_]; rw [← hwb38]; try dsimp only; rw [if_neg c17_]; rw [← hwb48]; try dsimp only; rw [if_pos c29_]; try rfl) rfl, show 0 ≤ 0 ∧ 0 ≤ 1 from by first | assumption | omega, show 0 ≤ tp1'44 ∧ tp1'44 ≤ tn from by first | assumption | omega, show ∀ i, 0 ≤ ft i ∧ ft i ≤ 30 from by first | assumption | omega, show ∀ i, 0 ≤ fl i ∧ fl i ≤ 100000 from by first | assumption | omega, show ∀ i, -1 ≤ fh i ∧ fh i ≤ 100000 from by first | assumption | omega, show ∀ i, -1 ≤ fq i ∧ fq i ≤ 999999 from by first | assumption | omega, show ∀ i, 0 ≤ fr i ∧ fr i < 2147483648 from by first | assumption | omega, show ∀ i, 0 ≤ fd1' i ∧ fd1' i ≤ 20 from by first | assumption | omega, show 0 ≤ bg ∧ bg < 2147483648 from by first | assumption | omega, show 0 ≤ bf1' ∧ bf1' < 2147483648 from by first | assumption | omega⟩, ⟨by rw [ht]; exact hP9, va_K.moved hW.alike hK, hD9⟩⟩, hS.F ht⟩) hS.2.2 dXR_row_37
      · refine ji_iconst hx hb dXR_row_32 ?_
        refine lv_goto (tgt := 37) hx hb dXR_row_33 (by decide) ?_
        have hP9 := hP.sub (ws' := [(rda, .inr (2, [.ref ta])), (ta, .inr (3, [.ref ts, .int (jI tn), .int (jI tp1'44), .int (jI tw1'45)])), (ts, .inl (cA, 400, .inl (jA tf))), (ba, .inr (0, [.ref bt, .ref bp, .ref bl, .ref bh, .ref bq, .ref br, .ref bd, .int (jI bg), .int (jI bf1')])), (bt, .inl (cA, 31, .inl (jA ft))), (bl, .inl (cA, 248, .inl (jA fl))), (bh, .inl (cA, 248, .inl (jA fh))), (bq, .inl (cA, 124, .inl (jA fq))), (br, .inl (cA, 31, .inl (jA fr))), (bd, .inl (cA, 32, .inl (jA fd1')))]) [5, 8, 9, 6, 0, 1, 2, 3, 4, 7] rfl
        have hD9 := hD.sub (ws' := [(rda, .inr (2, [.ref ta])), (ta, .inr (3, [.ref ts, .int (jI tn), .int (jI tp1'44), .int (jI tw1'45)])), (ts, .inl (cA, 400, .inl (jA tf))), (ba, .inr (0, [.ref bt, .ref bp, .ref bl, .ref bh, .ref bq, .ref br, .ref bd, .int (jI bg), .int (jI bf1')])), (bt, .inl (cA, 31, .inl (jA ft))), (bl, .inl (cA, 248, .inl (jA fl))), (bh, .inl (cA, 248, .inl (jA fh))), (bq, .inl (cA, 124, .inl (jA fq))), (br, .inl (cA, 31, .inl (jA fr))), (bd, .inl (cA, 32, .inl (jA fd1')))]) [5, 8, 9, 6, 0, 1, 2, 3, 4, 7] (by decide) rfl
        subst hAe
        subst hQ
        exact W.zret (v := jI 1) hx hb hr (by first | decide | exact jz (by omega)) (fun t ht hW => ⟨⟨_, (1, tp1'44, tw1'45, ft, fl, fh, fq, fr, fd1', bg, bf1'), rfl, ⟨rfl, Eq.trans (by rw [f_XR_row_s]; rw [← hwb]; try dsimp only; rw [if_neg c9_]; rw [← hwb38]; try dsimp only; rw [if_neg c17_]; rw [← hwb48]; try dsimp only; rw [if_neg c29_]; try rfl) rfl, show 0 ≤ 1 ∧ 1 ≤ 1 from by first | assumption | omega, show 0 ≤ tp1'44 ∧ tp1'44 ≤ tn from by first | assumption | omega, show ∀ i, 0 ≤ ft i ∧ ft i ≤ 30 from by first | assumption | omega, show ∀ i, 0 ≤ fl i ∧ fl i ≤ 100000 from by first | assumption | omega, show ∀ i, -1 ≤ fh i ∧ fh i ≤ 100000 from by first | assumption | omega, show ∀ i, -1 ≤ fq i ∧ fq i ≤ 999999 from by first | assumption | omega, show ∀ i, 0 ≤ fr i ∧ fr i < 2147483648 from by first | assumption | omega, show ∀ i, 0 ≤ fd1' i ∧ fd1' i ≤ 20 from by first | assumption | omega, show 0 ≤ bg ∧ bg < 2147483648 from by first | assumption | omega, show 0 ≤ bf1' ∧ bf1' < 2147483648 from by first | assumption | omega⟩, ⟨by rw [ht]; exact hP9, va_K.moved hW.alike hK, hD9⟩⟩, hS.F ht⟩) hS.2.2 dXR_row_37
noncomputable def g_XR_text_L9 (tn : Int) (tp : Int) (tw : Int) (tf : Int → Int) (bg : Int) (bf : Int) (ft : Int → Int) (fl : Int → Int) (fh : Int → Int) (fq : Int → Int) (fr : Int → Int) (fd : Int → Int) : Nat → Int → Int → Int → (Int → Int) → (Int → Int) → (Int → Int) → (Int → Int) → (Int → Int) → (Int → Int) → Int → Int → Int × Int × Int × (Int → Int) × (Int → Int) × (Int → Int) × (Int → Int) × (Int → Int) × (Int → Int) × Int × Int
  | 0, _, _, _, _, _, _, _, _, _, _, _ => (0, 0, 0, fun _ => 0, fun _ => 0, fun _ => 0, fun _ => 0, fun _ => 0, fun _ => 0, 0, 0)
  | n9 + 1, k, q, w, yt, yl, yh, yq, yr, yd, yg, yf =>
    if k < 400 then
      match f_XT_next tn q w tf with
      | (r, tp1') =>
        if r = (-1) then
          (1, tp1', w, yt, yl, yh, yq, yr, yd, yg, yf)
        else
          match f_XR_row tn tp1' w tf yg yf yt yl yh yq yr yd with
          | (r3, tp1'4, tw1', ft1', fl1', fh1', fq1', fr1', fd1', bg1', bf1') =>
            if r3 = 0 then
              (0, tp1'4, tw1', ft1', fl1', fh1', fq1', fr1', fd1', bg1', bf1')
            else
              g_XR_text_L9 tn tp tw tf bg bf ft fl fh fq fr fd n9 (k + 1) tp1'4 tw1' ft1' fl1' fh1' fq1' fr1' fd1' bg1' bf1'
    else
      (1, q, w, yt, yl, yh, yq, yr, yd, yg, yf)
noncomputable def f_XR_text_L9 : Int → Int → Int → (Int → Int) → Int → Int → (Int → Int) → (Int → Int) → (Int → Int) → (Int → Int) → (Int → Int) → (Int → Int) → Nat → Int → Int → Int → (Int → Int) → (Int → Int) → (Int → Int) → (Int → Int) → (Int → Int) → (Int → Int) → Int → Int → Int × Int × Int × (Int → Int) × (Int → Int) × (Int → Int) × (Int → Int) × (Int → Int) × (Int → Int) × Int × Int := jopq g_XR_text_L9
theorem f_XR_text_L9_q : f_XR_text_L9 = g_XR_text_L9 := jopq_eq _
theorem f_XR_text_L9_s (tn : Int) (tp : Int) (tw : Int) (tf : Int → Int) (bg : Int) (bf : Int) (ft : Int → Int) (fl : Int → Int) (fh : Int → Int) (fq : Int → Int) (fr : Int → Int) (fd : Int → Int) (n9 : Nat) (k : Int) (q : Int) (w : Int) (yt : Int → Int) (yl : Int → Int) (yh : Int → Int) (yq : Int → Int) (yr : Int → Int) (yd : Int → Int) (yg : Int) (yf : Int) : f_XR_text_L9 tn tp tw tf bg bf ft fl fh fq fr fd (n9 + 1) k q w yt yl yh yq yr yd yg yf = (
    if k < 400 then
      match f_XT_next tn q w tf with
      | (r, tp1') =>
        if r = (-1) then
          (1, tp1', w, yt, yl, yh, yq, yr, yd, yg, yf)
        else
          match f_XR_row tn tp1' w tf yg yf yt yl yh yq yr yd with
          | (r3, tp1'4, tw1', ft1', fl1', fh1', fq1', fr1', fd1', bg1', bf1') =>
            if r3 = 0 then
              (0, tp1'4, tw1', ft1', fl1', fh1', fq1', fr1', fd1', bg1', bf1')
            else
              f_XR_text_L9 tn tp tw tf bg bf ft fl fh fq fr fd n9 (k + 1) tp1'4 tw1' ft1' fl1' fh1' fq1' fr1' fd1' bg1' bf1'
    else
      (1, q, w, yt, yl, yh, yq, yr, yd, yg, yf)
  ) := by rw [f_XR_text_L9_q]; rfl
theorem f_XR_text_L9_z (tn : Int) (tp : Int) (tw : Int) (tf : Int → Int) (bg : Int) (bf : Int) (ft : Int → Int) (fl : Int → Int) (fh : Int → Int) (fq : Int → Int) (fr : Int → Int) (fd : Int → Int) (k : Int) (q : Int) (w : Int) (yt : Int → Int) (yl : Int → Int) (yh : Int → Int) (yq : Int → Int) (yr : Int → Int) (yd : Int → Int) (yg : Int) (yf : Int) : f_XR_text_L9 tn tp tw tf bg bf ft fl fh fq fr fd 0 k q w yt yl yh yq yr yd yg yf = (0, 0, 0, fun _ => 0, fun _ => 0, fun _ => 0, fun _ => 0, fun _ => 0, fun _ => 0, 0, 0) := by rw [f_XR_text_L9_q]; rfl
noncomputable def g_XR_text (tn : Int) (tp : Int) (tw : Int) (tf : Int → Int) (bg : Int) (bf : Int) (ft : Int → Int) (fl : Int → Int) (fh : Int → Int) (fq : Int → Int) (fr : Int → Int) (fd : Int → Int) : Int × Int × Int × (Int → Int) × (Int → Int) × (Int → Int) × (Int → Int) × (Int → Int) × (Int → Int) × Int × Int :=
  f_XR_text_L9 tn tp tw tf bg bf ft fl fh fq fr fd (Int.toNat (400 - 0) + 1) 0 (f_XT_rewind tn tp tw tf) tw ft fl fh fq fr fd bg bf
noncomputable def f_XR_text : Int → Int → Int → (Int → Int) → Int → Int → (Int → Int) → (Int → Int) → (Int → Int) → (Int → Int) → (Int → Int) → (Int → Int) → Int × Int × Int × (Int → Int) × (Int → Int) × (Int → Int) × (Int → Int) × (Int → Int) × (Int → Int) × Int × Int := jopq g_XR_text
theorem f_XR_text_q : f_XR_text = g_XR_text := jopq_eq _
theorem f_XR_text_s (tn : Int) (tp : Int) (tw : Int) (tf : Int → Int) (bg : Int) (bf : Int) (ft : Int → Int) (fl : Int → Int) (fh : Int → Int) (fq : Int → Int) (fr : Int → Int) (fd : Int → Int) : f_XR_text tn tp tw tf bg bf ft fl fh fq fr fd = (
    f_XR_text_L9 tn tp tw tf bg bf ft fl fh fq fr fd (Int.toNat (400 - 0) + 1) 0 (f_XT_rewind tn tp tw tf) tw ft fl fh fq fr fd bg bf
  ) := by rw [f_XR_text_q]; rfl
set_option maxHeartbeats 4000000 in
set_option maxRecDepth 100000 in
theorem c_XR_text (l : Launch) (dC : Nat → ClassId) (dI : Nat → Nat → Nat) (cA : ClassId) (sz : Nat) (rda : Nat) (ta : Nat) (ts : Nat) (tn : Int) (tp : Int) (tw : Int) (tf : Int → Int) (ba : Nat) (bt : Nat) (bp : Nat) (bl : Nat) (bh : Nat) (bq : Nat) (br : Nat) (bd : Nat) (bg : Int) (bf : Int) (ft : Int → Int) (fl : Int → Int) (fh : Int → Int) (fq : Int → Int) (fr : Int → Int) (fd : Int → Int) (hn : 0 ≤ tn ∧ tn ≤ 400) (hf : ∀ i, 0 ≤ tf i ∧ tf i < 256) (hbt : ∀ i, 0 ≤ ft i ∧ ft i ≤ 30) (hbl : ∀ i, 0 ≤ fl i ∧ fl i ≤ 100000) (hbh : ∀ i, -1 ≤ fh i ∧ fh i ≤ 100000) (hbq : ∀ i, -1 ≤ fq i ∧ fq i ≤ 999999) (hbr : ∀ i, 0 ≤ fr i ∧ fr i < 2147483648) (hbd : ∀ i, 0 ≤ fd i ∧ fd i ≤ 20) (hbg : 0 ≤ bg ∧ bg < 2147483648) (hbf : 0 ≤ bf ∧ bf < 2147483648) : Met l yXR_text (Cond.code yXR_text cXR_text 3 (some .boolean) :: TBL) ({ frames := 5, cells := 0, slots := 0, locals := 113 } : Room) (va_Pc [.ref rda, .ref ba] (jBw (dC, dI) [(cA, .int)] [(rda, .inr (2, [.ref ta])), (ta, .inr (3, [.ref ts, .int (jI tn), .int (jI tp), .int (jI tw)])), (ts, .inl (cA, 400, .inl (jA tf))), (ba, .inr (0, [.ref bt, .ref bp, .ref bl, .ref bh, .ref bq, .ref br, .ref bd, .int (jI bg), .int (jI bf)])), (bt, .inl (cA, 31, .inl (jA ft))), (bl, .inl (cA, 248, .inl (jA fl))), (bh, .inl (cA, 248, .inl (jA fh))), (bq, .inl (cA, 124, .inl (jA fq))), (br, .inl (cA, 31, .inl (jA fr))), (bd, .inl (cA, 32, .inl (jA fd)))] sz)) (va_Qi (fun (r : Int32) (u : Int × Int × Int × (Int → Int) × (Int → Int) × (Int → Int) × (Int → Int) × (Int → Int) × (Int → Int) × Int × Int) => r = jI u.1 ∧ u = f_XR_text tn tp tw tf bg bf ft fl fh fq fr fd ∧ (0 ≤ u.1 ∧ u.1 ≤ 1) ∧ (0 ≤ u.2.1 ∧ u.2.1 ≤ tn) ∧ (∀ i, 0 ≤ u.2.2.2.1 i ∧ u.2.2.2.1 i ≤ 30) ∧ (∀ i, 0 ≤ u.2.2.2.2.1 i ∧ u.2.2.2.2.1 i ≤ 100000) ∧ (∀ i, -1 ≤ u.2.2.2.2.2.1 i ∧ u.2.2.2.2.2.1 i ≤ 100000) ∧ (∀ i, -1 ≤ u.2.2.2.2.2.2.1 i ∧ u.2.2.2.2.2.2.1 i ≤ 999999) ∧ (∀ i, 0 ≤ u.2.2.2.2.2.2.2.1 i ∧ u.2.2.2.2.2.2.2.1 i < 2147483648) ∧ (∀ i, 0 ≤ u.2.2.2.2.2.2.2.2.1 i ∧ u.2.2.2.2.2.2.2.2.1 i ≤ 20) ∧ (0 ≤ u.2.2.2.2.2.2.2.2.2.1 ∧ u.2.2.2.2.2.2.2.2.2.1 < 2147483648) ∧ (0 ≤ u.2.2.2.2.2.2.2.2.2.2 ∧ u.2.2.2.2.2.2.2.2.2.2 < 2147483648)) (fun u t => jE (dC, dI) [(cA, .int)] [(rda, .inr (2, [.ref ta])), (ta, .inr (3, [.ref ts, .int (jI tn), .int (jI tp), .int (jI tw)])), (ts, .inl (cA, 400, .inl (jA tf))), (ba, .inr (0, [.ref bt, .ref bp, .ref bl, .ref bh, .ref bq, .ref br, .ref bd, .int (jI bg), .int (jI bf)])), (bt, .inl (cA, 31, .inl (jA ft))), (bl, .inl (cA, 248, .inl (jA fl))), (bh, .inl (cA, 248, .inl (jA fh))), (bq, .inl (cA, 124, .inl (jA fq))), (br, .inl (cA, 31, .inl (jA fr))), (bd, .inl (cA, 32, .inl (jA fd)))] sz [(rda, .inr (2, [.ref ta])), (ta, .inr (3, [.ref ts, .int (jI tn), .int (jI u.2.1), .int (jI u.2.2.1)])), (ts, .inl (cA, 400, .inl (jA tf))), (ba, .inr (0, [.ref bt, .ref bp, .ref bl, .ref bh, .ref bq, .ref br, .ref bd, .int (jI u.2.2.2.2.2.2.2.2.2.1), .int (jI u.2.2.2.2.2.2.2.2.2.2)])), (bt, .inl (cA, 31, .inl (jA u.2.2.2.1))), (bl, .inl (cA, 248, .inl (jA u.2.2.2.2.1))), (bh, .inl (cA, 248, .inl (jA u.2.2.2.2.2.1))), (bq, .inl (cA, 124, .inl (jA u.2.2.2.2.2.2.1))), (br, .inl (cA, 31, .inl (jA u.2.2.2.2.2.2.2.1))), (bd, .inl (cA, 32, .inl (jA u.2.2.2.2.2.2.2.2.1)))] t) (va_A [(rda, .inr (2, [.ref ta])), (ta, .inr (3, [.ref ts, .int (jI tn), .int (jI tp), .int (jI tw)])), (ts, .inl (cA, 400, .inl (jA tf))), (ba, .inr (0, [.ref bt, .ref bp, .ref bl, .ref bh, .ref bq, .ref br, .ref bd, .int (jI bg), .int (jI bf)])), (bt, .inl (cA, 31, .inl (jA ft))), (bl, .inl (cA, 248, .inl (jA fl))), (bh, .inl (cA, 248, .inl (jA fh))), (bq, .inl (cA, 124, .inl (jA fq))), (br, .inl (cA, 31, .inl (jA fr))), (bd, .inl (cA, 32, .inl (jA fd)))] sz)) 0 0 (va_A [(rda, .inr (2, [.ref ta])), (ta, .inr (3, [.ref ts, .int (jI tn), .int (jI tp), .int (jI tw)])), (ts, .inl (cA, 400, .inl (jA tf))), (ba, .inr (0, [.ref bt, .ref bp, .ref bl, .ref bh, .ref bq, .ref br, .ref bd, .int (jI bg), .int (jI bf)])), (bt, .inl (cA, 31, .inl (jA ft))), (bl, .inl (cA, 248, .inl (jA fl))), (bh, .inl (cA, 248, .inl (jA fh))), (bq, .inl (cA, 124, .inl (jA fq))), (br, .inl (cA, 31, .inl (jA fr))), (bd, .inl (cA, 32, .inl (jA fd)))] sz) := by
  refine jMet (cc := cXR_text) (maxL := 3) (ret := some .boolean) (by decide) rfl ?_
  intro p e s m args below meth c s₁ R Q hR hQ B hml hv
  obtain ⟨rfl, hsz, hP, hK, hD0, hN⟩ := hv
  have hx := B.exec
  have hb := B.bytes
  have hr := B.returns
  have hts := atoms_spec (ws := Cond.code yXR_text cXR_text 3 (some .boolean) :: TBL) B.pre
  have hown : s.vm.findClass RXR = some m.cls := findClass_of_methodNamed B.named
  have hlocks := B.notSynchronized
  subst hsz
  obtain ⟨A, hAe⟩ : ∃ A, A = va_A [(rda, .inr (2, [.ref ta])), (ta, .inr (3, [.ref ts, .int (jI tn), .int (jI tp), .int (jI tw)])), (ts, .inl (cA, 400, .inl (jA tf))), (ba, .inr (0, [.ref bt, .ref bp, .ref bl, .ref bh, .ref bq, .ref br, .ref bd, .int (jI bg), .int (jI bf)])), (bt, .inl (cA, 31, .inl (jA ft))), (bl, .inl (cA, 248, .inl (jA fl))), (bh, .inl (cA, 248, .inl (jA fh))), (bq, .inl (cA, 124, .inl (jA fq))), (br, .inl (cA, 31, .inl (jA fr))), (bd, .inl (cA, 32, .inl (jA fd)))] s.heap.size := ⟨_, rfl⟩
  have hD : va_D A [(rda, .inr (2, [.ref ta])), (ta, .inr (3, [.ref ts, .int (jI tn), .int (jI tp), .int (jI tw)])), (ts, .inl (cA, 400, .inl (jA tf))), (ba, .inr (0, [.ref bt, .ref bp, .ref bl, .ref bh, .ref bq, .ref br, .ref bd, .int (jI bg), .int (jI bf)])), (bt, .inl (cA, 31, .inl (jA ft))), (bl, .inl (cA, 248, .inl (jA fl))), (bh, .inl (cA, 248, .inl (jA fh))), (bq, .inl (cA, 124, .inl (jA fq))), (br, .inl (cA, 31, .inl (jA fr))), (bd, .inl (cA, 32, .inl (jA fd)))] := by rw [hAe]; exact hD0.self
  have hA : ∀ q : Nat, s.heap.size ≤ q → A q := fun q h => by rw [hAe]; exact Or.inr h
  have hS : va_S A s.heap s.heap [] := va_S.rf
  have hP : va_P (dC, dI) vwCl [(rda, .inr (2, [.ref ta])), (ta, .inr (3, [.ref ts, .int (jI tn), .int (jI tp), .int (jI tw)])), (ts, .inl (cA, 400, .inl (jA tf))), (ba, .inr (0, [.ref bt, .ref bp, .ref bl, .ref bh, .ref bq, .ref br, .ref bd, .int (jI bg), .int (jI bf)])), (bt, .inl (cA, 31, .inl (jA ft))), (bl, .inl (cA, 248, .inl (jA fl))), (bh, .inl (cA, 248, .inl (jA fh))), (bq, .inl (cA, 124, .inl (jA fq))), (br, .inl (cA, 31, .inl (jA fr))), (bd, .inl (cA, 32, .inl (jA fd)))] s.heap := hP
  have hl := lv_entry ([.ref rda, .ref ba]) (n := 3) (Nat.le_of_ble_eq_true rfl)
  rw [lg_entry_eq]
  generalize (lg_sl ([.ref rda, .ref ba]) ++ List.replicate (3 - (lg_sl ([.ref rda, .ref ba])).length) Slot.unset).toArray = ls at hl ⊢
  have hl : lv_has ls 3 [(0, .ref rda), (1, .ref ba)] := hl
  refine lv_aload_n hx hb dXR_text_0 rfl (lv_at hl 0 rfl) ?_
  refine va_get (D := (dC, dI)) (ci := 2) (v := .ref ta) (C := RXR) (T := TXR) (N := 1) hx hb hts (fun w h => jmem (inXR w h)) hown hK hP 0 rfl rfl 0 (by decide) (hts _ (jmem tw_50)) (fun _ h9 => h9) rfl dXR_text_1 ?_
  refine jwVv (rest := []) (wr := [(rda, .inr (2, [.ref ta])), (ba, .inr (0, [.ref bt, .ref bp, .ref bl, .ref bh, .ref bq, .ref br, .ref bd, .int (jI bg), .int (jI bf)])), (bt, .inl (cA, 31, .inl (jA ft))), (bl, .inl (cA, 248, .inl (jA fl))), (bh, .inl (cA, 248, .inl (jA fh))), (bq, .inl (cA, 124, .inl (jA fq))), (br, .inl (cA, 31, .inl (jA fr))), (bd, .inl (cA, 32, .inl (jA fd)))]) ⟨hx, hb, hml, hown, hts⟩ (c_XT_rewind l dC dI cA _ ta ts tn tp tw tf) (cwV 0 hts (jG_V tw_138 tw_139 tw_140 tw_2 tw_141) rfl rfl rfl (by decide +kernel) (by rw [hR]; exact ⟨Nat.le_of_ble_eq_true rfl, Nat.le_of_ble_eq_true rfl⟩)) hK hP hD hS hA hN [1, 2] [0, 3, 4, 5, 6, 7, 8, 9] rfl rfl (by decide) (by decide) (by decide) 1 3 rfl rfl rfl rfl hl.1 rfl (Nat.le_of_ble_eq_true rfl) dXR_text_4 (by rw [hR]; exact ⟨Nat.le_of_ble_eq_true rfl, Nat.le_of_ble_eq_true rfl⟩) (fun u H locs hw hP hD hS => ?_)
  subst hw
  have hP : va_P (dC, dI) vwCl [(rda, .inr (2, [.ref ta])), (ba, .inr (0, [.ref bt, .ref bp, .ref bl, .ref bh, .ref bq, .ref br, .ref bd, .int (jI bg), .int (jI bf)])), (bt, .inl (cA, 31, .inl (jA ft))), (bl, .inl (cA, 248, .inl (jA fl))), (bh, .inl (cA, 248, .inl (jA fh))), (bq, .inl (cA, 124, .inl (jA fq))), (br, .inl (cA, 31, .inl (jA fr))), (bd, .inl (cA, 32, .inl (jA fd))), (ta, .inr (3, [.ref ts, .int (jI tn), .int (jI (f_XT_rewind tn tp tw tf)), .int (jI tw)])), (ts, .inl (cA, 400, .inl (jA tf)))] H := hP
  have hD : va_D A [(rda, .inr (2, [.ref ta])), (ba, .inr (0, [.ref bt, .ref bp, .ref bl, .ref bh, .ref bq, .ref br, .ref bd, .int (jI bg), .int (jI bf)])), (bt, .inl (cA, 31, .inl (jA ft))), (bl, .inl (cA, 248, .inl (jA fl))), (bh, .inl (cA, 248, .inl (jA fh))), (bq, .inl (cA, 124, .inl (jA fq))), (br, .inl (cA, 31, .inl (jA fr))), (bd, .inl (cA, 32, .inl (jA fd))), (ta, .inr (3, [.ref ts, .int (jI tn), .int (jI (f_XT_rewind tn tp tw tf)), .int (jI tw)])), (ts, .inl (cA, 400, .inl (jA tf)))] := hD
  have f := f_XT_rewind_b tn tp tw tf
  refine ji_iconst hx hb dXR_text_7 ?_
  refine lv_istore_n (lv' := [(2, .int (jI 0)), (0, .ref rda), (1, .ref ba)]) hx hb dXR_text_8 rfl hl (by decide) rfl (fun ls hl => ?_)
  have loop9 : ∀ (n9 : Nat) (k : Int) (q : Int) (w : Int) (yt : Int → Int) (yl : Int → Int) (yh : Int → Int) (yq : Int → Int) (yr : Int → Int) (yd : Int → Int) (yg : Int) (yf : Int) , 400 - k < (n9 : Int) → f_XR_text_L9 tn tp tw tf bg bf ft fl fh fq fr fd n9 k q w yt yl yh yq yr yd yg yf = f_XR_text tn tp tw tf bg bf ft fl fh fq fr fd → (0 ≤ k ∧ k ≤ 400) → (0 ≤ q ∧ q ≤ tn) → (∀ i, 0 ≤ yt i ∧ yt i ≤ 30) → (∀ i, 0 ≤ yl i ∧ yl i ≤ 100000) → (∀ i, -1 ≤ yh i ∧ yh i ≤ 100000) → (∀ i, -1 ≤ yq i ∧ yq i ≤ 999999) → (∀ i, 0 ≤ yr i ∧ yr i < 2147483648) → (∀ i, 0 ≤ yd i ∧ yd i ≤ 20) → (0 ≤ yg ∧ yg < 2147483648) → (0 ≤ yf ∧ yf < 2147483648) → ∀ (H : Heap) (locs : List Loc), va_P (dC, dI) vwCl [(rda, .inr (2, [.ref ta])), (ba, .inr (0, [.ref bt, .ref bp, .ref bl, .ref bh, .ref bq, .ref br, .ref bd, .int (jI yg), .int (jI yf)])), (bt, .inl (cA, 31, .inl (jA yt))), (bl, .inl (cA, 248, .inl (jA yl))), (bh, .inl (cA, 248, .inl (jA yh))), (bq, .inl (cA, 124, .inl (jA yq))), (br, .inl (cA, 31, .inl (jA yr))), (bd, .inl (cA, 32, .inl (jA yd))), (ta, .inr (3, [.ref ts, .int (jI tn), .int (jI q), .int (jI w)])), (ts, .inl (cA, 400, .inl (jA tf)))] H → va_D A [(rda, .inr (2, [.ref ta])), (ba, .inr (0, [.ref bt, .ref bp, .ref bl, .ref bh, .ref bq, .ref br, .ref bd, .int (jI yg), .int (jI yf)])), (bt, .inl (cA, 31, .inl (jA yt))), (bl, .inl (cA, 248, .inl (jA yl))), (bh, .inl (cA, 248, .inl (jA yh))), (bq, .inl (cA, 124, .inl (jA yq))), (br, .inl (cA, 31, .inl (jA yr))), (bd, .inl (cA, 32, .inl (jA yd))), (ta, .inr (3, [.ref ts, .int (jI tn), .int (jI q), .int (jI w)])), (ts, .inl (cA, 400, .inl (jA tf)))] → va_S A s.heap H locs → ∀ ls : Array Slot, lv_has ls 3 [(2, .int (jI k)), (0, .ref rda), (1, .ref ba)] → W p l e R s m ([.ref rda, .ref ba] : List Value).toArray below meth c H locs 0 0 Q (F0 m 9 ls []) := by
    intro n9
    induction n9 with
    | zero =>
      intro k q w yt yl yh yq yr yd yg yf hm hF hk hq hat hal hah haq har had hag haf
      exact absurd hm (by omega)
    | succ n9 ih9 =>
      intro k q w yt yl yh yq yr yd yg yf hm hF hk hq hat hal hah haq har had hag haf H locs hP hD hS ls hl
      refine lv_iload_n hx hb dXR_text_9 rfl (lv_at hl 0 rfl) ?_
      refine ji_sipush hx hb dXR_text_10 (by decide) ?_
      refine ji_icmp_ge (tgt := 43) hx hb dXR_text_13 (by decide) (by omega) (by omega) (fun c13_ => ?_) (fun c13_ => ?_)
      · refine ji_iconst hx hb dXR_text_43 ?_
        have hP9 := hP.sub (ws' := [(rda, .inr (2, [.ref ta])), (ta, .inr (3, [.ref ts, .int (jI tn), .int (jI q), .int (jI w)])), (ts, .inl (cA, 400, .inl (jA tf))), (ba, .inr (0, [.ref bt, .ref bp, .ref bl, .ref bh, .ref bq, .ref br, .ref bd, .int (jI yg), .int (jI yf)])), (bt, .inl (cA, 31, .inl (jA yt))), (bl, .inl (cA, 248, .inl (jA yl))), (bh, .inl (cA, 248, .inl (jA yh))), (bq, .inl (cA, 124, .inl (jA yq))), (br, .inl (cA, 31, .inl (jA yr))), (bd, .inl (cA, 32, .inl (jA yd)))]) [0, 8, 9, 1, 2, 3, 4, 5, 6, 7] rfl
        have hD9 := hD.sub (ws' := [(rda, .inr (2, [.ref ta])), (ta, .inr (3, [.ref ts, .int (jI tn), .int (jI q), .int (jI w)])), (ts, .inl (cA, 400, .inl (jA tf))), (ba, .inr (0, [.ref bt, .ref bp, .ref bl, .ref bh, .ref bq, .ref br, .ref bd, .int (jI yg), .int (jI yf)])), (bt, .inl (cA, 31, .inl (jA yt))), (bl, .inl (cA, 248, .inl (jA yl))), (bh, .inl (cA, 248, .inl (jA yh))), (bq, .inl (cA, 124, .inl (jA yq))), (br, .inl (cA, 31, .inl (jA yr))), (bd, .inl (cA, 32, .inl (jA yd)))]) [0, 8, 9, 1, 2, 3, 4, 5, 6, 7] (by decide) rfl
        subst hAe
        subst hQ
        exact W.zret (v := jI 1) hx hb hr (by first | decide | exact jz (by omega)) (fun t ht hW => ⟨⟨_, (1, q, w, yt, yl, yh, yq, yr, yd, yg, yf), rfl, ⟨rfl, Eq.trans (by rw [f_XR_text_L9_s]; rw [if_neg (Int.not_lt.mpr c13_)]; try rfl) hF, show 0 ≤ 1 ∧ 1 ≤ 1 from by first | assumption | omega, show 0 ≤ q ∧ q ≤ tn from by first | assumption | omega, show ∀ i, 0 ≤ yt i ∧ yt i ≤ 30 from by first | assumption | omega, show ∀ i, 0 ≤ yl i ∧ yl i ≤ 100000 from by first | assumption | omega, show ∀ i, -1 ≤ yh i ∧ yh i ≤ 100000 from by first | assumption | omega, show ∀ i, -1 ≤ yq i ∧ yq i ≤ 999999 from by first | assumption | omega, show ∀ i, 0 ≤ yr i ∧ yr i < 2147483648 from by first | assumption | omega, show ∀ i, 0 ≤ yd i ∧ yd i ≤ 20 from by first | assumption | omega, show 0 ≤ yg ∧ yg < 2147483648 from by first | assumption | omega, show 0 ≤ yf ∧ yf < 2147483648 from by first | assumption | omega⟩, ⟨by rw [ht]; exact hP9, va_K.moved hW.alike hK, hD9⟩⟩, hS.F ht⟩) hS.2.2 dXR_text_44
      · refine lv_aload_n hx hb dXR_text_16 rfl (lv_at hl 1 rfl) ?_
        refine va_get (D := (dC, dI)) (ci := 2) (v := .ref ta) (C := RXR) (T := TXR) (N := 1) hx hb hts (fun w h => jmem (inXR w h)) hown hK hP 0 rfl rfl 0 (by decide) (hts _ (jmem tw_50)) (fun _ h9 => h9) rfl dXR_text_17 ?_
        refine jwVi (rest := []) (wr := [(rda, .inr (2, [.ref ta])), (ba, .inr (0, [.ref bt, .ref bp, .ref bl, .ref bh, .ref bq, .ref br, .ref bd, .int (jI yg), .int (jI yf)])), (bt, .inl (cA, 31, .inl (jA yt))), (bl, .inl (cA, 248, .inl (jA yl))), (bh, .inl (cA, 248, .inl (jA yh))), (bq, .inl (cA, 124, .inl (jA yq))), (br, .inl (cA, 31, .inl (jA yr))), (bd, .inl (cA, 32, .inl (jA yd)))]) ⟨hx, hb, hml, hown, hts⟩ (c_XT_next l dC dI cA _ ta ts tn q w tf (by first | assumption | omega) (by first | assumption | omega) (by first | assumption | omega)) (cwV 0 hts (jG_V tw_142 tw_143 tw_144 tw_2 tw_145) rfl rfl rfl (by decide +kernel) (by rw [hR]; exact ⟨Nat.le_of_ble_eq_true rfl, Nat.le_of_ble_eq_true rfl⟩)) hK hP hD hS hA hN [8, 9] [0, 1, 2, 3, 4, 5, 6, 7] rfl rfl (by decide) (by decide) (by decide) 8 3 rfl rfl rfl rfl hl.1 rfl (Nat.le_of_ble_eq_true rfl) dXR_text_20 (by rw [hR]; exact ⟨Nat.le_of_ble_eq_true rfl, Nat.le_of_ble_eq_true rfl⟩) (fun v u1 H locs hwb hP hD hS => ?_)
        obtain ⟨r, tp1'⟩ := u1
        try dsimp only at hwb
        obtain ⟨er, hwb⟩ := hwb
        subst er
        have hP : va_P (dC, dI) vwCl [(rda, .inr (2, [.ref ta])), (ba, .inr (0, [.ref bt, .ref bp, .ref bl, .ref bh, .ref bq, .ref br, .ref bd, .int (jI yg), .int (jI yf)])), (bt, .inl (cA, 31, .inl (jA yt))), (bl, .inl (cA, 248, .inl (jA yl))), (bh, .inl (cA, 248, .inl (jA yh))), (bq, .inl (cA, 124, .inl (jA yq))), (br, .inl (cA, 31, .inl (jA yr))), (bd, .inl (cA, 32, .inl (jA yd))), (ta, .inr (3, [.ref ts, .int (jI tn), .int (jI tp1'), .int (jI w)])), (ts, .inl (cA, 400, .inl (jA tf)))] H := hP
        have hD : va_D A [(rda, .inr (2, [.ref ta])), (ba, .inr (0, [.ref bt, .ref bp, .ref bl, .ref bh, .ref bq, .ref br, .ref bd, .int (jI yg), .int (jI yf)])), (bt, .inl (cA, 31, .inl (jA yt))), (bl, .inl (cA, 248, .inl (jA yl))), (bh, .inl (cA, 248, .inl (jA yh))), (bq, .inl (cA, 124, .inl (jA yq))), (br, .inl (cA, 31, .inl (jA yr))), (bd, .inl (cA, 32, .inl (jA yd))), (ta, .inr (3, [.ref ts, .int (jI tn), .int (jI tp1'), .int (jI w)])), (ts, .inl (cA, 400, .inl (jA tf)))] := hD
        have f2 := f_XT_next_b tn q w tf (by first | assumption | omega) (by first | assumption | omega) (by first | assumption | omega)
        rw [← hwb] at f2; try dsimp only at f2
        refine ji_iconst hx hb dXR_text_23 ?_
        refine ji_icmp_eq (tgt := 43) hx hb dXR_text_24 (by decide) (by omega) (by omega) (fun c24_ => ?_) (fun c24_ => ?_)
        · refine ji_iconst hx hb dXR_text_43 ?_
          have hP9 := hP.sub (ws' := [(rda, .inr (2, [.ref ta])), (ta, .inr (3, [.ref ts, .int (jI tn), .int (jI tp1'), .int (jI w)])), (ts, .inl (cA, 400, .inl (jA tf))), (ba, .inr (0, [.ref bt, .ref bp, .ref bl, .ref bh, .ref bq, .ref br, .ref bd, .int (jI yg), .int (jI yf)])), (bt, .inl (cA, 31, .inl (jA yt))), (bl, .inl (cA, 248, .inl (jA yl))), (bh, .inl (cA, 248, .inl (jA yh))), (bq, .inl (cA, 124, .inl (jA yq))), (br, .inl (cA, 31, .inl (jA yr))), (bd, .inl (cA, 32, .inl (jA yd)))]) [0, 8, 9, 1, 2, 3, 4, 5, 6, 7] rfl
          have hD9 := hD.sub (ws' := [(rda, .inr (2, [.ref ta])), (ta, .inr (3, [.ref ts, .int (jI tn), .int (jI tp1'), .int (jI w)])), (ts, .inl (cA, 400, .inl (jA tf))), (ba, .inr (0, [.ref bt, .ref bp, .ref bl, .ref bh, .ref bq, .ref br, .ref bd, .int (jI yg), .int (jI yf)])), (bt, .inl (cA, 31, .inl (jA yt))), (bl, .inl (cA, 248, .inl (jA yl))), (bh, .inl (cA, 248, .inl (jA yh))), (bq, .inl (cA, 124, .inl (jA yq))), (br, .inl (cA, 31, .inl (jA yr))), (bd, .inl (cA, 32, .inl (jA yd)))]) [0, 8, 9, 1, 2, 3, 4, 5, 6, 7] (by decide) rfl
          subst hAe
          subst hQ
          exact W.zret (v := jI 1) hx hb hr (by first | decide | exact jz (by omega)) (fun t ht hW => ⟨⟨_, (1, tp1', w, yt, yl, yh, yq, yr, yd, yg, yf), rfl, ⟨rfl, Eq.trans (by rw [f_XR_text_L9_s]; rw [if_pos c13_]; rw [← hwb]; try dsimp only; rw [if_pos c24_]; try rfl) hF, show 0 ≤ 1 ∧ 1 ≤ 1 from by first | assumption | omega, show 0 ≤ tp1' ∧ tp1' ≤ tn from by first | assumption | omega, show ∀ i, 0 ≤ yt i ∧ yt i ≤ 30 from by first | assumption | omega, show ∀ i, 0 ≤ yl i ∧ yl i ≤ 100000 from by first | assumption | omega, show ∀ i, -1 ≤ yh i ∧ yh i ≤ 100000 from by first | assumption | omega, show ∀ i, -1 ≤ yq i ∧ yq i ≤ 999999 from by first | assumption | omega, show ∀ i, 0 ≤ yr i ∧ yr i < 2147483648 from by first | assumption | omega, show ∀ i, 0 ≤ yd i ∧ yd i ≤ 20 from by first | assumption | omega, show 0 ≤ yg ∧ yg < 2147483648 from by first | assumption | omega, show 0 ≤ yf ∧ yf < 2147483648 from by first | assumption | omega⟩, ⟨by rw [ht]; exact hP9, va_K.moved hW.alike hK, hD9⟩⟩, hS.F ht⟩) hS.2.2 dXR_text_44
        · refine lv_aload_n hx hb dXR_text_27 rfl (lv_at hl 1 rfl) ?_
          refine lv_aload_n hx hb dXR_text_28 rfl (lv_at hl 2 rfl) ?_
          refine jwVi (rest := []) (wr := []) ⟨hx, hb, hml, hown, hts⟩ (c_XR_row l dC dI cA _ rda ta ts tn tp1' w tf ba bt bp bl bh bq br bd yg yf yt yl yh yq yr yd (by first | assumption | omega) (by first | assumption | omega) (by first | assumption | omega) (by first | assumption | omega) (by first | assumption | omega) (by first | assumption | omega) (by first | assumption | omega) (by first | assumption | omega) (by first | assumption | omega) (by first | assumption | omega) (by first | assumption | omega)) (cwV 1 hts (jG_V tw_146 tw_148 ts_0 tw_3 tw_149) rfl rfl rfl (by decide +kernel) (by rw [hR]; exact ⟨Nat.le_of_ble_eq_true rfl, Nat.le_of_ble_eq_true rfl⟩)) hK hP hD hS hA hN [0, 8, 9, 1, 2, 3, 4, 5, 6, 7] [] rfl rfl (by decide) (by decide) (by decide) 0 2 rfl rfl rfl rfl hl.1 rfl (Nat.le_of_ble_eq_true rfl) dXR_text_29 (by rw [hR]; exact ⟨Nat.le_of_ble_eq_true rfl, Nat.le_of_ble_eq_true rfl⟩) (fun v6 u5 H locs hwb7 hP hD hS => ?_)
          obtain ⟨r3, tp1'4, tw1', ft1', fl1', fh1', fq1', fr1', fd1', bg1', bf1'⟩ := u5
          try dsimp only at hwb7
          obtain ⟨er, hwb7, f8, f9, f10, f11, f12, f13, f14, f15, f16, f17⟩ := hwb7
          subst er
          have f8 : 0 ≤ r3 ∧ r3 ≤ 1 := f8
          have f9 : 0 ≤ tp1'4 ∧ tp1'4 ≤ tn := f9
          have f10 : ∀ i, 0 ≤ ft1' i ∧ ft1' i ≤ 30 := f10
          have f11 : ∀ i, 0 ≤ fl1' i ∧ fl1' i ≤ 100000 := f11
          have f12 : ∀ i, -1 ≤ fh1' i ∧ fh1' i ≤ 100000 := f12
          have f13 : ∀ i, -1 ≤ fq1' i ∧ fq1' i ≤ 999999 := f13
          have f14 : ∀ i, 0 ≤ fr1' i ∧ fr1' i < 2147483648 := f14
          have f15 : ∀ i, 0 ≤ fd1' i ∧ fd1' i ≤ 20 := f15
          have f16 : 0 ≤ bg1' ∧ bg1' < 2147483648 := f16
          have f17 : 0 ≤ bf1' ∧ bf1' < 2147483648 := f17
          have hP : va_P (dC, dI) vwCl [(rda, .inr (2, [.ref ta])), (ta, .inr (3, [.ref ts, .int (jI tn), .int (jI tp1'4), .int (jI tw1')])), (ts, .inl (cA, 400, .inl (jA tf))), (ba, .inr (0, [.ref bt, .ref bp, .ref bl, .ref bh, .ref bq, .ref br, .ref bd, .int (jI bg1'), .int (jI bf1')])), (bt, .inl (cA, 31, .inl (jA ft1'))), (bl, .inl (cA, 248, .inl (jA fl1'))), (bh, .inl (cA, 248, .inl (jA fh1'))), (bq, .inl (cA, 124, .inl (jA fq1'))), (br, .inl (cA, 31, .inl (jA fr1'))), (bd, .inl (cA, 32, .inl (jA fd1')))] H := hP
          have hD : va_D A [(rda, .inr (2, [.ref ta])), (ta, .inr (3, [.ref ts, .int (jI tn), .int (jI tp1'4), .int (jI tw1')])), (ts, .inl (cA, 400, .inl (jA tf))), (ba, .inr (0, [.ref bt, .ref bp, .ref bl, .ref bh, .ref bq, .ref br, .ref bd, .int (jI bg1'), .int (jI bf1')])), (bt, .inl (cA, 31, .inl (jA ft1'))), (bl, .inl (cA, 248, .inl (jA fl1'))), (bh, .inl (cA, 248, .inl (jA fh1'))), (bq, .inl (cA, 124, .inl (jA fq1'))), (br, .inl (cA, 31, .inl (jA fr1'))), (bd, .inl (cA, 32, .inl (jA fd1')))] := hD
          refine ji_if_ne (tgt := 37) hx hb dXR_text_32 (by decide) (by omega) (fun c32_ => ?_) (fun c32_ => ?_)
          · refine ji_iinc (k := 0) (lv' := [(2, .int (jI (k + 1))), (0, .ref rda), (1, .ref ba)]) hx hb dXR_text_37 hl rfl (by decide) rfl (fun ls hl => ?_)
            refine lv_goto (tgt := 9) hx hb dXR_text_40 (by decide) ?_
            exact ih9 (k + 1) tp1'4 tw1' ft1' fl1' fh1' fq1' fr1' fd1' bg1' bf1' (by omega) (Eq.trans (by rw [f_XR_text_L9_s]; rw [if_pos c13_]; rw [← hwb]; try dsimp only; rw [if_neg c24_]; rw [← hwb7]; try dsimp only; rw [if_neg c32_]; try rfl) hF) (by first | assumption | omega) (by first | assumption | omega) (by first | assumption | omega) (by first | assumption | omega) (by first | assumption | omega) (by first | assumption | omega) (by first | assumption | omega) (by first | assumption | omega) (by first | assumption | omega) (by first | assumption | omega) _ _ (hP.sub [0, 3, 4, 5, 6, 7, 8, 9, 1, 2] rfl) (hD.sub [0, 3, 4, 5, 6, 7, 8, 9, 1, 2] (by decide) rfl) hS ls (lv_sub hl [0, 1, 2] rfl)
          · refine ji_iconst hx hb dXR_text_35 ?_
            have hP9 := hP.sub (ws' := [(rda, .inr (2, [.ref ta])), (ta, .inr (3, [.ref ts, .int (jI tn), .int (jI tp1'4), .int (jI tw1')])), (ts, .inl (cA, 400, .inl (jA tf))), (ba, .inr (0, [.ref bt, .ref bp, .ref bl, .ref bh, .ref bq, .ref br, .ref bd, .int (jI bg1'), .int (jI bf1')])), (bt, .inl (cA, 31, .inl (jA ft1'))), (bl, .inl (cA, 248, .inl (jA fl1'))), (bh, .inl (cA, 248, .inl (jA fh1'))), (bq, .inl (cA, 124, .inl (jA fq1'))), (br, .inl (cA, 31, .inl (jA fr1'))), (bd, .inl (cA, 32, .inl (jA fd1')))]) [0, 1, 2, 3, 4, 5, 6, 7, 8, 9] rfl
            have hD9 := hD.sub (ws' := [(rda, .inr (2, [.ref ta])), (ta, .inr (3, [.ref ts, .int (jI tn), .int (jI tp1'4), .int (jI tw1')])), (ts, .inl (cA, 400, .inl (jA tf))), (ba, .inr (0, [.ref bt, .ref bp, .ref bl, .ref bh, .ref bq, .ref br, .ref bd, .int (jI bg1'), .int (jI bf1')])), (bt, .inl (cA, 31, .inl (jA ft1'))), (bl, .inl (cA, 248, .inl (jA fl1'))), (bh, .inl (cA, 248, .inl (jA fh1'))), (bq, .inl (cA, 124, .inl (jA fq1'))), (br, .inl (cA, 31, .inl (jA fr1'))), (bd, .inl (cA, 32, .inl (jA fd1')))]) [0, 1, 2, 3, 4, 5, 6, 7, 8, 9] (by decide) rfl
            subst hAe
            subst hQ
            exact W.zret (v := jI 0) hx hb hr (by first | decide | exact jz (by omega)) (fun t ht hW => ⟨⟨_, (0, tp1'4, tw1', ft1', fl1', fh1', fq1', fr1', fd1', bg1', bf1'), rfl, ⟨rfl, Eq.trans (by rw [f_XR_text_L9_s]; rw [if_pos c13_]; rw [← hwb]; try dsimp only; rw [if_neg c24_]; rw [← hwb7]; try dsimp only; rw [if_pos c32_]; try rfl) hF, show 0 ≤ 0 ∧ 0 ≤ 1 from by first | assumption | omega, show 0 ≤ tp1'4 ∧ tp1'4 ≤ tn from by first | assumption | omega, show ∀ i, 0 ≤ ft1' i ∧ ft1' i ≤ 30 from by first | assumption | omega, show ∀ i, 0 ≤ fl1' i ∧ fl1' i ≤ 100000 from by first | assumption | omega, show ∀ i, -1 ≤ fh1' i ∧ fh1' i ≤ 100000 from by first | assumption | omega, show ∀ i, -1 ≤ fq1' i ∧ fq1' i ≤ 999999 from by first | assumption | omega, show ∀ i, 0 ≤ fr1' i ∧ fr1' i < 2147483648 from by first | assumption | omega, show ∀ i, 0 ≤ fd1' i ∧ fd1' i ≤ 20 from by first | assumption | omega, show 0 ≤ bg1' ∧ bg1' < 2147483648 from by first | assumption | omega, show 0 ≤ bf1' ∧ bf1' < 2147483648 from by first | assumption | omega⟩, ⟨by rw [ht]; exact hP9, va_K.moved hW.alike hK, hD9⟩⟩, hS.F ht⟩) hS.2.2 dXR_text_36
  exact loop9 (Int.toNat (400 - 0) + 1) 0 (f_XT_rewind tn tp tw tf) tw ft fl fh fq fr fd bg bf (by omega) (Eq.trans (by rw [f_XR_text_s]; try rfl) rfl) (by first | assumption | omega) (by first | assumption | omega) (by first | assumption | omega) (by first | assumption | omega) (by first | assumption | omega) (by first | assumption | omega) (by first | assumption | omega) (by first | assumption | omega) (by first | assumption | omega) (by first | assumption | omega) _ _ hP hD hS ls (lv_sub hl [0, 1, 2] rfl)
