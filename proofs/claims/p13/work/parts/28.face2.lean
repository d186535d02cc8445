section
noncomputable def g_XG_span (bg : Int) (bf : Int) (fp : Int → Int) (fl : Int → Int) (fh : Int → Int) (z1 : Int) (z2 : Int) (z3 : Int) : Int × Int :=
  if (f_XG_needGrade bg bf z1) = 0 then
    if (f_XG_needBelow z2 8) = 0 then
      if (f_XG_needBelow z3 2) = 0 then
        (0, f_XB_endOf bg bf fp fl fh z1 z2 z3)
      else
        (f_XG_needBelow z3 2, 0)
    else
      (f_XG_needBelow z2 8, 0)
  else
    (f_XG_needGrade bg bf z1, 0)
noncomputable def f_XG_span : Int → Int → (Int → Int) → (Int → Int) → (Int → Int) → Int → Int → Int → Int × Int := jopq g_XG_span
theorem f_XG_span_q : f_XG_span = g_XG_span := jopq_eq _
theorem f_XG_span_s (bg : Int) (bf : Int) (fp : Int → Int) (fl : Int → Int) (fh : Int → Int) (z1 : Int) (z2 : Int) (z3 : Int) : f_XG_span bg bf fp fl fh z1 z2 z3 = (
    if (f_XG_needGrade bg bf z1) = 0 then
      if (f_XG_needBelow z2 8) = 0 then
        if (f_XG_needBelow z3 2) = 0 then
          (0, f_XB_endOf bg bf fp fl fh z1 z2 z3)
        else
          (f_XG_needBelow z3 2, 0)
      else
        (f_XG_needBelow z2 8, 0)
    else
      (f_XG_needGrade bg bf z1, 0)
  : Int × Int) := by rw [f_XG_span_q]; rfl
set_option maxHeartbeats 4000000 in
set_option maxRecDepth 100000 in
theorem c_XG_span (l : Launch) (hst : l.stackTraces = false) (dC : Nat → ClassId) (dI : Nat → Nat → Nat) (cA : ClassId) (ga : Nat) (ta : Nat) (rda : Nat) (pa : Nat) (sa : Nat) (ea : Nat) (ba : Nat) (da : Nat) (bt : Nat) (bp : Nat) (bl : Nat) (bh : Nat) (bq : Nat) (br : Nat) (bd : Nat) (bg : Int) (bf : Int) (fp : Int → Int) (fl : Int → Int) (fh : Int → Int) (z1 : Int) (z2 : Int) (z3 : Int) (hbp : ∀ i, 0 ≤ fp i ∧ fp i ≤ 30) (hbl : ∀ i, 0 ≤ fl i ∧ fl i ≤ 100000) (hbh : ∀ i, -1 ≤ fh i ∧ fh i ≤ 100000) (hbg : 0 ≤ bg ∧ bg < 2147483648) (hi_z1 : i32 z1) (hi_z2 : i32 z2) (hi_z3 : i32 z3) : YMet l yXG_span (Cond.code yXG_span cXG_span 4 (some .int) :: TBL) ({ frames := 7, cells := 1, slots := 6, locals := 103 } : Room) (va_Pc [.ref ga, .int (jI z1), .int (jI z2), .int (jI z3)] (jBx (dC, dI) [(cA, .int)] [(ga, .inr (4, [.ref ta, .ref rda, .ref pa, .ref sa, .ref ea, .ref ba, .ref da])), (ba, .inr (0, [.ref bt, .ref bp, .ref bl, .ref bh, .ref bq, .ref br, .ref bd, .int (jI bg), .int (jI bf)])), (bp, .inl (cA, 31, .inl (jA fp))), (bl, .inl (cA, 248, .inl (jA fl))), (bh, .inl (cA, 248, .inl (jA fh)))])) (xQ (f_XG_span bg bf fp fl fh z1 z2 z3).1 (vp_Si (fun r => r = jI (f_XG_span bg bf fp fl fh z1 z2 z3).2))) 0 0 1 6 (fun _ => False) := by
  refine YMet.ofW (cc := cXG_span) (maxL := 4) (ret := some .int) (by decide) rfl ?_
  intro p e s m args below meth c s₁ R Q hR hQ B hml htab hv
  obtain ⟨rfl, ⟨hP, hK, hN⟩, hX⟩ := hv
  have hx := B.exec
  have hb := B.bytes
  have hr := B.returns
  have hts := atoms_spec (ws := Cond.code yXG_span cXG_span 4 (some .int) :: TBL) B.pre
  have hown : s.vm.findClass RXG = some m.cls := findClass_of_methodNamed B.named
  have hlocks := B.notSynchronized
  have hP : va_P (dC, dI) vwCl [(ga, .inr (4, [.ref ta, .ref rda, .ref pa, .ref sa, .ref ea, .ref ba, .ref da])), (ba, .inr (0, [.ref bt, .ref bp, .ref bl, .ref bh, .ref bq, .ref br, .ref bd, .int (jI bg), .int (jI bf)])), (bp, .inl (cA, 31, .inl (jA fp))), (bl, .inl (cA, 248, .inl (jA fl))), (bh, .inl (cA, 248, .inl (jA fh)))] s.heap := hP
  have hl := lv_entry ([.ref ga, .int (jI z1), .int (jI z2), .int (jI z3)]) (n := 4) (Nat.le_of_ble_eq_true rfl)
  rw [lg_entry_eq]
  generalize (lg_sl ([.ref ga, .int (jI z1), .int (jI z2), .int (jI z3)]) ++ List.replicate (4 - (lg_sl ([.ref ga, .int (jI z1), .int (jI z2), .int (jI z3)])).length) Slot.unset).toArray = ls at hl ⊢
  have hl : lv_has ls 4 [(0, .ref ga), (1, .int (jI z1)), (2, .int (jI z2)), (3, .int (jI z3))] := hl
  refine lv_aload_n hx hb dXG_span_0 rfl (lv_at hl 0 rfl) ?_
  refine lv_iload_n hx hb dXG_span_1 rfl (lv_at hl 1 rfl) ?_
  rw [hQ]
  refine yrV (rest := []) ⟨hx, hb, hml, hown, hts⟩ (c_XG_needGrade l hst dC dI cA ga ta rda pa sa ea da ba bt bp bl bh bq br bd bg bf z1 (by first | assumption | omega) (by first | assumption | omega)) (cwV 1 hts (jG_V tw_412 tw_414 ts_9 tw_1 tw_415) rfl rfl rfl (by decide +kernel) (by rw [hR]; exact ⟨Nat.le_of_ble_eq_true rfl, Nat.le_of_ble_eq_true rfl⟩)) hK hP hN hX [0, 1] rfl 0 4 rfl rfl rfl rfl hl.1 rfl (Nat.le_of_ble_eq_true rfl) dXG_span_2 (by rw [hR]; exact ⟨Nat.le_of_ble_eq_true rfl, Nat.le_of_ble_eq_true rfl⟩) htab hlocks rfl (fun c2_ => ?_) (fun c2_ o9 t9 h9 => (by
    have hz9 : (f_XG_needGrade bg bf z1, 0) = f_XG_span bg bf fp fl fh z1 z2 z3 := Eq.trans (by rw [f_XG_span_s]; rw [if_neg c2_]; try rfl) rfl
    exact Or.inr ⟨by rw [← hz9]; exact c2_, by rw [← hz9]; exact h9⟩)) (Nat.le_of_ble_eq_true rfl) (Nat.le_of_ble_eq_true rfl)
  rw [← hQ]
  have f := f_XG_needGrade_b bg bf z1 (by first | assumption | omega) (by first | assumption | omega)
  refine lv_iload_n hx hb dXG_span_5 rfl (lv_at hl 2 rfl) ?_
  refine ji_bipush hx hb dXG_span_6 (by decide) ?_
  rw [hQ]
  refine yrS (rest := []) ⟨hx, hb, hml, hown, hts⟩ (c_XG_needBelow l hst dC dI cA z2 8 (by first | assumption | omega) (by first | assumption | omega)) (cwS 2 hts (jG_S tw_433 tw_434 tw_1 tw_435) rfl rfl rfl (by decide +kernel) (by rw [hR]; exact ⟨Nat.le_of_ble_eq_true rfl, Nat.le_of_ble_eq_true rfl⟩)) hK hP hN hX [] rfl rfl hl.1 rfl (Nat.le_of_ble_eq_true rfl) dXG_span_8 (by rw [hR]; exact ⟨Nat.le_of_ble_eq_true rfl, Nat.le_of_ble_eq_true rfl⟩) htab hlocks rfl (fun c8_ => ?_) (fun c8_ o9 t9 h9 => (by
    have hz9 : (f_XG_needBelow z2 8, 0) = f_XG_span bg bf fp fl fh z1 z2 z3 := Eq.trans (by rw [f_XG_span_s]; rw [if_pos c2_, if_neg c8_]; try rfl) rfl
    exact Or.inr ⟨by rw [← hz9]; exact c8_, by rw [← hz9]; exact h9⟩)) (Nat.le_of_ble_eq_true rfl) (Nat.le_of_ble_eq_true rfl)
  rw [← hQ]
  have f1 := f_XG_needBelow_b z2 8 (by first | assumption | omega) (by first | assumption | omega)
  refine lv_iload_n hx hb dXG_span_11 rfl (lv_at hl 3 rfl) ?_
  refine ji_iconst hx hb dXG_span_12 ?_
  rw [hQ]
  refine yrS (rest := []) ⟨hx, hb, hml, hown, hts⟩ (c_XG_needBelow l hst dC dI cA z3 2 (by first | assumption | omega) (by first | assumption | omega)) (cwS 2 hts (jG_S tw_433 tw_434 tw_1 tw_435) rfl rfl rfl (by decide +kernel) (by rw [hR]; exact ⟨Nat.le_of_ble_eq_true rfl, Nat.le_of_ble_eq_true rfl⟩)) hK hP hN hX [] rfl rfl hl.1 rfl (Nat.le_of_ble_eq_true rfl) dXG_span_13 (by rw [hR]; exact ⟨Nat.le_of_ble_eq_true rfl, Nat.le_of_ble_eq_true rfl⟩) htab hlocks rfl (fun c13_ => ?_) (fun c13_ o9 t9 h9 => (by
    have hz9 : (f_XG_needBelow z3 2, 0) = f_XG_span bg bf fp fl fh z1 z2 z3 := Eq.trans (by rw [f_XG_span_s]; rw [if_pos c2_, if_pos c8_, if_neg c13_]; try rfl) rfl
    exact Or.inr ⟨by rw [← hz9]; exact c13_, by rw [← hz9]; exact h9⟩)) (Nat.le_of_ble_eq_true rfl) (Nat.le_of_ble_eq_true rfl)
  rw [← hQ]
  have f2 := f_XG_needBelow_b z3 2 (by first | assumption | omega) (by first | assumption | omega)
  refine lv_aload_n hx hb dXG_span_16 rfl (lv_at hl 0 rfl) ?_
  refine va_get (D := (dC, dI)) (ci := 4) (v := .ref ba) (C := RXG) (T := TXG) (N := 7) hx hb hts (fun w h => jmem (inXG w h)) hown hK hP 0 rfl rfl 5 (by decide) (hts _ (jmem tw_106)) (fun _ h9 => h9) rfl dXG_span_17 ?_
  refine lv_iload_n hx hb dXG_span_20 rfl (lv_at hl 1 rfl) ?_
  refine lv_iload_n hx hb dXG_span_21 rfl (lv_at hl 2 rfl) ?_
  refine lv_iload_n hx hb dXG_span_22 rfl (lv_at hl 3 rfl) ?_
  refine jrVi (rest := []) ⟨hx, hb, hml, hown, hts⟩ (c_XB_endOf l dC dI cA ba bt bp bl bh bq br bd bg bf fp fl fh z1 z2 z3 (by first | assumption | omega) (by first | assumption | omega) (by first | assumption | omega) (by first | assumption | omega) (by first | assumption | omega) (by first | assumption | omega)) (cwV 3 hts (jG_V tw_437 tw_438 tw_439 tw_5 tw_440) rfl rfl rfl (by decide +kernel) (by rw [hR]; exact ⟨Nat.le_of_ble_eq_true rfl, Nat.le_of_ble_eq_true rfl⟩)) hK hP hN [1, 2, 3, 4] rfl 1 0 rfl rfl rfl rfl hl.1 rfl (Nat.le_of_ble_eq_true rfl) dXG_span_23 (by rw [hR]; exact ⟨Nat.le_of_ble_eq_true rfl, Nat.le_of_ble_eq_true rfl⟩) ?_
  have f3 := f_XB_endOf_b bg bf fp fl fh z1 z2 z3 (by first | assumption | omega) (by first | assumption | omega) (by first | assumption | omega) (by first | assumption | omega) (by first | assumption | omega) (by first | assumption | omega)
  have hz9 : (0, f_XB_endOf bg bf fp fl fh z1 z2 z3) = f_XG_span bg bf fp fl fh z1 z2 z3 := Eq.trans (by rw [f_XG_span_s]; rw [if_pos c2_, if_pos c8_, if_pos c13_]; try rfl) rfl
  subst hQ
  refine yW (fun _ h => yQ_of h) ?_
  exact W.iret (v := jI (f_XB_endOf bg bf fp fl fh z1 z2 z3)) hx hb hr (fun t ht hW => Or.inl ⟨(congrArg Prod.fst hz9).symm, _, rfl, congrArg jI (congrArg Prod.snd hz9), ht⟩) (fun _ h => nomatch h) dXG_span_26
noncomputable def g_XG_limit (bg : Int) (bf : Int) (fp : Int → Int) (fq : Int → Int) (z1 : Int) (z2 : Int) : Int × Int :=
  if (f_XG_needGrade bg bf z1) = 0 then
    if (f_XG_needBelow z2 4) = 0 then
      (0, f_XB_limitOf bg bf fp fq z1 z2)
    else
      (f_XG_needBelow z2 4, 0)
  else
    (f_XG_needGrade bg bf z1, 0)
noncomputable def f_XG_limit : Int → Int → (Int → Int) → (Int → Int) → Int → Int → Int × Int := jopq g_XG_limit
theorem f_XG_limit_q : f_XG_limit = g_XG_limit := jopq_eq _
theorem f_XG_limit_s (bg : Int) (bf : Int) (fp : Int → Int) (fq : Int → Int) (z1 : Int) (z2 : Int) : f_XG_limit bg bf fp fq z1 z2 = (
    if (f_XG_needGrade bg bf z1) = 0 then
      if (f_XG_needBelow z2 4) = 0 then
        (0, f_XB_limitOf bg bf fp fq z1 z2)
      else
        (f_XG_needBelow z2 4, 0)
    else
      (f_XG_needGrade bg bf z1, 0)
  : Int × Int) := by rw [f_XG_limit_q]; rfl
set_option maxHeartbeats 4000000 in
set_option maxRecDepth 100000 in
theorem c_XG_limit (l : Launch) (hst : l.stackTraces = false) (dC : Nat → ClassId) (dI : Nat → Nat → Nat) (cA : ClassId) (ga : Nat) (ta : Nat) (rda : Nat) (pa : Nat) (sa : Nat) (ea : Nat) (ba : Nat) (da : Nat) (bt : Nat) (bp : Nat) (bl : Nat) (bh : Nat) (bq : Nat) (br : Nat) (bd : Nat) (bg : Int) (bf : Int) (fp : Int → Int) (fq : Int → Int) (z1 : Int) (z2 : Int) (hbp : ∀ i, 0 ≤ fp i ∧ fp i ≤ 30) (hbq : ∀ i, -1 ≤ fq i ∧ fq i ≤ 999999) (hbg : 0 ≤ bg ∧ bg < 2147483648) (hi_z1 : i32 z1) (hi_z2 : i32 z2) : YMet l yXG_limit (Cond.code yXG_limit cXG_limit 3 (some .int) :: TBL) ({ frames := 7, cells := 1, slots := 6, locals := 103 } : Room) (va_Pc [.ref ga, .int (jI z1), .int (jI z2)] (jBx (dC, dI) [(cA, .int)] [(ga, .inr (4, [.ref ta, .ref rda, .ref pa, .ref sa, .ref ea, .ref ba, .ref da])), (ba, .inr (0, [.ref bt, .ref bp, .ref bl, .ref bh, .ref bq, .ref br, .ref bd, .int (jI bg), .int (jI bf)])), (bp, .inl (cA, 31, .inl (jA fp))), (bq, .inl (cA, 124, .inl (jA fq)))])) (xQ (f_XG_limit bg bf fp fq z1 z2).1 (vp_Si (fun r => r = jI (f_XG_limit bg bf fp fq z1 z2).2))) 0 0 1 6 (fun _ => False) := by
  refine YMet.ofW (cc := cXG_limit) (maxL := 3) (ret := some .int) (by decide) rfl ?_
  intro p e s m args below meth c s₁ R Q hR hQ B hml htab hv
  obtain ⟨rfl, ⟨hP, hK, hN⟩, hX⟩ := hv
  have hx := B.exec
  have hb := B.bytes
  have hr := B.returns
  have hts := atoms_spec (ws := Cond.code yXG_limit cXG_limit 3 (some .int) :: TBL) B.pre
  have hown : s.vm.findClass RXG = some m.cls := findClass_of_methodNamed B.named
  have hlocks := B.notSynchronized
  have hP : va_P (dC, dI) vwCl [(ga, .inr (4, [.ref ta, .ref rda, .ref pa, .ref sa, .ref ea, .ref ba, .ref da])), (ba, .inr (0, [.ref bt, .ref bp, .ref bl, .ref bh, .ref bq, .ref br, .ref bd, .int (jI bg), .int (jI bf)])), (bp, .inl (cA, 31, .inl (jA fp))), (bq, .inl (cA, 124, .inl (jA fq)))] s.heap := hP
  have hl := lv_entry ([.ref ga, .int (jI z1), .int (jI z2)]) (n := 3) (Nat.le_of_ble_eq_true rfl)
  rw [lg_entry_eq]
  generalize (lg_sl ([.ref ga, .int (jI z1), .int (jI z2)]) ++ List.replicate (3 - (lg_sl ([.ref ga, .int (jI z1), .int (jI z2)])).length) Slot.unset).toArray = ls at hl ⊢
  have hl : lv_has ls 3 [(0, .ref ga), (1, .int (jI z1)), (2, .int (jI z2))] := hl
  refine lv_aload_n hx hb dXG_limit_0 rfl (lv_at hl 0 rfl) ?_
  refine lv_iload_n hx hb dXG_limit_1 rfl (lv_at hl 1 rfl) ?_
  rw [hQ]
  refine yrV (rest := []) ⟨hx, hb, hml, hown, hts⟩ (c_XG_needGrade l hst dC dI cA ga ta rda pa sa ea da ba bt bp bl bh bq br bd bg bf z1 (by first | assumption | omega) (by first | assumption | omega)) (cwV 1 hts (jG_V tw_412 tw_414 ts_9 tw_1 tw_415) rfl rfl rfl (by decide +kernel) (by rw [hR]; exact ⟨Nat.le_of_ble_eq_true rfl, Nat.le_of_ble_eq_true rfl⟩)) hK hP hN hX [0, 1] rfl 0 4 rfl rfl rfl rfl hl.1 rfl (Nat.le_of_ble_eq_true rfl) dXG_limit_2 (by rw [hR]; exact ⟨Nat.le_of_ble_eq_true rfl, Nat.le_of_ble_eq_true rfl⟩) htab hlocks rfl (fun c2_ => ?_) (fun c2_ o9 t9 h9 => (by
    have hz9 : (f_XG_needGrade bg bf z1, 0) = f_XG_limit bg bf fp fq z1 z2 := Eq.trans (by rw [f_XG_limit_s]; rw [if_neg c2_]; try rfl) rfl
    exact Or.inr ⟨by rw [← hz9]; exact c2_, by rw [← hz9]; exact h9⟩)) (Nat.le_of_ble_eq_true rfl) (Nat.le_of_ble_eq_true rfl)
  rw [← hQ]
  have f := f_XG_needGrade_b bg bf z1 (by first | assumption | omega) (by first | assumption | omega)
  refine lv_iload_n hx hb dXG_limit_5 rfl (lv_at hl 2 rfl) ?_
  refine ji_iconst hx hb dXG_limit_6 ?_
  rw [hQ]
  refine yrS (rest := []) ⟨hx, hb, hml, hown, hts⟩ (c_XG_needBelow l hst dC dI cA z2 4 (by first | assumption | omega) (by first | assumption | omega)) (cwS 2 hts (jG_S tw_433 tw_434 tw_1 tw_435) rfl rfl rfl (by decide +kernel) (by rw [hR]; exact ⟨Nat.le_of_ble_eq_true rfl, Nat.le_of_ble_eq_true rfl⟩)) hK hP hN hX [] rfl rfl hl.1 rfl (Nat.le_of_ble_eq_true rfl) dXG_limit_7 (by rw [hR]; exact ⟨Nat.le_of_ble_eq_true rfl, Nat.le_of_ble_eq_true rfl⟩) htab hlocks rfl (fun c7_ => ?_) (fun c7_ o9 t9 h9 => (by
    have hz9 : (f_XG_needBelow z2 4, 0) = f_XG_limit bg bf fp fq z1 z2 := Eq.trans (by rw [f_XG_limit_s]; rw [if_pos c2_, if_neg c7_]; try rfl) rfl
    exact Or.inr ⟨by rw [← hz9]; exact c7_, by rw [← hz9]; exact h9⟩)) (Nat.le_of_ble_eq_true rfl) (Nat.le_of_ble_eq_true rfl)
  rw [← hQ]
  have f1 := f_XG_needBelow_b z2 4 (by first | assumption | omega) (by first | assumption | omega)
  refine lv_aload_n hx hb dXG_limit_10 rfl (lv_at hl 0 rfl) ?_
  refine va_get (D := (dC, dI)) (ci := 4) (v := .ref ba) (C := RXG) (T := TXG) (N := 7) hx hb hts (fun w h => jmem (inXG w h)) hown hK hP 0 rfl rfl 5 (by decide) (hts _ (jmem tw_106)) (fun _ h9 => h9) rfl dXG_limit_11 ?_
  refine lv_iload_n hx hb dXG_limit_14 rfl (lv_at hl 1 rfl) ?_
  refine lv_iload_n hx hb dXG_limit_15 rfl (lv_at hl 2 rfl) ?_
  refine jrVi (rest := []) ⟨hx, hb, hml, hown, hts⟩ (c_XB_limitOf l dC dI cA ba bt bp bl bh bq br bd bg bf fp fq z1 z2 (by first | assumption | omega) (by first | assumption | omega) (by first | assumption | omega) (by first | assumption | omega)) (cwV 2 hts (jG_V tw_450 tw_451 tw_452 tw_5 tw_453) rfl rfl rfl (by decide +kernel) (by rw [hR]; exact ⟨Nat.le_of_ble_eq_true rfl, Nat.le_of_ble_eq_true rfl⟩)) hK hP hN [1, 2, 3] rfl 1 0 rfl rfl rfl rfl hl.1 rfl (Nat.le_of_ble_eq_true rfl) dXG_limit_16 (by rw [hR]; exact ⟨Nat.le_of_ble_eq_true rfl, Nat.le_of_ble_eq_true rfl⟩) ?_
  have f2 := f_XB_limitOf_b bg bf fp fq z1 z2 (by first | assumption | omega) (by first | assumption | omega) (by first | assumption | omega) (by first | assumption | omega)
  have hz9 : (0, f_XB_limitOf bg bf fp fq z1 z2) = f_XG_limit bg bf fp fq z1 z2 := Eq.trans (by rw [f_XG_limit_s]; rw [if_pos c2_, if_pos c7_]; try rfl) rfl
  subst hQ
  refine yW (fun _ h => yQ_of h) ?_
  exact W.iret (v := jI (f_XB_limitOf bg bf fp fq z1 z2)) hx hb hr (fun t ht hW => Or.inl ⟨(congrArg Prod.fst hz9).symm, _, rfl, congrArg jI (congrArg Prod.snd hz9), ht⟩) (fun _ h => nomatch h) dXG_limit_19
noncomputable def g_XG_at (pn : Int) (pf : Int → Int) (z1 : Int) : Int × Int :=
  if (f_XG_needPlace z1) = 0 then
    (0, f_XP_byteAt pn pf z1)
  else
    (f_XG_needPlace z1, 0)
noncomputable def f_XG_at : Int → (Int → Int) → Int → Int × Int := jopq g_XG_at
theorem f_XG_at_q : f_XG_at = g_XG_at := jopq_eq _
theorem f_XG_at_s (pn : Int) (pf : Int → Int) (z1 : Int) : f_XG_at pn pf z1 = (
    if (f_XG_needPlace z1) = 0 then
      (0, f_XP_byteAt pn pf z1)
    else
      (f_XG_needPlace z1, 0)
  : Int × Int) := by rw [f_XG_at_q]; rfl
set_option maxHeartbeats 4000000 in
set_option maxRecDepth 100000 in
theorem c_XG_at (l : Launch) (hst : l.stackTraces = false) (dC : Nat → ClassId) (dI : Nat → Nat → Nat) (cA : ClassId) (ga : Nat) (ta : Nat) (rda : Nat) (pa : Nat) (sa : Nat) (ea : Nat) (ba : Nat) (da : Nat) (ps : Nat) (pn : Int) (pf : Int → Int) (z1 : Int) (hpn : 0 ≤ pn ∧ pn ≤ 160) (hi_z1 : i32 z1) : YMet l yXG_at (Cond.code yXG_at cXG_at 2 (some .int) :: TBL) ({ frames := 7, cells := 1, slots := 6, locals := 102 } : Room) (va_Pc [.ref ga, .int (jI z1)] (jBx (dC, dI) [(cA, .int)] [(ga, .inr (4, [.ref ta, .ref rda, .ref pa, .ref sa, .ref ea, .ref ba, .ref da])), (pa, .inr (1, [.ref ps, .int (jI pn)])), (ps, .inl (cA, 160, .inl (jA pf)))])) (xQ (f_XG_at pn pf z1).1 (vp_Si (fun r => r = jI (f_XG_at pn pf z1).2))) 0 0 1 6 (fun _ => False) := by
  refine YMet.ofW (cc := cXG_at) (maxL := 2) (ret := some .int) (by decide) rfl ?_
  intro p e s m args below meth c s₁ R Q hR hQ B hml htab hv
  obtain ⟨rfl, ⟨hP, hK, hN⟩, hX⟩ := hv
  have hx := B.exec
  have hb := B.bytes
  have hr := B.returns
  have hts := atoms_spec (ws := Cond.code yXG_at cXG_at 2 (some .int) :: TBL) B.pre
  have hown : s.vm.findClass RXG = some m.cls := findClass_of_methodNamed B.named
  have hlocks := B.notSynchronized
  have hP : va_P (dC, dI) vwCl [(ga, .inr (4, [.ref ta, .ref rda, .ref pa, .ref sa, .ref ea, .ref ba, .ref da])), (pa, .inr (1, [.ref ps, .int (jI pn)])), (ps, .inl (cA, 160, .inl (jA pf)))] s.heap := hP
  have hl := lv_entry ([.ref ga, .int (jI z1)]) (n := 2) (Nat.le_of_ble_eq_true rfl)
  rw [lg_entry_eq]
  generalize (lg_sl ([.ref ga, .int (jI z1)]) ++ List.replicate (2 - (lg_sl ([.ref ga, .int (jI z1)])).length) Slot.unset).toArray = ls at hl ⊢
  have hl : lv_has ls 2 [(0, .ref ga), (1, .int (jI z1))] := hl
  refine lv_iload_n hx hb dXG_at_0 rfl (lv_at hl 1 rfl) ?_
  rw [hQ]
  refine yrS (rest := []) ⟨hx, hb, hml, hown, hts⟩ (c_XG_needPlace l hst dC dI cA z1 (by first | assumption | omega)) (cwS 1 hts (jG_S tw_546 tw_547 tw_1 tw_548) rfl rfl rfl (by decide +kernel) (by rw [hR]; exact ⟨Nat.le_of_ble_eq_true rfl, Nat.le_of_ble_eq_true rfl⟩)) hK hP hN hX [] rfl rfl hl.1 rfl (Nat.le_of_ble_eq_true rfl) dXG_at_1 (by rw [hR]; exact ⟨Nat.le_of_ble_eq_true rfl, Nat.le_of_ble_eq_true rfl⟩) htab hlocks rfl (fun c1_ => ?_) (fun c1_ o9 t9 h9 => (by
    have hz9 : (f_XG_needPlace z1, 0) = f_XG_at pn pf z1 := Eq.trans (by rw [f_XG_at_s]; rw [if_neg c1_]; try rfl) rfl
    exact Or.inr ⟨by rw [← hz9]; exact c1_, by rw [← hz9]; exact h9⟩)) (Nat.le_of_ble_eq_true rfl) (Nat.le_of_ble_eq_true rfl)
  rw [← hQ]
  have f := f_XG_needPlace_b z1 (by first | assumption | omega)
  refine lv_aload_n hx hb dXG_at_4 rfl (lv_at hl 0 rfl) ?_
  refine va_get (D := (dC, dI)) (ci := 4) (v := .ref pa) (C := RXG) (T := TXG) (N := 7) hx hb hts (fun w h => jmem (inXG w h)) hown hK hP 0 rfl rfl 2 (by decide) (hts _ (jmem tw_103)) (fun _ h9 => h9) rfl dXG_at_5 ?_
  refine lv_iload_n hx hb dXG_at_8 rfl (lv_at hl 1 rfl) ?_
  refine jrVi (rest := []) ⟨hx, hb, hml, hown, hts⟩ (c_XP_byteAt l dC dI cA pa ps pn pf z1 (by first | assumption | omega) (by first | assumption | omega)) (cwV 1 hts (jG_V tw_618 tw_619 tw_620 tw_4 tw_621) rfl rfl rfl (by decide +kernel) (by rw [hR]; exact ⟨Nat.le_of_ble_eq_true rfl, Nat.le_of_ble_eq_true rfl⟩)) hK hP hN [1, 2] rfl 1 1 rfl rfl rfl rfl hl.1 rfl (Nat.le_of_ble_eq_true rfl) dXG_at_9 (by rw [hR]; exact ⟨Nat.le_of_ble_eq_true rfl, Nat.le_of_ble_eq_true rfl⟩) ?_
  have hz9 : (0, f_XP_byteAt pn pf z1) = f_XG_at pn pf z1 := Eq.trans (by rw [f_XG_at_s]; rw [if_pos c1_]; try rfl) rfl
  subst hQ
  refine yW (fun _ h => yQ_of h) ?_
  exact W.iret (v := jI (f_XP_byteAt pn pf z1)) hx hb hr (fun t ht hW => Or.inl ⟨(congrArg Prod.fst hz9).symm, _, rfl, congrArg jI (congrArg Prod.snd hz9), ht⟩) (fun _ h => nomatch h) dXG_at_12
noncomputable def g_XG_value (bg : Int) (bf : Int) (fd : Int → Int) (fs : Int → Int) (z1 : Int) (z2 : Int) : Int × Int :=
  if (f_XG_needBelow z1 4) = 0 then
    if (f_XG_needBelow z2 2) = 0 then
      if (f_XG_needFormula bg bf z1) = 0 then
        (0, f_XG_inLowestTerms (f_XB_scaledSum bg bf fd z1 fs) z2)
      else
        (f_XG_needFormula bg bf z1, 0)
    else
      (f_XG_needBelow z2 2, 0)
  else
    (f_XG_needBelow z1 4, 0)
noncomputable def f_XG_value : Int → Int → (Int → Int) → (Int → Int) → Int → Int → Int × Int := jopq g_XG_value
theorem f_XG_value_q : f_XG_value = g_XG_value := jopq_eq _
theorem f_XG_value_s (bg : Int) (bf : Int) (fd : Int → Int) (fs : Int → Int) (z1 : Int) (z2 : Int) : f_XG_value bg bf fd fs z1 z2 = (
    if (f_XG_needBelow z1 4) = 0 then
      if (f_XG_needBelow z2 2) = 0 then
        if (f_XG_needFormula bg bf z1) = 0 then
          (0, f_XG_inLowestTerms (f_XB_scaledSum bg bf fd z1 fs) z2)
        else
          (f_XG_needFormula bg bf z1, 0)
      else
        (f_XG_needBelow z2 2, 0)
    else
      (f_XG_needBelow z1 4, 0)
  : Int × Int) := by rw [f_XG_value_q]; rfl
set_option maxHeartbeats 4000000 in
set_option maxRecDepth 100000 in
theorem c_XG_value (l : Launch) (hst : l.stackTraces = false) (dC : Nat → ClassId) (dI : Nat → Nat → Nat) (cA : ClassId) (ga : Nat) (ta : Nat) (rda : Nat) (pa : Nat) (sa : Nat) (ea : Nat) (ba : Nat) (da : Nat) (bt : Nat) (bp : Nat) (bl : Nat) (bh : Nat) (bq : Nat) (br : Nat) (bd : Nat) (bg : Int) (bf : Int) (fd : Int → Int) (fs : Int → Int) (z1 : Int) (z2 : Int) (hbd : ∀ i, 0 ≤ fd i ∧ fd i ≤ 20) (hbf : 0 ≤ bf ∧ bf < 2147483648) (hfs0 : ∀ i, -1 ≤ fs i ∧ fs i ≤ 100000) (hi_z1 : i32 z1) (hi_z2 : i32 z2) : YMet l yXG_value (Cond.code yXG_value cXG_value 3 (some .long) :: TBL) ({ frames := 7, cells := 1, slots := 6, locals := 103 } : Room) (va_Pc [.ref ga, .int (jI z1), .int (jI z2)] (jBx (dC, dI) [(cA, .int)] [(ga, .inr (4, [.ref ta, .ref rda, .ref pa, .ref sa, .ref ea, .ref ba, .ref da])), (ba, .inr (0, [.ref bt, .ref bp, .ref bl, .ref bh, .ref bq, .ref br, .ref bd, .int (jI bg), .int (jI bf)])), (bd, .inl (cA, 32, .inl (jA fd))), (sa, .inl (cA, 8, .inl (jA fs)))])) (xQ (f_XG_value bg bf fd fs z1 z2).1 (vp_Sl (fun r => r = jL (f_XG_value bg bf fd fs z1 z2).2))) 0 0 1 6 (fun _ => False) := by
  refine YMet.ofW (cc := cXG_value) (maxL := 3) (ret := some .long) (by decide) rfl ?_
  intro p e s m args below meth c s₁ R Q hR hQ B hml htab hv
  obtain ⟨rfl, ⟨hP, hK, hN⟩, hX⟩ := hv
  have hx := B.exec
  have hb := B.bytes
  have hr := B.returns
  have hts := atoms_spec (ws := Cond.code yXG_value cXG_value 3 (some .long) :: TBL) B.pre
  have hown : s.vm.findClass RXG = some m.cls := findClass_of_methodNamed B.named
  have hlocks := B.notSynchronized
  have hP : va_P (dC, dI) vwCl [(ga, .inr (4, [.ref ta, .ref rda, .ref pa, .ref sa, .ref ea, .ref ba, .ref da])), (ba, .inr (0, [.ref bt, .ref bp, .ref bl, .ref bh, .ref bq, .ref br, .ref bd, .int (jI bg), .int (jI bf)])), (bd, .inl (cA, 32, .inl (jA fd))), (sa, .inl (cA, 8, .inl (jA fs)))] s.heap := hP
  have hl := lv_entry ([.ref ga, .int (jI z1), .int (jI z2)]) (n := 3) (Nat.le_of_ble_eq_true rfl)
  rw [lg_entry_eq]
  generalize (lg_sl ([.ref ga, .int (jI z1), .int (jI z2)]) ++ List.replicate (3 - (lg_sl ([.ref ga, .int (jI z1), .int (jI z2)])).length) Slot.unset).toArray = ls at hl ⊢
  have hl : lv_has ls 3 [(0, .ref ga), (1, .int (jI z1)), (2, .int (jI z2))] := hl
  refine lv_iload_n hx hb dXG_value_0 rfl (lv_at hl 1 rfl) ?_
  refine ji_iconst hx hb dXG_value_1 ?_
  rw [hQ]
  refine yrS (rest := []) ⟨hx, hb, hml, hown, hts⟩ (c_XG_needBelow l hst dC dI cA z1 4 (by first | assumption | omega) (by first | assumption | omega)) (cwS 2 hts (jG_S tw_433 tw_434 tw_1 tw_435) rfl rfl rfl (by decide +kernel) (by rw [hR]; exact ⟨Nat.le_of_ble_eq_true rfl, Nat.le_of_ble_eq_true rfl⟩)) hK hP hN hX [] rfl rfl hl.1 rfl (Nat.le_of_ble_eq_true rfl) dXG_value_2 (by rw [hR]; exact ⟨Nat.le_of_ble_eq_true rfl, Nat.le_of_ble_eq_true rfl⟩) htab hlocks rfl (fun c2_ => ?_) (fun c2_ o9 t9 h9 => (by
    have hz9 : (f_XG_needBelow z1 4, 0) = f_XG_value bg bf fd fs z1 z2 := Eq.trans (by rw [f_XG_value_s]; rw [if_neg c2_]; try rfl) rfl
    exact Or.inr ⟨by rw [← hz9]; exact c2_, by rw [← hz9]; exact h9⟩)) (Nat.le_of_ble_eq_true rfl) (Nat.le_of_ble_eq_true rfl)
  rw [← hQ]
  have f := f_XG_needBelow_b z1 4 (by first | assumption | omega) (by first | assumption | omega)
  refine lv_iload_n hx hb dXG_value_5 rfl (lv_at hl 2 rfl) ?_
  refine ji_iconst hx hb dXG_value_6 ?_
  rw [hQ]
  refine yrS (rest := []) ⟨hx, hb, hml, hown, hts⟩ (c_XG_needBelow l hst dC dI cA z2 2 (by first | assumption | omega) (by first | assumption | omega)) (cwS 2 hts (jG_S tw_433 tw_434 tw_1 tw_435) rfl rfl rfl (by decide +kernel) (by rw [hR]; exact ⟨Nat.le_of_ble_eq_true rfl, Nat.le_of_ble_eq_true rfl⟩)) hK hP hN hX [] rfl rfl hl.1 rfl (Nat.le_of_ble_eq_true rfl) dXG_value_7 (by rw [hR]; exact ⟨Nat.le_of_ble_eq_true rfl, Nat.le_of_ble_eq_true rfl⟩) htab hlocks rfl (fun c7_ => ?_) (fun c7_ o9 t9 h9 => (by
    have hz9 : (f_XG_needBelow z2 2, 0) = f_XG_value bg bf fd fs z1 z2 := Eq.trans (by rw [f_XG_value_s]; rw [if_pos c2_, if_neg c7_]; try rfl) rfl
    exact Or.inr ⟨by rw [← hz9]; exact c7_, by rw [← hz9]; exact h9⟩)) (Nat.le_of_ble_eq_true rfl) (Nat.le_of_ble_eq_true rfl)
  rw [← hQ]
  have f1 := f_XG_needBelow_b z2 2 (by first | assumption | omega) (by first | assumption | omega)
  refine lv_aload_n hx hb dXG_value_10 rfl (lv_at hl 0 rfl) ?_
  refine lv_iload_n hx hb dXG_value_11 rfl (lv_at hl 1 rfl) ?_
  rw [hQ]
  refine yrV (rest := []) ⟨hx, hb, hml, hown, hts⟩ (c_XG_needFormula l hst dC dI cA ga ta rda pa sa ea da ba bt bp bl bh bq br bd bg bf z1 (by first | assumption | omega) (by first | assumption | omega)) (cwV 1 hts (jG_V tw_463 tw_465 ts_10 tw_1 tw_466) rfl rfl rfl (by decide +kernel) (by rw [hR]; exact ⟨Nat.le_of_ble_eq_true rfl, Nat.le_of_ble_eq_true rfl⟩)) hK hP hN hX [0, 1] rfl 0 4 rfl rfl rfl rfl hl.1 rfl (Nat.le_of_ble_eq_true rfl) dXG_value_12 (by rw [hR]; exact ⟨Nat.le_of_ble_eq_true rfl, Nat.le_of_ble_eq_true rfl⟩) htab hlocks rfl (fun c12_ => ?_) (fun c12_ o9 t9 h9 => (by
    have hz9 : (f_XG_needFormula bg bf z1, 0) = f_XG_value bg bf fd fs z1 z2 := Eq.trans (by rw [f_XG_value_s]; rw [if_pos c2_, if_pos c7_, if_neg c12_]; try rfl) rfl
    exact Or.inr ⟨by rw [← hz9]; exact c12_, by rw [← hz9]; exact h9⟩)) (Nat.le_of_ble_eq_true rfl) (Nat.le_of_ble_eq_true rfl)
  rw [← hQ]
  refine lv_aload_n hx hb dXG_value_15 rfl (lv_at hl 0 rfl) ?_
  refine va_get (D := (dC, dI)) (ci := 4) (v := .ref ba) (C := RXG) (T := TXG) (N := 7) hx hb hts (fun w h => jmem (inXG w h)) hown hK hP 0 rfl rfl 5 (by decide) (hts _ (jmem tw_106)) (fun _ h9 => h9) rfl dXG_value_16 ?_
  refine lv_iload_n hx hb dXG_value_19 rfl (lv_at hl 1 rfl) ?_
  refine lv_aload_n hx hb dXG_value_20 rfl (lv_at hl 0 rfl) ?_
  refine va_get (D := (dC, dI)) (ci := 4) (v := .ref sa) (C := RXG) (T := TXG) (N := 7) hx hb hts (fun w h => jmem (inXG w h)) hown hK hP 0 rfl rfl 3 (by decide) (hts _ (jmem tw_104)) (fun _ h9 => h9) rfl dXG_value_21 ?_
  refine jrVl (rest := []) ⟨hx, hb, hml, hown, hts⟩ (c_XB_scaledSum l dC dI cA ba bt bp bl bh bq br bd bg bf fd z1 sa fs (by first | assumption | omega) (by first | assumption | omega) (by first | assumption | omega)) (cwV 2 hts (jG_V tw_489 tw_490 tw_491 tw_5 tw_492) rfl rfl rfl (by decide +kernel) (by rw [hR]; exact ⟨Nat.le_of_ble_eq_true rfl, Nat.le_of_ble_eq_true rfl⟩)) hK hP hN [1, 2, 3] rfl 1 0 rfl rfl rfl rfl hl.1 rfl (Nat.le_of_ble_eq_true rfl) dXG_value_24 (by rw [hR]; exact ⟨Nat.le_of_ble_eq_true rfl, Nat.le_of_ble_eq_true rfl⟩) ?_
  have f2 := f_XB_scaledSum_b bg bf fd z1 fs (by first | assumption | omega) (by first | assumption | omega) (by first | assumption | omega)
  refine lv_iload_n hx hb dXG_value_27 rfl (lv_at hl 2 rfl) ?_
  refine jrSl (rest := []) ⟨hx, hb, hml, hown, hts⟩ (c_XG_inLowestTerms l dC dI cA (f_XB_scaledSum bg bf fd z1 fs) z2 (by first | assumption | omega) (by first | assumption | omega)) (cwS 2 hts (jG_S tw_495 tw_496 tw_1 tw_497) rfl rfl rfl (by decide +kernel) (by rw [hR]; exact ⟨Nat.le_of_ble_eq_true rfl, Nat.le_of_ble_eq_true rfl⟩)) hK hP hN [] rfl rfl hl.1 rfl (Nat.le_of_ble_eq_true rfl) dXG_value_28 (by rw [hR]; exact ⟨Nat.le_of_ble_eq_true rfl, Nat.le_of_ble_eq_true rfl⟩) ?_
  have hz9 : (0, f_XG_inLowestTerms (f_XB_scaledSum bg bf fd z1 fs) z2) = f_XG_value bg bf fd fs z1 z2 := Eq.trans (by rw [f_XG_value_s]; rw [if_pos c2_, if_pos c7_, if_pos c12_]; try rfl) rfl
  subst hQ
  refine yW (fun _ h => yQ_of h) ?_
  exact W.lret (v := jL (f_XG_inLowestTerms (f_XB_scaledSum bg bf fd z1 fs) z2)) hx hb hr (fun t ht hW => Or.inl ⟨(congrArg Prod.fst hz9).symm, _, rfl, congrArg jL (congrArg Prod.snd hz9), ht⟩) (fun _ h => nomatch h) dXG_value_31
noncomputable def g_XG_ring_L8 (bg : Int) (bf : Int) (ft : Int → Int) (z1 : Int) : Nat → Int → Int → Int × Int
  | 0, _, _ => (0, 0)
  | n9 + 1, v, k =>
    if 30 < k then
      (0, -1)
    else
      if (f_XB_onRing bg bf ft k) = 0 then
        g_XG_ring_L8 bg bf ft z1 n9 v (k + 1)
      else
        if v = 0 then
          (0, k)
        else
          g_XG_ring_L8 bg bf ft z1 n9 (v + (-1)) (k + 1)
noncomputable def f_XG_ring_L8 : Int → Int → (Int → Int) → Int → Nat → Int → Int → Int × Int := jopq g_XG_ring_L8
theorem f_XG_ring_L8_q : f_XG_ring_L8 = g_XG_ring_L8 := jopq_eq _
theorem f_XG_ring_L8_s (bg : Int) (bf : Int) (ft : Int → Int) (z1 : Int) (n9 : Nat) (v : Int) (k : Int) : f_XG_ring_L8 bg bf ft z1 (n9 + 1) v k = (
    if 30 < k then
      (0, -1)
    else
      if (f_XB_onRing bg bf ft k) = 0 then
        f_XG_ring_L8 bg bf ft z1 n9 v (k + 1)
      else
        if v = 0 then
          (0, k)
        else
          f_XG_ring_L8 bg bf ft z1 n9 (v + (-1)) (k + 1)
  : Int × Int) := by rw [f_XG_ring_L8_q]; rfl
theorem f_XG_ring_L8_z (bg : Int) (bf : Int) (ft : Int → Int) (z1 : Int) (v : Int) (k : Int) : f_XG_ring_L8 bg bf ft z1 0 v k = (0, 0) := by rw [f_XG_ring_L8_q]; rfl
noncomputable def g_XG_ring (bg : Int) (bf : Int) (ft : Int → Int) (z1 : Int) : Int × Int :=
  if (f_XG_needPlace z1) = 0 then
    f_XG_ring_L8 bg bf ft z1 (Int.toNat (31 - 1) + 1) z1 1
  else
    (f_XG_needPlace z1, 0)
noncomputable def f_XG_ring : Int → Int → (Int → Int) → Int → Int × Int := jopq g_XG_ring
theorem f_XG_ring_q : f_XG_ring = g_XG_ring := jopq_eq _
theorem f_XG_ring_s (bg : Int) (bf : Int) (ft : Int → Int) (z1 : Int) : f_XG_ring bg bf ft z1 = (
    if (f_XG_needPlace z1) = 0 then
      f_XG_ring_L8 bg bf ft z1 (Int.toNat (31 - 1) + 1) z1 1
    else
      (f_XG_needPlace z1, 0)
  : Int × Int) := by rw [f_XG_ring_q]; rfl
set_option maxHeartbeats 4000000 in
set_option maxRecDepth 100000 in
theorem c_XG_ring (l : Launch) (hst : l.stackTraces = false) (dC : Nat → ClassId) (dI : Nat → Nat → Nat) (cA : ClassId) (ga : Nat) (ta : Nat) (rda : Nat) (pa : Nat) (sa : Nat) (ea : Nat) (ba : Nat) (da : Nat) (bt : Nat) (bp : Nat) (bl : Nat) (bh : Nat) (bq : Nat) (br : Nat) (bd : Nat) (bg : Int) (bf : Int) (ft : Int → Int) (z1 : Int) (hbt : ∀ i, 0 ≤ ft i ∧ ft i ≤ 30) (hi_z1 : i32 z1) : YMet l yXG_ring (Cond.code yXG_ring cXG_ring 4 (some .int) :: TBL) ({ frames := 7, cells := 1, slots := 6, locals := 102 } : Room) (va_Pc [.ref ga, .int (jI z1)] (jBx (dC, dI) [(cA, .int)] [(ga, .inr (4, [.ref ta, .ref rda, .ref pa, .ref sa, .ref ea, .ref ba, .ref da])), (ba, .inr (0, [.ref bt, .ref bp, .ref bl, .ref bh, .ref bq, .ref br, .ref bd, .int (jI bg), .int (jI bf)])), (bt, .inl (cA, 31, .inl (jA ft)))])) (xQ (f_XG_ring bg bf ft z1).1 (vp_Si (fun r => r = jI (f_XG_ring bg bf ft z1).2))) 0 0 1 6 (fun _ => False) := by
  refine YMet.ofW (cc := cXG_ring) (maxL := 4) (ret := some .int) (by decide) rfl ?_
  intro p e s m args below meth c s₁ R Q hR hQ B hml htab hv
  obtain ⟨rfl, ⟨hP, hK, hN⟩, hX⟩ := hv
  have hx := B.exec
  have hb := B.bytes
  have hr := B.returns
  have hts := atoms_spec (ws := Cond.code yXG_ring cXG_ring 4 (some .int) :: TBL) B.pre
  have hown : s.vm.findClass RXG = some m.cls := findClass_of_methodNamed B.named
  have hlocks := B.notSynchronized
  have hP : va_P (dC, dI) vwCl [(ga, .inr (4, [.ref ta, .ref rda, .ref pa, .ref sa, .ref ea, .ref ba, .ref da])), (ba, .inr (0, [.ref bt, .ref bp, .ref bl, .ref bh, .ref bq, .ref br, .ref bd, .int (jI bg), .int (jI bf)])), (bt, .inl (cA, 31, .inl (jA ft)))] s.heap := hP
  have hl := lv_entry ([.ref ga, .int (jI z1)]) (n := 4) (Nat.le_of_ble_eq_true rfl)
  rw [lg_entry_eq]
  generalize (lg_sl ([.ref ga, .int (jI z1)]) ++ List.replicate (4 - (lg_sl ([.ref ga, .int (jI z1)])).length) Slot.unset).toArray = ls at hl ⊢
  have hl : lv_has ls 4 [(0, .ref ga), (1, .int (jI z1))] := hl
  refine lv_iload_n hx hb dXG_ring_0 rfl (lv_at hl 1 rfl) ?_
  rw [hQ]
  refine yrS (rest := []) ⟨hx, hb, hml, hown, hts⟩ (c_XG_needPlace l hst dC dI cA z1 (by first | assumption | omega)) (cwS 1 hts (jG_S tw_546 tw_547 tw_1 tw_548) rfl rfl rfl (by decide +kernel) (by rw [hR]; exact ⟨Nat.le_of_ble_eq_true rfl, Nat.le_of_ble_eq_true rfl⟩)) hK hP hN hX [] rfl rfl hl.1 rfl (Nat.le_of_ble_eq_true rfl) dXG_ring_1 (by rw [hR]; exact ⟨Nat.le_of_ble_eq_true rfl, Nat.le_of_ble_eq_true rfl⟩) htab hlocks rfl (fun c1_ => ?_) (fun c1_ o9 t9 h9 => (by
    have hz9 : (f_XG_needPlace z1, 0) = f_XG_ring bg bf ft z1 := Eq.trans (by rw [f_XG_ring_s]; rw [if_neg c1_]; try rfl) rfl
    exact Or.inr ⟨by rw [← hz9]; exact c1_, by rw [← hz9]; exact h9⟩)) (Nat.le_of_ble_eq_true rfl) (Nat.le_of_ble_eq_true rfl)
  rw [← hQ]
  have f := f_XG_needPlace_b z1 (by first | assumption | omega)
  refine lv_iload_n hx hb dXG_ring_4 rfl (lv_at hl 1 rfl) ?_
  refine lv_istore_n (lv' := [(2, .int (jI z1)), (0, .ref ga), (1, .int (jI z1))]) hx hb dXG_ring_5 rfl hl (by decide) rfl (fun ls hl => ?_)
  refine ji_iconst hx hb dXG_ring_6 ?_
  refine lv_istore_n (lv' := [(3, .int (jI 1)), (2, .int (jI z1)), (0, .ref ga), (1, .int (jI z1))]) hx hb dXG_ring_7 rfl hl (by decide) rfl (fun ls hl => ?_)
  have loop8 : ∀ (n9 : Nat) (v : Int) (k : Int) , 31 - k < (n9 : Int) → f_XG_ring_L8 bg bf ft z1 n9 v k = f_XG_ring bg bf ft z1 → (1 ≤ k ∧ k ≤ 31) → (0 ≤ v ∧ v < 2147483648) → ∀ ls : Array Slot, lv_has ls 4 [(3, .int (jI k)), (2, .int (jI v)), (0, .ref ga), (1, .int (jI z1))] → W p l e R s m ([.ref ga, .int (jI z1)] : List Value).toArray below meth c s.heap [] 0 0 Q (F0 m 8 ls []) := by
    intro n9
    induction n9 with
    | zero =>
      intro v k hm hF hk hv
      exact absurd hm (by omega)
    | succ n9 ih8 =>
      intro v k hm hF hk hv ls hl
      refine lv_iload_n hx hb dXG_ring_8 rfl (lv_at hl 0 rfl) ?_
      refine ji_bipush hx hb dXG_ring_9 (by decide) ?_
      refine ji_icmp_gt (tgt := 40) hx hb dXG_ring_11 (by decide) (by omega) (by omega) (fun c11_ => ?_) (fun c11_ => ?_)
      · refine ji_iconst hx hb dXG_ring_40 ?_
        have hz9 : (0, -1) = f_XG_ring bg bf ft z1 := Eq.trans (by rw [f_XG_ring_L8_s]; rw [if_pos c11_]; try rfl) hF
        subst hQ
        refine yW (fun _ h => yQ_of h) ?_
        exact W.iret (v := jI (-1)) hx hb hr (fun t ht hW => Or.inl ⟨(congrArg Prod.fst hz9).symm, _, rfl, congrArg jI (congrArg Prod.snd hz9), ht⟩) (fun _ h => nomatch h) dXG_ring_41
      · refine lv_aload_n hx hb dXG_ring_14 rfl (lv_at hl 2 rfl) ?_
        refine va_get (D := (dC, dI)) (ci := 4) (v := .ref ba) (C := RXG) (T := TXG) (N := 7) hx hb hts (fun w h => jmem (inXG w h)) hown hK hP 0 rfl rfl 5 (by decide) (hts _ (jmem tw_106)) (fun _ h9 => h9) rfl dXG_ring_15 ?_
        refine lv_iload_n hx hb dXG_ring_18 rfl (lv_at hl 0 rfl) ?_
        refine jrVi (rest := []) ⟨hx, hb, hml, hown, hts⟩ (c_XB_onRing l dC dI cA ba bt bp bl bh bq br bd bg bf ft k (by first | assumption | omega) (by first | assumption | omega)) (cwV 1 hts (jG_V tw_550 tw_283 tw_284 tw_5 tw_285) rfl rfl rfl (by decide +kernel) (by rw [hR]; exact ⟨Nat.le_of_ble_eq_true rfl, Nat.le_of_ble_eq_true rfl⟩)) hK hP hN [1, 2] rfl 1 0 rfl rfl rfl rfl hl.1 rfl (Nat.le_of_ble_eq_true rfl) dXG_ring_19 (by rw [hR]; exact ⟨Nat.le_of_ble_eq_true rfl, Nat.le_of_ble_eq_true rfl⟩) ?_
        have f1 := f_XB_onRing_b bg bf ft k (by first | assumption | omega) (by first | assumption | omega)
        refine ji_if_eq (tgt := 34) hx hb dXG_ring_22 (by decide) (by omega) (fun c22_ => ?_) (fun c22_ => ?_)
        · refine ji_iinc (k := 0) (lv' := [(3, .int (jI (k + 1))), (2, .int (jI v)), (0, .ref ga), (1, .int (jI z1))]) hx hb dXG_ring_34 hl rfl (by decide) rfl (fun ls hl => ?_)
          refine lv_goto (tgt := 8) hx hb dXG_ring_37 (by decide) ?_
          exact ih8 v (k + 1) (by omega) (Eq.trans (by rw [f_XG_ring_L8_s]; rw [if_neg (Int.not_lt.mpr c11_), if_pos c22_]; try rfl) hF) (by first | assumption | omega) (by first | assumption | omega) ls (lv_sub hl [0, 1, 2, 3] rfl)
        · refine lv_iload_n hx hb dXG_ring_25 rfl (lv_at hl 1 rfl) ?_
          refine ji_if_ne (tgt := 31) hx hb dXG_ring_26 (by decide) (by omega) (fun c26_ => ?_) (fun c26_ => ?_)
          · refine ji_iinc (k := 1) (lv' := [(2, .int (jI (v + (-1)))), (3, .int (jI k)), (0, .ref ga), (1, .int (jI z1))]) hx hb dXG_ring_31 hl rfl (by decide) rfl (fun ls hl => ?_)
            refine ji_iinc (k := 1) (lv' := [(3, .int (jI (k + 1))), (2, .int (jI (v + (-1)))), (0, .ref ga), (1, .int (jI z1))]) hx hb dXG_ring_34 hl rfl (by decide) rfl (fun ls hl => ?_)
            refine lv_goto (tgt := 8) hx hb dXG_ring_37 (by decide) ?_
            exact ih8 (v + (-1)) (k + 1) (by omega) (Eq.trans (by rw [f_XG_ring_L8_s]; rw [if_neg (Int.not_lt.mpr c11_), if_neg c22_, if_neg c26_]; try rfl) hF) (by first | assumption | omega) (by first | assumption | omega) ls (lv_sub hl [0, 1, 2, 3] rfl)
          · refine lv_iload_n hx hb dXG_ring_29 rfl (lv_at hl 0 rfl) ?_
            have hz9 : (0, k) = f_XG_ring bg bf ft z1 := Eq.trans (by rw [f_XG_ring_L8_s]; rw [if_neg (Int.not_lt.mpr c11_), if_neg c22_, if_pos c26_]; try rfl) hF
            subst hQ
            refine yW (fun _ h => yQ_of h) ?_
            exact W.iret (v := jI k) hx hb hr (fun t ht hW => Or.inl ⟨(congrArg Prod.fst hz9).symm, _, rfl, congrArg jI (congrArg Prod.snd hz9), ht⟩) (fun _ h => nomatch h) dXG_ring_30
  exact loop8 (Int.toNat (31 - 1) + 1) z1 1 (by omega) (Eq.trans (by rw [f_XG_ring_s]; rw [if_pos c1_]; try rfl) rfl) (by first | assumption | omega) (by first | assumption | omega) ls (lv_sub hl [0, 1, 2, 3] rfl)
noncomputable def g_XG_route_L24 (bg : Int) (bf : Int) (fp : Int → Int) (fr : Int → Int) (z1 : Int) (z2 : Int) : Nat → Int → Int → Int × Int
  | 0, _, _ => (0, 0)
  | n9 + 1, v, k =>
    if k < 8 then
      if (f_XG_hasBit (f_XB_routesOf bg bf fp fr z1) k) = 0 then
        g_XG_route_L24 bg bf fp fr z1 z2 n9 v (k + 1)
      else
        if v = 0 then
          (0, k)
        else
          g_XG_route_L24 bg bf fp fr z1 z2 n9 (v + (-1)) (k + 1)
    else
      (0, -1)
noncomputable def f_XG_route_L24 : Int → Int → (Int → Int) → (Int → Int) → Int → Int → Nat → Int → Int → Int × Int := jopq g_XG_route_L24
theorem f_XG_route_L24_q : f_XG_route_L24 = g_XG_route_L24 := jopq_eq _
theorem f_XG_route_L24_s (bg : Int) (bf : Int) (fp : Int → Int) (fr : Int → Int) (z1 : Int) (z2 : Int) (n9 : Nat) (v : Int) (k : Int) : f_XG_route_L24 bg bf fp fr z1 z2 (n9 + 1) v k = (
    if k < 8 then
      if (f_XG_hasBit (f_XB_routesOf bg bf fp fr z1) k) = 0 then
        f_XG_route_L24 bg bf fp fr z1 z2 n9 v (k + 1)
      else
        if v = 0 then
          (0, k)
        else
          f_XG_route_L24 bg bf fp fr z1 z2 n9 (v + (-1)) (k + 1)
    else
      (0, -1)
  : Int × Int) := by rw [f_XG_route_L24_q]; rfl
theorem f_XG_route_L24_z (bg : Int) (bf : Int) (fp : Int → Int) (fr : Int → Int) (z1 : Int) (z2 : Int) (v : Int) (k : Int) : f_XG_route_L24 bg bf fp fr z1 z2 0 v k = (0, 0) := by rw [f_XG_route_L24_q]; rfl
noncomputable def g_XG_route (bg : Int) (bf : Int) (fp : Int → Int) (fr : Int → Int) (z1 : Int) (z2 : Int) : Int × Int :=
  if (f_XG_needGrade bg bf z1) = 0 then
    if (f_XG_needPlace z2) = 0 then
      f_XG_route_L24 bg bf fp fr z1 z2 (Int.toNat (8 - 0) + 1) z2 0
    else
      (f_XG_needPlace z2, 0)
  else
    (f_XG_needGrade bg bf z1, 0)
noncomputable def f_XG_route : Int → Int → (Int → Int) → (Int → Int) → Int → Int → Int × Int := jopq g_XG_route
theorem f_XG_route_q : f_XG_route = g_XG_route := jopq_eq _
theorem f_XG_route_s (bg : Int) (bf : Int) (fp : Int → Int) (fr : Int → Int) (z1 : Int) (z2 : Int) : f_XG_route bg bf fp fr z1 z2 = (
    if (f_XG_needGrade bg bf z1) = 0 then
      if (f_XG_needPlace z2) = 0 then
        f_XG_route_L24 bg bf fp fr z1 z2 (Int.toNat (8 - 0) + 1) z2 0
      else
        (f_XG_needPlace z2, 0)
    else
      (f_XG_needGrade bg bf z1, 0)
  : Int × Int) := by rw [f_XG_route_q]; rfl
set_option maxHeartbeats 4000000 in
set_option maxRecDepth 100000 in
theorem c_XG_route (l : Launch) (hst : l.stackTraces = false) (dC : Nat → ClassId) (dI : Nat → Nat → Nat) (cA : ClassId) (ga : Nat) (ta : Nat) (rda : Nat) (pa : Nat) (sa : Nat) (ea : Nat) (ba : Nat) (da : Nat) (bt : Nat) (bp : Nat) (bl : Nat) (bh : Nat) (bq : Nat) (br : Nat) (bd : Nat) (bg : Int) (bf : Int) (fp : Int → Int) (fr : Int → Int) (z1 : Int) (z2 : Int) (hbp : ∀ i, 0 ≤ fp i ∧ fp i ≤ 30) (hbr : ∀ i, 0 ≤ fr i ∧ fr i < 2147483648) (hbg : 0 ≤ bg ∧ bg < 2147483648) (hi_z1 : i32 z1) (hi_z2 : i32 z2) : YMet l yXG_route (Cond.code yXG_route cXG_route 6 (some .int) :: TBL) ({ frames := 7, cells := 1, slots := 6, locals := 103 } : Room) (va_Pc [.ref ga, .int (jI z1), .int (jI z2)] (jBx (dC, dI) [(cA, .int)] [(ga, .inr (4, [.ref ta, .ref rda, .ref pa, .ref sa, .ref ea, .ref ba, .ref da])), (ba, .inr (0, [.ref bt, .ref bp, .ref bl, .ref bh, .ref bq, .ref br, .ref bd, .int (jI bg), .int (jI bf)])), (bp, .inl (cA, 31, .inl (jA fp))), (br, .inl (cA, 31, .inl (jA fr)))])) (xQ (f_XG_route bg bf fp fr z1 z2).1 (vp_Si (fun r => r = jI (f_XG_route bg bf fp fr z1 z2).2))) 0 0 1 6 (fun _ => False) := by
  refine YMet.ofW (cc := cXG_route) (maxL := 6) (ret := some .int) (by decide) rfl ?_
  intro p e s m args below meth c s₁ R Q hR hQ B hml htab hv
  obtain ⟨rfl, ⟨hP, hK, hN⟩, hX⟩ := hv
  have hx := B.exec
  have hb := B.bytes
  have hr := B.returns
  have hts := atoms_spec (ws := Cond.code yXG_route cXG_route 6 (some .int) :: TBL) B.pre
  have hown : s.vm.findClass RXG = some m.cls := findClass_of_methodNamed B.named
  have hlocks := B.notSynchronized
  have hP : va_P (dC, dI) vwCl [(ga, .inr (4, [.ref ta, .ref rda, .ref pa, .ref sa, .ref ea, .ref ba, .ref da])), (ba, .inr (0, [.ref bt, .ref bp, .ref bl, .ref bh, .ref bq, .ref br, .ref bd, .int (jI bg), .int (jI bf)])), (bp, .inl (cA, 31, .inl (jA fp))), (br, .inl (cA, 31, .inl (jA fr)))] s.heap := hP
  have hl := lv_entry ([.ref ga, .int (jI z1), .int (jI z2)]) (n := 6) (Nat.le_of_ble_eq_true rfl)
  rw [lg_entry_eq]
  generalize (lg_sl ([.ref ga, .int (jI z1), .int (jI z2)]) ++ List.replicate (6 - (lg_sl ([.ref ga, .int (jI z1), .int (jI z2)])).length) Slot.unset).toArray = ls at hl ⊢
  have hl : lv_has ls 6 [(0, .ref ga), (1, .int (jI z1)), (2, .int (jI z2))] := hl
  refine lv_aload_n hx hb dXG_route_0 rfl (lv_at hl 0 rfl) ?_
  refine lv_iload_n hx hb dXG_route_1 rfl (lv_at hl 1 rfl) ?_
  rw [hQ]
  refine yrV (rest := []) ⟨hx, hb, hml, hown, hts⟩ (c_XG_needGrade l hst dC dI cA ga ta rda pa sa ea da ba bt bp bl bh bq br bd bg bf z1 (by first | assumption | omega) (by first | assumption | omega)) (cwV 1 hts (jG_V tw_412 tw_414 ts_9 tw_1 tw_415) rfl rfl rfl (by decide +kernel) (by rw [hR]; exact ⟨Nat.le_of_ble_eq_true rfl, Nat.le_of_ble_eq_true rfl⟩)) hK hP hN hX [0, 1] rfl 0 4 rfl rfl rfl rfl hl.1 rfl (Nat.le_of_ble_eq_true rfl) dXG_route_2 (by rw [hR]; exact ⟨Nat.le_of_ble_eq_true rfl, Nat.le_of_ble_eq_true rfl⟩) htab hlocks rfl (fun c2_ => ?_) (fun c2_ o9 t9 h9 => (by
    have hz9 : (f_XG_needGrade bg bf z1, 0) = f_XG_route bg bf fp fr z1 z2 := Eq.trans (by rw [f_XG_route_s]; rw [if_neg c2_]; try rfl) rfl
    exact Or.inr ⟨by rw [← hz9]; exact c2_, by rw [← hz9]; exact h9⟩)) (Nat.le_of_ble_eq_true rfl) (Nat.le_of_ble_eq_true rfl)
  rw [← hQ]
  have f := f_XG_needGrade_b bg bf z1 (by first | assumption | omega) (by first | assumption | omega)
  refine lv_iload_n hx hb dXG_route_5 rfl (lv_at hl 2 rfl) ?_
  rw [hQ]
  refine yrS (rest := []) ⟨hx, hb, hml, hown, hts⟩ (c_XG_needPlace l hst dC dI cA z2 (by first | assumption | omega)) (cwS 1 hts (jG_S tw_546 tw_547 tw_1 tw_548) rfl rfl rfl (by decide +kernel) (by rw [hR]; exact ⟨Nat.le_of_ble_eq_true rfl, Nat.le_of_ble_eq_true rfl⟩)) hK hP hN hX [] rfl rfl hl.1 rfl (Nat.le_of_ble_eq_true rfl) dXG_route_6 (by rw [hR]; exact ⟨Nat.le_of_ble_eq_true rfl, Nat.le_of_ble_eq_true rfl⟩) htab hlocks rfl (fun c6_ => ?_) (fun c6_ o9 t9 h9 => (by
    have hz9 : (f_XG_needPlace z2, 0) = f_XG_route bg bf fp fr z1 z2 := Eq.trans (by rw [f_XG_route_s]; rw [if_pos c2_, if_neg c6_]; try rfl) rfl
    exact Or.inr ⟨by rw [← hz9]; exact c6_, by rw [← hz9]; exact h9⟩)) (Nat.le_of_ble_eq_true rfl) (Nat.le_of_ble_eq_true rfl)
  rw [← hQ]
  have f1 := f_XG_needPlace_b z2 (by first | assumption | omega)
  refine lv_aload_n hx hb dXG_route_9 rfl (lv_at hl 0 rfl) ?_
  refine va_get (D := (dC, dI)) (ci := 4) (v := .ref ba) (C := RXG) (T := TXG) (N := 7) hx hb hts (fun w h => jmem (inXG w h)) hown hK hP 0 rfl rfl 5 (by decide) (hts _ (jmem tw_106)) (fun _ h9 => h9) rfl dXG_route_10 ?_
  refine lv_iload_n hx hb dXG_route_13 rfl (lv_at hl 1 rfl) ?_
  refine jrVi (rest := []) ⟨hx, hb, hml, hown, hts⟩ (c_XB_routesOf l dC dI cA ba bt bp bl bh bq br bd bg bf fp fr z1 (by first | assumption | omega) (by first | assumption | omega) (by first | assumption | omega)) (cwV 1 hts (jG_V tw_558 tw_559 tw_560 tw_5 tw_561) rfl rfl rfl (by decide +kernel) (by rw [hR]; exact ⟨Nat.le_of_ble_eq_true rfl, Nat.le_of_ble_eq_true rfl⟩)) hK hP hN [1, 2, 3] rfl 1 0 rfl rfl rfl rfl hl.1 rfl (Nat.le_of_ble_eq_true rfl) dXG_route_14 (by rw [hR]; exact ⟨Nat.le_of_ble_eq_true rfl, Nat.le_of_ble_eq_true rfl⟩) ?_
  have f2 := f_XB_routesOf_b bg bf fp fr z1 (by first | assumption | omega) (by first | assumption | omega) (by first | assumption | omega)
  refine lv_istore_n (lv' := [(3, .int (jI (f_XB_routesOf bg bf fp fr z1))), (0, .ref ga), (1, .int (jI z1)), (2, .int (jI z2))]) hx hb dXG_route_17 rfl hl (by decide) rfl (fun ls hl => ?_)
  refine lv_iload_n hx hb dXG_route_18 rfl (lv_at hl 3 rfl) ?_
  refine lv_istore (lv' := [(4, .int (jI z2)), (3, .int (jI (f_XB_routesOf bg bf fp fr z1))), (0, .ref ga), (1, .int (jI z1)), (2, .int (jI z2))]) hx hb dXG_route_19 hl (by decide) rfl (fun ls hl => ?_)
  refine ji_iconst hx hb dXG_route_21 ?_
  refine lv_istore (lv' := [(5, .int (jI 0)), (4, .int (jI z2)), (3, .int (jI (f_XB_routesOf bg bf fp fr z1))), (0, .ref ga), (1, .int (jI z1)), (2, .int (jI z2))]) hx hb dXG_route_22 hl (by decide) rfl (fun ls hl => ?_)
  have loop24 : ∀ (n9 : Nat) (v : Int) (k : Int) , 8 - k < (n9 : Int) → f_XG_route_L24 bg bf fp fr z1 z2 n9 v k = f_XG_route bg bf fp fr z1 z2 → (0 ≤ k ∧ k ≤ 8) → (0 ≤ v ∧ v < 2147483648) → ∀ ls : Array Slot, lv_has ls 6 [(5, .int (jI k)), (4, .int (jI v)), (3, .int (jI (f_XB_routesOf bg bf fp fr z1))), (0, .ref ga), (1, .int (jI z1)), (2, .int (jI z2))] → W p l e R s m ([.ref ga, .int (jI z1), .int (jI z2)] : List Value).toArray below meth c s.heap [] 0 0 Q (F0 m 24 ls []) := by
    intro n9
    induction n9 with
    | zero =>
      intro v k hm hF hk hv
      exact absurd hm (by omega)
    | succ n9 ih24 =>
      intro v k hm hF hk hv ls hl
      refine lv_iload hx hb dXG_route_24 (lv_at hl 0 rfl) ?_
      refine ji_bipush hx hb dXG_route_26 (by decide) ?_
      refine ji_icmp_ge (tgt := 57) hx hb dXG_route_28 (by decide) (by omega) (by omega) (fun c28_ => ?_) (fun c28_ => ?_)
      · refine ji_iconst hx hb dXG_route_57 ?_
        have hz9 : (0, -1) = f_XG_route bg bf fp fr z1 z2 := Eq.trans (by rw [f_XG_route_L24_s]; rw [if_neg (Int.not_lt.mpr c28_)]; try rfl) hF
        subst hQ
        refine yW (fun _ h => yQ_of h) ?_
        exact W.iret (v := jI (-1)) hx hb hr (fun t ht hW => Or.inl ⟨(congrArg Prod.fst hz9).symm, _, rfl, congrArg jI (congrArg Prod.snd hz9), ht⟩) (fun _ h => nomatch h) dXG_route_58
      · refine lv_iload_n hx hb dXG_route_31 rfl (lv_at hl 2 rfl) ?_
        refine lv_iload hx hb dXG_route_32 (lv_at hl 0 rfl) ?_
        refine jrSi (rest := []) ⟨hx, hb, hml, hown, hts⟩ (c_XG_hasBit l dC dI cA (f_XB_routesOf bg bf fp fr z1) k (by first | assumption | omega) (by first | assumption | omega)) (cwS 2 hts (jG_S tw_562 tw_172 tw_1 tw_173) rfl rfl rfl (by decide +kernel) (by rw [hR]; exact ⟨Nat.le_of_ble_eq_true rfl, Nat.le_of_ble_eq_true rfl⟩)) hK hP hN [] rfl rfl hl.1 rfl (Nat.le_of_ble_eq_true rfl) dXG_route_34 (by rw [hR]; exact ⟨Nat.le_of_ble_eq_true rfl, Nat.le_of_ble_eq_true rfl⟩) ?_
        have f3 := f_XG_hasBit_01 (f_XB_routesOf bg bf fp fr z1) k (by first | assumption | omega) (by first | assumption | omega)
        refine ji_if_eq (tgt := 51) hx hb dXG_route_37 (by decide) (by omega) (fun c37_ => ?_) (fun c37_ => ?_)
        · refine ji_iinc (k := 0) (lv' := [(5, .int (jI (k + 1))), (4, .int (jI v)), (3, .int (jI (f_XB_routesOf bg bf fp fr z1))), (0, .ref ga), (1, .int (jI z1)), (2, .int (jI z2))]) hx hb dXG_route_51 hl rfl (by decide) rfl (fun ls hl => ?_)
          refine lv_goto (tgt := 24) hx hb dXG_route_54 (by decide) ?_
          exact ih24 v (k + 1) (by omega) (Eq.trans (by rw [f_XG_route_L24_s]; rw [if_pos c28_, if_pos c37_]; try rfl) hF) (by first | assumption | omega) (by first | assumption | omega) ls (lv_sub hl [0, 1, 2, 3, 4, 5] rfl)
        · refine lv_iload hx hb dXG_route_40 (lv_at hl 1 rfl) ?_
          refine ji_if_ne (tgt := 48) hx hb dXG_route_42 (by decide) (by omega) (fun c42_ => ?_) (fun c42_ => ?_)
          · refine ji_iinc (k := 1) (lv' := [(4, .int (jI (v + (-1)))), (5, .int (jI k)), (3, .int (jI (f_XB_routesOf bg bf fp fr z1))), (0, .ref ga), (1, .int (jI z1)), (2, .int (jI z2))]) hx hb dXG_route_48 hl rfl (by decide) rfl (fun ls hl => ?_)
            refine ji_iinc (k := 1) (lv' := [(5, .int (jI (k + 1))), (4, .int (jI (v + (-1)))), (3, .int (jI (f_XB_routesOf bg bf fp fr z1))), (0, .ref ga), (1, .int (jI z1)), (2, .int (jI z2))]) hx hb dXG_route_51 hl rfl (by decide) rfl (fun ls hl => ?_)
            refine lv_goto (tgt := 24) hx hb dXG_route_54 (by decide) ?_
            exact ih24 (v + (-1)) (k + 1) (by omega) (Eq.trans (by rw [f_XG_route_L24_s]; rw [if_pos c28_, if_neg c37_, if_neg c42_]; try rfl) hF) (by first | assumption | omega) (by first | assumption | omega) ls (lv_sub hl [0, 1, 2, 3, 4, 5] rfl)
          · refine lv_iload hx hb dXG_route_45 (lv_at hl 0 rfl) ?_
            have hz9 : (0, k) = f_XG_route bg bf fp fr z1 z2 := Eq.trans (by rw [f_XG_route_L24_s]; rw [if_pos c28_, if_neg c37_, if_pos c42_]; try rfl) hF
            subst hQ
            refine yW (fun _ h => yQ_of h) ?_
            exact W.iret (v := jI k) hx hb hr (fun t ht hW => Or.inl ⟨(congrArg Prod.fst hz9).symm, _, rfl, congrArg jI (congrArg Prod.snd hz9), ht⟩) (fun _ h => nomatch h) dXG_route_47
  exact loop24 (Int.toNat (8 - 0) + 1) z2 0 (by omega) (Eq.trans (by rw [f_XG_route_s]; rw [if_pos c2_, if_pos c6_]; try rfl) rfl) (by first | assumption | omega) (by first | assumption | omega) ls (lv_sub hl [0, 1, 2, 3, 4, 5] rfl)
noncomputable def g_XG_difference_L20 (bg : Int) (bf : Int) (fp : Int → Int) (fl : Int → Int) (fh : Int → Int) (z1 : Int) (z2 : Int) (z3 : Int) : Nat → Int → Int → Int × Int
  | 0, _, _ => (0, 0)
  | n9 + 1, v, k =>
    if k < 8 then
      if (f_XB_endOf bg bf fp fl fh z1 k 0) = (f_XB_endOf bg bf fp fl fh z2 k 0) then
        if (f_XB_endOf bg bf fp fl fh z1 k 1) = (f_XB_endOf bg bf fp fl fh z2 k 1) then
          g_XG_difference_L20 bg bf fp fl fh z1 z2 z3 n9 v (k + 1)
        else
          if v = 0 then
            (0, k)
          else
            g_XG_difference_L20 bg bf fp fl fh z1 z2 z3 n9 (v + (-1)) (k + 1)
      else
        if v = 0 then
          (0, k)
        else
          g_XG_difference_L20 bg bf fp fl fh z1 z2 z3 n9 (v + (-1)) (k + 1)
    else
      (0, -1)
noncomputable def f_XG_difference_L20 : Int → Int → (Int → Int) → (Int → Int) → (Int → Int) → Int → Int → Int → Nat → Int → Int → Int × Int := jopq g_XG_difference_L20
theorem f_XG_difference_L20_q : f_XG_difference_L20 = g_XG_difference_L20 := jopq_eq _
theorem f_XG_difference_L20_s (bg : Int) (bf : Int) (fp : Int → Int) (fl : Int → Int) (fh : Int → Int) (z1 : Int) (z2 : Int) (z3 : Int) (n9 : Nat) (v : Int) (k : Int) : f_XG_difference_L20 bg bf fp fl fh z1 z2 z3 (n9 + 1) v k = (
    if k < 8 then
      if (f_XB_endOf bg bf fp fl fh z1 k 0) = (f_XB_endOf bg bf fp fl fh z2 k 0) then
        if (f_XB_endOf bg bf fp fl fh z1 k 1) = (f_XB_endOf bg bf fp fl fh z2 k 1) then
          f_XG_difference_L20 bg bf fp fl fh z1 z2 z3 n9 v (k + 1)
        else
          if v = 0 then
            (0, k)
          else
            f_XG_difference_L20 bg bf fp fl fh z1 z2 z3 n9 (v + (-1)) (k + 1)
      else
        if v = 0 then
          (0, k)
        else
          f_XG_difference_L20 bg bf fp fl fh z1 z2 z3 n9 (v + (-1)) (k + 1)
    else
      (0, -1)
  : Int × Int) := by rw [f_XG_difference_L20_q]; rfl
theorem f_XG_difference_L20_z (bg : Int) (bf : Int) (fp : Int → Int) (fl : Int → Int) (fh : Int → Int) (z1 : Int) (z2 : Int) (z3 : Int) (v : Int) (k : Int) : f_XG_difference_L20 bg bf fp fl fh z1 z2 z3 0 v k = (0, 0) := by rw [f_XG_difference_L20_q]; rfl
noncomputable def g_XG_difference (bg : Int) (bf : Int) (fp : Int → Int) (fl : Int → Int) (fh : Int → Int) (z1 : Int) (z2 : Int) (z3 : Int) : Int × Int :=
  if (f_XG_needGrade bg bf z1) = 0 then
    if (f_XG_needGrade bg bf z2) = 0 then
      if (f_XG_needPlace z3) = 0 then
        f_XG_difference_L20 bg bf fp fl fh z1 z2 z3 (Int.toNat (8 - 0) + 1) z3 0
      else
        (f_XG_needPlace z3, 0)
    else
      (f_XG_needGrade bg bf z2, 0)
  else
    (f_XG_needGrade bg bf z1, 0)
noncomputable def f_XG_difference : Int → Int → (Int → Int) → (Int → Int) → (Int → Int) → Int → Int → Int → Int × Int := jopq g_XG_difference
theorem f_XG_difference_q : f_XG_difference = g_XG_difference := jopq_eq _
theorem f_XG_difference_s (bg : Int) (bf : Int) (fp : Int → Int) (fl : Int → Int) (fh : Int → Int) (z1 : Int) (z2 : Int) (z3 : Int) : f_XG_difference bg bf fp fl fh z1 z2 z3 = (
    if (f_XG_needGrade bg bf z1) = 0 then
      if (f_XG_needGrade bg bf z2) = 0 then
        if (f_XG_needPlace z3) = 0 then
          f_XG_difference_L20 bg bf fp fl fh z1 z2 z3 (Int.toNat (8 - 0) + 1) z3 0
        else
          (f_XG_needPlace z3, 0)
      else
        (f_XG_needGrade bg bf z2, 0)
    else
      (f_XG_needGrade bg bf z1, 0)
  : Int × Int) := by rw [f_XG_difference_q]; rfl
set_option maxHeartbeats 4000000 in
set_option maxRecDepth 100000 in
theorem c_XG_difference (l : Launch) (hst : l.stackTraces = false) (dC : Nat → ClassId) (dI : Nat → Nat → Nat) (cA : ClassId) (ga : Nat) (ta : Nat) (rda : Nat) (pa : Nat) (sa : Nat) (ea : Nat) (ba : Nat) (da : Nat) (bt : Nat) (bp : Nat) (bl : Nat) (bh : Nat) (bq : Nat) (br : Nat) (bd : Nat) (bg : Int) (bf : Int) (fp : Int → Int) (fl : Int → Int) (fh : Int → Int) (z1 : Int) (z2 : Int) (z3 : Int) (hbp : ∀ i, 0 ≤ fp i ∧ fp i ≤ 30) (hbl : ∀ i, 0 ≤ fl i ∧ fl i ≤ 100000) (hbh : ∀ i, -1 ≤ fh i ∧ fh i ≤ 100000) (hbg : 0 ≤ bg ∧ bg < 2147483648) (hi_z1 : i32 z1) (hi_z2 : i32 z2) (hi_z3 : i32 z3) : YMet l yXG_difference (Cond.code yXG_difference cXG_difference 6 (some .int) :: TBL) ({ frames := 7, cells := 1, slots := 6, locals := 103 } : Room) (va_Pc [.ref ga, .int (jI z1), .int (jI z2), .int (jI z3)] (jBx (dC, dI) [(cA, .int)] [(ga, .inr (4, [.ref ta, .ref rda, .ref pa, .ref sa, .ref ea, .ref ba, .ref da])), (ba, .inr (0, [.ref bt, .ref bp, .ref bl, .ref bh, .ref bq, .ref br, .ref bd, .int (jI bg), .int (jI bf)])), (bp, .inl (cA, 31, .inl (jA fp))), (bl, .inl (cA, 248, .inl (jA fl))), (bh, .inl (cA, 248, .inl (jA fh)))])) (xQ (f_XG_difference bg bf fp fl fh z1 z2 z3).1 (vp_Si (fun r => r = jI (f_XG_difference bg bf fp fl fh z1 z2 z3).2))) 0 0 1 6 (fun _ => False) := by
  refine YMet.ofW (cc := cXG_difference) (maxL := 6) (ret := some .int) (by decide) rfl ?_
  intro p e s m args below meth c s₁ R Q hR hQ B hml htab hv
  obtain ⟨rfl, ⟨hP, hK, hN⟩, hX⟩ := hv
  have hx := B.exec
  have hb := B.bytes
  have hr := B.returns
  have hts := atoms_spec (ws := Cond.code yXG_difference cXG_difference 6 (some .int) :: TBL) B.pre
  have hown : s.vm.findClass RXG = some m.cls := findClass_of_methodNamed B.named
  have hlocks := B.notSynchronized
  have hP : va_P (dC, dI) vwCl [(ga, .inr (4, [.ref ta, .ref rda, .ref pa, .ref sa, .ref ea, .ref ba, .ref da])), (ba, .inr (0, [.ref bt, .ref bp, .ref bl, .ref bh, .ref bq, .ref br, .ref bd, .int (jI bg), .int (jI bf)])), (bp, .inl (cA, 31, .inl (jA fp))), (bl, .inl (cA, 248, .inl (jA fl))), (bh, .inl (cA, 248, .inl (jA fh)))] s.heap := hP
  have hl := lv_entry ([.ref ga, .int (jI z1), .int (jI z2), .int (jI z3)]) (n := 6) (Nat.le_of_ble_eq_true rfl)
  rw [lg_entry_eq]
  generalize (lg_sl ([.ref ga, .int (jI z1), .int (jI z2), .int (jI z3)]) ++ List.replicate (6 - (lg_sl ([.ref ga, .int (jI z1), .int (jI z2), .int (jI z3)])).length) Slot.unset).toArray = ls at hl ⊢
  have hl : lv_has ls 6 [(0, .ref ga), (1, .int (jI z1)), (2, .int (jI z2)), (3, .int (jI z3))] := hl
  refine lv_aload_n hx hb dXG_difference_0 rfl (lv_at hl 0 rfl) ?_
  refine lv_iload_n hx hb dXG_difference_1 rfl (lv_at hl 1 rfl) ?_
  rw [hQ]
  refine yrV (rest := []) ⟨hx, hb, hml, hown, hts⟩ (c_XG_needGrade l hst dC dI cA ga ta rda pa sa ea da ba bt bp bl bh bq br bd bg bf z1 (by first | assumption | omega) (by first | assumption | omega)) (cwV 1 hts (jG_V tw_412 tw_414 ts_9 tw_1 tw_415) rfl rfl rfl (by decide +kernel) (by rw [hR]; exact ⟨Nat.le_of_ble_eq_true rfl, Nat.le_of_ble_eq_true rfl⟩)) hK hP hN hX [0, 1] rfl 0 4 rfl rfl rfl rfl hl.1 rfl (Nat.le_of_ble_eq_true rfl) dXG_difference_2 (by rw [hR]; exact ⟨Nat.le_of_ble_eq_true rfl, Nat.le_of_ble_eq_true rfl⟩) htab hlocks rfl (fun c2_ => ?_) (fun c2_ o9 t9 h9 => (by
    have hz9 : (f_XG_needGrade bg bf z1, 0) = f_XG_difference bg bf fp fl fh z1 z2 z3 := Eq.trans (by rw [f_XG_difference_s]; rw [if_neg c2_]; try rfl) rfl
    exact Or.inr ⟨by rw [← hz9]; exact c2_, by rw [← hz9]; exact h9⟩)) (Nat.le_of_ble_eq_true rfl) (Nat.le_of_ble_eq_true rfl)
  rw [← hQ]
  have f := f_XG_needGrade_b bg bf z1 (by first | assumption | omega) (by first | assumption | omega)
  refine lv_aload_n hx hb dXG_difference_5 rfl (lv_at hl 0 rfl) ?_
  refine lv_iload_n hx hb dXG_difference_6 rfl (lv_at hl 2 rfl) ?_
  rw [hQ]
  refine yrV (rest := []) ⟨hx, hb, hml, hown, hts⟩ (c_XG_needGrade l hst dC dI cA ga ta rda pa sa ea da ba bt bp bl bh bq br bd bg bf z2 (by first | assumption | omega) (by first | assumption | omega)) (cwV 1 hts (jG_V tw_412 tw_414 ts_9 tw_1 tw_415) rfl rfl rfl (by decide +kernel) (by rw [hR]; exact ⟨Nat.le_of_ble_eq_true rfl, Nat.le_of_ble_eq_true rfl⟩)) hK hP hN hX [0, 1] rfl 0 4 rfl rfl rfl rfl hl.1 rfl (Nat.le_of_ble_eq_true rfl) dXG_difference_7 (by rw [hR]; exact ⟨Nat.le_of_ble_eq_true rfl, Nat.le_of_ble_eq_true rfl⟩) htab hlocks rfl (fun c7_ => ?_) (fun c7_ o9 t9 h9 => (by
    have hz9 : (f_XG_needGrade bg bf z2, 0) = f_XG_difference bg bf fp fl fh z1 z2 z3 := Eq.trans (by rw [f_XG_difference_s]; rw [if_pos c2_, if_neg c7_]; try rfl) rfl
    exact Or.inr ⟨by rw [← hz9]; exact c7_, by rw [← hz9]; exact h9⟩)) (Nat.le_of_ble_eq_true rfl) (Nat.le_of_ble_eq_true rfl)
  rw [← hQ]
  have f1 := f_XG_needGrade_b bg bf z2 (by first | assumption | omega) (by first | assumption | omega)
  refine lv_iload_n hx hb dXG_difference_10 rfl (lv_at hl 3 rfl) ?_
  rw [hQ]
  refine yrS (rest := []) ⟨hx, hb, hml, hown, hts⟩ (c_XG_needPlace l hst dC dI cA z3 (by first | assumption | omega)) (cwS 1 hts (jG_S tw_546 tw_547 tw_1 tw_548) rfl rfl rfl (by decide +kernel) (by rw [hR]; exact ⟨Nat.le_of_ble_eq_true rfl, Nat.le_of_ble_eq_true rfl⟩)) hK hP hN hX [] rfl rfl hl.1 rfl (Nat.le_of_ble_eq_true rfl) dXG_difference_11 (by rw [hR]; exact ⟨Nat.le_of_ble_eq_true rfl, Nat.le_of_ble_eq_true rfl⟩) htab hlocks rfl (fun c11_ => ?_) (fun c11_ o9 t9 h9 => (by
    have hz9 : (f_XG_needPlace z3, 0) = f_XG_difference bg bf fp fl fh z1 z2 z3 := Eq.trans (by rw [f_XG_difference_s]; rw [if_pos c2_, if_pos c7_, if_neg c11_]; try rfl) rfl
    exact Or.inr ⟨by rw [← hz9]; exact c11_, by rw [← hz9]; exact h9⟩)) (Nat.le_of_ble_eq_true rfl) (Nat.le_of_ble_eq_true rfl)
  rw [← hQ]
  have f2 := f_XG_needPlace_b z3 (by first | assumption | omega)
  refine lv_iload_n hx hb dXG_difference_14 rfl (lv_at hl 3 rfl) ?_
  refine lv_istore (lv' := [(4, .int (jI z3)), (0, .ref ga), (1, .int (jI z1)), (2, .int (jI z2)), (3, .int (jI z3))]) hx hb dXG_difference_15 hl (by decide) rfl (fun ls hl => ?_)
  refine ji_iconst hx hb dXG_difference_17 ?_
  refine lv_istore (lv' := [(5, .int (jI 0)), (4, .int (jI z3)), (0, .ref ga), (1, .int (jI z1)), (2, .int (jI z2)), (3, .int (jI z3))]) hx hb dXG_difference_18 hl (by decide) rfl (fun ls hl => ?_)
  have loop20 : ∀ (n9 : Nat) (v : Int) (k : Int) , 8 - k < (n9 : Int) → f_XG_difference_L20 bg bf fp fl fh z1 z2 z3 n9 v k = f_XG_difference bg bf fp fl fh z1 z2 z3 → (0 ≤ k ∧ k ≤ 8) → (0 ≤ v ∧ v < 2147483648) → ∀ ls : Array Slot, lv_has ls 6 [(5, .int (jI k)), (4, .int (jI v)), (0, .ref ga), (1, .int (jI z1)), (2, .int (jI z2)), (3, .int (jI z3))] → W p l e R s m ([.ref ga, .int (jI z1), .int (jI z2), .int (jI z3)] : List Value).toArray below meth c s.heap [] 0 0 Q (F0 m 20 ls []) := by
    intro n9
    induction n9 with
    | zero =>
      intro v k hm hF hk hv
      exact absurd hm (by omega)
    | succ n9 ih20 =>
      intro v k hm hF hk hv ls hl
      refine lv_iload hx hb dXG_difference_20 (lv_at hl 0 rfl) ?_
      refine ji_bipush hx hb dXG_difference_22 (by decide) ?_
      refine ji_icmp_ge (tgt := 94) hx hb dXG_difference_24 (by decide) (by omega) (by omega) (fun c24_ => ?_) (fun c24_ => ?_)
      · refine ji_iconst hx hb dXG_difference_94 ?_
        have hz9 : (0, -1) = f_XG_difference bg bf fp fl fh z1 z2 z3 := Eq.trans (by rw [f_XG_difference_L20_s]; rw [if_neg (Int.not_lt.mpr c24_)]; try rfl) hF
        subst hQ
        refine yW (fun _ h => yQ_of h) ?_
        exact W.iret (v := jI (-1)) hx hb hr (fun t ht hW => Or.inl ⟨(congrArg Prod.fst hz9).symm, _, rfl, congrArg jI (congrArg Prod.snd hz9), ht⟩) (fun _ h => nomatch h) dXG_difference_95
      · refine lv_aload_n hx hb dXG_difference_27 rfl (lv_at hl 2 rfl) ?_
        refine va_get (D := (dC, dI)) (ci := 4) (v := .ref ba) (C := RXG) (T := TXG) (N := 7) hx hb hts (fun w h => jmem (inXG w h)) hown hK hP 0 rfl rfl 5 (by decide) (hts _ (jmem tw_106)) (fun _ h9 => h9) rfl dXG_difference_28 ?_
        refine lv_iload_n hx hb dXG_difference_31 rfl (lv_at hl 3 rfl) ?_
        refine lv_iload hx hb dXG_difference_32 (lv_at hl 0 rfl) ?_
        refine ji_iconst hx hb dXG_difference_34 ?_
        refine jrVi (rest := []) ⟨hx, hb, hml, hown, hts⟩ (c_XB_endOf l dC dI cA ba bt bp bl bh bq br bd bg bf fp fl fh z1 k 0 (by first | assumption | omega) (by first | assumption | omega) (by first | assumption | omega) (by first | assumption | omega) (by first | assumption | omega) (by first | assumption | omega)) (cwV 3 hts (jG_V tw_437 tw_438 tw_439 tw_5 tw_440) rfl rfl rfl (by decide +kernel) (by rw [hR]; exact ⟨Nat.le_of_ble_eq_true rfl, Nat.le_of_ble_eq_true rfl⟩)) hK hP hN [1, 2, 3, 4] rfl 1 0 rfl rfl rfl rfl hl.1 rfl (Nat.le_of_ble_eq_true rfl) dXG_difference_35 (by rw [hR]; exact ⟨Nat.le_of_ble_eq_true rfl, Nat.le_of_ble_eq_true rfl⟩) ?_
        have f3 := f_XB_endOf_b bg bf fp fl fh z1 k 0 (by first | assumption | omega) (by first | assumption | omega) (by first | assumption | omega) (by first | assumption | omega) (by first | assumption | omega) (by first | assumption | omega)
        refine lv_aload_n hx hb dXG_difference_38 rfl (lv_at hl 2 rfl) ?_
        refine va_get (D := (dC, dI)) (ci := 4) (v := .ref ba) (C := RXG) (T := TXG) (N := 7) hx hb hts (fun w h => jmem (inXG w h)) hown hK hP 0 rfl rfl 5 (by decide) (hts _ (jmem tw_106)) (fun _ h9 => h9) rfl dXG_difference_39 ?_
        refine lv_iload_n hx hb dXG_difference_42 rfl (lv_at hl 4 rfl) ?_
        refine lv_iload hx hb dXG_difference_43 (lv_at hl 0 rfl) ?_
        refine ji_iconst hx hb dXG_difference_45 ?_
        refine jrVi (rest := [.int (jI (f_XB_endOf bg bf fp fl fh z1 k 0))]) ⟨hx, hb, hml, hown, hts⟩ (c_XB_endOf l dC dI cA ba bt bp bl bh bq br bd bg bf fp fl fh z2 k 0 (by first | assumption | omega) (by first | assumption | omega) (by first | assumption | omega) (by first | assumption | omega) (by first | assumption | omega) (by first | assumption | omega)) (cwV 3 hts (jG_V tw_437 tw_438 tw_439 tw_5 tw_440) rfl rfl rfl (by decide +kernel) (by rw [hR]; exact ⟨Nat.le_of_ble_eq_true rfl, Nat.le_of_ble_eq_true rfl⟩)) hK hP hN [1, 2, 3, 4] rfl 1 0 rfl rfl rfl rfl hl.1 rfl (Nat.le_of_ble_eq_true rfl) dXG_difference_46 (by rw [hR]; exact ⟨Nat.le_of_ble_eq_true rfl, Nat.le_of_ble_eq_true rfl⟩) ?_
        have f4 := f_XB_endOf_b bg bf fp fl fh z2 k 0 (by first | assumption | omega) (by first | assumption | omega) (by first | assumption | omega) (by first | assumption | omega) (by first | assumption | omega) (by first | assumption | omega)
        refine ji_icmp_ne (tgt := 77) hx hb dXG_difference_49 (by decide) (by omega) (by omega) (fun c49_ => ?_) (fun c49_ => ?_)
        · refine lv_iload hx hb dXG_difference_77 (lv_at hl 1 rfl) ?_
          refine ji_if_ne (tgt := 85) hx hb dXG_difference_79 (by decide) (by omega) (fun c79_ => ?_) (fun c79_ => ?_)
          · refine ji_iinc (k := 1) (lv' := [(4, .int (jI (v + (-1)))), (5, .int (jI k)), (0, .ref ga), (1, .int (jI z1)), (2, .int (jI z2)), (3, .int (jI z3))]) hx hb dXG_difference_85 hl rfl (by decide) rfl (fun ls hl => ?_)
            refine ji_iinc (k := 1) (lv' := [(5, .int (jI (k + 1))), (4, .int (jI (v + (-1)))), (0, .ref ga), (1, .int (jI z1)), (2, .int (jI z2)), (3, .int (jI z3))]) hx hb dXG_difference_88 hl rfl (by decide) rfl (fun ls hl => ?_)
            refine lv_goto (tgt := 20) hx hb dXG_difference_91 (by decide) ?_
            exact ih20 (v + (-1)) (k + 1) (by omega) (Eq.trans (by rw [f_XG_difference_L20_s]; rw [if_pos c24_, if_neg c49_, if_neg c79_]; try rfl) hF) (by first | assumption | omega) (by first | assumption | omega) ls (lv_sub hl [0, 1, 2, 3, 4, 5] rfl)
          · refine lv_iload hx hb dXG_difference_82 (lv_at hl 0 rfl) ?_
            have hz9 : (0, k) = f_XG_difference bg bf fp fl fh z1 z2 z3 := Eq.trans (by rw [f_XG_difference_L20_s]; rw [if_pos c24_, if_neg c49_, if_pos c79_]; try rfl) hF
            subst hQ
            refine yW (fun _ h => yQ_of h) ?_
            exact W.iret (v := jI k) hx hb hr (fun t ht hW => Or.inl ⟨(congrArg Prod.fst hz9).symm, _, rfl, congrArg jI (congrArg Prod.snd hz9), ht⟩) (fun _ h => nomatch h) dXG_difference_84
        · refine lv_aload_n hx hb dXG_difference_52 rfl (lv_at hl 2 rfl) ?_
          refine va_get (D := (dC, dI)) (ci := 4) (v := .ref ba) (C := RXG) (T := TXG) (N := 7) hx hb hts (fun w h => jmem (inXG w h)) hown hK hP 0 rfl rfl 5 (by decide) (hts _ (jmem tw_106)) (fun _ h9 => h9) rfl dXG_difference_53 ?_
          refine lv_iload_n hx hb dXG_difference_56 rfl (lv_at hl 3 rfl) ?_
          refine lv_iload hx hb dXG_difference_57 (lv_at hl 0 rfl) ?_
          refine ji_iconst hx hb dXG_difference_59 ?_
          refine jrVi (rest := []) ⟨hx, hb, hml, hown, hts⟩ (c_XB_endOf l dC dI cA ba bt bp bl bh bq br bd bg bf fp fl fh z1 k 1 (by first | assumption | omega) (by first | assumption | omega) (by first | assumption | omega) (by first | assumption | omega) (by first | assumption | omega) (by first | assumption | omega)) (cwV 3 hts (jG_V tw_437 tw_438 tw_439 tw_5 tw_440) rfl rfl rfl (by decide +kernel) (by rw [hR]; exact ⟨Nat.le_of_ble_eq_true rfl, Nat.le_of_ble_eq_true rfl⟩)) hK hP hN [1, 2, 3, 4] rfl 1 0 rfl rfl rfl rfl hl.1 rfl (Nat.le_of_ble_eq_true rfl) dXG_difference_60 (by rw [hR]; exact ⟨Nat.le_of_ble_eq_true rfl, Nat.le_of_ble_eq_true rfl⟩) ?_
          have f5 := f_XB_endOf_b bg bf fp fl fh z1 k 1 (by first | assumption | omega) (by first | assumption | omega) (by first | assumption | omega) (by first | assumption | omega) (by first | assumption | omega) (by first | assumption | omega)
          refine lv_aload_n hx hb dXG_difference_63 rfl (lv_at hl 2 rfl) ?_
          refine va_get (D := (dC, dI)) (ci := 4) (v := .ref ba) (C := RXG) (T := TXG) (N := 7) hx hb hts (fun w h => jmem (inXG w h)) hown hK hP 0 rfl rfl 5 (by decide) (hts _ (jmem tw_106)) (fun _ h9 => h9) rfl dXG_difference_64 ?_
          refine lv_iload_n hx hb dXG_difference_67 rfl (lv_at hl 4 rfl) ?_
          refine lv_iload hx hb dXG_difference_68 (lv_at hl 0 rfl) ?_
          refine ji_iconst hx hb dXG_difference_70 ?_
          refine jrVi (rest := [.int (jI (f_XB_endOf bg bf fp fl fh z1 k 1))]) ⟨hx, hb, hml, hown, hts⟩ (c_XB_endOf l dC dI cA ba bt bp bl bh bq br bd bg bf fp fl fh z2 k 1 (by first | assumption | omega) (by first | assumption | omega) (by first | assumption | omega) (by first | assumption | omega) (by first | assumption | omega) (by first | assumption | omega)) (cwV 3 hts (jG_V tw_437 tw_438 tw_439 tw_5 tw_440) rfl rfl rfl (by decide +kernel) (by rw [hR]; exact ⟨Nat.le_of_ble_eq_true rfl, Nat.le_of_ble_eq_true rfl⟩)) hK hP hN [1, 2, 3, 4] rfl 1 0 rfl rfl rfl rfl hl.1 rfl (Nat.le_of_ble_eq_true rfl) dXG_difference_71 (by rw [hR]; exact ⟨Nat.le_of_ble_eq_true rfl, Nat.le_of_ble_eq_true rfl⟩) ?_
          have f6 := f_XB_endOf_b bg bf fp fl fh z2 k 1 (by first | assumption | omega) (by first | assumption | omega) (by first | assumption | omega) (by first | assumption | omega) (by first | assumption | omega) (by first | assumption | omega)
          refine ji_icmp_eq (tgt := 88) hx hb dXG_difference_74 (by decide) (by omega) (by omega) (fun c74_ => ?_) (fun c74_ => ?_)
          · refine ji_iinc (k := 0) (lv' := [(5, .int (jI (k + 1))), (4, .int (jI v)), (0, .ref ga), (1, .int (jI z1)), (2, .int (jI z2)), (3, .int (jI z3))]) hx hb dXG_difference_88 hl rfl (by decide) rfl (fun ls hl => ?_)
            refine lv_goto (tgt := 20) hx hb dXG_difference_91 (by decide) ?_
            exact ih20 v (k + 1) (by omega) (Eq.trans (by rw [f_XG_difference_L20_s]; rw [if_pos c24_, if_pos c49_, if_pos c74_]; try rfl) hF) (by first | assumption | omega) (by first | assumption | omega) ls (lv_sub hl [0, 1, 2, 3, 4, 5] rfl)
          · refine lv_iload hx hb dXG_difference_77 (lv_at hl 1 rfl) ?_
            refine ji_if_ne (tgt := 85) hx hb dXG_difference_79 (by decide) (by omega) (fun c79_7 => ?_) (fun c79_7 => ?_)
            · refine ji_iinc (k := 1) (lv' := [(4, .int (jI (v + (-1)))), (5, .int (jI k)), (0, .ref ga), (1, .int (jI z1)), (2, .int (jI z2)), (3, .int (jI z3))]) hx hb dXG_difference_85 hl rfl (by decide) rfl (fun ls hl => ?_)
              refine ji_iinc (k := 1) (lv' := [(5, .int (jI (k + 1))), (4, .int (jI (v + (-1)))), (0, .ref ga), (1, .int (jI z1)), (2, .int (jI z2)), (3, .int (jI z3))]) hx hb dXG_difference_88 hl rfl (by decide) rfl (fun ls hl => ?_)
              refine lv_goto (tgt := 20) hx hb dXG_difference_91 (by decide) ?_
              exact ih20 (v + (-1)) (k + 1) (by omega) (Eq.trans (by rw [f_XG_difference_L20_s]; rw [if_pos c24_, if_pos c49_, if_neg c74_, if_neg c79_7]; try rfl) hF) (by first | assumption | omega) (by first | assumption | omega) ls (lv_sub hl [0, 1, 2, 3, 4, 5] rfl)
            · refine lv_iload hx hb dXG_difference_82 (lv_at hl 0 rfl) ?_
              have hz9 : (0, k) = f_XG_difference bg bf fp fl fh z1 z2 z3 := Eq.trans (by rw [f_XG_difference_L20_s]; rw [if_pos c24_, if_pos c49_, if_neg c74_, if_pos c79_7]; try rfl) hF
              subst hQ
              refine yW (fun _ h => yQ_of h) ?_
              exact W.iret (v := jI k) hx hb hr (fun t ht hW => Or.inl ⟨(congrArg Prod.fst hz9).symm, _, rfl, congrArg jI (congrArg Prod.snd hz9), ht⟩) (fun _ h => nomatch h) dXG_difference_84
  exact loop20 (Int.toNat (8 - 0) + 1) z3 0 (by omega) (Eq.trans (by rw [f_XG_difference_s]; rw [if_pos c2_, if_pos c7_, if_pos c11_]; try rfl) rfl) (by first | assumption | omega) (by first | assumption | omega) ls (lv_sub hl [0, 1, 2, 3, 4, 5] rfl)
noncomputable def g_XG_fits_L7 (bg : Int) (bf : Int) (fp : Int → Int) (fl : Int → Int) (fh : Int → Int) (fq : Int → Int) (fd : Int → Int) (fs : Int → Int) (z1 : Int) : Nat → Int → Int × Int
  | 0, _ => (0, 0)
  | n9 + 1, k =>
    if k < 8 then
      if (fs k) < (f_XB_endOf bg bf fp fl fh z1 k 0) then
        (0, k)
      else
        if (f_XB_endOf bg bf fp fl fh z1 k 1) < (fs k) then
          (0, k)
        else
          g_XG_fits_L7 bg bf fp fl fh fq fd fs z1 n9 (k + 1)
    else
      if (f_XB_firstKindAbove bg bf fp fq fd z1 fs) = (-1) then
        (0, -1)
      else
        (0, 8 + (f_XB_firstKindAbove bg bf fp fq fd z1 fs))
noncomputable def f_XG_fits_L7 : Int → Int → (Int → Int) → (Int → Int) → (Int → Int) → (Int → Int) → (Int → Int) → (Int → Int) → Int → Nat → Int → Int × Int := jopq g_XG_fits_L7
theorem f_XG_fits_L7_q : f_XG_fits_L7 = g_XG_fits_L7 := jopq_eq _
theorem f_XG_fits_L7_s (bg : Int) (bf : Int) (fp : Int → Int) (fl : Int → Int) (fh : Int → Int) (fq : Int → Int) (fd : Int → Int) (fs : Int → Int) (z1 : Int) (n9 : Nat) (k : Int) : f_XG_fits_L7 bg bf fp fl fh fq fd fs z1 (n9 + 1) k = (
    if k < 8 then
      if (fs k) < (f_XB_endOf bg bf fp fl fh z1 k 0) then
        (0, k)
      else
        if (f_XB_endOf bg bf fp fl fh z1 k 1) < (fs k) then
          (0, k)
        else
          f_XG_fits_L7 bg bf fp fl fh fq fd fs z1 n9 (k + 1)
    else
      if (f_XB_firstKindAbove bg bf fp fq fd z1 fs) = (-1) then
        (0, -1)
      else
        (0, 8 + (f_XB_firstKindAbove bg bf fp fq fd z1 fs))
  : Int × Int) := by rw [f_XG_fits_L7_q]; rfl
theorem f_XG_fits_L7_z (bg : Int) (bf : Int) (fp : Int → Int) (fl : Int → Int) (fh : Int → Int) (fq : Int → Int) (fd : Int → Int) (fs : Int → Int) (z1 : Int) (k : Int) : f_XG_fits_L7 bg bf fp fl fh fq fd fs z1 0 k = (0, 0) := by rw [f_XG_fits_L7_q]; rfl
noncomputable def g_XG_fits (bg : Int) (bf : Int) (fp : Int → Int) (fl : Int → Int) (fh : Int → Int) (fq : Int → Int) (fd : Int → Int) (fs : Int → Int) (z1 : Int) : Int × Int :=
  if (f_XG_needGrade bg bf z1) = 0 then
    f_XG_fits_L7 bg bf fp fl fh fq fd fs z1 (Int.toNat (8 - 0) + 1) 0
  else
    (f_XG_needGrade bg bf z1, 0)
noncomputable def f_XG_fits : Int → Int → (Int → Int) → (Int → Int) → (Int → Int) → (Int → Int) → (Int → Int) → (Int → Int) → Int → Int × Int := jopq g_XG_fits
theorem f_XG_fits_q : f_XG_fits = g_XG_fits := jopq_eq _
theorem f_XG_fits_s (bg : Int) (bf : Int) (fp : Int → Int) (fl : Int → Int) (fh : Int → Int) (fq : Int → Int) (fd : Int → Int) (fs : Int → Int) (z1 : Int) : f_XG_fits bg bf fp fl fh fq fd fs z1 = (
    if (f_XG_needGrade bg bf z1) = 0 then
      f_XG_fits_L7 bg bf fp fl fh fq fd fs z1 (Int.toNat (8 - 0) + 1) 0
    else
      (f_XG_needGrade bg bf z1, 0)
  : Int × Int) := by rw [f_XG_fits_q]; rfl
set_option maxHeartbeats 4000000 in
set_option maxRecDepth 100000 in
theorem c_XG_fits (l : Launch) (hst : l.stackTraces = false) (dC : Nat → ClassId) (dI : Nat → Nat → Nat) (cA : ClassId) (ga : Nat) (ta : Nat) (rda : Nat) (pa : Nat) (sa : Nat) (ea : Nat) (ba : Nat) (da : Nat) (bt : Nat) (bp : Nat) (bl : Nat) (bh : Nat) (bq : Nat) (br : Nat) (bd : Nat) (bg : Int) (bf : Int) (fp : Int → Int) (fl : Int → Int) (fh : Int → Int) (fq : Int → Int) (fd : Int → Int) (fs : Int → Int) (z1 : Int) (hbp : ∀ i, 0 ≤ fp i ∧ fp i ≤ 30) (hbl : ∀ i, 0 ≤ fl i ∧ fl i ≤ 100000) (hbh : ∀ i, -1 ≤ fh i ∧ fh i ≤ 100000) (hbq : ∀ i, -1 ≤ fq i ∧ fq i ≤ 999999) (hbd : ∀ i, 0 ≤ fd i ∧ fd i ≤ 20) (hbg : 0 ≤ bg ∧ bg < 2147483648) (hbf : 0 ≤ bf ∧ bf < 2147483648) (hfs0 : ∀ i, -1 ≤ fs i ∧ fs i ≤ 100000) (hi_z1 : i32 z1) : YMet l yXG_fits (Cond.code yXG_fits cXG_fits 4 (some .int) :: TBL) ({ frames := 7, cells := 1, slots := 6, locals := 103 } : Room) (va_Pc [.ref ga, .int (jI z1)] (jBx (dC, dI) [(cA, .int)] [(ga, .inr (4, [.ref ta, .ref rda, .ref pa, .ref sa, .ref ea, .ref ba, .ref da])), (ba, .inr (0, [.ref bt, .ref bp, .ref bl, .ref bh, .ref bq, .ref br, .ref bd, .int (jI bg), .int (jI bf)])), (bp, .inl (cA, 31, .inl (jA fp))), (bl, .inl (cA, 248, .inl (jA fl))), (bh, .inl (cA, 248, .inl (jA fh))), (bq, .inl (cA, 124, .inl (jA fq))), (bd, .inl (cA, 32, .inl (jA fd))), (sa, .inl (cA, 8, .inl (jA fs)))])) (xQ (f_XG_fits bg bf fp fl fh fq fd fs z1).1 (vp_Si (fun r => r = jI (f_XG_fits bg bf fp fl fh fq fd fs z1).2))) 0 0 1 6 (fun _ => False) := by
  refine YMet.ofW (cc := cXG_fits) (maxL := 4) (ret := some .int) (by decide) rfl ?_
  intro p e s m args below meth c s₁ R Q hR hQ B hml htab hv
  obtain ⟨rfl, ⟨hP, hK, hN⟩, hX⟩ := hv
  have hx := B.exec
  have hb := B.bytes
  have hr := B.returns
  have hts := atoms_spec (ws := Cond.code yXG_fits cXG_fits 4 (some .int) :: TBL) B.pre
  have hown : s.vm.findClass RXG = some m.cls := findClass_of_methodNamed B.named
  have hlocks := B.notSynchronized
  have hP : va_P (dC, dI) vwCl [(ga, .inr (4, [.ref ta, .ref rda, .ref pa, .ref sa, .ref ea, .ref ba, .ref da])), (ba, .inr (0, [.ref bt, .ref bp, .ref bl, .ref bh, .ref bq, .ref br, .ref bd, .int (jI bg), .int (jI bf)])), (bp, .inl (cA, 31, .inl (jA fp))), (bl, .inl (cA, 248, .inl (jA fl))), (bh, .inl (cA, 248, .inl (jA fh))), (bq, .inl (cA, 124, .inl (jA fq))), (bd, .inl (cA, 32, .inl (jA fd))), (sa, .inl (cA, 8, .inl (jA fs)))] s.heap := hP
  have hl := lv_entry ([.ref ga, .int (jI z1)]) (n := 4) (Nat.le_of_ble_eq_true rfl)
  rw [lg_entry_eq]
  generalize (lg_sl ([.ref ga, .int (jI z1)]) ++ List.replicate (4 - (lg_sl ([.ref ga, .int (jI z1)])).length) Slot.unset).toArray = ls at hl ⊢
  have hl : lv_has ls 4 [(0, .ref ga), (1, .int (jI z1))] := hl
  refine lv_aload_n hx hb dXG_fits_0 rfl (lv_at hl 0 rfl) ?_
  refine lv_iload_n hx hb dXG_fits_1 rfl (lv_at hl 1 rfl) ?_
  rw [hQ]
  refine yrV (rest := []) ⟨hx, hb, hml, hown, hts⟩ (c_XG_needGrade l hst dC dI cA ga ta rda pa sa ea da ba bt bp bl bh bq br bd bg bf z1 (by first | assumption | omega) (by first | assumption | omega)) (cwV 1 hts (jG_V tw_412 tw_414 ts_9 tw_1 tw_415) rfl rfl rfl (by decide +kernel) (by rw [hR]; exact ⟨Nat.le_of_ble_eq_true rfl, Nat.le_of_ble_eq_true rfl⟩)) hK hP hN hX [0, 1] rfl 0 4 rfl rfl rfl rfl hl.1 rfl (Nat.le_of_ble_eq_true rfl) dXG_fits_2 (by rw [hR]; exact ⟨Nat.le_of_ble_eq_true rfl, Nat.le_of_ble_eq_true rfl⟩) htab hlocks rfl (fun c2_ => ?_) (fun c2_ o9 t9 h9 => (by
    have hz9 : (f_XG_needGrade bg bf z1, 0) = f_XG_fits bg bf fp fl fh fq fd fs z1 := Eq.trans (by rw [f_XG_fits_s]; rw [if_neg c2_]; try rfl) rfl
    exact Or.inr ⟨by rw [← hz9]; exact c2_, by rw [← hz9]; exact h9⟩)) (Nat.le_of_ble_eq_true rfl) (Nat.le_of_ble_eq_true rfl)
  rw [← hQ]
  have f := f_XG_needGrade_b bg bf z1 (by first | assumption | omega) (by first | assumption | omega)
  refine ji_iconst hx hb dXG_fits_5 ?_
  refine lv_istore_n (lv' := [(2, .int (jI 0)), (0, .ref ga), (1, .int (jI z1))]) hx hb dXG_fits_6 rfl hl (by decide) rfl (fun ls hl => ?_)
  have loop7 : ∀ (n9 : Nat) (k : Int) , 8 - k < (n9 : Int) → f_XG_fits_L7 bg bf fp fl fh fq fd fs z1 n9 k = f_XG_fits bg bf fp fl fh fq fd fs z1 → (0 ≤ k ∧ k ≤ 8) → ∀ ls : Array Slot, lv_has ls 4 [(2, .int (jI k)), (0, .ref ga), (1, .int (jI z1))] → W p l e R s m ([.ref ga, .int (jI z1)] : List Value).toArray below meth c s.heap [] 0 0 Q (F0 m 7 ls []) := by
    intro n9
    induction n9 with
    | zero =>
      intro k hm hF hk
      exact absurd hm (by omega)
    | succ n9 ih7 =>
      intro k hm hF hk ls hl
      refine lv_iload_n hx hb dXG_fits_7 rfl (lv_at hl 0 rfl) ?_
      refine ji_bipush hx hb dXG_fits_8 (by decide) ?_
      refine ji_icmp_ge (tgt := 56) hx hb dXG_fits_10 (by decide) (by omega) (by omega) (fun c10_ => ?_) (fun c10_ => ?_)
      · refine lv_aload_n hx hb dXG_fits_56 rfl (lv_at hl 1 rfl) ?_
        refine va_get (D := (dC, dI)) (ci := 4) (v := .ref ba) (C := RXG) (T := TXG) (N := 7) hx hb hts (fun w h => jmem (inXG w h)) hown hK hP 0 rfl rfl 5 (by decide) (hts _ (jmem tw_106)) (fun _ h9 => h9) rfl dXG_fits_57 ?_
        refine lv_iload_n hx hb dXG_fits_60 rfl (lv_at hl 2 rfl) ?_
        refine lv_aload_n hx hb dXG_fits_61 rfl (lv_at hl 1 rfl) ?_
        refine va_get (D := (dC, dI)) (ci := 4) (v := .ref sa) (C := RXG) (T := TXG) (N := 7) hx hb hts (fun w h => jmem (inXG w h)) hown hK hP 0 rfl rfl 3 (by decide) (hts _ (jmem tw_104)) (fun _ h9 => h9) rfl dXG_fits_62 ?_
        refine jrVi (rest := []) ⟨hx, hb, hml, hown, hts⟩ (c_XB_firstKindAbove l dC dI cA ba bt bp bl bh bq br bd bg bf fp fq fd z1 sa fs (by first | assumption | omega) (by first | assumption | omega) (by first | assumption | omega) (by first | assumption | omega) (by first | assumption | omega) (by first | assumption | omega)) (cwV 2 hts (jG_V tw_525 tw_526 tw_527 tw_5 tw_528) rfl rfl rfl (by decide +kernel) (by rw [hR]; exact ⟨Nat.le_of_ble_eq_true rfl, Nat.le_of_ble_eq_true rfl⟩)) hK hP hN [1, 2, 5, 6, 7] rfl 1 0 rfl rfl rfl rfl hl.1 rfl (Nat.le_of_ble_eq_true rfl) dXG_fits_65 (by rw [hR]; exact ⟨Nat.le_of_ble_eq_true rfl, Nat.le_of_ble_eq_true rfl⟩) ?_
        have f1 := f_XB_firstKindAbove_b bg bf fp fq fd z1 fs (by first | assumption | omega) (by first | assumption | omega) (by first | assumption | omega) (by first | assumption | omega) (by first | assumption | omega) (by first | assumption | omega)
        refine lv_istore_n (lv' := [(2, .int (jI (f_XB_firstKindAbove bg bf fp fq fd z1 fs))), (0, .ref ga), (1, .int (jI z1))]) hx hb dXG_fits_68 rfl hl (by decide) rfl (fun ls hl => ?_)
        refine lv_iload_n hx hb dXG_fits_69 rfl (lv_at hl 0 rfl) ?_
        refine ji_iconst hx hb dXG_fits_70 ?_
        refine ji_icmp_ne (tgt := 78) hx hb dXG_fits_71 (by decide) (by omega) (by omega) (fun c71_ => ?_) (fun c71_ => ?_)
        · refine ji_bipush hx hb dXG_fits_78 (by decide) ?_
          refine lv_iload_n hx hb dXG_fits_80 rfl (lv_at hl 0 rfl) ?_
          refine ji_iadd hx hb dXG_fits_81 ?_
          have hz9 : (0, 8 + (f_XB_firstKindAbove bg bf fp fq fd z1 fs)) = f_XG_fits bg bf fp fl fh fq fd fs z1 := Eq.trans (by rw [f_XG_fits_L7_s]; rw [if_neg (Int.not_lt.mpr c10_), if_neg c71_]; try rfl) hF
          subst hQ
          refine yW (fun _ h => yQ_of h) ?_
          exact W.iret (v := jI (8 + (f_XB_firstKindAbove bg bf fp fq fd z1 fs))) hx hb hr (fun t ht hW => Or.inl ⟨(congrArg Prod.fst hz9).symm, _, rfl, congrArg jI (congrArg Prod.snd hz9), ht⟩) (fun _ h => nomatch h) dXG_fits_82
        · refine ji_iconst hx hb dXG_fits_74 ?_
          refine lv_goto (tgt := 82) hx hb dXG_fits_75 (by decide) ?_
          have hz9 : (0, -1) = f_XG_fits bg bf fp fl fh fq fd fs z1 := Eq.trans (by rw [f_XG_fits_L7_s]; rw [if_neg (Int.not_lt.mpr c10_), if_pos c71_]; try rfl) hF
          subst hQ
          refine yW (fun _ h => yQ_of h) ?_
          exact W.iret (v := jI (-1)) hx hb hr (fun t ht hW => Or.inl ⟨(congrArg Prod.fst hz9).symm, _, rfl, congrArg jI (congrArg Prod.snd hz9), ht⟩) (fun _ h => nomatch h) dXG_fits_82
      · refine lv_aload_n hx hb dXG_fits_13 rfl (lv_at hl 1 rfl) ?_
        refine va_get (D := (dC, dI)) (ci := 4) (v := .ref sa) (C := RXG) (T := TXG) (N := 7) hx hb hts (fun w h => jmem (inXG w h)) hown hK hP 0 rfl rfl 3 (by decide) (hts _ (jmem tw_104)) (fun _ h9 => h9) rfl dXG_fits_14 ?_
        refine lv_iload_n hx hb dXG_fits_17 rfl (lv_at hl 0 rfl) ?_
        refine ji_iald hx hb hK hP 7 0 rfl rfl ⟨by omega, by omega⟩ (by decide) dXG_fits_18 ?_
        have rb := hfs0 k
        refine lv_istore_n (lv' := [(3, .int (jI (fs k))), (2, .int (jI k)), (0, .ref ga), (1, .int (jI z1))]) hx hb dXG_fits_19 rfl hl (by decide) rfl (fun ls hl => ?_)
        refine lv_iload_n hx hb dXG_fits_20 rfl (lv_at hl 0 rfl) ?_
        refine lv_aload_n hx hb dXG_fits_21 rfl (lv_at hl 2 rfl) ?_
        refine va_get (D := (dC, dI)) (ci := 4) (v := .ref ba) (C := RXG) (T := TXG) (N := 7) hx hb hts (fun w h => jmem (inXG w h)) hown hK hP 0 rfl rfl 5 (by decide) (hts _ (jmem tw_106)) (fun _ h9 => h9) rfl dXG_fits_22 ?_
        refine lv_iload_n hx hb dXG_fits_25 rfl (lv_at hl 3 rfl) ?_
        refine lv_iload_n hx hb dXG_fits_26 rfl (lv_at hl 1 rfl) ?_
        refine ji_iconst hx hb dXG_fits_27 ?_
        refine jrVi (rest := [.int (jI (fs k))]) ⟨hx, hb, hml, hown, hts⟩ (c_XB_endOf l dC dI cA ba bt bp bl bh bq br bd bg bf fp fl fh z1 k 0 (by first | assumption | omega) (by first | assumption | omega) (by first | assumption | omega) (by first | assumption | omega) (by first | assumption | omega) (by first | assumption | omega)) (cwV 3 hts (jG_V tw_437 tw_438 tw_439 tw_5 tw_440) rfl rfl rfl (by decide +kernel) (by rw [hR]; exact ⟨Nat.le_of_ble_eq_true rfl, Nat.le_of_ble_eq_true rfl⟩)) hK hP hN [1, 2, 3, 4] rfl 1 0 rfl rfl rfl rfl hl.1 rfl (Nat.le_of_ble_eq_true rfl) dXG_fits_28 (by rw [hR]; exact ⟨Nat.le_of_ble_eq_true rfl, Nat.le_of_ble_eq_true rfl⟩) ?_
        have f2 := f_XB_endOf_b bg bf fp fl fh z1 k 0 (by first | assumption | omega) (by first | assumption | omega) (by first | assumption | omega) (by first | assumption | omega) (by first | assumption | omega) (by first | assumption | omega)
        refine ji_icmp_lt (tgt := 48) hx hb dXG_fits_31 (by decide) (by omega) (by omega) (fun c31_ => ?_) (fun c31_ => ?_)
        · refine lv_iload_n hx hb dXG_fits_48 rfl (lv_at hl 1 rfl) ?_
          have hz9 : (0, k) = f_XG_fits bg bf fp fl fh fq fd fs z1 := Eq.trans (by rw [f_XG_fits_L7_s]; rw [if_pos c10_, if_pos c31_]; try rfl) hF
          subst hQ
          refine yW (fun _ h => yQ_of h) ?_
          exact W.iret (v := jI k) hx hb hr (fun t ht hW => Or.inl ⟨(congrArg Prod.fst hz9).symm, _, rfl, congrArg jI (congrArg Prod.snd hz9), ht⟩) (fun _ h => nomatch h) dXG_fits_49
        · refine lv_iload_n hx hb dXG_fits_34 rfl (lv_at hl 0 rfl) ?_
          refine lv_aload_n hx hb dXG_fits_35 rfl (lv_at hl 2 rfl) ?_
          refine va_get (D := (dC, dI)) (ci := 4) (v := .ref ba) (C := RXG) (T := TXG) (N := 7) hx hb hts (fun w h => jmem (inXG w h)) hown hK hP 0 rfl rfl 5 (by decide) (hts _ (jmem tw_106)) (fun _ h9 => h9) rfl dXG_fits_36 ?_
          refine lv_iload_n hx hb dXG_fits_39 rfl (lv_at hl 3 rfl) ?_
          refine lv_iload_n hx hb dXG_fits_40 rfl (lv_at hl 1 rfl) ?_
          refine ji_iconst hx hb dXG_fits_41 ?_
          refine jrVi (rest := [.int (jI (fs k))]) ⟨hx, hb, hml, hown, hts⟩ (c_XB_endOf l dC dI cA ba bt bp bl bh bq br bd bg bf fp fl fh z1 k 1 (by first | assumption | omega) (by first | assumption | omega) (by first | assumption | omega) (by first | assumption | omega) (by first | assumption | omega) (by first | assumption | omega)) (cwV 3 hts (jG_V tw_437 tw_438 tw_439 tw_5 tw_440) rfl rfl rfl (by decide +kernel) (by rw [hR]; exact ⟨Nat.le_of_ble_eq_true rfl, Nat.le_of_ble_eq_true rfl⟩)) hK hP hN [1, 2, 3, 4] rfl 1 0 rfl rfl rfl rfl hl.1 rfl (Nat.le_of_ble_eq_true rfl) dXG_fits_42 (by rw [hR]; exact ⟨Nat.le_of_ble_eq_true rfl, Nat.le_of_ble_eq_true rfl⟩) ?_
          have f3 := f_XB_endOf_b bg bf fp fl fh z1 k 1 (by first | assumption | omega) (by first | assumption | omega) (by first | assumption | omega) (by first | assumption | omega) (by first | assumption | omega) (by first | assumption | omega)
          refine ji_icmp_le (tgt := 50) hx hb dXG_fits_45 (by decide) (by omega) (by omega) (fun c45_ => ?_) (fun c45_ => ?_)
          · refine ji_iinc (k := 1) (lv' := [(2, .int (jI (k + 1))), (3, .int (jI (fs k))), (0, .ref ga), (1, .int (jI z1))]) hx hb dXG_fits_50 hl rfl (by decide) rfl (fun ls hl => ?_)
            refine lv_goto (tgt := 7) hx hb dXG_fits_53 (by decide) ?_
            exact ih7 (k + 1) (by omega) (Eq.trans (by rw [f_XG_fits_L7_s]; rw [if_pos c10_, if_neg (Int.not_lt.mpr c31_), if_neg (Int.not_lt.mpr c45_)]; try rfl) hF) (by first | assumption | omega) ls (lv_sub hl [0, 2, 3] rfl)
          · refine lv_iload_n hx hb dXG_fits_48 rfl (lv_at hl 1 rfl) ?_
            have hz9 : (0, k) = f_XG_fits bg bf fp fl fh fq fd fs z1 := Eq.trans (by rw [f_XG_fits_L7_s]; rw [if_pos c10_, if_neg (Int.not_lt.mpr c31_), if_pos c45_]; try rfl) hF
            subst hQ
            refine yW (fun _ h => yQ_of h) ?_
            exact W.iret (v := jI k) hx hb hr (fun t ht hW => Or.inl ⟨(congrArg Prod.fst hz9).symm, _, rfl, congrArg jI (congrArg Prod.snd hz9), ht⟩) (fun _ h => nomatch h) dXG_fits_49
  exact loop7 (Int.toNat (8 - 0) + 1) 0 (by omega) (Eq.trans (by rw [f_XG_fits_s]; rw [if_pos c2_]; try rfl) rfl) (by first | assumption | omega) ls (lv_sub hl [0, 1, 2] rfl)

end
section
noncomputable def g_XG_sign (tn : Int) (tp : Int) (tw : Int) (tf : Int → Int) (zy : Int) (z1 : Int) : Int × Int × Int × (Int → Int) :=
  if z1 < 1 then
    (3, 0, 0, fun _ => 0)
  else
    if 8 < z1 then
      (3, 0, 0, fun _ => 0)
    else
      if (f_XT_hasRoom tn tp tw tf z1) = 0 then
        (4, 0, 0, fun _ => 0)
      else
        match f_XT_append tn tp tw tf zy z1 with
        | (r, tn1', tf1') =>
          (0, r, tn1', tf1')
noncomputable def f_XG_sign : Int → Int → Int → (Int → Int) → Int → Int → Int × Int × Int × (Int → Int) := jopq g_XG_sign
theorem f_XG_sign_q : f_XG_sign = g_XG_sign := jopq_eq _
theorem f_XG_sign_s (tn : Int) (tp : Int) (tw : Int) (tf : Int → Int) (zy : Int) (z1 : Int) : f_XG_sign tn tp tw tf zy z1 = (
    if z1 < 1 then
      (3, 0, 0, fun _ => 0)
    else
      if 8 < z1 then
        (3, 0, 0, fun _ => 0)
      else
        if (f_XT_hasRoom tn tp tw tf z1) = 0 then
          (4, 0, 0, fun _ => 0)
        else
          match f_XT_append tn tp tw tf zy z1 with
          | (r, tn1', tf1') =>
            (0, r, tn1', tf1')
  : Int × Int × Int × (Int → Int)) := by rw [f_XG_sign_q]; rfl
set_option maxHeartbeats 4000000 in
set_option maxRecDepth 100000 in
theorem c_XG_sign (l : Launch) (hst : l.stackTraces = false) (dC : Nat → ClassId) (dI : Nat → Nat → Nat) (cA : ClassId) (sz : Nat) (ga : Nat) (ta : Nat) (rda : Nat) (pa : Nat) (sa : Nat) (ea : Nat) (ba : Nat) (da : Nat) (ts : Nat) (tn : Int) (tp : Int) (tw : Int) (tf : Int → Int) (zy : Int) (z1 : Int) (hn : 0 ≤ tn ∧ tn ≤ 400) (hf : ∀ i, 0 ≤ tf i ∧ tf i < 256) (hi_z1 : i32 z1) : YMet l yXG_sign (Cond.code yXG_sign cXG_sign 4 (some .int) :: TBL) ({ frames := 6, cells := 1, slots := 6, locals := 82 } : Room) (va_Pc [.ref ga, .long (jL zy), .int (jI z1)] (jBxw (dC, dI) [(cA, .int)] [(ga, .inr (4, [.ref ta, .ref rda, .ref pa, .ref sa, .ref ea, .ref ba, .ref da])), (ta, .inr (3, [.ref ts, .int (jI tn), .int (jI tp), .int (jI tw)])), (ts, .inl (cA, 400, .inl (jA tf)))] sz)) (xQ (f_XG_sign tn tp tw tf zy z1).1 (va_Qi (fun (r : Int32) (u : Int × Int × (Int → Int)) => r = jI u.1 ∧ u = (f_XG_sign tn tp tw tf zy z1).2 ∧ (0 ≤ u.2.1 ∧ u.2.1 ≤ 400) ∧ (∀ i, 0 ≤ u.2.2 i ∧ u.2.2 i < 256)) (fun u t => jE (dC, dI) [(cA, .int)] [(ga, .inr (4, [.ref ta, .ref rda, .ref pa, .ref sa, .ref ea, .ref ba, .ref da])), (ta, .inr (3, [.ref ts, .int (jI tn), .int (jI tp), .int (jI tw)])), (ts, .inl (cA, 400, .inl (jA tf)))] sz [(ga, .inr (4, [.ref ta, .ref rda, .ref pa, .ref sa, .ref ea, .ref ba, .ref da])), (ta, .inr (3, [.ref ts, .int (jI u.2.1), .int (jI tp), .int (jI tw)])), (ts, .inl (cA, 400, .inl (jA u.2.2)))] t) (va_A [(ga, .inr (4, [.ref ta, .ref rda, .ref pa, .ref sa, .ref ea, .ref ba, .ref da])), (ta, .inr (3, [.ref ts, .int (jI tn), .int (jI tp), .int (jI tw)])), (ts, .inl (cA, 400, .inl (jA tf)))] sz))) 0 0 1 6 (va_A [(ga, .inr (4, [.ref ta, .ref rda, .ref pa, .ref sa, .ref ea, .ref ba, .ref da])), (ta, .inr (3, [.ref ts, .int (jI tn), .int (jI tp), .int (jI tw)])), (ts, .inl (cA, 400, .inl (jA tf)))] sz) := by
  refine YMet.ofW (cc := cXG_sign) (maxL := 4) (ret := some .int) (by decide) rfl ?_
  intro p e s m args below meth c s₁ R Q hR hQ B hml htab hv
  obtain ⟨rfl, ⟨hsz, hP, hK, hD0, hN⟩, hX⟩ := hv
  have hx := B.exec
  have hb := B.bytes
  have hr := B.returns
  have hts := atoms_spec (ws := Cond.code yXG_sign cXG_sign 4 (some .int) :: TBL) B.pre
  have hown : s.vm.findClass RXG = some m.cls := findClass_of_methodNamed B.named
  have hlocks := B.notSynchronized
  subst hsz
  obtain ⟨A, hAe⟩ : ∃ A, A = va_A [(ga, .inr (4, [.ref ta, .ref rda, .ref pa, .ref sa, .ref ea, .ref ba, .ref da])), (ta, .inr (3, [.ref ts, .int (jI tn), .int (jI tp), .int (jI tw)])), (ts, .inl (cA, 400, .inl (jA tf)))] s.heap.size := ⟨_, rfl⟩
  have hD : va_D A [(ga, .inr (4, [.ref ta, .ref rda, .ref pa, .ref sa, .ref ea, .ref ba, .ref da])), (ta, .inr (3, [.ref ts, .int (jI tn), .int (jI tp), .int (jI tw)])), (ts, .inl (cA, 400, .inl (jA tf)))] := by rw [hAe]; exact hD0.self
  have hA : ∀ q : Nat, s.heap.size ≤ q → A q := fun q h => by rw [hAe]; exact Or.inr h
  have hS : va_S A s.heap s.heap [] := va_S.rf
  have hP : va_P (dC, dI) vwCl [(ga, .inr (4, [.ref ta, .ref rda, .ref pa, .ref sa, .ref ea, .ref ba, .ref da])), (ta, .inr (3, [.ref ts, .int (jI tn), .int (jI tp), .int (jI tw)])), (ts, .inl (cA, 400, .inl (jA tf)))] s.heap := hP
  have hl := lv_entry ([.ref ga, .long (jL zy), .int (jI z1)]) (n := 4) (Nat.le_of_ble_eq_true rfl)
  rw [lg_entry_eq]
  generalize (lg_sl ([.ref ga, .long (jL zy), .int (jI z1)]) ++ List.replicate (4 - (lg_sl ([.ref ga, .long (jL zy), .int (jI z1)])).length) Slot.unset).toArray = ls at hl ⊢
  have hl : lv_has ls 4 [(0, .ref ga), (1, .long (jL zy)), (3, .int (jI z1))] := hl
  refine lv_iload_n hx hb dXG_sign_0 rfl (lv_at hl 2 rfl) ?_
  refine ji_iconst hx hb dXG_sign_1 ?_
  refine ji_icmp_lt (tgt := 11) hx hb dXG_sign_2 (by decide) (by omega) (by omega) (fun c2_ => ?_) (fun c2_ => ?_)
  · have hz9 : (3, 0, 0, fun _ => 0) = f_XG_sign tn tp tw tf zy z1 := Eq.trans (by rw [f_XG_sign_s]; rw [if_pos c2_]; try rfl) rfl
    obtain ⟨sa9, hsa9⟩ := hX.s51
    obtain ⟨cX9, kX9, hfX9, -⟩ := Cond.instantiable_spec (hts _ (jmem ti_XIA))
    subst hQ
    exact y_throwNew hx hb htab hlocks hst hown (by decide +kernel) (by decide +kernel) (hX.atoms_XIA hts) (hts _ (jmem tc_XIA)) (hts _ (jmem ti_XIA)) (hts _ (jmem tn_XIA)) hsa9 hfX9 (Nat.le_refl _) (hl.1.trans hml.symm) dXG_sign_11 dXG_sign_14 dXG_sign_15 dXG_sign_17 dXG_sign_20 (by rw [hR]; exact Nat.le_of_ble_eq_true rfl) (by rw [hR]; exact Nat.le_of_ble_eq_true rfl) (by rw [hR]; exact Nat.le_of_ble_eq_true rfl) (by rw [hR]; exact Nat.le_of_ble_eq_true rfl) (fun t x ce h1 h2 h3 h4 h5 h6 h7 => Or.inr ⟨by rw [← hz9]; decide, by rw [← hz9]; exact ⟨x, ce, rfl, h1, h2, h3, h4, h5, h6⟩⟩) (Nat.le_of_ble_eq_true rfl) (Nat.le_of_ble_eq_true rfl)
  · refine lv_iload_n hx hb dXG_sign_5 rfl (lv_at hl 2 rfl) ?_
    refine ji_bipush hx hb dXG_sign_6 (by decide) ?_
    refine ji_icmp_le (tgt := 21) hx hb dXG_sign_8 (by decide) (by omega) (by omega) (fun c8_ => ?_) (fun c8_ => ?_)
    · refine lv_aload_n hx hb dXG_sign_21 rfl (lv_at hl 0 rfl) ?_
      refine va_get (D := (dC, dI)) (ci := 4) (v := .ref ta) (C := RXG) (T := TXG) (N := 7) hx hb hts (fun w h => jmem (inXG w h)) hown hK hP 0 rfl rfl 0 (by decide) (hts _ (jmem tw_101)) (fun _ h9 => h9) rfl dXG_sign_22 ?_
      refine lv_iload_n hx hb dXG_sign_25 rfl (lv_at hl 2 rfl) ?_
      refine jrVi (rest := []) ⟨hx, hb, hml, hown, hts⟩ (c_XT_hasRoom l dC dI cA ta ts tn tp tw tf z1 (by first | assumption | omega) (by first | assumption | omega)) (cwV 1 hts (jG_V tw_379 tw_380 tw_381 tw_2 tw_382) rfl rfl rfl (by decide +kernel) (by rw [hR]; exact ⟨Nat.le_of_ble_eq_true rfl, Nat.le_of_ble_eq_true rfl⟩)) hK hP hN [1, 2] rfl 1 3 rfl rfl rfl rfl hl.1 rfl (Nat.le_of_ble_eq_true rfl) dXG_sign_26 (by rw [hR]; exact ⟨Nat.le_of_ble_eq_true rfl, Nat.le_of_ble_eq_true rfl⟩) ?_
      have f := f_XT_hasRoom_b tn tp tw tf z1 (by first | assumption | omega) (by first | assumption | omega)
      refine ji_if_ne (tgt := 42) hx hb dXG_sign_29 (by decide) (by omega) (fun c29_ => ?_) (fun c29_ => ?_)
      · refine lv_aload_n hx hb dXG_sign_42 rfl (lv_at hl 0 rfl) ?_
        refine va_get (D := (dC, dI)) (ci := 4) (v := .ref ta) (C := RXG) (T := TXG) (N := 7) hx hb hts (fun w h => jmem (inXG w h)) hown hK hP 0 rfl rfl 0 (by decide) (hts _ (jmem tw_101)) (fun _ h9 => h9) rfl dXG_sign_43 ?_
        refine lv_lload_n hx hb dXG_sign_46 rfl (lv_at hl 1 rfl) ?_
        refine lv_iload_n hx hb dXG_sign_47 rfl (lv_at hl 2 rfl) ?_
        refine jwVi (rest := []) (wr := [(ga, .inr (4, [.ref ta, .ref rda, .ref pa, .ref sa, .ref ea, .ref ba, .ref da]))]) ⟨hx, hb, hml, hown, hts⟩ (c_XT_append l dC dI cA _ ta ts tn tp tw tf zy z1 (by first | assumption | omega) (by first | assumption | omega) (by first | assumption | omega)) (cwV 2 hts (jG_V tw_399 tw_400 tw_401 tw_2 tw_402) rfl rfl rfl (by decide +kernel) (by rw [hR]; exact ⟨Nat.le_of_ble_eq_true rfl, Nat.le_of_ble_eq_true rfl⟩)) hK hP hD hS hA hN [1, 2] [0] rfl rfl (by decide) (by decide) (by decide) 1 3 rfl rfl rfl rfl hl.1 rfl (Nat.le_of_ble_eq_true rfl) dXG_sign_48 (by rw [hR]; exact ⟨Nat.le_of_ble_eq_true rfl, Nat.le_of_ble_eq_true rfl⟩) (fun v u H locs hwb hP hD hS => ?_)
        obtain ⟨r, tn1', tf1'⟩ := u
        try dsimp only at hwb
        obtain ⟨er, hwb⟩ := hwb
        subst er
        have hP : va_P (dC, dI) vwCl [(ga, .inr (4, [.ref ta, .ref rda, .ref pa, .ref sa, .ref ea, .ref ba, .ref da])), (ta, .inr (3, [.ref ts, .int (jI tn1'), .int (jI tp), .int (jI tw)])), (ts, .inl (cA, 400, .inl (jA tf1')))] H := hP
        have hD : va_D A [(ga, .inr (4, [.ref ta, .ref rda, .ref pa, .ref sa, .ref ea, .ref ba, .ref da])), (ta, .inr (3, [.ref ts, .int (jI tn1'), .int (jI tp), .int (jI tw)])), (ts, .inl (cA, 400, .inl (jA tf1')))] := hD
        have f1 := f_XT_append_b tn tp tw tf zy z1 (by first | assumption | omega) (by first | assumption | omega) (by first | assumption | omega)
        rw [← hwb] at f1; try dsimp only at f1
        have f2 := f_XT_append_f tn tp tw tf zy z1 (by first | assumption | omega) (by first | assumption | omega) (by first | assumption | omega)
        rw [← hwb] at f2; try dsimp only at f2
        have hz9 : (0, r, tn1', tf1') = f_XG_sign tn tp tw tf zy z1 := Eq.trans (by rw [f_XG_sign_s]; rw [if_neg (Int.not_lt.mpr c2_), if_neg (Int.not_lt.mpr c8_), if_neg c29_]; rw [← hwb]; try dsimp only; try rfl) rfl
        have hP9 := hP.sub (ws' := [(ga, .inr (4, [.ref ta, .ref rda, .ref pa, .ref sa, .ref ea, .ref ba, .ref da])), (ta, .inr (3, [.ref ts, .int (jI tn1'), .int (jI tp), .int (jI tw)])), (ts, .inl (cA, 400, .inl (jA tf1')))]) [0, 1, 2] rfl
        have hD9 := hD.sub (ws' := [(ga, .inr (4, [.ref ta, .ref rda, .ref pa, .ref sa, .ref ea, .ref ba, .ref da])), (ta, .inr (3, [.ref ts, .int (jI tn1'), .int (jI tp), .int (jI tw)])), (ts, .inl (cA, 400, .inl (jA tf1')))]) [0, 1, 2] (by decide) rfl
        subst hAe
        subst hQ
        refine yW (fun _ h => yQ_of h) ?_
        exact W.iret (v := jI r) hx hb hr (fun t ht hW => Or.inl ⟨(congrArg Prod.fst hz9).symm, ⟨_, (r, tn1', tf1'), rfl, ⟨rfl, congrArg Prod.snd hz9, show 0 ≤ tn1' ∧ tn1' ≤ 400 from by first | assumption | omega, show ∀ i, 0 ≤ tf1' i ∧ tf1' i < 256 from by first | assumption | omega⟩, ⟨by rw [ht]; exact hP9, va_K.moved hW.alike hK, hD9⟩⟩, hS.F ht⟩) hS.2.2 dXG_sign_51
      · have hz9 : (4, 0, 0, fun _ => 0) = f_XG_sign tn tp tw tf zy z1 := Eq.trans (by rw [f_XG_sign_s]; rw [if_neg (Int.not_lt.mpr c2_), if_neg (Int.not_lt.mpr c8_), if_pos c29_]; try rfl) rfl
        obtain ⟨sa9, hsa9⟩ := hX.s62
        obtain ⟨cX9, kX9, hfX9, -⟩ := Cond.instantiable_spec (hts _ (jmem ti_XUO))
        subst hQ
        exact y_throwNew hx hb htab hlocks hst hown (by decide +kernel) (by decide +kernel) (hX.atoms_XUO hts) (hts _ (jmem tc_XUO)) (hts _ (jmem ti_XUO)) (hts _ (jmem tn_XUO)) hsa9 hfX9 (Nat.le_refl _) (hl.1.trans hml.symm) dXG_sign_32 dXG_sign_35 dXG_sign_36 dXG_sign_38 dXG_sign_41 (by rw [hR]; exact Nat.le_of_ble_eq_true rfl) (by rw [hR]; exact Nat.le_of_ble_eq_true rfl) (by rw [hR]; exact Nat.le_of_ble_eq_true rfl) (by rw [hR]; exact Nat.le_of_ble_eq_true rfl) (fun t x ce h1 h2 h3 h4 h5 h6 h7 => Or.inr ⟨by rw [← hz9]; decide, by rw [← hz9]; exact ⟨x, ce, rfl, h1, h2, h3, h4, h5, h6⟩⟩) (Nat.le_of_ble_eq_true rfl) (Nat.le_of_ble_eq_true rfl)
    · have hz9 : (3, 0, 0, fun _ => 0) = f_XG_sign tn tp tw tf zy z1 := Eq.trans (by rw [f_XG_sign_s]; rw [if_neg (Int.not_lt.mpr c2_), if_pos c8_]; try rfl) rfl
      obtain ⟨sa9, hsa9⟩ := hX.s51
      obtain ⟨cX9, kX9, hfX9, -⟩ := Cond.instantiable_spec (hts _ (jmem ti_XIA))
      subst hQ
      exact y_throwNew hx hb htab hlocks hst hown (by decide +kernel) (by decide +kernel) (hX.atoms_XIA hts) (hts _ (jmem tc_XIA)) (hts _ (jmem ti_XIA)) (hts _ (jmem tn_XIA)) hsa9 hfX9 (Nat.le_refl _) (hl.1.trans hml.symm) dXG_sign_11 dXG_sign_14 dXG_sign_15 dXG_sign_17 dXG_sign_20 (by rw [hR]; exact Nat.le_of_ble_eq_true rfl) (by rw [hR]; exact Nat.le_of_ble_eq_true rfl) (by rw [hR]; exact Nat.le_of_ble_eq_true rfl) (by rw [hR]; exact Nat.le_of_ble_eq_true rfl) (fun t x ce h1 h2 h3 h4 h5 h6 h7 => Or.inr ⟨by rw [← hz9]; decide, by rw [← hz9]; exact ⟨x, ce, rfl, h1, h2, h3, h4, h5, h6⟩⟩) (Nat.le_of_ble_eq_true rfl) (Nat.le_of_ble_eq_true rfl)
noncomputable def g_XG_share (fs : Int → Int) (z1 : Int) (z2 : Int) : Int × (Int → Int) :=
  if (f_XG_needBelow z1 8) = 0 then
    if z2 < 0 then
      (3, fun _ => 0)
    else
      if 100000 < z2 then
        (3, fun _ => 0)
      else
        (0, jset fs z1 z2)
  else
    (f_XG_needBelow z1 8, fun _ => 0)
noncomputable def f_XG_share : (Int → Int) → Int → Int → Int × (Int → Int) := jopq g_XG_share
theorem f_XG_share_q : f_XG_share = g_XG_share := jopq_eq _
theorem f_XG_share_s (fs : Int → Int) (z1 : Int) (z2 : Int) : f_XG_share fs z1 z2 = (
    if (f_XG_needBelow z1 8) = 0 then
      if z2 < 0 then
        (3, fun _ => 0)
      else
        if 100000 < z2 then
          (3, fun _ => 0)
        else
          (0, jset fs z1 z2)
    else
      (f_XG_needBelow z1 8, fun _ => 0)
  : Int × (Int → Int)) := by rw [f_XG_share_q]; rfl
set_option maxHeartbeats 4000000 in
set_option maxRecDepth 100000 in
theorem c_XG_share (l : Launch) (hst : l.stackTraces = false) (dC : Nat → ClassId) (dI : Nat → Nat → Nat) (cA : ClassId) (sz : Nat) (ga : Nat) (ta : Nat) (rda : Nat) (pa : Nat) (sa : Nat) (ea : Nat) (ba : Nat) (da : Nat) (fs : Int → Int) (z1 : Int) (z2 : Int) (hfs0 : ∀ i, -1 ≤ fs i ∧ fs i ≤ 100000) (hi_z1 : i32 z1) (hi_z2 : i32 z2) : YMet l yXG_share (Cond.code yXG_share cXG_share 3 none :: TBL) ({ frames := 7, cells := 1, slots := 6, locals := 103 } : Room) (va_Pc [.ref ga, .int (jI z1), .int (jI z2)] (jBxw (dC, dI) [(cA, .int)] [(ga, .inr (4, [.ref ta, .ref rda, .ref pa, .ref sa, .ref ea, .ref ba, .ref da])), (sa, .inl (cA, 8, .inl (jA fs)))] sz)) (xQ (f_XG_share fs z1 z2).1 (va_Qv (fun (u : (Int → Int)) => u = (f_XG_share fs z1 z2).2 ∧ (∀ i, -1 ≤ u i ∧ u i ≤ 100000)) (fun u t => jE (dC, dI) [(cA, .int)] [(ga, .inr (4, [.ref ta, .ref rda, .ref pa, .ref sa, .ref ea, .ref ba, .ref da])), (sa, .inl (cA, 8, .inl (jA fs)))] sz [(ga, .inr (4, [.ref ta, .ref rda, .ref pa, .ref sa, .ref ea, .ref ba, .ref da])), (sa, .inl (cA, 8, .inl (jA u)))] t) (va_A [(ga, .inr (4, [.ref ta, .ref rda, .ref pa, .ref sa, .ref ea, .ref ba, .ref da])), (sa, .inl (cA, 8, .inl (jA fs)))] sz))) 0 0 1 6 (va_A [(ga, .inr (4, [.ref ta, .ref rda, .ref pa, .ref sa, .ref ea, .ref ba, .ref da])), (sa, .inl (cA, 8, .inl (jA fs)))] sz) := by
  refine YMet.ofW (cc := cXG_share) (maxL := 3) (ret := none) (by decide) rfl ?_
  intro p e s m args below meth c s₁ R Q hR hQ B hml htab hv
  obtain ⟨rfl, ⟨hsz, hP, hK, hD0, hN⟩, hX⟩ := hv
  have hx := B.exec
  have hb := B.bytes
  have hr := B.returns
  have hts := atoms_spec (ws := Cond.code yXG_share cXG_share 3 none :: TBL) B.pre
  have hown : s.vm.findClass RXG = some m.cls := findClass_of_methodNamed B.named
  have hlocks := B.notSynchronized
  subst hsz
  obtain ⟨A, hAe⟩ : ∃ A, A = va_A [(ga, .inr (4, [.ref ta, .ref rda, .ref pa, .ref sa, .ref ea, .ref ba, .ref da])), (sa, .inl (cA, 8, .inl (jA fs)))] s.heap.size := ⟨_, rfl⟩
  have hD : va_D A [(ga, .inr (4, [.ref ta, .ref rda, .ref pa, .ref sa, .ref ea, .ref ba, .ref da])), (sa, .inl (cA, 8, .inl (jA fs)))] := by rw [hAe]; exact hD0.self
  have hA : ∀ q : Nat, s.heap.size ≤ q → A q := fun q h => by rw [hAe]; exact Or.inr h
  have hS : va_S A s.heap s.heap [] := va_S.rf
  have hP : va_P (dC, dI) vwCl [(ga, .inr (4, [.ref ta, .ref rda, .ref pa, .ref sa, .ref ea, .ref ba, .ref da])), (sa, .inl (cA, 8, .inl (jA fs)))] s.heap := hP
  have hl := lv_entry ([.ref ga, .int (jI z1), .int (jI z2)]) (n := 3) (Nat.le_of_ble_eq_true rfl)
  rw [lg_entry_eq]
  generalize (lg_sl ([.ref ga, .int (jI z1), .int (jI z2)]) ++ List.replicate (3 - (lg_sl ([.ref ga, .int (jI z1), .int (jI z2)])).length) Slot.unset).toArray = ls at hl ⊢
  have hl : lv_has ls 3 [(0, .ref ga), (1, .int (jI z1)), (2, .int (jI z2))] := hl
  refine lv_iload_n hx hb dXG_share_0 rfl (lv_at hl 1 rfl) ?_
  refine ji_bipush hx hb dXG_share_1 (by decide) ?_
  rw [hQ]
  refine yrS (rest := []) ⟨hx, hb, hml, hown, hts⟩ (c_XG_needBelow l hst dC dI cA z1 8 (by first | assumption | omega) (by first | assumption | omega)) (cwS 2 hts (jG_S tw_433 tw_434 tw_1 tw_435) rfl rfl rfl (by decide +kernel) (by rw [hR]; exact ⟨Nat.le_of_ble_eq_true rfl, Nat.le_of_ble_eq_true rfl⟩)) hK hP hN hX [] rfl rfl hl.1 rfl (Nat.le_of_ble_eq_true rfl) dXG_share_3 (by rw [hR]; exact ⟨Nat.le_of_ble_eq_true rfl, Nat.le_of_ble_eq_true rfl⟩) htab hlocks rfl (fun c3_ => ?_) (fun c3_ o9 t9 h9 => (by
    have hz9 : (f_XG_needBelow z1 8, fun _ => 0) = f_XG_share fs z1 z2 := Eq.trans (by rw [f_XG_share_s]; rw [if_neg c3_]; try rfl) rfl
    exact Or.inr ⟨by rw [← hz9]; exact c3_, by rw [← hz9]; exact h9⟩)) (Nat.le_of_ble_eq_true rfl) (Nat.le_of_ble_eq_true rfl)
  rw [← hQ]
  have f := f_XG_needBelow_b z1 8 (by first | assumption | omega) (by first | assumption | omega)
  refine lv_iload_n hx hb dXG_share_6 rfl (lv_at hl 2 rfl) ?_
  refine ji_if_lt (tgt := 16) hx hb dXG_share_7 (by decide) (by omega) (fun c7_ => ?_) (fun c7_ => ?_)
  · have hz9 : (3, fun _ => 0) = f_XG_share fs z1 z2 := Eq.trans (by rw [f_XG_share_s]; rw [if_pos c3_, if_pos c7_]; try rfl) rfl
    obtain ⟨sa9, hsa9⟩ := hX.s121
    obtain ⟨cX9, kX9, hfX9, -⟩ := Cond.instantiable_spec (hts _ (jmem ti_XIA))
    subst hQ
    exact y_throwNew hx hb htab hlocks hst hown (by decide +kernel) (by decide +kernel) (hX.atoms_XIA hts) (hts _ (jmem tc_XIA)) (hts _ (jmem ti_XIA)) (hts _ (jmem tn_XIA)) hsa9 hfX9 (Nat.le_refl _) (hl.1.trans hml.symm) dXG_share_16 dXG_share_19 dXG_share_20 dXG_share_22 dXG_share_25 (by rw [hR]; exact Nat.le_of_ble_eq_true rfl) (by rw [hR]; exact Nat.le_of_ble_eq_true rfl) (by rw [hR]; exact Nat.le_of_ble_eq_true rfl) (by rw [hR]; exact Nat.le_of_ble_eq_true rfl) (fun t x ce h1 h2 h3 h4 h5 h6 h7 => Or.inr ⟨by rw [← hz9]; decide, by rw [← hz9]; exact ⟨x, ce, rfl, h1, h2, h3, h4, h5, h6⟩⟩) (Nat.le_of_ble_eq_true rfl) (Nat.le_of_ble_eq_true rfl)
  · refine lv_iload_n hx hb dXG_share_10 rfl (lv_at hl 2 rfl) ?_
    refine lv_ldc hx hb hown (hts _ (jmem tw_509)) dXG_share_11 ?_
    refine ji_re (y := 100000) (by decide) ?_
    refine ji_icmp_le (tgt := 26) hx hb dXG_share_13 (by decide) (by omega) (by omega) (fun c13_ => ?_) (fun c13_ => ?_)
    · refine lv_aload_n hx hb dXG_share_26 rfl (lv_at hl 0 rfl) ?_
      refine va_get (D := (dC, dI)) (ci := 4) (v := .ref sa) (C := RXG) (T := TXG) (N := 7) hx hb hts (fun w h => jmem (inXG w h)) hown hK hP 0 rfl rfl 3 (by decide) (hts _ (jmem tw_104)) (fun _ h9 => h9) rfl dXG_share_27 ?_
      refine lv_iload_n hx hb dXG_share_30 rfl (lv_at hl 1 rfl) ?_
      refine lv_iload_n hx hb dXG_share_31 rfl (lv_at hl 2 rfl) ?_
      refine ji_iast hx hb hK hP hD hS 1 0 rfl rfl ⟨by omega, by omega⟩ (by decide) dXG_share_32 (fun H locs hP hD hS => ?_)
      have hP : va_P (dC, dI) vwCl [(ga, .inr (4, [.ref ta, .ref rda, .ref pa, .ref sa, .ref ea, .ref ba, .ref da])), (sa, .inl (cA, 8, .inl (jA (jset fs z1 z2))))] H := hP
      have hD : va_D A [(ga, .inr (4, [.ref ta, .ref rda, .ref pa, .ref sa, .ref ea, .ref ba, .ref da])), (sa, .inl (cA, 8, .inl (jA (jset fs z1 z2))))] := hD
      have hz9 : (0, jset fs z1 z2) = f_XG_share fs z1 z2 := Eq.trans (by rw [f_XG_share_s]; rw [if_pos c3_, if_neg (Int.not_lt.mpr c7_), if_neg (Int.not_lt.mpr c13_)]; try rfl) rfl
      have hP9 := hP.sub (ws' := [(ga, .inr (4, [.ref ta, .ref rda, .ref pa, .ref sa, .ref ea, .ref ba, .ref da])), (sa, .inl (cA, 8, .inl (jA (jset fs z1 z2))))]) [0, 1] rfl
      have hD9 := hD.sub (ws' := [(ga, .inr (4, [.ref ta, .ref rda, .ref pa, .ref sa, .ref ea, .ref ba, .ref da])), (sa, .inl (cA, 8, .inl (jA (jset fs z1 z2))))]) [0, 1] (by decide) rfl
      subst hAe
      subst hQ
      refine yW (fun _ h => yQ_of h) ?_
      exact W.vret hx hb hr (fun t ht hW => Or.inl ⟨(congrArg Prod.fst hz9).symm, ⟨(jset fs z1 z2), rfl, ⟨congrArg Prod.snd hz9, show ∀ i, -1 ≤ (jset fs z1 z2) i ∧ (jset fs z1 z2) i ≤ 100000 from by intro i; unfold jset; split <;> first | omega | exact hfs0 i⟩, ⟨by rw [ht]; exact hP9, va_K.moved hW.alike hK, hD9⟩⟩, hS.F ht⟩) hS.2.2 dXG_share_33
    · have hz9 : (3, fun _ => 0) = f_XG_share fs z1 z2 := Eq.trans (by rw [f_XG_share_s]; rw [if_pos c3_, if_neg (Int.not_lt.mpr c7_), if_pos c13_]; try rfl) rfl
      obtain ⟨sa9, hsa9⟩ := hX.s121
      obtain ⟨cX9, kX9, hfX9, -⟩ := Cond.instantiable_spec (hts _ (jmem ti_XIA))
      subst hQ
      exact y_throwNew hx hb htab hlocks hst hown (by decide +kernel) (by decide +kernel) (hX.atoms_XIA hts) (hts _ (jmem tc_XIA)) (hts _ (jmem ti_XIA)) (hts _ (jmem tn_XIA)) hsa9 hfX9 (Nat.le_refl _) (hl.1.trans hml.symm) dXG_share_16 dXG_share_19 dXG_share_20 dXG_share_22 dXG_share_25 (by rw [hR]; exact Nat.le_of_ble_eq_true rfl) (by rw [hR]; exact Nat.le_of_ble_eq_true rfl) (by rw [hR]; exact Nat.le_of_ble_eq_true rfl) (by rw [hR]; exact Nat.le_of_ble_eq_true rfl) (fun t x ce h1 h2 h3 h4 h5 h6 h7 => Or.inr ⟨by rw [← hz9]; decide, by rw [← hz9]; exact ⟨x, ce, rfl, h1, h2, h3, h4, h5, h6⟩⟩) (Nat.le_of_ble_eq_true rfl) (Nat.le_of_ble_eq_true rfl)
noncomputable def g_XG_equivalent (bg : Int) (bf : Int) (fp : Int → Int) (fl : Int → Int) (fh : Int → Int) (fd : Int → Int) (fe : Int → Int) (z1 : Int) (z2 : Int) (z3 : Int) (z4 : Int) : Int × Int × (Int → Int) :=
  if (f_XG_needGrade bg bf z1) = 0 then
    if (f_XG_needBelow z2 4) = 0 then
      if (f_XG_needBelow z3 2) = 0 then
        if (f_XG_needBelow z4 2) = 0 then
          if (f_XG_needFormula bg bf z2) = 0 then
            (0, f_XG_inLowestTerms (f_XB_scaledSum bg bf fd z2 (f_XB_copyEnds bg bf fp fl fh z1 z3 fe)) z4, f_XB_copyEnds bg bf fp fl fh z1 z3 fe)
          else
            (f_XG_needFormula bg bf z2, 0, fun _ => 0)
        else
          (f_XG_needBelow z4 2, 0, fun _ => 0)
      else
        (f_XG_needBelow z3 2, 0, fun _ => 0)
    else
      (f_XG_needBelow z2 4, 0, fun _ => 0)
  else
    (f_XG_needGrade bg bf z1, 0, fun _ => 0)
noncomputable def f_XG_equivalent : Int → Int → (Int → Int) → (Int → Int) → (Int → Int) → (Int → Int) → (Int → Int) → Int → Int → Int → Int → Int × Int × (Int → Int) := jopq g_XG_equivalent
theorem f_XG_equivalent_q : f_XG_equivalent = g_XG_equivalent := jopq_eq _
theorem f_XG_equivalent_s (bg : Int) (bf : Int) (fp : Int → Int) (fl : Int → Int) (fh : Int → Int) (fd : Int → Int) (fe : Int → Int) (z1 : Int) (z2 : Int) (z3 : Int) (z4 : Int) : f_XG_equivalent bg bf fp fl fh fd fe z1 z2 z3 z4 = (
    if (f_XG_needGrade bg bf z1) = 0 then
      if (f_XG_needBelow z2 4) = 0 then
        if (f_XG_needBelow z3 2) = 0 then
          if (f_XG_needBelow z4 2) = 0 then
            if (f_XG_needFormula bg bf z2) = 0 then
              (0, f_XG_inLowestTerms (f_XB_scaledSum bg bf fd z2 (f_XB_copyEnds bg bf fp fl fh z1 z3 fe)) z4, f_XB_copyEnds bg bf fp fl fh z1 z3 fe)
            else
              (f_XG_needFormula bg bf z2, 0, fun _ => 0)
          else
            (f_XG_needBelow z4 2, 0, fun _ => 0)
        else
          (f_XG_needBelow z3 2, 0, fun _ => 0)
      else
        (f_XG_needBelow z2 4, 0, fun _ => 0)
    else
      (f_XG_needGrade bg bf z1, 0, fun _ => 0)
  : Int × Int × (Int → Int)) := by rw [f_XG_equivalent_q]; rfl
set_option maxHeartbeats 4000000 in
set_option maxRecDepth 100000 in
theorem c_XG_equivalent (l : Launch) (hst : l.stackTraces = false) (dC : Nat → ClassId) (dI : Nat → Nat → Nat) (cA : ClassId) (sz : Nat) (ga : Nat) (ta : Nat) (rda : Nat) (pa : Nat) (sa : Nat) (ea : Nat) (ba : Nat) (da : Nat) (bt : Nat) (bp : Nat) (bl : Nat) (bh : Nat) (bq : Nat) (br : Nat) (bd : Nat) (bg : Int) (bf : Int) (fp : Int → Int) (fl : Int → Int) (fh : Int → Int) (fd : Int → Int) (fe : Int → Int) (z1 : Int) (z2 : Int) (z3 : Int) (z4 : Int) (hbp : ∀ i, 0 ≤ fp i ∧ fp i ≤ 30) (hbl : ∀ i, 0 ≤ fl i ∧ fl i ≤ 100000) (hbh : ∀ i, -1 ≤ fh i ∧ fh i ≤ 100000) (hbd : ∀ i, 0 ≤ fd i ∧ fd i ≤ 20) (hbg : 0 ≤ bg ∧ bg < 2147483648) (hbf : 0 ≤ bf ∧ bf < 2147483648) (hfe0 : ∀ i, -1 ≤ fe i ∧ fe i ≤ 100000) (hi_z1 : i32 z1) (hi_z2 : i32 z2) (hi_z3 : i32 z3) (hi_z4 : i32 z4) : YMet l yXG_equivalent (Cond.code yXG_equivalent cXG_equivalent 5 (some .long) :: TBL) ({ frames := 7, cells := 1, slots := 6, locals := 103 } : Room) (va_Pc [.ref ga, .int (jI z1), .int (jI z2), .int (jI z3), .int (jI z4)] (jBxw (dC, dI) [(cA, .int)] [(ga, .inr (4, [.ref ta, .ref rda, .ref pa, .ref sa, .ref ea, .ref ba, .ref da])), (ba, .inr (0, [.ref bt, .ref bp, .ref bl, .ref bh, .ref bq, .ref br, .ref bd, .int (jI bg), .int (jI bf)])), (bp, .inl (cA, 31, .inl (jA fp))), (bl, .inl (cA, 248, .inl (jA fl))), (bh, .inl (cA, 248, .inl (jA fh))), (bd, .inl (cA, 32, .inl (jA fd))), (ea, .inl (cA, 8, .inl (jA fe)))] sz)) (xQ (f_XG_equivalent bg bf fp fl fh fd fe z1 z2 z3 z4).1 (va_Ql (fun (r : Int64) (u : Int × (Int → Int)) => r = jL u.1 ∧ u = (f_XG_equivalent bg bf fp fl fh fd fe z1 z2 z3 z4).2 ∧ (∀ i, -1 ≤ u.2 i ∧ u.2 i ≤ 100000)) (fun u t => jE (dC, dI) [(cA, .int)] [(ga, .inr (4, [.ref ta, .ref rda, .ref pa, .ref sa, .ref ea, .ref ba, .ref da])), (ba, .inr (0, [.ref bt, .ref bp, .ref bl, .ref bh, .ref bq, .ref br, .ref bd, .int (jI bg), .int (jI bf)])), (bp, .inl (cA, 31, .inl (jA fp))), (bl, .inl (cA, 248, .inl (jA fl))), (bh, .inl (cA, 248, .inl (jA fh))), (bd, .inl (cA, 32, .inl (jA fd))), (ea, .inl (cA, 8, .inl (jA fe)))] sz [(ga, .inr (4, [.ref ta, .ref rda, .ref pa, .ref sa, .ref ea, .ref ba, .ref da])), (ba, .inr (0, [.ref bt, .ref bp, .ref bl, .ref bh, .ref bq, .ref br, .ref bd, .int (jI bg), .int (jI bf)])), (bp, .inl (cA, 31, .inl (jA fp))), (bl, .inl (cA, 248, .inl (jA fl))), (bh, .inl (cA, 248, .inl (jA fh))), (bd, .inl (cA, 32, .inl (jA fd))), (ea, .inl (cA, 8, .inl (jA u.2)))] t) (va_A [(ga, .inr (4, [.ref ta, .ref rda, .ref pa, .ref sa, .ref ea, .ref ba, .ref da])), (ba, .inr (0, [.ref bt, .ref bp, .ref bl, .ref bh, .ref bq, .ref br, .ref bd, .int (jI bg), .int (jI bf)])), (bp, .inl (cA, 31, .inl (jA fp))), (bl, .inl (cA, 248, .inl (jA fl))), (bh, .inl (cA, 248, .inl (jA fh))), (bd, .inl (cA, 32, .inl (jA fd))), (ea, .inl (cA, 8, .inl (jA fe)))] sz))) 0 0 1 6 (va_A [(ga, .inr (4, [.ref ta, .ref rda, .ref pa, .ref sa, .ref ea, .ref ba, .ref da])), (ba, .inr (0, [.ref bt, .ref bp, .ref bl, .ref bh, .ref bq, .ref br, .ref bd, .int (jI bg), .int (jI bf)])), (bp, .inl (cA, 31, .inl (jA fp))), (bl, .inl (cA, 248, .inl (jA fl))), (bh, .inl (cA, 248, .inl (jA fh))), (bd, .inl (cA, 32, .inl (jA fd))), (ea, .inl (cA, 8, .inl (jA fe)))] sz) := by
  refine YMet.ofW (cc := cXG_equivalent) (maxL := 5) (ret := some .long) (by decide) rfl ?_
  intro p e s m args below meth c s₁ R Q hR hQ B hml htab hv
  obtain ⟨rfl, ⟨hsz, hP, hK, hD0, hN⟩, hX⟩ := hv
  have hx := B.exec
  have hb := B.bytes
  have hr := B.returns
  have hts := atoms_spec (ws := Cond.code yXG_equivalent cXG_equivalent 5 (some .long) :: TBL) B.pre
  have hown : s.vm.findClass RXG = some m.cls := findClass_of_methodNamed B.named
  have hlocks := B.notSynchronized
  subst hsz
  obtain ⟨A, hAe⟩ : ∃ A, A = va_A [(ga, .inr (4, [.ref ta, .ref rda, .ref pa, .ref sa, .ref ea, .ref ba, .ref da])), (ba, .inr (0, [.ref bt, .ref bp, .ref bl, .ref bh, .ref bq, .ref br, .ref bd, .int (jI bg), .int (jI bf)])), (bp, .inl (cA, 31, .inl (jA fp))), (bl, .inl (cA, 248, .inl (jA fl))), (bh, .inl (cA, 248, .inl (jA fh))), (bd, .inl (cA, 32, .inl (jA fd))), (ea, .inl (cA, 8, .inl (jA fe)))] s.heap.size := ⟨_, rfl⟩
  have hD : va_D A [(ga, .inr (4, [.ref ta, .ref rda, .ref pa, .ref sa, .ref ea, .ref ba, .ref da])), (ba, .inr (0, [.ref bt, .ref bp, .ref bl, .ref bh, .ref bq, .ref br, .ref bd, .int (jI bg), .int (jI bf)])), (bp, .inl (cA, 31, .inl (jA fp))), (bl, .inl (cA, 248, .inl (jA fl))), (bh, .inl (cA, 248, .inl (jA fh))), (bd, .inl (cA, 32, .inl (jA fd))), (ea, .inl (cA, 8, .inl (jA fe)))] := by rw [hAe]; exact hD0.self
  have hA : ∀ q : Nat, s.heap.size ≤ q → A q := fun q h => by rw [hAe]; exact Or.inr h
  have hS : va_S A s.heap s.heap [] := va_S.rf
  have hP : va_P (dC, dI) vwCl [(ga, .inr (4, [.ref ta, .ref rda, .ref pa, .ref sa, .ref ea, .ref ba, .ref da])), (ba, .inr (0, [.ref bt, .ref bp, .ref bl, .ref bh, .ref bq, .ref br, .ref bd, .int (jI bg), .int (jI bf)])), (bp, .inl (cA, 31, .inl (jA fp))), (bl, .inl (cA, 248, .inl (jA fl))), (bh, .inl (cA, 248, .inl (jA fh))), (bd, .inl (cA, 32, .inl (jA fd))), (ea, .inl (cA, 8, .inl (jA fe)))] s.heap := hP
  have hl := lv_entry ([.ref ga, .int (jI z1), .int (jI z2), .int (jI z3), .int (jI z4)]) (n := 5) (Nat.le_of_ble_eq_true rfl)
  rw [lg_entry_eq]
  generalize (lg_sl ([.ref ga, .int (jI z1), .int (jI z2), .int (jI z3), .int (jI z4)]) ++ List.replicate (5 - (lg_sl ([.ref ga, .int (jI z1), .int (jI z2), .int (jI z3), .int (jI z4)])).length) Slot.unset).toArray = ls at hl ⊢
  have hl : lv_has ls 5 [(0, .ref ga), (1, .int (jI z1)), (2, .int (jI z2)), (3, .int (jI z3)), (4, .int (jI z4))] := hl
  refine lv_aload_n hx hb dXG_equivalent_0 rfl (lv_at hl 0 rfl) ?_
  refine lv_iload_n hx hb dXG_equivalent_1 rfl (lv_at hl 1 rfl) ?_
  rw [hQ]
  refine yrV (rest := []) ⟨hx, hb, hml, hown, hts⟩ (c_XG_needGrade l hst dC dI cA ga ta rda pa sa ea da ba bt bp bl bh bq br bd bg bf z1 (by first | assumption | omega) (by first | assumption | omega)) (cwV 1 hts (jG_V tw_412 tw_414 ts_9 tw_1 tw_415) rfl rfl rfl (by decide +kernel) (by rw [hR]; exact ⟨Nat.le_of_ble_eq_true rfl, Nat.le_of_ble_eq_true rfl⟩)) hK hP hN hX [0, 1] rfl 0 4 rfl rfl rfl rfl hl.1 rfl (Nat.le_of_ble_eq_true rfl) dXG_equivalent_2 (by rw [hR]; exact ⟨Nat.le_of_ble_eq_true rfl, Nat.le_of_ble_eq_true rfl⟩) htab hlocks rfl (fun c2_ => ?_) (fun c2_ o9 t9 h9 => (by
    have hz9 : (f_XG_needGrade bg bf z1, 0, fun _ => 0) = f_XG_equivalent bg bf fp fl fh fd fe z1 z2 z3 z4 := Eq.trans (by rw [f_XG_equivalent_s]; rw [if_neg c2_]; try rfl) rfl
    exact Or.inr ⟨by rw [← hz9]; exact c2_, by rw [← hz9]; exact h9⟩)) (Nat.le_of_ble_eq_true rfl) (Nat.le_of_ble_eq_true rfl)
  rw [← hQ]
  have f := f_XG_needGrade_b bg bf z1 (by first | assumption | omega) (by first | assumption | omega)
  refine lv_iload_n hx hb dXG_equivalent_5 rfl (lv_at hl 2 rfl) ?_
  refine ji_iconst hx hb dXG_equivalent_6 ?_
  rw [hQ]
  refine yrS (rest := []) ⟨hx, hb, hml, hown, hts⟩ (c_XG_needBelow l hst dC dI cA z2 4 (by first | assumption | omega) (by first | assumption | omega)) (cwS 2 hts (jG_S tw_433 tw_434 tw_1 tw_435) rfl rfl rfl (by decide +kernel) (by rw [hR]; exact ⟨Nat.le_of_ble_eq_true rfl, Nat.le_of_ble_eq_true rfl⟩)) hK hP hN hX [] rfl rfl hl.1 rfl (Nat.le_of_ble_eq_true rfl) dXG_equivalent_7 (by rw [hR]; exact ⟨Nat.le_of_ble_eq_true rfl, Nat.le_of_ble_eq_true rfl⟩) htab hlocks rfl (fun c7_ => ?_) (fun c7_ o9 t9 h9 => (by
    have hz9 : (f_XG_needBelow z2 4, 0, fun _ => 0) = f_XG_equivalent bg bf fp fl fh fd fe z1 z2 z3 z4 := Eq.trans (by rw [f_XG_equivalent_s]; rw [if_pos c2_, if_neg c7_]; try rfl) rfl
    exact Or.inr ⟨by rw [← hz9]; exact c7_, by rw [← hz9]; exact h9⟩)) (Nat.le_of_ble_eq_true rfl) (Nat.le_of_ble_eq_true rfl)
  rw [← hQ]
  have f1 := f_XG_needBelow_b z2 4 (by first | assumption | omega) (by first | assumption | omega)
  refine lv_iload_n hx hb dXG_equivalent_10 rfl (lv_at hl 3 rfl) ?_
  refine ji_iconst hx hb dXG_equivalent_11 ?_
  rw [hQ]
  refine yrS (rest := []) ⟨hx, hb, hml, hown, hts⟩ (c_XG_needBelow l hst dC dI cA z3 2 (by first | assumption | omega) (by first | assumption | omega)) (cwS 2 hts (jG_S tw_433 tw_434 tw_1 tw_435) rfl rfl rfl (by decide +kernel) (by rw [hR]; exact ⟨Nat.le_of_ble_eq_true rfl, Nat.le_of_ble_eq_true rfl⟩)) hK hP hN hX [] rfl rfl hl.1 rfl (Nat.le_of_ble_eq_true rfl) dXG_equivalent_12 (by rw [hR]; exact ⟨Nat.le_of_ble_eq_true rfl, Nat.le_of_ble_eq_true rfl⟩) htab hlocks rfl (fun c12_ => ?_) (fun c12_ o9 t9 h9 => (by
    have hz9 : (f_XG_needBelow z3 2, 0, fun _ => 0) = f_XG_equivalent bg bf fp fl fh fd fe z1 z2 z3 z4 := Eq.trans (by rw [f_XG_equivalent_s]; rw [if_pos c2_, if_pos c7_, if_neg c12_]; try rfl) rfl
    exact Or.inr ⟨by rw [← hz9]; exact c12_, by rw [← hz9]; exact h9⟩)) (Nat.le_of_ble_eq_true rfl) (Nat.le_of_ble_eq_true rfl)
  rw [← hQ]
  have f2 := f_XG_needBelow_b z3 2 (by first | assumption | omega) (by first | assumption | omega)
  refine lv_iload hx hb dXG_equivalent_15 (lv_at hl 4 rfl) ?_
  refine ji_iconst hx hb dXG_equivalent_17 ?_
  rw [hQ]
  refine yrS (rest := []) ⟨hx, hb, hml, hown, hts⟩ (c_XG_needBelow l hst dC dI cA z4 2 (by first | assumption | omega) (by first | assumption | omega)) (cwS 2 hts (jG_S tw_433 tw_434 tw_1 tw_435) rfl rfl rfl (by decide +kernel) (by rw [hR]; exact ⟨Nat.le_of_ble_eq_true rfl, Nat.le_of_ble_eq_true rfl⟩)) hK hP hN hX [] rfl rfl hl.1 rfl (Nat.le_of_ble_eq_true rfl) dXG_equivalent_18 (by rw [hR]; exact ⟨Nat.le_of_ble_eq_true rfl, Nat.le_of_ble_eq_true rfl⟩) htab hlocks rfl (fun c18_ => ?_) (fun c18_ o9 t9 h9 => (by
    have hz9 : (f_XG_needBelow z4 2, 0, fun _ => 0) = f_XG_equivalent bg bf fp fl fh fd fe z1 z2 z3 z4 := Eq.trans (by rw [f_XG_equivalent_s]; rw [if_pos c2_, if_pos c7_, if_pos c12_, if_neg c18_]; try rfl) rfl
    exact Or.inr ⟨by rw [← hz9]; exact c18_, by rw [← hz9]; exact h9⟩)) (Nat.le_of_ble_eq_true rfl) (Nat.le_of_ble_eq_true rfl)
  rw [← hQ]
  have f3 := f_XG_needBelow_b z4 2 (by first | assumption | omega) (by first | assumption | omega)
  refine lv_aload_n hx hb dXG_equivalent_21 rfl (lv_at hl 0 rfl) ?_
  refine lv_iload_n hx hb dXG_equivalent_22 rfl (lv_at hl 2 rfl) ?_
  rw [hQ]
  refine yrV (rest := []) ⟨hx, hb, hml, hown, hts⟩ (c_XG_needFormula l hst dC dI cA ga ta rda pa sa ea da ba bt bp bl bh bq br bd bg bf z2 (by first | assumption | omega) (by first | assumption | omega)) (cwV 1 hts (jG_V tw_463 tw_465 ts_10 tw_1 tw_466) rfl rfl rfl (by decide +kernel) (by rw [hR]; exact ⟨Nat.le_of_ble_eq_true rfl, Nat.le_of_ble_eq_true rfl⟩)) hK hP hN hX [0, 1] rfl 0 4 rfl rfl rfl rfl hl.1 rfl (Nat.le_of_ble_eq_true rfl) dXG_equivalent_23 (by rw [hR]; exact ⟨Nat.le_of_ble_eq_true rfl, Nat.le_of_ble_eq_true rfl⟩) htab hlocks rfl (fun c23_ => ?_) (fun c23_ o9 t9 h9 => (by
    have hz9 : (f_XG_needFormula bg bf z2, 0, fun _ => 0) = f_XG_equivalent bg bf fp fl fh fd fe z1 z2 z3 z4 := Eq.trans (by rw [f_XG_equivalent_s]; rw [if_pos c2_, if_pos c7_, if_pos c12_, if_pos c18_, if_neg c23_]; try rfl) rfl
    exact Or.inr ⟨by rw [← hz9]; exact c23_, by rw [← hz9]; exact h9⟩)) (Nat.le_of_ble_eq_true rfl) (Nat.le_of_ble_eq_true rfl)
  rw [← hQ]
  refine lv_aload_n hx hb dXG_equivalent_26 rfl (lv_at hl 0 rfl) ?_
  refine va_get (D := (dC, dI)) (ci := 4) (v := .ref ba) (C := RXG) (T := TXG) (N := 7) hx hb hts (fun w h => jmem (inXG w h)) hown hK hP 0 rfl rfl 5 (by decide) (hts _ (jmem tw_106)) (fun _ h9 => h9) rfl dXG_equivalent_27 ?_
  refine lv_iload_n hx hb dXG_equivalent_30 rfl (lv_at hl 1 rfl) ?_
  refine lv_iload_n hx hb dXG_equivalent_31 rfl (lv_at hl 3 rfl) ?_
  refine lv_aload_n hx hb dXG_equivalent_32 rfl (lv_at hl 0 rfl) ?_
  refine va_get (D := (dC, dI)) (ci := 4) (v := .ref ea) (C := RXG) (T := TXG) (N := 7) hx hb hts (fun w h => jmem (inXG w h)) hown hK hP 0 rfl rfl 4 (by decide) (hts _ (jmem tw_105)) (fun _ h9 => h9) rfl dXG_equivalent_33 ?_
  refine jwVv (rest := []) (wr := [(ga, .inr (4, [.ref ta, .ref rda, .ref pa, .ref sa, .ref ea, .ref ba, .ref da])), (bd, .inl (cA, 32, .inl (jA fd)))]) ⟨hx, hb, hml, hown, hts⟩ (c_XB_copyEnds l dC dI cA _ ba bt bp bl bh bq br bd bg bf fp fl fh z1 z3 ea fe (by first | assumption | omega) (by first | assumption | omega) (by first | assumption | omega) (by first | assumption | omega) (by first | assumption | omega) (by first | assumption | omega)) (cwV 3 hts (jG_V tw_484 tw_485 tw_486 tw_5 tw_487) rfl rfl rfl (by decide +kernel) (by rw [hR]; exact ⟨Nat.le_of_ble_eq_true rfl, Nat.le_of_ble_eq_true rfl⟩)) hK hP hD hS hA hN [1, 2, 3, 4, 6] [0, 5] rfl rfl (by decide) (by decide) (by decide) 1 0 rfl rfl rfl rfl hl.1 rfl (Nat.le_of_ble_eq_true rfl) dXG_equivalent_36 (by rw [hR]; exact ⟨Nat.le_of_ble_eq_true rfl, Nat.le_of_ble_eq_true rfl⟩) (fun u H locs hw hP hD hS => ?_)
  subst hw
  have hP : va_P (dC, dI) vwCl [(ga, .inr (4, [.ref ta, .ref rda, .ref pa, .ref sa, .ref ea, .ref ba, .ref da])), (bd, .inl (cA, 32, .inl (jA fd))), (ba, .inr (0, [.ref bt, .ref bp, .ref bl, .ref bh, .ref bq, .ref br, .ref bd, .int (jI bg), .int (jI bf)])), (bp, .inl (cA, 31, .inl (jA fp))), (bl, .inl (cA, 248, .inl (jA fl))), (bh, .inl (cA, 248, .inl (jA fh))), (ea, .inl (cA, 8, .inl (jA (f_XB_copyEnds bg bf fp fl fh z1 z3 fe))))] H := hP
  have hD : va_D A [(ga, .inr (4, [.ref ta, .ref rda, .ref pa, .ref sa, .ref ea, .ref ba, .ref da])), (bd, .inl (cA, 32, .inl (jA fd))), (ba, .inr (0, [.ref bt, .ref bp, .ref bl, .ref bh, .ref bq, .ref br, .ref bd, .int (jI bg), .int (jI bf)])), (bp, .inl (cA, 31, .inl (jA fp))), (bl, .inl (cA, 248, .inl (jA fl))), (bh, .inl (cA, 248, .inl (jA fh))), (ea, .inl (cA, 8, .inl (jA (f_XB_copyEnds bg bf fp fl fh z1 z3 fe))))] := hD
  have f4 := f_XB_copyEnds_b bg bf fp fl fh z1 z3 fe (by first | assumption | omega) (by first | assumption | omega) (by first | assumption | omega) (by first | assumption | omega) (by first | assumption | omega) (by first | assumption | omega)
  refine lv_aload_n hx hb dXG_equivalent_39 rfl (lv_at hl 0 rfl) ?_
  refine va_get (D := (dC, dI)) (ci := 4) (v := .ref ba) (C := RXG) (T := TXG) (N := 7) hx hb hts (fun w h => jmem (inXG w h)) hown hK hP 0 rfl rfl 5 (by decide) (hts _ (jmem tw_106)) (fun _ h9 => h9) rfl dXG_equivalent_40 ?_
  refine lv_iload_n hx hb dXG_equivalent_43 rfl (lv_at hl 2 rfl) ?_
  refine lv_aload_n hx hb dXG_equivalent_44 rfl (lv_at hl 0 rfl) ?_
  refine va_get (D := (dC, dI)) (ci := 4) (v := .ref ea) (C := RXG) (T := TXG) (N := 7) hx hb hts (fun w h => jmem (inXG w h)) hown hK hP 0 rfl rfl 4 (by decide) (hts _ (jmem tw_105)) (fun _ h9 => h9) rfl dXG_equivalent_45 ?_
  refine jrVl (rest := []) ⟨hx, hb, hml, hown, hts⟩ (c_XB_scaledSum l dC dI cA ba bt bp bl bh bq br bd bg bf fd z2 ea (f_XB_copyEnds bg bf fp fl fh z1 z3 fe) (by first | assumption | omega) (by first | assumption | omega) (by first | assumption | omega)) (cwV 2 hts (jG_V tw_489 tw_490 tw_491 tw_5 tw_492) rfl rfl rfl (by decide +kernel) (by rw [hR]; exact ⟨Nat.le_of_ble_eq_true rfl, Nat.le_of_ble_eq_true rfl⟩)) hK hP hN [2, 1, 6] rfl 2 0 rfl rfl rfl rfl hl.1 rfl (Nat.le_of_ble_eq_true rfl) dXG_equivalent_48 (by rw [hR]; exact ⟨Nat.le_of_ble_eq_true rfl, Nat.le_of_ble_eq_true rfl⟩) ?_
  have f5 := f_XB_scaledSum_b bg bf fd z2 (f_XB_copyEnds bg bf fp fl fh z1 z3 fe) (by first | assumption | omega) (by first | assumption | omega) (by first | assumption | omega)
  refine lv_iload hx hb dXG_equivalent_51 (lv_at hl 4 rfl) ?_
  refine jrSl (rest := []) ⟨hx, hb, hml, hown, hts⟩ (c_XG_inLowestTerms l dC dI cA (f_XB_scaledSum bg bf fd z2 (f_XB_copyEnds bg bf fp fl fh z1 z3 fe)) z4 (by first | assumption | omega) (by first | assumption | omega)) (cwS 2 hts (jG_S tw_495 tw_496 tw_1 tw_497) rfl rfl rfl (by decide +kernel) (by rw [hR]; exact ⟨Nat.le_of_ble_eq_true rfl, Nat.le_of_ble_eq_true rfl⟩)) hK hP hN [] rfl rfl hl.1 rfl (Nat.le_of_ble_eq_true rfl) dXG_equivalent_53 (by rw [hR]; exact ⟨Nat.le_of_ble_eq_true rfl, Nat.le_of_ble_eq_true rfl⟩) ?_
  have hz9 : (0, f_XG_inLowestTerms (f_XB_scaledSum bg bf fd z2 (f_XB_copyEnds bg bf fp fl fh z1 z3 fe)) z4, f_XB_copyEnds bg bf fp fl fh z1 z3 fe) = f_XG_equivalent bg bf fp fl fh fd fe z1 z2 z3 z4 := Eq.trans (by rw [f_XG_equivalent_s]; rw [if_pos c2_, if_pos c7_, if_pos c12_, if_pos c18_, if_pos c23_]; try rfl) rfl
  have hP9 := hP.sub (ws' := [(ga, .inr (4, [.ref ta, .ref rda, .ref pa, .ref sa, .ref ea, .ref ba, .ref da])), (ba, .inr (0, [.ref bt, .ref bp, .ref bl, .ref bh, .ref bq, .ref br, .ref bd, .int (jI bg), .int (jI bf)])), (bp, .inl (cA, 31, .inl (jA fp))), (bl, .inl (cA, 248, .inl (jA fl))), (bh, .inl (cA, 248, .inl (jA fh))), (bd, .inl (cA, 32, .inl (jA fd))), (ea, .inl (cA, 8, .inl (jA (f_XB_copyEnds bg bf fp fl fh z1 z3 fe))))]) [0, 2, 3, 4, 5, 1, 6] rfl
  have hD9 := hD.sub (ws' := [(ga, .inr (4, [.ref ta, .ref rda, .ref pa, .ref sa, .ref ea, .ref ba, .ref da])), (ba, .inr (0, [.ref bt, .ref bp, .ref bl, .ref bh, .ref bq, .ref br, .ref bd, .int (jI bg), .int (jI bf)])), (bp, .inl (cA, 31, .inl (jA fp))), (bl, .inl (cA, 248, .inl (jA fl))), (bh, .inl (cA, 248, .inl (jA fh))), (bd, .inl (cA, 32, .inl (jA fd))), (ea, .inl (cA, 8, .inl (jA (f_XB_copyEnds bg bf fp fl fh z1 z3 fe))))]) [0, 2, 3, 4, 5, 1, 6] (by decide) rfl
  subst hAe
  subst hQ
  refine yW (fun _ h => yQ_of h) ?_
  exact W.lret (v := jL (f_XG_inLowestTerms (f_XB_scaledSum bg bf fd z2 (f_XB_copyEnds bg bf fp fl fh z1 z3 fe)) z4)) hx hb hr (fun t ht hW => Or.inl ⟨(congrArg Prod.fst hz9).symm, ⟨_, (f_XG_inLowestTerms (f_XB_scaledSum bg bf fd z2 (f_XB_copyEnds bg bf fp fl fh z1 z3 fe)) z4, f_XB_copyEnds bg bf fp fl fh z1 z3 fe), rfl, ⟨rfl, congrArg Prod.snd hz9, show ∀ i, -1 ≤ (f_XB_copyEnds bg bf fp fl fh z1 z3 fe) i ∧ (f_XB_copyEnds bg bf fp fl fh z1 z3 fe) i ≤ 100000 from by first | assumption | omega⟩, ⟨by rw [ht]; exact hP9, va_K.moved hW.alike hK, hD9⟩⟩, hS.F ht⟩) hS.2.2 dXG_equivalent_56
noncomputable def g_XG_holds_L12 (bg : Int) (bf : Int) (fp : Int → Int) (fl : Int → Int) (fh : Int → Int) (fq : Int → Int) (fd : Int → Int) (fe : Int → Int) (z1 : Int) (z2 : Int) : Nat → Int → Int × Int × (Int → Int)
  | 0, _ => (0, 0, fun _ => 0)
  | n9 + 1, k =>
    if k < 8 then
      if (f_XB_endOf bg bf fp fl fh z2 k 0) < (f_XB_endOf bg bf fp fl fh z1 k 0) then
        (0, 0, fe)
      else
        if (f_XB_endOf bg bf fp fl fh z1 k 1) < (f_XB_endOf bg bf fp fl fh z2 k 1) then
          (0, 0, fe)
        else
          g_XG_holds_L12 bg bf fp fl fh fq fd fe z1 z2 n9 (k + 1)
    else
      if (f_XB_firstKindAbove bg bf fp fq fd z1 (f_XB_copyEnds bg bf fp fl fh z2 1 fe)) = (-1) then
        (0, 1, f_XB_copyEnds bg bf fp fl fh z2 1 fe)
      else
        (0, 0, f_XB_copyEnds bg bf fp fl fh z2 1 fe)
noncomputable def f_XG_holds_L12 : Int → Int → (Int → Int) → (Int → Int) → (Int → Int) → (Int → Int) → (Int → Int) → (Int → Int) → Int → Int → Nat → Int → Int × Int × (Int → Int) := jopq g_XG_holds_L12
theorem f_XG_holds_L12_q : f_XG_holds_L12 = g_XG_holds_L12 := jopq_eq _
theorem f_XG_holds_L12_s (bg : Int) (bf : Int) (fp : Int → Int) (fl : Int → Int) (fh : Int → Int) (fq : Int → Int) (fd : Int → Int) (fe : Int → Int) (z1 : Int) (z2 : Int) (n9 : Nat) (k : Int) : f_XG_holds_L12 bg bf fp fl fh fq fd fe z1 z2 (n9 + 1) k = (
    if k < 8 then
      if (f_XB_endOf bg bf fp fl fh z2 k 0) < (f_XB_endOf bg bf fp fl fh z1 k 0) then
        (0, 0, fe)
      else
        if (f_XB_endOf bg bf fp fl fh z1 k 1) < (f_XB_endOf bg bf fp fl fh z2 k 1) then
          (0, 0, fe)
        else
          f_XG_holds_L12 bg bf fp fl fh fq fd fe z1 z2 n9 (k + 1)
    else
      if (f_XB_firstKindAbove bg bf fp fq fd z1 (f_XB_copyEnds bg bf fp fl fh z2 1 fe)) = (-1) then
        (0, 1, f_XB_copyEnds bg bf fp fl fh z2 1 fe)
      else
        (0, 0, f_XB_copyEnds bg bf fp fl fh z2 1 fe)
  : Int × Int × (Int → Int)) := by rw [f_XG_holds_L12_q]; rfl
theorem f_XG_holds_L12_z (bg : Int) (bf : Int) (fp : Int → Int) (fl : Int → Int) (fh : Int → Int) (fq : Int → Int) (fd : Int → Int) (fe : Int → Int) (z1 : Int) (z2 : Int) (k : Int) : f_XG_holds_L12 bg bf fp fl fh fq fd fe z1 z2 0 k = (0, 0, fun _ => 0) := by rw [f_XG_holds_L12_q]; rfl
noncomputable def g_XG_holds (bg : Int) (bf : Int) (fp : Int → Int) (fl : Int → Int) (fh : Int → Int) (fq : Int → Int) (fd : Int → Int) (fe : Int → Int) (z1 : Int) (z2 : Int) : Int × Int × (Int → Int) :=
  if (f_XG_needGrade bg bf z1) = 0 then
    if (f_XG_needGrade bg bf z2) = 0 then
      f_XG_holds_L12 bg bf fp fl fh fq fd fe z1 z2 (Int.toNat (8 - 0) + 1) 0
    else
      (f_XG_needGrade bg bf z2, 0, fun _ => 0)
  else
    (f_XG_needGrade bg bf z1, 0, fun _ => 0)
noncomputable def f_XG_holds : Int → Int → (Int → Int) → (Int → Int) → (Int → Int) → (Int → Int) → (Int → Int) → (Int → Int) → Int → Int → Int × Int × (Int → Int) := jopq g_XG_holds
theorem f_XG_holds_q : f_XG_holds = g_XG_holds := jopq_eq _
theorem f_XG_holds_s (bg : Int) (bf : Int) (fp : Int → Int) (fl : Int → Int) (fh : Int → Int) (fq : Int → Int) (fd : Int → Int) (fe : Int → Int) (z1 : Int) (z2 : Int) : f_XG_holds bg bf fp fl fh fq fd fe z1 z2 = (
    if (f_XG_needGrade bg bf z1) = 0 then
      if (f_XG_needGrade bg bf z2) = 0 then
        f_XG_holds_L12 bg bf fp fl fh fq fd fe z1 z2 (Int.toNat (8 - 0) + 1) 0
      else
        (f_XG_needGrade bg bf z2, 0, fun _ => 0)
    else
      (f_XG_needGrade bg bf z1, 0, fun _ => 0)
  : Int × Int × (Int → Int)) := by rw [f_XG_holds_q]; rfl
set_option maxHeartbeats 4000000 in
set_option maxRecDepth 100000 in
theorem c_XG_holds (l : Launch) (hst : l.stackTraces = false) (dC : Nat → ClassId) (dI : Nat → Nat → Nat) (cA : ClassId) (sz : Nat) (ga : Nat) (ta : Nat) (rda : Nat) (pa : Nat) (sa : Nat) (ea : Nat) (ba : Nat) (da : Nat) (bt : Nat) (bp : Nat) (bl : Nat) (bh : Nat) (bq : Nat) (br : Nat) (bd : Nat) (bg : Int) (bf : Int) (fp : Int → Int) (fl : Int → Int) (fh : Int → Int) (fq : Int → Int) (fd : Int → Int) (fe : Int → Int) (z1 : Int) (z2 : Int) (hbp : ∀ i, 0 ≤ fp i ∧ fp i ≤ 30) (hbl : ∀ i, 0 ≤ fl i ∧ fl i ≤ 100000) (hbh : ∀ i, -1 ≤ fh i ∧ fh i ≤ 100000) (hbq : ∀ i, -1 ≤ fq i ∧ fq i ≤ 999999) (hbd : ∀ i, 0 ≤ fd i ∧ fd i ≤ 20) (hbg : 0 ≤ bg ∧ bg < 2147483648) (hbf : 0 ≤ bf ∧ bf < 2147483648) (hfe0 : ∀ i, -1 ≤ fe i ∧ fe i ≤ 100000) (hi_z1 : i32 z1) (hi_z2 : i32 z2) : YMet l yXG_holds (Cond.code yXG_holds cXG_holds 4 (some .boolean) :: TBL) ({ frames := 7, cells := 1, slots := 6, locals := 103 } : Room) (va_Pc [.ref ga, .int (jI z1), .int (jI z2)] (jBxw (dC, dI) [(cA, .int)] [(ga, .inr (4, [.ref ta, .ref rda, .ref pa, .ref sa, .ref ea, .ref ba, .ref da])), (ba, .inr (0, [.ref bt, .ref bp, .ref bl, .ref bh, .ref bq, .ref br, .ref bd, .int (jI bg), .int (jI bf)])), (bp, .inl (cA, 31, .inl (jA fp))), (bl, .inl (cA, 248, .inl (jA fl))), (bh, .inl (cA, 248, .inl (jA fh))), (bq, .inl (cA, 124, .inl (jA fq))), (bd, .inl (cA, 32, .inl (jA fd))), (ea, .inl (cA, 8, .inl (jA fe)))] sz)) (xQ (f_XG_holds bg bf fp fl fh fq fd fe z1 z2).1 (va_Qi (fun (r : Int32) (u : Int × (Int → Int)) => r = jI u.1 ∧ u = (f_XG_holds bg bf fp fl fh fq fd fe z1 z2).2 ∧ (∀ i, -1 ≤ u.2 i ∧ u.2 i ≤ 100000)) (fun u t => jE (dC, dI) [(cA, .int)] [(ga, .inr (4, [.ref ta, .ref rda, .ref pa, .ref sa, .ref ea, .ref ba, .ref da])), (ba, .inr (0, [.ref bt, .ref bp, .ref bl, .ref bh, .ref bq, .ref br, .ref bd, .int (jI bg), .int (jI bf)])), (bp, .inl (cA, 31, .inl (jA fp))), (bl, .inl (cA, 248, .inl (jA fl))), (bh, .inl (cA, 248, .inl (jA fh))), (bq, .inl (cA, 124, .inl (jA fq))), (bd, .inl (cA, 32, .inl (jA fd))), (ea, .inl (cA, 8, .inl (jA fe)))] sz [(ga, .inr (4, [.ref ta, .ref rda, .ref pa, .ref sa, .ref ea, .ref ba, .ref da])), (ba, .inr (0, [.ref bt, .ref bp, .ref bl, .ref bh, .ref bq, .ref br, .ref bd, .int (jI bg), .int (jI bf)])), (bp, .inl (cA, 31, .inl (jA fp))), (bl, .inl (cA, 248, .inl (jA fl))), (bh, .inl (cA, 248, .inl (jA fh))), (bq, .inl (cA, 124, .inl (jA fq))), (bd, .inl (cA, 32, .inl (jA fd))), (ea, .inl (cA, 8, .inl (jA u.2)))] t) (va_A [(ga, .inr (4, [.ref ta, .ref rda, .ref pa, .ref sa, .ref ea, .ref ba, .ref da])), (ba, .inr (0, [.ref bt, .ref bp, .ref bl, .ref bh, .ref bq, .ref br, .ref bd, .int (jI bg), .int (jI bf)])), (bp, .inl (cA, 31, .inl (jA fp))), (bl, .inl (cA, 248, .inl (jA fl))), (bh, .inl (cA, 248, .inl (jA fh))), (bq, .inl (cA, 124, .inl (jA fq))), (bd, .inl (cA, 32, .inl (jA fd))), (ea, .inl (cA, 8, .inl (jA fe)))] sz))) 0 0 1 6 (va_A [(ga, .inr (4, [.ref ta, .ref rda, .ref pa, .ref sa, .ref ea, .ref ba, .ref da])), (ba, .inr (0, [.ref bt, .ref bp, .ref bl, .ref bh, .ref bq, .ref br, .ref bd, .int (jI bg), .int (jI bf)])), (bp, .inl (cA, 31, .inl (jA fp))), (bl, .inl (cA, 248, .inl (jA fl))), (bh, .inl (cA, 248, .inl (jA fh))), (bq, .inl (cA, 124, .inl (jA fq))), (bd, .inl (cA, 32, .inl (jA fd))), (ea, .inl (cA, 8, .inl (jA fe)))] sz) := by
  refine YMet.ofW (cc := cXG_holds) (maxL := 4) (ret := some .boolean) (by decide) rfl ?_
  intro p e s m args below meth c s₁ R Q hR hQ B hml htab hv
  obtain ⟨rfl, ⟨hsz, hP, hK, hD0, hN⟩, hX⟩ := hv
  have hx := B.exec
  have hb := B.bytes
  have hr := B.returns
  have hts := atoms_spec (ws := Cond.code yXG_holds cXG_holds 4 (some .boolean) :: TBL) B.pre
  have hown : s.vm.findClass RXG = some m.cls := findClass_of_methodNamed B.named
  have hlocks := B.notSynchronized
  subst hsz
  obtain ⟨A, hAe⟩ : ∃ A, A = va_A [(ga, .inr (4, [.ref ta, .ref rda, .ref pa, .ref sa, .ref ea, .ref ba, .ref da])), (ba, .inr (0, [.ref bt, .ref bp, .ref bl, .ref bh, .ref bq, .ref br, .ref bd, .int (jI bg), .int (jI bf)])), (bp, .inl (cA, 31, .inl (jA fp))), (bl, .inl (cA, 248, .inl (jA fl))), (bh, .inl (cA, 248, .inl (jA fh))), (bq, .inl (cA, 124, .inl (jA fq))), (bd, .inl (cA, 32, .inl (jA fd))), (ea, .inl (cA, 8, .inl (jA fe)))] s.heap.size := ⟨_, rfl⟩
  have hD : va_D A [(ga, .inr (4, [.ref ta, .ref rda, .ref pa, .ref sa, .ref ea, .ref ba, .ref da])), (ba, .inr (0, [.ref bt, .ref bp, .ref bl, .ref bh, .ref bq, .ref br, .ref bd, .int (jI bg), .int (jI bf)])), (bp, .inl (cA, 31, .inl (jA fp))), (bl, .inl (cA, 248, .inl (jA fl))), (bh, .inl (cA, 248, .inl (jA fh))), (bq, .inl (cA, 124, .inl (jA fq))), (bd, .inl (cA, 32, .inl (jA fd))), (ea, .inl (cA, 8, .inl (jA fe)))] := by rw [hAe]; exact hD0.self
  have hA : ∀ q : Nat, s.heap.size ≤ q → A q := fun q h => by rw [hAe]; exact Or.inr h
  have hS : va_S A s.heap s.heap [] := va_S.rf
  have hP : va_P (dC, dI) vwCl [(ga, .inr (4, [.ref ta, .ref rda, .ref pa, .ref sa, .ref ea, .ref ba, .ref da])), (ba, .inr (0, [.ref bt, .ref bp, .ref bl, .ref bh, .ref bq, .ref br, .ref bd, .int (jI bg), .int (jI bf)])), (bp, .inl (cA, 31, .inl (jA fp))), (bl, .inl (cA, 248, .inl (jA fl))), (bh, .inl (cA, 248, .inl (jA fh))), (bq, .inl (cA, 124, .inl (jA fq))), (bd, .inl (cA, 32, .inl (jA fd))), (ea, .inl (cA, 8, .inl (jA fe)))] s.heap := hP
  have hl := lv_entry ([.ref ga, .int (jI z1), .int (jI z2)]) (n := 4) (Nat.le_of_ble_eq_true rfl)
  rw [lg_entry_eq]
  generalize (lg_sl ([.ref ga, .int (jI z1), .int (jI z2)]) ++ List.replicate (4 - (lg_sl ([.ref ga, .int (jI z1), .int (jI z2)])).length) Slot.unset).toArray = ls at hl ⊢
  have hl : lv_has ls 4 [(0, .ref ga), (1, .int (jI z1)), (2, .int (jI z2))] := hl
  refine lv_aload_n hx hb dXG_holds_0 rfl (lv_at hl 0 rfl) ?_
  refine lv_iload_n hx hb dXG_holds_1 rfl (lv_at hl 1 rfl) ?_
  rw [hQ]
  refine yrV (rest := []) ⟨hx, hb, hml, hown, hts⟩ (c_XG_needGrade l hst dC dI cA ga ta rda pa sa ea da ba bt bp bl bh bq br bd bg bf z1 (by first | assumption | omega) (by first | assumption | omega)) (cwV 1 hts (jG_V tw_412 tw_414 ts_9 tw_1 tw_415) rfl rfl rfl (by decide +kernel) (by rw [hR]; exact ⟨Nat.le_of_ble_eq_true rfl, Nat.le_of_ble_eq_true rfl⟩)) hK hP hN hX [0, 1] rfl 0 4 rfl rfl rfl rfl hl.1 rfl (Nat.le_of_ble_eq_true rfl) dXG_holds_2 (by rw [hR]; exact ⟨Nat.le_of_ble_eq_true rfl, Nat.le_of_ble_eq_true rfl⟩) htab hlocks rfl (fun c2_ => ?_) (fun c2_ o9 t9 h9 => (by
    have hz9 : (f_XG_needGrade bg bf z1, 0, fun _ => 0) = f_XG_holds bg bf fp fl fh fq fd fe z1 z2 := Eq.trans (by rw [f_XG_holds_s]; rw [if_neg c2_]; try rfl) rfl
    exact Or.inr ⟨by rw [← hz9]; exact c2_, by rw [← hz9]; exact h9⟩)) (Nat.le_of_ble_eq_true rfl) (Nat.le_of_ble_eq_true rfl)
  rw [← hQ]
  have f := f_XG_needGrade_b bg bf z1 (by first | assumption | omega) (by first | assumption | omega)
  refine lv_aload_n hx hb dXG_holds_5 rfl (lv_at hl 0 rfl) ?_
  refine lv_iload_n hx hb dXG_holds_6 rfl (lv_at hl 2 rfl) ?_
  rw [hQ]
  refine yrV (rest := []) ⟨hx, hb, hml, hown, hts⟩ (c_XG_needGrade l hst dC dI cA ga ta rda pa sa ea da ba bt bp bl bh bq br bd bg bf z2 (by first | assumption | omega) (by first | assumption | omega)) (cwV 1 hts (jG_V tw_412 tw_414 ts_9 tw_1 tw_415) rfl rfl rfl (by decide +kernel) (by rw [hR]; exact ⟨Nat.le_of_ble_eq_true rfl, Nat.le_of_ble_eq_true rfl⟩)) hK hP hN hX [0, 1] rfl 0 4 rfl rfl rfl rfl hl.1 rfl (Nat.le_of_ble_eq_true rfl) dXG_holds_7 (by rw [hR]; exact ⟨Nat.le_of_ble_eq_true rfl, Nat.le_of_ble_eq_true rfl⟩) htab hlocks rfl (fun c7_ => ?_) (fun c7_ o9 t9 h9 => (by
    have hz9 : (f_XG_needGrade bg bf z2, 0, fun _ => 0) = f_XG_holds bg bf fp fl fh fq fd fe z1 z2 := Eq.trans (by rw [f_XG_holds_s]; rw [if_pos c2_, if_neg c7_]; try rfl) rfl
    exact Or.inr ⟨by rw [← hz9]; exact c7_, by rw [← hz9]; exact h9⟩)) (Nat.le_of_ble_eq_true rfl) (Nat.le_of_ble_eq_true rfl)
  rw [← hQ]
  have f1 := f_XG_needGrade_b bg bf z2 (by first | assumption | omega) (by first | assumption | omega)
  refine ji_iconst hx hb dXG_holds_10 ?_
  refine lv_istore_n (lv' := [(3, .int (jI 0)), (0, .ref ga), (1, .int (jI z1)), (2, .int (jI z2))]) hx hb dXG_holds_11 rfl hl (by decide) rfl (fun ls hl => ?_)
  have loop12 : ∀ (n9 : Nat) (k : Int) , 8 - k < (n9 : Int) → f_XG_holds_L12 bg bf fp fl fh fq fd fe z1 z2 n9 k = f_XG_holds bg bf fp fl fh fq fd fe z1 z2 → (0 ≤ k ∧ k ≤ 8) → ∀ (H : Heap) (locs : List Loc), va_P (dC, dI) vwCl [(ga, .inr (4, [.ref ta, .ref rda, .ref pa, .ref sa, .ref ea, .ref ba, .ref da])), (ba, .inr (0, [.ref bt, .ref bp, .ref bl, .ref bh, .ref bq, .ref br, .ref bd, .int (jI bg), .int (jI bf)])), (bp, .inl (cA, 31, .inl (jA fp))), (bl, .inl (cA, 248, .inl (jA fl))), (bh, .inl (cA, 248, .inl (jA fh))), (bq, .inl (cA, 124, .inl (jA fq))), (bd, .inl (cA, 32, .inl (jA fd))), (ea, .inl (cA, 8, .inl (jA fe)))] H → va_D A [(ga, .inr (4, [.ref ta, .ref rda, .ref pa, .ref sa, .ref ea, .ref ba, .ref da])), (ba, .inr (0, [.ref bt, .ref bp, .ref bl, .ref bh, .ref bq, .ref br, .ref bd, .int (jI bg), .int (jI bf)])), (bp, .inl (cA, 31, .inl (jA fp))), (bl, .inl (cA, 248, .inl (jA fl))), (bh, .inl (cA, 248, .inl (jA fh))), (bq, .inl (cA, 124, .inl (jA fq))), (bd, .inl (cA, 32, .inl (jA fd))), (ea, .inl (cA, 8, .inl (jA fe)))] → va_S A s.heap H locs → ∀ ls : Array Slot, lv_has ls 4 [(3, .int (jI k)), (0, .ref ga), (1, .int (jI z1)), (2, .int (jI z2))] → W p l e R s m ([.ref ga, .int (jI z1), .int (jI z2)] : List Value).toArray below meth c H locs 0 0 Q (F0 m 12 ls []) := by
    intro n9
    induction n9 with
    | zero =>
      intro k hm hF hk
      exact absurd hm (by omega)
    | succ n9 ih12 =>
      intro k hm hF hk H locs hP hD hS ls hl
      refine lv_iload_n hx hb dXG_holds_12 rfl (lv_at hl 0 rfl) ?_
      refine ji_bipush hx hb dXG_holds_13 (by decide) ?_
      refine ji_icmp_ge (tgt := 72) hx hb dXG_holds_15 (by decide) (by omega) (by omega) (fun c15_ => ?_) (fun c15_ => ?_)
      · refine lv_aload_n hx hb dXG_holds_72 rfl (lv_at hl 1 rfl) ?_
        refine va_get (D := (dC, dI)) (ci := 4) (v := .ref ba) (C := RXG) (T := TXG) (N := 7) hx hb hts (fun w h => jmem (inXG w h)) hown hK hP 0 rfl rfl 5 (by decide) (hts _ (jmem tw_106)) (fun _ h9 => h9) rfl dXG_holds_73 ?_
        refine lv_iload_n hx hb dXG_holds_76 rfl (lv_at hl 3 rfl) ?_
        refine ji_iconst hx hb dXG_holds_77 ?_
        refine lv_aload_n hx hb dXG_holds_78 rfl (lv_at hl 1 rfl) ?_
        refine va_get (D := (dC, dI)) (ci := 4) (v := .ref ea) (C := RXG) (T := TXG) (N := 7) hx hb hts (fun w h => jmem (inXG w h)) hown hK hP 0 rfl rfl 4 (by decide) (hts _ (jmem tw_105)) (fun _ h9 => h9) rfl dXG_holds_79 ?_
        refine jwVv (rest := []) (wr := [(ga, .inr (4, [.ref ta, .ref rda, .ref pa, .ref sa, .ref ea, .ref ba, .ref da])), (bq, .inl (cA, 124, .inl (jA fq))), (bd, .inl (cA, 32, .inl (jA fd)))]) ⟨hx, hb, hml, hown, hts⟩ (c_XB_copyEnds l dC dI cA _ ba bt bp bl bh bq br bd bg bf fp fl fh z2 1 ea fe (by first | assumption | omega) (by first | assumption | omega) (by first | assumption | omega) (by first | assumption | omega) (by first | assumption | omega) (by first | assumption | omega)) (cwV 3 hts (jG_V tw_484 tw_485 tw_486 tw_5 tw_487) rfl rfl rfl (by decide +kernel) (by rw [hR]; exact ⟨Nat.le_of_ble_eq_true rfl, Nat.le_of_ble_eq_true rfl⟩)) hK hP hD hS hA hN [1, 2, 3, 4, 7] [0, 5, 6] rfl rfl (by decide) (by decide) (by decide) 1 0 rfl rfl rfl rfl hl.1 rfl (Nat.le_of_ble_eq_true rfl) dXG_holds_82 (by rw [hR]; exact ⟨Nat.le_of_ble_eq_true rfl, Nat.le_of_ble_eq_true rfl⟩) (fun u H locs hw hP hD hS => ?_)
        subst hw
        have hP : va_P (dC, dI) vwCl [(ga, .inr (4, [.ref ta, .ref rda, .ref pa, .ref sa, .ref ea, .ref ba, .ref da])), (bq, .inl (cA, 124, .inl (jA fq))), (bd, .inl (cA, 32, .inl (jA fd))), (ba, .inr (0, [.ref bt, .ref bp, .ref bl, .ref bh, .ref bq, .ref br, .ref bd, .int (jI bg), .int (jI bf)])), (bp, .inl (cA, 31, .inl (jA fp))), (bl, .inl (cA, 248, .inl (jA fl))), (bh, .inl (cA, 248, .inl (jA fh))), (ea, .inl (cA, 8, .inl (jA (f_XB_copyEnds bg bf fp fl fh z2 1 fe))))] H := hP
        have hD : va_D A [(ga, .inr (4, [.ref ta, .ref rda, .ref pa, .ref sa, .ref ea, .ref ba, .ref da])), (bq, .inl (cA, 124, .inl (jA fq))), (bd, .inl (cA, 32, .inl (jA fd))), (ba, .inr (0, [.ref bt, .ref bp, .ref bl, .ref bh, .ref bq, .ref br, .ref bd, .int (jI bg), .int (jI bf)])), (bp, .inl (cA, 31, .inl (jA fp))), (bl, .inl (cA, 248, .inl (jA fl))), (bh, .inl (cA, 248, .inl (jA fh))), (ea, .inl (cA, 8, .inl (jA (f_XB_copyEnds bg bf fp fl fh z2 1 fe))))] := hD
        have f2 := f_XB_copyEnds_b bg bf fp fl fh z2 1 fe (by first | assumption | omega) (by first | assumption | omega) (by first | assumption | omega) (by first | assumption | omega) (by first | assumption | omega) (by first | assumption | omega)
        refine lv_aload_n hx hb dXG_holds_85 rfl (lv_at hl 1 rfl) ?_
        refine va_get (D := (dC, dI)) (ci := 4) (v := .ref ba) (C := RXG) (T := TXG) (N := 7) hx hb hts (fun w h => jmem (inXG w h)) hown hK hP 0 rfl rfl 5 (by decide) (hts _ (jmem tw_106)) (fun _ h9 => h9) rfl dXG_holds_86 ?_
        refine lv_iload_n hx hb dXG_holds_89 rfl (lv_at hl 2 rfl) ?_
        refine lv_aload_n hx hb dXG_holds_90 rfl (lv_at hl 1 rfl) ?_
        refine va_get (D := (dC, dI)) (ci := 4) (v := .ref ea) (C := RXG) (T := TXG) (N := 7) hx hb hts (fun w h => jmem (inXG w h)) hown hK hP 0 rfl rfl 4 (by decide) (hts _ (jmem tw_105)) (fun _ h9 => h9) rfl dXG_holds_91 ?_
        refine jrVi (rest := []) ⟨hx, hb, hml, hown, hts⟩ (c_XB_firstKindAbove l dC dI cA ba bt bp bl bh bq br bd bg bf fp fq fd z1 ea (f_XB_copyEnds bg bf fp fl fh z2 1 fe) (by first | assumption | omega) (by first | assumption | omega) (by first | assumption | omega) (by first | assumption | omega) (by first | assumption | omega) (by first | assumption | omega)) (cwV 2 hts (jG_V tw_525 tw_526 tw_527 tw_5 tw_528) rfl rfl rfl (by decide +kernel) (by rw [hR]; exact ⟨Nat.le_of_ble_eq_true rfl, Nat.le_of_ble_eq_true rfl⟩)) hK hP hN [3, 4, 1, 2, 7] rfl 3 0 rfl rfl rfl rfl hl.1 rfl (Nat.le_of_ble_eq_true rfl) dXG_holds_94 (by rw [hR]; exact ⟨Nat.le_of_ble_eq_true rfl, Nat.le_of_ble_eq_true rfl⟩) ?_
        have f3 := f_XB_firstKindAbove_b bg bf fp fq fd z1 (f_XB_copyEnds bg bf fp fl fh z2 1 fe) (by first | assumption | omega) (by first | assumption | omega) (by first | assumption | omega) (by first | assumption | omega) (by first | assumption | omega) (by first | assumption | omega)
        refine ji_iconst hx hb dXG_holds_97 ?_
        refine ji_icmp_ne (tgt := 105) hx hb dXG_holds_98 (by decide) (by omega) (by omega) (fun c98_ => ?_) (fun c98_ => ?_)
        · refine ji_iconst hx hb dXG_holds_105 ?_
          have hz9 : (0, 0, f_XB_copyEnds bg bf fp fl fh z2 1 fe) = f_XG_holds bg bf fp fl fh fq fd fe z1 z2 := Eq.trans (by rw [f_XG_holds_L12_s]; rw [if_neg (Int.not_lt.mpr c15_), if_neg c98_]; try rfl) hF
          have hP9 := hP.sub (ws' := [(ga, .inr (4, [.ref ta, .ref rda, .ref pa, .ref sa, .ref ea, .ref ba, .ref da])), (ba, .inr (0, [.ref bt, .ref bp, .ref bl, .ref bh, .ref bq, .ref br, .ref bd, .int (jI bg), .int (jI bf)])), (bp, .inl (cA, 31, .inl (jA fp))), (bl, .inl (cA, 248, .inl (jA fl))), (bh, .inl (cA, 248, .inl (jA fh))), (bq, .inl (cA, 124, .inl (jA fq))), (bd, .inl (cA, 32, .inl (jA fd))), (ea, .inl (cA, 8, .inl (jA (f_XB_copyEnds bg bf fp fl fh z2 1 fe))))]) [0, 3, 4, 5, 6, 1, 2, 7] rfl
          have hD9 := hD.sub (ws' := [(ga, .inr (4, [.ref ta, .ref rda, .ref pa, .ref sa, .ref ea, .ref ba, .ref da])), (ba, .inr (0, [.ref bt, .ref bp, .ref bl, .ref bh, .ref bq, .ref br, .ref bd, .int (jI bg), .int (jI bf)])), (bp, .inl (cA, 31, .inl (jA fp))), (bl, .inl (cA, 248, .inl (jA fl))), (bh, .inl (cA, 248, .inl (jA fh))), (bq, .inl (cA, 124, .inl (jA fq))), (bd, .inl (cA, 32, .inl (jA fd))), (ea, .inl (cA, 8, .inl (jA (f_XB_copyEnds bg bf fp fl fh z2 1 fe))))]) [0, 3, 4, 5, 6, 1, 2, 7] (by decide) rfl
          subst hAe
          subst hQ
          refine yW (fun _ h => yQ_of h) ?_
          exact W.zret (v := jI 0) hx hb hr (by first | decide | exact jz (by omega)) (fun t ht hW => Or.inl ⟨(congrArg Prod.fst hz9).symm, ⟨_, (0, f_XB_copyEnds bg bf fp fl fh z2 1 fe), rfl, ⟨rfl, congrArg Prod.snd hz9, show ∀ i, -1 ≤ (f_XB_copyEnds bg bf fp fl fh z2 1 fe) i ∧ (f_XB_copyEnds bg bf fp fl fh z2 1 fe) i ≤ 100000 from by first | assumption | omega⟩, ⟨by rw [ht]; exact hP9, va_K.moved hW.alike hK, hD9⟩⟩, hS.F ht⟩) hS.2.2 dXG_holds_106
        · refine ji_iconst hx hb dXG_holds_101 ?_
          refine lv_goto (tgt := 106) hx hb dXG_holds_102 (by decide) ?_
          have hz9 : (0, 1, f_XB_copyEnds bg bf fp fl fh z2 1 fe) = f_XG_holds bg bf fp fl fh fq fd fe z1 z2 := Eq.trans (by rw [f_XG_holds_L12_s]; rw [if_neg (Int.not_lt.mpr c15_), if_pos c98_]; try rfl) hF
          have hP9 := hP.sub (ws' := [(ga, .inr (4, [.ref ta, .ref rda, .ref pa, .ref sa, .ref ea, .ref ba, .ref da])), (ba, .inr (0, [.ref bt, .ref bp, .ref bl, .ref bh, .ref bq, .ref br, .ref bd, .int (jI bg), .int (jI bf)])), (bp, .inl (cA, 31, .inl (jA fp))), (bl, .inl (cA, 248, .inl (jA fl))), (bh, .inl (cA, 248, .inl (jA fh))), (bq, .inl (cA, 124, .inl (jA fq))), (bd, .inl (cA, 32, .inl (jA fd))), (ea, .inl (cA, 8, .inl (jA (f_XB_copyEnds bg bf fp fl fh z2 1 fe))))]) [0, 3, 4, 5, 6, 1, 2, 7] rfl
          have hD9 := hD.sub (ws' := [(ga, .inr (4, [.ref ta, .ref rda, .ref pa, .ref sa, .ref ea, .ref ba, .ref da])), (ba, .inr (0, [.ref bt, .ref bp, .ref bl, .ref bh, .ref bq, .ref br, .ref bd, .int (jI bg), .int (jI bf)])), (bp, .inl (cA, 31, .inl (jA fp))), (bl, .inl (cA, 248, .inl (jA fl))), (bh, .inl (cA, 248, .inl (jA fh))), (bq, .inl (cA, 124, .inl (jA fq))), (bd, .inl (cA, 32, .inl (jA fd))), (ea, .inl (cA, 8, .inl (jA (f_XB_copyEnds bg bf fp fl fh z2 1 fe))))]) [0, 3, 4, 5, 6, 1, 2, 7] (by decide) rfl
          subst hAe
          subst hQ
          refine yW (fun _ h => yQ_of h) ?_
          exact W.zret (v := jI 1) hx hb hr (by first | decide | exact jz (by omega)) (fun t ht hW => Or.inl ⟨(congrArg Prod.fst hz9).symm, ⟨_, (1, f_XB_copyEnds bg bf fp fl fh z2 1 fe), rfl, ⟨rfl, congrArg Prod.snd hz9, show ∀ i, -1 ≤ (f_XB_copyEnds bg bf fp fl fh z2 1 fe) i ∧ (f_XB_copyEnds bg bf fp fl fh z2 1 fe) i ≤ 100000 from by first | assumption | omega⟩, ⟨by rw [ht]; exact hP9, va_K.moved hW.alike hK, hD9⟩⟩, hS.F ht⟩) hS.2.2 dXG_holds_106
      · refine lv_aload_n hx hb dXG_holds_18 rfl (lv_at hl 1 rfl) ?_
        refine va_get (D := (dC, dI)) (ci := 4) (v := .ref ba) (C := RXG) (T := TXG) (N := 7) hx hb hts (fun w h => jmem (inXG w h)) hown hK hP 0 rfl rfl 5 (by decide) (hts _ (jmem tw_106)) (fun _ h9 => h9) rfl dXG_holds_19 ?_
        refine lv_iload_n hx hb dXG_holds_22 rfl (lv_at hl 3 rfl) ?_
        refine lv_iload_n hx hb dXG_holds_23 rfl (lv_at hl 0 rfl) ?_
        refine ji_iconst hx hb dXG_holds_24 ?_
        refine jrVi (rest := []) ⟨hx, hb, hml, hown, hts⟩ (c_XB_endOf l dC dI cA ba bt bp bl bh bq br bd bg bf fp fl fh z2 k 0 (by first | assumption | omega) (by first | assumption | omega) (by first | assumption | omega) (by first | assumption | omega) (by first | assumption | omega) (by first | assumption | omega)) (cwV 3 hts (jG_V tw_437 tw_438 tw_439 tw_5 tw_440) rfl rfl rfl (by decide +kernel) (by rw [hR]; exact ⟨Nat.le_of_ble_eq_true rfl, Nat.le_of_ble_eq_true rfl⟩)) hK hP hN [1, 2, 3, 4] rfl 1 0 rfl rfl rfl rfl hl.1 rfl (Nat.le_of_ble_eq_true rfl) dXG_holds_25 (by rw [hR]; exact ⟨Nat.le_of_ble_eq_true rfl, Nat.le_of_ble_eq_true rfl⟩) ?_
        have f4 := f_XB_endOf_b bg bf fp fl fh z2 k 0 (by first | assumption | omega) (by first | assumption | omega) (by first | assumption | omega) (by first | assumption | omega) (by first | assumption | omega) (by first | assumption | omega)
        refine lv_aload_n hx hb dXG_holds_28 rfl (lv_at hl 1 rfl) ?_
        refine va_get (D := (dC, dI)) (ci := 4) (v := .ref ba) (C := RXG) (T := TXG) (N := 7) hx hb hts (fun w h => jmem (inXG w h)) hown hK hP 0 rfl rfl 5 (by decide) (hts _ (jmem tw_106)) (fun _ h9 => h9) rfl dXG_holds_29 ?_
        refine lv_iload_n hx hb dXG_holds_32 rfl (lv_at hl 2 rfl) ?_
        refine lv_iload_n hx hb dXG_holds_33 rfl (lv_at hl 0 rfl) ?_
        refine ji_iconst hx hb dXG_holds_34 ?_
        refine jrVi (rest := [.int (jI (f_XB_endOf bg bf fp fl fh z2 k 0))]) ⟨hx, hb, hml, hown, hts⟩ (c_XB_endOf l dC dI cA ba bt bp bl bh bq br bd bg bf fp fl fh z1 k 0 (by first | assumption | omega) (by first | assumption | omega) (by first | assumption | omega) (by first | assumption | omega) (by first | assumption | omega) (by first | assumption | omega)) (cwV 3 hts (jG_V tw_437 tw_438 tw_439 tw_5 tw_440) rfl rfl rfl (by decide +kernel) (by rw [hR]; exact ⟨Nat.le_of_ble_eq_true rfl, Nat.le_of_ble_eq_true rfl⟩)) hK hP hN [1, 2, 3, 4] rfl 1 0 rfl rfl rfl rfl hl.1 rfl (Nat.le_of_ble_eq_true rfl) dXG_holds_35 (by rw [hR]; exact ⟨Nat.le_of_ble_eq_true rfl, Nat.le_of_ble_eq_true rfl⟩) ?_
        have f5 := f_XB_endOf_b bg bf fp fl fh z1 k 0 (by first | assumption | omega) (by first | assumption | omega) (by first | assumption | omega) (by first | assumption | omega) (by first | assumption | omega) (by first | assumption | omega)
        refine ji_icmp_lt (tgt := 64) hx hb dXG_holds_38 (by decide) (by omega) (by omega) (fun c38_ => ?_) (fun c38_ => ?_)
        · refine ji_iconst hx hb dXG_holds_64 ?_
          have hz9 : (0, 0, fe) = f_XG_holds bg bf fp fl fh fq fd fe z1 z2 := Eq.trans (by rw [f_XG_holds_L12_s]; rw [if_pos c15_, if_pos c38_]; try rfl) hF
          have hP9 := hP.sub (ws' := [(ga, .inr (4, [.ref ta, .ref rda, .ref pa, .ref sa, .ref ea, .ref ba, .ref da])), (ba, .inr (0, [.ref bt, .ref bp, .ref bl, .ref bh, .ref bq, .ref br, .ref bd, .int (jI bg), .int (jI bf)])), (bp, .inl (cA, 31, .inl (jA fp))), (bl, .inl (cA, 248, .inl (jA fl))), (bh, .inl (cA, 248, .inl (jA fh))), (bq, .inl (cA, 124, .inl (jA fq))), (bd, .inl (cA, 32, .inl (jA fd))), (ea, .inl (cA, 8, .inl (jA fe)))]) [0, 1, 2, 3, 4, 5, 6, 7] rfl
          have hD9 := hD.sub (ws' := [(ga, .inr (4, [.ref ta, .ref rda, .ref pa, .ref sa, .ref ea, .ref ba, .ref da])), (ba, .inr (0, [.ref bt, .ref bp, .ref bl, .ref bh, .ref bq, .ref br, .ref bd, .int (jI bg), .int (jI bf)])), (bp, .inl (cA, 31, .inl (jA fp))), (bl, .inl (cA, 248, .inl (jA fl))), (bh, .inl (cA, 248, .inl (jA fh))), (bq, .inl (cA, 124, .inl (jA fq))), (bd, .inl (cA, 32, .inl (jA fd))), (ea, .inl (cA, 8, .inl (jA fe)))]) [0, 1, 2, 3, 4, 5, 6, 7] (by decide) rfl
          subst hAe
          subst hQ
          refine yW (fun _ h => yQ_of h) ?_
          exact W.zret (v := jI 0) hx hb hr (by first | decide | exact jz (by omega)) (fun t ht hW => Or.inl ⟨(congrArg Prod.fst hz9).symm, ⟨_, (0, fe), rfl, ⟨rfl, congrArg Prod.snd hz9, show ∀ i, -1 ≤ fe i ∧ fe i ≤ 100000 from by first | assumption | omega⟩, ⟨by rw [ht]; exact hP9, va_K.moved hW.alike hK, hD9⟩⟩, hS.F ht⟩) hS.2.2 dXG_holds_65
        · refine lv_aload_n hx hb dXG_holds_41 rfl (lv_at hl 1 rfl) ?_
          refine va_get (D := (dC, dI)) (ci := 4) (v := .ref ba) (C := RXG) (T := TXG) (N := 7) hx hb hts (fun w h => jmem (inXG w h)) hown hK hP 0 rfl rfl 5 (by decide) (hts _ (jmem tw_106)) (fun _ h9 => h9) rfl dXG_holds_42 ?_
          refine lv_iload_n hx hb dXG_holds_45 rfl (lv_at hl 3 rfl) ?_
          refine lv_iload_n hx hb dXG_holds_46 rfl (lv_at hl 0 rfl) ?_
          refine ji_iconst hx hb dXG_holds_47 ?_
          refine jrVi (rest := []) ⟨hx, hb, hml, hown, hts⟩ (c_XB_endOf l dC dI cA ba bt bp bl bh bq br bd bg bf fp fl fh z2 k 1 (by first | assumption | omega) (by first | assumption | omega) (by first | assumption | omega) (by first | assumption | omega) (by first | assumption | omega) (by first | assumption | omega)) (cwV 3 hts (jG_V tw_437 tw_438 tw_439 tw_5 tw_440) rfl rfl rfl (by decide +kernel) (by rw [hR]; exact ⟨Nat.le_of_ble_eq_true rfl, Nat.le_of_ble_eq_true rfl⟩)) hK hP hN [1, 2, 3, 4] rfl 1 0 rfl rfl rfl rfl hl.1 rfl (Nat.le_of_ble_eq_true rfl) dXG_holds_48 (by rw [hR]; exact ⟨Nat.le_of_ble_eq_true rfl, Nat.le_of_ble_eq_true rfl⟩) ?_
          have f6 := f_XB_endOf_b bg bf fp fl fh z2 k 1 (by first | assumption | omega) (by first | assumption | omega) (by first | assumption | omega) (by first | assumption | omega) (by first | assumption | omega) (by first | assumption | omega)
          refine lv_aload_n hx hb dXG_holds_51 rfl (lv_at hl 1 rfl) ?_
          refine va_get (D := (dC, dI)) (ci := 4) (v := .ref ba) (C := RXG) (T := TXG) (N := 7) hx hb hts (fun w h => jmem (inXG w h)) hown hK hP 0 rfl rfl 5 (by decide) (hts _ (jmem tw_106)) (fun _ h9 => h9) rfl dXG_holds_52 ?_
          refine lv_iload_n hx hb dXG_holds_55 rfl (lv_at hl 2 rfl) ?_
          refine lv_iload_n hx hb dXG_holds_56 rfl (lv_at hl 0 rfl) ?_
          refine ji_iconst hx hb dXG_holds_57 ?_
          refine jrVi (rest := [.int (jI (f_XB_endOf bg bf fp fl fh z2 k 1))]) ⟨hx, hb, hml, hown, hts⟩ (c_XB_endOf l dC dI cA ba bt bp bl bh bq br bd bg bf fp fl fh z1 k 1 (by first | assumption | omega) (by first | assumption | omega) (by first | assumption | omega) (by first | assumption | omega) (by first | assumption | omega) (by first | assumption | omega)) (cwV 3 hts (jG_V tw_437 tw_438 tw_439 tw_5 tw_440) rfl rfl rfl (by decide +kernel) (by rw [hR]; exact ⟨Nat.le_of_ble_eq_true rfl, Nat.le_of_ble_eq_true rfl⟩)) hK hP hN [1, 2, 3, 4] rfl 1 0 rfl rfl rfl rfl hl.1 rfl (Nat.le_of_ble_eq_true rfl) dXG_holds_58 (by rw [hR]; exact ⟨Nat.le_of_ble_eq_true rfl, Nat.le_of_ble_eq_true rfl⟩) ?_
          have f7 := f_XB_endOf_b bg bf fp fl fh z1 k 1 (by first | assumption | omega) (by first | assumption | omega) (by first | assumption | omega) (by first | assumption | omega) (by first | assumption | omega) (by first | assumption | omega)
          refine ji_icmp_le (tgt := 66) hx hb dXG_holds_61 (by decide) (by omega) (by omega) (fun c61_ => ?_) (fun c61_ => ?_)
          · refine ji_iinc (k := 0) (lv' := [(3, .int (jI (k + 1))), (0, .ref ga), (1, .int (jI z1)), (2, .int (jI z2))]) hx hb dXG_holds_66 hl rfl (by decide) rfl (fun ls hl => ?_)
            refine lv_goto (tgt := 12) hx hb dXG_holds_69 (by decide) ?_
            exact ih12 (k + 1) (by omega) (Eq.trans (by rw [f_XG_holds_L12_s]; rw [if_pos c15_, if_neg (Int.not_lt.mpr c38_), if_neg (Int.not_lt.mpr c61_)]; try rfl) hF) (by first | assumption | omega) _ _ hP hD hS ls (lv_sub hl [0, 1, 2, 3] rfl)
          · refine ji_iconst hx hb dXG_holds_64 ?_
            have hz9 : (0, 0, fe) = f_XG_holds bg bf fp fl fh fq fd fe z1 z2 := Eq.trans (by rw [f_XG_holds_L12_s]; rw [if_pos c15_, if_neg (Int.not_lt.mpr c38_), if_pos c61_]; try rfl) hF
            have hP9 := hP.sub (ws' := [(ga, .inr (4, [.ref ta, .ref rda, .ref pa, .ref sa, .ref ea, .ref ba, .ref da])), (ba, .inr (0, [.ref bt, .ref bp, .ref bl, .ref bh, .ref bq, .ref br, .ref bd, .int (jI bg), .int (jI bf)])), (bp, .inl (cA, 31, .inl (jA fp))), (bl, .inl (cA, 248, .inl (jA fl))), (bh, .inl (cA, 248, .inl (jA fh))), (bq, .inl (cA, 124, .inl (jA fq))), (bd, .inl (cA, 32, .inl (jA fd))), (ea, .inl (cA, 8, .inl (jA fe)))]) [0, 1, 2, 3, 4, 5, 6, 7] rfl
            have hD9 := hD.sub (ws' := [(ga, .inr (4, [.ref ta, .ref rda, .ref pa, .ref sa, .ref ea, .ref ba, .ref da])), (ba, .inr (0, [.ref bt, .ref bp, .ref bl, .ref bh, .ref bq, .ref br, .ref bd, .int (jI bg), .int (jI bf)])), (bp, .inl (cA, 31, .inl (jA fp))), (bl, .inl (cA, 248, .inl (jA fl))), (bh, .inl (cA, 248, .inl (jA fh))), (bq, .inl (cA, 124, .inl (jA fq))), (bd, .inl (cA, 32, .inl (jA fd))), (ea, .inl (cA, 8, .inl (jA fe)))]) [0, 1, 2, 3, 4, 5, 6, 7] (by decide) rfl
            subst hAe
            subst hQ
            refine yW (fun _ h => yQ_of h) ?_
            exact W.zret (v := jI 0) hx hb hr (by first | decide | exact jz (by omega)) (fun t ht hW => Or.inl ⟨(congrArg Prod.fst hz9).symm, ⟨_, (0, fe), rfl, ⟨rfl, congrArg Prod.snd hz9, show ∀ i, -1 ≤ fe i ∧ fe i ≤ 100000 from by first | assumption | omega⟩, ⟨by rw [ht]; exact hP9, va_K.moved hW.alike hK, hD9⟩⟩, hS.F ht⟩) hS.2.2 dXG_holds_65
  exact loop12 (Int.toNat (8 - 0) + 1) 0 (by omega) (Eq.trans (by rw [f_XG_holds_s]; rw [if_pos c2_, if_pos c7_]; try rfl) rfl) (by first | assumption | omega) _ _ hP hD hS ls (lv_sub hl [0, 1, 2, 3] rfl)
noncomputable def g_XG_write (bg : Int) (bf : Int) (ft : Int → Int) (fl : Int → Int) (fh : Int → Int) (fq : Int → Int) (fr : Int → Int) (pn : Int) (pf : Int → Int) (z1 : Int) : Int × Int × Int × (Int → Int) :=
  if (f_XG_needGrade bg bf z1) = 0 then
    match f_XB_printRow bg bf ft fl fh fq fr z1 (f_XP_start pn pf) pf with
    | (pn1', pf1') =>
      (0, f_XP_length pn1' pf1', pn1', pf1')
  else
    (f_XG_needGrade bg bf z1, 0, 0, fun _ => 0)
noncomputable def f_XG_write : Int → Int → (Int → Int) → (Int → Int) → (Int → Int) → (Int → Int) → (Int → Int) → Int → (Int → Int) → Int → Int × Int × Int × (Int → Int) := jopq g_XG_write
theorem f_XG_write_q : f_XG_write = g_XG_write := jopq_eq _
theorem f_XG_write_s (bg : Int) (bf : Int) (ft : Int → Int) (fl : Int → Int) (fh : Int → Int) (fq : Int → Int) (fr : Int → Int) (pn : Int) (pf : Int → Int) (z1 : Int) : f_XG_write bg bf ft fl fh fq fr pn pf z1 = (
    if (f_XG_needGrade bg bf z1) = 0 then
      match f_XB_printRow bg bf ft fl fh fq fr z1 (f_XP_start pn pf) pf with
      | (pn1', pf1') =>
        (0, f_XP_length pn1' pf1', pn1', pf1')
    else
      (f_XG_needGrade bg bf z1, 0, 0, fun _ => 0)
  : Int × Int × Int × (Int → Int)) := by rw [f_XG_write_q]; rfl
set_option maxHeartbeats 4000000 in
set_option maxRecDepth 100000 in
theorem c_XG_write (l : Launch) (hst : l.stackTraces = false) (dC : Nat → ClassId) (dI : Nat → Nat → Nat) (cA : ClassId) (sz : Nat) (ga : Nat) (ta : Nat) (rda : Nat) (pa : Nat) (sa : Nat) (ea : Nat) (ba : Nat) (da : Nat) (bt : Nat) (bp : Nat) (bl : Nat) (bh : Nat) (bq : Nat) (br : Nat) (bd : Nat) (bg : Int) (bf : Int) (ft : Int → Int) (fl : Int → Int) (fh : Int → Int) (fq : Int → Int) (fr : Int → Int) (ps : Nat) (pn : Int) (pf : Int → Int) (z1 : Int) (hbt : ∀ i, 0 ≤ ft i ∧ ft i ≤ 30) (hbl : ∀ i, 0 ≤ fl i ∧ fl i ≤ 100000) (hbh : ∀ i, -1 ≤ fh i ∧ fh i ≤ 100000) (hbq : ∀ i, -1 ≤ fq i ∧ fq i ≤ 999999) (hbr : ∀ i, 0 ≤ fr i ∧ fr i < 2147483648) (hbg : 0 ≤ bg ∧ bg < 2147483648) (hpn : 0 ≤ pn ∧ pn ≤ 160) (hi_z1 : i32 z1) : YMet l yXG_write (Cond.code yXG_write cXG_write 2 (some .int) :: TBL) ({ frames := 7, cells := 1, slots := 6, locals := 103 } : Room) (va_Pc [.ref ga, .int (jI z1)] (jBxw (dC, dI) [(cA, .int)] [(ga, .inr (4, [.ref ta, .ref rda, .ref pa, .ref sa, .ref ea, .ref ba, .ref da])), (ba, .inr (0, [.ref bt, .ref bp, .ref bl, .ref bh, .ref bq, .ref br, .ref bd, .int (jI bg), .int (jI bf)])), (bt, .inl (cA, 31, .inl (jA ft))), (bl, .inl (cA, 248, .inl (jA fl))), (bh, .inl (cA, 248, .inl (jA fh))), (bq, .inl (cA, 124, .inl (jA fq))), (br, .inl (cA, 31, .inl (jA fr))), (pa, .inr (1, [.ref ps, .int (jI pn)])), (ps, .inl (cA, 160, .inl (jA pf)))] sz)) (xQ (f_XG_write bg bf ft fl fh fq fr pn pf z1).1 (va_Qi (fun (r : Int32) (u : Int × Int × (Int → Int)) => r = jI u.1 ∧ u = (f_XG_write bg bf ft fl fh fq fr pn pf z1).2 ∧ (0 ≤ u.2.1 ∧ u.2.1 ≤ 160)) (fun u t => jE (dC, dI) [(cA, .int)] [(ga, .inr (4, [.ref ta, .ref rda, .ref pa, .ref sa, .ref ea, .ref ba, .ref da])), (ba, .inr (0, [.ref bt, .ref bp, .ref bl, .ref bh, .ref bq, .ref br, .ref bd, .int (jI bg), .int (jI bf)])), (bt, .inl (cA, 31, .inl (jA ft))), (bl, .inl (cA, 248, .inl (jA fl))), (bh, .inl (cA, 248, .inl (jA fh))), (bq, .inl (cA, 124, .inl (jA fq))), (br, .inl (cA, 31, .inl (jA fr))), (pa, .inr (1, [.ref ps, .int (jI pn)])), (ps, .inl (cA, 160, .inl (jA pf)))] sz [(ga, .inr (4, [.ref ta, .ref rda, .ref pa, .ref sa, .ref ea, .ref ba, .ref da])), (ba, .inr (0, [.ref bt, .ref bp, .ref bl, .ref bh, .ref bq, .ref br, .ref bd, .int (jI bg), .int (jI bf)])), (bt, .inl (cA, 31, .inl (jA ft))), (bl, .inl (cA, 248, .inl (jA fl))), (bh, .inl (cA, 248, .inl (jA fh))), (bq, .inl (cA, 124, .inl (jA fq))), (br, .inl (cA, 31, .inl (jA fr))), (pa, .inr (1, [.ref ps, .int (jI u.2.1)])), (ps, .inl (cA, 160, .inl (jA u.2.2)))] t) (va_A [(ga, .inr (4, [.ref ta, .ref rda, .ref pa, .ref sa, .ref ea, .ref ba, .ref da])), (ba, .inr (0, [.ref bt, .ref bp, .ref bl, .ref bh, .ref bq, .ref br, .ref bd, .int (jI bg), .int (jI bf)])), (bt, .inl (cA, 31, .inl (jA ft))), (bl, .inl (cA, 248, .inl (jA fl))), (bh, .inl (cA, 248, .inl (jA fh))), (bq, .inl (cA, 124, .inl (jA fq))), (br, .inl (cA, 31, .inl (jA fr))), (pa, .inr (1, [.ref ps, .int (jI pn)])), (ps, .inl (cA, 160, .inl (jA pf)))] sz))) 0 0 1 6 (va_A [(ga, .inr (4, [.ref ta, .ref rda, .ref pa, .ref sa, .ref ea, .ref ba, .ref da])), (ba, .inr (0, [.ref bt, .ref bp, .ref bl, .ref bh, .ref bq, .ref br, .ref bd, .int (jI bg), .int (jI bf)])), (bt, .inl (cA, 31, .inl (jA ft))), (bl, .inl (cA, 248, .inl (jA fl))), (bh, .inl (cA, 248, .inl (jA fh))), (bq, .inl (cA, 124, .inl (jA fq))), (br, .inl (cA, 31, .inl (jA fr))), (pa, .inr (1, [.ref ps, .int (jI pn)])), (ps, .inl (cA, 160, .inl (jA pf)))] sz) := by
  refine YMet.ofW (cc := cXG_write) (maxL := 2) (ret := some .int) (by decide) rfl ?_
  intro p e s m args below meth c s₁ R Q hR hQ B hml htab hv
  obtain ⟨rfl, ⟨hsz, hP, hK, hD0, hN⟩, hX⟩ := hv
  have hx := B.exec
  have hb := B.bytes
  have hr := B.returns
  have hts := atoms_spec (ws := Cond.code yXG_write cXG_write 2 (some .int) :: TBL) B.pre
  have hown : s.vm.findClass RXG = some m.cls := findClass_of_methodNamed B.named
  have hlocks := B.notSynchronized
  subst hsz
  obtain ⟨A, hAe⟩ : ∃ A, A = va_A [(ga, .inr (4, [.ref ta, .ref rda, .ref pa, .ref sa, .ref ea, .ref ba, .ref da])), (ba, .inr (0, [.ref bt, .ref bp, .ref bl, .ref bh, .ref bq, .ref br, .ref bd, .int (jI bg), .int (jI bf)])), (bt, .inl (cA, 31, .inl (jA ft))), (bl, .inl (cA, 248, .inl (jA fl))), (bh, .inl (cA, 248, .inl (jA fh))), (bq, .inl (cA, 124, .inl (jA fq))), (br, .inl (cA, 31, .inl (jA fr))), (pa, .inr (1, [.ref ps, .int (jI pn)])), (ps, .inl (cA, 160, .inl (jA pf)))] s.heap.size := ⟨_, rfl⟩
  have hD : va_D A [(ga, .inr (4, [.ref ta, .ref rda, .ref pa, .ref sa, .ref ea, .ref ba, .ref da])), (ba, .inr (0, [.ref bt, .ref bp, .ref bl, .ref bh, .ref bq, .ref br, .ref bd, .int (jI bg), .int (jI bf)])), (bt, .inl (cA, 31, .inl (jA ft))), (bl, .inl (cA, 248, .inl (jA fl))), (bh, .inl (cA, 248, .inl (jA fh))), (bq, .inl (cA, 124, .inl (jA fq))), (br, .inl (cA, 31, .inl (jA fr))), (pa, .inr (1, [.ref ps, .int (jI pn)])), (ps, .inl (cA, 160, .inl (jA pf)))] := by rw [hAe]; exact hD0.self
  have hA : ∀ q : Nat, s.heap.size ≤ q → A q := fun q h => by rw [hAe]; exact Or.inr h
  have hS : va_S A s.heap s.heap [] := va_S.rf
  have hP : va_P (dC, dI) vwCl [(ga, .inr (4, [.ref ta, .ref rda, .ref pa, .ref sa, .ref ea, .ref ba, .ref da])), (ba, .inr (0, [.ref bt, .ref bp, .ref bl, .ref bh, .ref bq, .ref br, .ref bd, .int (jI bg), .int (jI bf)])), (bt, .inl (cA, 31, .inl (jA ft))), (bl, .inl (cA, 248, .inl (jA fl))), (bh, .inl (cA, 248, .inl (jA fh))), (bq, .inl (cA, 124, .inl (jA fq))), (br, .inl (cA, 31, .inl (jA fr))), (pa, .inr (1, [.ref ps, .int (jI pn)])), (ps, .inl (cA, 160, .inl (jA pf)))] s.heap := hP
  have hl := lv_entry ([.ref ga, .int (jI z1)]) (n := 2) (Nat.le_of_ble_eq_true rfl)
  rw [lg_entry_eq]
  generalize (lg_sl ([.ref ga, .int (jI z1)]) ++ List.replicate (2 - (lg_sl ([.ref ga, .int (jI z1)])).length) Slot.unset).toArray = ls at hl ⊢
  have hl : lv_has ls 2 [(0, .ref ga), (1, .int (jI z1))] := hl
  refine lv_aload_n hx hb dXG_write_0 rfl (lv_at hl 0 rfl) ?_
  refine lv_iload_n hx hb dXG_write_1 rfl (lv_at hl 1 rfl) ?_
  rw [hQ]
  refine yrV (rest := []) ⟨hx, hb, hml, hown, hts⟩ (c_XG_needGrade l hst dC dI cA ga ta rda pa sa ea da ba bt bp bl bh bq br bd bg bf z1 (by first | assumption | omega) (by first | assumption | omega)) (cwV 1 hts (jG_V tw_412 tw_414 ts_9 tw_1 tw_415) rfl rfl rfl (by decide +kernel) (by rw [hR]; exact ⟨Nat.le_of_ble_eq_true rfl, Nat.le_of_ble_eq_true rfl⟩)) hK hP hN hX [0, 1] rfl 0 4 rfl rfl rfl rfl hl.1 rfl (Nat.le_of_ble_eq_true rfl) dXG_write_2 (by rw [hR]; exact ⟨Nat.le_of_ble_eq_true rfl, Nat.le_of_ble_eq_true rfl⟩) htab hlocks rfl (fun c2_ => ?_) (fun c2_ o9 t9 h9 => (by
    have hz9 : (f_XG_needGrade bg bf z1, 0, 0, fun _ => 0) = f_XG_write bg bf ft fl fh fq fr pn pf z1 := Eq.trans (by rw [f_XG_write_s]; rw [if_neg c2_]; try rfl) rfl
    exact Or.inr ⟨by rw [← hz9]; exact c2_, by rw [← hz9]; exact h9⟩)) (Nat.le_of_ble_eq_true rfl) (Nat.le_of_ble_eq_true rfl)
  rw [← hQ]
  have f := f_XG_needGrade_b bg bf z1 (by first | assumption | omega) (by first | assumption | omega)
  refine lv_aload_n hx hb dXG_write_5 rfl (lv_at hl 0 rfl) ?_
  refine va_get (D := (dC, dI)) (ci := 4) (v := .ref pa) (C := RXG) (T := TXG) (N := 7) hx hb hts (fun w h => jmem (inXG w h)) hown hK hP 0 rfl rfl 2 (by decide) (hts _ (jmem tw_103)) (fun _ h9 => h9) rfl dXG_write_6 ?_
  refine jwVv (rest := []) (wr := [(ga, .inr (4, [.ref ta, .ref rda, .ref pa, .ref sa, .ref ea, .ref ba, .ref da])), (ba, .inr (0, [.ref bt, .ref bp, .ref bl, .ref bh, .ref bq, .ref br, .ref bd, .int (jI bg), .int (jI bf)])), (bt, .inl (cA, 31, .inl (jA ft))), (bl, .inl (cA, 248, .inl (jA fl))), (bh, .inl (cA, 248, .inl (jA fh))), (bq, .inl (cA, 124, .inl (jA fq))), (br, .inl (cA, 31, .inl (jA fr)))]) ⟨hx, hb, hml, hown, hts⟩ (c_XP_start l dC dI cA _ pa ps pn pf) (cwV 0 hts (jG_V tw_577 tw_578 tw_579 tw_4 tw_580) rfl rfl rfl (by decide +kernel) (by rw [hR]; exact ⟨Nat.le_of_ble_eq_true rfl, Nat.le_of_ble_eq_true rfl⟩)) hK hP hD hS hA hN [7, 8] [0, 1, 2, 3, 4, 5, 6] rfl rfl (by decide) (by decide) (by decide) 7 1 rfl rfl rfl rfl hl.1 rfl (Nat.le_of_ble_eq_true rfl) dXG_write_9 (by rw [hR]; exact ⟨Nat.le_of_ble_eq_true rfl, Nat.le_of_ble_eq_true rfl⟩) (fun u H locs hw hP hD hS => ?_)
  subst hw
  have hP : va_P (dC, dI) vwCl [(ga, .inr (4, [.ref ta, .ref rda, .ref pa, .ref sa, .ref ea, .ref ba, .ref da])), (ba, .inr (0, [.ref bt, .ref bp, .ref bl, .ref bh, .ref bq, .ref br, .ref bd, .int (jI bg), .int (jI bf)])), (bt, .inl (cA, 31, .inl (jA ft))), (bl, .inl (cA, 248, .inl (jA fl))), (bh, .inl (cA, 248, .inl (jA fh))), (bq, .inl (cA, 124, .inl (jA fq))), (br, .inl (cA, 31, .inl (jA fr))), (pa, .inr (1, [.ref ps, .int (jI (f_XP_start pn pf))])), (ps, .inl (cA, 160, .inl (jA pf)))] H := hP
  have hD : va_D A [(ga, .inr (4, [.ref ta, .ref rda, .ref pa, .ref sa, .ref ea, .ref ba, .ref da])), (ba, .inr (0, [.ref bt, .ref bp, .ref bl, .ref bh, .ref bq, .ref br, .ref bd, .int (jI bg), .int (jI bf)])), (bt, .inl (cA, 31, .inl (jA ft))), (bl, .inl (cA, 248, .inl (jA fl))), (bh, .inl (cA, 248, .inl (jA fh))), (bq, .inl (cA, 124, .inl (jA fq))), (br, .inl (cA, 31, .inl (jA fr))), (pa, .inr (1, [.ref ps, .int (jI (f_XP_start pn pf))])), (ps, .inl (cA, 160, .inl (jA pf)))] := hD
  have f1 := f_XP_start_b pn pf
  refine lv_aload_n hx hb dXG_write_12 rfl (lv_at hl 0 rfl) ?_
  refine va_get (D := (dC, dI)) (ci := 4) (v := .ref ba) (C := RXG) (T := TXG) (N := 7) hx hb hts (fun w h => jmem (inXG w h)) hown hK hP 0 rfl rfl 5 (by decide) (hts _ (jmem tw_106)) (fun _ h9 => h9) rfl dXG_write_13 ?_
  refine lv_iload_n hx hb dXG_write_16 rfl (lv_at hl 1 rfl) ?_
  refine lv_aload_n hx hb dXG_write_17 rfl (lv_at hl 0 rfl) ?_
  refine va_get (D := (dC, dI)) (ci := 4) (v := .ref pa) (C := RXG) (T := TXG) (N := 7) hx hb hts (fun w h => jmem (inXG w h)) hown hK hP 0 rfl rfl 2 (by decide) (hts _ (jmem tw_103)) (fun _ h9 => h9) rfl dXG_write_18 ?_
  refine jwVv (rest := []) (wr := [(ga, .inr (4, [.ref ta, .ref rda, .ref pa, .ref sa, .ref ea, .ref ba, .ref da]))]) ⟨hx, hb, hml, hown, hts⟩ (c_XB_printRow l dC dI cA _ ba bt bp bl bh bq br bd bg bf ft fl fh fq fr z1 pa ps (f_XP_start pn pf) pf (by first | assumption | omega) (by first | assumption | omega) (by first | assumption | omega) (by first | assumption | omega) (by first | assumption | omega) (by first | assumption | omega) (by first | assumption | omega)) (cwV 2 hts (jG_V tw_581 tw_582 tw_583 tw_5 tw_584) rfl rfl rfl (by decide +kernel) (by rw [hR]; exact ⟨Nat.le_of_ble_eq_true rfl, Nat.le_of_ble_eq_true rfl⟩)) hK hP hD hS hA hN [1, 2, 3, 4, 5, 6, 7, 8] [0] rfl rfl (by decide) (by decide) (by decide) 1 0 rfl rfl rfl rfl hl.1 rfl (Nat.le_of_ble_eq_true rfl) dXG_write_21 (by rw [hR]; exact ⟨Nat.le_of_ble_eq_true rfl, Nat.le_of_ble_eq_true rfl⟩) (fun u2 H locs hwb hP hD hS => ?_)
  obtain ⟨pn1', pf1'⟩ := u2
  try dsimp only at hwb
  have hP : va_P (dC, dI) vwCl [(ga, .inr (4, [.ref ta, .ref rda, .ref pa, .ref sa, .ref ea, .ref ba, .ref da])), (ba, .inr (0, [.ref bt, .ref bp, .ref bl, .ref bh, .ref bq, .ref br, .ref bd, .int (jI bg), .int (jI bf)])), (bt, .inl (cA, 31, .inl (jA ft))), (bl, .inl (cA, 248, .inl (jA fl))), (bh, .inl (cA, 248, .inl (jA fh))), (bq, .inl (cA, 124, .inl (jA fq))), (br, .inl (cA, 31, .inl (jA fr))), (pa, .inr (1, [.ref ps, .int (jI pn1')])), (ps, .inl (cA, 160, .inl (jA pf1')))] H := hP
  have hD : va_D A [(ga, .inr (4, [.ref ta, .ref rda, .ref pa, .ref sa, .ref ea, .ref ba, .ref da])), (ba, .inr (0, [.ref bt, .ref bp, .ref bl, .ref bh, .ref bq, .ref br, .ref bd, .int (jI bg), .int (jI bf)])), (bt, .inl (cA, 31, .inl (jA ft))), (bl, .inl (cA, 248, .inl (jA fl))), (bh, .inl (cA, 248, .inl (jA fh))), (bq, .inl (cA, 124, .inl (jA fq))), (br, .inl (cA, 31, .inl (jA fr))), (pa, .inr (1, [.ref ps, .int (jI pn1')])), (ps, .inl (cA, 160, .inl (jA pf1')))] := hD
  have f3 := f_XB_printRow_b bg bf ft fl fh fq fr z1 (f_XP_start pn pf) pf (by first | assumption | omega) (by first | assumption | omega) (by first | assumption | omega) (by first | assumption | omega) (by first | assumption | omega) (by first | assumption | omega) (by first | assumption | omega)
  rw [← hwb] at f3; try dsimp only at f3
  refine lv_aload_n hx hb dXG_write_24 rfl (lv_at hl 0 rfl) ?_
  refine va_get (D := (dC, dI)) (ci := 4) (v := .ref pa) (C := RXG) (T := TXG) (N := 7) hx hb hts (fun w h => jmem (inXG w h)) hown hK hP 0 rfl rfl 2 (by decide) (hts _ (jmem tw_103)) (fun _ h9 => h9) rfl dXG_write_25 ?_
  refine jrVi (rest := []) ⟨hx, hb, hml, hown, hts⟩ (c_XP_length l dC dI cA pa ps pn1' pf1') (cwV 0 hts (jG_V tw_607 tw_608 tw_609 tw_4 tw_610) rfl rfl rfl (by decide +kernel) (by rw [hR]; exact ⟨Nat.le_of_ble_eq_true rfl, Nat.le_of_ble_eq_true rfl⟩)) hK hP hN [7, 8] rfl 7 1 rfl rfl rfl rfl hl.1 rfl (Nat.le_of_ble_eq_true rfl) dXG_write_28 (by rw [hR]; exact ⟨Nat.le_of_ble_eq_true rfl, Nat.le_of_ble_eq_true rfl⟩) ?_
  have hz9 : (0, f_XP_length pn1' pf1', pn1', pf1') = f_XG_write bg bf ft fl fh fq fr pn pf z1 := Eq.trans (by rw [f_XG_write_s]; rw [if_pos c2_]; rw [← hwb]; try dsimp only; try rfl) rfl
  have hP9 := hP.sub (ws' := [(ga, .inr (4, [.ref ta, .ref rda, .ref pa, .ref sa, .ref ea, .ref ba, .ref da])), (ba, .inr (0, [.ref bt, .ref bp, .ref bl, .ref bh, .ref bq, .ref br, .ref bd, .int (jI bg), .int (jI bf)])), (bt, .inl (cA, 31, .inl (jA ft))), (bl, .inl (cA, 248, .inl (jA fl))), (bh, .inl (cA, 248, .inl (jA fh))), (bq, .inl (cA, 124, .inl (jA fq))), (br, .inl (cA, 31, .inl (jA fr))), (pa, .inr (1, [.ref ps, .int (jI pn1')])), (ps, .inl (cA, 160, .inl (jA pf1')))]) [0, 1, 2, 3, 4, 5, 6, 7, 8] rfl
  have hD9 := hD.sub (ws' := [(ga, .inr (4, [.ref ta, .ref rda, .ref pa, .ref sa, .ref ea, .ref ba, .ref da])), (ba, .inr (0, [.ref bt, .ref bp, .ref bl, .ref bh, .ref bq, .ref br, .ref bd, .int (jI bg), .int (jI bf)])), (bt, .inl (cA, 31, .inl (jA ft))), (bl, .inl (cA, 248, .inl (jA fl))), (bh, .inl (cA, 248, .inl (jA fh))), (bq, .inl (cA, 124, .inl (jA fq))), (br, .inl (cA, 31, .inl (jA fr))), (pa, .inr (1, [.ref ps, .int (jI pn1')])), (ps, .inl (cA, 160, .inl (jA pf1')))]) [0, 1, 2, 3, 4, 5, 6, 7, 8] (by decide) rfl
  subst hAe
  subst hQ
  refine yW (fun _ h => yQ_of h) ?_
  exact W.iret (v := jI (f_XP_length pn1' pf1')) hx hb hr (fun t ht hW => Or.inl ⟨(congrArg Prod.fst hz9).symm, ⟨_, (f_XP_length pn1' pf1', pn1', pf1'), rfl, ⟨rfl, congrArg Prod.snd hz9, show 0 ≤ pn1' ∧ pn1' ≤ 160 from by first | assumption | omega⟩, ⟨by rw [ht]; exact hP9, va_K.moved hW.alike hK, hD9⟩⟩, hS.F ht⟩) hS.2.2 dXG_write_31

end
