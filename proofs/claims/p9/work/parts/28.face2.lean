noncomputable def g_XG_span (bg : Int) (bf : Int) (fp : Int → Int) (fl : Int → Int) (fh : Int → Int) (z1 : Int) (z2 : Int) (z3 : Int) : Int × Int :=
  if (f_XG_needGrade bg bf z1) = 0 then
    if (f_XG_needBelow z2 8) = 0 then
      if (f_XG_needBelow z3 2) = 0 then
        (0, f_XB_endOf bg bf fp fl fh z1 z2 z3)
      else
        (f_XG_needBelow z3 2, 0)
    else
      (f_XG_needBelow z2 8, 0)
  else
    (f_XG_needGrade bg bf z1, 0)
noncomputable def f_XG_span : Int → Int → (Int → Int) → (Int → Int) → (Int → Int) → Int → Int → Int → Int × Int := jopq g_XG_span
theorem f_XG_span_q : f_XG_span = g_XG_span := jopq_eq _
theorem f_XG_span_s (bg : Int) (bf : Int) (fp : Int → Int) (fl : Int → Int) (fh : Int → Int) (z1 : Int) (z2 : Int) (z3 : Int) : f_XG_span bg bf fp fl fh z1 z2 z3 = (
    if (f_XG_needGrade bg bf z1) = 0 then
      if (f_XG_needBelow z2 8) = 0 then
        if (f_XG_needBelow z3 2) = 0 then
          (0, f_XB_endOf bg bf fp fl fh z1 z2 z3)
        else
          (f_XG_needBelow z3 2, 0)
      else
        (f_XG_needBelow z2 8, 0)
    else
      (f_XG_needGrade bg bf z1, 0)
  : Int × Int) := by rw [f_XG_span_q]; rfl
set_option maxHeartbeats 4000000 in
set_option maxRecDepth 100000 in
theorem c_XG_span (l : Launch) (hst : l.stackTraces = false) (dC : Nat → ClassId) (dI : Nat → Nat → Nat) (cA : ClassId) (ga : Nat) (ta : Nat) (rda : Nat) (pa : Nat) (sa : Nat) (ea : Nat) (ba : Nat) (da : Nat) (bt : Nat) (bp : Nat) (bl : Nat) (bh : Nat) (bq : Nat) (br : Nat) (bd : Nat) (bg : Int) (bf : Int) (fp : Int → Int) (fl : Int → Int) (fh : Int → Int) (z1 : Int) (z2 : Int) (z3 : Int) (hbp : ∀ i, 0 ≤ fp i ∧ fp i ≤ 30) (hbl : ∀ i, 0 ≤ fl i ∧ fl i ≤ 100000) (hbh : ∀ i, -1 ≤ fh i ∧ fh i ≤ 100000) (hbg : 0 ≤ bg ∧ bg < 2147483648) (hi_z1 : i32 z1) (hi_z2 : i32 z2) (hi_z3 : i32 z3) : YMet l yXG_span (Cond.code yXG_span cXG_span 4 (some .int) :: TBL) ({ frames := 7, cells := 1, slots := 6, locals := 103 } : Room) (va_Pc [.ref ga, .int (jI z1), .int (jI z2), .int (jI z3)] (jBx (dC, dI) [(cA, .int)] [(ga, .inr (4, [.ref ta, .ref rda, .ref pa, .ref sa, .ref ea, .ref ba, .ref da])), (ba, .inr (0, [.ref bt, .ref bp, .ref bl, .ref bh, .ref bq, .ref br, .ref bd, .int (jI bg), .int (jI bf)])), (bp, .inl (cA, 31, .inl (jA fp))), (bl, .inl (cA, 248, .inl (jA fl))), (bh, .inl (cA, 248, .inl (jA fh)))])) (xQ (f_XG_span bg bf fp fl fh z1 z2 z3).1 (vp_Si (fun r => r = jI (f_XG_span bg bf fp fl fh z1 z2 z3).2))) 0 0 1 6 (fun _ => False) := by
  refine YMet.ofW (cc := cXG_span) (maxL := 4) (ret := some .int) (by decide) rfl ?_
  intro p e s m args below meth c s₁ R Q hR hQ B hml htab hv
  obtain ⟨rfl, ⟨hP, hK, hN⟩, hX⟩ := hv
  have hx := B.exec
  have hb := B.bytes
  have hr := B.returns
  have hts := atoms_spec (ws := Cond.code yXG_span cXG_span 4 (some .int) :: TBL) B.pre
  have hown : s.vm.findClass RXG = some m.cls := findClass_of_methodNamed B.named
  have hlocks := B.notSynchronized
  have hP : va_P (dC, dI) vwCl [(ga, .inr (4, [.ref ta, .ref rda, .ref pa, .ref sa, .ref ea, .ref ba, .ref da])), (ba, .inr (0, [.ref bt, .ref bp, .ref bl, .ref bh, .ref bq, .ref br, .ref bd, .int (jI bg), .int (jI bf)])), (bp, .inl (cA, 31, .inl (jA fp))), (bl, .inl (cA, 248, .inl (jA fl))), (bh, .inl (cA, 248, .inl (jA fh)))] s.heap := hP
  have hl := lv_entry ([.ref ga, .int (jI z1), .int (jI z2), .int (jI z3)]) (n := 4) (Nat.le_of_ble_eq_true rfl)
  rw [lg_entry_eq]
  generalize (lg_sl ([.ref ga, .int (jI z1), .int (jI z2), .int (jI z3)]) ++ List.replicate (4 - (lg_sl ([.ref ga, .int (jI z1), .int (jI z2), .int (jI z3)])).length) Slot.unset).toArray = ls at hl ⊢
  have hl : lv_has ls 4 [(0, .ref ga), (1, .int (jI z1)), (2, .int (jI z2)), (3, .int (jI z3))] := hl
  refine lv_aload_n hx hb dXG_span_0 rfl (lv_at hl 0 rfl) ?_
  refine lv_iload_n hx hb dXG_span_1 rfl (lv_at hl 1 rfl) ?_
  rw [hQ]
  refine yrV (rest := []) ⟨hx, hb, hml, hown, hts⟩ (c_XG_needGrade l hst dC dI cA ga ta rda pa sa ea da ba bt bp bl bh bq br bd bg bf z1 (by first | assumption | omega) (by first | assumption | omega)) (cwV 1 hts (jG_V tw_412 tw_414 ts_9 tw_1 tw_415) rfl rfl rfl (by decide +kernel) (by rw [hR]; exact ⟨Nat.le_of_ble_eq_true rfl, Nat.le_of_ble_eq_true rfl⟩)) hK hP hN hX [0, 1] rfl 0 4 rfl rfl rfl rfl hl.1 rfl (Nat.le_of_ble_eq_true rfl) dXG_span_2 (by rw [hR]; exact ⟨Nat.le_of_ble_eq_true rfl, Nat.le_of_ble_eq_true rfl⟩) htab hlocks rfl (fun c2_ => ?_) (fun c2_ o9 t9 h9 => (by
    have hz9 : (f_XG_needGrade bg bf z1, 0) = f_XG_span bg bf fp fl fh z1 z2 z3 := Eq.trans (by rw [f_XG_span_s]; rw [if_neg c2_]; try rfl) rfl
    exact Or.inr ⟨by rw [← hz9]; exact c2_, by rw [← hz9]; exact h9⟩)) (Nat.le_of_ble_eq_true rfl) (Nat.le_of_ble_eq_true rfl)
  rw [← hQ]
  have f := f_XG_needGrade_b bg bf z1 (by first | assumption | omega) (by first | assumption | omega)
  refine lv_iload_n hx hb dXG_span_5 rfl (lv_at hl 2 rfl) ?_
  refine ji_bipush hx hb dXG_span_6 (by decide) ?_
  rw [hQ]
  refine yrS (rest := []) ⟨hx, hb, hml, hown, hts⟩ (c_XG_needBelow l hst dC dI cA z2 8 (by first | assumption | omega) (by first | assumption | omega)) (cwS 2 hts (jG_S tw_433 tw_434 tw_1 tw_435) rfl rfl rfl (by decide +kernel) (by rw [hR]; exact ⟨Nat.le_of_ble_eq_true rfl, Nat.le_of_ble_eq_true rfl⟩)) hK hP hN hX [] rfl rfl hl.1 rfl (Nat.le_of_ble_eq_true rfl) dXG_span_8 (by rw [hR]; exact ⟨Nat.le_of_ble_eq_true rfl, Nat.le_of_ble_eq_true rfl⟩) htab hlocks rfl (fun c8_ => ?_) (fun c8_ o9 t9 h9 => (by
    have hz9 : (f_XG_needBelow z2 8, 0) = f_XG_span bg bf fp fl fh z1 z2 z3 := Eq.trans (by rw [f_XG_span_s]; rw [if_pos c2_, if_neg c8_]; try rfl) rfl
    exact Or.inr ⟨by rw [← hz9]; exact c8_, by rw [← hz9]; exact h9⟩)) (Nat.le_of_ble_eq_true rfl) (Nat.le_of_ble_eq_true rfl)
  rw [← hQ]
  have f1 := f_XG_needBelow_b z2 8 (by first | assumption | omega) (by first | assumption | omega)
  refine lv_iload_n hx hb dXG_span_11 rfl (lv_at hl 3 rfl) ?_
  refine ji_iconst hx hb dXG_span_12 ?_
  rw [hQ]
  refine yrS (rest := []) ⟨hx, hb, hml, hown, hts⟩ (c_XG_needBelow l hst dC dI cA z3 2 (by first | assumption | omega) (by first | assumption | omega)) (cwS 2 hts (jG_S tw_433 tw_434 tw_1 tw_435) rfl rfl rfl (by decide +kernel) (by rw [hR]; exact ⟨Nat.le_of_ble_eq_true rfl, Nat.le_of_ble_eq_true rfl⟩)) hK hP hN hX [] rfl rfl hl.1 rfl (Nat.le_of_ble_eq_true rfl) dXG_span_13 (by rw [hR]; exact ⟨Nat.le_of_ble_eq_true rfl, Nat.le_of_ble_eq_true rfl⟩) htab hlocks rfl (fun c13_ => ?_) (fun c13_ o9 t9 h9 => (by
    have hz9 : (f_XG_needBelow z3 2, 0) = f_XG_span bg bf fp fl fh z1 z2 z3 := Eq.trans (by rw [f_XG_span_s]; rw [if_pos c2_, if_pos c8_, if_neg c13_]; try rfl) rfl
    exact Or.inr ⟨by rw [← hz9]; exact c13_, by rw [← hz9]; exact h9⟩)) (Nat.le_of_ble_eq_true rfl) (Nat.le_of_ble_eq_true rfl)
  rw [← hQ]
  have f2 := f_XG_needBelow_b z3 2 (by first | assumption | omega) (by first | assumption | omega)
  refine lv_aload_n hx hb dXG_span_16 rfl (lv_at hl 0 rfl) ?_
  refine va_get (D := (dC, dI)) (ci := 4) (v := .ref ba) (C := RXG) (T := TXG) (N := 7) hx hb hts (fun w h => jmem (inXG w h)) hown hK hP 0 rfl rfl 5 (by decide) (hts _ (jmem tw_106)) (fun _ h9 => h9) rfl dXG_span_17 ?_
  refine lv_iload_n hx hb dXG_span_20 rfl (lv_at hl 1 rfl) ?_
  refine lv_iload_n hx hb dXG_span_21 rfl (lv_at hl 2 rfl) ?_
  refine lv_iload_n hx hb dXG_span_22 rfl (lv_at hl 3 rfl) ?_
  refine jrVi (rest := []) ⟨hx, hb, hml, hown, hts⟩ (c_XB_endOf l dC dI cA ba bt bp bl bh bq br bd bg bf fp fl fh z1 z2 z3 (by first | assumption | omega) (by first | assumption | omega) (by first | assumption | omega) (by first | assumption | omega) (by first | assumption | omega) (by first | assumption | omega)) (cwV 3 hts (jG_V tw_437 tw_438 tw_439 tw_5 tw_440) rfl rfl rfl (by decide +kernel) (by rw [hR]; exact ⟨Nat.le_of_ble_eq_true rfl, Nat.le_of_ble_eq_true rfl⟩)) hK hP hN [1, 2, 3, 4] rfl 1 0 rfl rfl rfl rfl hl.1 rfl (Nat.le_of_ble_eq_true rfl) dXG_span_23 (by rw [hR]; exact ⟨Nat.le_of_ble_eq_true rfl, Nat.le_of_ble_eq_true rfl⟩) ?_
  have f3 := f_XB_endOf_b bg bf fp fl fh z1 z2 z3 (by first | assumption | omega) (by first | assumption | omega) (by first | assumption | omega) (by first | assumption | omega) (by first | assumption | omega) (by first | assumption | omega)
  have hz9 : (0, f_XB_endOf bg bf fp fl fh z1 z2 z3) = f_XG_span bg bf fp fl fh z1 z2 z3 := Eq.trans (by rw [f_XG_span_s]; rw [if_pos c2_, if_pos c8_, if_pos c13_]; try rfl) rfl
  subst hQ
  refine yW (fun _ h => yQ_of h) ?_
  exact W.iret (v := jI (f_XB_endOf bg bf fp fl fh z1 z2 z3)) hx hb hr (fun t ht hW => Or.inl ⟨(congrArg Prod.fst hz9).symm, _, rfl, congrArg jI (congrArg Prod.snd hz9), ht⟩) (fun _ h => nomatch h) dXG_span_26
noncomputable def g_XG_limit (bg : Int) (bf : Int) (fp : Int → Int) (fq : Int → Int) (z1 : Int) (z2 : Int) : Int × Int :=
  if (f_XG_needGrade bg bf z1) = 0 then
    if (f_XG_needBelow z2 4) = 0 then
      (0, f_XB_limitOf bg bf fp fq z1 z2)
    else
      (f_XG_needBelow z2 4, 0)
  else
    (f_XG_needGrade bg bf z1, 0)
noncomputable def f_XG_limit : Int → Int → (Int → Int) → (Int → Int) → Int → Int → Int × Int := jopq g_XG_limit
theorem f_XG_limit_q : f_XG_limit = g_XG_limit := jopq_eq _
theorem f_XG_limit_s (bg : Int) (bf : Int) (fp : Int → Int) (fq : Int → Int) (z1 : Int) (z2 : Int) : f_XG_limit bg bf fp fq z1 z2 = (
    if (f_XG_needGrade bg bf z1) = 0 then
      if (f_XG_needBelow z2 4) = 0 then
        (0, f_XB_limitOf bg bf fp fq z1 z2)
      else
        (f_XG_needBelow z2 4, 0)
    else
      (f_XG_needGrade bg bf z1, 0)
  : Int × Int) := by rw [f_XG_limit_q]; rfl
set_option maxHeartbeats 4000000 in
set_option maxRecDepth 100000 in
theorem c_XG_limit (l : Launch) (hst : l.stackTraces = false) (dC : Nat → ClassId) (dI : Nat → Nat → Nat) (cA : ClassId) (ga : Nat) (ta : Nat) (rda : Nat) (pa : Nat) (sa : Nat) (ea : Nat) (ba : Nat) (da : Nat) (bt : Nat) (bp : Nat) (bl : Nat) (bh : Nat) (bq : Nat) (br : Nat) (bd : Nat) (bg : Int) (bf : Int) (fp : Int → Int) (fq : Int → Int) (z1 : Int) (z2 : Int) (hbp : ∀ i, 0 ≤ fp i ∧ fp i ≤ 30) (hbq : ∀ i, -1 ≤ fq i ∧ fq i ≤ 999999) (hbg : 0 ≤ bg ∧ bg < 2147483648) (hi_z1 : i32 z1) (hi_z2 : i32 z2) : YMet l yXG_limit (Cond.code yXG_limit cXG_limit 3 (some .int) :: TBL) ({ frames := 7, cells := 1, slots := 6, locals := 103 } : Room) (va_Pc [.ref ga, .int (jI z1), .int (jI z2)] (jBx (dC, dI) [(cA, .int)] [(ga, .inr (4, [.ref ta, .ref rda, .ref pa, .ref sa, .ref ea, .ref ba, .ref da])), (ba, .inr (0, [.ref bt, .ref bp, .ref bl, .ref bh, .ref bq, .ref br, .ref bd, .int (jI bg), .int (jI bf)])), (bp, .inl (cA, 31, .inl (jA fp))), (bq, .inl (cA, 124, .inl (jA fq)))])) (xQ (f_XG_limit bg bf fp fq z1 z2).1 (vp_Si (fun r => r = jI (f_XG_limit bg bf fp fq z1 z2).2))) 0 0 1 6 (fun _ => False) := by
  refine YMet.ofW (cc := cXG_limit) (maxL := 3) (ret := some .int) (by decide) rfl ?_
  intro p e s m args below meth c s₁ R Q hR hQ B hml htab hv
  obtain ⟨rfl, ⟨hP, hK, hN⟩, hX⟩ := hv
  have hx := B.exec
  have hb := B.bytes
  have hr := B.returns
  have hts := atoms_spec (ws := Cond.code yXG_limit cXG_limit 3 (some .int) :: TBL) B.pre
  have hown : s.vm.findClass RXG = some m.cls := findClass_of_methodNamed B.named
  have hlocks := B.notSynchronized
  have hP : va_P (dC, dI) vwCl [(ga, .inr (4, [.ref ta, .ref rda, .ref pa, .ref sa, .ref ea, .ref ba, .ref da])), (ba, .inr (0, [.ref bt, .ref bp, .ref bl, .ref bh, .ref bq, .ref br, .ref bd, .int (jI bg), .int (jI bf)])), (bp, .inl (cA, 31, .inl (jA fp))), (bq, .inl (cA, 124, .inl (jA fq)))] s.heap := hP
  have hl := lv_entry ([.ref ga, .int (jI z1), .int (jI z2)]) (n := 3) (Nat.le_of_ble_eq_true rfl)
  rw [lg_entry_eq]
  generalize (lg_sl ([.ref ga, .int (jI z1), .int (jI z2)]) ++ List.replicate (3 - (lg_sl ([.ref ga, .int (jI z1), .int (jI z2)])).length) Slot.unset).toArray = ls at hl ⊢
  have hl : lv_has ls 3 [(0, .ref ga), (1, .int (jI z1)), (2, .int (jI z2))] := hl
  refine lv_aload_n hx hb dXG_limit_0 rfl (lv_at hl 0 rfl) ?_
  refine lv_iload_n hx hb dXG_limit_1 rfl (lv_at hl 1 rfl) ?_
  rw [hQ]
  refine yrV (rest := []) ⟨hx, hb, hml, hown, hts⟩ (c_XG_needGrade l hst dC dI cA ga ta rda pa sa ea da ba bt bp bl bh bq br bd bg bf z1 (by first | assumption | omega) (by first | assumption | omega)) (cwV 1 hts (jG_V tw_412 tw_414 ts_9 tw_1 tw_415) rfl rfl rfl (by decide +kernel) (by rw [hR]; exact ⟨Nat.le_of_ble_eq_true rfl, Nat.le_of_ble_eq_true rfl⟩)) hK hP hN hX [0, 1] rfl 0 4 rfl rfl rfl rfl hl.1 rfl (Nat.le_of_ble_eq_true rfl) dXG_limit_2 (by rw [hR]; exact ⟨Nat.le_of_ble_eq_true rfl, Nat.le_of_ble_eq_true rfl⟩) htab hlocks rfl (fun c2_ => ?_) (fun c2_ o9 t9 h9 => (by
    have hz9 : (f_XG_needGrade bg bf z1, 0) = f_XG_limit bg bf fp fq z1 z2 := Eq.trans (by rw [f_XG_limit_s]; rw [if_neg c2_]; try rfl) rfl
    exact Or.inr ⟨by rw [← hz9]; exact c2_, by rw [← hz9]; exact h9⟩)) (Nat.le_of_ble_eq_true rfl) (Nat.le_of_ble_eq_true rfl)
  rw [← hQ]
  have f := f_XG_needGrade_b bg bf z1 (by first | assumption | omega) (by first | assumption | omega)
  refine lv_iload_n hx hb dXG_limit_5 rfl (lv_at hl 2 rfl) ?_
  refine ji_iconst hx hb dXG_limit_6 ?_
  rw [hQ]
  refine yrS (rest := []) ⟨hx, hb, hml, hown, hts⟩ (c_XG_needBelow l hst dC dI cA z2 4 (by first | assumption | omega) (by first | assumption | omega)) (cwS 2 hts (jG_S tw_433 tw_434 tw_1 tw_435) rfl rfl rfl (by decide +kernel) (by rw [hR]; exact ⟨Nat.le_of_ble_eq_true rfl, Nat.le_of_ble_eq_true rfl⟩)) hK hP hN hX [] rfl rfl hl.1 rfl (Nat.le_of_ble_eq_true rfl) dXG_limit_7 (by rw [hR]; exact ⟨Nat.le_of_ble_eq_true rfl, Nat.le_of_ble_eq_true rfl⟩) htab hlocks rfl (fun c7_ => ?_) (fun c7_ o9 t9 h9 => (by
    have hz9 : (f_XG_needBelow z2 4, 0) = f_XG_limit bg bf fp fq z1 z2 := Eq.trans (by rw [f_XG_limit_s]; rw [if_pos c2_, if_neg c7_]; try rfl) rfl
    exact Or.inr ⟨by rw [← hz9]; exact c7_, by rw [← hz9]; exact h9⟩)) (Nat.le_of_ble_eq_true rfl) (Nat.le_of_ble_eq_true rfl)
  rw [← hQ]
  have f1 := f_XG_needBelow_b z2 4 (by first | assumption | omega) (by first | assumption | omega)
  refine lv_aload_n hx hb dXG_limit_10 rfl (lv_at hl 0 rfl) ?_
  refine va_get (D := (dC, dI)) (ci := 4) (v := .ref ba) (C := RXG) (T := TXG) (N := 7) hx hb hts (fun w h => jmem (inXG w h)) hown hK hP 0 rfl rfl 5 (by decide) (hts _ (jmem tw_106)) (fun _ h9 => h9) rfl dXG_limit_11 ?_
  refine lv_iload_n hx hb dXG_limit_14 rfl (lv_at hl 1 rfl) ?_
  refine lv_iload_n hx hb dXG_limit_15 rfl (lv_at hl 2 rfl) ?_
  refine jrVi (rest := []) ⟨hx, hb, hml, hown, hts⟩ (c_XB_limitOf l dC dI cA ba bt bp bl bh bq br bd bg bf fp fq z1 z2 (by first | assumption | omega) (by first | assumption | omega) (by first | assumption | omega) (by first | assumption | omega)) (cwV 2 hts (jG_V tw_450 tw_451 tw_452 tw_5 tw_453) rfl rfl rfl (by decide +kernel) (by rw [hR]; exact ⟨Nat.le_of_ble_eq_true rfl, Nat.le_of_ble_eq_true rfl⟩)) hK hP hN [1, 2, 3] rfl 1 0 rfl rfl rfl rfl hl.1 rfl (Nat.le_of_ble_eq_true rfl) dXG_limit_16 (by rw [hR]; exact ⟨Nat.le_of_ble_eq_true rfl, Nat.le_of_ble_eq_true rfl⟩) ?_
  have f2 := f_XB_limitOf_b bg bf fp fq z1 z2 (by first | assumption | omega) (by first | assumption | omega) (by first | assumption | omega) (by first | assumption | omega)
  have hz9 : (0, f_XB_limitOf bg bf fp fq z1 z2) = f_XG_limit bg bf fp fq z1 z2 := Eq.trans (by rw [f_XG_limit_s]; rw [if_pos c2_, if_pos c7_]; try rfl) rfl
  subst hQ
  refine yW (fun _ h => yQ_of h) ?_
  exact W.iret (v := jI (f_XB_limitOf bg bf fp fq z1 z2)) hx hb hr (fun t ht hW => Or.inl ⟨(congrArg Prod.fst hz9).symm, _, rfl, congrArg jI (congrArg Prod.snd hz9), ht⟩) (fun _ h => nomatch h) dXG_limit_19
noncomputable def g_XG_at (pn : Int) (pf : Int → Int) (z1 : Int) : Int × Int :=
  if (f_XG_needPlace z1) = 0 then
    (0, f_XP_byteAt pn pf z1)
  else
    (f_XG_needPlace z1, 0)
noncomputable def f_XG_at : Int → (Int → Int) → Int → Int × Int := jopq g_XG_at
theorem f_XG_at_q : f_XG_at = g_XG_at := jopq_eq _
theorem f_XG_at_s (pn : Int) (pf : Int → Int) (z1 : Int) : f_XG_at pn pf z1 = (
    if (f_XG_needPlace z1) = 0 then
      (0, f_XP_byteAt pn pf z1)
    else
      (f_XG_needPlace z1, 0)
  : Int × Int) := by rw [f_XG_at_q]; rfl
set_option maxHeartbeats 4000000 in
set_option maxRecDepth 100000 in
theorem c_XG_at (l : Launch) (hst : l.stackTraces = false) (dC : Nat → ClassId) (dI : Nat → Nat → Nat) (cA : ClassId) (ga : Nat) (ta : Nat) (rda : Nat) (pa : Nat) (sa : Nat) (ea : Nat) (ba : Nat) (da : Nat) (ps : Nat) (pn : Int) (pf : Int → Int) (z1 : Int) (hpn : 0 ≤ pn ∧ pn ≤ 160) (hi_z1 : i32 z1) : YMet l yXG_at (Cond.code yXG_at cXG_at 2 (some .int) :: TBL) ({ frames := 7, cells := 1, slots := 6, locals := 102 } : Room) (va_Pc [.ref ga, .int (jI z1)] (jBx (dC, dI) [(cA, .int)] [(ga, .inr (4, [.ref ta, .ref rda, .ref pa, .ref sa, .ref ea, .ref ba, .ref da])), (pa, .inr (1, [.ref ps, .int (jI pn)])), (ps, .inl (cA, 160, .inl (jA pf)))])) (xQ (f_XG_at pn pf z1).1 (vp_Si (fun r => r = jI (f_XG_at pn pf z1).2))) 0 0 1 6 (fun _ => False) := by
  refine YMet.ofW (cc := cXG_at) (maxL := 2) (ret := some .int) (by decide) rfl ?_
  intro p e s m args below meth c s₁ R Q hR hQ B hml htab hv
  obtain ⟨rfl, ⟨hP, hK, hN⟩, hX⟩ := hv
  have hx := B.exec
  have hb := B.bytes
  have hr := B.returns
  have hts := atoms_spec (ws := Cond.code yXG_at cXG_at 2 (some .int) :: TBL) B.pre
  have hown : s.vm.findClass RXG = some m.cls := findClass_of_methodNamed B.named
  have hlocks := B.notSynchronized
  have hP : va_P (dC, dI) vwCl [(ga, .inr (4, [.ref ta, .ref rda, .ref pa, .ref sa, .ref ea, .ref ba, .ref da])), (pa, .inr (1, [.ref ps, .int (jI pn)])), (ps, .inl (cA, 160, .inl (jA pf)))] s.heap := hP
  have hl := lv_entry ([.ref ga, .int (jI z1)]) (n := 2) (Nat.le_of_ble_eq_true rfl)
  rw [lg_entry_eq]
  generalize (lg_sl ([.ref ga, .int (jI z1)]) ++ List.replicate (2 - (lg_sl ([.ref ga, .int (jI z1)])).length) Slot.unset).toArray = ls at hl ⊢
  have hl : lv_has ls 2 [(0, .ref ga), (1, .int (jI z1))] := hl
  refine lv_iload_n hx hb dXG_at_0 rfl (lv_at hl 1 rfl) ?_
  rw [hQ]
  refine yrS (rest := []) ⟨hx, hb, hml, hown, hts⟩ (c_XG_needPlace l hst dC dI cA z1 (by first | assumption | omega)) (cwS 1 hts (jG_S tw_546 tw_547 tw_1 tw_548) rfl rfl rfl (by decide +kernel) (by rw [hR]; exact ⟨Nat.le_of_ble_eq_true rfl, Nat.le_of_ble_eq_true rfl⟩)) hK hP hN hX [] rfl rfl hl.1 rfl (Nat.le_of_ble_eq_true rfl) dXG_at_1 (by rw [hR]; exact ⟨Nat.le_of_ble_eq_true rfl, Nat.le_of_ble_eq_true rfl⟩) htab hlocks rfl (fun c1_ => ?_) (fun c1_ o9 t9 h9 => (by
    have hz9 : (f_XG_needPlace z1, 0) = f_XG_at pn pf z1 := Eq.trans (by rw [f_XG_at_s]; rw [if_neg c1_]; try rfl) rfl
    exact Or.inr ⟨by rw [← hz9]; exact c1_, by rw [← hz9]; exact h9⟩)) (Nat.le_of_ble_eq_true rfl) (Nat.le_of_ble_eq_true rfl)
  rw [← hQ]
  have f := f_XG_needPlace_b z1 (by first | assumption | omega)
  refine lv_aload_n hx hb dXG_at_4 rfl (lv_at hl 0 rfl) ?_
  refine va_get (D := (dC, dI)) (ci := 4) (v := .ref pa) (C := RXG) (T := TXG) (N := 7) hx hb hts (fun w h => jmem (inXG w h)) hown hK hP 0 rfl rfl 2 (by decide) (hts _ (jmem tw_103)) (fun _ h9 => h9) rfl dXG_at_5 ?_
  refine lv_iload_n hx hb dXG_at_8 rfl (lv_at hl 1 rfl) ?_
  refine jrVi (rest := []) ⟨hx, hb, hml, hown, hts⟩ (c_XP_byteAt l dC dI cA pa ps pn pf z1 (by first | assumption | omega) (by first | assumption | omega)) (cwV 1 hts (jG_V tw_618 tw_619 tw_620 tw_4 tw_621) rfl rfl rfl (by decide +kernel) (by rw [hR]; exact ⟨Nat.le_of_ble_eq_true rfl, Nat.le_of_ble_eq_true rfl⟩)) hK hP hN [1, 2] rfl 1 1 rfl rfl rfl rfl hl.1 rfl (Nat.le_of_ble_eq_true rfl) dXG_at_9 (by rw [hR]; exact ⟨Nat.le_of_ble_eq_true rfl, Nat.le_of_ble_eq_true rfl⟩) ?_
  have hz9 : (0, f_XP_byteAt pn pf z1) = f_XG_at pn pf z1 := Eq.trans (by rw [f_XG_at_s]; rw [if_pos c1_]; try rfl) rfl
  subst hQ
  refine yW (fun _ h => yQ_of h) ?_
  exact W.iret (v := jI (f_XP_byteAt pn pf z1)) hx hb hr (fun t ht hW => Or.inl ⟨(congrArg Prod.fst hz9).symm, _, rfl, congrArg jI (congrArg Prod.snd hz9), ht⟩) (fun _ h => nomatch h) dXG_at_12
noncomputable def g_XG_value (bg : Int) (bf : Int) (fd : Int → Int) (fs : Int → Int) (z1 : Int) (z2 : Int) : Int × Int :=
  if (f_XG_needBelow z1 4) = 0 then
    if (f_XG_needBelow z2 2) = 0 then
      if (f_XG_needFormula bg bf z1) = 0 then
        (0, f_XG_inLowestTerms (f_XB_scaledSum bg bf fd z1 fs) z2)
      else
        (f_XG_needFormula bg bf z1, 0)
    else
      (f_XG_needBelow z2 2, 0)
  else
    (f_XG_needBelow z1 4, 0)
noncomputable def f_XG_value : Int → Int → (Int → Int) → (Int → Int) → Int → Int → Int × Int := jopq g_XG_value
theorem f_XG_value_q : f_XG_value = g_XG_value := jopq_eq _
theorem f_XG_value_s (bg : Int) (bf : Int) (fd : Int → Int) (fs : Int → Int) (z1 : Int) (z2 : Int) : f_XG_value bg bf fd fs z1 z2 = (
    if (f_XG_needBelow z1 4) = 0 then
      if (f_XG_needBelow z2 2) = 0 then
        if (f_XG_needFormula bg bf z1) = 0 then
          (0, f_XG_inLowestTerms (f_XB_scaledSum bg bf fd z1 fs) z2)
        else
          (f_XG_needFormula bg bf z1, 0)
      else
        (f_XG_needBelow z2 2, 0)
    else
      (f_XG_needBelow z1 4, 0)
  : Int × Int) := by rw [f_XG_value_q]; rfl
set_option maxHeartbeats 4000000 in
set_option maxRecDepth 100000 in
theorem c_XG_value (l : Launch) (hst : l.stackTraces = false) (dC : Nat → ClassId) (dI : Nat → Nat → Nat) (cA : ClassId) (ga : Nat) (ta : Nat) (rda : Nat) (pa : Nat) (sa : Nat) (ea : Nat) (ba : Nat) (da : Nat) (bt : Nat) (bp : Nat) (bl : Nat) (bh : Nat) (bq : Nat) (br : Nat) (bd : Nat) (bg : Int) (bf : Int) (fd : Int → Int) (fs : Int → Int) (z1 : Int) (z2 : Int) (hbd : ∀ i, 0 ≤ fd i ∧ fd i ≤ 20) (hbf : 0 ≤ bf ∧ bf < 2147483648) (hfs0 : ∀ i, -1 ≤ fs i ∧ fs i ≤ 100000) (hi_z1 : i32 z1) (hi_z2 : i32 z2) : YMet l yXG_value (Cond.code yXG_value cXG_value 3 (some .long) :: TBL) ({ frames := 7, cells := 1, slots := 6, locals := 103 } : Room) (va_Pc [.ref ga, .int (jI z1), .int (jI z2)] (jBx (dC, dI) [(cA, .int)] [(ga, .inr (4, [.ref ta, .ref rda, .ref pa, .ref sa, .ref ea, .ref ba, .ref da])), (ba, .inr (0, [.ref bt, .ref bp, .ref bl, .ref bh, .ref bq, .ref br, .ref bd, .int (jI bg), .int (jI bf)])), (bd, .inl (cA, 32, .inl (jA fd))), (sa, .inl (cA, 8, .inl (jA fs)))])) (xQ (f_XG_value bg bf fd fs z1 z2).1 (vp_Sl (fun r => r = jL (f_XG_value bg bf fd fs z1 z2).2))) 0 0 1 6 (fun _ => False) := by
  refine YMet.ofW (cc := cXG_value) (maxL := 3) (ret := some .long) (by decide) rfl ?_
  intro p e s m args below meth c s₁ R Q hR hQ B hml htab hv
  obtain ⟨rfl, ⟨hP, hK, hN⟩, hX⟩ := hv
  have hx := B.exec
  have hb := B.bytes
  have hr := B.returns
  have hts := atoms_spec (ws := Cond.code yXG_value cXG_value 3 (some .long) :: TBL) B.pre
  have hown : s.vm.findClass RXG = some m.cls := findClass_of_methodNamed B.named
  have hlocks := B.notSynchronized
  have hP : va_P (dC, dI) vwCl [(ga, .inr (4, [.ref ta, .ref rda, .ref pa, .ref sa, .ref ea, .ref ba, .ref da])), (ba, .inr (0, [.ref bt, .ref bp, .ref bl, .ref bh, .ref bq, .ref br, .ref bd, .int (jI bg), .int (jI bf)])), (bd, .inl (cA, 32, .inl (jA fd))), (sa, .inl (cA, 8, .inl (jA fs)))] s.heap := hP
  have hl := lv_entry ([.ref ga, .int (jI z1), .int (jI z2)]) (n := 3) (Nat.le_of_ble_eq_true rfl)
  rw [lg_entry_eq]
  generalize (lg_sl ([.ref ga, .int (jI z1), .int (jI z2)]) ++ List.replicate (3 - (lg_sl ([.ref ga, .int (jI z1), .int (jI z2)])).length) Slot.unset).toArray = ls at hl ⊢
  have hl : lv_has ls 3 [(0, .ref ga), (1, .int (jI z1)), (2, .int (jI z2))] := hl
  refine lv_iload_n hx hb dXG_value_0 rfl (lv_at hl 1 rfl) ?_
  refine ji_iconst hx hb dXG_value_1 ?_
  rw [hQ]
  refine yrS (rest := []) ⟨hx, hb, hml, hown, hts⟩ (c_XG_needBelow l hst dC dI cA z1 4 (by first | assumption | omega) (by first | assumption | omega)) (cwS 2 hts (jG_S tw_433 tw_434 tw_1 tw_435) rfl rfl rfl (by decide +kernel) (by rw [hR]; exact ⟨Nat.le_of_ble_eq_true rfl, Nat.le_of_ble_eq_true rfl⟩)) hK hP hN hX [] rfl rfl hl.1 rfl (Nat.le_of_ble_eq_true rfl) dXG_value_2 (by rw [hR]; exact ⟨Nat.le_of_ble_eq_true rfl, Nat.le_of_ble_eq_true rfl⟩) htab hlocks rfl (fun c2_ => ?_) (fun c2_ o9 t9 h9 => (by
    have hz9 : (f_XG_needBelow z1 4, 0) = f_XG_value bg bf fd fs z1 z2 := Eq.trans (by rw [f_XG_value_s]; rw [if_neg c2_]; try rfl) rfl
    exact Or.inr ⟨by rw [← hz9]; exact c2_, by rw [← hz9]; exact h9⟩)) (Nat.le_of_ble_eq_true rfl) (Nat.le_of_ble_eq_true rfl)
  rw [← hQ]
  have f := f_XG_needBelow_b z1 4 (by first | assumption | omega) (by first | assumption | omega)
  refine lv_iload_n hx hb dXG_value_5 rfl (lv_at hl 2 rfl) ?_
  refine ji_iconst hx hb dXG_value_6 ?_
  rw [hQ]
  refine yrS (rest := []) ⟨hx, hb, hml, hown, hts⟩ (c_XG_needBelow l hst dC dI cA z2 2 (by first | assumption | omega) (by first | assumption | omega)) (cwS 2 hts (jG_S tw_433 tw_434 tw_1 tw_435) rfl rfl rfl (by decide +kernel) (by rw [hR]; exact ⟨Nat.le_of_ble_eq_true rfl, Nat.le_of_ble_eq_true rfl⟩)) hK hP hN hX [] rfl rfl hl.1 rfl (Nat.le_of_ble_eq_true rfl) dXG_value_7 (by rw [hR]; exact ⟨Nat.le_of_ble_eq_true rfl, Nat.le_of_ble_eq_true rfl⟩) htab hlocks rfl (fun c7_ => ?_) (fun c7_ o9 t9 h9 => (by
    have hz9 : (f_XG_needBelow z2 2, 0) = f_XG_value bg bf fd fs z1 z2 := Eq.trans (by rw [f_XG_value_s]; rw [if_pos c2_, if_neg c7_]; try rfl) rfl
    exact Or.inr ⟨by rw [← hz9]; exact c7_, by rw [← hz9]; exact h9⟩)) (Nat.le_of_ble_eq_true rfl) (Nat.le_of_ble_eq_true rfl)
  rw [← hQ]
  have f1 := f_XG_needBelow_b z2 2 (by first | assumption | omega) (by first | assumption | omega)
  refine lv_aload_n hx hb dXG_value_10 rfl (lv_at hl 0 rfl) ?_
  refine lv_iload_n hx hb dXG_value_11 rfl (lv_at hl 1 rfl) ?_
  rw [hQ]
  refine yrV (rest := []) ⟨hx, hb, hml, hown, hts⟩ (c_XG_needFormula l hst dC dI cA ga ta rda pa sa ea da ba bt bp bl bh bq br bd bg bf z1 (by first | assumption | omega) (by first | assumption | omega)) (cwV 1 hts (jG_V tw_463 tw_465 ts_10 tw_1 tw_466) rfl rfl rfl (by decide +kernel) (by rw [hR]; exact ⟨Nat.le_of_ble_eq_true rfl, Nat.le_of_ble_eq_true rfl⟩)) hK hP hN hX [0, 1] rfl 0 4 rfl rfl rfl rfl hl.1 rfl (Nat.le_of_ble_eq_true rfl) dXG_value_12 (by rw [hR]; exact ⟨Nat.le_of_ble_eq_true rfl, Nat.le_of_ble_eq_true rfl⟩) htab hlocks rfl (fun c12_ => ?_) (fun c12_ o9 t9 h9 => (by
    have hz9 : (f_XG_needFormula bg bf z1, 0) = f_XG_value bg bf fd fs z1 z2 := Eq.trans (by rw [f_XG_value_s]; rw [if_pos c2_, if_pos c7_, if_neg c12_]; try rfl) rfl
    exact Or.inr ⟨by rw [← hz9]; exact c12_, by rw [← hz9]; exact h9⟩)) (Nat.le_of_ble_eq_true rfl) (Nat.le_of_ble_eq_true rfl)
  rw [← hQ]
  refine lv_aload_n hx hb dXG_value_15 rfl (lv_at hl 0 rfl) ?_
  refine va_get (D := (dC, dI)) (ci := 4) (v := .ref ba) (C := RXG) (T := TXG) (N := 7) hx hb hts (fun w h => jmem (inXG w h)) hown hK hP 0 rfl rfl 5 (by decide) (hts _ (jmem tw_106)) (fun _ h9 => h9) rfl dXG_value_16 ?_
  refine lv_iload_n hx hb dXG_value_19 rfl (lv_at hl 1 rfl) ?_
  refine lv_aload_n hx hb dXG_value_20 rfl (lv_at hl 0 rfl) ?_
  refine va_get (D := (dC, dI)) (ci := 4) (v := .ref sa) (C := RXG) (T := TXG) (N := 7) hx hb hts (fun w h => jmem (inXG w h)) hown hK hP 0 rfl rfl 3 (by decide) (hts _ (jmem tw_104)) (fun _ h9 => h9) rfl dXG_value_21 ?_
  refine jrVl (rest := []) ⟨hx, hb, hml, hown, hts⟩ (c_XB_scaledSum l dC dI cA ba bt bp bl bh bq br bd bg bf fd z1 sa fs (by first | assumption | omega) (by first | assumption | omega) (by first | assumption | omega)) (cwV 2 hts (jG_V tw_489 tw_490 tw_491 tw_5 tw_492) rfl rfl rfl (by decide +kernel) (by rw [hR]; exact ⟨Nat.le_of_ble_eq_true rfl, Nat.le_of_ble_eq_true rfl⟩)) hK hP hN [1, 2, 3] rfl 1 0 rfl rfl rfl rfl hl.1 rfl (Nat.le_of_ble_eq_true rfl) dXG_value_24 (by rw [hR]; exact ⟨Nat.le_of_ble_eq_true rfl, Nat.le_of_ble_eq_true rfl⟩) ?_
  have f2 := f_XB_scaledSum_b bg bf fd z1 fs (by first | assumption | omega) (by first | assumption | omega) (by first | assumption | omega)
  refine lv_iload_n hx hb dXG_value_27 rfl (lv_at hl 2 rfl) ?_
  refine jrSl (rest := []) ⟨hx, hb, hml, hown, hts⟩ (c_XG_inLowestTerms l dC dI cA (f_XB_scaledSum bg bf fd z1 fs) z2 (by first | assumption | omega) (by first | assumption | omega)) (cwS 2 hts (jG_S tw_495 tw_496 tw_1 tw_497) rfl rfl rfl (by decide +kernel) (by rw [hR]; exact ⟨Nat.le_of_ble_eq_true rfl, Nat.le_of_ble_eq_true rfl⟩)) hK hP hN [] rfl rfl hl.1 rfl (Nat.le_of_ble_eq_true rfl) dXG_value_28 (by rw [hR]; exact ⟨Nat.le_of_ble_eq_true rfl, Nat.le_of_ble_eq_true rfl⟩) ?_
  have hz9 : (0, f_XG_inLowestTerms (f_XB_scaledSum bg bf fd z1 fs) z2) = f_XG_value bg bf fd fs z1 z2 := Eq.trans (by rw [f_XG_value_s]; rw [if_pos c2_, if_pos c7_, if_pos c12_]; try rfl) rfl
  subst hQ
  refine yW (fun _ h => yQ_of h) ?_
  exact W.lret (v := jL (f_XG_inLowestTerms (f_XB_scaledSum bg bf fd z1 fs) z2)) hx hb hr (fun t ht hW => Or.inl ⟨(congrArg Prod.fst hz9).symm, _, rfl, congrArg jL (congrArg Prod.snd hz9), ht⟩) (fun _ h => nomatch h) dXG_value_31
noncomputable def g_XG_ring_L8 (bg : Int) (bf : Int) (ft : Int → Int) (z1 : Int) : Nat → Int → Int → Int × Int
  | 0, _, _ => (0, 0)
  | n9 + 1, v, k =>
    if 30 < k then
      (0, -1)
    else
      if (f_XB_onRing bg bf ft k) = 0 then
        g_XG_ring_L8 bg bf ft z1 n9 v (k + 1)
      else
        if v = 0 then
          (0, k)
        else
          g_XG_ring_L8 bg bf ft z1 n9 (v + (-1)) (k + 1)
noncomputable def f_XG_ring_L8 : Int → Int → (Int → Int) → Int → Nat → Int → Int → Int × Int := jopq g_XG_ring_L8
theorem f_XG_ring_L8_q : f_XG_ring_L8 = g_XG_ring_L8 := jopq_eq _
theorem f_XG_ring_L8_s (bg : Int) (bf : Int) (ft : Int → Int) (z1 : Int) (n9 : Nat) (v : Int) (k : Int) : f_XG_ring_L8 bg bf ft z1 (n9 + 1) v k = (
    if 30 < k then
      (0, -1)
    else
      if (f_XB_onRing bg bf ft k) = 0 then
        f_XG_ring_L8 bg bf ft z1 n9 v (k + 1)
      else
        if v = 0 then
          (0, k)
        else
          f_XG_ring_L8 bg bf ft z1 n9 (v + (-1)) (k + 1)
  : Int × Int) := by rw [f_XG_ring_L8_q]; rfl
theorem f_XG_ring_L8_z (bg : Int) (bf : Int) (ft : Int → Int) (z1 : Int) (v : Int) (k : Int) : f_XG_ring_L8 bg bf ft z1 0 v k = (0, 0) := by rw [f_XG_ring_L8_q]; rfl
noncomputable def g_XG_ring (bg : Int) (bf : Int) (ft : Int → Int) (z1 : Int) : Int × Int :=
  if (f_XG_needPlace z1) = 0 then
    f_XG_ring_L8 bg bf ft z1 (Int.toNat (31 - 1) + 1) z1 1
  else
    (f_XG_needPlace z1, 0)
noncomputable def f_XG_ring : Int → Int → (Int → Int) → Int → Int × Int := jopq g_XG_ring
theorem f_XG_ring_q : f_XG_ring = g_XG_ring := jopq_eq _
theorem f_XG_ring_s (bg : Int) (bf : Int) (ft : Int → Int) (z1 : Int) : f_XG_ring bg bf ft z1 = (
    if (f_XG_needPlace z1) = 0 then
      f_XG_ring_L8 bg bf ft z1 (Int.toNat (31 - 1) + 1) z1 1
    else
      (f_XG_needPlace z1, 0)
  : Int × Int) := by rw [f_XG_ring_q]; rfl
set_option maxHeartbeats 4000000 in
set_option maxRecDepth 100000 in
theorem c_XG_ring (l : Launch) (hst : l.stackTraces = false) (dC : Nat → ClassId) (dI : Nat → Nat → Nat) (cA : ClassId) (ga : Nat) (ta : Nat) (rda : Nat) (pa : Nat) (sa : Nat) (ea : Nat) (ba : Nat) (da : Nat) (bt : Nat) (bp : Nat) (bl : Nat) (bh : Nat) (bq : Nat) (br : Nat) (bd : Nat) (bg : Int) (bf : Int) (ft : Int → Int) (z1 : Int) (hbt : ∀ i, 0 ≤ ft i ∧ ft i ≤ 30) (hi_z1 : i32 z1) : YMet l yXG_ring (Cond.code yXG_ring cXG_ring 4 (some .int) :: TBL) ({ frames := 7, cells := 1, slots := 6, locals := 102 } : Room) (va_Pc [.ref ga, .int (jI z1)] (jBx (dC, dI) [(cA, .int)] [(ga, .inr (4, [.ref ta, .ref rda, .ref pa, .ref sa, .ref ea, .ref ba, .ref da])), (ba, .inr (0, [.ref bt, .ref bp, .ref bl, .ref bh, .ref bq, .ref br, .ref bd, .int (jI bg), .int (jI bf)])), (bt, .inl (cA, 31, .inl (jA ft)))])) (xQ (f_XG_ring bg bf ft z1).1 (vp_Si (fun r => r = jI (f_XG_ring bg bf ft z1).2))) 0 0 1 6 (fun _ => False) := by
  refine YMet.ofW (cc := cXG_ring) (maxL := 4) (ret := some .int) (by decide) rfl ?_
  intro p e s m args below meth c s₁ R Q hR hQ B hml htab hv
  obtain ⟨rfl, ⟨hP, hK, hN⟩, hX⟩ := hv
  have hx := B.exec
  have hb := B.bytes
  have hr := B.returns
  have hts := atoms_spec (ws := Cond.code yXG_ring cXG_ring 4 (some .int) :: TBL) B.pre
  have hown : s.vm.findClass RXG = some m.cls := findClass_of_methodNamed B.named
  have hlocks := B.notSynchronized
  have hP : va_P (dC, dI) vwCl [(ga, .inr (4, [.ref ta, .ref rda, .ref pa, .ref sa, .ref ea, .ref ba, .ref da])), (ba, .inr (0, [.ref bt, .ref bp, .ref bl, .ref bh, .ref bq, .ref br, .ref bd, .int (jI bg), .int (jI bf)])), (bt, .inl (cA, 31, .inl (jA ft)))] s.heap := hP
  have hl := lv_entry ([.ref ga, .int (jI z1)]) (n := 4) (Nat.le_of_ble_eq_true rfl)
  rw [lg_entry_eq]
  generalize (lg_sl ([.ref ga, .int (jI z1)]) ++ List.replicate (4 - (lg_sl ([.ref ga, .int (jI z1)])).length) Slot.unset).toArray = ls at hl ⊢
  have hl : lv_has ls 4 [(0, .ref ga), (1, .int (jI z1))] := hl
  refine lv_iload_n hx hb dXG_ring_0 rfl (lv_at hl 1 rfl) ?_
  rw [hQ]
  refine yrS (rest := []) ⟨hx, hb, hml, hown, hts⟩ (c_XG_needPlace l hst dC dI cA z1 (by first | assumption | omega)) (cwS 1 hts (jG_S tw_546 tw_547 tw_1 tw_548) rfl rfl rfl (by decide +kernel) (by rw [hR]; exact ⟨Nat.le_of_ble_eq_true rfl, Nat.le_of_ble_eq_true rfl⟩)) hK hP hN hX [] rfl rfl hl.1 rfl (Nat.le_of_ble_eq_true rfl) dXG_ring_1 (by rw [hR]; exact ⟨Nat.le_of_ble_eq_true rfl, Nat.le_of_ble_eq_true rfl⟩) htab hlocks rfl (fun c1_ => ?_) (fun c1_ o9 t9 h9 => (by
    have hz9 : (f_XG_needPlace z1, 0) = f_XG_ring bg bf ft z1 := Eq.trans (by rw [f_XG_ring_s]; rw [if_neg c1_]; try rfl) rfl
    exact Or.inr ⟨by rw [← hz9]; exact c1_, by rw [← hz9]; exact h9⟩)) (Nat.le_of_ble_eq_true rfl) (Nat.le_of_ble_eq_true rfl)
  rw [← hQ]
  have f := f_XG_needPlace_b z1 (by first | assumption | omega)
  refine lv_iload_n hx hb dXG_ring_4 rfl (lv_at hl 1 rfl) ?_
  refine lv_istore_n (lv' := [(2, .int (jI z1)), (0, .ref ga), (1, .int (jI z1))]) hx hb dXG_ring_5 rfl hl (by decide) rfl (fun ls hl => ?_)
  refine ji_iconst hx hb dXG_ring_6 ?_
  refine lv_istore_n (lv' := [(3, .int (jI 1)), (2, .int (jI z1)), (0, .ref ga), (1, .int (jI z1))]) hx hb dXG_ring_7 rfl hl (by decide) rfl (fun ls hl => ?_)
  have loop8 : ∀ (n9 : Nat) (v : Int) (k : Int) , 31 - k < (n9 : Int) → f_XG_ring_L8 bg bf ft z1 n9 v k = f_XG_ring bg bf ft z1 → (1 ≤ k ∧ k ≤ 31) → (0 ≤ v ∧ v < 2147483648) → ∀ ls : Array Slot, lv_has ls 4 [(3, .int (jI k)), (2, .int (jI v)), (0, .ref ga), (1, .int (jI z1))] → W p l e R s m ([.ref ga, .int (jI z1)] : List Value).toArray below meth c s.heap [] 0 0 Q (F0 m 8 ls []) := by
    intro n9
    induction n9 with
    | zero =>
      intro v k hm hF hk hv
      exact absurd hm (by omega)
    | succ n9 ih8 =>
      intro v k hm hF hk hv ls hl
      refine lv_iload_n hx hb dXG_ring_8 rfl (lv_at hl 0 rfl) ?_
      refine ji_bipush hx hb dXG_ring_9 (by decide) ?_
      refine ji_icmp_gt (tgt := 40) hx hb dXG_ring_11 (by decide) (by omega) (by omega) (fun c11_ => ?_) (fun c11_ => ?_)
      · refine ji_iconst hx hb dXG_ring_40 ?_
        have hz9 : (0, -1) = f_XG_ring bg bf ft z1 := Eq.trans (by rw [f_XG_ring_L8_s]; rw [if_pos c11_]; try rfl) hF
        subst hQ
        refine yW (fun _ h => yQ_of h) ?_
        exact W.iret (v := jI (-1)) hx hb hr (fun t ht hW => Or.inl ⟨(congrArg Prod.fst hz9).symm, _, rfl, congrArg jI (congrArg Prod.snd hz9), ht⟩) (fun _ h => nomatch h) dXG_ring_41
      · refine lv_aload_n hx hb dXG_ring_14 rfl (lv_at hl 2 rfl) ?_
        refine va_get (D := (dC, dI)) (ci := 4) (v := .ref ba) (C := RXG) (T := TXG) (N := 7) hx hb hts (fun w h => jmem (inXG w h)) hown hK hP 0 rfl rfl 5 (by decide) (hts _ (jmem tw_106)) (fun _ h9 => h9) rfl dXG_ring_15 ?_
        refine lv_iload_n hx hb dXG_ring_18 rfl (lv_at hl 0 rfl) ?_
        refine jrVi (rest := []) ⟨hx, hb, hml, hown, hts⟩ (c_XB_onRing l dC dI cA ba bt bp bl bh bq br bd bg bf ft k (by first | assumption | omega) (by first | assumption | omega)) (cwV 1 hts (jG_V tw_550 tw_283 tw_284 tw_5 tw_285) rfl rfl rfl (by decide +kernel) (by rw [hR]; exact ⟨Nat.le_of_ble_eq_true rfl, Nat.le_of_ble_eq_true rfl⟩)) hK hP hN [1, 2] rfl 1 0 rfl rfl rfl rfl hl.1 rfl (Nat.le_of_ble_eq_true rfl) dXG_ring_19 (by rw [hR]; exact ⟨Nat.le_of_ble_eq_true rfl, Nat.le_of_ble_eq_true rfl⟩) ?_
        have f1 := f_XB_onRing_b bg bf ft k (by first | assumption | omega) (by first | assumption | omega)
        refine ji_if_eq (tgt := 34) hx hb dXG_ring_22 (by decide) (by omega) (fun c22_ => ?_) (fun c22_ => ?_)
        · refine ji_iinc (k := 0) (lv' := [(3, .int (jI (k + 1))), (2, .int (jI v)), (0, .ref ga), (1, .int (jI z1))]) hx hb dXG_ring_34 hl rfl (by decide) rfl (fun ls hl => ?_)
          refine lv_goto (tgt := 8) hx hb dXG_ring_37 (by decide) ?_
          exact ih8 v (k + 1) (by omega) (Eq.trans (by rw [f_XG_ring_L8_s]; rw [if_neg (Int.not_lt.mpr c11_), if_pos c22_]; try rfl) hF) (by first | assumption | omega) (by first | assumption | omega) ls (lv_sub hl [0, 1, 2, 3] rfl)
        · refine lv_iload_n hx hb dXG_ring_25 rfl (lv_at hl 1 rfl) ?_
          refine ji_if_ne (tgt := 31) hx hb dXG_ring_26 (by decide) (by omega) (fun c26_ => ?_) (fun c26_ => ?_)
          · refine ji_iinc (k := 1) (lv' := [(2, .int (jI (v + (-1)))), (3, .int (jI k)), (0, .ref ga), (1, .int (jI z1))]) hx hb dXG_ring_31 hl rfl (by decide) rfl (fun ls hl => ?_)
            refine ji_iinc (k := 1) (lv' := [(3, .int (jI (k + 1))), (2, .int (jI (v + (-1)))), (0, .ref ga), (1, .int (jI z1))]) hx hb dXG_ring_34 hl rfl (by decide) rfl (fun ls hl => ?_)
            refine lv_goto (tgt := 8) hx hb dXG_ring_37 (by decide) ?_
            exact ih8 (v + (-1)) (k + 1) (by omega) (Eq.trans (by rw [f_XG_ring_L8_s]; rw [if_neg (Int.not_lt.mpr c11_), if_neg c22_, if_neg c26_]; try rfl) hF) (by first | assumption | omega) (by first | assumption | omega) ls (lv_sub hl [0, 1, 2, 3] rfl)
          · refine lv_iload_n hx hb dXG_ring_29 rfl (lv_at hl 0 rfl) ?_
            have hz9 : (0, k) = f_XG_ring bg bf ft z1 := Eq.trans (by rw [f_XG_ring_L8_s]; rw [if_neg (Int.not_lt.mpr c11_), if_neg c22_, if_pos c26_]; try rfl) hF
            subst hQ
            refine yW (fun _ h => yQ_of h) ?_
            exact W.iret (v := jI k) hx hb hr (fun t ht hW => Or.inl ⟨(congrArg Prod.fst hz9).symm, _, rfl, congrArg jI (congrArg Prod.snd hz9), ht⟩) (fun _ h => nomatch h) dXG_ring_30
  exact loop8 (Int.toNat (31 - 1) + 1) z1 1 (by omega) (Eq.trans (by rw [f_XG_ring_s]; rw [if_pos c1_]; try rfl) rfl) (by first | assumption | omega) (by first | assumption | omega) ls (lv_sub hl [0, 1, 2, 3] rfl)
noncomputable def g_XG_route_L24 (bg : Int) (bf : Int) (fp : Int → Int) (fr : Int → Int) (z1 : Int) (z2 : Int) : Nat → Int → Int → Int × Int
  | 0, _, _ => (0, 0)
  | n9 + 1, v, k =>
    if k < 8 then
      if (f_XG_hasBit (f_XB_routesOf bg bf fp fr z1) k) = 0 then
        g_XG_route_L24 bg bf fp fr z1 z2 n9 v (k + 1)
      else
        if v = 0 then
          (0, k)
        else
          g_XG_route_L24 bg bf fp fr z1 z2 n9 (v + (-1)) (k + 1)
    else
      (0, -1)
noncomputable def f_XG_route_L24 : Int → Int → (Int → Int) → (Int → Int) → Int → Int → Nat → Int → Int → Int × Int := jopq g_XG_route_L24
theorem f_XG_route_L24_q : f_XG_route_L24 = g_XG_route_L24 := jopq_eq _
theorem f_XG_route_L24_s (bg : Int) (bf : Int) (fp : Int → Int) (fr : Int → Int) (z1 : Int) (z2 : Int) (n9 : Nat) (v : Int) (k : Int) : f_XG_route_L24 bg bf fp fr z1 z2 (n9 + 1) v k = (
    if k < 8 then
      if (f_XG_hasBit (f_XB_routesOf bg bf fp fr z1) k) = 0 then
        f_XG_route_L24 bg bf fp fr z1 z2 n9 v (k + 1)
      else
        if v = 0 then
          (0, k)
        else
          f_XG_route_L24 bg bf fp fr z1 z2 n9 (v + (-1)) (k + 1)
    else
      (0, -1)
  : Int × Int) := by rw [f_XG_route_L24_q]; rfl
theorem f_XG_route_L24_z (bg : Int) (bf : Int) (fp : Int → Int) (fr : Int → Int) (z1 : Int) (z2 : Int) (v : Int) (k : Int) : f_XG_route_L24 bg bf fp fr z1 z2 0 v k = (0, 0) := by rw [f_XG_route_L24_q]; rfl
noncomputable def g_XG_route (bg : Int) (bf : Int) (fp : Int → Int) (fr : Int → Int) (z1 : Int) (z2 : Int) : Int × Int :=
  if (f_XG_needGrade bg bf z1) = 0 then
    if (f_XG_needPlace z2) = 0 then
      f_XG_route_L24 bg bf fp fr z1 z2 (Int.toNat (8 - 0) + 1) z2 0
    else
      (f_XG_needPlace z2, 0)
  else
    (f_XG_needGrade bg bf z1, 0)
noncomputable def f_XG_route : Int → Int → (Int → Int) → (Int → Int) → Int → Int → Int × Int := jopq g_XG_route
theorem f_XG_route_q : f_XG_route = g_XG_route := jopq_eq _
theorem f_XG_route_s (bg : Int) (bf : Int) (fp : Int → Int) (fr : Int → Int) (z1 : Int) (z2 : Int) : f_XG_route bg bf fp fr z1 z2 = (
    if (f_XG_needGrade bg bf z1) = 0 then
      if (f_XG_needPlace z2) = 0 then
        f_XG_route_L24 bg bf fp fr z1 z2 (Int.toNat (8 - 0) + 1) z2 0
      else
        (f_XG_needPlace z2, 0)
    else
      (f_XG_needGrade bg bf z1, 0)
  : Int × Int) := by rw [f_XG_route_q]; rfl
set_option maxHeartbeats 4000000 in
set_option maxRecDepth 100000 in
theorem c_XG_route (l : Launch) (hst : l.stackTraces = false) (dC : Nat → ClassId) (dI : Nat → Nat → Nat) (cA : ClassId) (ga : Nat) (ta : Nat) (rda : Nat) (pa : Nat) (sa : Nat) (ea : Nat) (ba : Nat) (da : Nat) (bt : Nat) (bp : Nat) (bl : Nat) (bh : Nat) (bq : Nat) (br : Nat) (bd : Nat) (bg : Int) (bf : Int) (fp : Int → Int) (fr : Int → Int) (z1 : Int) (z2 : Int) (hbp : ∀ i, 0 ≤ fp i ∧ fp i ≤ 30) (hbr : ∀ i, 0 ≤ fr i ∧ fr i < 2147483648) (hbg : 0 ≤ bg ∧ bg < 2147483648) (hi_z1 : i32 z1) (hi_z2 : i32 z2) : YMet l yXG_route (Cond.code yXG_route cXG_route 6 (some .int) :: TBL) ({ frames := 7, cells := 1, slots := 6, locals := 103 } : Room) (va_Pc [.ref ga, .int (jI z1), .int (jI z2)] (jBx (dC, dI) [(cA, .int)] [(ga, .inr (4, [.ref ta, .ref rda, .ref pa, .ref sa, .ref ea, .ref ba, .ref da])), (ba, .inr (0, [.ref bt, .ref bp, .ref bl, .ref bh, .ref bq, .ref br, .ref bd, .int (jI bg), .int (jI bf)])), (bp, .inl (cA, 31, .inl (jA fp))), (br, .inl (cA, 31, .inl (jA fr)))])) (xQ (f_XG_route bg bf fp fr z1 z2).1 (vp_Si (fun r => r = jI (f_XG_route bg bf fp fr z1 z2).2))) 0 0 1 6 (fun _ => False) := by
  refine YMet.ofW (cc := cXG_route) (maxL := 6) (ret := some .int) (by decide) rfl ?_
  intro p e s m args below meth c s₁ R Q hR hQ B hml htab hv
  obtain ⟨rfl, ⟨hP, hK, hN⟩, hX⟩ := hv
  have hx := B.exec
  have hb := B.bytes
  have hr := B.returns
  have hts := atoms_spec (ws := Cond.code yXG_route cXG_route 6 (some .int) :: TBL) B.pre
  have hown : s.vm.findClass RXG = some m.cls := findClass_of_methodNamed B.named
  have hlocks := B.notSynchronized
  have hP : va_P (dC, dI) vwCl [(ga, .inr (4, [.ref ta, .ref rda, .ref pa, .ref sa, .ref ea, .ref ba, .ref da])), (ba, .inr (0, [.ref bt, .ref bp, .ref bl, .ref bh, .ref bq, .ref br, .ref bd, .int (jI bg), .int (jI bf)])), (bp, .inl (cA, 31, .inl (jA fp))), (br, .inl (cA, 31, .inl (jA fr)))] s.heap := hP
  have hl := lv_entry ([.ref ga, .int (jI z1), .int (jI z2)]) (n := 6) (Nat.le_of_ble_eq_true rfl)
  rw [lg_entry_eq]
  generalize (lg_sl ([.ref ga, .int (jI z1), .int (jI z2)]) ++ List.replicate (6 - (lg_sl ([.ref ga, .int (jI z1), .int (jI z2)])).length) Slot.unset).toArray = ls at hl ⊢
  have hl : lv_has ls 6 [(0, .ref ga), (1, .int (jI z1)), (2, .int (jI z2))] := hl
  refine lv_aload_n hx hb dXG_route_0 rfl (lv_at hl 0 rfl) ?_
  refine lv_iload_n hx hb dXG_route_1 rfl (lv_at hl 1 rfl) ?_
  rw [hQ]
  refine yrV (rest := []) ⟨hx, hb, hml, hown, hts⟩ (c_XG_needGrade l hst dC dI cA ga ta rda pa sa ea da ba bt bp bl bh bq br bd bg bf z1 (by first | assumption | omega) (by first | assumption | omega)) (cwV 1 hts (jG_V tw_412 tw_414 ts_9 tw_1 tw_415) rfl rfl rfl (by decide +kernel) (by rw [hR]; exact ⟨Nat.le_of_ble_eq_true rfl, Nat.le_of_ble_eq_true rfl⟩)) hK hP hN hX [0, 1] rfl 0 4 rfl rfl rfl rfl hl.1 rfl (Nat.le_of_ble_eq_true rfl) dXG_route_2 (by rw [hR]; exact ⟨Nat.le_of_ble_eq_true rfl, Nat.le_of_ble_eq_true rfl⟩) htab hlocks rfl (fun c2_ => ?_) (fun c2_ o9 t9 h9 => (by
    have hz9 : (f_XG_needGrade bg bf z1, 0) = f_XG_route bg bf fp fr z1 z2 := Eq.trans (by rw [f_XG_route_s]; rw [if_neg c2_]; try rfl) rfl
    exact Or.inr ⟨by rw [← hz9]; exact c2_, by rw [← hz9]; exact h9⟩)) (Nat.le_of_ble_eq_true rfl) (Nat.le_of_ble_eq_true rfl)
  rw [← hQ]
  have f := f_XG_needGrade_b bg bf z1 (by first | assumption | omega) (by first | assumption | omega)
  refine lv_iload_n hx hb dXG_route_5 rfl (lv_at hl 2 rfl) ?_
  rw [hQ]
  refine yrS (rest := []) ⟨hx, hb, hml, hown, hts⟩ (c_XG_needPlace l hst dC dI cA z2 (by first | assumption | omega)) (cwS 1 hts (jG_S tw_546 tw_547 tw_1 tw_548) rfl rfl rfl (by decide +kernel) (by rw [hR]; exact ⟨Nat.le_of_ble_eq_true rfl, Nat.le_of_ble_eq_true rfl⟩)) hK hP hN hX [] rfl rfl hl.1 rfl (Nat.le_of_ble_eq_true rfl) dXG_route_6 (by rw [hR]; exact ⟨Nat.le_of_ble_eq_true rfl, Nat.le_of_ble_eq_true rfl⟩) htab hlocks rfl (fun c6_ => ?_) (fun c6_ o9 t9 h9 => (by
    have hz9 : (f_XG_needPlace z2, 0) = f_XG_route bg bf fp fr z1 z2 := Eq.trans (by rw [f_XG_route_s]; rw [if_pos c2_, if_neg c6_]; try rfl) rfl
    exact Or.inr ⟨by rw [← hz9]; exact c6_, by rw [← hz9]; exact h9⟩)) (Nat.le_of_ble_eq_true rfl) (Nat.le_of_ble_eq_true rfl)
  rw [← hQ]
  have f1 := f_XG_needPlace_b z2 (by first | assumption | omega)
  refine lv_aload_n hx hb dXG_route_9 rfl (lv_at hl 0 rfl) ?_
  refine va_get (D := (dC, dI)) (ci := 4) (v := .ref ba) (C := RXG) (T := TXG) (N := 7) hx hb hts (fun w h => jmem (inXG w h)) hown hK hP 0 rfl rfl 5 (by decide) (hts _ (jmem tw_106)) (fun _ h9 => h9) rfl dXG_route_10 ?_
  refine lv_iload_n hx hb dXG_route_13 rfl (lv_at hl 1 rfl) ?_
  refine jrVi (rest := []) ⟨hx, hb, hml, hown, hts⟩ (c_XB_routesOf l dC dI cA ba bt bp bl bh bq br bd bg bf fp fr z1 (by first | assumption | omega) (by first | assumption | omega) (by first | assumption | omega)) (cwV 1 hts (jG_V tw_558 tw_559 tw_560 tw_5 tw_561) rfl rfl rfl (by decide +kernel) (by rw [hR]; exact ⟨Nat.le_of_ble_eq_true rfl, Nat.le_of_ble_eq_true rfl⟩)) hK hP hN [1, 2, 3] rfl 1 0 rfl rfl rfl rfl hl.1 rfl (Nat.le_of_ble_eq_true rfl) dXG_route_14 (by rw [hR]; exact ⟨Nat.le_of_ble_eq_true rfl, Nat.le_of_ble_eq_true rfl⟩) ?_
  have f2 := f_XB_routesOf_b bg bf fp fr z1 (by first | assumption | omega) (by first | assumption | omega) (by first | assumption | omega)
  refine lv_istore_n (lv' := [(3, .int (jI (f_XB_routesOf bg bf fp fr z1))), (0, .ref ga), (1, .int (jI z1)), (2, .int (jI z2))]) hx hb dXG_route_17 rfl hl (by decide) rfl (fun ls hl => ?_)
  refine lv_iload_n hx hb dXG_route_18 rfl (lv_at hl 3 rfl) ?_
  refine lv_istore (lv' := [(4, .int (jI z2)), (3, .int (jI (f_XB_routesOf bg bf fp fr z1))), (0, .ref ga), (1, .int (jI z1)), (2, .int (jI z2))]) hx hb dXG_route_19 hl (by decide) rfl (fun ls hl => ?_)
  refine ji_iconst hx hb dXG_route_21 ?_
  refine lv_istore (lv' := [(5, .int (jI 0)), (4, .int (jI z2)), (3, .int (jI (f_XB_routesOf bg bf fp fr z1))), (0, .ref ga), (1, .int (jI z1)), (2, .int (jI z2))]) hx hb dXG_route_22 hl (by decide) rfl (fun ls hl => ?_)
  have loop24 : ∀ (n9 : Nat) (v : Int) (k : Int) , 8 - k < (n9 : Int) → f_XG_route_L24 bg bf fp fr z1 z2 n9 v k = f_XG_route bg bf fp fr z1 z2 → (0 ≤ k ∧ k ≤ 8) → (0 ≤ v ∧ v < 2147483648) → ∀ ls : Array Slot, lv_has ls 6 [(5, .int (jI k)), (4, .int (jI v)), (3, .int (jI (f_XB_routesOf bg bf fp fr z1))), (0, .ref ga), (1, .int (jI z1)), (2, .int (jI z2))] → W p l e R s m ([.ref ga, .int (jI z1), .int (jI z2)] : List Value).toArray below meth c s.heap [] 0 0 Q (F0 m 24 ls []) := by
    intro n9
    induction n9 with
    | zero =>
      intro v k hm hF hk hv
      exact absurd hm (by omega)
    | succ n9 ih24 =>
      intro v k hm hF hk hv ls hl
      refine lv_iload hx hb dXG_route_24 (lv_at hl 0 rfl) ?_
      refine ji_bipush hx hb dXG_route_26 (by decide) ?_
      refine ji_icmp_ge (tgt := 57) hx hb dXG_route_28 (by decide) (by omega) (by omega) (fun c28_ => ?_) (fun c28_ => ?_)
      · refine ji_iconst hx hb dXG_route_57 ?_
        have hz9 : (0, -1) = f_XG_route bg bf fp fr z1 z2 := Eq.trans (by rw [f_XG_route_L24_s]; rw [if_neg (Int.not_lt.mpr c28_)]; try rfl) hF
        subst hQ
        refine yW (fun _ h => yQ_of h) ?_
        exact W.iret (v := jI (-1)) hx hb hr (fun t ht hW => Or.inl ⟨(congrArg Prod.fst hz9).symm, _, rfl, congrArg jI (congrArg Prod.snd hz9), ht⟩) (fun _ h => nomatch h) dXG_route_58
      · refine lv_iload_n hx hb dXG_route_31 rfl (lv_at hl 2 rfl) ?_
        refine lv_iload hx hb dXG_route_32 (lv_at hl 0 rfl) ?_
        refine jrSi (rest := []) ⟨hx, hb, hml, hown, hts⟩ (c_XG_hasBit l dC dI cA (f_XB_routesOf bg bf fp fr z1) k (by first | assumption | omega) (by first | assumption | omega)) (cwS 2 hts (jG_S tw_562 tw_172 tw_1 tw_173) rfl rfl rfl (by decide +kernel) (by rw [hR]; exact ⟨Nat.le_of_ble_eq_true rfl, Nat.le_of_ble_eq_true rfl⟩)) hK hP hN [] rfl rfl hl.1 rfl (Nat.le_of_ble_eq_true rfl) dXG_route_34 (by rw [hR]; exact ⟨Nat.le_of_ble_eq_true rfl, Nat.le_of_ble_eq_true rfl⟩) ?_
        have f3 := f_XG_hasBit_01 (f_XB_routesOf bg bf fp fr z1) k (by first | assumption | omega) (by first | assumption | omega)
        refine ji_if_eq (tgt := 51) hx hb dXG_route_37 (by decide) (by omega) (fun c37_ => ?_) (fun c37_ => ?_)
        · refine ji_iinc (k := 0) (lv' := [(5, .int (jI (k + 1))), (4, .int (jI v)), (3, .int (jI (f_XB_routesOf bg bf fp fr z1))), (0, .ref ga), (1, .int (jI z1)), (2, .int (jI z2))]) hx hb dXG_route_51 hl rfl (by decide) rfl (fun ls hl => ?_)
          refine lv_goto (tgt := 24) hx hb dXG_route_54 (by decide) ?_
          exact ih24 v (k + 1) (by omega) (Eq.trans (by rw [f_XG_route_L24_s]; rw [if_pos c28_, if_pos c37_]; try rfl) hF) (by first | assumption | omega) (by first | assumption | omega) ls (lv_sub hl [0, 1, 2, 3, 4, 5] rfl)
        · refine lv_iload hx hb dXG_route_40 (lv_at hl 1 rfl) ?_
          refine ji_if_ne (tgt := 48) hx hb dXG_route_42 (by decide) (by omega) (fun c42_ => ?_) (fun c42_ => ?_)
          · refine ji_iinc (k := 1) (lv' := [(4, .int (jI (v + (-1)))), (5, .int (jI k)), (3, .int (jI (f_XB_routesOf bg bf fp fr z1))), (0, .ref ga), (1, .int (jI z1)), (2, .int (jI z2))]) hx hb dXG_route_48 hl rfl (by decide) rfl (fun ls hl => ?_)
            refine ji_iinc (k := 1) (lv' := [(5, .int (jI (k + 1))), (4, .int (jI (v + (-1)))), (3, .int (jI (f_XB_routesOf bg bf fp fr z1))), (0, .ref ga), (1, .int (jI z1)), (2, .int (jI z2))]) hx hb dXG_route_51 hl rfl (by decide) rfl (fun ls hl => ?_)
            refine lv_goto (tgt := 24) hx hb dXG_route_54 (by decide) ?_
            exact ih24 (v + (-1)) (k + 1) (by omega) (Eq.trans (by rw [f_XG_route_L24_s]; rw [if_pos c28_, if_neg c37_, if_neg c42_]; try rfl) hF) (by first | assumption | omega) (by first | assumption | omega) ls (lv_sub hl [0, 1, 2, 3, 4, 5] rfl)
          · refine lv_iload hx hb dXG_route_45 (lv_at hl 0 rfl) ?_
            have hz9 : (0, k) = f_XG_route bg bf fp fr z1 z2 := Eq.trans (by rw [f_XG_route_L24_s]; rw [if_pos c28_, if_neg c37_, if_pos c42_]; try rfl) hF
            subst hQ
            refine yW (fun _ h => yQ_of h) ?_
            exact W.iret (v := jI k) hx hb hr (fun t ht hW => Or.inl ⟨(congrArg Prod.fst hz9).symm, _, rfl, congrArg jI (congrArg Prod.snd hz9), ht⟩) (fun _ h => nomatch h) dXG_route_47
  exact loop24 (Int.toNat (8 - 0) + 1) z2 0 (by omega) (Eq.trans (by rw [f_XG_route_s]; rw [if_pos c2_, if_pos c6_]; try rfl) rfl) (by first | assumption | omega) (by first | assumption | omega) ls (lv_sub hl [0, 1, 2, 3, 4, 5] rfl)
noncomputable def g_XG_difference_L20 (bg : Int) (bf : Int) (fp : Int → Int) (fl : Int → Int) (fh : Int → Int) (z1 : Int) (z2 : Int) (z3 : Int) : Nat → Int → Int → Int × Int
  | 0, _, _ => (0, 0)
  | n9 + 1, v, k =>
    if k < 8 then
      if (f_XB_endOf bg bf fp fl fh z1 k 0) = (f_XB_endOf bg bf fp fl fh z2 k 0) then
        if (f_XB_endOf bg bf fp fl fh z1 k 1) = (f_XB_endOf bg bf fp fl fh z2 k 1) then
          g_XG_difference_L20 bg bf fp fl fh z1 z2 z3 n9 v (k + 1)
        else
          if v = 0 then
            (0, k)
          else
            g_XG_difference_L20 bg bf fp fl fh z1 z2 z3 n9 (v + (-1)) (k + 1)
      else
        if v = 0 then
          (0, k)
        else
          g_XG_difference_L20 bg bf fp fl fh z1 z2 z3 n9 (v + (-1)) (k + 1)
    else
      (0, -1)
noncomputable def f_XG_difference_L20 : Int → Int → (Int → Int) → (Int → Int) → (Int → Int) → Int → Int → Int → Nat → Int → Int → Int × Int := jopq g_XG_difference_L20
theorem f_XG_difference_L20_q : f_XG_difference_L20 = g_XG_difference_L20 := jopq_eq _
theorem f_XG_difference_L20_s (bg : Int) (bf : Int) (fp : Int → Int) (fl : Int → Int) (fh : Int → Int) (z1 : Int) (z2 : Int) (z3 : Int) (n9 : Nat) (v : Int) (k : Int) : f_XG_difference_L20 bg bf fp fl fh z1 z2 z3 (n9 + 1) v k = (
    if k < 8 then
      if (f_XB_endOf bg bf fp fl fh z1 k 0) = (f_XB_endOf bg bf fp fl fh z2 k 0) then
        if (f_XB_endOf bg bf fp fl fh z1 k 1) = (f_XB_endOf bg bf fp fl fh z2 k 1) then
          f_XG_difference_L20 bg bf fp fl fh z1 z2 z3 n9 v (k + 1)
        else
          if v = 0 then
            (0, k)
          else
            f_XG_difference_L20 bg bf fp fl fh z1 z2 z3 n9 (v + (-1)) (k + 1)
      else
        if v = 0 then
          (0, k)
        else
          f_XG_difference_L20 bg bf fp fl fh z1 z2 z3 n9 (v + (-1)) (k + 1)
    else
      (0, -1)
  : Int × Int) := by rw [f_XG_difference_L20_q]; rfl
theorem f_XG_difference_L20_z (bg : Int) (bf : Int) (fp : Int → Int) (fl : Int → Int) (fh : Int → Int) (z1 : Int) (z2 : Int) (z3 : Int) (v : Int) (k : Int) : f_XG_difference_L20 bg bf fp fl fh z1 z2 z3 0 v k = (0, 0) := by rw [f_XG_difference_L20_q]; rfl
noncomputable def g_XG_difference (bg : Int) (bf : Int) (fp : Int → Int) (fl : Int → Int) (fh : Int → Int) (z1 : Int) (z2 : Int) (z3 : Int) : Int × Int :=
  if (f_XG_needGrade bg bf z1) = 0 then
    if (f_XG_needGrade bg bf z2) = 0 then
      if (f_XG_needPlace z3) = 0 then
        f_XG_difference_L20 bg bf fp fl fh z1 z2 z3 (Int.toNat (8 - 0) + 1) z3 0
      else
        (f_XG_needPlace z3, 0)
    else
      (f_XG_needGrade bg bf z2, 0)
  else
    (f_XG_needGrade bg bf z1, 0)
noncomputable def f_XG_difference : Int → Int → (Int → Int) → (Int → Int) → (Int → Int) → Int → Int → Int → Int × Int := jopq g_XG_difference
theorem f_XG_difference_q : f_XG_difference = g_XG_difference := jopq_eq _
theorem f_XG_difference_s (bg : Int) (bf : Int) (fp : Int → Int) (fl : Int → Int) (fh : Int → Int) (z1 : Int) (z2 : Int) (z3 : Int) : f_XG_difference bg bf fp fl fh z1 z2 z3 = (
    if (f_XG_needGrade bg bf z1) = 0 then
      if (f_XG_needGrade bg bf z2) = 0 then
        if (f_XG_needPlace z3) = 0 then
          f_XG_difference_L20 bg bf fp fl fh z1 z2 z3 (Int.toNat (8 - 0) + 1) z3 0
        else
          (f_XG_needPlace z3, 0)
      else
        (f_XG_needGrade bg bf z2, 0)
    else
      (f_XG_needGrade bg bf z1, 0)
  : Int × Int) := by rw [f_XG_difference_q]; rfl
set_option maxHeartbeats 4000000 in
set_option maxRecDepth 100000 in
theorem c_XG_difference (l : Launch) (hst : l.stackTraces = false) (dC : Nat → ClassId) (dI : Nat → Nat → Nat) (cA : ClassId) (ga : Nat) (ta : Nat) (rda : Nat) (pa : Nat) (sa : Nat) (ea : Nat) (ba : Nat) (da : Nat) (bt : Nat) (bp : Nat) (bl : Nat) (bh : Nat) (bq : Nat) (br : Nat) (bd : Nat) (bg : Int) (bf : Int) (fp : Int → Int) (fl : Int → Int) (fh : Int → Int) (z1 : Int) (z2 : Int) (z3 : Int) (hbp : ∀ i, 0 ≤ fp i ∧ fp i ≤ 30) (hbl : ∀ i, 0 ≤ fl i ∧ fl i ≤ 100000) (hbh : ∀ i, -1 ≤ fh i ∧ fh i ≤ 100000) (hbg : 0 ≤ bg ∧ bg < 2147483648) (hi_z1 : i32 z1) (hi_z2 : i32 z2) (hi_z3 : i32 z3) : YMet l yXG_difference (Cond.code yXG_difference cXG_difference 6 (some .int) :: TBL) ({ frames := 7, cells := 1, slots := 6, locals := 103 } : Room) (va_Pc [.ref ga, .int (jI z1), .int (jI z2), .int (jI z3)] (jBx (dC, dI) [(cA, .int)] [(ga, .inr (4, [.ref ta, .ref rda, .ref pa, .ref sa, .ref ea, .ref ba, .ref da])), (ba, .inr (0, [.ref bt, .ref bp, .ref bl, .ref bh, .ref bq, .ref br, .ref bd, .int (jI bg), .int (jI bf)])), (bp, .inl (cA, 31, .inl (jA fp))), (bl, .inl (cA, 248, .inl (jA fl))), (bh, .inl (cA, 248, .inl (jA fh)))])) (xQ (f_XG_difference bg bf fp fl fh z1 z2 z3).1 (vp_Si (fun r => r = jI (f_XG_difference bg bf fp fl fh z1 z2 z3).2))) 0 0 1 6 (fun _ => False) := by
  refine YMet.ofW (cc := cXG_difference) (maxL := 6) (ret := some .int) (by decide) rfl ?_
  intro p e s m args below meth c s₁ R Q hR hQ B hml htab hv
  obtain ⟨rfl, ⟨hP, hK, hN⟩, hX⟩ := hv
  have hx := B.exec
  have hb := B.bytes
  have hr := B.returns
  have hts := atoms_spec (ws := Cond.code yXG_difference cXG_difference 6 (some .int) :: TBL) B.pre
  have hown : s.vm.findClass RXG = some m.cls := findClass_of_methodNamed B.named
  have hlocks := B.notSynchronized
  have hP : va_P (dC, dI) vwCl [(ga, .inr (4, [.ref ta, .ref rda, .ref pa, .ref sa, .ref ea, .ref ba, .ref da])), (ba, .inr (0, [.ref bt, .ref bp, .ref bl, .ref bh, .ref bq, .ref br, .ref bd, .int (jI bg), .int (jI bf)])), (bp, .inl (cA, 31, .inl (jA fp))), (bl, .inl (cA, 248, .inl (jA fl))), (bh, .inl (cA, 248, .inl (jA fh)))] s.heap := hP
  have hl := lv_entry ([.ref ga, .int (jI z1), .int (jI z2), .int (jI z3)]) (n := 6) (Nat.le_of_ble_eq_true rfl)
  rw [lg_entry_eq]
  generalize (lg_sl ([.ref ga, .int (jI z1), .int (jI z2), .int (jI z3)]) ++ List.replicate (6 - (lg_sl ([.ref ga, .int (jI z1), .int (jI z2), .int (jI z3)])).length) Slot.unset).toArray = ls at hl ⊢
  have hl : lv_has ls 6 [(0, .ref ga), (1, .int (jI z1)), (2, .int (jI z2)), (3, .int (jI z3))] := hl
  refine lv_aload_n hx hb dXG_difference_0 rfl (lv_at hl 0 rfl) ?_
  refine lv_iload_n hx hb dXG_difference_1 rfl (lv_at hl 1 rfl) ?_
  rw [hQ]
  refine yrV (rest := []) ⟨hx, hb, hml, hown, hts⟩ (c_XG_needGrade l hst dC dI cA ga ta rda pa sa ea da ba bt bp bl bh bq br bd bg bf z1 (by first | assumption | omega) (by first | assumption | omega)) (cwV 1 hts (jG_V tw_412 tw_414 ts_9 tw_1 tw_415) rfl rfl rfl (by decide +kernel) (by rw [hR]; exact ⟨Nat.le_of_ble_eq_true rfl, Nat.le_of_ble_eq_true rfl⟩)) hK hP hN hX [0, 1] rfl 0 4 rfl rfl rfl rfl hl.1 rfl (Nat.le_of_ble_eq_true rfl) dXG_difference_2 (by rw [hR]; exact ⟨Nat.le_of_ble_eq_true rfl, Nat.le_of_ble_eq_true rfl⟩) htab hlocks rfl (fun c2_ => ?_) (fun c2_ o9 t9 h9 => (by
    have hz9 : (f_XG_needGrade bg bf z1, 0) = f_XG_difference bg bf fp fl fh z1 z2 z3 := Eq.trans (by rw [f_XG_difference_s]; rw [if_neg c2_]; try rfl) rfl
    exact Or.inr ⟨by rw [← hz9]; exact c2_, by rw [← hz9]; exact h9⟩)) (Nat.le_of_ble_eq_true rfl) (Nat.le_of_ble_eq_true rfl)
  rw [← hQ]
  have f := f_XG_needGrade_b bg bf z1 (by first | assumption | omega) (by first | assumption | omega)
  refine lv_aload_n hx hb dXG_difference_5 rfl (lv_at hl 0 rfl) ?_
  refine lv_iload_n hx hb dXG_difference_6 rfl (lv_at hl 2 rfl) ?_
  rw [hQ]
  refine yrV (rest := []) ⟨hx, hb, hml, hown, hts⟩ (c_XG_needGrade l hst dC dI cA ga ta rda pa sa ea da ba bt bp bl bh bq br bd bg bf z2 (by first | assumption | omega) (by first | assumption | omega)) (cwV 1 hts (jG_V tw_412 tw_414 ts_9 tw_1 tw_415) rfl rfl rfl (by decide +kernel) (by rw [hR]; exact ⟨Nat.le_of_ble_eq_true rfl, Nat.le_of_ble_eq_true rfl⟩)) hK hP hN hX [0, 1] rfl 0 4 rfl rfl rfl rfl hl.1 rfl (Nat.le_of_ble_eq_true rfl) dXG_difference_7 (by rw [hR]; exact ⟨Nat.le_of_ble_eq_true rfl, Nat.le_of_ble_eq_true rfl⟩) htab hlocks rfl (fun c7_ => ?_) (fun c7_ o9 t9 h9 => (by
    have hz9 : (f_XG_needGrade bg bf z2, 0) = f_XG_difference bg bf fp fl fh z1 z2 z3 := Eq.trans (by rw [f_XG_difference_s]; rw [if_pos c2_, if_neg c7_]; try rfl) rfl
    exact Or.inr ⟨by rw [← hz9]; exact c7_, by rw [← hz9]; exact h9⟩)) (Nat.le_of_ble_eq_true rfl) (Nat.le_of_ble_eq_true rfl)
  rw [← hQ]
  have f1 := f_XG_needGrade_b bg bf z2 (by first | assumption | omega) (by first | assumption | omega)
  refine lv_iload_n hx hb dXG_difference_10 rfl (lv_at hl 3 rfl) ?_
  rw [hQ]
  refine yrS (rest := []) ⟨hx, hb, hml, hown, hts⟩ (c_XG_needPlace l hst dC dI cA z3 (by first | assumption | omega)) (cwS 1 hts (jG_S tw_546 tw_547 tw_1 tw_548) rfl rfl rfl (by decide +kernel) (by rw [hR]; exact ⟨Nat.le_of_ble_eq_true rfl, Nat.le_of_ble_eq_true rfl⟩)) hK hP hN hX [] rfl rfl hl.1 rfl (Nat.le_of_ble_eq_true rfl) dXG_difference_11 (by rw [hR]; exact ⟨Nat.le_of_ble_eq_true rfl, Nat.le_of_ble_eq_true rfl⟩) htab hlocks rfl (fun c11_ => ?_) (fun c11_ o9 t9 h9 => (by
    have hz9 : (f_XG_needPlace z3, 0) = f_XG_difference bg bf fp fl fh z1 z2 z3 := Eq.trans (by rw [f_XG_difference_s]; rw [if_pos c2_, if_pos c7_, if_neg c11_]; try rfl) rfl
    exact Or.inr ⟨by rw [← hz9]; exact c11_, by rw [← hz9]; exact h9⟩)) (Nat.le_of_ble_eq_true rfl) (Nat.le_of_ble_eq_true rfl)
  rw [← hQ]
  have f2 := f_XG_needPlace_b z3 (by first | assumption | omega)
  refine lv_iload_n hx hb dXG_difference_14 rfl (lv_at hl 3 rfl) ?_
  refine lv_istore (lv' := [(4, .int (jI z3)), (0, .ref ga), (1, .int (jI z1)), (2, .int (jI z2)), (3, .int (jI z3))]) hx hb dXG_difference_15 hl (by decide) rfl (fun ls hl => ?_)
  refine ji_iconst hx hb dXG_difference_17 ?_
  refine lv_istore (lv' := [(5, .int (jI 0)), (4, .int (jI z3)), (0, .ref ga), (1, .int (jI z1)), (2, .int (jI z2)), (3, .int (jI z3))]) hx hb dXG_difference_18 hl (by decide) rfl (fun ls hl => ?_)
  have loop20 : ∀ (n9 : Nat) (v : Int) (k : Int) , 8 - k < (n9 : Int) → f_XG_difference_L20 bg bf fp fl fh z1 z2 z3 n9 v k = f_XG_difference bg bf fp fl fh z1 z2 z3 → (0 ≤ k ∧ k ≤ 8) → (0 ≤ v ∧ v < 2147483648) → ∀ ls : Array Slot, lv_has ls 6 [(5, .int (jI k)), (4, .int (jI v)), (0, .ref ga), (1, .int (jI z1)), (2, .int (jI z2)), (3, .int (jI z3))] → W p l e R s m ([.ref ga, .int (jI z1), .int (jI z2), .int (jI z3)] : List Value).toArray below meth c s.heap [] 0 0 Q (F0 m 20 ls []) := by
    intro n9
    induction n9 with
    | zero =>
      intro v k hm hF hk hv
      exact absurd hm (by omega)
    | succ n9 ih20 =>
      intro v k hm hF hk hv ls hl
      refine lv_iload hx hb dXG_difference_20 (lv_at hl 0 rfl) ?_
      refine ji_bipush hx hb dXG_difference_22 (by decide) ?_
      refine ji_icmp_ge (tgt := 94) hx hb dXG_difference_24 (by decide) (by omega) (by omega) (fun c24_ => ?_) (fun c24_ => ?_)
      · refine ji_iconst hx hb dXG_difference_94 ?_
        have hz9 : (0, -1) = f_XG_difference bg bf fp fl fh z1 z2 z3 := Eq.trans (by rw [f_XG_difference_L20_s]; rw [if_neg (Int.not_lt.mpr c24_)]; try rfl) hF
        subst hQ
        refine yW (fun _ h => yQ_of h) ?_
        exact W.iret (v := jI (-1)) hx hb hr (fun t ht hW => Or.inl ⟨(congrArg Prod.fst hz9).symm, _, rfl, congrArg jI (congrArg Prod.snd hz9), ht⟩) (fun _ h => nomatch h) dXG_difference_95
      · refine lv_aload_n hx hb dXG_difference_27 rfl (lv_at hl 2 rfl) ?_
        refine va_get (D := (dC, dI)) (ci := 4) (v := .ref ba) (C := RXG) (T := TXG) (N := 7) hx hb hts (fun w h => jmem (inXG w h)) hown hK hP 0 rfl rfl 5 (by decide) (hts _ (jmem tw_106)) (fun _ h9 => h9) rfl dXG_difference_28 ?_
        refine lv_iload_n hx hb dXG_difference_31 rfl (lv_at hl 3 rfl) ?_
        refine lv_iload hx hb dXG_difference_32 (lv_at hl 0 rfl) ?_
        refine ji_iconst hx hb dXG_difference_34 ?_
        refine jrVi (rest := []) ⟨hx, hb, hml, hown, hts⟩ (c_XB_endOf l dC dI cA ba bt bp bl bh bq br bd bg bf fp fl fh z1 k 0 (by first | assumption | omega) (by first | assumption | omega) (by first | assumption | omega) (by first | assumption | omega) (by first | assumption | omega) (by first | assumption | omega)) (cwV 3 hts (jG_V tw_437 tw_438 tw_439 tw_5 tw_440) rfl rfl rfl (by decide +kernel) (by rw [hR]; exact ⟨Nat.le_of_ble_eq_true rfl, Nat.le_of_ble_eq_true rfl⟩)) hK hP hN [1, 2, 3, 4] rfl 1 0 rfl rfl rfl rfl hl.1 rfl (Nat.le_of_ble_eq_true rfl) dXG_difference_35 (by rw [hR]; exact ⟨Nat.le_of_ble_eq_true rfl, Nat.le_of_ble_eq_true rfl⟩) ?_
        have f3 := f_XB_endOf_b bg bf fp fl fh z1 k 0 (by first | assumption | omega) (by first | assumption | omega) (by first | assumption | omega) (by first | assumption | omega) (by first | assumption | omega) (by first | assumption | omega)
        refine lv_aload_n hx hb dXG_difference_38 rfl (lv_at hl 2 rfl) ?_
        refine va_get (D := (dC, dI)) (ci := 4) (v := .ref ba) (C := RXG) (T := TXG) (N := 7) hx hb hts (fun w h => jmem (inXG w h)) hown hK hP 0 rfl rfl 5 (by decide) (hts _ (jmem tw_106)) (fun _ h9 => h9) rfl dXG_difference_39 ?_
        refine lv_iload_n hx hb dXG_difference_42 rfl (lv_at hl 4 rfl) ?_
        refine lv_iload hx hb dXG_difference_43 (lv_at hl 0 rfl) ?_
        refine ji_iconst hx hb dXG_difference_45 ?_
        refine jrVi (rest := [.int (jI (f_XB_endOf bg bf fp fl fh z1 k 0))]) ⟨hx, hb, hml, hown, hts⟩ (c_XB_endOf l dC dI cA ba bt bp bl bh bq br bd bg bf fp fl fh z2 k 0 (by first | assumption | omega) (by first | assumption | omega) (by first | assumption | omega) (by first | assumption | omega) (by first | assumption | omega) (by first | assumption | omega)) (cwV 3 hts (jG_V tw_437 tw_438 tw_439 tw_5 tw_440) rfl rfl rfl (by decide +kernel) (by rw [hR]; exact ⟨Nat.le_of_ble_eq_true rfl, Nat.le_of_ble_eq_true rfl⟩)) hK hP hN [1, 2, 3, 4] rfl 1 0 rfl rfl rfl rfl hl.1 rfl (Nat.le_of_ble_eq_true rfl) dXG_difference_46 (by rw [hR]; exact ⟨Nat.le_of_ble_eq_true rfl, Nat.le_of_ble_eq_true rfl⟩) ?_
        have f4 := f_XB_endOf_b bg bf fp fl fh z2 k 0 (by first | assumption | omega) (by first | assumption | omega) (by first | assumption | omega) (by first | assumption | omega) (by first | assumption | omega) (by first | assumption | omega)
        refine ji_icmp_ne (tgt := 77) hx hb dXG_difference_49 (by decide) (by omega) (by omega) (fun c49_ => ?_) (fun c49_ => ?_)
        · refine lv_iload hx hb dXG_difference_77 (lv_at hl 1 rfl) ?_
          refine ji_if_ne (tgt := 85) hx hb dXG_difference_79 (by decide) (by omega) (fun c79_ => ?_) (fun c79_ => ?_)
          · refine ji_iinc (k := 1) (lv' := [(4, .int (jI (v + (-1)))), (5, .int (jI k)), (0, .ref ga), (1, .int (jI z1)), (2, .int (jI z2)), (3, .int (jI z3))]) hx hb dXG_difference_85 hl rfl (by decide) rfl (fun ls hl => ?_)
            refine ji_iinc (k := 1) (lv' := [(5, .int (jI (k + 1))), (4, .int (jI (v + (-1)))), (0, .ref ga), (1, .int (jI z1)), (2, .int (jI z2)), (3, .int (jI z3))]) hx hb dXG_difference_88 hl rfl (by decide) rfl (fun ls hl => ?_)
            refine lv_goto (tgt := 20) hx hb dXG_difference_91 (by decide) ?_
            exact ih20 (v + (-1)) (k + 1) (by omega) (Eq.trans (by rw [f_XG_difference_L20_s]; rw [if_pos c24_, if_neg c49_, if_neg c79_]; try rfl) hF) (by first | assumption | omega) (by first | assumption | omega) ls (lv_sub hl [0, 1, 2, 3, 4, 5] rfl)
          · refine lv_iload hx hb dXG_difference_82 (lv_at hl 0 rfl) ?_
            have hz9 : (0, k) = f_XG_difference bg bf fp fl fh z1 z2 z3 := Eq.trans (by rw [f_XG_difference_L20_s]; rw [if_pos c24_, if_neg c49_, if_pos c79_]; try rfl) hF
            subst hQ
            refine yW (fun _ h => yQ_of h) ?_
            exact W.iret (v := jI k) hx hb hr (fun t ht hW => Or.inl ⟨(congrArg Prod.fst hz9).symm, _, rfl, congrArg jI (congrArg Prod.snd hz9), ht⟩) (fun _ h => nomatch h) dXG_difference_84
        · refine lv_aload_n hx hb dXG_difference_52 rfl (lv_at hl 2 rfl) ?_
          refine va_get (D := (dC, dI)) (ci := 4) (v := .ref ba) (C := RXG) (T := TXG) (N := 7) hx hb hts (fun w h => jmem (inXG w h)) hown hK hP 0 rfl rfl 5 (by decide) (hts _ (jmem tw_106)) (fun _ h9 => h9) rfl dXG_difference_53 ?_
          refine lv_iload_n hx hb dXG_difference_56 rfl (lv_at hl 3 rfl) ?_
          refine lv_iload hx hb dXG_difference_57 (lv_at hl 0 rfl) ?_
          refine ji_iconst hx hb dXG_difference_59 ?_
          refine jrVi (rest := []) ⟨hx, hb, hml, hown, hts⟩ (c_XB_endOf l dC dI cA ba bt bp bl bh bq br bd bg bf fp fl fh z1 k 1 (by first | assumption | omega) (by first | assumption | omega) (by first | assumption | omega) (by first | assumption | omega) (by first | assumption | omega) (by first | assumption | omega)) (cwV 3 hts (jG_V tw_437 tw_438 tw_439 tw_5 tw_440) rfl rfl rfl (by decide +kernel) (by rw [hR]; exact ⟨Nat.le_of_ble_eq_true rfl, Nat.le_of_ble_eq_true rfl⟩)) hK hP hN [1, 2, 3, 4] rfl 1 0 rfl rfl rfl rfl hl.1 rfl (Nat.le_of_ble_eq_true rfl) dXG_difference_60 (by rw [hR]; exact ⟨Nat.le_of_ble_eq_true rfl, Nat.le_of_ble_eq_true rfl⟩) ?_
          have f5 := f_XB_endOf_b bg bf fp fl fh z1 k 1 (by first | assumption | omega) (by first | assumption | omega) (by first | assumption | omega) (by first | assumption | omega) (by first | assumption | omega) (by first | assumption | omega)
          refine lv_aload_n hx hb dXG_difference_63 rfl (lv_at hl 2 rfl) ?_
          refine va_get (D := (dC, dI)) (ci := 4) (v := .ref ba) (C := RXG) (T := TXG) (N := 7) hx hb hts (fun w h => jmem (inXG w h)) hown hK hP 0 rfl rfl 5 (by decide) (hts _ (jmem tw_106)) (fun _ h9 => h9) rfl dXG_difference_64 ?_
          refine lv_iload_n hx hb dXG_difference_67 rfl (lv_at hl 4 rfl) ?_
          refine lv_iload hx hb dXG_difference_68 (lv_at hl 0 rfl) ?_
          refine ji_iconst hx hb dXG_difference_70 ?_
          refine jrVi (rest := [.int (jI (f_XB_endOf bg bf fp fl fh z1 k 1))]) ⟨hx, hb, hml, hown, hts⟩ (c_XB_endOf l dC dI cA ba bt bp bl bh bq br bd bg bf fp fl fh z2 k 1 (by first | assumption | omega) (by first | assumption | omega) (by first | assumption | omega) (by first | assumption | omega) (by first | assumption | omega) (by first | assumption | omega)) (cwV 3 hts (jG_V tw_437 tw_438 tw_439 tw_5 tw_440) rfl rfl rfl (by decide +kernel) (by rw [hR]; exact ⟨Nat.le_of_ble_eq_true rfl, Nat.le_of_ble_eq_true rfl⟩)) hK hP hN [1, 2, 3, 4] rfl 1 0 rfl rfl rfl rfl hl.1 rfl (Nat.le_of_ble_eq_true rfl) dXG_difference_71 (by rw [hR]; exact ⟨Nat.le_of_ble_eq_true rfl, Nat.le_of_ble_eq_true rfl⟩) ?_
          have f6 := f_XB_endOf_b bg bf fp fl fh z2 k 1 (by first | assumption | omega) (by first | assumption | omega) (by first | assumption | omega) (by first | assumption | omega) (by first | assumption | omega) (by first | assumption | omega)
          refine ji_icmp_eq (tgt := 88) hx hb dXG_difference_74 (by decide) (by omega) (by omega) (fun c74_ => ?_) (fun c74_ => ?_)
          · refine ji_iinc (k := 0) (lv' := [(5, .int (jI (k + 1))), (4, .int (jI v)), (0, .ref ga), (1, .int (jI z1)), (2, .int (jI z2)), (3, .int (jI z3))]) hx hb dXG_difference_88 hl rfl (by decide) rfl (fun ls hl => ?_)
            refine lv_goto (tgt := 20) hx hb dXG_difference_91 (by decide) ?_
            exact ih20 v (k + 1) (by omega) (Eq.trans (by rw [f_XG_difference_L20_s]; rw [if_pos c24_, if_pos c49_, if_pos c74_]; try rfl) hF) (by first | assumption | omega) (by first | assumption | omega) ls (lv_sub hl [0, 1, 2, 3, 4, 5] rfl)
          · refine lv_iload hx hb dXG_difference_77 (lv_at hl 1 rfl) ?_
            refine ji_if_ne (tgt := 85) hx hb dXG_difference_79 (by decide) (by omega) (fun c79_7 => ?_) (fun c79_7 => ?_)
            · refine ji_iinc (k := 1) (lv' := [(4, .int (jI (v + (-1)))), (5, .int (jI k)), (0, .ref ga), (1, .int (jI z1)), (2, .int (jI z2)), (3, .int (jI z3))]) hx hb dXG_difference_85 hl rfl (by decide) rfl (fun ls hl => ?_)
              refine ji_iinc (k := 1) (lv' := [(5, .int (jI (k + 1))), (4, .int (jI (v + (-1)))), (0, .ref ga), (1, .int (jI z1)), (2, .int (jI z2)), (3, .int (jI z3))]) hx hb dXG_difference_88 hl rfl (by decide) rfl (fun ls hl => ?_)
              refine lv_goto (tgt := 20) hx hb dXG_difference_91 (by decide) ?_
              exact ih20 (v + (-1)) (k + 1) (by omega) (Eq.trans (by rw [f_XG_difference_L20_s]; rw [if_pos c24_, if_pos c49_, if_neg c74_, if_neg c79_7]; try rfl) hF) (by first | assumption | omega) (by first | assumption | omega) ls (lv_sub hl [0, 1, 2, 3, 4, 5] rfl)
            · refine lv_iload hx hb dXG_difference_82 (lv_at hl 0 rfl) ?_
              have hz9 : (0, k) = f_XG_difference bg bf fp fl fh z1 z2 z3 := Eq.trans (by rw [f_XG_difference_L20_s]; rw [if_pos c24_, if_pos c49_, if_neg c74_, if_pos c79_7]; try rfl) hF
              subst hQ
              refine yW (fun _ h => yQ_of h) ?_
              exact W.iret (v := jI k) hx hb hr (fun t ht hW => Or.inl ⟨(congrArg Prod.fst hz9).symm, _, rfl, congrArg jI (congrArg Prod.snd hz9), ht⟩) (fun _ h => nomatch h) dXG_difference_84
  exact loop20 (Int.toNat (8 - 0) + 1) z3 0 (by omega) (Eq.trans (by rw [f_XG_difference_s]; rw [if_pos c2_, if_pos c7_, if_pos c11_]; try rfl) rfl) (by first | assumption | omega) (by first | assumption | omega) ls (lv_sub hl [0, 1, 2, 3, 4, 5] rfl)
noncomputable def g_XG_fits_L7 (bg : Int) (bf : Int) (fp : Int → Int) (fl : Int → Int) (fh : Int → Int) (fq : Int → Int) (fd : Int → Int) (fs : Int → Int) (z1 : Int) : Nat → Int → Int × Int
  | 0, _ => (0, 0)
  | n9 + 1, k =>
    if k < 8 then
      if (fs k) < (f_XB_endOf bg bf fp fl fh z1 k 0) then
        (0, k)
      else
        if (f_XB_endOf bg bf fp fl fh z1 k 1) < (fs k) then
          (0, k)
        else
          g_XG_fits_L7 bg bf fp fl fh fq fd fs z1 n9 (k + 1)
    else
      if (f_XB_firstKindAbove bg bf fp fq fd z1 fs) = (-1) then
        (0, -1)
      else
        (0, 8 + (f_XB_firstKindAbove bg bf fp fq fd z1 fs))
noncomputable def f_XG_fits_L7 : Int → Int → (Int → Int) → (Int → Int) → (Int → Int) → (Int → Int) → (Int → Int) → (Int → Int) → Int → Nat → Int → Int × Int := jopq g_XG_fits_L7
theorem f_XG_fits_L7_q : f_XG_fits_L7 = g_XG_fits_L7 := jopq_eq _
theorem f_XG_fits_L7_s (bg : Int) (bf : Int) (fp : Int → Int) (fl : Int → Int) (fh : Int → Int) (fq : Int → Int) (fd : Int → Int) (fs : Int → Int) (z1 : Int) (n9 : Nat) (k : Int) : f_XG_fits_L7 bg bf fp fl fh fq fd fs z1 (n9 + 1) k = (
    if k < 8 then
      if (fs k) < (f_XB_endOf bg bf fp fl fh z1 k 0) then
        (0, k)
      else
        if (f_XB_endOf bg bf fp fl fh z1 k 1) < (fs k) then
          (0, k)
        else
          f_XG_fits_L7 bg bf fp fl fh fq fd fs z1 n9 (k + 1)
    else
      if (f_XB_firstKindAbove bg bf fp fq fd z1 fs) = (-1) then
        (0, -1)
      else
        (0, 8 + (f_XB_firstKindAbove bg bf fp fq fd z1 fs))
  : Int × Int) := by rw [f_XG_fits_L7_q]; rfl
theorem f_XG_fits_L7_z (bg : Int) (bf : Int) (fp : Int → Int) (fl : Int → Int) (fh : Int → Int) (fq : Int → Int) (fd : Int → Int) (fs : Int → Int) (z1 : Int) (k : Int) : f_XG_fits_L7 bg bf fp fl fh fq fd fs z1 0 k = (0, 0) := by rw [f_XG_fits_L7_q]; rfl
noncomputable def g_XG_fits (bg : Int) (bf : Int) (fp : Int → Int) (fl : Int → Int) (fh : Int → Int) (fq : Int → Int) (fd : Int → Int) (fs : Int → Int) (z1 : Int) : Int × Int :=
  if (f_XG_needGrade bg bf z1) = 0 then
    f_XG_fits_L7 bg bf fp fl fh fq fd fs z1 (Int.toNat (8 - 0) + 1) 0
  else
    (f_XG_needGrade bg bf z1, 0)
noncomputable def f_XG_fits : Int → Int → (Int → Int) → (Int → Int) → (Int → Int) → (Int → Int) → (Int → Int) → (Int → Int) → Int → Int × Int := jopq g_XG_fits
theorem f_XG_fits_q : f_XG_fits = g_XG_fits := jopq_eq _
theorem f_XG_fits_s (bg : Int) (bf : Int) (fp : Int → Int) (fl : Int → Int) (fh : Int → Int) (fq : Int → Int) (fd : Int → Int) (fs : Int → Int) (z1 : Int) : f_XG_fits bg bf fp fl fh fq fd fs z1 = (
    if (f_XG_needGrade bg bf z1) = 0 then
      f_XG_fits_L7 bg bf fp fl fh fq fd fs z1 (Int.toNat (8 - 0) + 1) 0
    else
      (f_XG_needGrade bg bf z1, 0)
  : Int × Int) := by rw [f_XG_fits_q]; rfl
set_option maxHeartbeats 4000000 in
set_option maxRecDepth 100000 in
theorem c_XG_fits (l : Launch) (hst : l.stackTraces = false) (dC : Nat → ClassId) (dI : Nat → Nat → Nat) (cA : ClassId) (ga : Nat) (ta : Nat) (rda : Nat) (pa : Nat) (sa : Nat) (ea : Nat) (ba : Nat) (da : Nat) (bt : Nat) (bp : Nat) (bl : Nat) (bh : Nat) (bq : Nat) (br : Nat) (bd : Nat) (bg : Int) (bf : Int) (fp : Int → Int) (fl : Int → Int) (fh : Int → Int) (fq : Int → Int) (fd : Int → Int) (fs : Int → Int) (z1 : Int) (hbp : ∀ i, 0 ≤ fp i ∧ fp i ≤ 30) (hbl : ∀ i, 0 ≤ fl i ∧ fl i ≤ 100000) (hbh : ∀ i, -1 ≤ fh i ∧ fh i ≤ 100000) (hbq : ∀ i, -1 ≤ fq i ∧ fq i ≤ 999999) (hbd : ∀ i, 0 ≤ fd i ∧ fd i ≤ 20) (hbg : 0 ≤ bg ∧ bg < 2147483648) (hbf : 0 ≤ bf ∧ bf < 2147483648) (hfs0 : ∀ i, -1 ≤ fs i ∧ fs i ≤ 100000) (hi_z1 : i32 z1) : YMet l yXG_fits (Cond.code yXG_fits cXG_fits 4 (some .int) :: TBL) ({ frames := 7, cells := 1, slots := 6, locals := 103 } : Room) (va_Pc [.ref ga, .int (jI z1)] (jBx (dC, dI) [(cA, .int)] [(ga, .inr (4, [.ref ta, .ref rda, .ref pa, .ref sa, .ref ea, .ref ba, .ref da])), (ba, .inr (0, [.ref bt, .ref bp, .ref bl, .ref bh, .ref bq, .ref br, .ref bd, .int (jI bg), .int (jI bf)])), (bp, .inl (cA, 31, .inl (jA fp))), (bl, .inl (cA, 248, .inl (jA fl))), (bh, .inl (cA, 248, .inl (jA fh))), (bq, .inl (cA, 124, .inl (jA fq))), (bd, .inl (cA, 32, .inl (jA fd))), (sa, .inl (cA, 8, .inl (jA fs)))])) (xQ (f_XG_fits bg bf fp fl fh fq fd fs z1).1 (vp_Si (fun r => r = jI (f_XG_fits bg bf fp fl fh fq fd fs z1).2))) 0 0 1 6 (fun _ => False) := by
  refine YMet.ofW (cc := cXG_fits) (maxL := 4) (ret := some .int) (by decide) rfl ?_
  intro p e s m args below meth c s₁ R Q hR hQ B hml htab hv
  obtain ⟨rfl, ⟨hP, hK, hN⟩, hX⟩ := hv
  have hx := B.exec
  have hb := B.bytes
  have hr := B.returns
  have hts := atoms_spec (ws := Cond.code yXG_fits cXG_fits 4 (some .int) :: TBL) B.pre
  have hown : s.vm.findClass RXG = some m.cls := findClass_of_methodNamed B.named
  have hlocks := B.notSynchronized
  have hP : va_P (dC, dI) vwCl [(ga, .inr (4, [.ref ta, .ref rda, .ref pa, .ref sa, .ref ea, .ref ba, .ref da])), (ba, .inr (0, [.ref bt, .ref bp, .ref bl, .ref bh, .ref bq, .ref br, .ref bd, .int (jI bg), .int (jI bf)])), (bp, .inl (cA, 31, .inl (jA fp))), (bl, .inl (cA, 248, .inl (jA fl))), (bh, .inl (cA, 248, .inl (jA fh))), (bq, .inl (cA, 124, .inl (jA fq))), (bd, .inl (cA, 32, .inl (jA fd))), (sa, .inl (cA, 8, .inl (jA fs)))] s.heap := hP
  have hl := lv_entry ([.ref ga, .int (jI z1)]) (n := 4) (Nat.le_of_ble_eq_true rfl)
  rw [lg_entry_eq]
  generalize (lg_sl ([.ref ga, .int (jI z1)]) ++ List.replicate (4 - (lg_sl ([.ref ga, .int (jI z1)])).length) Slot.unset).toArray = ls at hl ⊢
  have hl : lv_has ls 4 [(0, .ref ga), (1, .int (jI z1))] := hl
  refine lv_aload_n hx hb dXG_fits_0 rfl (lv_at hl 0 rfl) ?_
  refine lv_iload_n hx hb dXG_fits_1 rfl (lv_at hl 1 rfl) ?_
  rw [hQ]
  refine yrV (rest := []) ⟨hx, hb, hml, hown, hts⟩ (c_XG_needGrade l hst dC dI cA ga ta rda pa sa ea da ba bt bp bl bh bq br bd bg bf z1 (by first | assumption | omega) (by first | assumption | omega)) (cwV 1 hts (jG_V tw_412 tw_414 ts_9 tw_1 tw_415) rfl rfl rfl (by decide +kernel) (by rw [hR]; exact ⟨Nat.le_of_ble_eq_true rfl, Nat.le_of_ble_eq_true rfl⟩)) hK hP hN hX [0, 1] rfl 0 4 rfl rfl rfl rfl hl.1 rfl (Nat.le_of_ble_eq_true rfl) dXG_fits_2 (by rw [hR]; exact ⟨Nat.le_of_ble_eq_true rfl, Nat.le_of_ble_eq_true rfl⟩) htab hlocks rfl (fun c2_ => ?_) (fun c2_ o9 t9 h9 => (by
    have hz9 : (f_XG_needGrade bg bf z1, 0) = f_XG_fits bg bf fp fl fh fq fd fs z1 := Eq.trans (by rw [f_XG_fits_s]; rw [if_neg c2_]; try rfl) rfl
    exact Or.inr ⟨by rw [← hz9]; exact c2_, by rw [← hz9]; exact h9⟩)) (Nat.le_of_ble_eq_true rfl) (Nat.le_of_ble_eq_true rfl)
  rw [← hQ]
  have f := f_XG_needGrade_b bg bf z1 (by first | assumption | omega) (by first | assumption | omega)
  refine ji_iconst hx hb dXG_fits_5 ?_
  refine lv_istore_n (lv' := [(2, .int (jI 0)), (0, .ref ga), (1, .int (jI z1))]) hx hb dXG_fits_6 rfl hl (by decide) rfl (fun ls hl => ?_)
  have loop7 : ∀ (n9 : Nat) (k : Int) , 8 - k < (n9 : Int) → f_XG_fits_L7 bg bf fp fl fh fq fd fs z1 n9 k = f_XG_fits bg bf fp fl fh fq fd fs z1 → (0 ≤ k ∧ k ≤ 8) → ∀ ls : Array Slot, lv_has ls 4 [(2, .int (jI k)), (0, .ref ga), (1, .int (jI z1))] → W p l e R s m ([.ref ga, .int (jI z1)] : List Value).toArray below meth c s.heap [] 0 0 Q (F0 m 7 ls []) := by
    intro n9
    induction n9 with
    | zero =>
      intro k hm hF hk
      exact absurd hm (by omega)
    | succ n9 ih7 =>
      intro k hm hF hk ls hl
      refine lv_iload_n hx hb dXG_fits_7 rfl (lv_at hl 0 rfl) ?_
      refine ji_bipush hx hb dXG_fits_8 (by decide) ?_
      refine ji_icmp_ge (tgt := 56) hx hb dXG_fits_10 (by decide) (by omega) (by omega) (fun c10_ => ?_) (fun c10_ => ?_)
      · refine lv_aload_n hx hb dXG_fits_56 rfl (lv_at hl 1 rfl) ?_
        refine va_get (D := (dC, dI)) (ci := 4) (v := .ref ba) (C := RXG) (T := TXG) (N := 7) hx hb hts (fun w h => jmem (inXG w h)) hown hK hP 0 rfl rfl 5 (by decide) (hts _ (jmem tw_106)) (fun _ h9 => h9) rfl dXG_fits_57 ?_
        refine lv_iload_n hx hb dXG_fits_60 rfl (lv_at hl 2 rfl) ?_
        refine lv_aload_n hx hb dXG_fits_61 rfl (lv_at hl 1 rfl) ?_
        refine va_get (D := (dC, dI)) (ci := 4) (v := .ref sa) (C := RXG) (T := TXG) (N := 7) hx hb hts (fun w h => jmem (inXG w h)) hown hK hP 0 rfl rfl 3 (by decide) (hts _ (jmem tw_104)) (fun _ h9 => h9) rfl dXG_fits_62 ?_
        refine jrVi (rest := []) ⟨hx, hb, hml, hown, hts⟩ (c_XB_firstKindAbove l dC dI cA ba bt bp bl bh bq br bd bg bf fp fq fd z1 sa fs (by first | assumption | omega) (by first | assumption | omega) (by first | assumption | omega) (by first | assumption | omega) (by first | assumption | omega) (by first | assumption | omega)) (cwV 2 hts (jG_V tw_525 tw_526 tw_527 tw_5 tw_528) rfl rfl rfl (by decide +kernel) (by rw [hR]; exact ⟨Nat.le_of_ble_eq_true rfl, Nat.le_of_ble_eq_true rfl⟩)) hK hP hN [1, 2, 5, 6, 7] rfl 1 0 rfl rfl rfl rfl hl.1 rfl (Nat.le_of_ble_eq_true rfl) dXG_fits_65 (by rw [hR]; exact ⟨Nat.le_of_ble_eq_true rfl, Nat.le_of_ble_eq_true rfl⟩) ?_
        have f1 := f_XB_firstKindAbove_b bg bf fp fq fd z1 fs (by first | assumption | omega) (by first | assumption | omega) (by first | assumption | omega) (by first | assumption | omega) (by first | assumption | omega) (by first | assumption | omega)
        refine lv_istore_n (lv' := [(2, .int (jI (f_XB_firstKindAbove bg bf fp fq fd z1 fs))), (0, .ref ga), (1, .int (jI z1))]) hx hb dXG_fits_68 rfl hl (by decide) rfl (fun ls hl => ?_)
        refine lv_iload_n hx hb dXG_fits_69 rfl (lv_at hl 0 rfl) ?_
        refine ji_iconst hx hb dXG_fits_70 ?_
        refine ji_icmp_ne (tgt := 78) hx hb dXG_fits_71 (by decide) (by omega) (by omega) (fun c71_ => ?_) (fun c71_ => ?_)
        · refine ji_bipush hx hb dXG_fits_78 (by decide) ?_
          refine lv_iload_n hx hb dXG_fits_80 rfl (lv_at hl 0 rfl) ?_
          refine ji_iadd hx hb dXG_fits_81 ?_
          have hz9 : (0, 8 + (f_XB_firstKindAbove bg bf fp fq fd z1 fs)) = f_XG_fits bg bf fp fl fh fq fd fs z1 := Eq.trans (by rw [f_XG_fits_L7_s]; rw [if_neg (Int.not_lt.mpr c10_), if_neg c71_]; try rfl) hF
          subst hQ
          refine yW (fun _ h => yQ_of h) ?_
          exact W.iret (v := jI (8 + (f_XB_firstKindAbove bg bf fp fq fd z1 fs))) hx hb hr (fun t ht hW => Or.inl ⟨(congrArg Prod.fst hz9).symm, _, rfl, congrArg jI (congrArg Prod.snd hz9), ht⟩) (fun _ h => nomatch h) dXG_fits_82
        · refine ji_iconst hx hb dXG_fits_74 ?_
          refine lv_goto (tgt := 82) hx hb dXG_fits_75 (by decide) ?_
          have hz9 : (0, -1) = f_XG_fits bg bf fp fl fh fq fd fs z1 := Eq.trans (by rw [f_XG_fits_L7_s]; rw [if_neg (Int.not_lt.mpr c10_), if_pos c71_]; try rfl) hF
          subst hQ
          refine yW (fun _ h => yQ_of h) ?_
          exact W.iret (v := jI (-1)) hx hb hr (fun t ht hW => Or.inl ⟨(congrArg Prod.fst hz9).symm, _, rfl, congrArg jI (congrArg Prod.snd hz9), ht⟩) (fun _ h => nomatch h) dXG_fits_82
      · refine lv_aload_n hx hb dXG_fits_13 rfl (lv_at hl 1 rfl) ?_
        refine va_get (D := (dC, dI)) (ci := 4) (v := .ref sa) (C := RXG) (T := TXG) (N := 7) hx hb hts (fun w h => jmem (inXG w h)) hown hK hP 0 rfl rfl 3 (by decide) (hts _ (jmem tw_104)) (fun _ h9 => h9) rfl dXG_fits_14 ?_
        refine lv_iload_n hx hb dXG_fits_17 rfl (lv_at hl 0 rfl) ?_
        refine ji_iald hx hb hK hP 7 0 rfl rfl ⟨by omega, by omega⟩ (by decide) dXG_fits_18 ?_
        have rb := hfs0 k
        refine lv_istore_n (lv' := [(3, .int (jI (fs k))), (2, .int (jI k)), (0, .ref ga), (1, .int (jI z1))]) hx hb dXG_fits_19 rfl hl (by decide) rfl (fun ls hl => ?_)
        refine lv_iload_n hx hb dXG_fits_20 rfl (lv_at hl 0 rfl) ?_
        refine lv_aload_n hx hb dXG_fits_21 rfl (lv_at hl 2 rfl) ?_
        refine va_get (D := (dC, dI)) (ci := 4) (v := .ref ba) (C := RXG) (T := TXG) (N := 7) hx hb hts (fun w h => jmem (inXG w h)) hown hK hP 0 rfl rfl 5 (by decide) (hts _ (jmem tw_106)) (fun _ h9 => h9) rfl dXG_fits_22 ?_
        refine lv_iload_n hx hb dXG_fits_25 rfl (lv_at hl 3 rfl) ?_
        refine lv_iload_n hx hb dXG_fits_26 rfl (lv_at hl 1 rfl) ?_
        refine ji_iconst hx hb dXG_fits_27 ?_
        refine jrVi (rest := [.int (jI (fs k))]) ⟨hx, hb, hml, hown, hts⟩ (c_XB_endOf l dC dI cA ba bt bp bl bh bq br bd bg bf fp fl fh z1 k 0 (by first | assumption | omega) (by first | assumption | omega) (by first | assumption | omega) (by first | assumption | omega) (by first | assumption | omega) (by first | assumption | omega)) (cwV 3 hts (jG_V tw_437 tw_438 tw_439 tw_5 tw_440) rfl rfl rfl (by decide +kernel) (by rw [hR]; exact ⟨Nat.le_of_ble_eq_true rfl, Nat.le_of_ble_eq_true rfl⟩)) hK hP hN [1, 2, 3, 4] rfl 1 0 rfl rfl rfl rfl hl.1 rfl (Nat.le_of_ble_eq_true rfl) dXG_fits_28 (by rw [hR]; exact ⟨Nat.le_of_ble_eq_true rfl, Nat.le_of_ble_eq_true rfl⟩) ?_
        have f2 := f_XB_endOf_b bg bf fp fl fh z1 k 0 (by first | assumption | omega) (by first | assumption | omega) (by first | assumption | omega) (by first | assumption | omega) (by first | assumption | omega) (by first | assumption | omega)
        refine ji_icmp_lt (tgt := 48) hx hb dXG_fits_31 (by decide) (by omega) (by omega) (fun c31_ => ?_) (fun c31_ => ?_)
        · refine lv_iload_n hx hb dXG_fits_48 rfl (lv_at hl 1 rfl) ?_
          have hz9 : (0, k) = f_XG_fits bg bf fp fl fh fq fd fs z1 := Eq.trans (by rw [f_XG_fits_L7_s]; rw [if_pos c10_, if_pos c31_]; try rfl) hF
          subst hQ
          refine yW (fun _ h => yQ_of h) ?_
          exact W.iret (v := jI k) hx hb hr (fun t ht hW => Or.inl ⟨(congrArg Prod.fst hz9).symm, _, rfl, congrArg jI (congrArg Prod.snd hz9), ht⟩) (fun _ h => nomatch h) dXG_fits_49
        · refine lv_iload_n hx hb dXG_fits_34 rfl (lv_at hl 0 rfl) ?_
          refine lv_aload_n hx hb dXG_fits_35 rfl (lv_at hl 2 rfl) ?_
          refine va_get (D := (dC, dI)) (ci := 4) (v := .ref ba) (C := RXG) (T := TXG) (N := 7) hx hb hts (fun w h => jmem (inXG w h)) hown hK hP 0 rfl rfl 5 (by decide) (hts _ (jmem tw_106)) (fun _ h9 => h9) rfl dXG_fits_36 ?_
          refine lv_iload_n hx hb dXG_fits_39 rfl (lv_at hl 3 rfl) ?_
          refine lv_iload_n hx hb dXG_fits_40 rfl (lv_at hl 1 rfl) ?_
          refine ji_iconst hx hb dXG_fits_41 ?_
          refine jrVi (rest := [.int (jI (fs k))]) ⟨hx, hb, hml, hown, hts⟩ (c_XB_endOf l dC dI cA ba bt bp bl bh bq br bd bg bf fp fl fh z1 k 1 (by first | assumption | omega) (by first | assumption | omega) (by first | assumption | omega) (by first | assumption | omega) (by first | assumption | omega) (by first | assumption | omega)) (cwV 3 hts (jG_V tw_437 tw_438 tw_439 tw_5 tw_440) rfl rfl rfl (by decide +kernel) (by rw [hR]; exact ⟨Nat.le_of_ble_eq_true rfl, Nat.le_of_ble_eq_true rfl⟩)) hK hP hN [1, 2, 3, 4] rfl 1 0 rfl rfl rfl rfl hl.1 rfl (Nat.le_of_ble_eq_true rfl) dXG_fits_42 (by rw [hR]; exact ⟨Nat.le_of_ble_eq_true rfl, Nat.le_of_ble_eq_true rfl⟩) ?_
          have f3 := f_XB_endOf_b bg bf fp fl fh z1 k 1 (by first | assumption | omega) (by first | assumption | omega) (by first | assumption | omega) (by first | assumption | omega) (by first | assumption | omega) (by first | assumption | omega)
          refine ji_icmp_le (tgt := 50) hx hb dXG_fits_45 (by decide) (by omega) (by omega) (fun c45_ => ?_) (fun c45_ => ?_)
          · refine ji_iinc (k := 1) (lv' := [(2, .int (jI (k + 1))), (3, .int (jI (fs k))), (0, .ref ga), (1, .int (jI z1))]) hx hb dXG_fits_50 hl rfl (by decide) rfl (fun ls hl => ?_)
            refine lv_goto (tgt := 7) hx hb dXG_fits_53 (by decide) ?_
            exact ih7 (k + 1) (by omega) (Eq.trans (by rw [f_XG_fits_L7_s]; rw [if_pos c10_, if_neg (Int.not_lt.mpr c31_), if_neg (Int.not_lt.mpr c45_)]; try rfl) hF) (by first | assumption | omega) ls (lv_sub hl [0, 2, 3] rfl)
          · refine lv_iload_n hx hb dXG_fits_48 rfl (lv_at hl 1 rfl) ?_
            have hz9 : (0, k) = f_XG_fits bg bf fp fl fh fq fd fs z1 := Eq.trans (by rw [f_XG_fits_L7_s]; rw [if_pos c10_, if_neg (Int.not_lt.mpr c31_), if_pos c45_]; try rfl) hF
            subst hQ
            refine yW (fun _ h => yQ_of h) ?_
            exact W.iret (v := jI k) hx hb hr (fun t ht hW => Or.inl ⟨(congrArg Prod.fst hz9).symm, _, rfl, congrArg jI (congrArg Prod.snd hz9), ht⟩) (fun _ h => nomatch h) dXG_fits_49
  exact loop7 (Int.toNat (8 - 0) + 1) 0 (by omega) (Eq.trans (by rw [f_XG_fits_s]; rw [if_pos c2_]; try rfl) rfl) (by first | assumption | omega) ls (lv_sub hl [0, 1, 2] rfl)
