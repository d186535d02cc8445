noncomputable def g_XG_needBelow (zi : Int) (zb : Int) : Int :=
  if zi < 0 then
    1
  else
    if zi < zb then
      0
    else
      1
noncomputable def f_XG_needBelow : Int → Int → Int := jopq g_XG_needBelow
theorem f_XG_needBelow_q : f_XG_needBelow = g_XG_needBelow := jopq_eq _
theorem f_XG_needBelow_s (zi : Int) (zb : Int) : f_XG_needBelow zi zb = (
    if zi < 0 then
      1
    else
      if zi < zb then
        0
      else
        1
  : Int) := by rw [f_XG_needBelow_q]; rfl
theorem f_XG_needBelow_b (zi : Int) (zb : Int) (h1 : i32 zi) (h2 : i32 zb) : (f_XG_needBelow zi zb) = 0 → 0 ≤ zi ∧ zi < zb := by rw [f_XG_needBelow_s]; (repeat' split) <;> omega
set_option maxHeartbeats 4000000 in
set_option maxRecDepth 100000 in
theorem c_XG_needBelow (l : Launch) (hst : l.stackTraces = false) (dC : Nat → ClassId) (dI : Nat → Nat → Nat) (cA : ClassId) (zi : Int) (zb : Int) (h1 : i32 zi) (h2 : i32 zb) : YMet l yXG_needBelow (Cond.code yXG_needBelow cXG_needBelow 2 none :: TBL) ({ frames := 6, cells := 1, slots := 6, locals := 82 } : Room) (va_Pc [.int (jI zi), .int (jI zb)] (jBx (dC, dI) [(cA, .int)] [])) (xQ (f_XG_needBelow zi zb) vSv) 0 0 1 6 (fun _ => False) := by
  refine YMet.ofW (cc := cXG_needBelow) (maxL := 2) (ret := none) (by decide) rfl ?_
  intro p e s m args below meth c s₁ R Q hR hQ B hml htab hv
  obtain ⟨rfl, ⟨hP, hK, hN⟩, hX⟩ := hv
  have hx := B.exec
  have hb := B.bytes
  have hr := B.returns
  have hts := atoms_spec (ws := Cond.code yXG_needBelow cXG_needBelow 2 none :: TBL) B.pre
  have hown : s.vm.findClass RXG = some m.cls := findClass_of_methodNamed B.named
  have hlocks := B.notSynchronized
  have hP : va_P (dC, dI) vwCl [] s.heap := hP
  have hl := lv_entry ([.int (jI zi), .int (jI zb)]) (n := 2) (Nat.le_of_ble_eq_true rfl)
  rw [lg_entry_eq]
  generalize (lg_sl ([.int (jI zi), .int (jI zb)]) ++ List.replicate (2 - (lg_sl ([.int (jI zi), .int (jI zb)])).length) Slot.unset).toArray = ls at hl ⊢
  have hl : lv_has ls 2 [(0, .int (jI zi)), (1, .int (jI zb))] := hl
  refine lv_iload_n hx hb dXG_needBelow_0 rfl (lv_at hl 0 rfl) ?_
  refine ji_if_lt (tgt := 9) hx hb dXG_needBelow_1 (by decide) (by omega) (fun c1_ => ?_) (fun c1_ => ?_)
  · have hz9 : 1 = f_XG_needBelow zi zb := Eq.trans (by rw [f_XG_needBelow_s]; rw [if_pos c1_]; try rfl) rfl
    obtain ⟨sa9, hsa9⟩ := hX.s168
    obtain ⟨cX9, kX9, hfX9, -⟩ := Cond.instantiable_spec (hts _ (jmem ti_XIO))
    subst hQ
    exact y_throwNew hx hb htab hlocks hst hown (by decide +kernel) (by decide +kernel) (hX.atoms_XIO hts) (hts _ (jmem tc_XIO)) (hts _ (jmem ti_XIO)) (hts _ (jmem tn_XIO)) hsa9 hfX9 (Nat.le_refl _) (hl.1.trans hml.symm) dXG_needBelow_9 dXG_needBelow_12 dXG_needBelow_13 dXG_needBelow_15 dXG_needBelow_18 (by rw [hR]; exact Nat.le_of_ble_eq_true rfl) (by rw [hR]; exact Nat.le_of_ble_eq_true rfl) (by rw [hR]; exact Nat.le_of_ble_eq_true rfl) (by rw [hR]; exact Nat.le_of_ble_eq_true rfl) (fun t x ce h1 h2 h3 h4 h5 h6 h7 => Or.inr ⟨by rw [← hz9]; decide, by rw [← hz9]; exact ⟨x, ce, rfl, h1, h2, h3, h4, h5, h6⟩⟩) (Nat.le_of_ble_eq_true rfl) (Nat.le_of_ble_eq_true rfl)
  · refine lv_iload_n hx hb dXG_needBelow_4 rfl (lv_at hl 0 rfl) ?_
    refine lv_iload_n hx hb dXG_needBelow_5 rfl (lv_at hl 1 rfl) ?_
    refine ji_icmp_lt (tgt := 19) hx hb dXG_needBelow_6 (by decide) (by omega) (by omega) (fun c6_ => ?_) (fun c6_ => ?_)
    · have hz9 : 0 = f_XG_needBelow zi zb := Eq.trans (by rw [f_XG_needBelow_s]; rw [if_neg (Int.not_lt.mpr c1_), if_pos c6_]; try rfl) rfl
      subst hQ
      refine yW (fun _ h => yQ_of h) ?_
      exact W.vret hx hb hr (fun t ht hW => Or.inl ⟨hz9.symm, rfl, ht⟩) (fun _ h => nomatch h) dXG_needBelow_19
    · have hz9 : 1 = f_XG_needBelow zi zb := Eq.trans (by rw [f_XG_needBelow_s]; rw [if_neg (Int.not_lt.mpr c1_), if_neg (Int.not_lt.mpr c6_)]; try rfl) rfl
      obtain ⟨sa9, hsa9⟩ := hX.s168
      obtain ⟨cX9, kX9, hfX9, -⟩ := Cond.instantiable_spec (hts _ (jmem ti_XIO))
      subst hQ
      exact y_throwNew hx hb htab hlocks hst hown (by decide +kernel) (by decide +kernel) (hX.atoms_XIO hts) (hts _ (jmem tc_XIO)) (hts _ (jmem ti_XIO)) (hts _ (jmem tn_XIO)) hsa9 hfX9 (Nat.le_refl _) (hl.1.trans hml.symm) dXG_needBelow_9 dXG_needBelow_12 dXG_needBelow_13 dXG_needBelow_15 dXG_needBelow_18 (by rw [hR]; exact Nat.le_of_ble_eq_true rfl) (by rw [hR]; exact Nat.le_of_ble_eq_true rfl) (by rw [hR]; exact Nat.le_of_ble_eq_true rfl) (by rw [hR]; exact Nat.le_of_ble_eq_true rfl) (fun t x ce h1 h2 h3 h4 h5 h6 h7 => Or.inr ⟨by rw [← hz9]; decide, by rw [← hz9]; exact ⟨x, ce, rfl, h1, h2, h3, h4, h5, h6⟩⟩) (Nat.le_of_ble_eq_true rfl) (Nat.le_of_ble_eq_true rfl)
noncomputable def g_XG_needPlace (zi : Int) : Int :=
  if zi < 0 then
    1
  else
    0
noncomputable def f_XG_needPlace : Int → Int := jopq g_XG_needPlace
theorem f_XG_needPlace_q : f_XG_needPlace = g_XG_needPlace := jopq_eq _
theorem f_XG_needPlace_s (zi : Int) : f_XG_needPlace zi = (
    if zi < 0 then
      1
    else
      0
  : Int) := by rw [f_XG_needPlace_q]; rfl
theorem f_XG_needPlace_b (zi : Int) (h1 : i32 zi) : (f_XG_needPlace zi) = 0 → 0 ≤ zi := by rw [f_XG_needPlace_s]; (repeat' split) <;> omega
set_option maxHeartbeats 4000000 in
set_option maxRecDepth 100000 in
theorem c_XG_needPlace (l : Launch) (hst : l.stackTraces = false) (dC : Nat → ClassId) (dI : Nat → Nat → Nat) (cA : ClassId) (zi : Int) (h1 : i32 zi) : YMet l yXG_needPlace (Cond.code yXG_needPlace cXG_needPlace 1 none :: TBL) ({ frames := 6, cells := 1, slots := 6, locals := 82 } : Room) (va_Pc [.int (jI zi)] (jBx (dC, dI) [(cA, .int)] [])) (xQ (f_XG_needPlace zi) vSv) 0 0 1 6 (fun _ => False) := by
  refine YMet.ofW (cc := cXG_needPlace) (maxL := 1) (ret := none) (by decide) rfl ?_
  intro p e s m args below meth c s₁ R Q hR hQ B hml htab hv
  obtain ⟨rfl, ⟨hP, hK, hN⟩, hX⟩ := hv
  have hx := B.exec
  have hb := B.bytes
  have hr := B.returns
  have hts := atoms_spec (ws := Cond.code yXG_needPlace cXG_needPlace 1 none :: TBL) B.pre
  have hown : s.vm.findClass RXG = some m.cls := findClass_of_methodNamed B.named
  have hlocks := B.notSynchronized
  have hP : va_P (dC, dI) vwCl [] s.heap := hP
  have hl := lv_entry ([.int (jI zi)]) (n := 1) (Nat.le_of_ble_eq_true rfl)
  rw [lg_entry_eq]
  generalize (lg_sl ([.int (jI zi)]) ++ List.replicate (1 - (lg_sl ([.int (jI zi)])).length) Slot.unset).toArray = ls at hl ⊢
  have hl : lv_has ls 1 [(0, .int (jI zi))] := hl
  refine lv_iload_n hx hb dXG_needPlace_0 rfl (lv_at hl 0 rfl) ?_
  refine ji_if_ge (tgt := 14) hx hb dXG_needPlace_1 (by decide) (by omega) (fun c1_ => ?_) (fun c1_ => ?_)
  · have hz9 : 0 = f_XG_needPlace zi := Eq.trans (by rw [f_XG_needPlace_s]; rw [if_neg (Int.not_lt.mpr c1_)]; try rfl) rfl
    subst hQ
    refine yW (fun _ h => yQ_of h) ?_
    exact W.vret hx hb hr (fun t ht hW => Or.inl ⟨hz9.symm, rfl, ht⟩) (fun _ h => nomatch h) dXG_needPlace_14
  · have hz9 : 1 = f_XG_needPlace zi := Eq.trans (by rw [f_XG_needPlace_s]; rw [if_pos c1_]; try rfl) rfl
    obtain ⟨sa9, hsa9⟩ := hX.s170
    obtain ⟨cX9, kX9, hfX9, -⟩ := Cond.instantiable_spec (hts _ (jmem ti_XIO))
    subst hQ
    exact y_throwNew hx hb htab hlocks hst hown (by decide +kernel) (by decide +kernel) (hX.atoms_XIO hts) (hts _ (jmem tc_XIO)) (hts _ (jmem ti_XIO)) (hts _ (jmem tn_XIO)) hsa9 hfX9 (Nat.le_refl _) (hl.1.trans hml.symm) dXG_needPlace_4 dXG_needPlace_7 dXG_needPlace_8 dXG_needPlace_10 dXG_needPlace_13 (by rw [hR]; exact Nat.le_of_ble_eq_true rfl) (by rw [hR]; exact Nat.le_of_ble_eq_true rfl) (by rw [hR]; exact Nat.le_of_ble_eq_true rfl) (by rw [hR]; exact Nat.le_of_ble_eq_true rfl) (fun t x ce h1 h2 h3 h4 h5 h6 h7 => Or.inr ⟨by rw [← hz9]; decide, by rw [← hz9]; exact ⟨x, ce, rfl, h1, h2, h3, h4, h5, h6⟩⟩) (Nat.le_of_ble_eq_true rfl) (Nat.le_of_ble_eq_true rfl)
noncomputable def g_XG_needGrade (bg : Int) (bf : Int) (zi : Int) : Int :=
  if (f_XB_knows bg bf zi) = 0 then
    1
  else
    0
noncomputable def f_XG_needGrade : Int → Int → Int → Int := jopq g_XG_needGrade
theorem f_XG_needGrade_q : f_XG_needGrade = g_XG_needGrade := jopq_eq _
theorem f_XG_needGrade_s (bg : Int) (bf : Int) (zi : Int) : f_XG_needGrade bg bf zi = (
    if (f_XB_knows bg bf zi) = 0 then
      1
    else
      0
  : Int) := by rw [f_XG_needGrade_q]; rfl
theorem f_XG_needGrade_b (bg : Int) (bf : Int) (zi : Int) (hbg : 0 ≤ bg ∧ bg < 2147483648) (h1 : i32 zi) : (f_XG_needGrade bg bf zi) = 0 → 1 ≤ zi ∧ zi ≤ 30 := by have := f_XB_knows_c bg bf zi hbg h1; rw [f_XG_needGrade_s]; (repeat' split) <;> omega
set_option maxHeartbeats 4000000 in
set_option maxRecDepth 100000 in
theorem c_XG_needGrade (l : Launch) (hst : l.stackTraces = false) (dC : Nat → ClassId) (dI : Nat → Nat → Nat) (cA : ClassId) (ga : Nat) (ta : Nat) (rda : Nat) (pa : Nat) (sa : Nat) (ea : Nat) (da : Nat) (ba : Nat) (bt : Nat) (bp : Nat) (bl : Nat) (bh : Nat) (bq : Nat) (br : Nat) (bd : Nat) (bg : Int) (bf : Int) (zi : Int) (hbg : 0 ≤ bg ∧ bg < 2147483648) (h1 : i32 zi) : YMet l yXG_needGrade (Cond.code yXG_needGrade cXG_needGrade 2 none :: TBL) ({ frames := 6, cells := 1, slots := 6, locals := 82 } : Room) (va_Pc [.ref ga, .int (jI zi)] (jBx (dC, dI) [(cA, .int)] [(ga, .inr (4, [.ref ta, .ref rda, .ref pa, .ref sa, .ref ea, .ref ba, .ref da])), (ba, .inr (0, [.ref bt, .ref bp, .ref bl, .ref bh, .ref bq, .ref br, .ref bd, .int (jI bg), .int (jI bf)]))])) (xQ (f_XG_needGrade bg bf zi) vSv) 0 0 1 6 (fun _ => False) := by
  refine YMet.ofW (cc := cXG_needGrade) (maxL := 2) (ret := none) (by decide) rfl ?_
  intro p e s m args below meth c s₁ R Q hR hQ B hml htab hv
  obtain ⟨rfl, ⟨hP, hK, hN⟩, hX⟩ := hv
  have hx := B.exec
  have hb := B.bytes
  have hr := B.returns
  have hts := atoms_spec (ws := Cond.code yXG_needGrade cXG_needGrade 2 none :: TBL) B.pre
  have hown : s.vm.findClass RXG = some m.cls := findClass_of_methodNamed B.named
  have hlocks := B.notSynchronized
  have hP : va_P (dC, dI) vwCl [(ga, .inr (4, [.ref ta, .ref rda, .ref pa, .ref sa, .ref ea, .ref ba, .ref da])), (ba, .inr (0, [.ref bt, .ref bp, .ref bl, .ref bh, .ref bq, .ref br, .ref bd, .int (jI bg), .int (jI bf)]))] s.heap := hP
  have hl := lv_entry ([.ref ga, .int (jI zi)]) (n := 2) (Nat.le_of_ble_eq_true rfl)
  rw [lg_entry_eq]
  generalize (lg_sl ([.ref ga, .int (jI zi)]) ++ List.replicate (2 - (lg_sl ([.ref ga, .int (jI zi)])).length) Slot.unset).toArray = ls at hl ⊢
  have hl : lv_has ls 2 [(0, .ref ga), (1, .int (jI zi))] := hl
  refine lv_aload_n hx hb dXG_needGrade_0 rfl (lv_at hl 0 rfl) ?_
  refine va_get (D := (dC, dI)) (ci := 4) (v := .ref ba) (C := RXG) (T := TXG) (N := 7) hx hb hts (fun w h => jmem (inXG w h)) hown hK hP 0 rfl rfl 5 (by decide) (hts _ (jmem tw_106)) (fun _ h9 => h9) rfl dXG_needGrade_1 ?_
  refine lv_iload_n hx hb dXG_needGrade_4 rfl (lv_at hl 1 rfl) ?_
  refine jrVi (rest := []) ⟨hx, hb, hml, hown, hts⟩ (c_XB_knows l dC dI cA ba bt bp bl bh bq br bd bg bf zi (by first | assumption | omega) (by first | assumption | omega)) (cwV 1 hts (jG_V tw_416 tw_216 tw_217 tw_5 tw_218) rfl rfl rfl (by decide +kernel) (by rw [hR]; exact ⟨Nat.le_of_ble_eq_true rfl, Nat.le_of_ble_eq_true rfl⟩)) hK hP hN [1] rfl 1 0 rfl rfl rfl rfl hl.1 rfl (Nat.le_of_ble_eq_true rfl) dXG_needGrade_5 (by rw [hR]; exact ⟨Nat.le_of_ble_eq_true rfl, Nat.le_of_ble_eq_true rfl⟩) ?_
  have f := f_XB_knows_b bg bf zi (by first | assumption | omega) (by first | assumption | omega)
  have f1 := f_XB_knows_c bg bf zi (by first | assumption | omega) (by first | assumption | omega)
  refine ji_if_ne (tgt := 21) hx hb dXG_needGrade_8 (by decide) (by omega) (fun c8_ => ?_) (fun c8_ => ?_)
  · have hz9 : 0 = f_XG_needGrade bg bf zi := Eq.trans (by rw [f_XG_needGrade_s]; rw [if_neg c8_]; try rfl) rfl
    subst hQ
    refine yW (fun _ h => yQ_of h) ?_
    exact W.vret hx hb hr (fun t ht hW => Or.inl ⟨hz9.symm, rfl, ht⟩) (fun _ h => nomatch h) dXG_needGrade_21
  · have hz9 : 1 = f_XG_needGrade bg bf zi := Eq.trans (by rw [f_XG_needGrade_s]; rw [if_pos c8_]; try rfl) rfl
    obtain ⟨sa9, hsa9⟩ := hX.s165
    obtain ⟨cX9, kX9, hfX9, -⟩ := Cond.instantiable_spec (hts _ (jmem ti_XIO))
    subst hQ
    exact y_throwNew hx hb htab hlocks hst hown (by decide +kernel) (by decide +kernel) (hX.atoms_XIO hts) (hts _ (jmem tc_XIO)) (hts _ (jmem ti_XIO)) (hts _ (jmem tn_XIO)) hsa9 hfX9 (Nat.le_refl _) (hl.1.trans hml.symm) dXG_needGrade_11 dXG_needGrade_14 dXG_needGrade_15 dXG_needGrade_17 dXG_needGrade_20 (by rw [hR]; exact Nat.le_of_ble_eq_true rfl) (by rw [hR]; exact Nat.le_of_ble_eq_true rfl) (by rw [hR]; exact Nat.le_of_ble_eq_true rfl) (by rw [hR]; exact Nat.le_of_ble_eq_true rfl) (fun t x ce h1 h2 h3 h4 h5 h6 h7 => Or.inr ⟨by rw [← hz9]; decide, by rw [← hz9]; exact ⟨x, ce, rfl, h1, h2, h3, h4, h5, h6⟩⟩) (Nat.le_of_ble_eq_true rfl) (Nat.le_of_ble_eq_true rfl)
noncomputable def g_XG_needFormula (bg : Int) (bf : Int) (zk : Int) : Int :=
  if (f_XB_hasFormula bg bf zk) = 0 then
    2
  else
    0
noncomputable def f_XG_needFormula : Int → Int → Int → Int := jopq g_XG_needFormula
theorem f_XG_needFormula_q : f_XG_needFormula = g_XG_needFormula := jopq_eq _
theorem f_XG_needFormula_s (bg : Int) (bf : Int) (zk : Int) : f_XG_needFormula bg bf zk = (
    if (f_XB_hasFormula bg bf zk) = 0 then
      2
    else
      0
  : Int) := by rw [f_XG_needFormula_q]; rfl
set_option maxHeartbeats 4000000 in
set_option maxRecDepth 100000 in
theorem c_XG_needFormula (l : Launch) (hst : l.stackTraces = false) (dC : Nat → ClassId) (dI : Nat → Nat → Nat) (cA : ClassId) (ga : Nat) (ta : Nat) (rda : Nat) (pa : Nat) (sa : Nat) (ea : Nat) (da : Nat) (ba : Nat) (bt : Nat) (bp : Nat) (bl : Nat) (bh : Nat) (bq : Nat) (br : Nat) (bd : Nat) (bg : Int) (bf : Int) (zk : Int) (hbf : 0 ≤ bf ∧ bf < 2147483648) (hzk : 0 ≤ zk ∧ zk < 4) : YMet l yXG_needFormula (Cond.code yXG_needFormula cXG_needFormula 2 none :: TBL) ({ frames := 6, cells := 1, slots := 6, locals := 82 } : Room) (va_Pc [.ref ga, .int (jI zk)] (jBx (dC, dI) [(cA, .int)] [(ga, .inr (4, [.ref ta, .ref rda, .ref pa, .ref sa, .ref ea, .ref ba, .ref da])), (ba, .inr (0, [.ref bt, .ref bp, .ref bl, .ref bh, .ref bq, .ref br, .ref bd, .int (jI bg), .int (jI bf)]))])) (xQ (f_XG_needFormula bg bf zk) vSv) 0 0 1 6 (fun _ => False) := by
  refine YMet.ofW (cc := cXG_needFormula) (maxL := 2) (ret := none) (by decide) rfl ?_
  intro p e s m args below meth c s₁ R Q hR hQ B hml htab hv
  obtain ⟨rfl, ⟨hP, hK, hN⟩, hX⟩ := hv
  have hx := B.exec
  have hb := B.bytes
  have hr := B.returns
  have hts := atoms_spec (ws := Cond.code yXG_needFormula cXG_needFormula 2 none :: TBL) B.pre
  have hown : s.vm.findClass RXG = some m.cls := findClass_of_methodNamed B.named
  have hlocks := B.notSynchronized
  have hP : va_P (dC, dI) vwCl [(ga, .inr (4, [.ref ta, .ref rda, .ref pa, .ref sa, .ref ea, .ref ba, .ref da])), (ba, .inr (0, [.ref bt, .ref bp, .ref bl, .ref bh, .ref bq, .ref br, .ref bd, .int (jI bg), .int (jI bf)]))] s.heap := hP
  have hl := lv_entry ([.ref ga, .int (jI zk)]) (n := 2) (Nat.le_of_ble_eq_true rfl)
  rw [lg_entry_eq]
  generalize (lg_sl ([.ref ga, .int (jI zk)]) ++ List.replicate (2 - (lg_sl ([.ref ga, .int (jI zk)])).length) Slot.unset).toArray = ls at hl ⊢
  have hl : lv_has ls 2 [(0, .ref ga), (1, .int (jI zk))] := hl
  refine lv_aload_n hx hb dXG_needFormula_0 rfl (lv_at hl 0 rfl) ?_
  refine va_get (D := (dC, dI)) (ci := 4) (v := .ref ba) (C := RXG) (T := TXG) (N := 7) hx hb hts (fun w h => jmem (inXG w h)) hown hK hP 0 rfl rfl 5 (by decide) (hts _ (jmem tw_106)) (fun _ h9 => h9) rfl dXG_needFormula_1 ?_
  refine lv_iload_n hx hb dXG_needFormula_4 rfl (lv_at hl 1 rfl) ?_
  refine jrVi (rest := []) ⟨hx, hb, hml, hown, hts⟩ (c_XB_hasFormula l dC dI cA ba bt bp bl bh bq br bd bg bf zk (by first | assumption | omega) (by first | assumption | omega)) (cwV 1 hts (jG_V tw_467 tw_168 tw_169 tw_5 tw_170) rfl rfl rfl (by decide +kernel) (by rw [hR]; exact ⟨Nat.le_of_ble_eq_true rfl, Nat.le_of_ble_eq_true rfl⟩)) hK hP hN [1] rfl 1 0 rfl rfl rfl rfl hl.1 rfl (Nat.le_of_ble_eq_true rfl) dXG_needFormula_5 (by rw [hR]; exact ⟨Nat.le_of_ble_eq_true rfl, Nat.le_of_ble_eq_true rfl⟩) ?_
  have f := f_XB_hasFormula_b bg bf zk (by first | assumption | omega) (by first | assumption | omega)
  refine ji_if_ne (tgt := 21) hx hb dXG_needFormula_8 (by decide) (by omega) (fun c8_ => ?_) (fun c8_ => ?_)
  · have hz9 : 0 = f_XG_needFormula bg bf zk := Eq.trans (by rw [f_XG_needFormula_s]; rw [if_neg c8_]; try rfl) rfl
    subst hQ
    refine yW (fun _ h => yQ_of h) ?_
    exact W.vret hx hb hr (fun t ht hW => Or.inl ⟨hz9.symm, rfl, ht⟩) (fun _ h => nomatch h) dXG_needFormula_21
  · have hz9 : 2 = f_XG_needFormula bg bf zk := Eq.trans (by rw [f_XG_needFormula_s]; rw [if_pos c8_]; try rfl) rfl
    obtain ⟨sa9, hsa9⟩ := hX.s177
    obtain ⟨cX9, kX9, hfX9, -⟩ := Cond.instantiable_spec (hts _ (jmem ti_XIS))
    subst hQ
    exact y_throwNew hx hb htab hlocks hst hown (by decide +kernel) (by decide +kernel) (hX.atoms_XIS hts) (hts _ (jmem tc_XIS)) (hts _ (jmem ti_XIS)) (hts _ (jmem tn_XIS)) hsa9 hfX9 (Nat.le_refl _) (hl.1.trans hml.symm) dXG_needFormula_11 dXG_needFormula_14 dXG_needFormula_15 dXG_needFormula_17 dXG_needFormula_20 (by rw [hR]; exact Nat.le_of_ble_eq_true rfl) (by rw [hR]; exact Nat.le_of_ble_eq_true rfl) (by rw [hR]; exact Nat.le_of_ble_eq_true rfl) (by rw [hR]; exact Nat.le_of_ble_eq_true rfl) (fun t x ce h1 h2 h3 h4 h5 h6 h7 => Or.inr ⟨by rw [← hz9]; decide, by rw [← hz9]; exact ⟨x, ce, rfl, h1, h2, h3, h4, h5, h6⟩⟩) (Nat.le_of_ble_eq_true rfl) (Nat.le_of_ble_eq_true rfl)
