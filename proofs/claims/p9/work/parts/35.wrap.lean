noncomputable def g_XL_sign (tn : Int) (tp : Int) (tw : Int) (tf : Int → Int) (zy : Int) (z1 : Int) (fo : Int → Int) : Int × (Int → Int) × Int × (Int → Int) :=
  if (f_XG_sign tn tp tw tf zy z1).1 = 0 then
    (0, jset fo 0 (jw ((f_XG_sign tn tp tw tf zy z1).2.1)), (f_XG_sign tn tp tw tf zy z1).2.2.1, (f_XG_sign tn tp tw tf zy z1).2.2.2)
  else
    if (f_XG_sign tn tp tw tf zy z1).1 = 3 then
      (1, fo, tn, tf)
    else
      (2, fo, tn, tf)
noncomputable def f_XL_sign : Int → Int → Int → (Int → Int) → Int → Int → (Int → Int) → Int × (Int → Int) × Int × (Int → Int) := jopq g_XL_sign
theorem f_XL_sign_q : f_XL_sign = g_XL_sign := jopq_eq _
theorem f_XL_sign_s (tn : Int) (tp : Int) (tw : Int) (tf : Int → Int) (zy : Int) (z1 : Int) (fo : Int → Int) : f_XL_sign tn tp tw tf zy z1 fo = (
    if (f_XG_sign tn tp tw tf zy z1).1 = 0 then
      (0, jset fo 0 (jw ((f_XG_sign tn tp tw tf zy z1).2.1)), (f_XG_sign tn tp tw tf zy z1).2.2.1, (f_XG_sign tn tp tw tf zy z1).2.2.2)
    else
      if (f_XG_sign tn tp tw tf zy z1).1 = 3 then
        (1, fo, tn, tf)
      else
        (2, fo, tn, tf)
  : Int × (Int → Int) × Int × (Int → Int)) := by rw [f_XL_sign_q]; rfl
set_option maxHeartbeats 4000000 in
set_option maxRecDepth 100000 in
theorem c_XL_sign (l : Launch) (hst : l.stackTraces = false) (dC : Nat → ClassId) (dI : Nat → Nat → Nat) (cA cL : ClassId) (sz : Nat) (ga : Nat) (ta : Nat) (rda : Nat) (pa : Nat) (sa : Nat) (ea : Nat) (ba : Nat) (da : Nat) (ts : Nat) (tn : Int) (tp : Int) (tw : Int) (tf : Int → Int) (zy : Int) (z1 : Int) (oa : Nat) (fo : Int → Int) (hn : 0 ≤ tn ∧ tn ≤ 400) (hf : ∀ i, 0 ≤ tf i ∧ tf i < 256) (hi_z1 : i32 z1) : YMet l yXL_sign (Cond.codeWith yXL_sign cXL_sign 6 (some .int) [(0, 11, 14, 13), (0, 11, 18, 15)] :: TBL) ({ frames := 7, cells := 1, slots := 6, locals := 105 } : Room) (va_Pc [.ref ga, .long (jL zy), .int (jI z1), .ref oa] (jBc (dC, dI) [(cA, .int), (cL, .long)] [(ga, .inr (4, [.ref ta, .ref rda, .ref pa, .ref sa, .ref ea, .ref ba, .ref da])), (ta, .inr (3, [.ref ts, .int (jI tn), .int (jI tp), .int (jI tw)])), (ts, .inl (cA, 400, .inl (jA tf))), (oa, .inl (cL, 1, .inr (.inl (jAL fo))))] sz)) (va_Qi (fun (r : Int32) (u : Int × (Int → Int) × Int × (Int → Int)) => r = jI u.1 ∧ u = f_XL_sign tn tp tw tf zy z1 fo ∧ (0 ≤ u.2.2.1 ∧ u.2.2.1 ≤ 400) ∧ (∀ i, 0 ≤ u.2.2.2 i ∧ u.2.2.2 i < 256)) (fun u t => jE (dC, dI) [(cA, .int), (cL, .long)] [(ga, .inr (4, [.ref ta, .ref rda, .ref pa, .ref sa, .ref ea, .ref ba, .ref da])), (ta, .inr (3, [.ref ts, .int (jI tn), .int (jI tp), .int (jI tw)])), (ts, .inl (cA, 400, .inl (jA tf))), (oa, .inl (cL, 1, .inr (.inl (jAL fo))))] sz [(ga, .inr (4, [.ref ta, .ref rda, .ref pa, .ref sa, .ref ea, .ref ba, .ref da])), (ta, .inr (3, [.ref ts, .int (jI u.2.2.1), .int (jI tp), .int (jI tw)])), (ts, .inl (cA, 400, .inl (jA u.2.2.2))), (oa, .inl (cL, 1, .inr (.inl (jAL u.2.1))))] t) (va_A [(ga, .inr (4, [.ref ta, .ref rda, .ref pa, .ref sa, .ref ea, .ref ba, .ref da])), (ta, .inr (3, [.ref ts, .int (jI tn), .int (jI tp), .int (jI tw)])), (ts, .inl (cA, 400, .inl (jA tf))), (oa, .inl (cL, 1, .inr (.inl (jAL fo))))] sz)) 1 6 1 6 (va_A [(ga, .inr (4, [.ref ta, .ref rda, .ref pa, .ref sa, .ref ea, .ref ba, .ref da])), (ta, .inr (3, [.ref ts, .int (jI tn), .int (jI tp), .int (jI tw)])), (ts, .inl (cA, 400, .inl (jA tf))), (oa, .inl (cL, 1, .inr (.inl (jAL fo))))] sz) := by
  refine YMet.ofWH (cc := cXL_sign) (maxL := 6) (ret := some .int) (hh := [(0, 11, 14, 13), (0, 11, 18, 15)]) (by decide) rfl ?_
  intro p e s m args below meth c s₁ R Q hR hQ B hml htab hv
  obtain ⟨rfl, ⟨hsz, hP, hK, hD0, hN⟩, hX, hC⟩ := hv
  have hx := B.exec
  have hb := B.bytes
  have hr := B.returns
  have hts := atoms_spec (ws := Cond.codeWith yXL_sign cXL_sign 6 (some .int) [(0, 11, 14, 13), (0, 11, 18, 15)] :: TBL) B.pre
  have hown : s.vm.findClass RXL = some m.cls := findClass_of_methodNamed B.named
  have hlocks := B.notSynchronized
  subst hsz
  obtain ⟨A, hAe⟩ : ∃ A, A = va_A [(ga, .inr (4, [.ref ta, .ref rda, .ref pa, .ref sa, .ref ea, .ref ba, .ref da])), (ta, .inr (3, [.ref ts, .int (jI tn), .int (jI tp), .int (jI tw)])), (ts, .inl (cA, 400, .inl (jA tf))), (oa, .inl (cL, 1, .inr (.inl (jAL fo))))] s.heap.size := ⟨_, rfl⟩
  have hD : va_D A [(ga, .inr (4, [.ref ta, .ref rda, .ref pa, .ref sa, .ref ea, .ref ba, .ref da])), (ta, .inr (3, [.ref ts, .int (jI tn), .int (jI tp), .int (jI tw)])), (ts, .inl (cA, 400, .inl (jA tf))), (oa, .inl (cL, 1, .inr (.inl (jAL fo))))] := by rw [hAe]; exact hD0.self
  have hA : ∀ q : Nat, s.heap.size ≤ q → A q := fun q h => by rw [hAe]; exact Or.inr h
  have hS : va_S A s.heap s.heap [] := va_S.rf
  have hP : va_P (dC, dI) vwCl [(ga, .inr (4, [.ref ta, .ref rda, .ref pa, .ref sa, .ref ea, .ref ba, .ref da])), (ta, .inr (3, [.ref ts, .int (jI tn), .int (jI tp), .int (jI tw)])), (ts, .inl (cA, 400, .inl (jA tf))), (oa, .inl (cL, 1, .inr (.inl (jAL fo))))] s.heap := hP
  have hl := lv_entry ([.ref ga, .long (jL zy), .int (jI z1), .ref oa]) (n := 6) (Nat.le_of_ble_eq_true rfl)
  rw [lg_entry_eq]
  generalize (lg_sl ([.ref ga, .long (jL zy), .int (jI z1), .ref oa]) ++ List.replicate (6 - (lg_sl ([.ref ga, .long (jL zy), .int (jI z1), .ref oa])).length) Slot.unset).toArray = ls at hl ⊢
  have hl : lv_has ls 6 [(0, .ref ga), (1, .long (jL zy)), (3, .int (jI z1)), (4, .ref oa)] := hl
  refine lv_aload hx hb dXL_sign_0 (lv_at hl 3 rfl) ?_
  refine ji_iconst hx hb dXL_sign_2 ?_
  refine lv_aload_n hx hb dXL_sign_3 rfl (lv_at hl 0 rfl) ?_
  refine lv_lload_n hx hb dXL_sign_4 rfl (lv_at hl 1 rfl) ?_
  refine lv_iload_n hx hb dXL_sign_5 rfl (lv_at hl 2 rfl) ?_
  refine ztWi (A := A) (wr := [(oa, .inl (cL, 1, .inr (.inl (jAL fo))))]) (rest := [.int (jI 0), .ref oa]) ⟨hx, hb, hml, hown, hts⟩ (c_XG_sign l hst dC dI cA _ ga ta rda pa sa ea ba da ts tn tp tw tf zy z1 hn hf hi_z1) (cwV 2 hts (jG_V tw_306 tw_307 tw_308 tw_1 tw_309) rfl rfl rfl (by decide +kernel) (by rw [hR]; exact ⟨Nat.le_of_ble_eq_true rfl, Nat.le_of_ble_eq_true rfl⟩)) (va_K.sub hK [0] rfl) hP hD hA hN hX [0, 1, 2] [3] rfl rfl (by decide) (by decide) (by decide) 0 4 rfl rfl rfl rfl hl.1 rfl (Nat.le_of_ble_eq_true rfl) dXL_sign_6 (by rw [hR]; exact ⟨Nat.le_of_ble_eq_true rfl, Nat.le_of_ble_eq_true rfl⟩) (fun hz r9 u9 H locs hp9 hP hD hS => ?_) (fun hz x ce H1 L hP hS hce hcl hvm => ?_)
  · obtain ⟨er, hu, f0, f1⟩ := hp9
    subst er
    subst hu
    have hP : va_P (dC, dI) vwCl [(oa, .inl (cL, 1, .inr (.inl (jAL fo)))), (ga, .inr (4, [.ref ta, .ref rda, .ref pa, .ref sa, .ref ea, .ref ba, .ref da])), (ta, .inr (3, [.ref ts, .int (jI ((f_XG_sign tn tp tw tf zy z1).2.2.1)), .int (jI tp), .int (jI tw)])), (ts, .inl (cA, 400, .inl (jA ((f_XG_sign tn tp tw tf zy z1).2.2.2))))] H := hP
    have hD : va_D A [(oa, .inl (cL, 1, .inr (.inl (jAL fo)))), (ga, .inr (4, [.ref ta, .ref rda, .ref pa, .ref sa, .ref ea, .ref ba, .ref da])), (ta, .inr (3, [.ref ts, .int (jI ((f_XG_sign tn tp tw tf zy z1).2.2.1)), .int (jI tp), .int (jI tw)])), (ts, .inl (cA, 400, .inl (jA ((f_XG_sign tn tp tw tf zy z1).2.2.2))))] := hD
    refine ji_re (y := jw ((f_XG_sign tn tp tw tf zy z1).2.1)) (jI_jw _).symm ?_
    refine ji_i2l hx hb dXL_sign_9 (jw_i _) ?_
    refine ji_last hx hb hK hP hD hS 0 1 rfl rfl ⟨by decide, by decide⟩ (by decide) dXL_sign_10 (fun H locs hP hD hS => ?_)
    have hP : va_P (dC, dI) vwCl [(oa, .inl (cL, 1, .inr (.inl (jAL (jset fo 0 (jw ((f_XG_sign tn tp tw tf zy z1).2.1))))))), (ga, .inr (4, [.ref ta, .ref rda, .ref pa, .ref sa, .ref ea, .ref ba, .ref da])), (ta, .inr (3, [.ref ts, .int (jI ((f_XG_sign tn tp tw tf zy z1).2.2.1)), .int (jI tp), .int (jI tw)])), (ts, .inl (cA, 400, .inl (jA ((f_XG_sign tn tp tw tf zy z1).2.2.2))))] H := hP
    have hD : va_D A [(oa, .inl (cL, 1, .inr (.inl (jAL (jset fo 0 (jw ((f_XG_sign tn tp tw tf zy z1).2.1))))))), (ga, .inr (4, [.ref ta, .ref rda, .ref pa, .ref sa, .ref ea, .ref ba, .ref da])), (ta, .inr (3, [.ref ts, .int (jI ((f_XG_sign tn tp tw tf zy z1).2.2.1)), .int (jI tp), .int (jI tw)])), (ts, .inl (cA, 400, .inl (jA ((f_XG_sign tn tp tw tf zy z1).2.2.2))))] := hD
    refine lv_goto (tgt := 22) hx hb dXL_sign_11 (by decide) ?_
    refine ji_iconst hx hb dXL_sign_22 ?_
    refine W.widen (k := 1) (n := 6) (Nat.le_of_ble_eq_true rfl) (Nat.le_of_ble_eq_true rfl) ?_
    have hP9 := hP.sub (ws' := [(ga, .inr (4, [.ref ta, .ref rda, .ref pa, .ref sa, .ref ea, .ref ba, .ref da])), (ta, .inr (3, [.ref ts, .int (jI ((f_XG_sign tn tp tw tf zy z1).2.2.1)), .int (jI tp), .int (jI tw)])), (ts, .inl (cA, 400, .inl (jA ((f_XG_sign tn tp tw tf zy z1).2.2.2)))), (oa, .inl (cL, 1, .inr (.inl (jAL (jset fo 0 (jw ((f_XG_sign tn tp tw tf zy z1).2.1)))))))]) [1, 2, 3, 0] rfl
    have hD9 := hD.sub (ws' := [(ga, .inr (4, [.ref ta, .ref rda, .ref pa, .ref sa, .ref ea, .ref ba, .ref da])), (ta, .inr (3, [.ref ts, .int (jI ((f_XG_sign tn tp tw tf zy z1).2.2.1)), .int (jI tp), .int (jI tw)])), (ts, .inl (cA, 400, .inl (jA ((f_XG_sign tn tp tw tf zy z1).2.2.2)))), (oa, .inl (cL, 1, .inr (.inl (jAL (jset fo 0 (jw ((f_XG_sign tn tp tw tf zy z1).2.1)))))))]) [1, 2, 3, 0] (by decide) rfl
    subst hAe
    subst hQ
    refine yW (fun _ h => yQ_of h) ?_
    exact W.iret (v := jI 0) hx hb hr (fun t ht hW => ⟨⟨_, (0, jset fo 0 (jw ((f_XG_sign tn tp tw tf zy z1).2.1)), (f_XG_sign tn tp tw tf zy z1).2.2.1, (f_XG_sign tn tp tw tf zy z1).2.2.2), rfl, ⟨rfl, by rw [f_XL_sign_s, if_pos hz], by first | assumption | omega, by first | assumption | omega⟩, ⟨by rw [ht]; exact hP9, va_K.moved hW.alike hK, hD9⟩⟩, hS.F ht⟩) hS.2.2 dXL_sign_23
  · rcases f_XG_sign_e tn tp tw tf zy z1 with h9 | h9 | h9
    · exact absurd h9 hz
    · rw [h9, xCls_3] at hcl
      refine zOn1 htab hown ⟨by decide, by decide⟩ (by decide) (hts _ (jmem tw_304)) hX.c3 hce hcl hvm ?_
      refine lv_astore (lv' := [(5, .ref x), (0, .ref ga), (1, .long (jL zy)), (3, .int (jI z1)), (4, .ref oa)]) hx hb dXL_sign_14 hl (by decide) rfl (fun ls hl => ?_)
      refine ji_iconst hx hb dXL_sign_16 ?_
      refine W.widen (k := 1) (n := 6) (Nat.le_of_ble_eq_true rfl) (Nat.le_of_ble_eq_true rfl) ?_
      have hP9 := hP.sub (ws' := [(ga, .inr (4, [.ref ta, .ref rda, .ref pa, .ref sa, .ref ea, .ref ba, .ref da])), (ta, .inr (3, [.ref ts, .int (jI tn), .int (jI tp), .int (jI tw)])), (ts, .inl (cA, 400, .inl (jA tf))), (oa, .inl (cL, 1, .inr (.inl (jAL fo))))]) [0, 1, 2, 3] rfl
      have hD9 := hD.sub (ws' := [(ga, .inr (4, [.ref ta, .ref rda, .ref pa, .ref sa, .ref ea, .ref ba, .ref da])), (ta, .inr (3, [.ref ts, .int (jI tn), .int (jI tp), .int (jI tw)])), (ts, .inl (cA, 400, .inl (jA tf))), (oa, .inl (cL, 1, .inr (.inl (jAL fo))))]) [0, 1, 2, 3] (by decide) rfl
      subst hAe
      subst hQ
      refine yW (fun _ h => yQ_of h) ?_
      exact W.iret (v := jI 1) hx hb hr (fun t ht hW => ⟨⟨_, (1, fo, tn, tf), rfl, ⟨rfl, by rw [f_XL_sign_s, if_neg hz, if_pos h9], by first | assumption | omega, by first | assumption | omega⟩, ⟨by rw [ht]; exact hP9, va_K.moved hW.alike hK, hD9⟩⟩, hS.F ht⟩) hS.2.2 dXL_sign_17
    · rw [h9, xCls_4] at hcl
      refine zOn2 htab hown ⟨by decide, by decide⟩ (by decide) ⟨by decide, by decide⟩ (by decide) (hts _ (jmem tw_304)) hC.1 (hts _ (jmem tw_305)) hX.c4 hce hcl hvm ?_
      refine lv_astore (lv' := [(5, .ref x), (0, .ref ga), (1, .long (jL zy)), (3, .int (jI z1)), (4, .ref oa)]) hx hb dXL_sign_18 hl (by decide) rfl (fun ls hl => ?_)
      refine ji_iconst hx hb dXL_sign_20 ?_
      refine W.widen (k := 1) (n := 6) (Nat.le_of_ble_eq_true rfl) (Nat.le_of_ble_eq_true rfl) ?_
      have hP9 := hP.sub (ws' := [(ga, .inr (4, [.ref ta, .ref rda, .ref pa, .ref sa, .ref ea, .ref ba, .ref da])), (ta, .inr (3, [.ref ts, .int (jI tn), .int (jI tp), .int (jI tw)])), (ts, .inl (cA, 400, .inl (jA tf))), (oa, .inl (cL, 1, .inr (.inl (jAL fo))))]) [0, 1, 2, 3] rfl
      have hD9 := hD.sub (ws' := [(ga, .inr (4, [.ref ta, .ref rda, .ref pa, .ref sa, .ref ea, .ref ba, .ref da])), (ta, .inr (3, [.ref ts, .int (jI tn), .int (jI tp), .int (jI tw)])), (ts, .inl (cA, 400, .inl (jA tf))), (oa, .inl (cL, 1, .inr (.inl (jAL fo))))]) [0, 1, 2, 3] (by decide) rfl
      subst hAe
      subst hQ
      refine yW (fun _ h => yQ_of h) ?_
      exact W.iret (v := jI 2) hx hb hr (fun t ht hW => ⟨⟨_, (2, fo, tn, tf), rfl, ⟨rfl, by rw [f_XL_sign_s, if_neg hz, if_neg (by rw [h9]; decide)], by first | assumption | omega, by first | assumption | omega⟩, ⟨by rw [ht]; exact hP9, va_K.moved hW.alike hK, hD9⟩⟩, hS.F ht⟩) hS.2.2 dXL_sign_21
noncomputable def g_XL_span (bg : Int) (bf : Int) (fp : Int → Int) (fl : Int → Int) (fh : Int → Int) (z1 : Int) (z2 : Int) (z3 : Int) (fo : Int → Int) : Int × (Int → Int) :=
  if (f_XG_span bg bf fp fl fh z1 z2 z3).1 = 0 then
    (0, jset fo 0 (jw ((f_XG_span bg bf fp fl fh z1 z2 z3).2)))
  else
    (1, fo)
noncomputable def f_XL_span : Int → Int → (Int → Int) → (Int → Int) → (Int → Int) → Int → Int → Int → (Int → Int) → Int × (Int → Int) := jopq g_XL_span
theorem f_XL_span_q : f_XL_span = g_XL_span := jopq_eq _
theorem f_XL_span_s (bg : Int) (bf : Int) (fp : Int → Int) (fl : Int → Int) (fh : Int → Int) (z1 : Int) (z2 : Int) (z3 : Int) (fo : Int → Int) : f_XL_span bg bf fp fl fh z1 z2 z3 fo = (
    if (f_XG_span bg bf fp fl fh z1 z2 z3).1 = 0 then
      (0, jset fo 0 (jw ((f_XG_span bg bf fp fl fh z1 z2 z3).2)))
    else
      (1, fo)
  : Int × (Int → Int)) := by rw [f_XL_span_q]; rfl
set_option maxHeartbeats 4000000 in
set_option maxRecDepth 100000 in
theorem c_XL_span (l : Launch) (hst : l.stackTraces = false) (dC : Nat → ClassId) (dI : Nat → Nat → Nat) (cA cL : ClassId) (sz : Nat) (ga : Nat) (ta : Nat) (rda : Nat) (pa : Nat) (sa : Nat) (ea : Nat) (ba : Nat) (da : Nat) (bt : Nat) (bp : Nat) (bl : Nat) (bh : Nat) (bq : Nat) (br : Nat) (bd : Nat) (bg : Int) (bf : Int) (fp : Int → Int) (fl : Int → Int) (fh : Int → Int) (z1 : Int) (z2 : Int) (z3 : Int) (oa : Nat) (fo : Int → Int) (hbp : ∀ i, 0 ≤ fp i ∧ fp i ≤ 30) (hbl : ∀ i, 0 ≤ fl i ∧ fl i ≤ 100000) (hbh : ∀ i, -1 ≤ fh i ∧ fh i ≤ 100000) (hbg : 0 ≤ bg ∧ bg < 2147483648) (hi_z1 : i32 z1) (hi_z2 : i32 z2) (hi_z3 : i32 z3) : YMet l yXL_span (Cond.codeWith yXL_span cXL_span 6 (some .int) [(0, 12, 15, 21)] :: TBL) ({ frames := 8, cells := 1, slots := 6, locals := 126 } : Room) (va_Pc [.ref ga, .int (jI z1), .int (jI z2), .int (jI z3), .ref oa] (jBc (dC, dI) [(cA, .int), (cL, .long)] [(ga, .inr (4, [.ref ta, .ref rda, .ref pa, .ref sa, .ref ea, .ref ba, .ref da])), (ba, .inr (0, [.ref bt, .ref bp, .ref bl, .ref bh, .ref bq, .ref br, .ref bd, .int (jI bg), .int (jI bf)])), (bp, .inl (cA, 31, .inl (jA fp))), (bl, .inl (cA, 248, .inl (jA fl))), (bh, .inl (cA, 248, .inl (jA fh))), (oa, .inl (cL, 1, .inr (.inl (jAL fo))))] sz)) (va_Qi (fun (r : Int32) (u : Int × (Int → Int)) => r = jI u.1 ∧ u = f_XL_span bg bf fp fl fh z1 z2 z3 fo) (fun u t => jE (dC, dI) [(cA, .int), (cL, .long)] [(ga, .inr (4, [.ref ta, .ref rda, .ref pa, .ref sa, .ref ea, .ref ba, .ref da])), (ba, .inr (0, [.ref bt, .ref bp, .ref bl, .ref bh, .ref bq, .ref br, .ref bd, .int (jI bg), .int (jI bf)])), (bp, .inl (cA, 31, .inl (jA fp))), (bl, .inl (cA, 248, .inl (jA fl))), (bh, .inl (cA, 248, .inl (jA fh))), (oa, .inl (cL, 1, .inr (.inl (jAL fo))))] sz [(ga, .inr (4, [.ref ta, .ref rda, .ref pa, .ref sa, .ref ea, .ref ba, .ref da])), (ba, .inr (0, [.ref bt, .ref bp, .ref bl, .ref bh, .ref bq, .ref br, .ref bd, .int (jI bg), .int (jI bf)])), (bp, .inl (cA, 31, .inl (jA fp))), (bl, .inl (cA, 248, .inl (jA fl))), (bh, .inl (cA, 248, .inl (jA fh))), (oa, .inl (cL, 1, .inr (.inl (jAL u.2))))] t) (va_A [(ga, .inr (4, [.ref ta, .ref rda, .ref pa, .ref sa, .ref ea, .ref ba, .ref da])), (ba, .inr (0, [.ref bt, .ref bp, .ref bl, .ref bh, .ref bq, .ref br, .ref bd, .int (jI bg), .int (jI bf)])), (bp, .inl (cA, 31, .inl (jA fp))), (bl, .inl (cA, 248, .inl (jA fl))), (bh, .inl (cA, 248, .inl (jA fh))), (oa, .inl (cL, 1, .inr (.inl (jAL fo))))] sz)) 1 6 1 6 (va_A [(ga, .inr (4, [.ref ta, .ref rda, .ref pa, .ref sa, .ref ea, .ref ba, .ref da])), (ba, .inr (0, [.ref bt, .ref bp, .ref bl, .ref bh, .ref bq, .ref br, .ref bd, .int (jI bg), .int (jI bf)])), (bp, .inl (cA, 31, .inl (jA fp))), (bl, .inl (cA, 248, .inl (jA fl))), (bh, .inl (cA, 248, .inl (jA fh))), (oa, .inl (cL, 1, .inr (.inl (jAL fo))))] sz) := by
  refine YMet.ofWH (cc := cXL_span) (maxL := 6) (ret := some .int) (hh := [(0, 12, 15, 21)]) (by decide) rfl ?_
  intro p e s m args below meth c s₁ R Q hR hQ B hml htab hv
  obtain ⟨rfl, ⟨hsz, hP, hK, hD0, hN⟩, hX, hC⟩ := hv
  have hx := B.exec
  have hb := B.bytes
  have hr := B.returns
  have hts := atoms_spec (ws := Cond.codeWith yXL_span cXL_span 6 (some .int) [(0, 12, 15, 21)] :: TBL) B.pre
  have hown : s.vm.findClass RXL = some m.cls := findClass_of_methodNamed B.named
  have hlocks := B.notSynchronized
  subst hsz
  obtain ⟨A, hAe⟩ : ∃ A, A = va_A [(ga, .inr (4, [.ref ta, .ref rda, .ref pa, .ref sa, .ref ea, .ref ba, .ref da])), (ba, .inr (0, [.ref bt, .ref bp, .ref bl, .ref bh, .ref bq, .ref br, .ref bd, .int (jI bg), .int (jI bf)])), (bp, .inl (cA, 31, .inl (jA fp))), (bl, .inl (cA, 248, .inl (jA fl))), (bh, .inl (cA, 248, .inl (jA fh))), (oa, .inl (cL, 1, .inr (.inl (jAL fo))))] s.heap.size := ⟨_, rfl⟩
  have hD : va_D A [(ga, .inr (4, [.ref ta, .ref rda, .ref pa, .ref sa, .ref ea, .ref ba, .ref da])), (ba, .inr (0, [.ref bt, .ref bp, .ref bl, .ref bh, .ref bq, .ref br, .ref bd, .int (jI bg), .int (jI bf)])), (bp, .inl (cA, 31, .inl (jA fp))), (bl, .inl (cA, 248, .inl (jA fl))), (bh, .inl (cA, 248, .inl (jA fh))), (oa, .inl (cL, 1, .inr (.inl (jAL fo))))] := by rw [hAe]; exact hD0.self
  have hA : ∀ q : Nat, s.heap.size ≤ q → A q := fun q h => by rw [hAe]; exact Or.inr h
  have hS : va_S A s.heap s.heap [] := va_S.rf
  have hP : va_P (dC, dI) vwCl [(ga, .inr (4, [.ref ta, .ref rda, .ref pa, .ref sa, .ref ea, .ref ba, .ref da])), (ba, .inr (0, [.ref bt, .ref bp, .ref bl, .ref bh, .ref bq, .ref br, .ref bd, .int (jI bg), .int (jI bf)])), (bp, .inl (cA, 31, .inl (jA fp))), (bl, .inl (cA, 248, .inl (jA fl))), (bh, .inl (cA, 248, .inl (jA fh))), (oa, .inl (cL, 1, .inr (.inl (jAL fo))))] s.heap := hP
  have hl := lv_entry ([.ref ga, .int (jI z1), .int (jI z2), .int (jI z3), .ref oa]) (n := 6) (Nat.le_of_ble_eq_true rfl)
  rw [lg_entry_eq]
  generalize (lg_sl ([.ref ga, .int (jI z1), .int (jI z2), .int (jI z3), .ref oa]) ++ List.replicate (6 - (lg_sl ([.ref ga, .int (jI z1), .int (jI z2), .int (jI z3), .ref oa])).length) Slot.unset).toArray = ls at hl ⊢
  have hl : lv_has ls 6 [(0, .ref ga), (1, .int (jI z1)), (2, .int (jI z2)), (3, .int (jI z3)), (4, .ref oa)] := hl
  refine lv_aload hx hb dXL_span_0 (lv_at hl 4 rfl) ?_
  refine ji_iconst hx hb dXL_span_2 ?_
  refine lv_aload_n hx hb dXL_span_3 rfl (lv_at hl 0 rfl) ?_
  refine lv_iload_n hx hb dXL_span_4 rfl (lv_at hl 1 rfl) ?_
  refine lv_iload_n hx hb dXL_span_5 rfl (lv_at hl 2 rfl) ?_
  refine lv_iload_n hx hb dXL_span_6 rfl (lv_at hl 3 rfl) ?_
  refine ztRi (A := A) (rest := [.int (jI 0), .ref oa]) ⟨hx, hb, hml, hown, hts⟩ (c_XG_span l hst dC dI cA ga ta rda pa sa ea ba da bt bp bl bh bq br bd bg bf fp fl fh z1 z2 z3 hbp hbl hbh hbg hi_z1 hi_z2 hi_z3) (cwV 3 hts (jG_V tw_408 tw_409 tw_410 tw_1 tw_411) rfl rfl rfl (by decide +kernel) (by rw [hR]; exact ⟨Nat.le_of_ble_eq_true rfl, Nat.le_of_ble_eq_true rfl⟩)) (va_K.sub hK [0] rfl) hP hN hX [0, 1, 2, 3, 4] rfl 0 4 rfl rfl rfl rfl hl.1 rfl (Nat.le_of_ble_eq_true rfl) dXL_span_7 (by rw [hR]; exact ⟨Nat.le_of_ble_eq_true rfl, Nat.le_of_ble_eq_true rfl⟩) (fun hz => ?_) (fun hz x ce H1 L hP hS hce hcl hvm => ?_)
  · refine ji_re (y := jw ((f_XG_span bg bf fp fl fh z1 z2 z3).2)) (jI_jw _).symm ?_
    refine ji_i2l hx hb dXL_span_10 (jw_i _) ?_
    refine ji_last hx hb hK hP hD hS 5 1 rfl rfl ⟨by decide, by decide⟩ (by decide) dXL_span_11 (fun H locs hP hD hS => ?_)
    have hP : va_P (dC, dI) vwCl [(ga, .inr (4, [.ref ta, .ref rda, .ref pa, .ref sa, .ref ea, .ref ba, .ref da])), (ba, .inr (0, [.ref bt, .ref bp, .ref bl, .ref bh, .ref bq, .ref br, .ref bd, .int (jI bg), .int (jI bf)])), (bp, .inl (cA, 31, .inl (jA fp))), (bl, .inl (cA, 248, .inl (jA fl))), (bh, .inl (cA, 248, .inl (jA fh))), (oa, .inl (cL, 1, .inr (.inl (jAL (jset fo 0 (jw ((f_XG_span bg bf fp fl fh z1 z2 z3).2)))))))] H := hP
    have hD : va_D A [(ga, .inr (4, [.ref ta, .ref rda, .ref pa, .ref sa, .ref ea, .ref ba, .ref da])), (ba, .inr (0, [.ref bt, .ref bp, .ref bl, .ref bh, .ref bq, .ref br, .ref bd, .int (jI bg), .int (jI bf)])), (bp, .inl (cA, 31, .inl (jA fp))), (bl, .inl (cA, 248, .inl (jA fl))), (bh, .inl (cA, 248, .inl (jA fh))), (oa, .inl (cL, 1, .inr (.inl (jAL (jset fo 0 (jw ((f_XG_span bg bf fp fl fh z1 z2 z3).2)))))))] := hD
    refine lv_goto (tgt := 19) hx hb dXL_span_12 (by decide) ?_
    refine ji_iconst hx hb dXL_span_19 ?_
    refine W.widen (k := 1) (n := 6) (Nat.le_of_ble_eq_true rfl) (Nat.le_of_ble_eq_true rfl) ?_
    have hP9 := hP.sub (ws' := [(ga, .inr (4, [.ref ta, .ref rda, .ref pa, .ref sa, .ref ea, .ref ba, .ref da])), (ba, .inr (0, [.ref bt, .ref bp, .ref bl, .ref bh, .ref bq, .ref br, .ref bd, .int (jI bg), .int (jI bf)])), (bp, .inl (cA, 31, .inl (jA fp))), (bl, .inl (cA, 248, .inl (jA fl))), (bh, .inl (cA, 248, .inl (jA fh))), (oa, .inl (cL, 1, .inr (.inl (jAL (jset fo 0 (jw ((f_XG_span bg bf fp fl fh z1 z2 z3).2)))))))]) [0, 1, 2, 3, 4, 5] rfl
    have hD9 := hD.sub (ws' := [(ga, .inr (4, [.ref ta, .ref rda, .ref pa, .ref sa, .ref ea, .ref ba, .ref da])), (ba, .inr (0, [.ref bt, .ref bp, .ref bl, .ref bh, .ref bq, .ref br, .ref bd, .int (jI bg), .int (jI bf)])), (bp, .inl (cA, 31, .inl (jA fp))), (bl, .inl (cA, 248, .inl (jA fl))), (bh, .inl (cA, 248, .inl (jA fh))), (oa, .inl (cL, 1, .inr (.inl (jAL (jset fo 0 (jw ((f_XG_span bg bf fp fl fh z1 z2 z3).2)))))))]) [0, 1, 2, 3, 4, 5] (by decide) rfl
    subst hAe
    subst hQ
    refine yW (fun _ h => yQ_of h) ?_
    exact W.iret (v := jI 0) hx hb hr (fun t ht hW => ⟨⟨_, (0, jset fo 0 (jw ((f_XG_span bg bf fp fl fh z1 z2 z3).2))), rfl, ⟨rfl, by rw [f_XL_span_s, if_pos hz]⟩, ⟨by rw [ht]; exact hP9, va_K.moved hW.alike hK, hD9⟩⟩, hS.F ht⟩) hS.2.2 dXL_span_20
  · rcases f_XG_span_e bg bf fp fl fh z1 z2 z3 with h9 | h9
    · exact absurd h9 hz
    · rw [h9, xCls_1] at hcl
      refine zOn1 htab hown ⟨by decide, by decide⟩ (by decide) (hts _ (jmem tw_407)) hX.c1 hce hcl hvm ?_
      refine lv_astore (lv' := [(5, .ref x), (0, .ref ga), (1, .int (jI z1)), (2, .int (jI z2)), (3, .int (jI z3)), (4, .ref oa)]) hx hb dXL_span_15 hl (by decide) rfl (fun ls hl => ?_)
      refine ji_iconst hx hb dXL_span_17 ?_
      refine W.widen (k := 1) (n := 6) (Nat.le_of_ble_eq_true rfl) (Nat.le_of_ble_eq_true rfl) ?_
      have hP9 := hP.sub (ws' := [(ga, .inr (4, [.ref ta, .ref rda, .ref pa, .ref sa, .ref ea, .ref ba, .ref da])), (ba, .inr (0, [.ref bt, .ref bp, .ref bl, .ref bh, .ref bq, .ref br, .ref bd, .int (jI bg), .int (jI bf)])), (bp, .inl (cA, 31, .inl (jA fp))), (bl, .inl (cA, 248, .inl (jA fl))), (bh, .inl (cA, 248, .inl (jA fh))), (oa, .inl (cL, 1, .inr (.inl (jAL fo))))]) [0, 1, 2, 3, 4, 5] rfl
      have hD9 := hD.sub (ws' := [(ga, .inr (4, [.ref ta, .ref rda, .ref pa, .ref sa, .ref ea, .ref ba, .ref da])), (ba, .inr (0, [.ref bt, .ref bp, .ref bl, .ref bh, .ref bq, .ref br, .ref bd, .int (jI bg), .int (jI bf)])), (bp, .inl (cA, 31, .inl (jA fp))), (bl, .inl (cA, 248, .inl (jA fl))), (bh, .inl (cA, 248, .inl (jA fh))), (oa, .inl (cL, 1, .inr (.inl (jAL fo))))]) [0, 1, 2, 3, 4, 5] (by decide) rfl
      subst hAe
      subst hQ
      refine yW (fun _ h => yQ_of h) ?_
      exact W.iret (v := jI 1) hx hb hr (fun t ht hW => ⟨⟨_, (1, fo), rfl, ⟨rfl, by rw [f_XL_span_s, if_neg hz]⟩, ⟨by rw [ht]; exact hP9, va_K.moved hW.alike hK, hD9⟩⟩, hS.F ht⟩) hS.2.2 dXL_span_18
noncomputable def g_XL_limit (bg : Int) (bf : Int) (fp : Int → Int) (fq : Int → Int) (z1 : Int) (z2 : Int) (fo : Int → Int) : Int × (Int → Int) :=
  if (f_XG_limit bg bf fp fq z1 z2).1 = 0 then
    (0, jset fo 0 (jw ((f_XG_limit bg bf fp fq z1 z2).2)))
  else
    (1, fo)
noncomputable def f_XL_limit : Int → Int → (Int → Int) → (Int → Int) → Int → Int → (Int → Int) → Int × (Int → Int) := jopq g_XL_limit
theorem f_XL_limit_q : f_XL_limit = g_XL_limit := jopq_eq _
theorem f_XL_limit_s (bg : Int) (bf : Int) (fp : Int → Int) (fq : Int → Int) (z1 : Int) (z2 : Int) (fo : Int → Int) : f_XL_limit bg bf fp fq z1 z2 fo = (
    if (f_XG_limit bg bf fp fq z1 z2).1 = 0 then
      (0, jset fo 0 (jw ((f_XG_limit bg bf fp fq z1 z2).2)))
    else
      (1, fo)
  : Int × (Int → Int)) := by rw [f_XL_limit_q]; rfl
set_option maxHeartbeats 4000000 in
set_option maxRecDepth 100000 in
theorem c_XL_limit (l : Launch) (hst : l.stackTraces = false) (dC : Nat → ClassId) (dI : Nat → Nat → Nat) (cA cL : ClassId) (sz : Nat) (ga : Nat) (ta : Nat) (rda : Nat) (pa : Nat) (sa : Nat) (ea : Nat) (ba : Nat) (da : Nat) (bt : Nat) (bp : Nat) (bl : Nat) (bh : Nat) (bq : Nat) (br : Nat) (bd : Nat) (bg : Int) (bf : Int) (fp : Int → Int) (fq : Int → Int) (z1 : Int) (z2 : Int) (oa : Nat) (fo : Int → Int) (hbp : ∀ i, 0 ≤ fp i ∧ fp i ≤ 30) (hbq : ∀ i, -1 ≤ fq i ∧ fq i ≤ 999999) (hbg : 0 ≤ bg ∧ bg < 2147483648) (hi_z1 : i32 z1) (hi_z2 : i32 z2) : YMet l yXL_limit (Cond.codeWith yXL_limit cXL_limit 5 (some .int) [(0, 10, 13, 21)] :: TBL) ({ frames := 8, cells := 1, slots := 6, locals := 125 } : Room) (va_Pc [.ref ga, .int (jI z1), .int (jI z2), .ref oa] (jBc (dC, dI) [(cA, .int), (cL, .long)] [(ga, .inr (4, [.ref ta, .ref rda, .ref pa, .ref sa, .ref ea, .ref ba, .ref da])), (ba, .inr (0, [.ref bt, .ref bp, .ref bl, .ref bh, .ref bq, .ref br, .ref bd, .int (jI bg), .int (jI bf)])), (bp, .inl (cA, 31, .inl (jA fp))), (bq, .inl (cA, 124, .inl (jA fq))), (oa, .inl (cL, 1, .inr (.inl (jAL fo))))] sz)) (va_Qi (fun (r : Int32) (u : Int × (Int → Int)) => r = jI u.1 ∧ u = f_XL_limit bg bf fp fq z1 z2 fo) (fun u t => jE (dC, dI) [(cA, .int), (cL, .long)] [(ga, .inr (4, [.ref ta, .ref rda, .ref pa, .ref sa, .ref ea, .ref ba, .ref da])), (ba, .inr (0, [.ref bt, .ref bp, .ref bl, .ref bh, .ref bq, .ref br, .ref bd, .int (jI bg), .int (jI bf)])), (bp, .inl (cA, 31, .inl (jA fp))), (bq, .inl (cA, 124, .inl (jA fq))), (oa, .inl (cL, 1, .inr (.inl (jAL fo))))] sz [(ga, .inr (4, [.ref ta, .ref rda, .ref pa, .ref sa, .ref ea, .ref ba, .ref da])), (ba, .inr (0, [.ref bt, .ref bp, .ref bl, .ref bh, .ref bq, .ref br, .ref bd, .int (jI bg), .int (jI bf)])), (bp, .inl (cA, 31, .inl (jA fp))), (bq, .inl (cA, 124, .inl (jA fq))), (oa, .inl (cL, 1, .inr (.inl (jAL u.2))))] t) (va_A [(ga, .inr (4, [.ref ta, .ref rda, .ref pa, .ref sa, .ref ea, .ref ba, .ref da])), (ba, .inr (0, [.ref bt, .ref bp, .ref bl, .ref bh, .ref bq, .ref br, .ref bd, .int (jI bg), .int (jI bf)])), (bp, .inl (cA, 31, .inl (jA fp))), (bq, .inl (cA, 124, .inl (jA fq))), (oa, .inl (cL, 1, .inr (.inl (jAL fo))))] sz)) 1 6 1 6 (va_A [(ga, .inr (4, [.ref ta, .ref rda, .ref pa, .ref sa, .ref ea, .ref ba, .ref da])), (ba, .inr (0, [.ref bt, .ref bp, .ref bl, .ref bh, .ref bq, .ref br, .ref bd, .int (jI bg), .int (jI bf)])), (bp, .inl (cA, 31, .inl (jA fp))), (bq, .inl (cA, 124, .inl (jA fq))), (oa, .inl (cL, 1, .inr (.inl (jAL fo))))] sz) := by
  refine YMet.ofWH (cc := cXL_limit) (maxL := 5) (ret := some .int) (hh := [(0, 10, 13, 21)]) (by decide) rfl ?_
  intro p e s m args below meth c s₁ R Q hR hQ B hml htab hv
  obtain ⟨rfl, ⟨hsz, hP, hK, hD0, hN⟩, hX, hC⟩ := hv
  have hx := B.exec
  have hb := B.bytes
  have hr := B.returns
  have hts := atoms_spec (ws := Cond.codeWith yXL_limit cXL_limit 5 (some .int) [(0, 10, 13, 21)] :: TBL) B.pre
  have hown : s.vm.findClass RXL = some m.cls := findClass_of_methodNamed B.named
  have hlocks := B.notSynchronized
  subst hsz
  obtain ⟨A, hAe⟩ : ∃ A, A = va_A [(ga, .inr (4, [.ref ta, .ref rda, .ref pa, .ref sa, .ref ea, .ref ba, .ref da])), (ba, .inr (0, [.ref bt, .ref bp, .ref bl, .ref bh, .ref bq, .ref br, .ref bd, .int (jI bg), .int (jI bf)])), (bp, .inl (cA, 31, .inl (jA fp))), (bq, .inl (cA, 124, .inl (jA fq))), (oa, .inl (cL, 1, .inr (.inl (jAL fo))))] s.heap.size := ⟨_, rfl⟩
  have hD : va_D A [(ga, .inr (4, [.ref ta, .ref rda, .ref pa, .ref sa, .ref ea, .ref ba, .ref da])), (ba, .inr (0, [.ref bt, .ref bp, .ref bl, .ref bh, .ref bq, .ref br, .ref bd, .int (jI bg), .int (jI bf)])), (bp, .inl (cA, 31, .inl (jA fp))), (bq, .inl (cA, 124, .inl (jA fq))), (oa, .inl (cL, 1, .inr (.inl (jAL fo))))] := by rw [hAe]; exact hD0.self
  have hA : ∀ q : Nat, s.heap.size ≤ q → A q := fun q h => by rw [hAe]; exact Or.inr h
  have hS : va_S A s.heap s.heap [] := va_S.rf
  have hP : va_P (dC, dI) vwCl [(ga, .inr (4, [.ref ta, .ref rda, .ref pa, .ref sa, .ref ea, .ref ba, .ref da])), (ba, .inr (0, [.ref bt, .ref bp, .ref bl, .ref bh, .ref bq, .ref br, .ref bd, .int (jI bg), .int (jI bf)])), (bp, .inl (cA, 31, .inl (jA fp))), (bq, .inl (cA, 124, .inl (jA fq))), (oa, .inl (cL, 1, .inr (.inl (jAL fo))))] s.heap := hP
  have hl := lv_entry ([.ref ga, .int (jI z1), .int (jI z2), .ref oa]) (n := 5) (Nat.le_of_ble_eq_true rfl)
  rw [lg_entry_eq]
  generalize (lg_sl ([.ref ga, .int (jI z1), .int (jI z2), .ref oa]) ++ List.replicate (5 - (lg_sl ([.ref ga, .int (jI z1), .int (jI z2), .ref oa])).length) Slot.unset).toArray = ls at hl ⊢
  have hl : lv_has ls 5 [(0, .ref ga), (1, .int (jI z1)), (2, .int (jI z2)), (3, .ref oa)] := hl
  refine lv_aload_n hx hb dXL_limit_0 rfl (lv_at hl 3 rfl) ?_
  refine ji_iconst hx hb dXL_limit_1 ?_
  refine lv_aload_n hx hb dXL_limit_2 rfl (lv_at hl 0 rfl) ?_
  refine lv_iload_n hx hb dXL_limit_3 rfl (lv_at hl 1 rfl) ?_
  refine lv_iload_n hx hb dXL_limit_4 rfl (lv_at hl 2 rfl) ?_
  refine ztRi (A := A) (rest := [.int (jI 0), .ref oa]) ⟨hx, hb, hml, hown, hts⟩ (c_XG_limit l hst dC dI cA ga ta rda pa sa ea ba da bt bp bl bh bq br bd bg bf fp fq z1 z2 hbp hbq hbg hi_z1 hi_z2) (cwV 2 hts (jG_V tw_446 tw_447 tw_448 tw_1 tw_449) rfl rfl rfl (by decide +kernel) (by rw [hR]; exact ⟨Nat.le_of_ble_eq_true rfl, Nat.le_of_ble_eq_true rfl⟩)) (va_K.sub hK [0] rfl) hP hN hX [0, 1, 2, 3] rfl 0 4 rfl rfl rfl rfl hl.1 rfl (Nat.le_of_ble_eq_true rfl) dXL_limit_5 (by rw [hR]; exact ⟨Nat.le_of_ble_eq_true rfl, Nat.le_of_ble_eq_true rfl⟩) (fun hz => ?_) (fun hz x ce H1 L hP hS hce hcl hvm => ?_)
  · refine ji_re (y := jw ((f_XG_limit bg bf fp fq z1 z2).2)) (jI_jw _).symm ?_
    refine ji_i2l hx hb dXL_limit_8 (jw_i _) ?_
    refine ji_last hx hb hK hP hD hS 4 1 rfl rfl ⟨by decide, by decide⟩ (by decide) dXL_limit_9 (fun H locs hP hD hS => ?_)
    have hP : va_P (dC, dI) vwCl [(ga, .inr (4, [.ref ta, .ref rda, .ref pa, .ref sa, .ref ea, .ref ba, .ref da])), (ba, .inr (0, [.ref bt, .ref bp, .ref bl, .ref bh, .ref bq, .ref br, .ref bd, .int (jI bg), .int (jI bf)])), (bp, .inl (cA, 31, .inl (jA fp))), (bq, .inl (cA, 124, .inl (jA fq))), (oa, .inl (cL, 1, .inr (.inl (jAL (jset fo 0 (jw ((f_XG_limit bg bf fp fq z1 z2).2)))))))] H := hP
    have hD : va_D A [(ga, .inr (4, [.ref ta, .ref rda, .ref pa, .ref sa, .ref ea, .ref ba, .ref da])), (ba, .inr (0, [.ref bt, .ref bp, .ref bl, .ref bh, .ref bq, .ref br, .ref bd, .int (jI bg), .int (jI bf)])), (bp, .inl (cA, 31, .inl (jA fp))), (bq, .inl (cA, 124, .inl (jA fq))), (oa, .inl (cL, 1, .inr (.inl (jAL (jset fo 0 (jw ((f_XG_limit bg bf fp fq z1 z2).2)))))))] := hD
    refine lv_goto (tgt := 17) hx hb dXL_limit_10 (by decide) ?_
    refine ji_iconst hx hb dXL_limit_17 ?_
    refine W.widen (k := 1) (n := 6) (Nat.le_of_ble_eq_true rfl) (Nat.le_of_ble_eq_true rfl) ?_
    have hP9 := hP.sub (ws' := [(ga, .inr (4, [.ref ta, .ref rda, .ref pa, .ref sa, .ref ea, .ref ba, .ref da])), (ba, .inr (0, [.ref bt, .ref bp, .ref bl, .ref bh, .ref bq, .ref br, .ref bd, .int (jI bg), .int (jI bf)])), (bp, .inl (cA, 31, .inl (jA fp))), (bq, .inl (cA, 124, .inl (jA fq))), (oa, .inl (cL, 1, .inr (.inl (jAL (jset fo 0 (jw ((f_XG_limit bg bf fp fq z1 z2).2)))))))]) [0, 1, 2, 3, 4] rfl
    have hD9 := hD.sub (ws' := [(ga, .inr (4, [.ref ta, .ref rda, .ref pa, .ref sa, .ref ea, .ref ba, .ref da])), (ba, .inr (0, [.ref bt, .ref bp, .ref bl, .ref bh, .ref bq, .ref br, .ref bd, .int (jI bg), .int (jI bf)])), (bp, .inl (cA, 31, .inl (jA fp))), (bq, .inl (cA, 124, .inl (jA fq))), (oa, .inl (cL, 1, .inr (.inl (jAL (jset fo 0 (jw ((f_XG_limit bg bf fp fq z1 z2).2)))))))]) [0, 1, 2, 3, 4] (by decide) rfl
    subst hAe
    subst hQ
    refine yW (fun _ h => yQ_of h) ?_
    exact W.iret (v := jI 0) hx hb hr (fun t ht hW => ⟨⟨_, (0, jset fo 0 (jw ((f_XG_limit bg bf fp fq z1 z2).2))), rfl, ⟨rfl, by rw [f_XL_limit_s, if_pos hz]⟩, ⟨by rw [ht]; exact hP9, va_K.moved hW.alike hK, hD9⟩⟩, hS.F ht⟩) hS.2.2 dXL_limit_18
  · rcases f_XG_limit_e bg bf fp fq z1 z2 with h9 | h9
    · exact absurd h9 hz
    · rw [h9, xCls_1] at hcl
      refine zOn1 htab hown ⟨by decide, by decide⟩ (by decide) (hts _ (jmem tw_407)) hX.c1 hce hcl hvm ?_
      refine lv_astore (lv' := [(4, .ref x), (0, .ref ga), (1, .int (jI z1)), (2, .int (jI z2)), (3, .ref oa)]) hx hb dXL_limit_13 hl (by decide) rfl (fun ls hl => ?_)
      refine ji_iconst hx hb dXL_limit_15 ?_
      refine W.widen (k := 1) (n := 6) (Nat.le_of_ble_eq_true rfl) (Nat.le_of_ble_eq_true rfl) ?_
      have hP9 := hP.sub (ws' := [(ga, .inr (4, [.ref ta, .ref rda, .ref pa, .ref sa, .ref ea, .ref ba, .ref da])), (ba, .inr (0, [.ref bt, .ref bp, .ref bl, .ref bh, .ref bq, .ref br, .ref bd, .int (jI bg), .int (jI bf)])), (bp, .inl (cA, 31, .inl (jA fp))), (bq, .inl (cA, 124, .inl (jA fq))), (oa, .inl (cL, 1, .inr (.inl (jAL fo))))]) [0, 1, 2, 3, 4] rfl
      have hD9 := hD.sub (ws' := [(ga, .inr (4, [.ref ta, .ref rda, .ref pa, .ref sa, .ref ea, .ref ba, .ref da])), (ba, .inr (0, [.ref bt, .ref bp, .ref bl, .ref bh, .ref bq, .ref br, .ref bd, .int (jI bg), .int (jI bf)])), (bp, .inl (cA, 31, .inl (jA fp))), (bq, .inl (cA, 124, .inl (jA fq))), (oa, .inl (cL, 1, .inr (.inl (jAL fo))))]) [0, 1, 2, 3, 4] (by decide) rfl
      subst hAe
      subst hQ
      refine yW (fun _ h => yQ_of h) ?_
      exact W.iret (v := jI 1) hx hb hr (fun t ht hW => ⟨⟨_, (1, fo), rfl, ⟨rfl, by rw [f_XL_limit_s, if_neg hz]⟩, ⟨by rw [ht]; exact hP9, va_K.moved hW.alike hK, hD9⟩⟩, hS.F ht⟩) hS.2.2 dXL_limit_16
noncomputable def g_XL_equivalent (bg : Int) (bf : Int) (fp : Int → Int) (fl : Int → Int) (fh : Int → Int) (fd : Int → Int) (fe : Int → Int) (z1 : Int) (z2 : Int) (z3 : Int) (z4 : Int) (fo : Int → Int) : Int × (Int → Int) × (Int → Int) :=
  if (f_XG_equivalent bg bf fp fl fh fd fe z1 z2 z3 z4).1 = 0 then
    (0, jset fo 0 ((f_XG_equivalent bg bf fp fl fh fd fe z1 z2 z3 z4).2.1), (f_XG_equivalent bg bf fp fl fh fd fe z1 z2 z3 z4).2.2)
  else
    if (f_XG_equivalent bg bf fp fl fh fd fe z1 z2 z3 z4).1 = 1 then
      (1, fo, fe)
    else
      (2, fo, fe)
noncomputable def f_XL_equivalent : Int → Int → (Int → Int) → (Int → Int) → (Int → Int) → (Int → Int) → (Int → Int) → Int → Int → Int → Int → (Int → Int) → Int × (Int → Int) × (Int → Int) := jopq g_XL_equivalent
theorem f_XL_equivalent_q : f_XL_equivalent = g_XL_equivalent := jopq_eq _
theorem f_XL_equivalent_s (bg : Int) (bf : Int) (fp : Int → Int) (fl : Int → Int) (fh : Int → Int) (fd : Int → Int) (fe : Int → Int) (z1 : Int) (z2 : Int) (z3 : Int) (z4 : Int) (fo : Int → Int) : f_XL_equivalent bg bf fp fl fh fd fe z1 z2 z3 z4 fo = (
    if (f_XG_equivalent bg bf fp fl fh fd fe z1 z2 z3 z4).1 = 0 then
      (0, jset fo 0 ((f_XG_equivalent bg bf fp fl fh fd fe z1 z2 z3 z4).2.1), (f_XG_equivalent bg bf fp fl fh fd fe z1 z2 z3 z4).2.2)
    else
      if (f_XG_equivalent bg bf fp fl fh fd fe z1 z2 z3 z4).1 = 1 then
        (1, fo, fe)
      else
        (2, fo, fe)
  : Int × (Int → Int) × (Int → Int)) := by rw [f_XL_equivalent_q]; rfl
set_option maxHeartbeats 4000000 in
set_option maxRecDepth 100000 in
theorem c_XL_equivalent (l : Launch) (hst : l.stackTraces = false) (dC : Nat → ClassId) (dI : Nat → Nat → Nat) (cA cL : ClassId) (sz : Nat) (ga : Nat) (ta : Nat) (rda : Nat) (pa : Nat) (sa : Nat) (ea : Nat) (ba : Nat) (da : Nat) (bt : Nat) (bp : Nat) (bl : Nat) (bh : Nat) (bq : Nat) (br : Nat) (bd : Nat) (bg : Int) (bf : Int) (fp : Int → Int) (fl : Int → Int) (fh : Int → Int) (fd : Int → Int) (fe : Int → Int) (z1 : Int) (z2 : Int) (z3 : Int) (z4 : Int) (oa : Nat) (fo : Int → Int) (hbp : ∀ i, 0 ≤ fp i ∧ fp i ≤ 30) (hbl : ∀ i, 0 ≤ fl i ∧ fl i ≤ 100000) (hbh : ∀ i, -1 ≤ fh i ∧ fh i ≤ 100000) (hbd : ∀ i, 0 ≤ fd i ∧ fd i ≤ 20) (hbg : 0 ≤ bg ∧ bg < 2147483648) (hbf : 0 ≤ bf ∧ bf < 2147483648) (hfe0 : ∀ i, -1 ≤ fe i ∧ fe i ≤ 100000) (hi_z1 : i32 z1) (hi_z2 : i32 z2) (hi_z3 : i32 z3) (hi_z4 : i32 z4) : YMet l yXL_equivalent (Cond.codeWith yXL_equivalent cXL_equivalent 7 (some .int) [(0, 13, 16, 21), (0, 13, 20, 31)] :: TBL) ({ frames := 8, cells := 1, slots := 6, locals := 127 } : Room) (va_Pc [.ref ga, .int (jI z1), .int (jI z2), .int (jI z3), .int (jI z4), .ref oa] (jBc (dC, dI) [(cA, .int), (cL, .long)] [(ga, .inr (4, [.ref ta, .ref rda, .ref pa, .ref sa, .ref ea, .ref ba, .ref da])), (ba, .inr (0, [.ref bt, .ref bp, .ref bl, .ref bh, .ref bq, .ref br, .ref bd, .int (jI bg), .int (jI bf)])), (bp, .inl (cA, 31, .inl (jA fp))), (bl, .inl (cA, 248, .inl (jA fl))), (bh, .inl (cA, 248, .inl (jA fh))), (bd, .inl (cA, 32, .inl (jA fd))), (ea, .inl (cA, 8, .inl (jA fe))), (oa, .inl (cL, 1, .inr (.inl (jAL fo))))] sz)) (va_Qi (fun (r : Int32) (u : Int × (Int → Int) × (Int → Int)) => r = jI u.1 ∧ u = f_XL_equivalent bg bf fp fl fh fd fe z1 z2 z3 z4 fo ∧ (∀ i, -1 ≤ u.2.2 i ∧ u.2.2 i ≤ 100000)) (fun u t => jE (dC, dI) [(cA, .int), (cL, .long)] [(ga, .inr (4, [.ref ta, .ref rda, .ref pa, .ref sa, .ref ea, .ref ba, .ref da])), (ba, .inr (0, [.ref bt, .ref bp, .ref bl, .ref bh, .ref bq, .ref br, .ref bd, .int (jI bg), .int (jI bf)])), (bp, .inl (cA, 31, .inl (jA fp))), (bl, .inl (cA, 248, .inl (jA fl))), (bh, .inl (cA, 248, .inl (jA fh))), (bd, .inl (cA, 32, .inl (jA fd))), (ea, .inl (cA, 8, .inl (jA fe))), (oa, .inl (cL, 1, .inr (.inl (jAL fo))))] sz [(ga, .inr (4, [.ref ta, .ref rda, .ref pa, .ref sa, .ref ea, .ref ba, .ref da])), (ba, .inr (0, [.ref bt, .ref bp, .ref bl, .ref bh, .ref bq, .ref br, .ref bd, .int (jI bg), .int (jI bf)])), (bp, .inl (cA, 31, .inl (jA fp))), (bl, .inl (cA, 248, .inl (jA fl))), (bh, .inl (cA, 248, .inl (jA fh))), (bd, .inl (cA, 32, .inl (jA fd))), (ea, .inl (cA, 8, .inl (jA u.2.2))), (oa, .inl (cL, 1, .inr (.inl (jAL u.2.1))))] t) (va_A [(ga, .inr (4, [.ref ta, .ref rda, .ref pa, .ref sa, .ref ea, .ref ba, .ref da])), (ba, .inr (0, [.ref bt, .ref bp, .ref bl, .ref bh, .ref bq, .ref br, .ref bd, .int (jI bg), .int (jI bf)])), (bp, .inl (cA, 31, .inl (jA fp))), (bl, .inl (cA, 248, .inl (jA fl))), (bh, .inl (cA, 248, .inl (jA fh))), (bd, .inl (cA, 32, .inl (jA fd))), (ea, .inl (cA, 8, .inl (jA fe))), (oa, .inl (cL, 1, .inr (.inl (jAL fo))))] sz)) 1 6 1 6 (va_A [(ga, .inr (4, [.ref ta, .ref rda, .ref pa, .ref sa, .ref ea, .ref ba, .ref da])), (ba, .inr (0, [.ref bt, .ref bp, .ref bl, .ref bh, .ref bq, .ref br, .ref bd, .int (jI bg), .int (jI bf)])), (bp, .inl (cA, 31, .inl (jA fp))), (bl, .inl (cA, 248, .inl (jA fl))), (bh, .inl (cA, 248, .inl (jA fh))), (bd, .inl (cA, 32, .inl (jA fd))), (ea, .inl (cA, 8, .inl (jA fe))), (oa, .inl (cL, 1, .inr (.inl (jAL fo))))] sz) := by
  refine YMet.ofWH (cc := cXL_equivalent) (maxL := 7) (ret := some .int) (hh := [(0, 13, 16, 21), (0, 13, 20, 31)]) (by decide) rfl ?_
  intro p e s m args below meth c s₁ R Q hR hQ B hml htab hv
  obtain ⟨rfl, ⟨hsz, hP, hK, hD0, hN⟩, hX, hC⟩ := hv
  have hx := B.exec
  have hb := B.bytes
  have hr := B.returns
  have hts := atoms_spec (ws := Cond.codeWith yXL_equivalent cXL_equivalent 7 (some .int) [(0, 13, 16, 21), (0, 13, 20, 31)] :: TBL) B.pre
  have hown : s.vm.findClass RXL = some m.cls := findClass_of_methodNamed B.named
  have hlocks := B.notSynchronized
  subst hsz
  obtain ⟨A, hAe⟩ : ∃ A, A = va_A [(ga, .inr (4, [.ref ta, .ref rda, .ref pa, .ref sa, .ref ea, .ref ba, .ref da])), (ba, .inr (0, [.ref bt, .ref bp, .ref bl, .ref bh, .ref bq, .ref br, .ref bd, .int (jI bg), .int (jI bf)])), (bp, .inl (cA, 31, .inl (jA fp))), (bl, .inl (cA, 248, .inl (jA fl))), (bh, .inl (cA, 248, .inl (jA fh))), (bd, .inl (cA, 32, .inl (jA fd))), (ea, .inl (cA, 8, .inl (jA fe))), (oa, .inl (cL, 1, .inr (.inl (jAL fo))))] s.heap.size := ⟨_, rfl⟩
  have hD : va_D A [(ga, .inr (4, [.ref ta, .ref rda, .ref pa, .ref sa, .ref ea, .ref ba, .ref da])), (ba, .inr (0, [.ref bt, .ref bp, .ref bl, .ref bh, .ref bq, .ref br, .ref bd, .int (jI bg), .int (jI bf)])), (bp, .inl (cA, 31, .inl (jA fp))), (bl, .inl (cA, 248, .inl (jA fl))), (bh, .inl (cA, 248, .inl (jA fh))), (bd, .inl (cA, 32, .inl (jA fd))), (ea, .inl (cA, 8, .inl (jA fe))), (oa, .inl (cL, 1, .inr (.inl (jAL fo))))] := by rw [hAe]; exact hD0.self
  have hA : ∀ q : Nat, s.heap.size ≤ q → A q := fun q h => by rw [hAe]; exact Or.inr h
  have hS : va_S A s.heap s.heap [] := va_S.rf
  have hP : va_P (dC, dI) vwCl [(ga, .inr (4, [.ref ta, .ref rda, .ref pa, .ref sa, .ref ea, .ref ba, .ref da])), (ba, .inr (0, [.ref bt, .ref bp, .ref bl, .ref bh, .ref bq, .ref br, .ref bd, .int (jI bg), .int (jI bf)])), (bp, .inl (cA, 31, .inl (jA fp))), (bl, .inl (cA, 248, .inl (jA fl))), (bh, .inl (cA, 248, .inl (jA fh))), (bd, .inl (cA, 32, .inl (jA fd))), (ea, .inl (cA, 8, .inl (jA fe))), (oa, .inl (cL, 1, .inr (.inl (jAL fo))))] s.heap := hP
  have hl := lv_entry ([.ref ga, .int (jI z1), .int (jI z2), .int (jI z3), .int (jI z4), .ref oa]) (n := 7) (Nat.le_of_ble_eq_true rfl)
  rw [lg_entry_eq]
  generalize (lg_sl ([.ref ga, .int (jI z1), .int (jI z2), .int (jI z3), .int (jI z4), .ref oa]) ++ List.replicate (7 - (lg_sl ([.ref ga, .int (jI z1), .int (jI z2), .int (jI z3), .int (jI z4), .ref oa])).length) Slot.unset).toArray = ls at hl ⊢
  have hl : lv_has ls 7 [(0, .ref ga), (1, .int (jI z1)), (2, .int (jI z2)), (3, .int (jI z3)), (4, .int (jI z4)), (5, .ref oa)] := hl
  refine lv_aload hx hb dXL_equivalent_0 (lv_at hl 5 rfl) ?_
  refine ji_iconst hx hb dXL_equivalent_2 ?_
  refine lv_aload_n hx hb dXL_equivalent_3 rfl (lv_at hl 0 rfl) ?_
  refine lv_iload_n hx hb dXL_equivalent_4 rfl (lv_at hl 1 rfl) ?_
  refine lv_iload_n hx hb dXL_equivalent_5 rfl (lv_at hl 2 rfl) ?_
  refine lv_iload_n hx hb dXL_equivalent_6 rfl (lv_at hl 3 rfl) ?_
  refine lv_iload hx hb dXL_equivalent_7 (lv_at hl 4 rfl) ?_
  refine ztWl (A := A) (wr := [(oa, .inl (cL, 1, .inr (.inl (jAL fo))))]) (rest := [.int (jI 0), .ref oa]) ⟨hx, hb, hml, hown, hts⟩ (c_XG_equivalent l hst dC dI cA _ ga ta rda pa sa ea ba da bt bp bl bh bq br bd bg bf fp fl fh fd fe z1 z2 z3 z4 hbp hbl hbh hbd hbg hbf hfe0 hi_z1 hi_z2 hi_z3 hi_z4) (cwV 4 hts (jG_V tw_459 tw_460 tw_461 tw_1 tw_462) rfl rfl rfl (by decide +kernel) (by rw [hR]; exact ⟨Nat.le_of_ble_eq_true rfl, Nat.le_of_ble_eq_true rfl⟩)) (va_K.sub hK [0] rfl) hP hD hA hN hX [0, 1, 2, 3, 4, 5, 6] [7] rfl rfl (by decide) (by decide) (by decide) 0 4 rfl rfl rfl rfl hl.1 rfl (Nat.le_of_ble_eq_true rfl) dXL_equivalent_9 (by rw [hR]; exact ⟨Nat.le_of_ble_eq_true rfl, Nat.le_of_ble_eq_true rfl⟩) (fun hz r9 u9 H locs hp9 hP hD hS => ?_) (fun hz x ce H1 L hP hS hce hcl hvm => ?_)
  · obtain ⟨er, hu, f0⟩ := hp9
    subst er
    subst hu
    have hP : va_P (dC, dI) vwCl [(oa, .inl (cL, 1, .inr (.inl (jAL fo)))), (ga, .inr (4, [.ref ta, .ref rda, .ref pa, .ref sa, .ref ea, .ref ba, .ref da])), (ba, .inr (0, [.ref bt, .ref bp, .ref bl, .ref bh, .ref bq, .ref br, .ref bd, .int (jI bg), .int (jI bf)])), (bp, .inl (cA, 31, .inl (jA fp))), (bl, .inl (cA, 248, .inl (jA fl))), (bh, .inl (cA, 248, .inl (jA fh))), (bd, .inl (cA, 32, .inl (jA fd))), (ea, .inl (cA, 8, .inl (jA ((f_XG_equivalent bg bf fp fl fh fd fe z1 z2 z3 z4).2.2))))] H := hP
    have hD : va_D A [(oa, .inl (cL, 1, .inr (.inl (jAL fo)))), (ga, .inr (4, [.ref ta, .ref rda, .ref pa, .ref sa, .ref ea, .ref ba, .ref da])), (ba, .inr (0, [.ref bt, .ref bp, .ref bl, .ref bh, .ref bq, .ref br, .ref bd, .int (jI bg), .int (jI bf)])), (bp, .inl (cA, 31, .inl (jA fp))), (bl, .inl (cA, 248, .inl (jA fl))), (bh, .inl (cA, 248, .inl (jA fh))), (bd, .inl (cA, 32, .inl (jA fd))), (ea, .inl (cA, 8, .inl (jA ((f_XG_equivalent bg bf fp fl fh fd fe z1 z2 z3 z4).2.2))))] := hD
    refine ji_last hx hb hK hP hD hS 0 1 rfl rfl ⟨by decide, by decide⟩ (by decide) dXL_equivalent_12 (fun H locs hP hD hS => ?_)
    have hP : va_P (dC, dI) vwCl [(oa, .inl (cL, 1, .inr (.inl (jAL (jset fo 0 ((f_XG_equivalent bg bf fp fl fh fd fe z1 z2 z3 z4).2.1)))))), (ga, .inr (4, [.ref ta, .ref rda, .ref pa, .ref sa, .ref ea, .ref ba, .ref da])), (ba, .inr (0, [.ref bt, .ref bp, .ref bl, .ref bh, .ref bq, .ref br, .ref bd, .int (jI bg), .int (jI bf)])), (bp, .inl (cA, 31, .inl (jA fp))), (bl, .inl (cA, 248, .inl (jA fl))), (bh, .inl (cA, 248, .inl (jA fh))), (bd, .inl (cA, 32, .inl (jA fd))), (ea, .inl (cA, 8, .inl (jA ((f_XG_equivalent bg bf fp fl fh fd fe z1 z2 z3 z4).2.2))))] H := hP
    have hD : va_D A [(oa, .inl (cL, 1, .inr (.inl (jAL (jset fo 0 ((f_XG_equivalent bg bf fp fl fh fd fe z1 z2 z3 z4).2.1)))))), (ga, .inr (4, [.ref ta, .ref rda, .ref pa, .ref sa, .ref ea, .ref ba, .ref da])), (ba, .inr (0, [.ref bt, .ref bp, .ref bl, .ref bh, .ref bq, .ref br, .ref bd, .int (jI bg), .int (jI bf)])), (bp, .inl (cA, 31, .inl (jA fp))), (bl, .inl (cA, 248, .inl (jA fl))), (bh, .inl (cA, 248, .inl (jA fh))), (bd, .inl (cA, 32, .inl (jA fd))), (ea, .inl (cA, 8, .inl (jA ((f_XG_equivalent bg bf fp fl fh fd fe z1 z2 z3 z4).2.2))))] := hD
    refine lv_goto (tgt := 24) hx hb dXL_equivalent_13 (by decide) ?_
    refine ji_iconst hx hb dXL_equivalent_24 ?_
    refine W.widen (k := 1) (n := 6) (Nat.le_of_ble_eq_true rfl) (Nat.le_of_ble_eq_true rfl) ?_
    have hP9 := hP.sub (ws' := [(ga, .inr (4, [.ref ta, .ref rda, .ref pa, .ref sa, .ref ea, .ref ba, .ref da])), (ba, .inr (0, [.ref bt, .ref bp, .ref bl, .ref bh, .ref bq, .ref br, .ref bd, .int (jI bg), .int (jI bf)])), (bp, .inl (cA, 31, .inl (jA fp))), (bl, .inl (cA, 248, .inl (jA fl))), (bh, .inl (cA, 248, .inl (jA fh))), (bd, .inl (cA, 32, .inl (jA fd))), (ea, .inl (cA, 8, .inl (jA ((f_XG_equivalent bg bf fp fl fh fd fe z1 z2 z3 z4).2.2)))), (oa, .inl (cL, 1, .inr (.inl (jAL (jset fo 0 ((f_XG_equivalent bg bf fp fl fh fd fe z1 z2 z3 z4).2.1))))))]) [1, 2, 3, 4, 5, 6, 7, 0] rfl
    have hD9 := hD.sub (ws' := [(ga, .inr (4, [.ref ta, .ref rda, .ref pa, .ref sa, .ref ea, .ref ba, .ref da])), (ba, .inr (0, [.ref bt, .ref bp, .ref bl, .ref bh, .ref bq, .ref br, .ref bd, .int (jI bg), .int (jI bf)])), (bp, .inl (cA, 31, .inl (jA fp))), (bl, .inl (cA, 248, .inl (jA fl))), (bh, .inl (cA, 248, .inl (jA fh))), (bd, .inl (cA, 32, .inl (jA fd))), (ea, .inl (cA, 8, .inl (jA ((f_XG_equivalent bg bf fp fl fh fd fe z1 z2 z3 z4).2.2)))), (oa, .inl (cL, 1, .inr (.inl (jAL (jset fo 0 ((f_XG_equivalent bg bf fp fl fh fd fe z1 z2 z3 z4).2.1))))))]) [1, 2, 3, 4, 5, 6, 7, 0] (by decide) rfl
    subst hAe
    subst hQ
    refine yW (fun _ h => yQ_of h) ?_
    exact W.iret (v := jI 0) hx hb hr (fun t ht hW => ⟨⟨_, (0, jset fo 0 ((f_XG_equivalent bg bf fp fl fh fd fe z1 z2 z3 z4).2.1), (f_XG_equivalent bg bf fp fl fh fd fe z1 z2 z3 z4).2.2), rfl, ⟨rfl, by rw [f_XL_equivalent_s, if_pos hz], by first | assumption | omega⟩, ⟨by rw [ht]; exact hP9, va_K.moved hW.alike hK, hD9⟩⟩, hS.F ht⟩) hS.2.2 dXL_equivalent_25
  · rcases f_XG_equivalent_e bg bf fp fl fh fd fe z1 z2 z3 z4 with h9 | h9 | h9
    · exact absurd h9 hz
    · rw [h9, xCls_1] at hcl
      refine zOn1 htab hown ⟨by decide, by decide⟩ (by decide) (hts _ (jmem tw_407)) hX.c1 hce hcl hvm ?_
      refine lv_astore (lv' := [(6, .ref x), (0, .ref ga), (1, .int (jI z1)), (2, .int (jI z2)), (3, .int (jI z3)), (4, .int (jI z4)), (5, .ref oa)]) hx hb dXL_equivalent_16 hl (by decide) rfl (fun ls hl => ?_)
      refine ji_iconst hx hb dXL_equivalent_18 ?_
      refine W.widen (k := 1) (n := 6) (Nat.le_of_ble_eq_true rfl) (Nat.le_of_ble_eq_true rfl) ?_
      have hP9 := hP.sub (ws' := [(ga, .inr (4, [.ref ta, .ref rda, .ref pa, .ref sa, .ref ea, .ref ba, .ref da])), (ba, .inr (0, [.ref bt, .ref bp, .ref bl, .ref bh, .ref bq, .ref br, .ref bd, .int (jI bg), .int (jI bf)])), (bp, .inl (cA, 31, .inl (jA fp))), (bl, .inl (cA, 248, .inl (jA fl))), (bh, .inl (cA, 248, .inl (jA fh))), (bd, .inl (cA, 32, .inl (jA fd))), (ea, .inl (cA, 8, .inl (jA fe))), (oa, .inl (cL, 1, .inr (.inl (jAL fo))))]) [0, 1, 2, 3, 4, 5, 6, 7] rfl
      have hD9 := hD.sub (ws' := [(ga, .inr (4, [.ref ta, .ref rda, .ref pa, .ref sa, .ref ea, .ref ba, .ref da])), (ba, .inr (0, [.ref bt, .ref bp, .ref bl, .ref bh, .ref bq, .ref br, .ref bd, .int (jI bg), .int (jI bf)])), (bp, .inl (cA, 31, .inl (jA fp))), (bl, .inl (cA, 248, .inl (jA fl))), (bh, .inl (cA, 248, .inl (jA fh))), (bd, .inl (cA, 32, .inl (jA fd))), (ea, .inl (cA, 8, .inl (jA fe))), (oa, .inl (cL, 1, .inr (.inl (jAL fo))))]) [0, 1, 2, 3, 4, 5, 6, 7] (by decide) rfl
      subst hAe
      subst hQ
      refine yW (fun _ h => yQ_of h) ?_
      exact W.iret (v := jI 1) hx hb hr (fun t ht hW => ⟨⟨_, (1, fo, fe), rfl, ⟨rfl, by rw [f_XL_equivalent_s, if_neg hz, if_pos h9], by first | assumption | omega⟩, ⟨by rw [ht]; exact hP9, va_K.moved hW.alike hK, hD9⟩⟩, hS.F ht⟩) hS.2.2 dXL_equivalent_19
    · rw [h9, xCls_2] at hcl
      refine zOn2 htab hown ⟨by decide, by decide⟩ (by decide) ⟨by decide, by decide⟩ (by decide) (hts _ (jmem tw_407)) hC.2.1 (hts _ (jmem tw_458)) hX.c2 hce hcl hvm ?_
      refine lv_astore (lv' := [(6, .ref x), (0, .ref ga), (1, .int (jI z1)), (2, .int (jI z2)), (3, .int (jI z3)), (4, .int (jI z4)), (5, .ref oa)]) hx hb dXL_equivalent_20 hl (by decide) rfl (fun ls hl => ?_)
      refine ji_iconst hx hb dXL_equivalent_22 ?_
      refine W.widen (k := 1) (n := 6) (Nat.le_of_ble_eq_true rfl) (Nat.le_of_ble_eq_true rfl) ?_
      have hP9 := hP.sub (ws' := [(ga, .inr (4, [.ref ta, .ref rda, .ref pa, .ref sa, .ref ea, .ref ba, .ref da])), (ba, .inr (0, [.ref bt, .ref bp, .ref bl, .ref bh, .ref bq, .ref br, .ref bd, .int (jI bg), .int (jI bf)])), (bp, .inl (cA, 31, .inl (jA fp))), (bl, .inl (cA, 248, .inl (jA fl))), (bh, .inl (cA, 248, .inl (jA fh))), (bd, .inl (cA, 32, .inl (jA fd))), (ea, .inl (cA, 8, .inl (jA fe))), (oa, .inl (cL, 1, .inr (.inl (jAL fo))))]) [0, 1, 2, 3, 4, 5, 6, 7] rfl
      have hD9 := hD.sub (ws' := [(ga, .inr (4, [.ref ta, .ref rda, .ref pa, .ref sa, .ref ea, .ref ba, .ref da])), (ba, .inr (0, [.ref bt, .ref bp, .ref bl, .ref bh, .ref bq, .ref br, .ref bd, .int (jI bg), .int (jI bf)])), (bp, .inl (cA, 31, .inl (jA fp))), (bl, .inl (cA, 248, .inl (jA fl))), (bh, .inl (cA, 248, .inl (jA fh))), (bd, .inl (cA, 32, .inl (jA fd))), (ea, .inl (cA, 8, .inl (jA fe))), (oa, .inl (cL, 1, .inr (.inl (jAL fo))))]) [0, 1, 2, 3, 4, 5, 6, 7] (by decide) rfl
      subst hAe
      subst hQ
      refine yW (fun _ h => yQ_of h) ?_
      exact W.iret (v := jI 2) hx hb hr (fun t ht hW => ⟨⟨_, (2, fo, fe), rfl, ⟨rfl, by rw [f_XL_equivalent_s, if_neg hz, if_neg (by rw [h9]; decide)], by first | assumption | omega⟩, ⟨by rw [ht]; exact hP9, va_K.moved hW.alike hK, hD9⟩⟩, hS.F ht⟩) hS.2.2 dXL_equivalent_23
noncomputable def g_XL_share (fs : Int → Int) (z1 : Int) (z2 : Int) : Int × (Int → Int) :=
  if (f_XG_share fs z1 z2).1 = 0 then
    (0, (f_XG_share fs z1 z2).2)
  else
    if (f_XG_share fs z1 z2).1 = 1 then
      (1, fs)
    else
      (2, fs)
noncomputable def f_XL_share : (Int → Int) → Int → Int → Int × (Int → Int) := jopq g_XL_share
theorem f_XL_share_q : f_XL_share = g_XL_share := jopq_eq _
theorem f_XL_share_s (fs : Int → Int) (z1 : Int) (z2 : Int) : f_XL_share fs z1 z2 = (
    if (f_XG_share fs z1 z2).1 = 0 then
      (0, (f_XG_share fs z1 z2).2)
    else
      if (f_XG_share fs z1 z2).1 = 1 then
        (1, fs)
      else
        (2, fs)
  : Int × (Int → Int)) := by rw [f_XL_share_q]; rfl
set_option maxHeartbeats 4000000 in
set_option maxRecDepth 100000 in
theorem c_XL_share (l : Launch) (hst : l.stackTraces = false) (dC : Nat → ClassId) (dI : Nat → Nat → Nat) (cA cL : ClassId) (sz : Nat) (ga : Nat) (ta : Nat) (rda : Nat) (pa : Nat) (sa : Nat) (ea : Nat) (ba : Nat) (da : Nat) (fs : Int → Int) (z1 : Int) (z2 : Int) (hfs0 : ∀ i, -1 ≤ fs i ∧ fs i ≤ 100000) (hi_z1 : i32 z1) (hi_z2 : i32 z2) : YMet l yXL_share (Cond.codeWith yXL_share cXL_share 4 (some .int) [(0, 6, 9, 21), (0, 6, 12, 13)] :: TBL) ({ frames := 8, cells := 1, slots := 6, locals := 125 } : Room) (va_Pc [.ref ga, .int (jI z1), .int (jI z2)] (jBc (dC, dI) [(cA, .int), (cL, .long)] [(ga, .inr (4, [.ref ta, .ref rda, .ref pa, .ref sa, .ref ea, .ref ba, .ref da])), (sa, .inl (cA, 8, .inl (jA fs)))] sz)) (va_Qi (fun (r : Int32) (u : Int × (Int → Int)) => r = jI u.1 ∧ u = f_XL_share fs z1 z2 ∧ (∀ i, -1 ≤ u.2 i ∧ u.2 i ≤ 100000)) (fun u t => jE (dC, dI) [(cA, .int), (cL, .long)] [(ga, .inr (4, [.ref ta, .ref rda, .ref pa, .ref sa, .ref ea, .ref ba, .ref da])), (sa, .inl (cA, 8, .inl (jA fs)))] sz [(ga, .inr (4, [.ref ta, .ref rda, .ref pa, .ref sa, .ref ea, .ref ba, .ref da])), (sa, .inl (cA, 8, .inl (jA u.2)))] t) (va_A [(ga, .inr (4, [.ref ta, .ref rda, .ref pa, .ref sa, .ref ea, .ref ba, .ref da])), (sa, .inl (cA, 8, .inl (jA fs)))] sz)) 1 6 1 6 (va_A [(ga, .inr (4, [.ref ta, .ref rda, .ref pa, .ref sa, .ref ea, .ref ba, .ref da])), (sa, .inl (cA, 8, .inl (jA fs)))] sz) := by
  refine YMet.ofWH (cc := cXL_share) (maxL := 4) (ret := some .int) (hh := [(0, 6, 9, 21), (0, 6, 12, 13)]) (by decide) rfl ?_
  intro p e s m args below meth c s₁ R Q hR hQ B hml htab hv
  obtain ⟨rfl, ⟨hsz, hP, hK, hD0, hN⟩, hX, hC⟩ := hv
  have hx := B.exec
  have hb := B.bytes
  have hr := B.returns
  have hts := atoms_spec (ws := Cond.codeWith yXL_share cXL_share 4 (some .int) [(0, 6, 9, 21), (0, 6, 12, 13)] :: TBL) B.pre
  have hown : s.vm.findClass RXL = some m.cls := findClass_of_methodNamed B.named
  have hlocks := B.notSynchronized
  subst hsz
  obtain ⟨A, hAe⟩ : ∃ A, A = va_A [(ga, .inr (4, [.ref ta, .ref rda, .ref pa, .ref sa, .ref ea, .ref ba, .ref da])), (sa, .inl (cA, 8, .inl (jA fs)))] s.heap.size := ⟨_, rfl⟩
  have hD : va_D A [(ga, .inr (4, [.ref ta, .ref rda, .ref pa, .ref sa, .ref ea, .ref ba, .ref da])), (sa, .inl (cA, 8, .inl (jA fs)))] := by rw [hAe]; exact hD0.self
  have hA : ∀ q : Nat, s.heap.size ≤ q → A q := fun q h => by rw [hAe]; exact Or.inr h
  have hS : va_S A s.heap s.heap [] := va_S.rf
  have hP : va_P (dC, dI) vwCl [(ga, .inr (4, [.ref ta, .ref rda, .ref pa, .ref sa, .ref ea, .ref ba, .ref da])), (sa, .inl (cA, 8, .inl (jA fs)))] s.heap := hP
  have hl := lv_entry ([.ref ga, .int (jI z1), .int (jI z2)]) (n := 4) (Nat.le_of_ble_eq_true rfl)
  rw [lg_entry_eq]
  generalize (lg_sl ([.ref ga, .int (jI z1), .int (jI z2)]) ++ List.replicate (4 - (lg_sl ([.ref ga, .int (jI z1), .int (jI z2)])).length) Slot.unset).toArray = ls at hl ⊢
  have hl : lv_has ls 4 [(0, .ref ga), (1, .int (jI z1)), (2, .int (jI z2))] := hl
  refine lv_aload_n hx hb dXL_share_0 rfl (lv_at hl 0 rfl) ?_
  refine lv_iload_n hx hb dXL_share_1 rfl (lv_at hl 1 rfl) ?_
  refine lv_iload_n hx hb dXL_share_2 rfl (lv_at hl 2 rfl) ?_
  refine ztWv (A := A) (wr := []) (rest := []) ⟨hx, hb, hml, hown, hts⟩ (c_XG_share l hst dC dI cA _ ga ta rda pa sa ea ba da fs z1 z2 hfs0 hi_z1 hi_z2) (cwV 2 hts (jG_V tw_505 tw_506 tw_507 tw_1 tw_508) rfl rfl rfl (by decide +kernel) (by rw [hR]; exact ⟨Nat.le_of_ble_eq_true rfl, Nat.le_of_ble_eq_true rfl⟩)) (va_K.sub hK [0] rfl) hP hD hA hN hX [0, 1] [] rfl rfl (by decide) (by decide) (by decide) 0 4 rfl rfl rfl rfl hl.1 rfl (Nat.le_of_ble_eq_true rfl) dXL_share_3 (by rw [hR]; exact ⟨Nat.le_of_ble_eq_true rfl, Nat.le_of_ble_eq_true rfl⟩) (fun hz u9 H locs hp9 hP hD hS => ?_) (fun hz x ce H1 L hP hS hce hcl hvm => ?_)
  · obtain ⟨hu, f0⟩ := hp9
    subst hu
    have hP : va_P (dC, dI) vwCl [(ga, .inr (4, [.ref ta, .ref rda, .ref pa, .ref sa, .ref ea, .ref ba, .ref da])), (sa, .inl (cA, 8, .inl (jA ((f_XG_share fs z1 z2).2))))] H := hP
    have hD : va_D A [(ga, .inr (4, [.ref ta, .ref rda, .ref pa, .ref sa, .ref ea, .ref ba, .ref da])), (sa, .inl (cA, 8, .inl (jA ((f_XG_share fs z1 z2).2))))] := hD
    refine lv_goto (tgt := 15) hx hb dXL_share_6 (by decide) ?_
    refine ji_iconst hx hb dXL_share_15 ?_
    refine W.widen (k := 1) (n := 6) (Nat.le_of_ble_eq_true rfl) (Nat.le_of_ble_eq_true rfl) ?_
    have hP9 := hP.sub (ws' := [(ga, .inr (4, [.ref ta, .ref rda, .ref pa, .ref sa, .ref ea, .ref ba, .ref da])), (sa, .inl (cA, 8, .inl (jA ((f_XG_share fs z1 z2).2))))]) [0, 1] rfl
    have hD9 := hD.sub (ws' := [(ga, .inr (4, [.ref ta, .ref rda, .ref pa, .ref sa, .ref ea, .ref ba, .ref da])), (sa, .inl (cA, 8, .inl (jA ((f_XG_share fs z1 z2).2))))]) [0, 1] (by decide) rfl
    subst hAe
    subst hQ
    refine yW (fun _ h => yQ_of h) ?_
    exact W.iret (v := jI 0) hx hb hr (fun t ht hW => ⟨⟨_, (0, (f_XG_share fs z1 z2).2), rfl, ⟨rfl, by rw [f_XL_share_s, if_pos hz], by first | assumption | omega⟩, ⟨by rw [ht]; exact hP9, va_K.moved hW.alike hK, hD9⟩⟩, hS.F ht⟩) hS.2.2 dXL_share_16
  · rcases f_XG_share_e fs z1 z2 with h9 | h9 | h9
    · exact absurd h9 hz
    · rw [h9, xCls_1] at hcl
      refine zOn1 htab hown ⟨by decide, by decide⟩ (by decide) (hts _ (jmem tw_407)) hX.c1 hce hcl hvm ?_
      refine lv_astore_n (lv' := [(3, .ref x), (0, .ref ga), (1, .int (jI z1)), (2, .int (jI z2))]) hx hb dXL_share_9 rfl hl (by decide) rfl (fun ls hl => ?_)
      refine ji_iconst hx hb dXL_share_10 ?_
      refine W.widen (k := 1) (n := 6) (Nat.le_of_ble_eq_true rfl) (Nat.le_of_ble_eq_true rfl) ?_
      have hP9 := hP.sub (ws' := [(ga, .inr (4, [.ref ta, .ref rda, .ref pa, .ref sa, .ref ea, .ref ba, .ref da])), (sa, .inl (cA, 8, .inl (jA fs)))]) [0, 1] rfl
      have hD9 := hD.sub (ws' := [(ga, .inr (4, [.ref ta, .ref rda, .ref pa, .ref sa, .ref ea, .ref ba, .ref da])), (sa, .inl (cA, 8, .inl (jA fs)))]) [0, 1] (by decide) rfl
      subst hAe
      subst hQ
      refine yW (fun _ h => yQ_of h) ?_
      exact W.iret (v := jI 1) hx hb hr (fun t ht hW => ⟨⟨_, (1, fs), rfl, ⟨rfl, by rw [f_XL_share_s, if_neg hz, if_pos h9], by first | assumption | omega⟩, ⟨by rw [ht]; exact hP9, va_K.moved hW.alike hK, hD9⟩⟩, hS.F ht⟩) hS.2.2 dXL_share_11
    · rw [h9, xCls_3] at hcl
      refine zOn2 htab hown ⟨by decide, by decide⟩ (by decide) ⟨by decide, by decide⟩ (by decide) (hts _ (jmem tw_407)) hC.2.2 (hts _ (jmem tw_304)) hX.c3 hce hcl hvm ?_
      refine lv_astore_n (lv' := [(3, .ref x), (0, .ref ga), (1, .int (jI z1)), (2, .int (jI z2))]) hx hb dXL_share_12 rfl hl (by decide) rfl (fun ls hl => ?_)
      refine ji_iconst hx hb dXL_share_13 ?_
      refine W.widen (k := 1) (n := 6) (Nat.le_of_ble_eq_true rfl) (Nat.le_of_ble_eq_true rfl) ?_
      have hP9 := hP.sub (ws' := [(ga, .inr (4, [.ref ta, .ref rda, .ref pa, .ref sa, .ref ea, .ref ba, .ref da])), (sa, .inl (cA, 8, .inl (jA fs)))]) [0, 1] rfl
      have hD9 := hD.sub (ws' := [(ga, .inr (4, [.ref ta, .ref rda, .ref pa, .ref sa, .ref ea, .ref ba, .ref da])), (sa, .inl (cA, 8, .inl (jA fs)))]) [0, 1] (by decide) rfl
      subst hAe
      subst hQ
      refine yW (fun _ h => yQ_of h) ?_
      exact W.iret (v := jI 2) hx hb hr (fun t ht hW => ⟨⟨_, (2, fs), rfl, ⟨rfl, by rw [f_XL_share_s, if_neg hz, if_neg (by rw [h9]; decide)], by first | assumption | omega⟩, ⟨by rw [ht]; exact hP9, va_K.moved hW.alike hK, hD9⟩⟩, hS.F ht⟩) hS.2.2 dXL_share_14
noncomputable def g_XL_value (bg : Int) (bf : Int) (fd : Int → Int) (fs : Int → Int) (z1 : Int) (z2 : Int) (fo : Int → Int) : Int × (Int → Int) :=
  if (f_XG_value bg bf fd fs z1 z2).1 = 0 then
    (0, jset fo 0 ((f_XG_value bg bf fd fs z1 z2).2))
  else
    if (f_XG_value bg bf fd fs z1 z2).1 = 1 then
      (1, fo)
    else
      (2, fo)
noncomputable def f_XL_value : Int → Int → (Int → Int) → (Int → Int) → Int → Int → (Int → Int) → Int × (Int → Int) := jopq g_XL_value
theorem f_XL_value_q : f_XL_value = g_XL_value := jopq_eq _
theorem f_XL_value_s (bg : Int) (bf : Int) (fd : Int → Int) (fs : Int → Int) (z1 : Int) (z2 : Int) (fo : Int → Int) : f_XL_value bg bf fd fs z1 z2 fo = (
    if (f_XG_value bg bf fd fs z1 z2).1 = 0 then
      (0, jset fo 0 ((f_XG_value bg bf fd fs z1 z2).2))
    else
      if (f_XG_value bg bf fd fs z1 z2).1 = 1 then
        (1, fo)
      else
        (2, fo)
  : Int × (Int → Int)) := by rw [f_XL_value_q]; rfl
set_option maxHeartbeats 4000000 in
set_option maxRecDepth 100000 in
theorem c_XL_value (l : Launch) (hst : l.stackTraces = false) (dC : Nat → ClassId) (dI : Nat → Nat → Nat) (cA cL : ClassId) (sz : Nat) (ga : Nat) (ta : Nat) (rda : Nat) (pa : Nat) (sa : Nat) (ea : Nat) (ba : Nat) (da : Nat) (bt : Nat) (bp : Nat) (bl : Nat) (bh : Nat) (bq : Nat) (br : Nat) (bd : Nat) (bg : Int) (bf : Int) (fd : Int → Int) (fs : Int → Int) (z1 : Int) (z2 : Int) (oa : Nat) (fo : Int → Int) (hbd : ∀ i, 0 ≤ fd i ∧ fd i ≤ 20) (hbf : 0 ≤ bf ∧ bf < 2147483648) (hfs0 : ∀ i, -1 ≤ fs i ∧ fs i ≤ 100000) (hi_z1 : i32 z1) (hi_z2 : i32 z2) : YMet l yXL_value (Cond.codeWith yXL_value cXL_value 5 (some .int) [(0, 9, 12, 21), (0, 9, 16, 31)] :: TBL) ({ frames := 8, cells := 1, slots := 6, locals := 125 } : Room) (va_Pc [.ref ga, .int (jI z1), .int (jI z2), .ref oa] (jBc (dC, dI) [(cA, .int), (cL, .long)] [(ga, .inr (4, [.ref ta, .ref rda, .ref pa, .ref sa, .ref ea, .ref ba, .ref da])), (ba, .inr (0, [.ref bt, .ref bp, .ref bl, .ref bh, .ref bq, .ref br, .ref bd, .int (jI bg), .int (jI bf)])), (bd, .inl (cA, 32, .inl (jA fd))), (sa, .inl (cA, 8, .inl (jA fs))), (oa, .inl (cL, 1, .inr (.inl (jAL fo))))] sz)) (va_Qi (fun (r : Int32) (u : Int × (Int → Int)) => r = jI u.1 ∧ u = f_XL_value bg bf fd fs z1 z2 fo) (fun u t => jE (dC, dI) [(cA, .int), (cL, .long)] [(ga, .inr (4, [.ref ta, .ref rda, .ref pa, .ref sa, .ref ea, .ref ba, .ref da])), (ba, .inr (0, [.ref bt, .ref bp, .ref bl, .ref bh, .ref bq, .ref br, .ref bd, .int (jI bg), .int (jI bf)])), (bd, .inl (cA, 32, .inl (jA fd))), (sa, .inl (cA, 8, .inl (jA fs))), (oa, .inl (cL, 1, .inr (.inl (jAL fo))))] sz [(ga, .inr (4, [.ref ta, .ref rda, .ref pa, .ref sa, .ref ea, .ref ba, .ref da])), (ba, .inr (0, [.ref bt, .ref bp, .ref bl, .ref bh, .ref bq, .ref br, .ref bd, .int (jI bg), .int (jI bf)])), (bd, .inl (cA, 32, .inl (jA fd))), (sa, .inl (cA, 8, .inl (jA fs))), (oa, .inl (cL, 1, .inr (.inl (jAL u.2))))] t) (va_A [(ga, .inr (4, [.ref ta, .ref rda, .ref pa, .ref sa, .ref ea, .ref ba, .ref da])), (ba, .inr (0, [.ref bt, .ref bp, .ref bl, .ref bh, .ref bq, .ref br, .ref bd, .int (jI bg), .int (jI bf)])), (bd, .inl (cA, 32, .inl (jA fd))), (sa, .inl (cA, 8, .inl (jA fs))), (oa, .inl (cL, 1, .inr (.inl (jAL fo))))] sz)) 1 6 1 6 (va_A [(ga, .inr (4, [.ref ta, .ref rda, .ref pa, .ref sa, .ref ea, .ref ba, .ref da])), (ba, .inr (0, [.ref bt, .ref bp, .ref bl, .ref bh, .ref bq, .ref br, .ref bd, .int (jI bg), .int (jI bf)])), (bd, .inl (cA, 32, .inl (jA fd))), (sa, .inl (cA, 8, .inl (jA fs))), (oa, .inl (cL, 1, .inr (.inl (jAL fo))))] sz) := by
  refine YMet.ofWH (cc := cXL_value) (maxL := 5) (ret := some .int) (hh := [(0, 9, 12, 21), (0, 9, 16, 31)]) (by decide) rfl ?_
  intro p e s m args below meth c s₁ R Q hR hQ B hml htab hv
  obtain ⟨rfl, ⟨hsz, hP, hK, hD0, hN⟩, hX, hC⟩ := hv
  have hx := B.exec
  have hb := B.bytes
  have hr := B.returns
  have hts := atoms_spec (ws := Cond.codeWith yXL_value cXL_value 5 (some .int) [(0, 9, 12, 21), (0, 9, 16, 31)] :: TBL) B.pre
  have hown : s.vm.findClass RXL = some m.cls := findClass_of_methodNamed B.named
  have hlocks := B.notSynchronized
  subst hsz
  obtain ⟨A, hAe⟩ : ∃ A, A = va_A [(ga, .inr (4, [.ref ta, .ref rda, .ref pa, .ref sa, .ref ea, .ref ba, .ref da])), (ba, .inr (0, [.ref bt, .ref bp, .ref bl, .ref bh, .ref bq, .ref br, .ref bd, .int (jI bg), .int (jI bf)])), (bd, .inl (cA, 32, .inl (jA fd))), (sa, .inl (cA, 8, .inl (jA fs))), (oa, .inl (cL, 1, .inr (.inl (jAL fo))))] s.heap.size := ⟨_, rfl⟩
  have hD : va_D A [(ga, .inr (4, [.ref ta, .ref rda, .ref pa, .ref sa, .ref ea, .ref ba, .ref da])), (ba, .inr (0, [.ref bt, .ref bp, .ref bl, .ref bh, .ref bq, .ref br, .ref bd, .int (jI bg), .int (jI bf)])), (bd, .inl (cA, 32, .inl (jA fd))), (sa, .inl (cA, 8, .inl (jA fs))), (oa, .inl (cL, 1, .inr (.inl (jAL fo))))] := by rw [hAe]; exact hD0.self
  have hA : ∀ q : Nat, s.heap.size ≤ q → A q := fun q h => by rw [hAe]; exact Or.inr h
  have hS : va_S A s.heap s.heap [] := va_S.rf
  have hP : va_P (dC, dI) vwCl [(ga, .inr (4, [.ref ta, .ref rda, .ref pa, .ref sa, .ref ea, .ref ba, .ref da])), (ba, .inr (0, [.ref bt, .ref bp, .ref bl, .ref bh, .ref bq, .ref br, .ref bd, .int (jI bg), .int (jI bf)])), (bd, .inl (cA, 32, .inl (jA fd))), (sa, .inl (cA, 8, .inl (jA fs))), (oa, .inl (cL, 1, .inr (.inl (jAL fo))))] s.heap := hP
  have hl := lv_entry ([.ref ga, .int (jI z1), .int (jI z2), .ref oa]) (n := 5) (Nat.le_of_ble_eq_true rfl)
  rw [lg_entry_eq]
  generalize (lg_sl ([.ref ga, .int (jI z1), .int (jI z2), .ref oa]) ++ List.replicate (5 - (lg_sl ([.ref ga, .int (jI z1), .int (jI z2), .ref oa])).length) Slot.unset).toArray = ls at hl ⊢
  have hl : lv_has ls 5 [(0, .ref ga), (1, .int (jI z1)), (2, .int (jI z2)), (3, .ref oa)] := hl
  refine lv_aload_n hx hb dXL_value_0 rfl (lv_at hl 3 rfl) ?_
  refine ji_iconst hx hb dXL_value_1 ?_
  refine lv_aload_n hx hb dXL_value_2 rfl (lv_at hl 0 rfl) ?_
  refine lv_iload_n hx hb dXL_value_3 rfl (lv_at hl 1 rfl) ?_
  refine lv_iload_n hx hb dXL_value_4 rfl (lv_at hl 2 rfl) ?_
  refine ztRl (A := A) (rest := [.int (jI 0), .ref oa]) ⟨hx, hb, hml, hown, hts⟩ (c_XG_value l hst dC dI cA ga ta rda pa sa ea ba da bt bp bl bh bq br bd bg bf fd fs z1 z2 hbd hbf hfs0 hi_z1 hi_z2) (cwV 2 hts (jG_V tw_514 tw_515 tw_516 tw_1 tw_517) rfl rfl rfl (by decide +kernel) (by rw [hR]; exact ⟨Nat.le_of_ble_eq_true rfl, Nat.le_of_ble_eq_true rfl⟩)) (va_K.sub hK [0] rfl) hP hN hX [0, 1, 2, 3] rfl 0 4 rfl rfl rfl rfl hl.1 rfl (Nat.le_of_ble_eq_true rfl) dXL_value_5 (by rw [hR]; exact ⟨Nat.le_of_ble_eq_true rfl, Nat.le_of_ble_eq_true rfl⟩) (fun hz => ?_) (fun hz x ce H1 L hP hS hce hcl hvm => ?_)
  · refine ji_last hx hb hK hP hD hS 4 1 rfl rfl ⟨by decide, by decide⟩ (by decide) dXL_value_8 (fun H locs hP hD hS => ?_)
    have hP : va_P (dC, dI) vwCl [(ga, .inr (4, [.ref ta, .ref rda, .ref pa, .ref sa, .ref ea, .ref ba, .ref da])), (ba, .inr (0, [.ref bt, .ref bp, .ref bl, .ref bh, .ref bq, .ref br, .ref bd, .int (jI bg), .int (jI bf)])), (bd, .inl (cA, 32, .inl (jA fd))), (sa, .inl (cA, 8, .inl (jA fs))), (oa, .inl (cL, 1, .inr (.inl (jAL (jset fo 0 ((f_XG_value bg bf fd fs z1 z2).2))))))] H := hP
    have hD : va_D A [(ga, .inr (4, [.ref ta, .ref rda, .ref pa, .ref sa, .ref ea, .ref ba, .ref da])), (ba, .inr (0, [.ref bt, .ref bp, .ref bl, .ref bh, .ref bq, .ref br, .ref bd, .int (jI bg), .int (jI bf)])), (bd, .inl (cA, 32, .inl (jA fd))), (sa, .inl (cA, 8, .inl (jA fs))), (oa, .inl (cL, 1, .inr (.inl (jAL (jset fo 0 ((f_XG_value bg bf fd fs z1 z2).2))))))] := hD
    refine lv_goto (tgt := 20) hx hb dXL_value_9 (by decide) ?_
    refine ji_iconst hx hb dXL_value_20 ?_
    refine W.widen (k := 1) (n := 6) (Nat.le_of_ble_eq_true rfl) (Nat.le_of_ble_eq_true rfl) ?_
    have hP9 := hP.sub (ws' := [(ga, .inr (4, [.ref ta, .ref rda, .ref pa, .ref sa, .ref ea, .ref ba, .ref da])), (ba, .inr (0, [.ref bt, .ref bp, .ref bl, .ref bh, .ref bq, .ref br, .ref bd, .int (jI bg), .int (jI bf)])), (bd, .inl (cA, 32, .inl (jA fd))), (sa, .inl (cA, 8, .inl (jA fs))), (oa, .inl (cL, 1, .inr (.inl (jAL (jset fo 0 ((f_XG_value bg bf fd fs z1 z2).2))))))]) [0, 1, 2, 3, 4] rfl
    have hD9 := hD.sub (ws' := [(ga, .inr (4, [.ref ta, .ref rda, .ref pa, .ref sa, .ref ea, .ref ba, .ref da])), (ba, .inr (0, [.ref bt, .ref bp, .ref bl, .ref bh, .ref bq, .ref br, .ref bd, .int (jI bg), .int (jI bf)])), (bd, .inl (cA, 32, .inl (jA fd))), (sa, .inl (cA, 8, .inl (jA fs))), (oa, .inl (cL, 1, .inr (.inl (jAL (jset fo 0 ((f_XG_value bg bf fd fs z1 z2).2))))))]) [0, 1, 2, 3, 4] (by decide) rfl
    subst hAe
    subst hQ
    refine yW (fun _ h => yQ_of h) ?_
    exact W.iret (v := jI 0) hx hb hr (fun t ht hW => ⟨⟨_, (0, jset fo 0 ((f_XG_value bg bf fd fs z1 z2).2)), rfl, ⟨rfl, by rw [f_XL_value_s, if_pos hz]⟩, ⟨by rw [ht]; exact hP9, va_K.moved hW.alike hK, hD9⟩⟩, hS.F ht⟩) hS.2.2 dXL_value_21
  · rcases f_XG_value_e bg bf fd fs z1 z2 with h9 | h9 | h9
    · exact absurd h9 hz
    · rw [h9, xCls_1] at hcl
      refine zOn1 htab hown ⟨by decide, by decide⟩ (by decide) (hts _ (jmem tw_407)) hX.c1 hce hcl hvm ?_
      refine lv_astore (lv' := [(4, .ref x), (0, .ref ga), (1, .int (jI z1)), (2, .int (jI z2)), (3, .ref oa)]) hx hb dXL_value_12 hl (by decide) rfl (fun ls hl => ?_)
      refine ji_iconst hx hb dXL_value_14 ?_
      refine W.widen (k := 1) (n := 6) (Nat.le_of_ble_eq_true rfl) (Nat.le_of_ble_eq_true rfl) ?_
      have hP9 := hP.sub (ws' := [(ga, .inr (4, [.ref ta, .ref rda, .ref pa, .ref sa, .ref ea, .ref ba, .ref da])), (ba, .inr (0, [.ref bt, .ref bp, .ref bl, .ref bh, .ref bq, .ref br, .ref bd, .int (jI bg), .int (jI bf)])), (bd, .inl (cA, 32, .inl (jA fd))), (sa, .inl (cA, 8, .inl (jA fs))), (oa, .inl (cL, 1, .inr (.inl (jAL fo))))]) [0, 1, 2, 3, 4] rfl
      have hD9 := hD.sub (ws' := [(ga, .inr (4, [.ref ta, .ref rda, .ref pa, .ref sa, .ref ea, .ref ba, .ref da])), (ba, .inr (0, [.ref bt, .ref bp, .ref bl, .ref bh, .ref bq, .ref br, .ref bd, .int (jI bg), .int (jI bf)])), (bd, .inl (cA, 32, .inl (jA fd))), (sa, .inl (cA, 8, .inl (jA fs))), (oa, .inl (cL, 1, .inr (.inl (jAL fo))))]) [0, 1, 2, 3, 4] (by decide) rfl
      subst hAe
      subst hQ
      refine yW (fun _ h => yQ_of h) ?_
      exact W.iret (v := jI 1) hx hb hr (fun t ht hW => ⟨⟨_, (1, fo), rfl, ⟨rfl, by rw [f_XL_value_s, if_neg hz, if_pos h9]⟩, ⟨by rw [ht]; exact hP9, va_K.moved hW.alike hK, hD9⟩⟩, hS.F ht⟩) hS.2.2 dXL_value_15
    · rw [h9, xCls_2] at hcl
      refine zOn2 htab hown ⟨by decide, by decide⟩ (by decide) ⟨by decide, by decide⟩ (by decide) (hts _ (jmem tw_407)) hC.2.1 (hts _ (jmem tw_458)) hX.c2 hce hcl hvm ?_
      refine lv_astore (lv' := [(4, .ref x), (0, .ref ga), (1, .int (jI z1)), (2, .int (jI z2)), (3, .ref oa)]) hx hb dXL_value_16 hl (by decide) rfl (fun ls hl => ?_)
      refine ji_iconst hx hb dXL_value_18 ?_
      refine W.widen (k := 1) (n := 6) (Nat.le_of_ble_eq_true rfl) (Nat.le_of_ble_eq_true rfl) ?_
      have hP9 := hP.sub (ws' := [(ga, .inr (4, [.ref ta, .ref rda, .ref pa, .ref sa, .ref ea, .ref ba, .ref da])), (ba, .inr (0, [.ref bt, .ref bp, .ref bl, .ref bh, .ref bq, .ref br, .ref bd, .int (jI bg), .int (jI bf)])), (bd, .inl (cA, 32, .inl (jA fd))), (sa, .inl (cA, 8, .inl (jA fs))), (oa, .inl (cL, 1, .inr (.inl (jAL fo))))]) [0, 1, 2, 3, 4] rfl
      have hD9 := hD.sub (ws' := [(ga, .inr (4, [.ref ta, .ref rda, .ref pa, .ref sa, .ref ea, .ref ba, .ref da])), (ba, .inr (0, [.ref bt, .ref bp, .ref bl, .ref bh, .ref bq, .ref br, .ref bd, .int (jI bg), .int (jI bf)])), (bd, .inl (cA, 32, .inl (jA fd))), (sa, .inl (cA, 8, .inl (jA fs))), (oa, .inl (cL, 1, .inr (.inl (jAL fo))))]) [0, 1, 2, 3, 4] (by decide) rfl
      subst hAe
      subst hQ
      refine yW (fun _ h => yQ_of h) ?_
      exact W.iret (v := jI 2) hx hb hr (fun t ht hW => ⟨⟨_, (2, fo), rfl, ⟨rfl, by rw [f_XL_value_s, if_neg hz, if_neg (by rw [h9]; decide)]⟩, ⟨by rw [ht]; exact hP9, va_K.moved hW.alike hK, hD9⟩⟩, hS.F ht⟩) hS.2.2 dXL_value_19
noncomputable def g_XL_fits (bg : Int) (bf : Int) (fp : Int → Int) (fl : Int → Int) (fh : Int → Int) (fq : Int → Int) (fd : Int → Int) (fs : Int → Int) (z1 : Int) (fo : Int → Int) : Int × (Int → Int) :=
  if (f_XG_fits bg bf fp fl fh fq fd fs z1).1 = 0 then
    (0, jset fo 0 (jw ((f_XG_fits bg bf fp fl fh fq fd fs z1).2)))
  else
    (1, fo)
noncomputable def f_XL_fits : Int → Int → (Int → Int) → (Int → Int) → (Int → Int) → (Int → Int) → (Int → Int) → (Int → Int) → Int → (Int → Int) → Int × (Int → Int) := jopq g_XL_fits
theorem f_XL_fits_q : f_XL_fits = g_XL_fits := jopq_eq _
theorem f_XL_fits_s (bg : Int) (bf : Int) (fp : Int → Int) (fl : Int → Int) (fh : Int → Int) (fq : Int → Int) (fd : Int → Int) (fs : Int → Int) (z1 : Int) (fo : Int → Int) : f_XL_fits bg bf fp fl fh fq fd fs z1 fo = (
    if (f_XG_fits bg bf fp fl fh fq fd fs z1).1 = 0 then
      (0, jset fo 0 (jw ((f_XG_fits bg bf fp fl fh fq fd fs z1).2)))
    else
      (1, fo)
  : Int × (Int → Int)) := by rw [f_XL_fits_q]; rfl
set_option maxHeartbeats 4000000 in
set_option maxRecDepth 100000 in
theorem c_XL_fits (l : Launch) (hst : l.stackTraces = false) (dC : Nat → ClassId) (dI : Nat → Nat → Nat) (cA cL : ClassId) (sz : Nat) (ga : Nat) (ta : Nat) (rda : Nat) (pa : Nat) (sa : Nat) (ea : Nat) (ba : Nat) (da : Nat) (bt : Nat) (bp : Nat) (bl : Nat) (bh : Nat) (bq : Nat) (br : Nat) (bd : Nat) (bg : Int) (bf : Int) (fp : Int → Int) (fl : Int → Int) (fh : Int → Int) (fq : Int → Int) (fd : Int → Int) (fs : Int → Int) (z1 : Int) (oa : Nat) (fo : Int → Int) (hbp : ∀ i, 0 ≤ fp i ∧ fp i ≤ 30) (hbl : ∀ i, 0 ≤ fl i ∧ fl i ≤ 100000) (hbh : ∀ i, -1 ≤ fh i ∧ fh i ≤ 100000) (hbq : ∀ i, -1 ≤ fq i ∧ fq i ≤ 999999) (hbd : ∀ i, 0 ≤ fd i ∧ fd i ≤ 20) (hbg : 0 ≤ bg ∧ bg < 2147483648) (hbf : 0 ≤ bf ∧ bf < 2147483648) (hfs0 : ∀ i, -1 ≤ fs i ∧ fs i ≤ 100000) (hi_z1 : i32 z1) : YMet l yXL_fits (Cond.codeWith yXL_fits cXL_fits 4 (some .int) [(0, 9, 12, 21)] :: TBL) ({ frames := 8, cells := 1, slots := 6, locals := 126 } : Room) (va_Pc [.ref ga, .int (jI z1), .ref oa] (jBc (dC, dI) [(cA, .int), (cL, .long)] [(ga, .inr (4, [.ref ta, .ref rda, .ref pa, .ref sa, .ref ea, .ref ba, .ref da])), (ba, .inr (0, [.ref bt, .ref bp, .ref bl, .ref bh, .ref bq, .ref br, .ref bd, .int (jI bg), .int (jI bf)])), (bp, .inl (cA, 31, .inl (jA fp))), (bl, .inl (cA, 248, .inl (jA fl))), (bh, .inl (cA, 248, .inl (jA fh))), (bq, .inl (cA, 124, .inl (jA fq))), (bd, .inl (cA, 32, .inl (jA fd))), (sa, .inl (cA, 8, .inl (jA fs))), (oa, .inl (cL, 1, .inr (.inl (jAL fo))))] sz)) (va_Qi (fun (r : Int32) (u : Int × (Int → Int)) => r = jI u.1 ∧ u = f_XL_fits bg bf fp fl fh fq fd fs z1 fo) (fun u t => jE (dC, dI) [(cA, .int), (cL, .long)] [(ga, .inr (4, [.ref ta, .ref rda, .ref pa, .ref sa, .ref ea, .ref ba, .ref da])), (ba, .inr (0, [.ref bt, .ref bp, .ref bl, .ref bh, .ref bq, .ref br, .ref bd, .int (jI bg), .int (jI bf)])), (bp, .inl (cA, 31, .inl (jA fp))), (bl, .inl (cA, 248, .inl (jA fl))), (bh, .inl (cA, 248, .inl (jA fh))), (bq, .inl (cA, 124, .inl (jA fq))), (bd, .inl (cA, 32, .inl (jA fd))), (sa, .inl (cA, 8, .inl (jA fs))), (oa, .inl (cL, 1, .inr (.inl (jAL fo))))] sz [(ga, .inr (4, [.ref ta, .ref rda, .ref pa, .ref sa, .ref ea, .ref ba, .ref da])), (ba, .inr (0, [.ref bt, .ref bp, .ref bl, .ref bh, .ref bq, .ref br, .ref bd, .int (jI bg), .int (jI bf)])), (bp, .inl (cA, 31, .inl (jA fp))), (bl, .inl (cA, 248, .inl (jA fl))), (bh, .inl (cA, 248, .inl (jA fh))), (bq, .inl (cA, 124, .inl (jA fq))), (bd, .inl (cA, 32, .inl (jA fd))), (sa, .inl (cA, 8, .inl (jA fs))), (oa, .inl (cL, 1, .inr (.inl (jAL u.2))))] t) (va_A [(ga, .inr (4, [.ref ta, .ref rda, .ref pa, .ref sa, .ref ea, .ref ba, .ref da])), (ba, .inr (0, [.ref bt, .ref bp, .ref bl, .ref bh, .ref bq, .ref br, .ref bd, .int (jI bg), .int (jI bf)])), (bp, .inl (cA, 31, .inl (jA fp))), (bl, .inl (cA, 248, .inl (jA fl))), (bh, .inl (cA, 248, .inl (jA fh))), (bq, .inl (cA, 124, .inl (jA fq))), (bd, .inl (cA, 32, .inl (jA fd))), (sa, .inl (cA, 8, .inl (jA fs))), (oa, .inl (cL, 1, .inr (.inl (jAL fo))))] sz)) 1 6 1 6 (va_A [(ga, .inr (4, [.ref ta, .ref rda, .ref pa, .ref sa, .ref ea, .ref ba, .ref da])), (ba, .inr (0, [.ref bt, .ref bp, .ref bl, .ref bh, .ref bq, .ref br, .ref bd, .int (jI bg), .int (jI bf)])), (bp, .inl (cA, 31, .inl (jA fp))), (bl, .inl (cA, 248, .inl (jA fl))), (bh, .inl (cA, 248, .inl (jA fh))), (bq, .inl (cA, 124, .inl (jA fq))), (bd, .inl (cA, 32, .inl (jA fd))), (sa, .inl (cA, 8, .inl (jA fs))), (oa, .inl (cL, 1, .inr (.inl (jAL fo))))] sz) := by
  refine YMet.ofWH (cc := cXL_fits) (maxL := 4) (ret := some .int) (hh := [(0, 9, 12, 21)]) (by decide) rfl ?_
  intro p e s m args below meth c s₁ R Q hR hQ B hml htab hv
  obtain ⟨rfl, ⟨hsz, hP, hK, hD0, hN⟩, hX, hC⟩ := hv
  have hx := B.exec
  have hb := B.bytes
  have hr := B.returns
  have hts := atoms_spec (ws := Cond.codeWith yXL_fits cXL_fits 4 (some .int) [(0, 9, 12, 21)] :: TBL) B.pre
  have hown : s.vm.findClass RXL = some m.cls := findClass_of_methodNamed B.named
  have hlocks := B.notSynchronized
  subst hsz
  obtain ⟨A, hAe⟩ : ∃ A, A = va_A [(ga, .inr (4, [.ref ta, .ref rda, .ref pa, .ref sa, .ref ea, .ref ba, .ref da])), (ba, .inr (0, [.ref bt, .ref bp, .ref bl, .ref bh, .ref bq, .ref br, .ref bd, .int (jI bg), .int (jI bf)])), (bp, .inl (cA, 31, .inl (jA fp))), (bl, .inl (cA, 248, .inl (jA fl))), (bh, .inl (cA, 248, .inl (jA fh))), (bq, .inl (cA, 124, .inl (jA fq))), (bd, .inl (cA, 32, .inl (jA fd))), (sa, .inl (cA, 8, .inl (jA fs))), (oa, .inl (cL, 1, .inr (.inl (jAL fo))))] s.heap.size := ⟨_, rfl⟩
  have hD : va_D A [(ga, .inr (4, [.ref ta, .ref rda, .ref pa, .ref sa, .ref ea, .ref ba, .ref da])), (ba, .inr (0, [.ref bt, .ref bp, .ref bl, .ref bh, .ref bq, .ref br, .ref bd, .int (jI bg), .int (jI bf)])), (bp, .inl (cA, 31, .inl (jA fp))), (bl, .inl (cA, 248, .inl (jA fl))), (bh, .inl (cA, 248, .inl (jA fh))), (bq, .inl (cA, 124, .inl (jA fq))), (bd, .inl (cA, 32, .inl (jA fd))), (sa, .inl (cA, 8, .inl (jA fs))), (oa, .inl (cL, 1, .inr (.inl (jAL fo))))] := by rw [hAe]; exact hD0.self
  have hA : ∀ q : Nat, s.heap.size ≤ q → A q := fun q h => by rw [hAe]; exact Or.inr h
  have hS : va_S A s.heap s.heap [] := va_S.rf
  have hP : va_P (dC, dI) vwCl [(ga, .inr (4, [.ref ta, .ref rda, .ref pa, .ref sa, .ref ea, .ref ba, .ref da])), (ba, .inr (0, [.ref bt, .ref bp, .ref bl, .ref bh, .ref bq, .ref br, .ref bd, .int (jI bg), .int (jI bf)])), (bp, .inl (cA, 31, .inl (jA fp))), (bl, .inl (cA, 248, .inl (jA fl))), (bh, .inl (cA, 248, .inl (jA fh))), (bq, .inl (cA, 124, .inl (jA fq))), (bd, .inl (cA, 32, .inl (jA fd))), (sa, .inl (cA, 8, .inl (jA fs))), (oa, .inl (cL, 1, .inr (.inl (jAL fo))))] s.heap := hP
  have hl := lv_entry ([.ref ga, .int (jI z1), .ref oa]) (n := 4) (Nat.le_of_ble_eq_true rfl)
  rw [lg_entry_eq]
  generalize (lg_sl ([.ref ga, .int (jI z1), .ref oa]) ++ List.replicate (4 - (lg_sl ([.ref ga, .int (jI z1), .ref oa])).length) Slot.unset).toArray = ls at hl ⊢
  have hl : lv_has ls 4 [(0, .ref ga), (1, .int (jI z1)), (2, .ref oa)] := hl
  refine lv_aload_n hx hb dXL_fits_0 rfl (lv_at hl 2 rfl) ?_
  refine ji_iconst hx hb dXL_fits_1 ?_
  refine lv_aload_n hx hb dXL_fits_2 rfl (lv_at hl 0 rfl) ?_
  refine lv_iload_n hx hb dXL_fits_3 rfl (lv_at hl 1 rfl) ?_
  refine ztRi (A := A) (rest := [.int (jI 0), .ref oa]) ⟨hx, hb, hml, hown, hts⟩ (c_XG_fits l hst dC dI cA ga ta rda pa sa ea ba da bt bp bl bh bq br bd bg bf fp fl fh fq fd fs z1 hbp hbl hbh hbq hbd hbg hbf hfs0 hi_z1) (cwV 1 hts (jG_V tw_521 tw_522 tw_523 tw_1 tw_524) rfl rfl rfl (by decide +kernel) (by rw [hR]; exact ⟨Nat.le_of_ble_eq_true rfl, Nat.le_of_ble_eq_true rfl⟩)) (va_K.sub hK [0] rfl) hP hN hX [0, 1, 2, 3, 4, 5, 6, 7] rfl 0 4 rfl rfl rfl rfl hl.1 rfl (Nat.le_of_ble_eq_true rfl) dXL_fits_4 (by rw [hR]; exact ⟨Nat.le_of_ble_eq_true rfl, Nat.le_of_ble_eq_true rfl⟩) (fun hz => ?_) (fun hz x ce H1 L hP hS hce hcl hvm => ?_)
  · refine ji_re (y := jw ((f_XG_fits bg bf fp fl fh fq fd fs z1).2)) (jI_jw _).symm ?_
    refine ji_i2l hx hb dXL_fits_7 (jw_i _) ?_
    refine ji_last hx hb hK hP hD hS 8 1 rfl rfl ⟨by decide, by decide⟩ (by decide) dXL_fits_8 (fun H locs hP hD hS => ?_)
    have hP : va_P (dC, dI) vwCl [(ga, .inr (4, [.ref ta, .ref rda, .ref pa, .ref sa, .ref ea, .ref ba, .ref da])), (ba, .inr (0, [.ref bt, .ref bp, .ref bl, .ref bh, .ref bq, .ref br, .ref bd, .int (jI bg), .int (jI bf)])), (bp, .inl (cA, 31, .inl (jA fp))), (bl, .inl (cA, 248, .inl (jA fl))), (bh, .inl (cA, 248, .inl (jA fh))), (bq, .inl (cA, 124, .inl (jA fq))), (bd, .inl (cA, 32, .inl (jA fd))), (sa, .inl (cA, 8, .inl (jA fs))), (oa, .inl (cL, 1, .inr (.inl (jAL (jset fo 0 (jw ((f_XG_fits bg bf fp fl fh fq fd fs z1).2)))))))] H := hP
    have hD : va_D A [(ga, .inr (4, [.ref ta, .ref rda, .ref pa, .ref sa, .ref ea, .ref ba, .ref da])), (ba, .inr (0, [.ref bt, .ref bp, .ref bl, .ref bh, .ref bq, .ref br, .ref bd, .int (jI bg), .int (jI bf)])), (bp, .inl (cA, 31, .inl (jA fp))), (bl, .inl (cA, 248, .inl (jA fl))), (bh, .inl (cA, 248, .inl (jA fh))), (bq, .inl (cA, 124, .inl (jA fq))), (bd, .inl (cA, 32, .inl (jA fd))), (sa, .inl (cA, 8, .inl (jA fs))), (oa, .inl (cL, 1, .inr (.inl (jAL (jset fo 0 (jw ((f_XG_fits bg bf fp fl fh fq fd fs z1).2)))))))] := hD
    refine lv_goto (tgt := 15) hx hb dXL_fits_9 (by decide) ?_
    refine ji_iconst hx hb dXL_fits_15 ?_
    refine W.widen (k := 1) (n := 6) (Nat.le_of_ble_eq_true rfl) (Nat.le_of_ble_eq_true rfl) ?_
    have hP9 := hP.sub (ws' := [(ga, .inr (4, [.ref ta, .ref rda, .ref pa, .ref sa, .ref ea, .ref ba, .ref da])), (ba, .inr (0, [.ref bt, .ref bp, .ref bl, .ref bh, .ref bq, .ref br, .ref bd, .int (jI bg), .int (jI bf)])), (bp, .inl (cA, 31, .inl (jA fp))), (bl, .inl (cA, 248, .inl (jA fl))), (bh, .inl (cA, 248, .inl (jA fh))), (bq, .inl (cA, 124, .inl (jA fq))), (bd, .inl (cA, 32, .inl (jA fd))), (sa, .inl (cA, 8, .inl (jA fs))), (oa, .inl (cL, 1, .inr (.inl (jAL (jset fo 0 (jw ((f_XG_fits bg bf fp fl fh fq fd fs z1).2)))))))]) [0, 1, 2, 3, 4, 5, 6, 7, 8] rfl
    have hD9 := hD.sub (ws' := [(ga, .inr (4, [.ref ta, .ref rda, .ref pa, .ref sa, .ref ea, .ref ba, .ref da])), (ba, .inr (0, [.ref bt, .ref bp, .ref bl, .ref bh, .ref bq, .ref br, .ref bd, .int (jI bg), .int (jI bf)])), (bp, .inl (cA, 31, .inl (jA fp))), (bl, .inl (cA, 248, .inl (jA fl))), (bh, .inl (cA, 248, .inl (jA fh))), (bq, .inl (cA, 124, .inl (jA fq))), (bd, .inl (cA, 32, .inl (jA fd))), (sa, .inl (cA, 8, .inl (jA fs))), (oa, .inl (cL, 1, .inr (.inl (jAL (jset fo 0 (jw ((f_XG_fits bg bf fp fl fh fq fd fs z1).2)))))))]) [0, 1, 2, 3, 4, 5, 6, 7, 8] (by decide) rfl
    subst hAe
    subst hQ
    refine yW (fun _ h => yQ_of h) ?_
    exact W.iret (v := jI 0) hx hb hr (fun t ht hW => ⟨⟨_, (0, jset fo 0 (jw ((f_XG_fits bg bf fp fl fh fq fd fs z1).2))), rfl, ⟨rfl, by rw [f_XL_fits_s, if_pos hz]⟩, ⟨by rw [ht]; exact hP9, va_K.moved hW.alike hK, hD9⟩⟩, hS.F ht⟩) hS.2.2 dXL_fits_16
  · rcases f_XG_fits_e bg bf fp fl fh fq fd fs z1 with h9 | h9
    · exact absurd h9 hz
    · rw [h9, xCls_1] at hcl
      refine zOn1 htab hown ⟨by decide, by decide⟩ (by decide) (hts _ (jmem tw_407)) hX.c1 hce hcl hvm ?_
      refine lv_astore_n (lv' := [(3, .ref x), (0, .ref ga), (1, .int (jI z1)), (2, .ref oa)]) hx hb dXL_fits_12 rfl hl (by decide) rfl (fun ls hl => ?_)
      refine ji_iconst hx hb dXL_fits_13 ?_
      refine W.widen (k := 1) (n := 6) (Nat.le_of_ble_eq_true rfl) (Nat.le_of_ble_eq_true rfl) ?_
      have hP9 := hP.sub (ws' := [(ga, .inr (4, [.ref ta, .ref rda, .ref pa, .ref sa, .ref ea, .ref ba, .ref da])), (ba, .inr (0, [.ref bt, .ref bp, .ref bl, .ref bh, .ref bq, .ref br, .ref bd, .int (jI bg), .int (jI bf)])), (bp, .inl (cA, 31, .inl (jA fp))), (bl, .inl (cA, 248, .inl (jA fl))), (bh, .inl (cA, 248, .inl (jA fh))), (bq, .inl (cA, 124, .inl (jA fq))), (bd, .inl (cA, 32, .inl (jA fd))), (sa, .inl (cA, 8, .inl (jA fs))), (oa, .inl (cL, 1, .inr (.inl (jAL fo))))]) [0, 1, 2, 3, 4, 5, 6, 7, 8] rfl
      have hD9 := hD.sub (ws' := [(ga, .inr (4, [.ref ta, .ref rda, .ref pa, .ref sa, .ref ea, .ref ba, .ref da])), (ba, .inr (0, [.ref bt, .ref bp, .ref bl, .ref bh, .ref bq, .ref br, .ref bd, .int (jI bg), .int (jI bf)])), (bp, .inl (cA, 31, .inl (jA fp))), (bl, .inl (cA, 248, .inl (jA fl))), (bh, .inl (cA, 248, .inl (jA fh))), (bq, .inl (cA, 124, .inl (jA fq))), (bd, .inl (cA, 32, .inl (jA fd))), (sa, .inl (cA, 8, .inl (jA fs))), (oa, .inl (cL, 1, .inr (.inl (jAL fo))))]) [0, 1, 2, 3, 4, 5, 6, 7, 8] (by decide) rfl
      subst hAe
      subst hQ
      refine yW (fun _ h => yQ_of h) ?_
      exact W.iret (v := jI 1) hx hb hr (fun t ht hW => ⟨⟨_, (1, fo), rfl, ⟨rfl, by rw [f_XL_fits_s, if_neg hz]⟩, ⟨by rw [ht]; exact hP9, va_K.moved hW.alike hK, hD9⟩⟩, hS.F ht⟩) hS.2.2 dXL_fits_14
