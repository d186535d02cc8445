noncomputable def g_XL_holds (bg : Int) (bf : Int) (fp : Int → Int) (fl : Int → Int) (fh : Int → Int) (fq : Int → Int) (fd : Int → Int) (fe : Int → Int) (z1 : Int) (z2 : Int) (fo : Int → Int) : Int × (Int → Int) × (Int → Int) :=
  if (f_XG_holds bg bf fp fl fh fq fd fe z1 z2).1 = 0 then
    if jw ((f_XG_holds bg bf fp fl fh fq fd fe z1 z2).2.1) = 0 then (0, jset fo 0 0, (f_XG_holds bg bf fp fl fh fq fd fe z1 z2).2.2) else (0, jset fo 0 1, (f_XG_holds bg bf fp fl fh fq fd fe z1 z2).2.2)
  else
    (1, fo, fe)
noncomputable def f_XL_holds : Int → Int → (Int → Int) → (Int → Int) → (Int → Int) → (Int → Int) → (Int → Int) → (Int → Int) → Int → Int → (Int → Int) → Int × (Int → Int) × (Int → Int) := jopq g_XL_holds
theorem f_XL_holds_q : f_XL_holds = g_XL_holds := jopq_eq _
theorem f_XL_holds_s (bg : Int) (bf : Int) (fp : Int → Int) (fl : Int → Int) (fh : Int → Int) (fq : Int → Int) (fd : Int → Int) (fe : Int → Int) (z1 : Int) (z2 : Int) (fo : Int → Int) : f_XL_holds bg bf fp fl fh fq fd fe z1 z2 fo = (
    if (f_XG_holds bg bf fp fl fh fq fd fe z1 z2).1 = 0 then
      if jw ((f_XG_holds bg bf fp fl fh fq fd fe z1 z2).2.1) = 0 then (0, jset fo 0 0, (f_XG_holds bg bf fp fl fh fq fd fe z1 z2).2.2) else (0, jset fo 0 1, (f_XG_holds bg bf fp fl fh fq fd fe z1 z2).2.2)
    else
      (1, fo, fe)
  : Int × (Int → Int) × (Int → Int)) := by rw [f_XL_holds_q]; rfl
set_option maxHeartbeats 4000000 in
set_option maxRecDepth 100000 in
theorem c_XL_holds (l : Launch) (hst : l.stackTraces = false) (dC : Nat → ClassId) (dI : Nat → Nat → Nat) (cA cL : ClassId) (sz : Nat) (ga : Nat) (ta : Nat) (rda : Nat) (pa : Nat) (sa : Nat) (ea : Nat) (ba : Nat) (da : Nat) (bt : Nat) (bp : Nat) (bl : Nat) (bh : Nat) (bq : Nat) (br : Nat) (bd : Nat) (bg : Int) (bf : Int) (fp : Int → Int) (fl : Int → Int) (fh : Int → Int) (fq : Int → Int) (fd : Int → Int) (fe : Int → Int) (z1 : Int) (z2 : Int) (oa : Nat) (fo : Int → Int) (hbp : ∀ i, 0 ≤ fp i ∧ fp i ≤ 30) (hbl : ∀ i, 0 ≤ fl i ∧ fl i ≤ 100000) (hbh : ∀ i, -1 ≤ fh i ∧ fh i ≤ 100000) (hbq : ∀ i, -1 ≤ fq i ∧ fq i ≤ 999999) (hbd : ∀ i, 0 ≤ fd i ∧ fd i ≤ 20) (hbg : 0 ≤ bg ∧ bg < 2147483648) (hbf : 0 ≤ bf ∧ bf < 2147483648) (hfe0 : ∀ i, -1 ≤ fe i ∧ fe i ≤ 100000) (hi_z1 : i32 z1) (hi_z2 : i32 z2) : YMet l yXL_holds (Cond.codeWith yXL_holds cXL_holds 5 (some .int) [(0, 17, 20, 21)] :: TBL) ({ frames := 8, cells := 1, slots := 6, locals := 126 } : Room) (va_Pc [.ref ga, .int (jI z1), .int (jI z2), .ref oa] (jBc (dC, dI) [(cA, .int), (cL, .long)] [(ga, .inr (4, [.ref ta, .ref rda, .ref pa, .ref sa, .ref ea, .ref ba, .ref da])), (ba, .inr (0, [.ref bt, .ref bp, .ref bl, .ref bh, .ref bq, .ref br, .ref bd, .int (jI bg), .int (jI bf)])), (bp, .inl (cA, 31, .inl (jA fp))), (bl, .inl (cA, 248, .inl (jA fl))), (bh, .inl (cA, 248, .inl (jA fh))), (bq, .inl (cA, 124, .inl (jA fq))), (bd, .inl (cA, 32, .inl (jA fd))), (ea, .inl (cA, 8, .inl (jA fe))), (oa, .inl (cL, 1, .inr (.inl (jAL fo))))] sz)) (va_Qi (fun (r : Int32) (u : Int × (Int → Int) × (Int → Int)) => r = jI u.1 ∧ u = f_XL_holds bg bf fp fl fh fq fd fe z1 z2 fo ∧ (∀ i, -1 ≤ u.2.2 i ∧ u.2.2 i ≤ 100000)) (fun u t => jE (dC, dI) [(cA, .int), (cL, .long)] [(ga, .inr (4, [.ref ta, .ref rda, .ref pa, .ref sa, .ref ea, .ref ba, .ref da])), (ba, .inr (0, [.ref bt, .ref bp, .ref bl, .ref bh, .ref bq, .ref br, .ref bd, .int (jI bg), .int (jI bf)])), (bp, .inl (cA, 31, .inl (jA fp))), (bl, .inl (cA, 248, .inl (jA fl))), (bh, .inl (cA, 248, .inl (jA fh))), (bq, .inl (cA, 124, .inl (jA fq))), (bd, .inl (cA, 32, .inl (jA fd))), (ea, .inl (cA, 8, .inl (jA fe))), (oa, .inl (cL, 1, .inr (.inl (jAL fo))))] sz [(ga, .inr (4, [.ref ta, .ref rda, .ref pa, .ref sa, .ref ea, .ref ba, .ref da])), (ba, .inr (0, [.ref bt, .ref bp, .ref bl, .ref bh, .ref bq, .ref br, .ref bd, .int (jI bg), .int (jI bf)])), (bp, .inl (cA, 31, .inl (jA fp))), (bl, .inl (cA, 248, .inl (jA fl))), (bh, .inl (cA, 248, .inl (jA fh))), (bq, .inl (cA, 124, .inl (jA fq))), (bd, .inl (cA, 32, .inl (jA fd))), (ea, .inl (cA, 8, .inl (jA u.2.2))), (oa, .inl (cL, 1, .inr (.inl (jAL u.2.1))))] t) (va_A [(ga, .inr (4, [.ref ta, .ref rda, .ref pa, .ref sa, .ref ea, .ref ba, .ref da])), (ba, .inr (0, [.ref bt, .ref bp, .ref bl, .ref bh, .ref bq, .ref br, .ref bd, .int (jI bg), .int (jI bf)])), (bp, .inl (cA, 31, .inl (jA fp))), (bl, .inl (cA, 248, .inl (jA fl))), (bh, .inl (cA, 248, .inl (jA fh))), (bq, .inl (cA, 124, .inl (jA fq))), (bd, .inl (cA, 32, .inl (jA fd))), (ea, .inl (cA, 8, .inl (jA fe))), (oa, .inl (cL, 1, .inr (.inl (jAL fo))))] sz)) 1 6 1 6 (va_A [(ga, .inr (4, [.ref ta, .ref rda, .ref pa, .ref sa, .ref ea, .ref ba, .ref da])), (ba, .inr (0, [.ref bt, .ref bp, .ref bl, .ref bh, .ref bq, .ref br, .ref bd, .int (jI bg), .int (jI bf)])), (bp, .inl (cA, 31, .inl (jA fp))), (bl, .inl (cA, 248, .inl (jA fl))), (bh, .inl (cA, 248, .inl (jA fh))), (bq, .inl (cA, 124, .inl (jA fq))), (bd, .inl (cA, 32, .inl (jA fd))), (ea, .inl (cA, 8, .inl (jA fe))), (oa, .inl (cL, 1, .inr (.inl (jAL fo))))] sz) := by
  refine YMet.ofWH (cc := cXL_holds) (maxL := 5) (ret := some .int) (hh := [(0, 17, 20, 21)]) (by decide) rfl ?_
  intro p e s m args below meth c s₁ R Q hR hQ B hml htab hv
  obtain ⟨rfl, ⟨hsz, hP, hK, hD0, hN⟩, hX, hC⟩ := hv
  have hx := B.exec
  have hb := B.bytes
  have hr := B.returns
  have hts := atoms_spec (ws := Cond.codeWith yXL_holds cXL_holds 5 (some .int) [(0, 17, 20, 21)] :: TBL) B.pre
  have hown : s.vm.findClass RXL = some m.cls := findClass_of_methodNamed B.named
  have hlocks := B.notSynchronized
  subst hsz
  obtain ⟨A, hAe⟩ : ∃ A, A = va_A [(ga, .inr (4, [.ref ta, .ref rda, .ref pa, .ref sa, .ref ea, .ref ba, .ref da])), (ba, .inr (0, [.ref bt, .ref bp, .ref bl, .ref bh, .ref bq, .ref br, .ref bd, .int (jI bg), .int (jI bf)])), (bp, .inl (cA, 31, .inl (jA fp))), (bl, .inl (cA, 248, .inl (jA fl))), (bh, .inl (cA, 248, .inl (jA fh))), (bq, .inl (cA, 124, .inl (jA fq))), (bd, .inl (cA, 32, .inl (jA fd))), (ea, .inl (cA, 8, .inl (jA fe))), (oa, .inl (cL, 1, .inr (.inl (jAL fo))))] s.heap.size := ⟨_, rfl⟩
  have hD : va_D A [(ga, .inr (4, [.ref ta, .ref rda, .ref pa, .ref sa, .ref ea, .ref ba, .ref da])), (ba, .inr (0, [.ref bt, .ref bp, .ref bl, .ref bh, .ref bq, .ref br, .ref bd, .int (jI bg), .int (jI bf)])), (bp, .inl (cA, 31, .inl (jA fp))), (bl, .inl (cA, 248, .inl (jA fl))), (bh, .inl (cA, 248, .inl (jA fh))), (bq, .inl (cA, 124, .inl (jA fq))), (bd, .inl (cA, 32, .inl (jA fd))), (ea, .inl (cA, 8, .inl (jA fe))), (oa, .inl (cL, 1, .inr (.inl (jAL fo))))] := by rw [hAe]; exact hD0.self
  have hA : ∀ q : Nat, s.heap.size ≤ q → A q := fun q h => by rw [hAe]; exact Or.inr h
  have hS : va_S A s.heap s.heap [] := va_S.rf
  have hP : va_P (dC, dI) vwCl [(ga, .inr (4, [.ref ta, .ref rda, .ref pa, .ref sa, .ref ea, .ref ba, .ref da])), (ba, .inr (0, [.ref bt, .ref bp, .ref bl, .ref bh, .ref bq, .ref br, .ref bd, .int (jI bg), .int (jI bf)])), (bp, .inl (cA, 31, .inl (jA fp))), (bl, .inl (cA, 248, .inl (jA fl))), (bh, .inl (cA, 248, .inl (jA fh))), (bq, .inl (cA, 124, .inl (jA fq))), (bd, .inl (cA, 32, .inl (jA fd))), (ea, .inl (cA, 8, .inl (jA fe))), (oa, .inl (cL, 1, .inr (.inl (jAL fo))))] s.heap := hP
  have hl := lv_entry ([.ref ga, .int (jI z1), .int (jI z2), .ref oa]) (n := 5) (Nat.le_of_ble_eq_true rfl)
  rw [lg_entry_eq]
  generalize (lg_sl ([.ref ga, .int (jI z1), .int (jI z2), .ref oa]) ++ List.replicate (5 - (lg_sl ([.ref ga, .int (jI z1), .int (jI z2), .ref oa])).length) Slot.unset).toArray = ls at hl ⊢
  have hl : lv_has ls 5 [(0, .ref ga), (1, .int (jI z1)), (2, .int (jI z2)), (3, .ref oa)] := hl
  refine lv_aload_n hx hb dXL_holds_0 rfl (lv_at hl 3 rfl) ?_
  refine ji_iconst hx hb dXL_holds_1 ?_
  refine lv_aload_n hx hb dXL_holds_2 rfl (lv_at hl 0 rfl) ?_
  refine lv_iload_n hx hb dXL_holds_3 rfl (lv_at hl 1 rfl) ?_
  refine lv_iload_n hx hb dXL_holds_4 rfl (lv_at hl 2 rfl) ?_
  refine ztWi (A := A) (wr := [(oa, .inl (cL, 1, .inr (.inl (jAL fo))))]) (rest := [.int (jI 0), .ref oa]) ⟨hx, hb, hml, hown, hts⟩ (c_XG_holds l hst dC dI cA _ ga ta rda pa sa ea ba da bt bp bl bh bq br bd bg bf fp fl fh fq fd fe z1 z2 hbp hbl hbh hbq hbd hbg hbf hfe0 hi_z1 hi_z2) (cwV 2 hts (jG_V tw_535 tw_536 tw_537 tw_1 tw_538) rfl rfl rfl (by decide +kernel) (by rw [hR]; exact ⟨Nat.le_of_ble_eq_true rfl, Nat.le_of_ble_eq_true rfl⟩)) (va_K.sub hK [0] rfl) hP hD hA hN hX [0, 1, 2, 3, 4, 5, 6, 7] [8] rfl rfl (by decide) (by decide) (by decide) 0 4 rfl rfl rfl rfl hl.1 rfl (Nat.le_of_ble_eq_true rfl) dXL_holds_5 (by rw [hR]; exact ⟨Nat.le_of_ble_eq_true rfl, Nat.le_of_ble_eq_true rfl⟩) (fun hz r9 u9 H locs hp9 hP hD hS => ?_) (fun hz x ce H1 L hP hS hce hcl hvm => ?_)
  · obtain ⟨er, hu, f0⟩ := hp9
    subst er
    subst hu
    have hP : va_P (dC, dI) vwCl [(oa, .inl (cL, 1, .inr (.inl (jAL fo)))), (ga, .inr (4, [.ref ta, .ref rda, .ref pa, .ref sa, .ref ea, .ref ba, .ref da])), (ba, .inr (0, [.ref bt, .ref bp, .ref bl, .ref bh, .ref bq, .ref br, .ref bd, .int (jI bg), .int (jI bf)])), (bp, .inl (cA, 31, .inl (jA fp))), (bl, .inl (cA, 248, .inl (jA fl))), (bh, .inl (cA, 248, .inl (jA fh))), (bq, .inl (cA, 124, .inl (jA fq))), (bd, .inl (cA, 32, .inl (jA fd))), (ea, .inl (cA, 8, .inl (jA ((f_XG_holds bg bf fp fl fh fq fd fe z1 z2).2.2))))] H := hP
    have hD : va_D A [(oa, .inl (cL, 1, .inr (.inl (jAL fo)))), (ga, .inr (4, [.ref ta, .ref rda, .ref pa, .ref sa, .ref ea, .ref ba, .ref da])), (ba, .inr (0, [.ref bt, .ref bp, .ref bl, .ref bh, .ref bq, .ref br, .ref bd, .int (jI bg), .int (jI bf)])), (bp, .inl (cA, 31, .inl (jA fp))), (bl, .inl (cA, 248, .inl (jA fl))), (bh, .inl (cA, 248, .inl (jA fh))), (bq, .inl (cA, 124, .inl (jA fq))), (bd, .inl (cA, 32, .inl (jA fd))), (ea, .inl (cA, 8, .inl (jA ((f_XG_holds bg bf fp fl fh fq fd fe z1 z2).2.2))))] := hD
    refine ji_re (y := jw ((f_XG_holds bg bf fp fl fh fq fd fe z1 z2).2.1)) (jI_jw _).symm ?_
    refine ji_if_eq (tgt := 15) hx hb dXL_holds_8 (by decide) (jw_i _) (fun h9 => ?_) (fun h9 => ?_)
    · refine ji_lconst (z := 0) hx hb dXL_holds_15 rfl ?_
      refine ji_last hx hb hK hP hD hS 0 1 rfl rfl ⟨by decide, by decide⟩ (by decide) dXL_holds_16 (fun H locs hP hD hS => ?_)
      have hP : va_P (dC, dI) vwCl [(oa, .inl (cL, 1, .inr (.inl (jAL (jset fo 0 0))))), (ga, .inr (4, [.ref ta, .ref rda, .ref pa, .ref sa, .ref ea, .ref ba, .ref da])), (ba, .inr (0, [.ref bt, .ref bp, .ref bl, .ref bh, .ref bq, .ref br, .ref bd, .int (jI bg), .int (jI bf)])), (bp, .inl (cA, 31, .inl (jA fp))), (bl, .inl (cA, 248, .inl (jA fl))), (bh, .inl (cA, 248, .inl (jA fh))), (bq, .inl (cA, 124, .inl (jA fq))), (bd, .inl (cA, 32, .inl (jA fd))), (ea, .inl (cA, 8, .inl (jA ((f_XG_holds bg bf fp fl fh fq fd fe z1 z2).2.2))))] H := hP
      have hD : va_D A [(oa, .inl (cL, 1, .inr (.inl (jAL (jset fo 0 0))))), (ga, .inr (4, [.ref ta, .ref rda, .ref pa, .ref sa, .ref ea, .ref ba, .ref da])), (ba, .inr (0, [.ref bt, .ref bp, .ref bl, .ref bh, .ref bq, .ref br, .ref bd, .int (jI bg), .int (jI bf)])), (bp, .inl (cA, 31, .inl (jA fp))), (bl, .inl (cA, 248, .inl (jA fl))), (bh, .inl (cA, 248, .inl (jA fh))), (bq, .inl (cA, 124, .inl (jA fq))), (bd, .inl (cA, 32, .inl (jA fd))), (ea, .inl (cA, 8, .inl (jA ((f_XG_holds bg bf fp fl fh fq fd fe z1 z2).2.2))))] := hD
      refine lv_goto (tgt := 24) hx hb dXL_holds_17 (by decide) ?_
      refine ji_iconst hx hb dXL_holds_24 ?_
      refine W.widen (k := 1) (n := 6) (Nat.le_of_ble_eq_true rfl) (Nat.le_of_ble_eq_true rfl) ?_
      have hP9 := hP.sub (ws' := [(ga, .inr (4, [.ref ta, .ref rda, .ref pa, .ref sa, .ref ea, .ref ba, .ref da])), (ba, .inr (0, [.ref bt, .ref bp, .ref bl, .ref bh, .ref bq, .ref br, .ref bd, .int (jI bg), .int (jI bf)])), (bp, .inl (cA, 31, .inl (jA fp))), (bl, .inl (cA, 248, .inl (jA fl))), (bh, .inl (cA, 248, .inl (jA fh))), (bq, .inl (cA, 124, .inl (jA fq))), (bd, .inl (cA, 32, .inl (jA fd))), (ea, .inl (cA, 8, .inl (jA ((f_XG_holds bg bf fp fl fh fq fd fe z1 z2).2.2)))), (oa, .inl (cL, 1, .inr (.inl (jAL (jset fo 0 0)))))]) [1, 2, 3, 4, 5, 6, 7, 8, 0] rfl
      have hD9 := hD.sub (ws' := [(ga, .inr (4, [.ref ta, .ref rda, .ref pa, .ref sa, .ref ea, .ref ba, .ref da])), (ba, .inr (0, [.ref bt, .ref bp, .ref bl, .ref bh, .ref bq, .ref br, .ref bd, .int (jI bg), .int (jI bf)])), (bp, .inl (cA, 31, .inl (jA fp))), (bl, .inl (cA, 248, .inl (jA fl))), (bh, .inl (cA, 248, .inl (jA fh))), (bq, .inl (cA, 124, .inl (jA fq))), (bd, .inl (cA, 32, .inl (jA fd))), (ea, .inl (cA, 8, .inl (jA ((f_XG_holds bg bf fp fl fh fq fd fe z1 z2).2.2)))), (oa, .inl (cL, 1, .inr (.inl (jAL (jset fo 0 0)))))]) [1, 2, 3, 4, 5, 6, 7, 8, 0] (by decide) rfl
      subst hAe
      subst hQ
      refine yW (fun _ h => yQ_of h) ?_
      exact W.iret (v := jI 0) hx hb hr (fun t ht hW => ⟨⟨_, (0, jset fo 0 0, (f_XG_holds bg bf fp fl fh fq fd fe z1 z2).2.2), rfl, ⟨rfl, by rw [f_XL_holds_s, if_pos hz, if_pos h9], by first | assumption | omega⟩, ⟨by rw [ht]; exact hP9, va_K.moved hW.alike hK, hD9⟩⟩, hS.F ht⟩) hS.2.2 dXL_holds_25
    · refine ji_lconst (z := 1) hx hb dXL_holds_11 rfl ?_
      refine lv_goto (tgt := 16) hx hb dXL_holds_12 (by decide) ?_
      refine ji_last hx hb hK hP hD hS 0 1 rfl rfl ⟨by decide, by decide⟩ (by decide) dXL_holds_16 (fun H locs hP hD hS => ?_)
      have hP : va_P (dC, dI) vwCl [(oa, .inl (cL, 1, .inr (.inl (jAL (jset fo 0 1))))), (ga, .inr (4, [.ref ta, .ref rda, .ref pa, .ref sa, .ref ea, .ref ba, .ref da])), (ba, .inr (0, [.ref bt, .ref bp, .ref bl, .ref bh, .ref bq, .ref br, .ref bd, .int (jI bg), .int (jI bf)])), (bp, .inl (cA, 31, .inl (jA fp))), (bl, .inl (cA, 248, .inl (jA fl))), (bh, .inl (cA, 248, .inl (jA fh))), (bq, .inl (cA, 124, .inl (jA fq))), (bd, .inl (cA, 32, .inl (jA fd))), (ea, .inl (cA, 8, .inl (jA ((f_XG_holds bg bf fp fl fh fq fd fe z1 z2).2.2))))] H := hP
      have hD : va_D A [(oa, .inl (cL, 1, .inr (.inl (jAL (jset fo 0 1))))), (ga, .inr (4, [.ref ta, .ref rda, .ref pa, .ref sa, .ref ea, .ref ba, .ref da])), (ba, .inr (0, [.ref bt, .ref bp, .ref bl, .ref bh, .ref bq, .ref br, .ref bd, .int (jI bg), .int (jI bf)])), (bp, .inl (cA, 31, .inl (jA fp))), (bl, .inl (cA, 248, .inl (jA fl))), (bh, .inl (cA, 248, .inl (jA fh))), (bq, .inl (cA, 124, .inl (jA fq))), (bd, .inl (cA, 32, .inl (jA fd))), (ea, .inl (cA, 8, .inl (jA ((f_XG_holds bg bf fp fl fh fq fd fe z1 z2).2.2))))] := hD
      refine lv_goto (tgt := 24) hx hb dXL_holds_17 (by decide) ?_
      refine ji_iconst hx hb dXL_holds_24 ?_
      refine W.widen (k := 1) (n := 6) (Nat.le_of_ble_eq_true rfl) (Nat.le_of_ble_eq_true rfl) ?_
      have hP9 := hP.sub (ws' := [(ga, .inr (4, [.ref ta, .ref rda, .ref pa, .ref sa, .ref ea, .ref ba, .ref da])), (ba, .inr (0, [.ref bt, .ref bp, .ref bl, .ref bh, .ref bq, .ref br, .ref bd, .int (jI bg), .int (jI bf)])), (bp, .inl (cA, 31, .inl (jA fp))), (bl, .inl (cA, 248, .inl (jA fl))), (bh, .inl (cA, 248, .inl (jA fh))), (bq, .inl (cA, 124, .inl (jA fq))), (bd, .inl (cA, 32, .inl (jA fd))), (ea, .inl (cA, 8, .inl (jA ((f_XG_holds bg bf fp fl fh fq fd fe z1 z2).2.2)))), (oa, .inl (cL, 1, .inr (.inl (jAL (jset fo 0 1)))))]) [1, 2, 3, 4, 5, 6, 7, 8, 0] rfl
      have hD9 := hD.sub (ws' := [(ga, .inr (4, [.ref ta, .ref rda, .ref pa, .ref sa, .ref ea, .ref ba, .ref da])), (ba, .inr (0, [.ref bt, .ref bp, .ref bl, .ref bh, .ref bq, .ref br, .ref bd, .int (jI bg), .int (jI bf)])), (bp, .inl (cA, 31, .inl (jA fp))), (bl, .inl (cA, 248, .inl (jA fl))), (bh, .inl (cA, 248, .inl (jA fh))), (bq, .inl (cA, 124, .inl (jA fq))), (bd, .inl (cA, 32, .inl (jA fd))), (ea, .inl (cA, 8, .inl (jA ((f_XG_holds bg bf fp fl fh fq fd fe z1 z2).2.2)))), (oa, .inl (cL, 1, .inr (.inl (jAL (jset fo 0 1)))))]) [1, 2, 3, 4, 5, 6, 7, 8, 0] (by decide) rfl
      subst hAe
      subst hQ
      refine yW (fun _ h => yQ_of h) ?_
      exact W.iret (v := jI 0) hx hb hr (fun t ht hW => ⟨⟨_, (0, jset fo 0 1, (f_XG_holds bg bf fp fl fh fq fd fe z1 z2).2.2), rfl, ⟨rfl, by rw [f_XL_holds_s, if_pos hz, if_neg h9], by first | assumption | omega⟩, ⟨by rw [ht]; exact hP9, va_K.moved hW.alike hK, hD9⟩⟩, hS.F ht⟩) hS.2.2 dXL_holds_25
  · rcases f_XG_holds_e bg bf fp fl fh fq fd fe z1 z2 with h9 | h9
    · exact absurd h9 hz
    · rw [h9, xCls_1] at hcl
      refine zOn1 htab hown ⟨by decide, by decide⟩ (by decide) (hts _ (jmem tw_407)) hX.c1 hce hcl hvm ?_
      refine lv_astore (lv' := [(4, .ref x), (0, .ref ga), (1, .int (jI z1)), (2, .int (jI z2)), (3, .ref oa)]) hx hb dXL_holds_20 hl (by decide) rfl (fun ls hl => ?_)
      refine ji_iconst hx hb dXL_holds_22 ?_
      refine W.widen (k := 1) (n := 6) (Nat.le_of_ble_eq_true rfl) (Nat.le_of_ble_eq_true rfl) ?_
      have hP9 := hP.sub (ws' := [(ga, .inr (4, [.ref ta, .ref rda, .ref pa, .ref sa, .ref ea, .ref ba, .ref da])), (ba, .inr (0, [.ref bt, .ref bp, .ref bl, .ref bh, .ref bq, .ref br, .ref bd, .int (jI bg), .int (jI bf)])), (bp, .inl (cA, 31, .inl (jA fp))), (bl, .inl (cA, 248, .inl (jA fl))), (bh, .inl (cA, 248, .inl (jA fh))), (bq, .inl (cA, 124, .inl (jA fq))), (bd, .inl (cA, 32, .inl (jA fd))), (ea, .inl (cA, 8, .inl (jA fe))), (oa, .inl (cL, 1, .inr (.inl (jAL fo))))]) [0, 1, 2, 3, 4, 5, 6, 7, 8] rfl
      have hD9 := hD.sub (ws' := [(ga, .inr (4, [.ref ta, .ref rda, .ref pa, .ref sa, .ref ea, .ref ba, .ref da])), (ba, .inr (0, [.ref bt, .ref bp, .ref bl, .ref bh, .ref bq, .ref br, .ref bd, .int (jI bg), .int (jI bf)])), (bp, .inl (cA, 31, .inl (jA fp))), (bl, .inl (cA, 248, .inl (jA fl))), (bh, .inl (cA, 248, .inl (jA fh))), (bq, .inl (cA, 124, .inl (jA fq))), (bd, .inl (cA, 32, .inl (jA fd))), (ea, .inl (cA, 8, .inl (jA fe))), (oa, .inl (cL, 1, .inr (.inl (jAL fo))))]) [0, 1, 2, 3, 4, 5, 6, 7, 8] (by decide) rfl
      subst hAe
      subst hQ
      refine yW (fun _ h => yQ_of h) ?_
      exact W.iret (v := jI 1) hx hb hr (fun t ht hW => ⟨⟨_, (1, fo, fe), rfl, ⟨rfl, by rw [f_XL_holds_s, if_neg hz], by first | assumption | omega⟩, ⟨by rw [ht]; exact hP9, va_K.moved hW.alike hK, hD9⟩⟩, hS.F ht⟩) hS.2.2 dXL_holds_23
noncomputable def g_XL_ring (bg : Int) (bf : Int) (ft : Int → Int) (z1 : Int) (fo : Int → Int) : Int × (Int → Int) :=
  if (f_XG_ring bg bf ft z1).1 = 0 then
    (0, jset fo 0 (jw ((f_XG_ring bg bf ft z1).2)))
  else
    (1, fo)
noncomputable def f_XL_ring : Int → Int → (Int → Int) → Int → (Int → Int) → Int × (Int → Int) := jopq g_XL_ring
theorem f_XL_ring_q : f_XL_ring = g_XL_ring := jopq_eq _
theorem f_XL_ring_s (bg : Int) (bf : Int) (ft : Int → Int) (z1 : Int) (fo : Int → Int) : f_XL_ring bg bf ft z1 fo = (
    if (f_XG_ring bg bf ft z1).1 = 0 then
      (0, jset fo 0 (jw ((f_XG_ring bg bf ft z1).2)))
    else
      (1, fo)
  : Int × (Int → Int)) := by rw [f_XL_ring_q]; rfl
set_option maxHeartbeats 4000000 in
set_option maxRecDepth 100000 in
theorem c_XL_ring (l : Launch) (hst : l.stackTraces = false) (dC : Nat → ClassId) (dI : Nat → Nat → Nat) (cA cL : ClassId) (sz : Nat) (ga : Nat) (ta : Nat) (rda : Nat) (pa : Nat) (sa : Nat) (ea : Nat) (ba : Nat) (da : Nat) (bt : Nat) (bp : Nat) (bl : Nat) (bh : Nat) (bq : Nat) (br : Nat) (bd : Nat) (bg : Int) (bf : Int) (ft : Int → Int) (z1 : Int) (oa : Nat) (fo : Int → Int) (hbt : ∀ i, 0 ≤ ft i ∧ ft i ≤ 30) (hi_z1 : i32 z1) : YMet l yXL_ring (Cond.codeWith yXL_ring cXL_ring 4 (some .int) [(0, 9, 12, 21)] :: TBL) ({ frames := 8, cells := 1, slots := 6, locals := 125 } : Room) (va_Pc [.ref ga, .int (jI z1), .ref oa] (jBc (dC, dI) [(cA, .int), (cL, .long)] [(ga, .inr (4, [.ref ta, .ref rda, .ref pa, .ref sa, .ref ea, .ref ba, .ref da])), (ba, .inr (0, [.ref bt, .ref bp, .ref bl, .ref bh, .ref bq, .ref br, .ref bd, .int (jI bg), .int (jI bf)])), (bt, .inl (cA, 31, .inl (jA ft))), (oa, .inl (cL, 1, .inr (.inl (jAL fo))))] sz)) (va_Qi (fun (r : Int32) (u : Int × (Int → Int)) => r = jI u.1 ∧ u = f_XL_ring bg bf ft z1 fo) (fun u t => jE (dC, dI) [(cA, .int), (cL, .long)] [(ga, .inr (4, [.ref ta, .ref rda, .ref pa, .ref sa, .ref ea, .ref ba, .ref da])), (ba, .inr (0, [.ref bt, .ref bp, .ref bl, .ref bh, .ref bq, .ref br, .ref bd, .int (jI bg), .int (jI bf)])), (bt, .inl (cA, 31, .inl (jA ft))), (oa, .inl (cL, 1, .inr (.inl (jAL fo))))] sz [(ga, .inr (4, [.ref ta, .ref rda, .ref pa, .ref sa, .ref ea, .ref ba, .ref da])), (ba, .inr (0, [.ref bt, .ref bp, .ref bl, .ref bh, .ref bq, .ref br, .ref bd, .int (jI bg), .int (jI bf)])), (bt, .inl (cA, 31, .inl (jA ft))), (oa, .inl (cL, 1, .inr (.inl (jAL u.2))))] t) (va_A [(ga, .inr (4, [.ref ta, .ref rda, .ref pa, .ref sa, .ref ea, .ref ba, .ref da])), (ba, .inr (0, [.ref bt, .ref bp, .ref bl, .ref bh, .ref bq, .ref br, .ref bd, .int (jI bg), .int (jI bf)])), (bt, .inl (cA, 31, .inl (jA ft))), (oa, .inl (cL, 1, .inr (.inl (jAL fo))))] sz)) 1 6 1 6 (va_A [(ga, .inr (4, [.ref ta, .ref rda, .ref pa, .ref sa, .ref ea, .ref ba, .ref da])), (ba, .inr (0, [.ref bt, .ref bp, .ref bl, .ref bh, .ref bq, .ref br, .ref bd, .int (jI bg), .int (jI bf)])), (bt, .inl (cA, 31, .inl (jA ft))), (oa, .inl (cL, 1, .inr (.inl (jAL fo))))] sz) := by
  refine YMet.ofWH (cc := cXL_ring) (maxL := 4) (ret := some .int) (hh := [(0, 9, 12, 21)]) (by decide) rfl ?_
  intro p e s m args below meth c s₁ R Q hR hQ B hml htab hv
  obtain ⟨rfl, ⟨hsz, hP, hK, hD0, hN⟩, hX, hC⟩ := hv
  have hx := B.exec
  have hb := B.bytes
  have hr := B.returns
  have hts := atoms_spec (ws := Cond.codeWith yXL_ring cXL_ring 4 (some .int) [(0, 9, 12, 21)] :: TBL) B.pre
  have hown : s.vm.findClass RXL = some m.cls := findClass_of_methodNamed B.named
  have hlocks := B.notSynchronized
  subst hsz
  obtain ⟨A, hAe⟩ : ∃ A, A = va_A [(ga, .inr (4, [.ref ta, .ref rda, .ref pa, .ref sa, .ref ea, .ref ba, .ref da])), (ba, .inr (0, [.ref bt, .ref bp, .ref bl, .ref bh, .ref bq, .ref br, .ref bd, .int (jI bg), .int (jI bf)])), (bt, .inl (cA, 31, .inl (jA ft))), (oa, .inl (cL, 1, .inr (.inl (jAL fo))))] s.heap.size := ⟨_, rfl⟩
  have hD : va_D A [(ga, .inr (4, [.ref ta, .ref rda, .ref pa, .ref sa, .ref ea, .ref ba, .ref da])), (ba, .inr (0, [.ref bt, .ref bp, .ref bl, .ref bh, .ref bq, .ref br, .ref bd, .int (jI bg), .int (jI bf)])), (bt, .inl (cA, 31, .inl (jA ft))), (oa, .inl (cL, 1, .inr (.inl (jAL fo))))] := by rw [hAe]; exact hD0.self
  have hA : ∀ q : Nat, s.heap.size ≤ q → A q := fun q h => by rw [hAe]; exact Or.inr h
  have hS : va_S A s.heap s.heap [] := va_S.rf
  have hP : va_P (dC, dI) vwCl [(ga, .inr (4, [.ref ta, .ref rda, .ref pa, .ref sa, .ref ea, .ref ba, .ref da])), (ba, .inr (0, [.ref bt, .ref bp, .ref bl, .ref bh, .ref bq, .ref br, .ref bd, .int (jI bg), .int (jI bf)])), (bt, .inl (cA, 31, .inl (jA ft))), (oa, .inl (cL, 1, .inr (.inl (jAL fo))))] s.heap := hP
  have hl := lv_entry ([.ref ga, .int (jI z1), .ref oa]) (n := 4) (Nat.le_of_ble_eq_true rfl)
  rw [lg_entry_eq]
  generalize (lg_sl ([.ref ga, .int (jI z1), .ref oa]) ++ List.replicate (4 - (lg_sl ([.ref ga, .int (jI z1), .ref oa])).length) Slot.unset).toArray = ls at hl ⊢
  have hl : lv_has ls 4 [(0, .ref ga), (1, .int (jI z1)), (2, .ref oa)] := hl
  refine lv_aload_n hx hb dXL_ring_0 rfl (lv_at hl 2 rfl) ?_
  refine ji_iconst hx hb dXL_ring_1 ?_
  refine lv_aload_n hx hb dXL_ring_2 rfl (lv_at hl 0 rfl) ?_
  refine lv_iload_n hx hb dXL_ring_3 rfl (lv_at hl 1 rfl) ?_
  refine ztRi (A := A) (rest := [.int (jI 0), .ref oa]) ⟨hx, hb, hml, hown, hts⟩ (c_XG_ring l hst dC dI cA ga ta rda pa sa ea ba da bt bp bl bh bq br bd bg bf ft z1 hbt hi_z1) (cwV 1 hts (jG_V tw_542 tw_543 tw_544 tw_1 tw_545) rfl rfl rfl (by decide +kernel) (by rw [hR]; exact ⟨Nat.le_of_ble_eq_true rfl, Nat.le_of_ble_eq_true rfl⟩)) (va_K.sub hK [0] rfl) hP hN hX [0, 1, 2] rfl 0 4 rfl rfl rfl rfl hl.1 rfl (Nat.le_of_ble_eq_true rfl) dXL_ring_4 (by rw [hR]; exact ⟨Nat.le_of_ble_eq_true rfl, Nat.le_of_ble_eq_true rfl⟩) (fun hz => ?_) (fun hz x ce H1 L hP hS hce hcl hvm => ?_)
  · refine ji_re (y := jw ((f_XG_ring bg bf ft z1).2)) (jI_jw _).symm ?_
    refine ji_i2l hx hb dXL_ring_7 (jw_i _) ?_
    refine ji_last hx hb hK hP hD hS 3 1 rfl rfl ⟨by decide, by decide⟩ (by decide) dXL_ring_8 (fun H locs hP hD hS => ?_)
    have hP : va_P (dC, dI) vwCl [(ga, .inr (4, [.ref ta, .ref rda, .ref pa, .ref sa, .ref ea, .ref ba, .ref da])), (ba, .inr (0, [.ref bt, .ref bp, .ref bl, .ref bh, .ref bq, .ref br, .ref bd, .int (jI bg), .int (jI bf)])), (bt, .inl (cA, 31, .inl (jA ft))), (oa, .inl (cL, 1, .inr (.inl (jAL (jset fo 0 (jw ((f_XG_ring bg bf ft z1).2)))))))] H := hP
    have hD : va_D A [(ga, .inr (4, [.ref ta, .ref rda, .ref pa, .ref sa, .ref ea, .ref ba, .ref da])), (ba, .inr (0, [.ref bt, .ref bp, .ref bl, .ref bh, .ref bq, .ref br, .ref bd, .int (jI bg), .int (jI bf)])), (bt, .inl (cA, 31, .inl (jA ft))), (oa, .inl (cL, 1, .inr (.inl (jAL (jset fo 0 (jw ((f_XG_ring bg bf ft z1).2)))))))] := hD
    refine lv_goto (tgt := 15) hx hb dXL_ring_9 (by decide) ?_
    refine ji_iconst hx hb dXL_ring_15 ?_
    refine W.widen (k := 1) (n := 6) (Nat.le_of_ble_eq_true rfl) (Nat.le_of_ble_eq_true rfl) ?_
    have hP9 := hP.sub (ws' := [(ga, .inr (4, [.ref ta, .ref rda, .ref pa, .ref sa, .ref ea, .ref ba, .ref da])), (ba, .inr (0, [.ref bt, .ref bp, .ref bl, .ref bh, .ref bq, .ref br, .ref bd, .int (jI bg), .int (jI bf)])), (bt, .inl (cA, 31, .inl (jA ft))), (oa, .inl (cL, 1, .inr (.inl (jAL (jset fo 0 (jw ((f_XG_ring bg bf ft z1).2)))))))]) [0, 1, 2, 3] rfl
    have hD9 := hD.sub (ws' := [(ga, .inr (4, [.ref ta, .ref rda, .ref pa, .ref sa, .ref ea, .ref ba, .ref da])), (ba, .inr (0, [.ref bt, .ref bp, .ref bl, .ref bh, .ref bq, .ref br, .ref bd, .int (jI bg), .int (jI bf)])), (bt, .inl (cA, 31, .inl (jA ft))), (oa, .inl (cL, 1, .inr (.inl (jAL (jset fo 0 (jw ((f_XG_ring bg bf ft z1).2)))))))]) [0, 1, 2, 3] (by decide) rfl
    subst hAe
    subst hQ
    refine yW (fun _ h => yQ_of h) ?_
    exact W.iret (v := jI 0) hx hb hr (fun t ht hW => ⟨⟨_, (0, jset fo 0 (jw ((f_XG_ring bg bf ft z1).2))), rfl, ⟨rfl, by rw [f_XL_ring_s, if_pos hz]⟩, ⟨by rw [ht]; exact hP9, va_K.moved hW.alike hK, hD9⟩⟩, hS.F ht⟩) hS.2.2 dXL_ring_16
  · rcases f_XG_ring_e bg bf ft z1 with h9 | h9
    · exact absurd h9 hz
    · rw [h9, xCls_1] at hcl
      refine zOn1 htab hown ⟨by decide, by decide⟩ (by decide) (hts _ (jmem tw_407)) hX.c1 hce hcl hvm ?_
      refine lv_astore_n (lv' := [(3, .ref x), (0, .ref ga), (1, .int (jI z1)), (2, .ref oa)]) hx hb dXL_ring_12 rfl hl (by decide) rfl (fun ls hl => ?_)
      refine ji_iconst hx hb dXL_ring_13 ?_
      refine W.widen (k := 1) (n := 6) (Nat.le_of_ble_eq_true rfl) (Nat.le_of_ble_eq_true rfl) ?_
      have hP9 := hP.sub (ws' := [(ga, .inr (4, [.ref ta, .ref rda, .ref pa, .ref sa, .ref ea, .ref ba, .ref da])), (ba, .inr (0, [.ref bt, .ref bp, .ref bl, .ref bh, .ref bq, .ref br, .ref bd, .int (jI bg), .int (jI bf)])), (bt, .inl (cA, 31, .inl (jA ft))), (oa, .inl (cL, 1, .inr (.inl (jAL fo))))]) [0, 1, 2, 3] rfl
      have hD9 := hD.sub (ws' := [(ga, .inr (4, [.ref ta, .ref rda, .ref pa, .ref sa, .ref ea, .ref ba, .ref da])), (ba, .inr (0, [.ref bt, .ref bp, .ref bl, .ref bh, .ref bq, .ref br, .ref bd, .int (jI bg), .int (jI bf)])), (bt, .inl (cA, 31, .inl (jA ft))), (oa, .inl (cL, 1, .inr (.inl (jAL fo))))]) [0, 1, 2, 3] (by decide) rfl
      subst hAe
      subst hQ
      refine yW (fun _ h => yQ_of h) ?_
      exact W.iret (v := jI 1) hx hb hr (fun t ht hW => ⟨⟨_, (1, fo), rfl, ⟨rfl, by rw [f_XL_ring_s, if_neg hz]⟩, ⟨by rw [ht]; exact hP9, va_K.moved hW.alike hK, hD9⟩⟩, hS.F ht⟩) hS.2.2 dXL_ring_14
noncomputable def g_XL_route (bg : Int) (bf : Int) (fp : Int → Int) (fr : Int → Int) (z1 : Int) (z2 : Int) (fo : Int → Int) : Int × (Int → Int) :=
  if (f_XG_route bg bf fp fr z1 z2).1 = 0 then
    (0, jset fo 0 (jw ((f_XG_route bg bf fp fr z1 z2).2)))
  else
    (1, fo)
noncomputable def f_XL_route : Int → Int → (Int → Int) → (Int → Int) → Int → Int → (Int → Int) → Int × (Int → Int) := jopq g_XL_route
theorem f_XL_route_q : f_XL_route = g_XL_route := jopq_eq _
theorem f_XL_route_s (bg : Int) (bf : Int) (fp : Int → Int) (fr : Int → Int) (z1 : Int) (z2 : Int) (fo : Int → Int) : f_XL_route bg bf fp fr z1 z2 fo = (
    if (f_XG_route bg bf fp fr z1 z2).1 = 0 then
      (0, jset fo 0 (jw ((f_XG_route bg bf fp fr z1 z2).2)))
    else
      (1, fo)
  : Int × (Int → Int)) := by rw [f_XL_route_q]; rfl
set_option maxHeartbeats 4000000 in
set_option maxRecDepth 100000 in
theorem c_XL_route (l : Launch) (hst : l.stackTraces = false) (dC : Nat → ClassId) (dI : Nat → Nat → Nat) (cA cL : ClassId) (sz : Nat) (ga : Nat) (ta : Nat) (rda : Nat) (pa : Nat) (sa : Nat) (ea : Nat) (ba : Nat) (da : Nat) (bt : Nat) (bp : Nat) (bl : Nat) (bh : Nat) (bq : Nat) (br : Nat) (bd : Nat) (bg : Int) (bf : Int) (fp : Int → Int) (fr : Int → Int) (z1 : Int) (z2 : Int) (oa : Nat) (fo : Int → Int) (hbp : ∀ i, 0 ≤ fp i ∧ fp i ≤ 30) (hbr : ∀ i, 0 ≤ fr i ∧ fr i < 2147483648) (hbg : 0 ≤ bg ∧ bg < 2147483648) (hi_z1 : i32 z1) (hi_z2 : i32 z2) : YMet l yXL_route (Cond.codeWith yXL_route cXL_route 5 (some .int) [(0, 10, 13, 21)] :: TBL) ({ frames := 8, cells := 1, slots := 6, locals := 128 } : Room) (va_Pc [.ref ga, .int (jI z1), .int (jI z2), .ref oa] (jBc (dC, dI) [(cA, .int), (cL, .long)] [(ga, .inr (4, [.ref ta, .ref rda, .ref pa, .ref sa, .ref ea, .ref ba, .ref da])), (ba, .inr (0, [.ref bt, .ref bp, .ref bl, .ref bh, .ref bq, .ref br, .ref bd, .int (jI bg), .int (jI bf)])), (bp, .inl (cA, 31, .inl (jA fp))), (br, .inl (cA, 31, .inl (jA fr))), (oa, .inl (cL, 1, .inr (.inl (jAL fo))))] sz)) (va_Qi (fun (r : Int32) (u : Int × (Int → Int)) => r = jI u.1 ∧ u = f_XL_route bg bf fp fr z1 z2 fo) (fun u t => jE (dC, dI) [(cA, .int), (cL, .long)] [(ga, .inr (4, [.ref ta, .ref rda, .ref pa, .ref sa, .ref ea, .ref ba, .ref da])), (ba, .inr (0, [.ref bt, .ref bp, .ref bl, .ref bh, .ref bq, .ref br, .ref bd, .int (jI bg), .int (jI bf)])), (bp, .inl (cA, 31, .inl (jA fp))), (br, .inl (cA, 31, .inl (jA fr))), (oa, .inl (cL, 1, .inr (.inl (jAL fo))))] sz [(ga, .inr (4, [.ref ta, .ref rda, .ref pa, .ref sa, .ref ea, .ref ba, .ref da])), (ba, .inr (0, [.ref bt, .ref bp, .ref bl, .ref bh, .ref bq, .ref br, .ref bd, .int (jI bg), .int (jI bf)])), (bp, .inl (cA, 31, .inl (jA fp))), (br, .inl (cA, 31, .inl (jA fr))), (oa, .inl (cL, 1, .inr (.inl (jAL u.2))))] t) (va_A [(ga, .inr (4, [.ref ta, .ref rda, .ref pa, .ref sa, .ref ea, .ref ba, .ref da])), (ba, .inr (0, [.ref bt, .ref bp, .ref bl, .ref bh, .ref bq, .ref br, .ref bd, .int (jI bg), .int (jI bf)])), (bp, .inl (cA, 31, .inl (jA fp))), (br, .inl (cA, 31, .inl (jA fr))), (oa, .inl (cL, 1, .inr (.inl (jAL fo))))] sz)) 1 6 1 6 (va_A [(ga, .inr (4, [.ref ta, .ref rda, .ref pa, .ref sa, .ref ea, .ref ba, .ref da])), (ba, .inr (0, [.ref bt, .ref bp, .ref bl, .ref bh, .ref bq, .ref br, .ref bd, .int (jI bg), .int (jI bf)])), (bp, .inl (cA, 31, .inl (jA fp))), (br, .inl (cA, 31, .inl (jA fr))), (oa, .inl (cL, 1, .inr (.inl (jAL fo))))] sz) := by
  refine YMet.ofWH (cc := cXL_route) (maxL := 5) (ret := some .int) (hh := [(0, 10, 13, 21)]) (by decide) rfl ?_
  intro p e s m args below meth c s₁ R Q hR hQ B hml htab hv
  obtain ⟨rfl, ⟨hsz, hP, hK, hD0, hN⟩, hX, hC⟩ := hv
  have hx := B.exec
  have hb := B.bytes
  have hr := B.returns
  have hts := atoms_spec (ws := Cond.codeWith yXL_route cXL_route 5 (some .int) [(0, 10, 13, 21)] :: TBL) B.pre
  have hown : s.vm.findClass RXL = some m.cls := findClass_of_methodNamed B.named
  have hlocks := B.notSynchronized
  subst hsz
  obtain ⟨A, hAe⟩ : ∃ A, A = va_A [(ga, .inr (4, [.ref ta, .ref rda, .ref pa, .ref sa, .ref ea, .ref ba, .ref da])), (ba, .inr (0, [.ref bt, .ref bp, .ref bl, .ref bh, .ref bq, .ref br, .ref bd, .int (jI bg), .int (jI bf)])), (bp, .inl (cA, 31, .inl (jA fp))), (br, .inl (cA, 31, .inl (jA fr))), (oa, .inl (cL, 1, .inr (.inl (jAL fo))))] s.heap.size := ⟨_, rfl⟩
  have hD : va_D A [(ga, .inr (4, [.ref ta, .ref rda, .ref pa, .ref sa, .ref ea, .ref ba, .ref da])), (ba, .inr (0, [.ref bt, .ref bp, .ref bl, .ref bh, .ref bq, .ref br, .ref bd, .int (jI bg), .int (jI bf)])), (bp, .inl (cA, 31, .inl (jA fp))), (br, .inl (cA, 31, .inl (jA fr))), (oa, .inl (cL, 1, .inr (.inl (jAL fo))))] := by rw [hAe]; exact hD0.self
  have hA : ∀ q : Nat, s.heap.size ≤ q → A q := fun q h => by rw [hAe]; exact Or.inr h
  have hS : va_S A s.heap s.heap [] := va_S.rf
  have hP : va_P (dC, dI) vwCl [(ga, .inr (4, [.ref ta, .ref rda, .ref pa, .ref sa, .ref ea, .ref ba, .ref da])), (ba, .inr (0, [.ref bt, .ref bp, .ref bl, .ref bh, .ref bq, .ref br, .ref bd, .int (jI bg), .int (jI bf)])), (bp, .inl (cA, 31, .inl (jA fp))), (br, .inl (cA, 31, .inl (jA fr))), (oa, .inl (cL, 1, .inr (.inl (jAL fo))))] s.heap := hP
  have hl := lv_entry ([.ref ga, .int (jI z1), .int (jI z2), .ref oa]) (n := 5) (Nat.le_of_ble_eq_true rfl)
  rw [lg_entry_eq]
  generalize (lg_sl ([.ref ga, .int (jI z1), .int (jI z2), .ref oa]) ++ List.replicate (5 - (lg_sl ([.ref ga, .int (jI z1), .int (jI z2), .ref oa])).length) Slot.unset).toArray = ls at hl ⊢
  have hl : lv_has ls 5 [(0, .ref ga), (1, .int (jI z1)), (2, .int (jI z2)), (3, .ref oa)] := hl
  refine lv_aload_n hx hb dXL_route_0 rfl (lv_at hl 3 rfl) ?_
  refine ji_iconst hx hb dXL_route_1 ?_
  refine lv_aload_n hx hb dXL_route_2 rfl (lv_at hl 0 rfl) ?_
  refine lv_iload_n hx hb dXL_route_3 rfl (lv_at hl 1 rfl) ?_
  refine lv_iload_n hx hb dXL_route_4 rfl (lv_at hl 2 rfl) ?_
  refine ztRi (A := A) (rest := [.int (jI 0), .ref oa]) ⟨hx, hb, hml, hown, hts⟩ (c_XG_route l hst dC dI cA ga ta rda pa sa ea ba da bt bp bl bh bq br bd bg bf fp fr z1 z2 hbp hbr hbg hi_z1 hi_z2) (cwV 2 hts (jG_V tw_554 tw_555 tw_556 tw_1 tw_557) rfl rfl rfl (by decide +kernel) (by rw [hR]; exact ⟨Nat.le_of_ble_eq_true rfl, Nat.le_of_ble_eq_true rfl⟩)) (va_K.sub hK [0] rfl) hP hN hX [0, 1, 2, 3] rfl 0 4 rfl rfl rfl rfl hl.1 rfl (Nat.le_of_ble_eq_true rfl) dXL_route_5 (by rw [hR]; exact ⟨Nat.le_of_ble_eq_true rfl, Nat.le_of_ble_eq_true rfl⟩) (fun hz => ?_) (fun hz x ce H1 L hP hS hce hcl hvm => ?_)
  · refine ji_re (y := jw ((f_XG_route bg bf fp fr z1 z2).2)) (jI_jw _).symm ?_
    refine ji_i2l hx hb dXL_route_8 (jw_i _) ?_
    refine ji_last hx hb hK hP hD hS 4 1 rfl rfl ⟨by decide, by decide⟩ (by decide) dXL_route_9 (fun H locs hP hD hS => ?_)
    have hP : va_P (dC, dI) vwCl [(ga, .inr (4, [.ref ta, .ref rda, .ref pa, .ref sa, .ref ea, .ref ba, .ref da])), (ba, .inr (0, [.ref bt, .ref bp, .ref bl, .ref bh, .ref bq, .ref br, .ref bd, .int (jI bg), .int (jI bf)])), (bp, .inl (cA, 31, .inl (jA fp))), (br, .inl (cA, 31, .inl (jA fr))), (oa, .inl (cL, 1, .inr (.inl (jAL (jset fo 0 (jw ((f_XG_route bg bf fp fr z1 z2).2)))))))] H := hP
    have hD : va_D A [(ga, .inr (4, [.ref ta, .ref rda, .ref pa, .ref sa, .ref ea, .ref ba, .ref da])), (ba, .inr (0, [.ref bt, .ref bp, .ref bl, .ref bh, .ref bq, .ref br, .ref bd, .int (jI bg), .int (jI bf)])), (bp, .inl (cA, 31, .inl (jA fp))), (br, .inl (cA, 31, .inl (jA fr))), (oa, .inl (cL, 1, .inr (.inl (jAL (jset fo 0 (jw ((f_XG_route bg bf fp fr z1 z2).2)))))))] := hD
    refine lv_goto (tgt := 17) hx hb dXL_route_10 (by decide) ?_
    refine ji_iconst hx hb dXL_route_17 ?_
    refine W.widen (k := 1) (n := 6) (Nat.le_of_ble_eq_true rfl) (Nat.le_of_ble_eq_true rfl) ?_
    have hP9 := hP.sub (ws' := [(ga, .inr (4, [.ref ta, .ref rda, .ref pa, .ref sa, .ref ea, .ref ba, .ref da])), (ba, .inr (0, [.ref bt, .ref bp, .ref bl, .ref bh, .ref bq, .ref br, .ref bd, .int (jI bg), .int (jI bf)])), (bp, .inl (cA, 31, .inl (jA fp))), (br, .inl (cA, 31, .inl (jA fr))), (oa, .inl (cL, 1, .inr (.inl (jAL (jset fo 0 (jw ((f_XG_route bg bf fp fr z1 z2).2)))))))]) [0, 1, 2, 3, 4] rfl
    have hD9 := hD.sub (ws' := [(ga, .inr (4, [.ref ta, .ref rda, .ref pa, .ref sa, .ref ea, .ref ba, .ref da])), (ba, .inr (0, [.ref bt, .ref bp, .ref bl, .ref bh, .ref bq, .ref br, .ref bd, .int (jI bg), .int (jI bf)])), (bp, .inl (cA, 31, .inl (jA fp))), (br, .inl (cA, 31, .inl (jA fr))), (oa, .inl (cL, 1, .inr (.inl (jAL (jset fo 0 (jw ((f_XG_route bg bf fp fr z1 z2).2)))))))]) [0, 1, 2, 3, 4] (by decide) rfl
    subst hAe
    subst hQ
    refine yW (fun _ h => yQ_of h) ?_
    exact W.iret (v := jI 0) hx hb hr (fun t ht hW => ⟨⟨_, (0, jset fo 0 (jw ((f_XG_route bg bf fp fr z1 z2).2))), rfl, ⟨rfl, by rw [f_XL_route_s, if_pos hz]⟩, ⟨by rw [ht]; exact hP9, va_K.moved hW.alike hK, hD9⟩⟩, hS.F ht⟩) hS.2.2 dXL_route_18
  · rcases f_XG_route_e bg bf fp fr z1 z2 with h9 | h9
    · exact absurd h9 hz
    · rw [h9, xCls_1] at hcl
      refine zOn1 htab hown ⟨by decide, by decide⟩ (by decide) (hts _ (jmem tw_407)) hX.c1 hce hcl hvm ?_
      refine lv_astore (lv' := [(4, .ref x), (0, .ref ga), (1, .int (jI z1)), (2, .int (jI z2)), (3, .ref oa)]) hx hb dXL_route_13 hl (by decide) rfl (fun ls hl => ?_)
      refine ji_iconst hx hb dXL_route_15 ?_
      refine W.widen (k := 1) (n := 6) (Nat.le_of_ble_eq_true rfl) (Nat.le_of_ble_eq_true rfl) ?_
      have hP9 := hP.sub (ws' := [(ga, .inr (4, [.ref ta, .ref rda, .ref pa, .ref sa, .ref ea, .ref ba, .ref da])), (ba, .inr (0, [.ref bt, .ref bp, .ref bl, .ref bh, .ref bq, .ref br, .ref bd, .int (jI bg), .int (jI bf)])), (bp, .inl (cA, 31, .inl (jA fp))), (br, .inl (cA, 31, .inl (jA fr))), (oa, .inl (cL, 1, .inr (.inl (jAL fo))))]) [0, 1, 2, 3, 4] rfl
      have hD9 := hD.sub (ws' := [(ga, .inr (4, [.ref ta, .ref rda, .ref pa, .ref sa, .ref ea, .ref ba, .ref da])), (ba, .inr (0, [.ref bt, .ref bp, .ref bl, .ref bh, .ref bq, .ref br, .ref bd, .int (jI bg), .int (jI bf)])), (bp, .inl (cA, 31, .inl (jA fp))), (br, .inl (cA, 31, .inl (jA fr))), (oa, .inl (cL, 1, .inr (.inl (jAL fo))))]) [0, 1, 2, 3, 4] (by decide) rfl
      subst hAe
      subst hQ
      refine yW (fun _ h => yQ_of h) ?_
      exact W.iret (v := jI 1) hx hb hr (fun t ht hW => ⟨⟨_, (1, fo), rfl, ⟨rfl, by rw [f_XL_route_s, if_neg hz]⟩, ⟨by rw [ht]; exact hP9, va_K.moved hW.alike hK, hD9⟩⟩, hS.F ht⟩) hS.2.2 dXL_route_16
noncomputable def g_XL_difference (bg : Int) (bf : Int) (fp : Int → Int) (fl : Int → Int) (fh : Int → Int) (z1 : Int) (z2 : Int) (z3 : Int) (fo : Int → Int) : Int × (Int → Int) :=
  if (f_XG_difference bg bf fp fl fh z1 z2 z3).1 = 0 then
    (0, jset fo 0 (jw ((f_XG_difference bg bf fp fl fh z1 z2 z3).2)))
  else
    (1, fo)
noncomputable def f_XL_difference : Int → Int → (Int → Int) → (Int → Int) → (Int → Int) → Int → Int → Int → (Int → Int) → Int × (Int → Int) := jopq g_XL_difference
theorem f_XL_difference_q : f_XL_difference = g_XL_difference := jopq_eq _
theorem f_XL_difference_s (bg : Int) (bf : Int) (fp : Int → Int) (fl : Int → Int) (fh : Int → Int) (z1 : Int) (z2 : Int) (z3 : Int) (fo : Int → Int) : f_XL_difference bg bf fp fl fh z1 z2 z3 fo = (
    if (f_XG_difference bg bf fp fl fh z1 z2 z3).1 = 0 then
      (0, jset fo 0 (jw ((f_XG_difference bg bf fp fl fh z1 z2 z3).2)))
    else
      (1, fo)
  : Int × (Int → Int)) := by rw [f_XL_difference_q]; rfl
set_option maxHeartbeats 4000000 in
set_option maxRecDepth 100000 in
theorem c_XL_difference (l : Launch) (hst : l.stackTraces = false) (dC : Nat → ClassId) (dI : Nat → Nat → Nat) (cA cL : ClassId) (sz : Nat) (ga : Nat) (ta : Nat) (rda : Nat) (pa : Nat) (sa : Nat) (ea : Nat) (ba : Nat) (da : Nat) (bt : Nat) (bp : Nat) (bl : Nat) (bh : Nat) (bq : Nat) (br : Nat) (bd : Nat) (bg : Int) (bf : Int) (fp : Int → Int) (fl : Int → Int) (fh : Int → Int) (z1 : Int) (z2 : Int) (z3 : Int) (oa : Nat) (fo : Int → Int) (hbp : ∀ i, 0 ≤ fp i ∧ fp i ≤ 30) (hbl : ∀ i, 0 ≤ fl i ∧ fl i ≤ 100000) (hbh : ∀ i, -1 ≤ fh i ∧ fh i ≤ 100000) (hbg : 0 ≤ bg ∧ bg < 2147483648) (hi_z1 : i32 z1) (hi_z2 : i32 z2) (hi_z3 : i32 z3) : YMet l yXL_difference (Cond.codeWith yXL_difference cXL_difference 6 (some .int) [(0, 12, 15, 21)] :: TBL) ({ frames := 8, cells := 1, slots := 6, locals := 128 } : Room) (va_Pc [.ref ga, .int (jI z1), .int (jI z2), .int (jI z3), .ref oa] (jBc (dC, dI) [(cA, .int), (cL, .long)] [(ga, .inr (4, [.ref ta, .ref rda, .ref pa, .ref sa, .ref ea, .ref ba, .ref da])), (ba, .inr (0, [.ref bt, .ref bp, .ref bl, .ref bh, .ref bq, .ref br, .ref bd, .int (jI bg), .int (jI bf)])), (bp, .inl (cA, 31, .inl (jA fp))), (bl, .inl (cA, 248, .inl (jA fl))), (bh, .inl (cA, 248, .inl (jA fh))), (oa, .inl (cL, 1, .inr (.inl (jAL fo))))] sz)) (va_Qi (fun (r : Int32) (u : Int × (Int → Int)) => r = jI u.1 ∧ u = f_XL_difference bg bf fp fl fh z1 z2 z3 fo) (fun u t => jE (dC, dI) [(cA, .int), (cL, .long)] [(ga, .inr (4, [.ref ta, .ref rda, .ref pa, .ref sa, .ref ea, .ref ba, .ref da])), (ba, .inr (0, [.ref bt, .ref bp, .ref bl, .ref bh, .ref bq, .ref br, .ref bd, .int (jI bg), .int (jI bf)])), (bp, .inl (cA, 31, .inl (jA fp))), (bl, .inl (cA, 248, .inl (jA fl))), (bh, .inl (cA, 248, .inl (jA fh))), (oa, .inl (cL, 1, .inr (.inl (jAL fo))))] sz [(ga, .inr (4, [.ref ta, .ref rda, .ref pa, .ref sa, .ref ea, .ref ba, .ref da])), (ba, .inr (0, [.ref bt, .ref bp, .ref bl, .ref bh, .ref bq, .ref br, .ref bd, .int (jI bg), .int (jI bf)])), (bp, .inl (cA, 31, .inl (jA fp))), (bl, .inl (cA, 248, .inl (jA fl))), (bh, .inl (cA, 248, .inl (jA fh))), (oa, .inl (cL, 1, .inr (.inl (jAL u.2))))] t) (va_A [(ga, .inr (4, [.ref ta, .ref rda, .ref pa, .ref sa, .ref ea, .ref ba, .ref da])), (ba, .inr (0, [.ref bt, .ref bp, .ref bl, .ref bh, .ref bq, .ref br, .ref bd, .int (jI bg), .int (jI bf)])), (bp, .inl (cA, 31, .inl (jA fp))), (bl, .inl (cA, 248, .inl (jA fl))), (bh, .inl (cA, 248, .inl (jA fh))), (oa, .inl (cL, 1, .inr (.inl (jAL fo))))] sz)) 1 6 1 6 (va_A [(ga, .inr (4, [.ref ta, .ref rda, .ref pa, .ref sa, .ref ea, .ref ba, .ref da])), (ba, .inr (0, [.ref bt, .ref bp, .ref bl, .ref bh, .ref bq, .ref br, .ref bd, .int (jI bg), .int (jI bf)])), (bp, .inl (cA, 31, .inl (jA fp))), (bl, .inl (cA, 248, .inl (jA fl))), (bh, .inl (cA, 248, .inl (jA fh))), (oa, .inl (cL, 1, .inr (.inl (jAL fo))))] sz) := by
  refine YMet.ofWH (cc := cXL_difference) (maxL := 6) (ret := some .int) (hh := [(0, 12, 15, 21)]) (by decide) rfl ?_
  intro p e s m args below meth c s₁ R Q hR hQ B hml htab hv
  obtain ⟨rfl, ⟨hsz, hP, hK, hD0, hN⟩, hX, hC⟩ := hv
  have hx := B.exec
  have hb := B.bytes
  have hr := B.returns
  have hts := atoms_spec (ws := Cond.codeWith yXL_difference cXL_difference 6 (some .int) [(0, 12, 15, 21)] :: TBL) B.pre
  have hown : s.vm.findClass RXL = some m.cls := findClass_of_methodNamed B.named
  have hlocks := B.notSynchronized
  subst hsz
  obtain ⟨A, hAe⟩ : ∃ A, A = va_A [(ga, .inr (4, [.ref ta, .ref rda, .ref pa, .ref sa, .ref ea, .ref ba, .ref da])), (ba, .inr (0, [.ref bt, .ref bp, .ref bl, .ref bh, .ref bq, .ref br, .ref bd, .int (jI bg), .int (jI bf)])), (bp, .inl (cA, 31, .inl (jA fp))), (bl, .inl (cA, 248, .inl (jA fl))), (bh, .inl (cA, 248, .inl (jA fh))), (oa, .inl (cL, 1, .inr (.inl (jAL fo))))] s.heap.size := ⟨_, rfl⟩
  have hD : va_D A [(ga, .inr (4, [.ref ta, .ref rda, .ref pa, .ref sa, .ref ea, .ref ba, .ref da])), (ba, .inr (0, [.ref bt, .ref bp, .ref bl, .ref bh, .ref bq, .ref br, .ref bd, .int (jI bg), .int (jI bf)])), (bp, .inl (cA, 31, .inl (jA fp))), (bl, .inl (cA, 248, .inl (jA fl))), (bh, .inl (cA, 248, .inl (jA fh))), (oa, .inl (cL, 1, .inr (.inl (jAL fo))))] := by rw [hAe]; exact hD0.self
  have hA : ∀ q : Nat, s.heap.size ≤ q → A q := fun q h => by rw [hAe]; exact Or.inr h
  have hS : va_S A s.heap s.heap [] := va_S.rf
  have hP : va_P (dC, dI) vwCl [(ga, .inr (4, [.ref ta, .ref rda, .ref pa, .ref sa, .ref ea, .ref ba, .ref da])), (ba, .inr (0, [.ref bt, .ref bp, .ref bl, .ref bh, .ref bq, .ref br, .ref bd, .int (jI bg), .int (jI bf)])), (bp, .inl (cA, 31, .inl (jA fp))), (bl, .inl (cA, 248, .inl (jA fl))), (bh, .inl (cA, 248, .inl (jA fh))), (oa, .inl (cL, 1, .inr (.inl (jAL fo))))] s.heap := hP
  have hl := lv_entry ([.ref ga, .int (jI z1), .int (jI z2), .int (jI z3), .ref oa]) (n := 6) (Nat.le_of_ble_eq_true rfl)
  rw [lg_entry_eq]
  generalize (lg_sl ([.ref ga, .int (jI z1), .int (jI z2), .int (jI z3), .ref oa]) ++ List.replicate (6 - (lg_sl ([.ref ga, .int (jI z1), .int (jI z2), .int (jI z3), .ref oa])).length) Slot.unset).toArray = ls at hl ⊢
  have hl : lv_has ls 6 [(0, .ref ga), (1, .int (jI z1)), (2, .int (jI z2)), (3, .int (jI z3)), (4, .ref oa)] := hl
  refine lv_aload hx hb dXL_difference_0 (lv_at hl 4 rfl) ?_
  refine ji_iconst hx hb dXL_difference_2 ?_
  refine lv_aload_n hx hb dXL_difference_3 rfl (lv_at hl 0 rfl) ?_
  refine lv_iload_n hx hb dXL_difference_4 rfl (lv_at hl 1 rfl) ?_
  refine lv_iload_n hx hb dXL_difference_5 rfl (lv_at hl 2 rfl) ?_
  refine lv_iload_n hx hb dXL_difference_6 rfl (lv_at hl 3 rfl) ?_
  refine ztRi (A := A) (rest := [.int (jI 0), .ref oa]) ⟨hx, hb, hml, hown, hts⟩ (c_XG_difference l hst dC dI cA ga ta rda pa sa ea ba da bt bp bl bh bq br bd bg bf fp fl fh z1 z2 z3 hbp hbl hbh hbg hi_z1 hi_z2 hi_z3) (cwV 3 hts (jG_V tw_566 tw_567 tw_568 tw_1 tw_569) rfl rfl rfl (by decide +kernel) (by rw [hR]; exact ⟨Nat.le_of_ble_eq_true rfl, Nat.le_of_ble_eq_true rfl⟩)) (va_K.sub hK [0] rfl) hP hN hX [0, 1, 2, 3, 4] rfl 0 4 rfl rfl rfl rfl hl.1 rfl (Nat.le_of_ble_eq_true rfl) dXL_difference_7 (by rw [hR]; exact ⟨Nat.le_of_ble_eq_true rfl, Nat.le_of_ble_eq_true rfl⟩) (fun hz => ?_) (fun hz x ce H1 L hP hS hce hcl hvm => ?_)
  · refine ji_re (y := jw ((f_XG_difference bg bf fp fl fh z1 z2 z3).2)) (jI_jw _).symm ?_
    refine ji_i2l hx hb dXL_difference_10 (jw_i _) ?_
    refine ji_last hx hb hK hP hD hS 5 1 rfl rfl ⟨by decide, by decide⟩ (by decide) dXL_difference_11 (fun H locs hP hD hS => ?_)
    have hP : va_P (dC, dI) vwCl [(ga, .inr (4, [.ref ta, .ref rda, .ref pa, .ref sa, .ref ea, .ref ba, .ref da])), (ba, .inr (0, [.ref bt, .ref bp, .ref bl, .ref bh, .ref bq, .ref br, .ref bd, .int (jI bg), .int (jI bf)])), (bp, .inl (cA, 31, .inl (jA fp))), (bl, .inl (cA, 248, .inl (jA fl))), (bh, .inl (cA, 248, .inl (jA fh))), (oa, .inl (cL, 1, .inr (.inl (jAL (jset fo 0 (jw ((f_XG_difference bg bf fp fl fh z1 z2 z3).2)))))))] H := hP
    have hD : va_D A [(ga, .inr (4, [.ref ta, .ref rda, .ref pa, .ref sa, .ref ea, .ref ba, .ref da])), (ba, .inr (0, [.ref bt, .ref bp, .ref bl, .ref bh, .ref bq, .ref br, .ref bd, .int (jI bg), .int (jI bf)])), (bp, .inl (cA, 31, .inl (jA fp))), (bl, .inl (cA, 248, .inl (jA fl))), (bh, .inl (cA, 248, .inl (jA fh))), (oa, .inl (cL, 1, .inr (.inl (jAL (jset fo 0 (jw ((f_XG_difference bg bf fp fl fh z1 z2 z3).2)))))))] := hD
    refine lv_goto (tgt := 19) hx hb dXL_difference_12 (by decide) ?_
    refine ji_iconst hx hb dXL_difference_19 ?_
    refine W.widen (k := 1) (n := 6) (Nat.le_of_ble_eq_true rfl) (Nat.le_of_ble_eq_true rfl) ?_
    have hP9 := hP.sub (ws' := [(ga, .inr (4, [.ref ta, .ref rda, .ref pa, .ref sa, .ref ea, .ref ba, .ref da])), (ba, .inr (0, [.ref bt, .ref bp, .ref bl, .ref bh, .ref bq, .ref br, .ref bd, .int (jI bg), .int (jI bf)])), (bp, .inl (cA, 31, .inl (jA fp))), (bl, .inl (cA, 248, .inl (jA fl))), (bh, .inl (cA, 248, .inl (jA fh))), (oa, .inl (cL, 1, .inr (.inl (jAL (jset fo 0 (jw ((f_XG_difference bg bf fp fl fh z1 z2 z3).2)))))))]) [0, 1, 2, 3, 4, 5] rfl
    have hD9 := hD.sub (ws' := [(ga, .inr (4, [.ref ta, .ref rda, .ref pa, .ref sa, .ref ea, .ref ba, .ref da])), (ba, .inr (0, [.ref bt, .ref bp, .ref bl, .ref bh, .ref bq, .ref br, .ref bd, .int (jI bg), .int (jI bf)])), (bp, .inl (cA, 31, .inl (jA fp))), (bl, .inl (cA, 248, .inl (jA fl))), (bh, .inl (cA, 248, .inl (jA fh))), (oa, .inl (cL, 1, .inr (.inl (jAL (jset fo 0 (jw ((f_XG_difference bg bf fp fl fh z1 z2 z3).2)))))))]) [0, 1, 2, 3, 4, 5] (by decide) rfl
    subst hAe
    subst hQ
    refine yW (fun _ h => yQ_of h) ?_
    exact W.iret (v := jI 0) hx hb hr (fun t ht hW => ⟨⟨_, (0, jset fo 0 (jw ((f_XG_difference bg bf fp fl fh z1 z2 z3).2))), rfl, ⟨rfl, by rw [f_XL_difference_s, if_pos hz]⟩, ⟨by rw [ht]; exact hP9, va_K.moved hW.alike hK, hD9⟩⟩, hS.F ht⟩) hS.2.2 dXL_difference_20
  · rcases f_XG_difference_e bg bf fp fl fh z1 z2 z3 with h9 | h9
    · exact absurd h9 hz
    · rw [h9, xCls_1] at hcl
      refine zOn1 htab hown ⟨by decide, by decide⟩ (by decide) (hts _ (jmem tw_407)) hX.c1 hce hcl hvm ?_
      refine lv_astore (lv' := [(5, .ref x), (0, .ref ga), (1, .int (jI z1)), (2, .int (jI z2)), (3, .int (jI z3)), (4, .ref oa)]) hx hb dXL_difference_15 hl (by decide) rfl (fun ls hl => ?_)
      refine ji_iconst hx hb dXL_difference_17 ?_
      refine W.widen (k := 1) (n := 6) (Nat.le_of_ble_eq_true rfl) (Nat.le_of_ble_eq_true rfl) ?_
      have hP9 := hP.sub (ws' := [(ga, .inr (4, [.ref ta, .ref rda, .ref pa, .ref sa, .ref ea, .ref ba, .ref da])), (ba, .inr (0, [.ref bt, .ref bp, .ref bl, .ref bh, .ref bq, .ref br, .ref bd, .int (jI bg), .int (jI bf)])), (bp, .inl (cA, 31, .inl (jA fp))), (bl, .inl (cA, 248, .inl (jA fl))), (bh, .inl (cA, 248, .inl (jA fh))), (oa, .inl (cL, 1, .inr (.inl (jAL fo))))]) [0, 1, 2, 3, 4, 5] rfl
      have hD9 := hD.sub (ws' := [(ga, .inr (4, [.ref ta, .ref rda, .ref pa, .ref sa, .ref ea, .ref ba, .ref da])), (ba, .inr (0, [.ref bt, .ref bp, .ref bl, .ref bh, .ref bq, .ref br, .ref bd, .int (jI bg), .int (jI bf)])), (bp, .inl (cA, 31, .inl (jA fp))), (bl, .inl (cA, 248, .inl (jA fl))), (bh, .inl (cA, 248, .inl (jA fh))), (oa, .inl (cL, 1, .inr (.inl (jAL fo))))]) [0, 1, 2, 3, 4, 5] (by decide) rfl
      subst hAe
      subst hQ
      refine yW (fun _ h => yQ_of h) ?_
      exact W.iret (v := jI 1) hx hb hr (fun t ht hW => ⟨⟨_, (1, fo), rfl, ⟨rfl, by rw [f_XL_difference_s, if_neg hz]⟩, ⟨by rw [ht]; exact hP9, va_K.moved hW.alike hK, hD9⟩⟩, hS.F ht⟩) hS.2.2 dXL_difference_18
noncomputable def g_XL_write (bg : Int) (bf : Int) (ft : Int → Int) (fl : Int → Int) (fh : Int → Int) (fq : Int → Int) (fr : Int → Int) (pn : Int) (pf : Int → Int) (z1 : Int) (fo : Int → Int) : Int × (Int → Int) × Int × (Int → Int) :=
  if (f_XG_write bg bf ft fl fh fq fr pn pf z1).1 = 0 then
    (0, jset fo 0 (jw ((f_XG_write bg bf ft fl fh fq fr pn pf z1).2.1)), (f_XG_write bg bf ft fl fh fq fr pn pf z1).2.2.1, (f_XG_write bg bf ft fl fh fq fr pn pf z1).2.2.2)
  else
    (1, fo, pn, pf)
noncomputable def f_XL_write : Int → Int → (Int → Int) → (Int → Int) → (Int → Int) → (Int → Int) → (Int → Int) → Int → (Int → Int) → Int → (Int → Int) → Int × (Int → Int) × Int × (Int → Int) := jopq g_XL_write
theorem f_XL_write_q : f_XL_write = g_XL_write := jopq_eq _
theorem f_XL_write_s (bg : Int) (bf : Int) (ft : Int → Int) (fl : Int → Int) (fh : Int → Int) (fq : Int → Int) (fr : Int → Int) (pn : Int) (pf : Int → Int) (z1 : Int) (fo : Int → Int) : f_XL_write bg bf ft fl fh fq fr pn pf z1 fo = (
    if (f_XG_write bg bf ft fl fh fq fr pn pf z1).1 = 0 then
      (0, jset fo 0 (jw ((f_XG_write bg bf ft fl fh fq fr pn pf z1).2.1)), (f_XG_write bg bf ft fl fh fq fr pn pf z1).2.2.1, (f_XG_write bg bf ft fl fh fq fr pn pf z1).2.2.2)
    else
      (1, fo, pn, pf)
  : Int × (Int → Int) × Int × (Int → Int)) := by rw [f_XL_write_q]; rfl
set_option maxHeartbeats 4000000 in
set_option maxRecDepth 100000 in
theorem c_XL_write (l : Launch) (hst : l.stackTraces = false) (dC : Nat → ClassId) (dI : Nat → Nat → Nat) (cA cL : ClassId) (sz : Nat) (ga : Nat) (ta : Nat) (rda : Nat) (pa : Nat) (sa : Nat) (ea : Nat) (ba : Nat) (da : Nat) (bt : Nat) (bp : Nat) (bl : Nat) (bh : Nat) (bq : Nat) (br : Nat) (bd : Nat) (bg : Int) (bf : Int) (ft : Int → Int) (fl : Int → Int) (fh : Int → Int) (fq : Int → Int) (fr : Int → Int) (ps : Nat) (pn : Int) (pf : Int → Int) (z1 : Int) (oa : Nat) (fo : Int → Int) (hbt : ∀ i, 0 ≤ ft i ∧ ft i ≤ 30) (hbl : ∀ i, 0 ≤ fl i ∧ fl i ≤ 100000) (hbh : ∀ i, -1 ≤ fh i ∧ fh i ≤ 100000) (hbq : ∀ i, -1 ≤ fq i ∧ fq i ≤ 999999) (hbr : ∀ i, 0 ≤ fr i ∧ fr i < 2147483648) (hbg : 0 ≤ bg ∧ bg < 2147483648) (hpn : 0 ≤ pn ∧ pn ≤ 160) (hi_z1 : i32 z1) : YMet l yXL_write (Cond.codeWith yXL_write cXL_write 4 (some .int) [(0, 9, 12, 21)] :: TBL) ({ frames := 8, cells := 1, slots := 6, locals := 124 } : Room) (va_Pc [.ref ga, .int (jI z1), .ref oa] (jBc (dC, dI) [(cA, .int), (cL, .long)] [(ga, .inr (4, [.ref ta, .ref rda, .ref pa, .ref sa, .ref ea, .ref ba, .ref da])), (ba, .inr (0, [.ref bt, .ref bp, .ref bl, .ref bh, .ref bq, .ref br, .ref bd, .int (jI bg), .int (jI bf)])), (bt, .inl (cA, 31, .inl (jA ft))), (bl, .inl (cA, 248, .inl (jA fl))), (bh, .inl (cA, 248, .inl (jA fh))), (bq, .inl (cA, 124, .inl (jA fq))), (br, .inl (cA, 31, .inl (jA fr))), (pa, .inr (1, [.ref ps, .int (jI pn)])), (ps, .inl (cA, 160, .inl (jA pf))), (oa, .inl (cL, 1, .inr (.inl (jAL fo))))] sz)) (va_Qi (fun (r : Int32) (u : Int × (Int → Int) × Int × (Int → Int)) => r = jI u.1 ∧ u = f_XL_write bg bf ft fl fh fq fr pn pf z1 fo ∧ (0 ≤ u.2.2.1 ∧ u.2.2.1 ≤ 160)) (fun u t => jE (dC, dI) [(cA, .int), (cL, .long)] [(ga, .inr (4, [.ref ta, .ref rda, .ref pa, .ref sa, .ref ea, .ref ba, .ref da])), (ba, .inr (0, [.ref bt, .ref bp, .ref bl, .ref bh, .ref bq, .ref br, .ref bd, .int (jI bg), .int (jI bf)])), (bt, .inl (cA, 31, .inl (jA ft))), (bl, .inl (cA, 248, .inl (jA fl))), (bh, .inl (cA, 248, .inl (jA fh))), (bq, .inl (cA, 124, .inl (jA fq))), (br, .inl (cA, 31, .inl (jA fr))), (pa, .inr (1, [.ref ps, .int (jI pn)])), (ps, .inl (cA, 160, .inl (jA pf))), (oa, .inl (cL, 1, .inr (.inl (jAL fo))))] sz [(ga, .inr (4, [.ref ta, .ref rda, .ref pa, .ref sa, .ref ea, .ref ba, .ref da])), (ba, .inr (0, [.ref bt, .ref bp, .ref bl, .ref bh, .ref bq, .ref br, .ref bd, .int (jI bg), .int (jI bf)])), (bt, .inl (cA, 31, .inl (jA ft))), (bl, .inl (cA, 248, .inl (jA fl))), (bh, .inl (cA, 248, .inl (jA fh))), (bq, .inl (cA, 124, .inl (jA fq))), (br, .inl (cA, 31, .inl (jA fr))), (pa, .inr (1, [.ref ps, .int (jI u.2.2.1)])), (ps, .inl (cA, 160, .inl (jA u.2.2.2))), (oa, .inl (cL, 1, .inr (.inl (jAL u.2.1))))] t) (va_A [(ga, .inr (4, [.ref ta, .ref rda, .ref pa, .ref sa, .ref ea, .ref ba, .ref da])), (ba, .inr (0, [.ref bt, .ref bp, .ref bl, .ref bh, .ref bq, .ref br, .ref bd, .int (jI bg), .int (jI bf)])), (bt, .inl (cA, 31, .inl (jA ft))), (bl, .inl (cA, 248, .inl (jA fl))), (bh, .inl (cA, 248, .inl (jA fh))), (bq, .inl (cA, 124, .inl (jA fq))), (br, .inl (cA, 31, .inl (jA fr))), (pa, .inr (1, [.ref ps, .int (jI pn)])), (ps, .inl (cA, 160, .inl (jA pf))), (oa, .inl (cL, 1, .inr (.inl (jAL fo))))] sz)) 1 6 1 6 (va_A [(ga, .inr (4, [.ref ta, .ref rda, .ref pa, .ref sa, .ref ea, .ref ba, .ref da])), (ba, .inr (0, [.ref bt, .ref bp, .ref bl, .ref bh, .ref bq, .ref br, .ref bd, .int (jI bg), .int (jI bf)])), (bt, .inl (cA, 31, .inl (jA ft))), (bl, .inl (cA, 248, .inl (jA fl))), (bh, .inl (cA, 248, .inl (jA fh))), (bq, .inl (cA, 124, .inl (jA fq))), (br, .inl (cA, 31, .inl (jA fr))), (pa, .inr (1, [.ref ps, .int (jI pn)])), (ps, .inl (cA, 160, .inl (jA pf))), (oa, .inl (cL, 1, .inr (.inl (jAL fo))))] sz) := by
  refine YMet.ofWH (cc := cXL_write) (maxL := 4) (ret := some .int) (hh := [(0, 9, 12, 21)]) (by decide) rfl ?_
  intro p e s m args below meth c s₁ R Q hR hQ B hml htab hv
  obtain ⟨rfl, ⟨hsz, hP, hK, hD0, hN⟩, hX, hC⟩ := hv
  have hx := B.exec
  have hb := B.bytes
  have hr := B.returns
  have hts := atoms_spec (ws := Cond.codeWith yXL_write cXL_write 4 (some .int) [(0, 9, 12, 21)] :: TBL) B.pre
  have hown : s.vm.findClass RXL = some m.cls := findClass_of_methodNamed B.named
  have hlocks := B.notSynchronized
  subst hsz
  obtain ⟨A, hAe⟩ : ∃ A, A = va_A [(ga, .inr (4, [.ref ta, .ref rda, .ref pa, .ref sa, .ref ea, .ref ba, .ref da])), (ba, .inr (0, [.ref bt, .ref bp, .ref bl, .ref bh, .ref bq, .ref br, .ref bd, .int (jI bg), .int (jI bf)])), (bt, .inl (cA, 31, .inl (jA ft))), (bl, .inl (cA, 248, .inl (jA fl))), (bh, .inl (cA, 248, .inl (jA fh))), (bq, .inl (cA, 124, .inl (jA fq))), (br, .inl (cA, 31, .inl (jA fr))), (pa, .inr (1, [.ref ps, .int (jI pn)])), (ps, .inl (cA, 160, .inl (jA pf))), (oa, .inl (cL, 1, .inr (.inl (jAL fo))))] s.heap.size := ⟨_, rfl⟩
  have hD : va_D A [(ga, .inr (4, [.ref ta, .ref rda, .ref pa, .ref sa, .ref ea, .ref ba, .ref da])), (ba, .inr (0, [.ref bt, .ref bp, .ref bl, .ref bh, .ref bq, .ref br, .ref bd, .int (jI bg), .int (jI bf)])), (bt, .inl (cA, 31, .inl (jA ft))), (bl, .inl (cA, 248, .inl (jA fl))), (bh, .inl (cA, 248, .inl (jA fh))), (bq, .inl (cA, 124, .inl (jA fq))), (br, .inl (cA, 31, .inl (jA fr))), (pa, .inr (1, [.ref ps, .int (jI pn)])), (ps, .inl (cA, 160, .inl (jA pf))), (oa, .inl (cL, 1, .inr (.inl (jAL fo))))] := by rw [hAe]; exact hD0.self
  have hA : ∀ q : Nat, s.heap.size ≤ q → A q := fun q h => by rw [hAe]; exact Or.inr h
  have hS : va_S A s.heap s.heap [] := va_S.rf
  have hP : va_P (dC, dI) vwCl [(ga, .inr (4, [.ref ta, .ref rda, .ref pa, .ref sa, .ref ea, .ref ba, .ref da])), (ba, .inr (0, [.ref bt, .ref bp, .ref bl, .ref bh, .ref bq, .ref br, .ref bd, .int (jI bg), .int (jI bf)])), (bt, .inl (cA, 31, .inl (jA ft))), (bl, .inl (cA, 248, .inl (jA fl))), (bh, .inl (cA, 248, .inl (jA fh))), (bq, .inl (cA, 124, .inl (jA fq))), (br, .inl (cA, 31, .inl (jA fr))), (pa, .inr (1, [.ref ps, .int (jI pn)])), (ps, .inl (cA, 160, .inl (jA pf))), (oa, .inl (cL, 1, .inr (.inl (jAL fo))))] s.heap := hP
  have hl := lv_entry ([.ref ga, .int (jI z1), .ref oa]) (n := 4) (Nat.le_of_ble_eq_true rfl)
  rw [lg_entry_eq]
  generalize (lg_sl ([.ref ga, .int (jI z1), .ref oa]) ++ List.replicate (4 - (lg_sl ([.ref ga, .int (jI z1), .ref oa])).length) Slot.unset).toArray = ls at hl ⊢
  have hl : lv_has ls 4 [(0, .ref ga), (1, .int (jI z1)), (2, .ref oa)] := hl
  refine lv_aload_n hx hb dXL_write_0 rfl (lv_at hl 2 rfl) ?_
  refine ji_iconst hx hb dXL_write_1 ?_
  refine lv_aload_n hx hb dXL_write_2 rfl (lv_at hl 0 rfl) ?_
  refine lv_iload_n hx hb dXL_write_3 rfl (lv_at hl 1 rfl) ?_
  refine ztWi (A := A) (wr := [(oa, .inl (cL, 1, .inr (.inl (jAL fo))))]) (rest := [.int (jI 0), .ref oa]) ⟨hx, hb, hml, hown, hts⟩ (c_XG_write l hst dC dI cA _ ga ta rda pa sa ea ba da bt bp bl bh bq br bd bg bf ft fl fh fq fr ps pn pf z1 hbt hbl hbh hbq hbr hbg hpn hi_z1) (cwV 1 hts (jG_V tw_573 tw_574 tw_575 tw_1 tw_576) rfl rfl rfl (by decide +kernel) (by rw [hR]; exact ⟨Nat.le_of_ble_eq_true rfl, Nat.le_of_ble_eq_true rfl⟩)) (va_K.sub hK [0] rfl) hP hD hA hN hX [0, 1, 2, 3, 4, 5, 6, 7, 8] [9] rfl rfl (by decide) (by decide) (by decide) 0 4 rfl rfl rfl rfl hl.1 rfl (Nat.le_of_ble_eq_true rfl) dXL_write_4 (by rw [hR]; exact ⟨Nat.le_of_ble_eq_true rfl, Nat.le_of_ble_eq_true rfl⟩) (fun hz r9 u9 H locs hp9 hP hD hS => ?_) (fun hz x ce H1 L hP hS hce hcl hvm => ?_)
  · obtain ⟨er, hu, f0⟩ := hp9
    subst er
    subst hu
    have hP : va_P (dC, dI) vwCl [(oa, .inl (cL, 1, .inr (.inl (jAL fo)))), (ga, .inr (4, [.ref ta, .ref rda, .ref pa, .ref sa, .ref ea, .ref ba, .ref da])), (ba, .inr (0, [.ref bt, .ref bp, .ref bl, .ref bh, .ref bq, .ref br, .ref bd, .int (jI bg), .int (jI bf)])), (bt, .inl (cA, 31, .inl (jA ft))), (bl, .inl (cA, 248, .inl (jA fl))), (bh, .inl (cA, 248, .inl (jA fh))), (bq, .inl (cA, 124, .inl (jA fq))), (br, .inl (cA, 31, .inl (jA fr))), (pa, .inr (1, [.ref ps, .int (jI ((f_XG_write bg bf ft fl fh fq fr pn pf z1).2.2.1))])), (ps, .inl (cA, 160, .inl (jA ((f_XG_write bg bf ft fl fh fq fr pn pf z1).2.2.2))))] H := hP
    have hD : va_D A [(oa, .inl (cL, 1, .inr (.inl (jAL fo)))), (ga, .inr (4, [.ref ta, .ref rda, .ref pa, .ref sa, .ref ea, .ref ba, .ref da])), (ba, .inr (0, [.ref bt, .ref bp, .ref bl, .ref bh, .ref bq, .ref br, .ref bd, .int (jI bg), .int (jI bf)])), (bt, .inl (cA, 31, .inl (jA ft))), (bl, .inl (cA, 248, .inl (jA fl))), (bh, .inl (cA, 248, .inl (jA fh))), (bq, .inl (cA, 124, .inl (jA fq))), (br, .inl (cA, 31, .inl (jA fr))), (pa, .inr (1, [.ref ps, .int (jI ((f_XG_write bg bf ft fl fh fq fr pn pf z1).2.2.1))])), (ps, .inl (cA, 160, .inl (jA ((f_XG_write bg bf ft fl fh fq fr pn pf z1).2.2.2))))] := hD
    refine ji_re (y := jw ((f_XG_write bg bf ft fl fh fq fr pn pf z1).2.1)) (jI_jw _).symm ?_
    refine ji_i2l hx hb dXL_write_7 (jw_i _) ?_
    refine ji_last hx hb hK hP hD hS 0 1 rfl rfl ⟨by decide, by decide⟩ (by decide) dXL_write_8 (fun H locs hP hD hS => ?_)
    have hP : va_P (dC, dI) vwCl [(oa, .inl (cL, 1, .inr (.inl (jAL (jset fo 0 (jw ((f_XG_write bg bf ft fl fh fq fr pn pf z1).2.1))))))), (ga, .inr (4, [.ref ta, .ref rda, .ref pa, .ref sa, .ref ea, .ref ba, .ref da])), (ba, .inr (0, [.ref bt, .ref bp, .ref bl, .ref bh, .ref bq, .ref br, .ref bd, .int (jI bg), .int (jI bf)])), (bt, .inl (cA, 31, .inl (jA ft))), (bl, .inl (cA, 248, .inl (jA fl))), (bh, .inl (cA, 248, .inl (jA fh))), (bq, .inl (cA, 124, .inl (jA fq))), (br, .inl (cA, 31, .inl (jA fr))), (pa, .inr (1, [.ref ps, .int (jI ((f_XG_write bg bf ft fl fh fq fr pn pf z1).2.2.1))])), (ps, .inl (cA, 160, .inl (jA ((f_XG_write bg bf ft fl fh fq fr pn pf z1).2.2.2))))] H := hP
    have hD : va_D A [(oa, .inl (cL, 1, .inr (.inl (jAL (jset fo 0 (jw ((f_XG_write bg bf ft fl fh fq fr pn pf z1).2.1))))))), (ga, .inr (4, [.ref ta, .ref rda, .ref pa, .ref sa, .ref ea, .ref ba, .ref da])), (ba, .inr (0, [.ref bt, .ref bp, .ref bl, .ref bh, .ref bq, .ref br, .ref bd, .int (jI bg), .int (jI bf)])), (bt, .inl (cA, 31, .inl (jA ft))), (bl, .inl (cA, 248, .inl (jA fl))), (bh, .inl (cA, 248, .inl (jA fh))), (bq, .inl (cA, 124, .inl (jA fq))), (br, .inl (cA, 31, .inl (jA fr))), (pa, .inr (1, [.ref ps, .int (jI ((f_XG_write bg bf ft fl fh fq fr pn pf z1).2.2.1))])), (ps, .inl (cA, 160, .inl (jA ((f_XG_write bg bf ft fl fh fq fr pn pf z1).2.2.2))))] := hD
    refine lv_goto (tgt := 15) hx hb dXL_write_9 (by decide) ?_
    refine ji_iconst hx hb dXL_write_15 ?_
    refine W.widen (k := 1) (n := 6) (Nat.le_of_ble_eq_true rfl) (Nat.le_of_ble_eq_true rfl) ?_
    have hP9 := hP.sub (ws' := [(ga, .inr (4, [.ref ta, .ref rda, .ref pa, .ref sa, .ref ea, .ref ba, .ref da])), (ba, .inr (0, [.ref bt, .ref bp, .ref bl, .ref bh, .ref bq, .ref br, .ref bd, .int (jI bg), .int (jI bf)])), (bt, .inl (cA, 31, .inl (jA ft))), (bl, .inl (cA, 248, .inl (jA fl))), (bh, .inl (cA, 248, .inl (jA fh))), (bq, .inl (cA, 124, .inl (jA fq))), (br, .inl (cA, 31, .inl (jA fr))), (pa, .inr (1, [.ref ps, .int (jI ((f_XG_write bg bf ft fl fh fq fr pn pf z1).2.2.1))])), (ps, .inl (cA, 160, .inl (jA ((f_XG_write bg bf ft fl fh fq fr pn pf z1).2.2.2)))), (oa, .inl (cL, 1, .inr (.inl (jAL (jset fo 0 (jw ((f_XG_write bg bf ft fl fh fq fr pn pf z1).2.1)))))))]) [1, 2, 3, 4, 5, 6, 7, 8, 9, 0] rfl
    have hD9 := hD.sub (ws' := [(ga, .inr (4, [.ref ta, .ref rda, .ref pa, .ref sa, .ref ea, .ref ba, .ref da])), (ba, .inr (0, [.ref bt, .ref bp, .ref bl, .ref bh, .ref bq, .ref br, .ref bd, .int (jI bg), .int (jI bf)])), (bt, .inl (cA, 31, .inl (jA ft))), (bl, .inl (cA, 248, .inl (jA fl))), (bh, .inl (cA, 248, .inl (jA fh))), (bq, .inl (cA, 124, .inl (jA fq))), (br, .inl (cA, 31, .inl (jA fr))), (pa, .inr (1, [.ref ps, .int (jI ((f_XG_write bg bf ft fl fh fq fr pn pf z1).2.2.1))])), (ps, .inl (cA, 160, .inl (jA ((f_XG_write bg bf ft fl fh fq fr pn pf z1).2.2.2)))), (oa, .inl (cL, 1, .inr (.inl (jAL (jset fo 0 (jw ((f_XG_write bg bf ft fl fh fq fr pn pf z1).2.1)))))))]) [1, 2, 3, 4, 5, 6, 7, 8, 9, 0] (by decide) rfl
    subst hAe
    subst hQ
    refine yW (fun _ h => yQ_of h) ?_
    exact W.iret (v := jI 0) hx hb hr (fun t ht hW => ⟨⟨_, (0, jset fo 0 (jw ((f_XG_write bg bf ft fl fh fq fr pn pf z1).2.1)), (f_XG_write bg bf ft fl fh fq fr pn pf z1).2.2.1, (f_XG_write bg bf ft fl fh fq fr pn pf z1).2.2.2), rfl, ⟨rfl, by rw [f_XL_write_s, if_pos hz], by first | assumption | omega⟩, ⟨by rw [ht]; exact hP9, va_K.moved hW.alike hK, hD9⟩⟩, hS.F ht⟩) hS.2.2 dXL_write_16
  · rcases f_XG_write_e bg bf ft fl fh fq fr pn pf z1 with h9 | h9
    · exact absurd h9 hz
    · rw [h9, xCls_1] at hcl
      refine zOn1 htab hown ⟨by decide, by decide⟩ (by decide) (hts _ (jmem tw_407)) hX.c1 hce hcl hvm ?_
      refine lv_astore_n (lv' := [(3, .ref x), (0, .ref ga), (1, .int (jI z1)), (2, .ref oa)]) hx hb dXL_write_12 rfl hl (by decide) rfl (fun ls hl => ?_)
      refine ji_iconst hx hb dXL_write_13 ?_
      refine W.widen (k := 1) (n := 6) (Nat.le_of_ble_eq_true rfl) (Nat.le_of_ble_eq_true rfl) ?_
      have hP9 := hP.sub (ws' := [(ga, .inr (4, [.ref ta, .ref rda, .ref pa, .ref sa, .ref ea, .ref ba, .ref da])), (ba, .inr (0, [.ref bt, .ref bp, .ref bl, .ref bh, .ref bq, .ref br, .ref bd, .int (jI bg), .int (jI bf)])), (bt, .inl (cA, 31, .inl (jA ft))), (bl, .inl (cA, 248, .inl (jA fl))), (bh, .inl (cA, 248, .inl (jA fh))), (bq, .inl (cA, 124, .inl (jA fq))), (br, .inl (cA, 31, .inl (jA fr))), (pa, .inr (1, [.ref ps, .int (jI pn)])), (ps, .inl (cA, 160, .inl (jA pf))), (oa, .inl (cL, 1, .inr (.inl (jAL fo))))]) [0, 1, 2, 3, 4, 5, 6, 7, 8, 9] rfl
      have hD9 := hD.sub (ws' := [(ga, .inr (4, [.ref ta, .ref rda, .ref pa, .ref sa, .ref ea, .ref ba, .ref da])), (ba, .inr (0, [.ref bt, .ref bp, .ref bl, .ref bh, .ref bq, .ref br, .ref bd, .int (jI bg), .int (jI bf)])), (bt, .inl (cA, 31, .inl (jA ft))), (bl, .inl (cA, 248, .inl (jA fl))), (bh, .inl (cA, 248, .inl (jA fh))), (bq, .inl (cA, 124, .inl (jA fq))), (br, .inl (cA, 31, .inl (jA fr))), (pa, .inr (1, [.ref ps, .int (jI pn)])), (ps, .inl (cA, 160, .inl (jA pf))), (oa, .inl (cL, 1, .inr (.inl (jAL fo))))]) [0, 1, 2, 3, 4, 5, 6, 7, 8, 9] (by decide) rfl
      subst hAe
      subst hQ
      refine yW (fun _ h => yQ_of h) ?_
      exact W.iret (v := jI 1) hx hb hr (fun t ht hW => ⟨⟨_, (1, fo, pn, pf), rfl, ⟨rfl, by rw [f_XL_write_s, if_neg hz], by first | assumption | omega⟩, ⟨by rw [ht]; exact hP9, va_K.moved hW.alike hK, hD9⟩⟩, hS.F ht⟩) hS.2.2 dXL_write_14
noncomputable def g_XL_at (pn : Int) (pf : Int → Int) (z1 : Int) (fo : Int → Int) : Int × (Int → Int) :=
  if (f_XG_at pn pf z1).1 = 0 then
    (0, jset fo 0 (jw ((f_XG_at pn pf z1).2)))
  else
    (1, fo)
noncomputable def f_XL_at : Int → (Int → Int) → Int → (Int → Int) → Int × (Int → Int) := jopq g_XL_at
theorem f_XL_at_q : f_XL_at = g_XL_at := jopq_eq _
theorem f_XL_at_s (pn : Int) (pf : Int → Int) (z1 : Int) (fo : Int → Int) : f_XL_at pn pf z1 fo = (
    if (f_XG_at pn pf z1).1 = 0 then
      (0, jset fo 0 (jw ((f_XG_at pn pf z1).2)))
    else
      (1, fo)
  : Int × (Int → Int)) := by rw [f_XL_at_q]; rfl
set_option maxHeartbeats 4000000 in
set_option maxRecDepth 100000 in
theorem c_XL_at (l : Launch) (hst : l.stackTraces = false) (dC : Nat → ClassId) (dI : Nat → Nat → Nat) (cA cL : ClassId) (sz : Nat) (ga : Nat) (ta : Nat) (rda : Nat) (pa : Nat) (sa : Nat) (ea : Nat) (ba : Nat) (da : Nat) (ps : Nat) (pn : Int) (pf : Int → Int) (z1 : Int) (oa : Nat) (fo : Int → Int) (hpn : 0 ≤ pn ∧ pn ≤ 160) (hi_z1 : i32 z1) : YMet l yXL_at (Cond.codeWith yXL_at cXL_at 4 (some .int) [(0, 9, 12, 21)] :: TBL) ({ frames := 8, cells := 1, slots := 6, locals := 123 } : Room) (va_Pc [.ref ga, .int (jI z1), .ref oa] (jBc (dC, dI) [(cA, .int), (cL, .long)] [(ga, .inr (4, [.ref ta, .ref rda, .ref pa, .ref sa, .ref ea, .ref ba, .ref da])), (pa, .inr (1, [.ref ps, .int (jI pn)])), (ps, .inl (cA, 160, .inl (jA pf))), (oa, .inl (cL, 1, .inr (.inl (jAL fo))))] sz)) (va_Qi (fun (r : Int32) (u : Int × (Int → Int)) => r = jI u.1 ∧ u = f_XL_at pn pf z1 fo) (fun u t => jE (dC, dI) [(cA, .int), (cL, .long)] [(ga, .inr (4, [.ref ta, .ref rda, .ref pa, .ref sa, .ref ea, .ref ba, .ref da])), (pa, .inr (1, [.ref ps, .int (jI pn)])), (ps, .inl (cA, 160, .inl (jA pf))), (oa, .inl (cL, 1, .inr (.inl (jAL fo))))] sz [(ga, .inr (4, [.ref ta, .ref rda, .ref pa, .ref sa, .ref ea, .ref ba, .ref da])), (pa, .inr (1, [.ref ps, .int (jI pn)])), (ps, .inl (cA, 160, .inl (jA pf))), (oa, .inl (cL, 1, .inr (.inl (jAL u.2))))] t) (va_A [(ga, .inr (4, [.ref ta, .ref rda, .ref pa, .ref sa, .ref ea, .ref ba, .ref da])), (pa, .inr (1, [.ref ps, .int (jI pn)])), (ps, .inl (cA, 160, .inl (jA pf))), (oa, .inl (cL, 1, .inr (.inl (jAL fo))))] sz)) 1 6 1 6 (va_A [(ga, .inr (4, [.ref ta, .ref rda, .ref pa, .ref sa, .ref ea, .ref ba, .ref da])), (pa, .inr (1, [.ref ps, .int (jI pn)])), (ps, .inl (cA, 160, .inl (jA pf))), (oa, .inl (cL, 1, .inr (.inl (jAL fo))))] sz) := by
  refine YMet.ofWH (cc := cXL_at) (maxL := 4) (ret := some .int) (hh := [(0, 9, 12, 21)]) (by decide) rfl ?_
  intro p e s m args below meth c s₁ R Q hR hQ B hml htab hv
  obtain ⟨rfl, ⟨hsz, hP, hK, hD0, hN⟩, hX, hC⟩ := hv
  have hx := B.exec
  have hb := B.bytes
  have hr := B.returns
  have hts := atoms_spec (ws := Cond.codeWith yXL_at cXL_at 4 (some .int) [(0, 9, 12, 21)] :: TBL) B.pre
  have hown : s.vm.findClass RXL = some m.cls := findClass_of_methodNamed B.named
  have hlocks := B.notSynchronized
  subst hsz
  obtain ⟨A, hAe⟩ : ∃ A, A = va_A [(ga, .inr (4, [.ref ta, .ref rda, .ref pa, .ref sa, .ref ea, .ref ba, .ref da])), (pa, .inr (1, [.ref ps, .int (jI pn)])), (ps, .inl (cA, 160, .inl (jA pf))), (oa, .inl (cL, 1, .inr (.inl (jAL fo))))] s.heap.size := ⟨_, rfl⟩
  have hD : va_D A [(ga, .inr (4, [.ref ta, .ref rda, .ref pa, .ref sa, .ref ea, .ref ba, .ref da])), (pa, .inr (1, [.ref ps, .int (jI pn)])), (ps, .inl (cA, 160, .inl (jA pf))), (oa, .inl (cL, 1, .inr (.inl (jAL fo))))] := by rw [hAe]; exact hD0.self
  have hA : ∀ q : Nat, s.heap.size ≤ q → A q := fun q h => by rw [hAe]; exact Or.inr h
  have hS : va_S A s.heap s.heap [] := va_S.rf
  have hP : va_P (dC, dI) vwCl [(ga, .inr (4, [.ref ta, .ref rda, .ref pa, .ref sa, .ref ea, .ref ba, .ref da])), (pa, .inr (1, [.ref ps, .int (jI pn)])), (ps, .inl (cA, 160, .inl (jA pf))), (oa, .inl (cL, 1, .inr (.inl (jAL fo))))] s.heap := hP
  have hl := lv_entry ([.ref ga, .int (jI z1), .ref oa]) (n := 4) (Nat.le_of_ble_eq_true rfl)
  rw [lg_entry_eq]
  generalize (lg_sl ([.ref ga, .int (jI z1), .ref oa]) ++ List.replicate (4 - (lg_sl ([.ref ga, .int (jI z1), .ref oa])).length) Slot.unset).toArray = ls at hl ⊢
  have hl : lv_has ls 4 [(0, .ref ga), (1, .int (jI z1)), (2, .ref oa)] := hl
  refine lv_aload_n hx hb dXL_at_0 rfl (lv_at hl 2 rfl) ?_
  refine ji_iconst hx hb dXL_at_1 ?_
  refine lv_aload_n hx hb dXL_at_2 rfl (lv_at hl 0 rfl) ?_
  refine lv_iload_n hx hb dXL_at_3 rfl (lv_at hl 1 rfl) ?_
  refine ztRi (A := A) (rest := [.int (jI 0), .ref oa]) ⟨hx, hb, hml, hown, hts⟩ (c_XG_at l hst dC dI cA ga ta rda pa sa ea ba da ps pn pf z1 hpn hi_z1) (cwV 1 hts (jG_V tw_614 tw_615 tw_616 tw_1 tw_617) rfl rfl rfl (by decide +kernel) (by rw [hR]; exact ⟨Nat.le_of_ble_eq_true rfl, Nat.le_of_ble_eq_true rfl⟩)) (va_K.sub hK [0] rfl) hP hN hX [0, 1, 2] rfl 0 4 rfl rfl rfl rfl hl.1 rfl (Nat.le_of_ble_eq_true rfl) dXL_at_4 (by rw [hR]; exact ⟨Nat.le_of_ble_eq_true rfl, Nat.le_of_ble_eq_true rfl⟩) (fun hz => ?_) (fun hz x ce H1 L hP hS hce hcl hvm => ?_)
  · refine ji_re (y := jw ((f_XG_at pn pf z1).2)) (jI_jw _).symm ?_
    refine ji_i2l hx hb dXL_at_7 (jw_i _) ?_
    refine ji_last hx hb hK hP hD hS 3 1 rfl rfl ⟨by decide, by decide⟩ (by decide) dXL_at_8 (fun H locs hP hD hS => ?_)
    have hP : va_P (dC, dI) vwCl [(ga, .inr (4, [.ref ta, .ref rda, .ref pa, .ref sa, .ref ea, .ref ba, .ref da])), (pa, .inr (1, [.ref ps, .int (jI pn)])), (ps, .inl (cA, 160, .inl (jA pf))), (oa, .inl (cL, 1, .inr (.inl (jAL (jset fo 0 (jw ((f_XG_at pn pf z1).2)))))))] H := hP
    have hD : va_D A [(ga, .inr (4, [.ref ta, .ref rda, .ref pa, .ref sa, .ref ea, .ref ba, .ref da])), (pa, .inr (1, [.ref ps, .int (jI pn)])), (ps, .inl (cA, 160, .inl (jA pf))), (oa, .inl (cL, 1, .inr (.inl (jAL (jset fo 0 (jw ((f_XG_at pn pf z1).2)))))))] := hD
    refine lv_goto (tgt := 15) hx hb dXL_at_9 (by decide) ?_
    refine ji_iconst hx hb dXL_at_15 ?_
    refine W.widen (k := 1) (n := 6) (Nat.le_of_ble_eq_true rfl) (Nat.le_of_ble_eq_true rfl) ?_
    have hP9 := hP.sub (ws' := [(ga, .inr (4, [.ref ta, .ref rda, .ref pa, .ref sa, .ref ea, .ref ba, .ref da])), (pa, .inr (1, [.ref ps, .int (jI pn)])), (ps, .inl (cA, 160, .inl (jA pf))), (oa, .inl (cL, 1, .inr (.inl (jAL (jset fo 0 (jw ((f_XG_at pn pf z1).2)))))))]) [0, 1, 2, 3] rfl
    have hD9 := hD.sub (ws' := [(ga, .inr (4, [.ref ta, .ref rda, .ref pa, .ref sa, .ref ea, .ref ba, .ref da])), (pa, .inr (1, [.ref ps, .int (jI pn)])), (ps, .inl (cA, 160, .inl (jA pf))), (oa, .inl (cL, 1, .inr (.inl (jAL (jset fo 0 (jw ((f_XG_at pn pf z1).2)))))))]) [0, 1, 2, 3] (by decide) rfl
    subst hAe
    subst hQ
    refine yW (fun _ h => yQ_of h) ?_
    exact W.iret (v := jI 0) hx hb hr (fun t ht hW => ⟨⟨_, (0, jset fo 0 (jw ((f_XG_at pn pf z1).2))), rfl, ⟨rfl, by rw [f_XL_at_s, if_pos hz]⟩, ⟨by rw [ht]; exact hP9, va_K.moved hW.alike hK, hD9⟩⟩, hS.F ht⟩) hS.2.2 dXL_at_16
  · rcases f_XG_at_e pn pf z1 with h9 | h9
    · exact absurd h9 hz
    · rw [h9, xCls_1] at hcl
      refine zOn1 htab hown ⟨by decide, by decide⟩ (by decide) (hts _ (jmem tw_407)) hX.c1 hce hcl hvm ?_
      refine lv_astore_n (lv' := [(3, .ref x), (0, .ref ga), (1, .int (jI z1)), (2, .ref oa)]) hx hb dXL_at_12 rfl hl (by decide) rfl (fun ls hl => ?_)
      refine ji_iconst hx hb dXL_at_13 ?_
      refine W.widen (k := 1) (n := 6) (Nat.le_of_ble_eq_true rfl) (Nat.le_of_ble_eq_true rfl) ?_
      have hP9 := hP.sub (ws' := [(ga, .inr (4, [.ref ta, .ref rda, .ref pa, .ref sa, .ref ea, .ref ba, .ref da])), (pa, .inr (1, [.ref ps, .int (jI pn)])), (ps, .inl (cA, 160, .inl (jA pf))), (oa, .inl (cL, 1, .inr (.inl (jAL fo))))]) [0, 1, 2, 3] rfl
      have hD9 := hD.sub (ws' := [(ga, .inr (4, [.ref ta, .ref rda, .ref pa, .ref sa, .ref ea, .ref ba, .ref da])), (pa, .inr (1, [.ref ps, .int (jI pn)])), (ps, .inl (cA, 160, .inl (jA pf))), (oa, .inl (cL, 1, .inr (.inl (jAL fo))))]) [0, 1, 2, 3] (by decide) rfl
      subst hAe
      subst hQ
      refine yW (fun _ h => yQ_of h) ?_
      exact W.iret (v := jI 1) hx hb hr (fun t ht hW => ⟨⟨_, (1, fo), rfl, ⟨rfl, by rw [f_XL_at_s, if_neg hz]⟩, ⟨by rw [ht]; exact hP9, va_K.moved hW.alike hK, hD9⟩⟩, hS.F ht⟩) hS.2.2 dXL_at_14
