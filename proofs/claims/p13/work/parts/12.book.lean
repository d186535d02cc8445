section
noncomputable def g_XB_divisorOf (bg : Int) (bf : Int) (fd : Int → Int) (zk : Int) (ze : Int) : Int :=
  fd ((zk * 8) + ze)
noncomputable def f_XB_divisorOf : Int → Int → (Int → Int) → Int → Int → Int := jopq g_XB_divisorOf
theorem f_XB_divisorOf_q : f_XB_divisorOf = g_XB_divisorOf := jopq_eq _
theorem f_XB_divisorOf_s (bg : Int) (bf : Int) (fd : Int → Int) (zk : Int) (ze : Int) : f_XB_divisorOf bg bf fd zk ze = (
    fd ((zk * 8) + ze)
  : Int) := by rw [f_XB_divisorOf_q]; rfl
theorem f_XB_divisorOf_b (bg : Int) (bf : Int) (fd : Int → Int) (zk : Int) (ze : Int) (hbd : ∀ i, 0 ≤ fd i ∧ fd i ≤ 20) (hzk : 0 ≤ zk ∧ zk < 4) (hze : 0 ≤ ze ∧ ze < 8) : 0 ≤ (f_XB_divisorOf bg bf fd zk ze) ∧ (f_XB_divisorOf bg bf fd zk ze) ≤ 20 := by rw [f_XB_divisorOf_s]; exact hbd _
set_option maxHeartbeats 4000000 in
set_option maxRecDepth 100000 in
theorem c_XB_divisorOf (l : Launch) (dC : Nat → ClassId) (dI : Nat → Nat → Nat) (cA : ClassId) (ba : Nat) (bt : Nat) (bp : Nat) (bl : Nat) (bh : Nat) (bq : Nat) (br : Nat) (bd : Nat) (bg : Int) (bf : Int) (fd : Int → Int) (zk : Int) (ze : Int) (hbd : ∀ i, 0 ≤ fd i ∧ fd i ≤ 20) (hzk : 0 ≤ zk ∧ zk < 4) (hze : 0 ≤ ze ∧ ze < 8) : Met l yXB_divisorOf (Cond.code yXB_divisorOf cXB_divisorOf 3 (some .int) :: TBL) ({ frames := 0, cells := 0, slots := 0, locals := 0 } : Room) (va_Pc [.ref ba, .int (jI zk), .int (jI ze)] (jB (dC, dI) [(cA, .int)] [(ba, .inr (0, [.ref bt, .ref bp, .ref bl, .ref bh, .ref bq, .ref br, .ref bd, .int (jI bg), .int (jI bf)])), (bd, .inl (cA, 32, .inl (jA fd)))])) (vp_Si (fun r => r = jI (f_XB_divisorOf bg bf fd zk ze))) 0 0 (fun _ => False) := by
  refine jMet (cc := cXB_divisorOf) (maxL := 3) (ret := some .int) (by decide) rfl ?_
  intro p e s m args below meth c s₁ R Q hR hQ B hml hv
  obtain ⟨rfl, hP, hK, hN⟩ := hv
  have hx := B.exec
  have hb := B.bytes
  have hr := B.returns
  have hts := atoms_spec (ws := Cond.code yXB_divisorOf cXB_divisorOf 3 (some .int) :: TBL) B.pre
  have hown : s.vm.findClass RXB = some m.cls := findClass_of_methodNamed B.named
  have hlocks := B.notSynchronized
  have hP : va_P (dC, dI) vwCl [(ba, .inr (0, [.ref bt, .ref bp, .ref bl, .ref bh, .ref bq, .ref br, .ref bd, .int (jI bg), .int (jI bf)])), (bd, .inl (cA, 32, .inl (jA fd)))] s.heap := hP
  have hl := lv_entry ([.ref ba, .int (jI zk), .int (jI ze)]) (n := 3) (Nat.le_of_ble_eq_true rfl)
  rw [lg_entry_eq]
  generalize (lg_sl ([.ref ba, .int (jI zk), .int (jI ze)]) ++ List.replicate (3 - (lg_sl ([.ref ba, .int (jI zk), .int (jI ze)])).length) Slot.unset).toArray = ls at hl ⊢
  have hl : lv_has ls 3 [(0, .ref ba), (1, .int (jI zk)), (2, .int (jI ze))] := hl
  refine lv_aload_n hx hb dXB_divisorOf_0 rfl (lv_at hl 0 rfl) ?_
  refine va_get (D := (dC, dI)) (ci := 0) (v := .ref bd) (C := RXB) (T := TXB) (N := 9) hx hb hts (fun w h => jmem (inXB w h)) hown hK hP 0 rfl rfl 6 (by decide) (hts _ (jmem tw_79)) (fun _ h9 => h9) rfl dXB_divisorOf_1 ?_
  refine lv_iload_n hx hb dXB_divisorOf_4 rfl (lv_at hl 1 rfl) ?_
  refine ji_bipush hx hb dXB_divisorOf_5 (by decide) ?_
  refine ji_imul hx hb dXB_divisorOf_7 ?_
  refine lv_iload_n hx hb dXB_divisorOf_8 rfl (lv_at hl 2 rfl) ?_
  refine ji_iadd hx hb dXB_divisorOf_9 ?_
  refine ji_iald hx hb hK hP 1 0 rfl rfl ⟨by omega, by omega⟩ (by decide) dXB_divisorOf_10 ?_
  have rb := hbd ((zk * 8) + ze)
  subst hQ
  exact W.iret (v := jI (fd ((zk * 8) + ze))) hx hb hr (fun t ht hW => ⟨_, rfl, congrArg jI (Eq.trans (by rw [f_XB_divisorOf_s]; try rfl) rfl), ht⟩) (fun _ h => nomatch h) dXB_divisorOf_11
noncomputable def g_XB_tellsSpan (bg : Int) (bf : Int) (fh : Int → Int) (zg : Int) (ze : Int) : Int :=
  if (fh ((zg * 8) + ze)) = (-1) then
    0
  else
    1
noncomputable def f_XB_tellsSpan : Int → Int → (Int → Int) → Int → Int → Int := jopq g_XB_tellsSpan
theorem f_XB_tellsSpan_q : f_XB_tellsSpan = g_XB_tellsSpan := jopq_eq _
theorem f_XB_tellsSpan_s (bg : Int) (bf : Int) (fh : Int → Int) (zg : Int) (ze : Int) : f_XB_tellsSpan bg bf fh zg ze = (
    if (fh ((zg * 8) + ze)) = (-1) then
      0
    else
      1
  : Int) := by rw [f_XB_tellsSpan_q]; rfl
theorem f_XB_tellsSpan_b (bg : Int) (bf : Int) (fh : Int → Int) (zg : Int) (ze : Int) (hbh : ∀ i, -1 ≤ fh i ∧ fh i ≤ 100000) (hzg : 0 ≤ zg ∧ zg ≤ 30) (hze : 0 ≤ ze ∧ ze < 8) : 0 ≤ (f_XB_tellsSpan bg bf fh zg ze) ∧ (f_XB_tellsSpan bg bf fh zg ze) ≤ 1 := by rw [f_XB_tellsSpan_s]; split <;> omega
theorem f_XB_tellsSpan_c (bg : Int) (bf : Int) (fh : Int → Int) (zg : Int) (ze : Int) (hbh : ∀ i, -1 ≤ fh i ∧ fh i ≤ 100000) (hzg : 0 ≤ zg ∧ zg ≤ 30) (hze : 0 ≤ ze ∧ ze < 8) : (f_XB_tellsSpan bg bf fh zg ze) = 1 → 0 ≤ fh (zg * 8 + ze) := by have := hbh (zg * 8 + ze); rw [f_XB_tellsSpan_s]; split <;> omega
set_option maxHeartbeats 4000000 in
set_option maxRecDepth 100000 in
theorem c_XB_tellsSpan (l : Launch) (dC : Nat → ClassId) (dI : Nat → Nat → Nat) (cA : ClassId) (ba : Nat) (bt : Nat) (bp : Nat) (bl : Nat) (bh : Nat) (bq : Nat) (br : Nat) (bd : Nat) (bg : Int) (bf : Int) (fh : Int → Int) (zg : Int) (ze : Int) (hbh : ∀ i, -1 ≤ fh i ∧ fh i ≤ 100000) (hzg : 0 ≤ zg ∧ zg ≤ 30) (hze : 0 ≤ ze ∧ ze < 8) : Met l yXB_tellsSpan (Cond.code yXB_tellsSpan cXB_tellsSpan 3 (some .boolean) :: TBL) ({ frames := 0, cells := 0, slots := 0, locals := 0 } : Room) (va_Pc [.ref ba, .int (jI zg), .int (jI ze)] (jB (dC, dI) [(cA, .int)] [(ba, .inr (0, [.ref bt, .ref bp, .ref bl, .ref bh, .ref bq, .ref br, .ref bd, .int (jI bg), .int (jI bf)])), (bh, .inl (cA, 248, .inl (jA fh)))])) (vp_Si (fun r => r = jI (f_XB_tellsSpan bg bf fh zg ze))) 0 0 (fun _ => False) := by
  refine jMet (cc := cXB_tellsSpan) (maxL := 3) (ret := some .boolean) (by decide) rfl ?_
  intro p e s m args below meth c s₁ R Q hR hQ B hml hv
  obtain ⟨rfl, hP, hK, hN⟩ := hv
  have hx := B.exec
  have hb := B.bytes
  have hr := B.returns
  have hts := atoms_spec (ws := Cond.code yXB_tellsSpan cXB_tellsSpan 3 (some .boolean) :: TBL) B.pre
  have hown : s.vm.findClass RXB = some m.cls := findClass_of_methodNamed B.named
  have hlocks := B.notSynchronized
  have hP : va_P (dC, dI) vwCl [(ba, .inr (0, [.ref bt, .ref bp, .ref bl, .ref bh, .ref bq, .ref br, .ref bd, .int (jI bg), .int (jI bf)])), (bh, .inl (cA, 248, .inl (jA fh)))] s.heap := hP
  have hl := lv_entry ([.ref ba, .int (jI zg), .int (jI ze)]) (n := 3) (Nat.le_of_ble_eq_true rfl)
  rw [lg_entry_eq]
  generalize (lg_sl ([.ref ba, .int (jI zg), .int (jI ze)]) ++ List.replicate (3 - (lg_sl ([.ref ba, .int (jI zg), .int (jI ze)])).length) Slot.unset).toArray = ls at hl ⊢
  have hl : lv_has ls 3 [(0, .ref ba), (1, .int (jI zg)), (2, .int (jI ze))] := hl
  refine lv_aload_n hx hb dXB_tellsSpan_0 rfl (lv_at hl 0 rfl) ?_
  refine va_get (D := (dC, dI)) (ci := 0) (v := .ref bh) (C := RXB) (T := TXB) (N := 9) hx hb hts (fun w h => jmem (inXB w h)) hown hK hP 0 rfl rfl 3 (by decide) (hts _ (jmem tw_76)) (fun _ h9 => h9) rfl dXB_tellsSpan_1 ?_
  refine lv_iload_n hx hb dXB_tellsSpan_4 rfl (lv_at hl 1 rfl) ?_
  refine ji_bipush hx hb dXB_tellsSpan_5 (by decide) ?_
  refine ji_imul hx hb dXB_tellsSpan_7 ?_
  refine lv_iload_n hx hb dXB_tellsSpan_8 rfl (lv_at hl 2 rfl) ?_
  refine ji_iadd hx hb dXB_tellsSpan_9 ?_
  refine ji_iald hx hb hK hP 1 0 rfl rfl ⟨by omega, by omega⟩ (by decide) dXB_tellsSpan_10 ?_
  have rb := hbh ((zg * 8) + ze)
  refine ji_iconst hx hb dXB_tellsSpan_11 ?_
  refine ji_icmp_eq (tgt := 19) hx hb dXB_tellsSpan_12 (by decide) (by omega) (by omega) (fun c12_ => ?_) (fun c12_ => ?_)
  · refine ji_iconst hx hb dXB_tellsSpan_19 ?_
    subst hQ
    exact W.zret (v := jI 0) hx hb hr (by first | decide | exact jz (by omega)) (fun t ht hW => ⟨_, rfl, congrArg jI (Eq.trans (by rw [f_XB_tellsSpan_s]; rw [if_pos c12_]; try rfl) rfl), ht⟩) (fun _ h => nomatch h) dXB_tellsSpan_20
  · refine ji_iconst hx hb dXB_tellsSpan_15 ?_
    refine lv_goto (tgt := 20) hx hb dXB_tellsSpan_16 (by decide) ?_
    subst hQ
    exact W.zret (v := jI 1) hx hb hr (by first | decide | exact jz (by omega)) (fun t ht hW => ⟨_, rfl, congrArg jI (Eq.trans (by rw [f_XB_tellsSpan_s]; rw [if_neg c12_]; try rfl) rfl), ht⟩) (fun _ h => nomatch h) dXB_tellsSpan_20
noncomputable def g_XB_tellsLimit (bg : Int) (bf : Int) (fq : Int → Int) (zg : Int) (zk : Int) : Int :=
  if (fq ((zg * 4) + zk)) = (-1) then
    0
  else
    1
noncomputable def f_XB_tellsLimit : Int → Int → (Int → Int) → Int → Int → Int := jopq g_XB_tellsLimit
theorem f_XB_tellsLimit_q : f_XB_tellsLimit = g_XB_tellsLimit := jopq_eq _
theorem f_XB_tellsLimit_s (bg : Int) (bf : Int) (fq : Int → Int) (zg : Int) (zk : Int) : f_XB_tellsLimit bg bf fq zg zk = (
    if (fq ((zg * 4) + zk)) = (-1) then
      0
    else
      1
  : Int) := by rw [f_XB_tellsLimit_q]; rfl
theorem f_XB_tellsLimit_b (bg : Int) (bf : Int) (fq : Int → Int) (zg : Int) (zk : Int) (hbq : ∀ i, -1 ≤ fq i ∧ fq i ≤ 999999) (hzg : 0 ≤ zg ∧ zg ≤ 30) (hzk : 0 ≤ zk ∧ zk < 4) : 0 ≤ (f_XB_tellsLimit bg bf fq zg zk) ∧ (f_XB_tellsLimit bg bf fq zg zk) ≤ 1 := by rw [f_XB_tellsLimit_s]; split <;> omega
theorem f_XB_tellsLimit_c (bg : Int) (bf : Int) (fq : Int → Int) (zg : Int) (zk : Int) (hbq : ∀ i, -1 ≤ fq i ∧ fq i ≤ 999999) (hzg : 0 ≤ zg ∧ zg ≤ 30) (hzk : 0 ≤ zk ∧ zk < 4) : (f_XB_tellsLimit bg bf fq zg zk) = 1 → 0 ≤ fq (zg * 4 + zk) := by have := hbq (zg * 4 + zk); rw [f_XB_tellsLimit_s]; split <;> omega
set_option maxHeartbeats 4000000 in
set_option maxRecDepth 100000 in
theorem c_XB_tellsLimit (l : Launch) (dC : Nat → ClassId) (dI : Nat → Nat → Nat) (cA : ClassId) (ba : Nat) (bt : Nat) (bp : Nat) (bl : Nat) (bh : Nat) (bq : Nat) (br : Nat) (bd : Nat) (bg : Int) (bf : Int) (fq : Int → Int) (zg : Int) (zk : Int) (hbq : ∀ i, -1 ≤ fq i ∧ fq i ≤ 999999) (hzg : 0 ≤ zg ∧ zg ≤ 30) (hzk : 0 ≤ zk ∧ zk < 4) : Met l yXB_tellsLimit (Cond.code yXB_tellsLimit cXB_tellsLimit 3 (some .boolean) :: TBL) ({ frames := 0, cells := 0, slots := 0, locals := 0 } : Room) (va_Pc [.ref ba, .int (jI zg), .int (jI zk)] (jB (dC, dI) [(cA, .int)] [(ba, .inr (0, [.ref bt, .ref bp, .ref bl, .ref bh, .ref bq, .ref br, .ref bd, .int (jI bg), .int (jI bf)])), (bq, .inl (cA, 124, .inl (jA fq)))])) (vp_Si (fun r => r = jI (f_XB_tellsLimit bg bf fq zg zk))) 0 0 (fun _ => False) := by
  refine jMet (cc := cXB_tellsLimit) (maxL := 3) (ret := some .boolean) (by decide) rfl ?_
  intro p e s m args below meth c s₁ R Q hR hQ B hml hv
  obtain ⟨rfl, hP, hK, hN⟩ := hv
  have hx := B.exec
  have hb := B.bytes
  have hr := B.returns
  have hts := atoms_spec (ws := Cond.code yXB_tellsLimit cXB_tellsLimit 3 (some .boolean) :: TBL) B.pre
  have hown : s.vm.findClass RXB = some m.cls := findClass_of_methodNamed B.named
  have hlocks := B.notSynchronized
  have hP : va_P (dC, dI) vwCl [(ba, .inr (0, [.ref bt, .ref bp, .ref bl, .ref bh, .ref bq, .ref br, .ref bd, .int (jI bg), .int (jI bf)])), (bq, .inl (cA, 124, .inl (jA fq)))] s.heap := hP
  have hl := lv_entry ([.ref ba, .int (jI zg), .int (jI zk)]) (n := 3) (Nat.le_of_ble_eq_true rfl)
  rw [lg_entry_eq]
  generalize (lg_sl ([.ref ba, .int (jI zg), .int (jI zk)]) ++ List.replicate (3 - (lg_sl ([.ref ba, .int (jI zg), .int (jI zk)])).length) Slot.unset).toArray = ls at hl ⊢
  have hl : lv_has ls 3 [(0, .ref ba), (1, .int (jI zg)), (2, .int (jI zk))] := hl
  refine lv_aload_n hx hb dXB_tellsLimit_0 rfl (lv_at hl 0 rfl) ?_
  refine va_get (D := (dC, dI)) (ci := 0) (v := .ref bq) (C := RXB) (T := TXB) (N := 9) hx hb hts (fun w h => jmem (inXB w h)) hown hK hP 0 rfl rfl 4 (by decide) (hts _ (jmem tw_77)) (fun _ h9 => h9) rfl dXB_tellsLimit_1 ?_
  refine lv_iload_n hx hb dXB_tellsLimit_4 rfl (lv_at hl 1 rfl) ?_
  refine ji_iconst hx hb dXB_tellsLimit_5 ?_
  refine ji_imul hx hb dXB_tellsLimit_6 ?_
  refine lv_iload_n hx hb dXB_tellsLimit_7 rfl (lv_at hl 2 rfl) ?_
  refine ji_iadd hx hb dXB_tellsLimit_8 ?_
  refine ji_iald hx hb hK hP 1 0 rfl rfl ⟨by omega, by omega⟩ (by decide) dXB_tellsLimit_9 ?_
  have rb := hbq ((zg * 4) + zk)
  refine ji_iconst hx hb dXB_tellsLimit_10 ?_
  refine ji_icmp_eq (tgt := 18) hx hb dXB_tellsLimit_11 (by decide) (by omega) (by omega) (fun c11_ => ?_) (fun c11_ => ?_)
  · refine ji_iconst hx hb dXB_tellsLimit_18 ?_
    subst hQ
    exact W.zret (v := jI 0) hx hb hr (by first | decide | exact jz (by omega)) (fun t ht hW => ⟨_, rfl, congrArg jI (Eq.trans (by rw [f_XB_tellsLimit_s]; rw [if_pos c11_]; try rfl) rfl), ht⟩) (fun _ h => nomatch h) dXB_tellsLimit_19
  · refine ji_iconst hx hb dXB_tellsLimit_14 ?_
    refine lv_goto (tgt := 19) hx hb dXB_tellsLimit_15 (by decide) ?_
    subst hQ
    exact W.zret (v := jI 1) hx hb hr (by first | decide | exact jz (by omega)) (fun t ht hW => ⟨_, rfl, congrArg jI (Eq.trans (by rw [f_XB_tellsLimit_s]; rw [if_neg c11_]; try rfl) rfl), ht⟩) (fun _ h => nomatch h) dXB_tellsLimit_19
noncomputable def g_XB_tellFormula (bg : Int) (bf : Int) (zk : Int) : Int :=
  jor bf (jpow zk)
noncomputable def f_XB_tellFormula : Int → Int → Int → Int := jopq g_XB_tellFormula
theorem f_XB_tellFormula_q : f_XB_tellFormula = g_XB_tellFormula := jopq_eq _
theorem f_XB_tellFormula_s (bg : Int) (bf : Int) (zk : Int) : f_XB_tellFormula bg bf zk = (
    jor bf (jpow zk)
  : Int) := by rw [f_XB_tellFormula_q]; rfl
theorem f_XB_tellFormula_b (bg : Int) (bf : Int) (zk : Int) (hbf : 0 ≤ bf ∧ bf < 2147483648) (hzk : 0 ≤ zk ∧ zk < 4) : 0 ≤ (f_XB_tellFormula bg bf zk) ∧ (f_XB_tellFormula bg bf zk) < 2147483648 := by rw [f_XB_tellFormula_s]; exact ⟨jor_nn _ _, jor_lt hbf.2 (jpow_lt (by omega))⟩
set_option maxHeartbeats 4000000 in
set_option maxRecDepth 100000 in
theorem c_XB_tellFormula (l : Launch) (dC : Nat → ClassId) (dI : Nat → Nat → Nat) (cA : ClassId) (sz : Nat) (ba : Nat) (bt : Nat) (bp : Nat) (bl : Nat) (bh : Nat) (bq : Nat) (br : Nat) (bd : Nat) (bg : Int) (bf : Int) (zk : Int) (hbf : 0 ≤ bf ∧ bf < 2147483648) (hzk : 0 ≤ zk ∧ zk < 4) : Met l yXB_tellFormula (Cond.code yXB_tellFormula cXB_tellFormula 2 none :: TBL) ({ frames := 0, cells := 0, slots := 0, locals := 0 } : Room) (va_Pc [.ref ba, .int (jI zk)] (jBw (dC, dI) [(cA, .int)] [(ba, .inr (0, [.ref bt, .ref bp, .ref bl, .ref bh, .ref bq, .ref br, .ref bd, .int (jI bg), .int (jI bf)]))] sz)) (va_Qv (fun (u : Int) => u = f_XB_tellFormula bg bf zk) (fun u t => jE (dC, dI) [(cA, .int)] [(ba, .inr (0, [.ref bt, .ref bp, .ref bl, .ref bh, .ref bq, .ref br, .ref bd, .int (jI bg), .int (jI bf)]))] sz [(ba, .inr (0, [.ref bt, .ref bp, .ref bl, .ref bh, .ref bq, .ref br, .ref bd, .int (jI bg), .int (jI u)]))] t) (va_A [(ba, .inr (0, [.ref bt, .ref bp, .ref bl, .ref bh, .ref bq, .ref br, .ref bd, .int (jI bg), .int (jI bf)]))] sz)) 0 0 (va_A [(ba, .inr (0, [.ref bt, .ref bp, .ref bl, .ref bh, .ref bq, .ref br, .ref bd, .int (jI bg), .int (jI bf)]))] sz) := by
  refine jMet (cc := cXB_tellFormula) (maxL := 2) (ret := none) (by decide) rfl ?_
  intro p e s m args below meth c s₁ R Q hR hQ B hml hv
  obtain ⟨rfl, hsz, hP, hK, hD0, hN⟩ := hv
  have hx := B.exec
  have hb := B.bytes
  have hr := B.returns
  have hts := atoms_spec (ws := Cond.code yXB_tellFormula cXB_tellFormula 2 none :: TBL) B.pre
  have hown : s.vm.findClass RXB = some m.cls := findClass_of_methodNamed B.named
  have hlocks := B.notSynchronized
  subst hsz
  obtain ⟨A, hAe⟩ : ∃ A, A = va_A [(ba, .inr (0, [.ref bt, .ref bp, .ref bl, .ref bh, .ref bq, .ref br, .ref bd, .int (jI bg), .int (jI bf)]))] s.heap.size := ⟨_, rfl⟩
  have hD : va_D A [(ba, .inr (0, [.ref bt, .ref bp, .ref bl, .ref bh, .ref bq, .ref br, .ref bd, .int (jI bg), .int (jI bf)]))] := by rw [hAe]; exact hD0.self
  have hA : ∀ q : Nat, s.heap.size ≤ q → A q := fun q h => by rw [hAe]; exact Or.inr h
  have hS : va_S A s.heap s.heap [] := va_S.rf
  have hP : va_P (dC, dI) vwCl [(ba, .inr (0, [.ref bt, .ref bp, .ref bl, .ref bh, .ref bq, .ref br, .ref bd, .int (jI bg), .int (jI bf)]))] s.heap := hP
  have hl := lv_entry ([.ref ba, .int (jI zk)]) (n := 2) (Nat.le_of_ble_eq_true rfl)
  rw [lg_entry_eq]
  generalize (lg_sl ([.ref ba, .int (jI zk)]) ++ List.replicate (2 - (lg_sl ([.ref ba, .int (jI zk)])).length) Slot.unset).toArray = ls at hl ⊢
  have hl : lv_has ls 2 [(0, .ref ba), (1, .int (jI zk))] := hl
  have q1 := jpow_pos zk
  refine lv_aload_n hx hb dXB_tellFormula_0 rfl (lv_at hl 0 rfl) ?_
  refine lv_dup hx hb dXB_tellFormula_1 rfl ?_
  refine va_get (D := (dC, dI)) (ci := 0) (v := .int (jI bf)) (C := RXB) (T := TXB) (N := 9) hx hb hts (fun w h => jmem (inXB w h)) hown hK hP 0 rfl rfl 8 (by decide) (hts _ (jmem tw_81)) (fun _ h9 => h9) rfl dXB_tellFormula_2 ?_
  refine ji_iconst hx hb dXB_tellFormula_5 ?_
  refine lv_iload_n hx hb dXB_tellFormula_6 rfl (lv_at hl 1 rfl) ?_
  refine ji_ishl1 hx hb dXB_tellFormula_7 (by omega) (by omega) ?_
  refine ji_ior hx hb dXB_tellFormula_8 (by omega) (by omega) ?_
  refine va_put (D := (dC, dI)) (ci := 0) (v := .int (jI (jor bf (jpow zk)))) (ty := (.int)) (C := RXB) (T := TXB) (N := 9) hx hb hts (fun w h => jmem (inXB w h)) tyXB tyXB_ok nXB hown hK hP hD hS 0 rfl rfl 8 (by decide) (hts _ (jmem tw_81)) (fun _ h9 => h9) rfl (by decide +kernel) rfl rfl (Nat.le_of_ble_eq_true rfl) dXB_tellFormula_9 (fun H locs hP hD hS => ?_)
  have hP : va_P (dC, dI) vwCl [(ba, .inr (0, [.ref bt, .ref bp, .ref bl, .ref bh, .ref bq, .ref br, .ref bd, .int (jI bg), .int (jI (jor bf (jpow zk)))]))] H := hP
  have hD : va_D A [(ba, .inr (0, [.ref bt, .ref bp, .ref bl, .ref bh, .ref bq, .ref br, .ref bd, .int (jI bg), .int (jI (jor bf (jpow zk)))]))] := hD
  have hP9 := hP.sub (ws' := [(ba, .inr (0, [.ref bt, .ref bp, .ref bl, .ref bh, .ref bq, .ref br, .ref bd, .int (jI bg), .int (jI (jor bf (jpow zk)))]))]) [0] rfl
  have hD9 := hD.sub (ws' := [(ba, .inr (0, [.ref bt, .ref bp, .ref bl, .ref bh, .ref bq, .ref br, .ref bd, .int (jI bg), .int (jI (jor bf (jpow zk)))]))]) [0] (by decide) rfl
  subst hAe
  subst hQ
  exact W.vret hx hb hr (fun t ht hW => ⟨⟨(jor bf (jpow zk)), rfl, Eq.trans (by rw [f_XB_tellFormula_s]; try rfl) rfl, ⟨by rw [ht]; exact hP9, va_K.moved hW.alike hK, hD9⟩⟩, hS.F ht⟩) hS.2.2 dXB_tellFormula_12
noncomputable def g_XB_tellTerm (bg : Int) (bf : Int) (fd : Int → Int) (zk : Int) (ze : Int) (zd : Int) : (Int → Int) :=
  jset fd ((zk * 8) + ze) zd
noncomputable def f_XB_tellTerm : Int → Int → (Int → Int) → Int → Int → Int → (Int → Int) := jopq g_XB_tellTerm
theorem f_XB_tellTerm_q : f_XB_tellTerm = g_XB_tellTerm := jopq_eq _
theorem f_XB_tellTerm_s (bg : Int) (bf : Int) (fd : Int → Int) (zk : Int) (ze : Int) (zd : Int) : f_XB_tellTerm bg bf fd zk ze zd = (
    jset fd ((zk * 8) + ze) zd
  : (Int → Int)) := by rw [f_XB_tellTerm_q]; rfl
theorem f_XB_tellTerm_b (bg : Int) (bf : Int) (fd : Int → Int) (zk : Int) (ze : Int) (zd : Int) (hbd : ∀ i, 0 ≤ fd i ∧ fd i ≤ 20) (hzk : 0 ≤ zk ∧ zk < 4) (hze : 0 ≤ ze ∧ ze < 8) (hzd : 1 ≤ zd ∧ zd ≤ 20) : ∀ i, 0 ≤ (f_XB_tellTerm bg bf fd zk ze zd) i ∧ (f_XB_tellTerm bg bf fd zk ze zd) i ≤ 20 := by
  intro i
  rw [f_XB_tellTerm_s]
  unfold jset
  split
  · omega
  · exact hbd i
set_option maxHeartbeats 4000000 in
set_option maxRecDepth 100000 in
theorem c_XB_tellTerm (l : Launch) (dC : Nat → ClassId) (dI : Nat → Nat → Nat) (cA : ClassId) (sz : Nat) (ba : Nat) (bt : Nat) (bp : Nat) (bl : Nat) (bh : Nat) (bq : Nat) (br : Nat) (bd : Nat) (bg : Int) (bf : Int) (fd : Int → Int) (zk : Int) (ze : Int) (zd : Int) (hbd : ∀ i, 0 ≤ fd i ∧ fd i ≤ 20) (hzk : 0 ≤ zk ∧ zk < 4) (hze : 0 ≤ ze ∧ ze < 8) (hzd : 1 ≤ zd ∧ zd ≤ 20) : Met l yXB_tellTerm (Cond.code yXB_tellTerm cXB_tellTerm 4 none :: TBL) ({ frames := 0, cells := 0, slots := 0, locals := 0 } : Room) (va_Pc [.ref ba, .int (jI zk), .int (jI ze), .int (jI zd)] (jBw (dC, dI) [(cA, .int)] [(ba, .inr (0, [.ref bt, .ref bp, .ref bl, .ref bh, .ref bq, .ref br, .ref bd, .int (jI bg), .int (jI bf)])), (bd, .inl (cA, 32, .inl (jA fd)))] sz)) (va_Qv (fun (u : (Int → Int)) => u = f_XB_tellTerm bg bf fd zk ze zd) (fun u t => jE (dC, dI) [(cA, .int)] [(ba, .inr (0, [.ref bt, .ref bp, .ref bl, .ref bh, .ref bq, .ref br, .ref bd, .int (jI bg), .int (jI bf)])), (bd, .inl (cA, 32, .inl (jA fd)))] sz [(ba, .inr (0, [.ref bt, .ref bp, .ref bl, .ref bh, .ref bq, .ref br, .ref bd, .int (jI bg), .int (jI bf)])), (bd, .inl (cA, 32, .inl (jA u)))] t) (va_A [(ba, .inr (0, [.ref bt, .ref bp, .ref bl, .ref bh, .ref bq, .ref br, .ref bd, .int (jI bg), .int (jI bf)])), (bd, .inl (cA, 32, .inl (jA fd)))] sz)) 0 0 (va_A [(ba, .inr (0, [.ref bt, .ref bp, .ref bl, .ref bh, .ref bq, .ref br, .ref bd, .int (jI bg), .int (jI bf)])), (bd, .inl (cA, 32, .inl (jA fd)))] sz) := by
  refine jMet (cc := cXB_tellTerm) (maxL := 4) (ret := none) (by decide) rfl ?_
  intro p e s m args below meth c s₁ R Q hR hQ B hml hv
  obtain ⟨rfl, hsz, hP, hK, hD0, hN⟩ := hv
  have hx := B.exec
  have hb := B.bytes
  have hr := B.returns
  have hts := atoms_spec (ws := Cond.code yXB_tellTerm cXB_tellTerm 4 none :: TBL) B.pre
  have hown : s.vm.findClass RXB = some m.cls := findClass_of_methodNamed B.named
  have hlocks := B.notSynchronized
  subst hsz
  obtain ⟨A, hAe⟩ : ∃ A, A = va_A [(ba, .inr (0, [.ref bt, .ref bp, .ref bl, .ref bh, .ref bq, .ref br, .ref bd, .int (jI bg), .int (jI bf)])), (bd, .inl (cA, 32, .inl (jA fd)))] s.heap.size := ⟨_, rfl⟩
  have hD : va_D A [(ba, .inr (0, [.ref bt, .ref bp, .ref bl, .ref bh, .ref bq, .ref br, .ref bd, .int (jI bg), .int (jI bf)])), (bd, .inl (cA, 32, .inl (jA fd)))] := by rw [hAe]; exact hD0.self
  have hA : ∀ q : Nat, s.heap.size ≤ q → A q := fun q h => by rw [hAe]; exact Or.inr h
  have hS : va_S A s.heap s.heap [] := va_S.rf
  have hP : va_P (dC, dI) vwCl [(ba, .inr (0, [.ref bt, .ref bp, .ref bl, .ref bh, .ref bq, .ref br, .ref bd, .int (jI bg), .int (jI bf)])), (bd, .inl (cA, 32, .inl (jA fd)))] s.heap := hP
  have hl := lv_entry ([.ref ba, .int (jI zk), .int (jI ze), .int (jI zd)]) (n := 4) (Nat.le_of_ble_eq_true rfl)
  rw [lg_entry_eq]
  generalize (lg_sl ([.ref ba, .int (jI zk), .int (jI ze), .int (jI zd)]) ++ List.replicate (4 - (lg_sl ([.ref ba, .int (jI zk), .int (jI ze), .int (jI zd)])).length) Slot.unset).toArray = ls at hl ⊢
  have hl : lv_has ls 4 [(0, .ref ba), (1, .int (jI zk)), (2, .int (jI ze)), (3, .int (jI zd))] := hl
  refine lv_aload_n hx hb dXB_tellTerm_0 rfl (lv_at hl 0 rfl) ?_
  refine va_get (D := (dC, dI)) (ci := 0) (v := .ref bd) (C := RXB) (T := TXB) (N := 9) hx hb hts (fun w h => jmem (inXB w h)) hown hK hP 0 rfl rfl 6 (by decide) (hts _ (jmem tw_79)) (fun _ h9 => h9) rfl dXB_tellTerm_1 ?_
  refine lv_iload_n hx hb dXB_tellTerm_4 rfl (lv_at hl 1 rfl) ?_
  refine ji_bipush hx hb dXB_tellTerm_5 (by decide) ?_
  refine ji_imul hx hb dXB_tellTerm_7 ?_
  refine lv_iload_n hx hb dXB_tellTerm_8 rfl (lv_at hl 2 rfl) ?_
  refine ji_iadd hx hb dXB_tellTerm_9 ?_
  refine lv_iload_n hx hb dXB_tellTerm_10 rfl (lv_at hl 3 rfl) ?_
  refine ji_iast hx hb hK hP hD hS 1 0 rfl rfl ⟨by omega, by omega⟩ (by decide) dXB_tellTerm_11 (fun H locs hP hD hS => ?_)
  have hP : va_P (dC, dI) vwCl [(ba, .inr (0, [.ref bt, .ref bp, .ref bl, .ref bh, .ref bq, .ref br, .ref bd, .int (jI bg), .int (jI bf)])), (bd, .inl (cA, 32, .inl (jA (jset fd ((zk * 8) + ze) zd))))] H := hP
  have hD : va_D A [(ba, .inr (0, [.ref bt, .ref bp, .ref bl, .ref bh, .ref bq, .ref br, .ref bd, .int (jI bg), .int (jI bf)])), (bd, .inl (cA, 32, .inl (jA (jset fd ((zk * 8) + ze) zd))))] := hD
  have hP9 := hP.sub (ws' := [(ba, .inr (0, [.ref bt, .ref bp, .ref bl, .ref bh, .ref bq, .ref br, .ref bd, .int (jI bg), .int (jI bf)])), (bd, .inl (cA, 32, .inl (jA (jset fd ((zk * 8) + ze) zd))))]) [0, 1] rfl
  have hD9 := hD.sub (ws' := [(ba, .inr (0, [.ref bt, .ref bp, .ref bl, .ref bh, .ref bq, .ref br, .ref bd, .int (jI bg), .int (jI bf)])), (bd, .inl (cA, 32, .inl (jA (jset fd ((zk * 8) + ze) zd))))]) [0, 1] (by decide) rfl
  subst hAe
  subst hQ
  exact W.vret hx hb hr (fun t ht hW => ⟨⟨(jset fd ((zk * 8) + ze) zd), rfl, Eq.trans (by rw [f_XB_tellTerm_s]; try rfl) rfl, ⟨by rw [ht]; exact hP9, va_K.moved hW.alike hK, hD9⟩⟩, hS.F ht⟩) hS.2.2 dXB_tellTerm_12
noncomputable def g_XB_tellGrade (bg : Int) (bf : Int) (zg : Int) : Int :=
  jor bg (jpow zg)
noncomputable def f_XB_tellGrade : Int → Int → Int → Int := jopq g_XB_tellGrade
theorem f_XB_tellGrade_q : f_XB_tellGrade = g_XB_tellGrade := jopq_eq _
theorem f_XB_tellGrade_s (bg : Int) (bf : Int) (zg : Int) : f_XB_tellGrade bg bf zg = (
    jor bg (jpow zg)
  : Int) := by rw [f_XB_tellGrade_q]; rfl
theorem f_XB_tellGrade_b (bg : Int) (bf : Int) (zg : Int) (hbg : 0 ≤ bg ∧ bg < 2147483648) (hzg : 0 ≤ zg ∧ zg ≤ 30) : 0 ≤ (f_XB_tellGrade bg bf zg) ∧ (f_XB_tellGrade bg bf zg) < 2147483648 := by rw [f_XB_tellGrade_s]; exact ⟨jor_nn _ _, jor_lt hbg.2 (jpow_lt (by omega))⟩
set_option maxHeartbeats 4000000 in
set_option maxRecDepth 100000 in
theorem c_XB_tellGrade (l : Launch) (dC : Nat → ClassId) (dI : Nat → Nat → Nat) (cA : ClassId) (sz : Nat) (ba : Nat) (bt : Nat) (bp : Nat) (bl : Nat) (bh : Nat) (bq : Nat) (br : Nat) (bd : Nat) (bg : Int) (bf : Int) (zg : Int) (hbg : 0 ≤ bg ∧ bg < 2147483648) (hzg : 0 ≤ zg ∧ zg ≤ 30) : Met l yXB_tellGrade (Cond.code yXB_tellGrade cXB_tellGrade 2 none :: TBL) ({ frames := 0, cells := 0, slots := 0, locals := 0 } : Room) (va_Pc [.ref ba, .int (jI zg)] (jBw (dC, dI) [(cA, .int)] [(ba, .inr (0, [.ref bt, .ref bp, .ref bl, .ref bh, .ref bq, .ref br, .ref bd, .int (jI bg), .int (jI bf)]))] sz)) (va_Qv (fun (u : Int) => u = f_XB_tellGrade bg bf zg) (fun u t => jE (dC, dI) [(cA, .int)] [(ba, .inr (0, [.ref bt, .ref bp, .ref bl, .ref bh, .ref bq, .ref br, .ref bd, .int (jI bg), .int (jI bf)]))] sz [(ba, .inr (0, [.ref bt, .ref bp, .ref bl, .ref bh, .ref bq, .ref br, .ref bd, .int (jI u), .int (jI bf)]))] t) (va_A [(ba, .inr (0, [.ref bt, .ref bp, .ref bl, .ref bh, .ref bq, .ref br, .ref bd, .int (jI bg), .int (jI bf)]))] sz)) 0 0 (va_A [(ba, .inr (0, [.ref bt, .ref bp, .ref bl, .ref bh, .ref bq, .ref br, .ref bd, .int (jI bg), .int (jI bf)]))] sz) := by
  refine jMet (cc := cXB_tellGrade) (maxL := 2) (ret := none) (by decide) rfl ?_
  intro p e s m args below meth c s₁ R Q hR hQ B hml hv
  obtain ⟨rfl, hsz, hP, hK, hD0, hN⟩ := hv
  have hx := B.exec
  have hb := B.bytes
  have hr := B.returns
  have hts := atoms_spec (ws := Cond.code yXB_tellGrade cXB_tellGrade 2 none :: TBL) B.pre
  have hown : s.vm.findClass RXB = some m.cls := findClass_of_methodNamed B.named
  have hlocks := B.notSynchronized
  subst hsz
  obtain ⟨A, hAe⟩ : ∃ A, A = va_A [(ba, .inr (0, [.ref bt, .ref bp, .ref bl, .ref bh, .ref bq, .ref br, .ref bd, .int (jI bg), .int (jI bf)]))] s.heap.size := ⟨_, rfl⟩
  have hD : va_D A [(ba, .inr (0, [.ref bt, .ref bp, .ref bl, .ref bh, .ref bq, .ref br, .ref bd, .int (jI bg), .int (jI bf)]))] := by rw [hAe]; exact hD0.self
  have hA : ∀ q : Nat, s.heap.size ≤ q → A q := fun q h => by rw [hAe]; exact Or.inr h
  have hS : va_S A s.heap s.heap [] := va_S.rf
  have hP : va_P (dC, dI) vwCl [(ba, .inr (0, [.ref bt, .ref bp, .ref bl, .ref bh, .ref bq, .ref br, .ref bd, .int (jI bg), .int (jI bf)]))] s.heap := hP
  have hl := lv_entry ([.ref ba, .int (jI zg)]) (n := 2) (Nat.le_of_ble_eq_true rfl)
  rw [lg_entry_eq]
  generalize (lg_sl ([.ref ba, .int (jI zg)]) ++ List.replicate (2 - (lg_sl ([.ref ba, .int (jI zg)])).length) Slot.unset).toArray = ls at hl ⊢
  have hl : lv_has ls 2 [(0, .ref ba), (1, .int (jI zg))] := hl
  have q1 := jpow_pos zg
  refine lv_aload_n hx hb dXB_tellGrade_0 rfl (lv_at hl 0 rfl) ?_
  refine lv_dup hx hb dXB_tellGrade_1 rfl ?_
  refine va_get (D := (dC, dI)) (ci := 0) (v := .int (jI bg)) (C := RXB) (T := TXB) (N := 9) hx hb hts (fun w h => jmem (inXB w h)) hown hK hP 0 rfl rfl 7 (by decide) (hts _ (jmem tw_80)) (fun _ h9 => h9) rfl dXB_tellGrade_2 ?_
  refine ji_iconst hx hb dXB_tellGrade_5 ?_
  refine lv_iload_n hx hb dXB_tellGrade_6 rfl (lv_at hl 1 rfl) ?_
  refine ji_ishl1 hx hb dXB_tellGrade_7 (by omega) (by omega) ?_
  refine ji_ior hx hb dXB_tellGrade_8 (by omega) (by omega) ?_
  refine va_put (D := (dC, dI)) (ci := 0) (v := .int (jI (jor bg (jpow zg)))) (ty := (.int)) (C := RXB) (T := TXB) (N := 9) hx hb hts (fun w h => jmem (inXB w h)) tyXB tyXB_ok nXB hown hK hP hD hS 0 rfl rfl 7 (by decide) (hts _ (jmem tw_80)) (fun _ h9 => h9) rfl (by decide +kernel) rfl rfl (Nat.le_of_ble_eq_true rfl) dXB_tellGrade_9 (fun H locs hP hD hS => ?_)
  have hP : va_P (dC, dI) vwCl [(ba, .inr (0, [.ref bt, .ref bp, .ref bl, .ref bh, .ref bq, .ref br, .ref bd, .int (jI (jor bg (jpow zg))), .int (jI bf)]))] H := hP
  have hD : va_D A [(ba, .inr (0, [.ref bt, .ref bp, .ref bl, .ref bh, .ref bq, .ref br, .ref bd, .int (jI (jor bg (jpow zg))), .int (jI bf)]))] := hD
  have hP9 := hP.sub (ws' := [(ba, .inr (0, [.ref bt, .ref bp, .ref bl, .ref bh, .ref bq, .ref br, .ref bd, .int (jI (jor bg (jpow zg))), .int (jI bf)]))]) [0] rfl
  have hD9 := hD.sub (ws' := [(ba, .inr (0, [.ref bt, .ref bp, .ref bl, .ref bh, .ref bq, .ref br, .ref bd, .int (jI (jor bg (jpow zg))), .int (jI bf)]))]) [0] (by decide) rfl
  subst hAe
  subst hQ
  exact W.vret hx hb hr (fun t ht hW => ⟨⟨(jor bg (jpow zg)), rfl, Eq.trans (by rw [f_XB_tellGrade_s]; try rfl) rfl, ⟨by rw [ht]; exact hP9, va_K.moved hW.alike hK, hD9⟩⟩, hS.F ht⟩) hS.2.2 dXB_tellGrade_12
noncomputable def g_XB_tellParent (bg : Int) (bf : Int) (ft : Int → Int) (zg : Int) (zp : Int) : (Int → Int) :=
  jset ft zg zp
noncomputable def f_XB_tellParent : Int → Int → (Int → Int) → Int → Int → (Int → Int) := jopq g_XB_tellParent
theorem f_XB_tellParent_q : f_XB_tellParent = g_XB_tellParent := jopq_eq _
theorem f_XB_tellParent_s (bg : Int) (bf : Int) (ft : Int → Int) (zg : Int) (zp : Int) : f_XB_tellParent bg bf ft zg zp = (
    jset ft zg zp
  : (Int → Int)) := by rw [f_XB_tellParent_q]; rfl
theorem f_XB_tellParent_b (bg : Int) (bf : Int) (ft : Int → Int) (zg : Int) (zp : Int) (hbt : ∀ i, 0 ≤ ft i ∧ ft i ≤ 30) (hzg : 0 ≤ zg ∧ zg ≤ 30) (hzp : 0 ≤ zp ∧ zp ≤ 30) : ∀ i, 0 ≤ (f_XB_tellParent bg bf ft zg zp) i ∧ (f_XB_tellParent bg bf ft zg zp) i ≤ 30 := by
  intro i
  rw [f_XB_tellParent_s]
  unfold jset
  split
  · omega
  · exact hbt i
set_option maxHeartbeats 4000000 in
set_option maxRecDepth 100000 in
theorem c_XB_tellParent (l : Launch) (dC : Nat → ClassId) (dI : Nat → Nat → Nat) (cA : ClassId) (sz : Nat) (ba : Nat) (bt : Nat) (bp : Nat) (bl : Nat) (bh : Nat) (bq : Nat) (br : Nat) (bd : Nat) (bg : Int) (bf : Int) (ft : Int → Int) (zg : Int) (zp : Int) (hbt : ∀ i, 0 ≤ ft i ∧ ft i ≤ 30) (hzg : 0 ≤ zg ∧ zg ≤ 30) (hzp : 0 ≤ zp ∧ zp ≤ 30) : Met l yXB_tellParent (Cond.code yXB_tellParent cXB_tellParent 3 none :: TBL) ({ frames := 0, cells := 0, slots := 0, locals := 0 } : Room) (va_Pc [.ref ba, .int (jI zg), .int (jI zp)] (jBw (dC, dI) [(cA, .int)] [(ba, .inr (0, [.ref bt, .ref bp, .ref bl, .ref bh, .ref bq, .ref br, .ref bd, .int (jI bg), .int (jI bf)])), (bt, .inl (cA, 31, .inl (jA ft)))] sz)) (va_Qv (fun (u : (Int → Int)) => u = f_XB_tellParent bg bf ft zg zp) (fun u t => jE (dC, dI) [(cA, .int)] [(ba, .inr (0, [.ref bt, .ref bp, .ref bl, .ref bh, .ref bq, .ref br, .ref bd, .int (jI bg), .int (jI bf)])), (bt, .inl (cA, 31, .inl (jA ft)))] sz [(ba, .inr (0, [.ref bt, .ref bp, .ref bl, .ref bh, .ref bq, .ref br, .ref bd, .int (jI bg), .int (jI bf)])), (bt, .inl (cA, 31, .inl (jA u)))] t) (va_A [(ba, .inr (0, [.ref bt, .ref bp, .ref bl, .ref bh, .ref bq, .ref br, .ref bd, .int (jI bg), .int (jI bf)])), (bt, .inl (cA, 31, .inl (jA ft)))] sz)) 0 0 (va_A [(ba, .inr (0, [.ref bt, .ref bp, .ref bl, .ref bh, .ref bq, .ref br, .ref bd, .int (jI bg), .int (jI bf)])), (bt, .inl (cA, 31, .inl (jA ft)))] sz) := by
  refine jMet (cc := cXB_tellParent) (maxL := 3) (ret := none) (by decide) rfl ?_
  intro p e s m args below meth c s₁ R Q hR hQ B hml hv
  obtain ⟨rfl, hsz, hP, hK, hD0, hN⟩ := hv
  have hx := B.exec
  have hb := B.bytes
  have hr := B.returns
  have hts := atoms_spec (ws := Cond.code yXB_tellParent cXB_tellParent 3 none :: TBL) B.pre
  have hown : s.vm.findClass RXB = some m.cls := findClass_of_methodNamed B.named
  have hlocks := B.notSynchronized
  subst hsz
  obtain ⟨A, hAe⟩ : ∃ A, A = va_A [(ba, .inr (0, [.ref bt, .ref bp, .ref bl, .ref bh, .ref bq, .ref br, .ref bd, .int (jI bg), .int (jI bf)])), (bt, .inl (cA, 31, .inl (jA ft)))] s.heap.size := ⟨_, rfl⟩
  have hD : va_D A [(ba, .inr (0, [.ref bt, .ref bp, .ref bl, .ref bh, .ref bq, .ref br, .ref bd, .int (jI bg), .int (jI bf)])), (bt, .inl (cA, 31, .inl (jA ft)))] := by rw [hAe]; exact hD0.self
  have hA : ∀ q : Nat, s.heap.size ≤ q → A q := fun q h => by rw [hAe]; exact Or.inr h
  have hS : va_S A s.heap s.heap [] := va_S.rf
  have hP : va_P (dC, dI) vwCl [(ba, .inr (0, [.ref bt, .ref bp, .ref bl, .ref bh, .ref bq, .ref br, .ref bd, .int (jI bg), .int (jI bf)])), (bt, .inl (cA, 31, .inl (jA ft)))] s.heap := hP
  have hl := lv_entry ([.ref ba, .int (jI zg), .int (jI zp)]) (n := 3) (Nat.le_of_ble_eq_true rfl)
  rw [lg_entry_eq]
  generalize (lg_sl ([.ref ba, .int (jI zg), .int (jI zp)]) ++ List.replicate (3 - (lg_sl ([.ref ba, .int (jI zg), .int (jI zp)])).length) Slot.unset).toArray = ls at hl ⊢
  have hl : lv_has ls 3 [(0, .ref ba), (1, .int (jI zg)), (2, .int (jI zp))] := hl
  refine lv_aload_n hx hb dXB_tellParent_0 rfl (lv_at hl 0 rfl) ?_
  refine va_get (D := (dC, dI)) (ci := 0) (v := .ref bt) (C := RXB) (T := TXB) (N := 9) hx hb hts (fun w h => jmem (inXB w h)) hown hK hP 0 rfl rfl 0 (by decide) (hts _ (jmem tw_73)) (fun _ h9 => h9) rfl dXB_tellParent_1 ?_
  refine lv_iload_n hx hb dXB_tellParent_4 rfl (lv_at hl 1 rfl) ?_
  refine lv_iload_n hx hb dXB_tellParent_5 rfl (lv_at hl 2 rfl) ?_
  refine ji_iast hx hb hK hP hD hS 1 0 rfl rfl ⟨by omega, by omega⟩ (by decide) dXB_tellParent_6 (fun H locs hP hD hS => ?_)
  have hP : va_P (dC, dI) vwCl [(ba, .inr (0, [.ref bt, .ref bp, .ref bl, .ref bh, .ref bq, .ref br, .ref bd, .int (jI bg), .int (jI bf)])), (bt, .inl (cA, 31, .inl (jA (jset ft zg zp))))] H := hP
  have hD : va_D A [(ba, .inr (0, [.ref bt, .ref bp, .ref bl, .ref bh, .ref bq, .ref br, .ref bd, .int (jI bg), .int (jI bf)])), (bt, .inl (cA, 31, .inl (jA (jset ft zg zp))))] := hD
  have hP9 := hP.sub (ws' := [(ba, .inr (0, [.ref bt, .ref bp, .ref bl, .ref bh, .ref bq, .ref br, .ref bd, .int (jI bg), .int (jI bf)])), (bt, .inl (cA, 31, .inl (jA (jset ft zg zp))))]) [0, 1] rfl
  have hD9 := hD.sub (ws' := [(ba, .inr (0, [.ref bt, .ref bp, .ref bl, .ref bh, .ref bq, .ref br, .ref bd, .int (jI bg), .int (jI bf)])), (bt, .inl (cA, 31, .inl (jA (jset ft zg zp))))]) [0, 1] (by decide) rfl
  subst hAe
  subst hQ
  exact W.vret hx hb hr (fun t ht hW => ⟨⟨(jset ft zg zp), rfl, Eq.trans (by rw [f_XB_tellParent_s]; try rfl) rfl, ⟨by rw [ht]; exact hP9, va_K.moved hW.alike hK, hD9⟩⟩, hS.F ht⟩) hS.2.2 dXB_tellParent_7
noncomputable def g_XB_tellSpan (bg : Int) (bf : Int) (fl : Int → Int) (fh : Int → Int) (zg : Int) (ze : Int) (zlo : Int) (zhi : Int) : (Int → Int) × (Int → Int) :=
  (jset fl ((zg * 8) + ze) zlo, jset fh ((zg * 8) + ze) zhi)
noncomputable def f_XB_tellSpan : Int → Int → (Int → Int) → (Int → Int) → Int → Int → Int → Int → (Int → Int) × (Int → Int) := jopq g_XB_tellSpan
theorem f_XB_tellSpan_q : f_XB_tellSpan = g_XB_tellSpan := jopq_eq _
theorem f_XB_tellSpan_s (bg : Int) (bf : Int) (fl : Int → Int) (fh : Int → Int) (zg : Int) (ze : Int) (zlo : Int) (zhi : Int) : f_XB_tellSpan bg bf fl fh zg ze zlo zhi = (
    (jset fl ((zg * 8) + ze) zlo, jset fh ((zg * 8) + ze) zhi)
  : (Int → Int) × (Int → Int)) := by rw [f_XB_tellSpan_q]; rfl
theorem f_XB_tellSpan_l (bg : Int) (bf : Int) (fl : Int → Int) (fh : Int → Int) (zg : Int) (ze : Int) (zlo : Int) (zhi : Int) (hbl : ∀ i, 0 ≤ fl i ∧ fl i ≤ 100000) (hbh : ∀ i, -1 ≤ fh i ∧ fh i ≤ 100000) (hzg : 0 ≤ zg ∧ zg ≤ 30) (hze : 0 ≤ ze ∧ ze < 8) (hzlo : 0 ≤ zlo ∧ zlo ≤ 100000) (hzhi : 0 ≤ zhi ∧ zhi ≤ 100000) : ∀ i, 0 ≤ (f_XB_tellSpan bg bf fl fh zg ze zlo zhi).1 i ∧ (f_XB_tellSpan bg bf fl fh zg ze zlo zhi).1 i ≤ 100000 := by
  intro i
  rw [f_XB_tellSpan_s]
  dsimp only
  unfold jset
  split
  · omega
  · exact hbl i
theorem f_XB_tellSpan_h (bg : Int) (bf : Int) (fl : Int → Int) (fh : Int → Int) (zg : Int) (ze : Int) (zlo : Int) (zhi : Int) (hbl : ∀ i, 0 ≤ fl i ∧ fl i ≤ 100000) (hbh : ∀ i, -1 ≤ fh i ∧ fh i ≤ 100000) (hzg : 0 ≤ zg ∧ zg ≤ 30) (hze : 0 ≤ ze ∧ ze < 8) (hzlo : 0 ≤ zlo ∧ zlo ≤ 100000) (hzhi : 0 ≤ zhi ∧ zhi ≤ 100000) : ∀ i, -1 ≤ (f_XB_tellSpan bg bf fl fh zg ze zlo zhi).2 i ∧ (f_XB_tellSpan bg bf fl fh zg ze zlo zhi).2 i ≤ 100000 := by
  intro i
  rw [f_XB_tellSpan_s]
  dsimp only
  unfold jset
  split
  · omega
  · exact hbh i
set_option maxHeartbeats 4000000 in
set_option maxRecDepth 100000 in
theorem c_XB_tellSpan (l : Launch) (dC : Nat → ClassId) (dI : Nat → Nat → Nat) (cA : ClassId) (sz : Nat) (ba : Nat) (bt : Nat) (bp : Nat) (bl : Nat) (bh : Nat) (bq : Nat) (br : Nat) (bd : Nat) (bg : Int) (bf : Int) (fl : Int → Int) (fh : Int → Int) (zg : Int) (ze : Int) (zlo : Int) (zhi : Int) (hbl : ∀ i, 0 ≤ fl i ∧ fl i ≤ 100000) (hbh : ∀ i, -1 ≤ fh i ∧ fh i ≤ 100000) (hzg : 0 ≤ zg ∧ zg ≤ 30) (hze : 0 ≤ ze ∧ ze < 8) (hzlo : 0 ≤ zlo ∧ zlo ≤ 100000) (hzhi : 0 ≤ zhi ∧ zhi ≤ 100000) : Met l yXB_tellSpan (Cond.code yXB_tellSpan cXB_tellSpan 5 none :: TBL) ({ frames := 0, cells := 0, slots := 0, locals := 0 } : Room) (va_Pc [.ref ba, .int (jI zg), .int (jI ze), .int (jI zlo), .int (jI zhi)] (jBw (dC, dI) [(cA, .int)] [(ba, .inr (0, [.ref bt, .ref bp, .ref bl, .ref bh, .ref bq, .ref br, .ref bd, .int (jI bg), .int (jI bf)])), (bl, .inl (cA, 248, .inl (jA fl))), (bh, .inl (cA, 248, .inl (jA fh)))] sz)) (va_Qv (fun (u : (Int → Int) × (Int → Int)) => u = f_XB_tellSpan bg bf fl fh zg ze zlo zhi) (fun u t => jE (dC, dI) [(cA, .int)] [(ba, .inr (0, [.ref bt, .ref bp, .ref bl, .ref bh, .ref bq, .ref br, .ref bd, .int (jI bg), .int (jI bf)])), (bl, .inl (cA, 248, .inl (jA fl))), (bh, .inl (cA, 248, .inl (jA fh)))] sz [(ba, .inr (0, [.ref bt, .ref bp, .ref bl, .ref bh, .ref bq, .ref br, .ref bd, .int (jI bg), .int (jI bf)])), (bl, .inl (cA, 248, .inl (jA u.1))), (bh, .inl (cA, 248, .inl (jA u.2)))] t) (va_A [(ba, .inr (0, [.ref bt, .ref bp, .ref bl, .ref bh, .ref bq, .ref br, .ref bd, .int (jI bg), .int (jI bf)])), (bl, .inl (cA, 248, .inl (jA fl))), (bh, .inl (cA, 248, .inl (jA fh)))] sz)) 0 0 (va_A [(ba, .inr (0, [.ref bt, .ref bp, .ref bl, .ref bh, .ref bq, .ref br, .ref bd, .int (jI bg), .int (jI bf)])), (bl, .inl (cA, 248, .inl (jA fl))), (bh, .inl (cA, 248, .inl (jA fh)))] sz) := by
  refine jMet (cc := cXB_tellSpan) (maxL := 5) (ret := none) (by decide) rfl ?_
  intro p e s m args below meth c s₁ R Q hR hQ B hml hv
  obtain ⟨rfl, hsz, hP, hK, hD0, hN⟩ := hv
  have hx := B.exec
  have hb := B.bytes
  have hr := B.returns
  have hts := atoms_spec (ws := Cond.code yXB_tellSpan cXB_tellSpan 5 none :: TBL) B.pre
  have hown : s.vm.findClass RXB = some m.cls := findClass_of_methodNamed B.named
  have hlocks := B.notSynchronized
  subst hsz
  obtain ⟨A, hAe⟩ : ∃ A, A = va_A [(ba, .inr (0, [.ref bt, .ref bp, .ref bl, .ref bh, .ref bq, .ref br, .ref bd, .int (jI bg), .int (jI bf)])), (bl, .inl (cA, 248, .inl (jA fl))), (bh, .inl (cA, 248, .inl (jA fh)))] s.heap.size := ⟨_, rfl⟩
  have hD : va_D A [(ba, .inr (0, [.ref bt, .ref bp, .ref bl, .ref bh, .ref bq, .ref br, .ref bd, .int (jI bg), .int (jI bf)])), (bl, .inl (cA, 248, .inl (jA fl))), (bh, .inl (cA, 248, .inl (jA fh)))] := by rw [hAe]; exact hD0.self
  have hA : ∀ q : Nat, s.heap.size ≤ q → A q := fun q h => by rw [hAe]; exact Or.inr h
  have hS : va_S A s.heap s.heap [] := va_S.rf
  have hP : va_P (dC, dI) vwCl [(ba, .inr (0, [.ref bt, .ref bp, .ref bl, .ref bh, .ref bq, .ref br, .ref bd, .int (jI bg), .int (jI bf)])), (bl, .inl (cA, 248, .inl (jA fl))), (bh, .inl (cA, 248, .inl (jA fh)))] s.heap := hP
  have hl := lv_entry ([.ref ba, .int (jI zg), .int (jI ze), .int (jI zlo), .int (jI zhi)]) (n := 5) (Nat.le_of_ble_eq_true rfl)
  rw [lg_entry_eq]
  generalize (lg_sl ([.ref ba, .int (jI zg), .int (jI ze), .int (jI zlo), .int (jI zhi)]) ++ List.replicate (5 - (lg_sl ([.ref ba, .int (jI zg), .int (jI ze), .int (jI zlo), .int (jI zhi)])).length) Slot.unset).toArray = ls at hl ⊢
  have hl : lv_has ls 5 [(0, .ref ba), (1, .int (jI zg)), (2, .int (jI ze)), (3, .int (jI zlo)), (4, .int (jI zhi))] := hl
  refine lv_aload_n hx hb dXB_tellSpan_0 rfl (lv_at hl 0 rfl) ?_
  refine va_get (D := (dC, dI)) (ci := 0) (v := .ref bl) (C := RXB) (T := TXB) (N := 9) hx hb hts (fun w h => jmem (inXB w h)) hown hK hP 0 rfl rfl 2 (by decide) (hts _ (jmem tw_75)) (fun _ h9 => h9) rfl dXB_tellSpan_1 ?_
  refine lv_iload_n hx hb dXB_tellSpan_4 rfl (lv_at hl 1 rfl) ?_
  refine ji_bipush hx hb dXB_tellSpan_5 (by decide) ?_
  refine ji_imul hx hb dXB_tellSpan_7 ?_
  refine lv_iload_n hx hb dXB_tellSpan_8 rfl (lv_at hl 2 rfl) ?_
  refine ji_iadd hx hb dXB_tellSpan_9 ?_
  refine lv_iload_n hx hb dXB_tellSpan_10 rfl (lv_at hl 3 rfl) ?_
  refine ji_iast hx hb hK hP hD hS 1 0 rfl rfl ⟨by omega, by omega⟩ (by decide) dXB_tellSpan_11 (fun H locs hP hD hS => ?_)
  have hP : va_P (dC, dI) vwCl [(ba, .inr (0, [.ref bt, .ref bp, .ref bl, .ref bh, .ref bq, .ref br, .ref bd, .int (jI bg), .int (jI bf)])), (bl, .inl (cA, 248, .inl (jA (jset fl ((zg * 8) + ze) zlo)))), (bh, .inl (cA, 248, .inl (jA fh)))] H := hP
  have hD : va_D A [(ba, .inr (0, [.ref bt, .ref bp, .ref bl, .ref bh, .ref bq, .ref br, .ref bd, .int (jI bg), .int (jI bf)])), (bl, .inl (cA, 248, .inl (jA (jset fl ((zg * 8) + ze) zlo)))), (bh, .inl (cA, 248, .inl (jA fh)))] := hD
  refine lv_aload_n hx hb dXB_tellSpan_12 rfl (lv_at hl 0 rfl) ?_
  refine va_get (D := (dC, dI)) (ci := 0) (v := .ref bh) (C := RXB) (T := TXB) (N := 9) hx hb hts (fun w h => jmem (inXB w h)) hown hK hP 0 rfl rfl 3 (by decide) (hts _ (jmem tw_76)) (fun _ h9 => h9) rfl dXB_tellSpan_13 ?_
  refine lv_iload_n hx hb dXB_tellSpan_16 rfl (lv_at hl 1 rfl) ?_
  refine ji_bipush hx hb dXB_tellSpan_17 (by decide) ?_
  refine ji_imul hx hb dXB_tellSpan_19 ?_
  refine lv_iload_n hx hb dXB_tellSpan_20 rfl (lv_at hl 2 rfl) ?_
  refine ji_iadd hx hb dXB_tellSpan_21 ?_
  refine lv_iload hx hb dXB_tellSpan_22 (lv_at hl 4 rfl) ?_
  refine ji_iast hx hb hK hP hD hS 2 0 rfl rfl ⟨by omega, by omega⟩ (by decide) dXB_tellSpan_24 (fun H locs hP hD hS => ?_)
  have hP : va_P (dC, dI) vwCl [(ba, .inr (0, [.ref bt, .ref bp, .ref bl, .ref bh, .ref bq, .ref br, .ref bd, .int (jI bg), .int (jI bf)])), (bl, .inl (cA, 248, .inl (jA (jset fl ((zg * 8) + ze) zlo)))), (bh, .inl (cA, 248, .inl (jA (jset fh ((zg * 8) + ze) zhi))))] H := hP
  have hD : va_D A [(ba, .inr (0, [.ref bt, .ref bp, .ref bl, .ref bh, .ref bq, .ref br, .ref bd, .int (jI bg), .int (jI bf)])), (bl, .inl (cA, 248, .inl (jA (jset fl ((zg * 8) + ze) zlo)))), (bh, .inl (cA, 248, .inl (jA (jset fh ((zg * 8) + ze) zhi))))] := hD
  have hP9 := hP.sub (ws' := [(ba, .inr (0, [.ref bt, .ref bp, .ref bl, .ref bh, .ref bq, .ref br, .ref bd, .int (jI bg), .int (jI bf)])), (bl, .inl (cA, 248, .inl (jA (jset fl ((zg * 8) + ze) zlo)))), (bh, .inl (cA, 248, .inl (jA (jset fh ((zg * 8) + ze) zhi))))]) [0, 1, 2] rfl
  have hD9 := hD.sub (ws' := [(ba, .inr (0, [.ref bt, .ref bp, .ref bl, .ref bh, .ref bq, .ref br, .ref bd, .int (jI bg), .int (jI bf)])), (bl, .inl (cA, 248, .inl (jA (jset fl ((zg * 8) + ze) zlo)))), (bh, .inl (cA, 248, .inl (jA (jset fh ((zg * 8) + ze) zhi))))]) [0, 1, 2] (by decide) rfl
  subst hAe
  subst hQ
  exact W.vret hx hb hr (fun t ht hW => ⟨⟨(jset fl ((zg * 8) + ze) zlo, jset fh ((zg * 8) + ze) zhi), rfl, Eq.trans (by rw [f_XB_tellSpan_s]; try rfl) rfl, ⟨by rw [ht]; exact hP9, va_K.moved hW.alike hK, hD9⟩⟩, hS.F ht⟩) hS.2.2 dXB_tellSpan_25
noncomputable def g_XB_tellRoute (bg : Int) (bf : Int) (fr : Int → Int) (zg : Int) (zr : Int) : (Int → Int) :=
  jset fr zg (jor (fr zg) (jpow zr))
noncomputable def f_XB_tellRoute : Int → Int → (Int → Int) → Int → Int → (Int → Int) := jopq g_XB_tellRoute
theorem f_XB_tellRoute_q : f_XB_tellRoute = g_XB_tellRoute := jopq_eq _
theorem f_XB_tellRoute_s (bg : Int) (bf : Int) (fr : Int → Int) (zg : Int) (zr : Int) : f_XB_tellRoute bg bf fr zg zr = (
    jset fr zg (jor (fr zg) (jpow zr))
  : (Int → Int)) := by rw [f_XB_tellRoute_q]; rfl
theorem f_XB_tellRoute_b (bg : Int) (bf : Int) (fr : Int → Int) (zg : Int) (zr : Int) (hbr : ∀ i, 0 ≤ fr i ∧ fr i < 2147483648) (hzg : 0 ≤ zg ∧ zg ≤ 30) (hzr : 0 ≤ zr ∧ zr < 8) : ∀ i, 0 ≤ (f_XB_tellRoute bg bf fr zg zr) i ∧ (f_XB_tellRoute bg bf fr zg zr) i < 2147483648 := by
  intro i
  rw [f_XB_tellRoute_s]
  unfold jset
  split
  · exact ⟨jor_nn _ _, jor_lt (hbr _).2 (jpow_lt (by omega))⟩
  · exact hbr i
set_option maxHeartbeats 4000000 in
set_option maxRecDepth 100000 in
theorem c_XB_tellRoute (l : Launch) (dC : Nat → ClassId) (dI : Nat → Nat → Nat) (cA : ClassId) (sz : Nat) (ba : Nat) (bt : Nat) (bp : Nat) (bl : Nat) (bh : Nat) (bq : Nat) (br : Nat) (bd : Nat) (bg : Int) (bf : Int) (fr : Int → Int) (zg : Int) (zr : Int) (hbr : ∀ i, 0 ≤ fr i ∧ fr i < 2147483648) (hzg : 0 ≤ zg ∧ zg ≤ 30) (hzr : 0 ≤ zr ∧ zr < 8) : Met l yXB_tellRoute (Cond.code yXB_tellRoute cXB_tellRoute 3 none :: TBL) ({ frames := 0, cells := 0, slots := 0, locals := 0 } : Room) (va_Pc [.ref ba, .int (jI zg), .int (jI zr)] (jBw (dC, dI) [(cA, .int)] [(ba, .inr (0, [.ref bt, .ref bp, .ref bl, .ref bh, .ref bq, .ref br, .ref bd, .int (jI bg), .int (jI bf)])), (br, .inl (cA, 31, .inl (jA fr)))] sz)) (va_Qv (fun (u : (Int → Int)) => u = f_XB_tellRoute bg bf fr zg zr) (fun u t => jE (dC, dI) [(cA, .int)] [(ba, .inr (0, [.ref bt, .ref bp, .ref bl, .ref bh, .ref bq, .ref br, .ref bd, .int (jI bg), .int (jI bf)])), (br, .inl (cA, 31, .inl (jA fr)))] sz [(ba, .inr (0, [.ref bt, .ref bp, .ref bl, .ref bh, .ref bq, .ref br, .ref bd, .int (jI bg), .int (jI bf)])), (br, .inl (cA, 31, .inl (jA u)))] t) (va_A [(ba, .inr (0, [.ref bt, .ref bp, .ref bl, .ref bh, .ref bq, .ref br, .ref bd, .int (jI bg), .int (jI bf)])), (br, .inl (cA, 31, .inl (jA fr)))] sz)) 0 0 (va_A [(ba, .inr (0, [.ref bt, .ref bp, .ref bl, .ref bh, .ref bq, .ref br, .ref bd, .int (jI bg), .int (jI bf)])), (br, .inl (cA, 31, .inl (jA fr)))] sz) := by
  refine jMet (cc := cXB_tellRoute) (maxL := 3) (ret := none) (by decide) rfl ?_
  intro p e s m args below meth c s₁ R Q hR hQ B hml hv
  obtain ⟨rfl, hsz, hP, hK, hD0, hN⟩ := hv
  have hx := B.exec
  have hb := B.bytes
  have hr := B.returns
  have hts := atoms_spec (ws := Cond.code yXB_tellRoute cXB_tellRoute 3 none :: TBL) B.pre
  have hown : s.vm.findClass RXB = some m.cls := findClass_of_methodNamed B.named
  have hlocks := B.notSynchronized
  subst hsz
  obtain ⟨A, hAe⟩ : ∃ A, A = va_A [(ba, .inr (0, [.ref bt, .ref bp, .ref bl, .ref bh, .ref bq, .ref br, .ref bd, .int (jI bg), .int (jI bf)])), (br, .inl (cA, 31, .inl (jA fr)))] s.heap.size := ⟨_, rfl⟩
  have hD : va_D A [(ba, .inr (0, [.ref bt, .ref bp, .ref bl, .ref bh, .ref bq, .ref br, .ref bd, .int (jI bg), .int (jI bf)])), (br, .inl (cA, 31, .inl (jA fr)))] := by rw [hAe]; exact hD0.self
  have hA : ∀ q : Nat, s.heap.size ≤ q → A q := fun q h => by rw [hAe]; exact Or.inr h
  have hS : va_S A s.heap s.heap [] := va_S.rf
  have hP : va_P (dC, dI) vwCl [(ba, .inr (0, [.ref bt, .ref bp, .ref bl, .ref bh, .ref bq, .ref br, .ref bd, .int (jI bg), .int (jI bf)])), (br, .inl (cA, 31, .inl (jA fr)))] s.heap := hP
  have hl := lv_entry ([.ref ba, .int (jI zg), .int (jI zr)]) (n := 3) (Nat.le_of_ble_eq_true rfl)
  rw [lg_entry_eq]
  generalize (lg_sl ([.ref ba, .int (jI zg), .int (jI zr)]) ++ List.replicate (3 - (lg_sl ([.ref ba, .int (jI zg), .int (jI zr)])).length) Slot.unset).toArray = ls at hl ⊢
  have hl : lv_has ls 3 [(0, .ref ba), (1, .int (jI zg)), (2, .int (jI zr))] := hl
  have q1 := jpow_pos zr
  refine lv_aload_n hx hb dXB_tellRoute_0 rfl (lv_at hl 0 rfl) ?_
  refine va_get (D := (dC, dI)) (ci := 0) (v := .ref br) (C := RXB) (T := TXB) (N := 9) hx hb hts (fun w h => jmem (inXB w h)) hown hK hP 0 rfl rfl 5 (by decide) (hts _ (jmem tw_78)) (fun _ h9 => h9) rfl dXB_tellRoute_1 ?_
  refine lv_iload_n hx hb dXB_tellRoute_4 rfl (lv_at hl 1 rfl) ?_
  refine lv_dup2_11 hx hb dXB_tellRoute_5 rfl rfl ?_
  refine ji_iald hx hb hK hP 1 0 rfl rfl ⟨by omega, by omega⟩ (by decide) dXB_tellRoute_6 ?_
  have rb := hbr zg
  refine ji_iconst hx hb dXB_tellRoute_7 ?_
  refine lv_iload_n hx hb dXB_tellRoute_8 rfl (lv_at hl 2 rfl) ?_
  refine ji_ishl1 hx hb dXB_tellRoute_9 (by omega) (by omega) ?_
  refine ji_ior hx hb dXB_tellRoute_10 (by omega) (by omega) ?_
  refine ji_iast hx hb hK hP hD hS 1 0 rfl rfl ⟨by omega, by omega⟩ (by decide) dXB_tellRoute_11 (fun H locs hP hD hS => ?_)
  have hP : va_P (dC, dI) vwCl [(ba, .inr (0, [.ref bt, .ref bp, .ref bl, .ref bh, .ref bq, .ref br, .ref bd, .int (jI bg), .int (jI bf)])), (br, .inl (cA, 31, .inl (jA (jset fr zg (jor (fr zg) (jpow zr))))))] H := hP
  have hD : va_D A [(ba, .inr (0, [.ref bt, .ref bp, .ref bl, .ref bh, .ref bq, .ref br, .ref bd, .int (jI bg), .int (jI bf)])), (br, .inl (cA, 31, .inl (jA (jset fr zg (jor (fr zg) (jpow zr))))))] := hD
  have hP9 := hP.sub (ws' := [(ba, .inr (0, [.ref bt, .ref bp, .ref bl, .ref bh, .ref bq, .ref br, .ref bd, .int (jI bg), .int (jI bf)])), (br, .inl (cA, 31, .inl (jA (jset fr zg (jor (fr zg) (jpow zr))))))]) [0, 1] rfl
  have hD9 := hD.sub (ws' := [(ba, .inr (0, [.ref bt, .ref bp, .ref bl, .ref bh, .ref bq, .ref br, .ref bd, .int (jI bg), .int (jI bf)])), (br, .inl (cA, 31, .inl (jA (jset fr zg (jor (fr zg) (jpow zr))))))]) [0, 1] (by decide) rfl
  subst hAe
  subst hQ
  exact W.vret hx hb hr (fun t ht hW => ⟨⟨(jset fr zg (jor (fr zg) (jpow zr))), rfl, Eq.trans (by rw [f_XB_tellRoute_s]; try rfl) rfl, ⟨by rw [ht]; exact hP9, va_K.moved hW.alike hK, hD9⟩⟩, hS.F ht⟩) hS.2.2 dXB_tellRoute_12
noncomputable def g_XB_tellLimit (bg : Int) (bf : Int) (fq : Int → Int) (zg : Int) (zk : Int) (zm : Int) : (Int → Int) :=
  jset fq ((zg * 4) + zk) zm
noncomputable def f_XB_tellLimit : Int → Int → (Int → Int) → Int → Int → Int → (Int → Int) := jopq g_XB_tellLimit
theorem f_XB_tellLimit_q : f_XB_tellLimit = g_XB_tellLimit := jopq_eq _
theorem f_XB_tellLimit_s (bg : Int) (bf : Int) (fq : Int → Int) (zg : Int) (zk : Int) (zm : Int) : f_XB_tellLimit bg bf fq zg zk zm = (
    jset fq ((zg * 4) + zk) zm
  : (Int → Int)) := by rw [f_XB_tellLimit_q]; rfl
theorem f_XB_tellLimit_b (bg : Int) (bf : Int) (fq : Int → Int) (zg : Int) (zk : Int) (zm : Int) (hbq : ∀ i, -1 ≤ fq i ∧ fq i ≤ 999999) (hzg : 0 ≤ zg ∧ zg ≤ 30) (hzk : 0 ≤ zk ∧ zk < 4) (hzm : 0 ≤ zm ∧ zm ≤ 999999) : ∀ i, -1 ≤ (f_XB_tellLimit bg bf fq zg zk zm) i ∧ (f_XB_tellLimit bg bf fq zg zk zm) i ≤ 999999 := by
  intro i
  rw [f_XB_tellLimit_s]
  unfold jset
  split
  · omega
  · exact hbq i
set_option maxHeartbeats 4000000 in
set_option maxRecDepth 100000 in
theorem c_XB_tellLimit (l : Launch) (dC : Nat → ClassId) (dI : Nat → Nat → Nat) (cA : ClassId) (sz : Nat) (ba : Nat) (bt : Nat) (bp : Nat) (bl : Nat) (bh : Nat) (bq : Nat) (br : Nat) (bd : Nat) (bg : Int) (bf : Int) (fq : Int → Int) (zg : Int) (zk : Int) (zm : Int) (hbq : ∀ i, -1 ≤ fq i ∧ fq i ≤ 999999) (hzg : 0 ≤ zg ∧ zg ≤ 30) (hzk : 0 ≤ zk ∧ zk < 4) (hzm : 0 ≤ zm ∧ zm ≤ 999999) : Met l yXB_tellLimit (Cond.code yXB_tellLimit cXB_tellLimit 4 none :: TBL) ({ frames := 0, cells := 0, slots := 0, locals := 0 } : Room) (va_Pc [.ref ba, .int (jI zg), .int (jI zk), .int (jI zm)] (jBw (dC, dI) [(cA, .int)] [(ba, .inr (0, [.ref bt, .ref bp, .ref bl, .ref bh, .ref bq, .ref br, .ref bd, .int (jI bg), .int (jI bf)])), (bq, .inl (cA, 124, .inl (jA fq)))] sz)) (va_Qv (fun (u : (Int → Int)) => u = f_XB_tellLimit bg bf fq zg zk zm) (fun u t => jE (dC, dI) [(cA, .int)] [(ba, .inr (0, [.ref bt, .ref bp, .ref bl, .ref bh, .ref bq, .ref br, .ref bd, .int (jI bg), .int (jI bf)])), (bq, .inl (cA, 124, .inl (jA fq)))] sz [(ba, .inr (0, [.ref bt, .ref bp, .ref bl, .ref bh, .ref bq, .ref br, .ref bd, .int (jI bg), .int (jI bf)])), (bq, .inl (cA, 124, .inl (jA u)))] t) (va_A [(ba, .inr (0, [.ref bt, .ref bp, .ref bl, .ref bh, .ref bq, .ref br, .ref bd, .int (jI bg), .int (jI bf)])), (bq, .inl (cA, 124, .inl (jA fq)))] sz)) 0 0 (va_A [(ba, .inr (0, [.ref bt, .ref bp, .ref bl, .ref bh, .ref bq, .ref br, .ref bd, .int (jI bg), .int (jI bf)])), (bq, .inl (cA, 124, .inl (jA fq)))] sz) := by
  refine jMet (cc := cXB_tellLimit) (maxL := 4) (ret := none) (by decide) rfl ?_
  intro p e s m args below meth c s₁ R Q hR hQ B hml hv
  obtain ⟨rfl, hsz, hP, hK, hD0, hN⟩ := hv
  have hx := B.exec
  have hb := B.bytes
  have hr := B.returns
  have hts := atoms_spec (ws := Cond.code yXB_tellLimit cXB_tellLimit 4 none :: TBL) B.pre
  have hown : s.vm.findClass RXB = some m.cls := findClass_of_methodNamed B.named
  have hlocks := B.notSynchronized
  subst hsz
  obtain ⟨A, hAe⟩ : ∃ A, A = va_A [(ba, .inr (0, [.ref bt, .ref bp, .ref bl, .ref bh, .ref bq, .ref br, .ref bd, .int (jI bg), .int (jI bf)])), (bq, .inl (cA, 124, .inl (jA fq)))] s.heap.size := ⟨_, rfl⟩
  have hD : va_D A [(ba, .inr (0, [.ref bt, .ref bp, .ref bl, .ref bh, .ref bq, .ref br, .ref bd, .int (jI bg), .int (jI bf)])), (bq, .inl (cA, 124, .inl (jA fq)))] := by rw [hAe]; exact hD0.self
  have hA : ∀ q : Nat, s.heap.size ≤ q → A q := fun q h => by rw [hAe]; exact Or.inr h
  have hS : va_S A s.heap s.heap [] := va_S.rf
  have hP : va_P (dC, dI) vwCl [(ba, .inr (0, [.ref bt, .ref bp, .ref bl, .ref bh, .ref bq, .ref br, .ref bd, .int (jI bg), .int (jI bf)])), (bq, .inl (cA, 124, .inl (jA fq)))] s.heap := hP
  have hl := lv_entry ([.ref ba, .int (jI zg), .int (jI zk), .int (jI zm)]) (n := 4) (Nat.le_of_ble_eq_true rfl)
  rw [lg_entry_eq]
  generalize (lg_sl ([.ref ba, .int (jI zg), .int (jI zk), .int (jI zm)]) ++ List.replicate (4 - (lg_sl ([.ref ba, .int (jI zg), .int (jI zk), .int (jI zm)])).length) Slot.unset).toArray = ls at hl ⊢
  have hl : lv_has ls 4 [(0, .ref ba), (1, .int (jI zg)), (2, .int (jI zk)), (3, .int (jI zm))] := hl
  refine lv_aload_n hx hb dXB_tellLimit_0 rfl (lv_at hl 0 rfl) ?_
  refine va_get (D := (dC, dI)) (ci := 0) (v := .ref bq) (C := RXB) (T := TXB) (N := 9) hx hb hts (fun w h => jmem (inXB w h)) hown hK hP 0 rfl rfl 4 (by decide) (hts _ (jmem tw_77)) (fun _ h9 => h9) rfl dXB_tellLimit_1 ?_
  refine lv_iload_n hx hb dXB_tellLimit_4 rfl (lv_at hl 1 rfl) ?_
  refine ji_iconst hx hb dXB_tellLimit_5 ?_
  refine ji_imul hx hb dXB_tellLimit_6 ?_
  refine lv_iload_n hx hb dXB_tellLimit_7 rfl (lv_at hl 2 rfl) ?_
  refine ji_iadd hx hb dXB_tellLimit_8 ?_
  refine lv_iload_n hx hb dXB_tellLimit_9 rfl (lv_at hl 3 rfl) ?_
  refine ji_iast hx hb hK hP hD hS 1 0 rfl rfl ⟨by omega, by omega⟩ (by decide) dXB_tellLimit_10 (fun H locs hP hD hS => ?_)
  have hP : va_P (dC, dI) vwCl [(ba, .inr (0, [.ref bt, .ref bp, .ref bl, .ref bh, .ref bq, .ref br, .ref bd, .int (jI bg), .int (jI bf)])), (bq, .inl (cA, 124, .inl (jA (jset fq ((zg * 4) + zk) zm))))] H := hP
  have hD : va_D A [(ba, .inr (0, [.ref bt, .ref bp, .ref bl, .ref bh, .ref bq, .ref br, .ref bd, .int (jI bg), .int (jI bf)])), (bq, .inl (cA, 124, .inl (jA (jset fq ((zg * 4) + zk) zm))))] := hD
  have hP9 := hP.sub (ws' := [(ba, .inr (0, [.ref bt, .ref bp, .ref bl, .ref bh, .ref bq, .ref br, .ref bd, .int (jI bg), .int (jI bf)])), (bq, .inl (cA, 124, .inl (jA (jset fq ((zg * 4) + zk) zm))))]) [0, 1] rfl
  have hD9 := hD.sub (ws' := [(ba, .inr (0, [.ref bt, .ref bp, .ref bl, .ref bh, .ref bq, .ref br, .ref bd, .int (jI bg), .int (jI bf)])), (bq, .inl (cA, 124, .inl (jA (jset fq ((zg * 4) + zk) zm))))]) [0, 1] (by decide) rfl
  subst hAe
  subst hQ
  exact W.vret hx hb hr (fun t ht hW => ⟨⟨(jset fq ((zg * 4) + zk) zm), rfl, Eq.trans (by rw [f_XB_tellLimit_s]; try rfl) rfl, ⟨by rw [ht]; exact hP9, va_K.moved hW.alike hK, hD9⟩⟩, hS.F ht⟩) hS.2.2 dXB_tellLimit_11
noncomputable def g_XB_hasFormula (bg : Int) (bf : Int) (zk : Int) : Int :=
  f_XG_hasBit bf zk
noncomputable def f_XB_hasFormula : Int → Int → Int → Int := jopq g_XB_hasFormula
theorem f_XB_hasFormula_q : f_XB_hasFormula = g_XB_hasFormula := jopq_eq _
theorem f_XB_hasFormula_s (bg : Int) (bf : Int) (zk : Int) : f_XB_hasFormula bg bf zk = (
    f_XG_hasBit bf zk
  : Int) := by rw [f_XB_hasFormula_q]; rfl
theorem f_XB_hasFormula_b (bg : Int) (bf : Int) (zk : Int) (hbf : 0 ≤ bf ∧ bf < 2147483648) (hzk : 0 ≤ zk ∧ zk < 4) : 0 ≤ (f_XB_hasFormula bg bf zk) ∧ (f_XB_hasFormula bg bf zk) ≤ 1 := by rw [f_XB_hasFormula_s]; exact f_XG_hasBit_01 _ _ hbf (by omega)
set_option maxHeartbeats 4000000 in
set_option maxRecDepth 100000 in
theorem c_XB_hasFormula (l : Launch) (dC : Nat → ClassId) (dI : Nat → Nat → Nat) (cA : ClassId) (ba : Nat) (bt : Nat) (bp : Nat) (bl : Nat) (bh : Nat) (bq : Nat) (br : Nat) (bd : Nat) (bg : Int) (bf : Int) (zk : Int) (hbf : 0 ≤ bf ∧ bf < 2147483648) (hzk : 0 ≤ zk ∧ zk < 4) : Met l yXB_hasFormula (Cond.code yXB_hasFormula cXB_hasFormula 2 (some .boolean) :: TBL) ({ frames := 1, cells := 0, slots := 0, locals := 21 } : Room) (va_Pc [.ref ba, .int (jI zk)] (jB (dC, dI) [(cA, .int)] [(ba, .inr (0, [.ref bt, .ref bp, .ref bl, .ref bh, .ref bq, .ref br, .ref bd, .int (jI bg), .int (jI bf)]))])) (vp_Si (fun r => r = jI (f_XB_hasFormula bg bf zk))) 0 0 (fun _ => False) := by
  refine jMet (cc := cXB_hasFormula) (maxL := 2) (ret := some .boolean) (by decide) rfl ?_
  intro p e s m args below meth c s₁ R Q hR hQ B hml hv
  obtain ⟨rfl, hP, hK, hN⟩ := hv
  have hx := B.exec
  have hb := B.bytes
  have hr := B.returns
  have hts := atoms_spec (ws := Cond.code yXB_hasFormula cXB_hasFormula 2 (some .boolean) :: TBL) B.pre
  have hown : s.vm.findClass RXB = some m.cls := findClass_of_methodNamed B.named
  have hlocks := B.notSynchronized
  have hP : va_P (dC, dI) vwCl [(ba, .inr (0, [.ref bt, .ref bp, .ref bl, .ref bh, .ref bq, .ref br, .ref bd, .int (jI bg), .int (jI bf)]))] s.heap := hP
  have hl := lv_entry ([.ref ba, .int (jI zk)]) (n := 2) (Nat.le_of_ble_eq_true rfl)
  rw [lg_entry_eq]
  generalize (lg_sl ([.ref ba, .int (jI zk)]) ++ List.replicate (2 - (lg_sl ([.ref ba, .int (jI zk)])).length) Slot.unset).toArray = ls at hl ⊢
  have hl : lv_has ls 2 [(0, .ref ba), (1, .int (jI zk))] := hl
  refine lv_aload_n hx hb dXB_hasFormula_0 rfl (lv_at hl 0 rfl) ?_
  refine va_get (D := (dC, dI)) (ci := 0) (v := .int (jI bf)) (C := RXB) (T := TXB) (N := 9) hx hb hts (fun w h => jmem (inXB w h)) hown hK hP 0 rfl rfl 8 (by decide) (hts _ (jmem tw_81)) (fun _ h9 => h9) rfl dXB_hasFormula_1 ?_
  refine lv_iload_n hx hb dXB_hasFormula_4 rfl (lv_at hl 1 rfl) ?_
  refine jrNi (rest := []) ⟨hx, hb, hml, hown, hts⟩ (c_XG_hasBit l dC dI cA bf zk (by first | assumption | omega) (by first | assumption | omega)) ⟨va_cnB 2 hts (jG (jG_c tw_173)) rfl rfl rfl (jN.n171 hN) (hts _ (jmem tw_1)) (by decide +kernel) (by rw [hR]; exact ⟨Nat.le_of_ble_eq_true rfl, Nat.le_of_ble_eq_true rfl⟩), hts _ (jmem tw_172), trivial⟩ hK hP hN [] rfl rfl hl.1 rfl (Nat.le_of_ble_eq_true rfl) dXB_hasFormula_5 (by rw [hR]; exact ⟨Nat.le_of_ble_eq_true rfl, Nat.le_of_ble_eq_true rfl⟩) ?_
  have f := f_XG_hasBit_01 bf zk (by first | assumption | omega) (by first | assumption | omega)
  subst hQ
  exact W.zret (v := jI (f_XG_hasBit bf zk)) hx hb hr (by first | decide | exact jz (by omega)) (fun t ht hW => ⟨_, rfl, congrArg jI (Eq.trans (by rw [f_XB_hasFormula_s]; try rfl) rfl), ht⟩) (fun _ h => nomatch h) dXB_hasFormula_8
noncomputable def g_XB_knows (bg : Int) (bf : Int) (zi : Int) : Int :=
  if zi < 1 then
    0
  else
    if 30 < zi then
      0
    else
      if (f_XG_hasBit bg zi) = 0 then
        0
      else
        1
noncomputable def f_XB_knows : Int → Int → Int → Int := jopq g_XB_knows
theorem f_XB_knows_q : f_XB_knows = g_XB_knows := jopq_eq _
theorem f_XB_knows_s (bg : Int) (bf : Int) (zi : Int) : f_XB_knows bg bf zi = (
    if zi < 1 then
      0
    else
      if 30 < zi then
        0
      else
        if (f_XG_hasBit bg zi) = 0 then
          0
        else
          1
  : Int) := by rw [f_XB_knows_q]; rfl
theorem f_XB_knows_b (bg : Int) (bf : Int) (zi : Int) (hbg : 0 ≤ bg ∧ bg < 2147483648) (hzi : i32 zi) : 0 ≤ (f_XB_knows bg bf zi) ∧ (f_XB_knows bg bf zi) ≤ 1 := by rw [f_XB_knows_s]; (repeat' split) <;> omega
theorem f_XB_knows_c (bg : Int) (bf : Int) (zi : Int) (hbg : 0 ≤ bg ∧ bg < 2147483648) (hzi : i32 zi) : (f_XB_knows bg bf zi) ≠ 0 → 1 ≤ zi ∧ zi ≤ 30 := by rw [f_XB_knows_s]; (repeat' split) <;> omega
set_option maxHeartbeats 4000000 in
set_option maxRecDepth 100000 in
theorem c_XB_knows (l : Launch) (dC : Nat → ClassId) (dI : Nat → Nat → Nat) (cA : ClassId) (ba : Nat) (bt : Nat) (bp : Nat) (bl : Nat) (bh : Nat) (bq : Nat) (br : Nat) (bd : Nat) (bg : Int) (bf : Int) (zi : Int) (hbg : 0 ≤ bg ∧ bg < 2147483648) (hzi : i32 zi) : Met l yXB_knows (Cond.code yXB_knows cXB_knows 2 (some .boolean) :: TBL) ({ frames := 1, cells := 0, slots := 0, locals := 21 } : Room) (va_Pc [.ref ba, .int (jI zi)] (jB (dC, dI) [(cA, .int)] [(ba, .inr (0, [.ref bt, .ref bp, .ref bl, .ref bh, .ref bq, .ref br, .ref bd, .int (jI bg), .int (jI bf)]))])) (vp_Si (fun r => r = jI (f_XB_knows bg bf zi))) 0 0 (fun _ => False) := by
  refine jMet (cc := cXB_knows) (maxL := 2) (ret := some .boolean) (by decide) rfl ?_
  intro p e s m args below meth c s₁ R Q hR hQ B hml hv
  obtain ⟨rfl, hP, hK, hN⟩ := hv
  have hx := B.exec
  have hb := B.bytes
  have hr := B.returns
  have hts := atoms_spec (ws := Cond.code yXB_knows cXB_knows 2 (some .boolean) :: TBL) B.pre
  have hown : s.vm.findClass RXB = some m.cls := findClass_of_methodNamed B.named
  have hlocks := B.notSynchronized
  have hP : va_P (dC, dI) vwCl [(ba, .inr (0, [.ref bt, .ref bp, .ref bl, .ref bh, .ref bq, .ref br, .ref bd, .int (jI bg), .int (jI bf)]))] s.heap := hP
  have hl := lv_entry ([.ref ba, .int (jI zi)]) (n := 2) (Nat.le_of_ble_eq_true rfl)
  rw [lg_entry_eq]
  generalize (lg_sl ([.ref ba, .int (jI zi)]) ++ List.replicate (2 - (lg_sl ([.ref ba, .int (jI zi)])).length) Slot.unset).toArray = ls at hl ⊢
  have hl : lv_has ls 2 [(0, .ref ba), (1, .int (jI zi))] := hl
  refine lv_iload_n hx hb dXB_knows_0 rfl (lv_at hl 1 rfl) ?_
  refine ji_iconst hx hb dXB_knows_1 ?_
  refine ji_icmp_lt (tgt := 26) hx hb dXB_knows_2 (by decide) (by omega) (by omega) (fun c2_ => ?_) (fun c2_ => ?_)
  · refine ji_iconst hx hb dXB_knows_26 ?_
    subst hQ
    exact W.zret (v := jI 0) hx hb hr (by first | decide | exact jz (by omega)) (fun t ht hW => ⟨_, rfl, congrArg jI (Eq.trans (by rw [f_XB_knows_s]; rw [if_pos c2_]; try rfl) rfl), ht⟩) (fun _ h => nomatch h) dXB_knows_27
  · refine lv_iload_n hx hb dXB_knows_5 rfl (lv_at hl 1 rfl) ?_
    refine ji_bipush hx hb dXB_knows_6 (by decide) ?_
    refine ji_icmp_gt (tgt := 26) hx hb dXB_knows_8 (by decide) (by omega) (by omega) (fun c8_ => ?_) (fun c8_ => ?_)
    · refine ji_iconst hx hb dXB_knows_26 ?_
      subst hQ
      exact W.zret (v := jI 0) hx hb hr (by first | decide | exact jz (by omega)) (fun t ht hW => ⟨_, rfl, congrArg jI (Eq.trans (by rw [f_XB_knows_s]; rw [if_neg (Int.not_lt.mpr c2_), if_pos c8_]; try rfl) rfl), ht⟩) (fun _ h => nomatch h) dXB_knows_27
    · refine lv_aload_n hx hb dXB_knows_11 rfl (lv_at hl 0 rfl) ?_
      refine va_get (D := (dC, dI)) (ci := 0) (v := .int (jI bg)) (C := RXB) (T := TXB) (N := 9) hx hb hts (fun w h => jmem (inXB w h)) hown hK hP 0 rfl rfl 7 (by decide) (hts _ (jmem tw_80)) (fun _ h9 => h9) rfl dXB_knows_12 ?_
      refine lv_iload_n hx hb dXB_knows_15 rfl (lv_at hl 1 rfl) ?_
      refine jrNi (rest := []) ⟨hx, hb, hml, hown, hts⟩ (c_XG_hasBit l dC dI cA bg zi (by first | assumption | omega) (by first | assumption | omega)) ⟨va_cnB 2 hts (jG (jG_c tw_173)) rfl rfl rfl (jN.n171 hN) (hts _ (jmem tw_1)) (by decide +kernel) (by rw [hR]; exact ⟨Nat.le_of_ble_eq_true rfl, Nat.le_of_ble_eq_true rfl⟩), hts _ (jmem tw_172), trivial⟩ hK hP hN [] rfl rfl hl.1 rfl (Nat.le_of_ble_eq_true rfl) dXB_knows_16 (by rw [hR]; exact ⟨Nat.le_of_ble_eq_true rfl, Nat.le_of_ble_eq_true rfl⟩) ?_
      have f := f_XG_hasBit_01 bg zi (by first | assumption | omega) (by first | assumption | omega)
      refine ji_if_eq (tgt := 26) hx hb dXB_knows_19 (by decide) (by omega) (fun c19_ => ?_) (fun c19_ => ?_)
      · refine ji_iconst hx hb dXB_knows_26 ?_
        subst hQ
        exact W.zret (v := jI 0) hx hb hr (by first | decide | exact jz (by omega)) (fun t ht hW => ⟨_, rfl, congrArg jI (Eq.trans (by rw [f_XB_knows_s]; rw [if_neg (Int.not_lt.mpr c2_), if_neg (Int.not_lt.mpr c8_), if_pos c19_]; try rfl) rfl), ht⟩) (fun _ h => nomatch h) dXB_knows_27
      · refine ji_iconst hx hb dXB_knows_22 ?_
        refine lv_goto (tgt := 27) hx hb dXB_knows_23 (by decide) ?_
        subst hQ
        exact W.zret (v := jI 1) hx hb hr (by first | decide | exact jz (by omega)) (fun t ht hW => ⟨_, rfl, congrArg jI (Eq.trans (by rw [f_XB_knows_s]; rw [if_neg (Int.not_lt.mpr c2_), if_neg (Int.not_lt.mpr c8_), if_neg c19_]; try rfl) rfl), ht⟩) (fun _ h => nomatch h) dXB_knows_27

end
section
noncomputable def g_XB_forget (bg : Int) (bf : Int) (ft : Int → Int) (fh : Int → Int) (fq : Int → Int) (fr : Int → Int) (fd : Int → Int) : (Int → Int) × (Int → Int) × (Int → Int) × (Int → Int) × (Int → Int) × Int × Int :=
  (f_XA_fill31 ft 0, f_XA_fill248 fh (-1), f_XA_fill124 fq (-1), f_XA_fill31 fr 0, f_XA_fill32 fd 0, 0, 0)
noncomputable def f_XB_forget : Int → Int → (Int → Int) → (Int → Int) → (Int → Int) → (Int → Int) → (Int → Int) → (Int → Int) × (Int → Int) × (Int → Int) × (Int → Int) × (Int → Int) × Int × Int := jopq g_XB_forget
theorem f_XB_forget_q : f_XB_forget = g_XB_forget := jopq_eq _
theorem f_XB_forget_s (bg : Int) (bf : Int) (ft : Int → Int) (fh : Int → Int) (fq : Int → Int) (fr : Int → Int) (fd : Int → Int) : f_XB_forget bg bf ft fh fq fr fd = (
    (f_XA_fill31 ft 0, f_XA_fill248 fh (-1), f_XA_fill124 fq (-1), f_XA_fill31 fr 0, f_XA_fill32 fd 0, 0, 0)
  : (Int → Int) × (Int → Int) × (Int → Int) × (Int → Int) × (Int → Int) × Int × Int) := by rw [f_XB_forget_q]; rfl
set_option maxHeartbeats 4000000 in
set_option maxRecDepth 100000 in
theorem c_XB_forget (l : Launch) (dC : Nat → ClassId) (dI : Nat → Nat → Nat) (cA : ClassId) (sz : Nat) (ba : Nat) (bt : Nat) (bp : Nat) (bl : Nat) (bh : Nat) (bq : Nat) (br : Nat) (bd : Nat) (bg : Int) (bf : Int) (ft : Int → Int) (fh : Int → Int) (fq : Int → Int) (fr : Int → Int) (fd : Int → Int) (hbt : ∀ i, 0 ≤ ft i ∧ ft i ≤ 30) (hbh : ∀ i, -1 ≤ fh i ∧ fh i ≤ 100000) (hbq : ∀ i, -1 ≤ fq i ∧ fq i ≤ 999999) (hbr : ∀ i, 0 ≤ fr i ∧ fr i < 2147483648) (hbd : ∀ i, 0 ≤ fd i ∧ fd i ≤ 20) : Met l yXB_forget (Cond.code yXB_forget cXB_forget 1 none :: TBL) ({ frames := 1, cells := 0, slots := 0, locals := 23 } : Room) (va_Pc [.ref ba] (jBw (dC, dI) [(cA, .int)] [(ba, .inr (0, [.ref bt, .ref bp, .ref bl, .ref bh, .ref bq, .ref br, .ref bd, .int (jI bg), .int (jI bf)])), (bt, .inl (cA, 31, .inl (jA ft))), (bh, .inl (cA, 248, .inl (jA fh))), (bq, .inl (cA, 124, .inl (jA fq))), (br, .inl (cA, 31, .inl (jA fr))), (bd, .inl (cA, 32, .inl (jA fd)))] sz)) (va_Qv (fun (u : (Int → Int) × (Int → Int) × (Int → Int) × (Int → Int) × (Int → Int) × Int × Int) => u = f_XB_forget bg bf ft fh fq fr fd ∧ (∀ i, 0 ≤ u.1 i ∧ u.1 i ≤ 30) ∧ (∀ i, -1 ≤ u.2.1 i ∧ u.2.1 i ≤ 100000) ∧ (∀ i, -1 ≤ u.2.2.1 i ∧ u.2.2.1 i ≤ 999999) ∧ (∀ i, 0 ≤ u.2.2.2.1 i ∧ u.2.2.2.1 i < 2147483648) ∧ (∀ i, 0 ≤ u.2.2.2.2.1 i ∧ u.2.2.2.2.1 i ≤ 20) ∧ (u.2.2.2.2.2.1 = 0) ∧ (u.2.2.2.2.2.2 = 0)) (fun u t => jE (dC, dI) [(cA, .int)] [(ba, .inr (0, [.ref bt, .ref bp, .ref bl, .ref bh, .ref bq, .ref br, .ref bd, .int (jI bg), .int (jI bf)])), (bt, .inl (cA, 31, .inl (jA ft))), (bh, .inl (cA, 248, .inl (jA fh))), (bq, .inl (cA, 124, .inl (jA fq))), (br, .inl (cA, 31, .inl (jA fr))), (bd, .inl (cA, 32, .inl (jA fd)))] sz [(ba, .inr (0, [.ref bt, .ref bp, .ref bl, .ref bh, .ref bq, .ref br, .ref bd, .int (jI u.2.2.2.2.2.1), .int (jI u.2.2.2.2.2.2)])), (bt, .inl (cA, 31, .inl (jA u.1))), (bh, .inl (cA, 248, .inl (jA u.2.1))), (bq, .inl (cA, 124, .inl (jA u.2.2.1))), (br, .inl (cA, 31, .inl (jA u.2.2.2.1))), (bd, .inl (cA, 32, .inl (jA u.2.2.2.2.1)))] t) (va_A [(ba, .inr (0, [.ref bt, .ref bp, .ref bl, .ref bh, .ref bq, .ref br, .ref bd, .int (jI bg), .int (jI bf)])), (bt, .inl (cA, 31, .inl (jA ft))), (bh, .inl (cA, 248, .inl (jA fh))), (bq, .inl (cA, 124, .inl (jA fq))), (br, .inl (cA, 31, .inl (jA fr))), (bd, .inl (cA, 32, .inl (jA fd)))] sz)) 0 0 (va_A [(ba, .inr (0, [.ref bt, .ref bp, .ref bl, .ref bh, .ref bq, .ref br, .ref bd, .int (jI bg), .int (jI bf)])), (bt, .inl (cA, 31, .inl (jA ft))), (bh, .inl (cA, 248, .inl (jA fh))), (bq, .inl (cA, 124, .inl (jA fq))), (br, .inl (cA, 31, .inl (jA fr))), (bd, .inl (cA, 32, .inl (jA fd)))] sz) := by
  refine jMet (cc := cXB_forget) (maxL := 1) (ret := none) (by decide) rfl ?_
  intro p e s m args below meth c s₁ R Q hR hQ B hml hv
  obtain ⟨rfl, hsz, hP, hK, hD0, hN⟩ := hv
  have hx := B.exec
  have hb := B.bytes
  have hr := B.returns
  have hts := atoms_spec (ws := Cond.code yXB_forget cXB_forget 1 none :: TBL) B.pre
  have hown : s.vm.findClass RXB = some m.cls := findClass_of_methodNamed B.named
  have hlocks := B.notSynchronized
  subst hsz
  obtain ⟨A, hAe⟩ : ∃ A, A = va_A [(ba, .inr (0, [.ref bt, .ref bp, .ref bl, .ref bh, .ref bq, .ref br, .ref bd, .int (jI bg), .int (jI bf)])), (bt, .inl (cA, 31, .inl (jA ft))), (bh, .inl (cA, 248, .inl (jA fh))), (bq, .inl (cA, 124, .inl (jA fq))), (br, .inl (cA, 31, .inl (jA fr))), (bd, .inl (cA, 32, .inl (jA fd)))] s.heap.size := ⟨_, rfl⟩
  have hD : va_D A [(ba, .inr (0, [.ref bt, .ref bp, .ref bl, .ref bh, .ref bq, .ref br, .ref bd, .int (jI bg), .int (jI bf)])), (bt, .inl (cA, 31, .inl (jA ft))), (bh, .inl (cA, 248, .inl (jA fh))), (bq, .inl (cA, 124, .inl (jA fq))), (br, .inl (cA, 31, .inl (jA fr))), (bd, .inl (cA, 32, .inl (jA fd)))] := by rw [hAe]; exact hD0.self
  have hA : ∀ q : Nat, s.heap.size ≤ q → A q := fun q h => by rw [hAe]; exact Or.inr h
  have hS : va_S A s.heap s.heap [] := va_S.rf
  have hP : va_P (dC, dI) vwCl [(ba, .inr (0, [.ref bt, .ref bp, .ref bl, .ref bh, .ref bq, .ref br, .ref bd, .int (jI bg), .int (jI bf)])), (bt, .inl (cA, 31, .inl (jA ft))), (bh, .inl (cA, 248, .inl (jA fh))), (bq, .inl (cA, 124, .inl (jA fq))), (br, .inl (cA, 31, .inl (jA fr))), (bd, .inl (cA, 32, .inl (jA fd)))] s.heap := hP
  have hl := lv_entry ([.ref ba]) (n := 1) (Nat.le_of_ble_eq_true rfl)
  rw [lg_entry_eq]
  generalize (lg_sl ([.ref ba]) ++ List.replicate (1 - (lg_sl ([.ref ba])).length) Slot.unset).toArray = ls at hl ⊢
  have hl : lv_has ls 1 [(0, .ref ba)] := hl
  refine lv_aload_n hx hb dXB_forget_0 rfl (lv_at hl 0 rfl) ?_
  refine va_get (D := (dC, dI)) (ci := 0) (v := .ref bt) (C := RXB) (T := TXB) (N := 9) hx hb hts (fun w h => jmem (inXB w h)) hown hK hP 0 rfl rfl 0 (by decide) (hts _ (jmem tw_73)) (fun _ h9 => h9) rfl dXB_forget_1 ?_
  refine ji_iconst hx hb dXB_forget_4 ?_
  refine jwSv (rest := []) (wr := [(ba, .inr (0, [.ref bt, .ref bp, .ref bl, .ref bh, .ref bq, .ref br, .ref bd, .int (jI bg), .int (jI bf)])), (bh, .inl (cA, 248, .inl (jA fh))), (bq, .inl (cA, 124, .inl (jA fq))), (br, .inl (cA, 31, .inl (jA fr))), (bd, .inl (cA, 32, .inl (jA fd)))]) ⟨hx, hb, hml, hown, hts⟩ (c_XA_fill31 l dC dI cA _ bt ft 0) (va_cwS 2 hts (jG_T tw_131 tw_132 tw_12 tw_133) rfl rfl rfl (by decide +kernel) (by rw [hR]; exact ⟨Nat.le_of_ble_eq_true rfl, Nat.le_of_ble_eq_true rfl⟩)) hK hP hD hS hA hN [1] [0, 2, 3, 4, 5] rfl rfl (by decide) (by decide) (by decide) rfl hl.1 rfl (Nat.le_of_ble_eq_true rfl) dXB_forget_5 (by rw [hR]; exact ⟨Nat.le_of_ble_eq_true rfl, Nat.le_of_ble_eq_true rfl⟩) (fun u H locs hw hP hD hS => ?_)
  subst hw
  have hP : va_P (dC, dI) vwCl [(ba, .inr (0, [.ref bt, .ref bp, .ref bl, .ref bh, .ref bq, .ref br, .ref bd, .int (jI bg), .int (jI bf)])), (bh, .inl (cA, 248, .inl (jA fh))), (bq, .inl (cA, 124, .inl (jA fq))), (br, .inl (cA, 31, .inl (jA fr))), (bd, .inl (cA, 32, .inl (jA fd))), (bt, .inl (cA, 31, .inl (jA (f_XA_fill31 ft 0))))] H := hP
  have hD : va_D A [(ba, .inr (0, [.ref bt, .ref bp, .ref bl, .ref bh, .ref bq, .ref br, .ref bd, .int (jI bg), .int (jI bf)])), (bh, .inl (cA, 248, .inl (jA fh))), (bq, .inl (cA, 124, .inl (jA fq))), (br, .inl (cA, 31, .inl (jA fr))), (bd, .inl (cA, 32, .inl (jA fd))), (bt, .inl (cA, 31, .inl (jA (f_XA_fill31 ft 0))))] := hD
  refine lv_aload_n hx hb dXB_forget_8 rfl (lv_at hl 0 rfl) ?_
  refine va_get (D := (dC, dI)) (ci := 0) (v := .ref bh) (C := RXB) (T := TXB) (N := 9) hx hb hts (fun w h => jmem (inXB w h)) hown hK hP 0 rfl rfl 3 (by decide) (hts _ (jmem tw_76)) (fun _ h9 => h9) rfl dXB_forget_9 ?_
  refine ji_iconst hx hb dXB_forget_12 ?_
  refine jwSv (rest := []) (wr := [(ba, .inr (0, [.ref bt, .ref bp, .ref bl, .ref bh, .ref bq, .ref br, .ref bd, .int (jI bg), .int (jI bf)])), (bq, .inl (cA, 124, .inl (jA fq))), (br, .inl (cA, 31, .inl (jA fr))), (bd, .inl (cA, 32, .inl (jA fd))), (bt, .inl (cA, 31, .inl (jA (f_XA_fill31 ft 0))))]) ⟨hx, hb, hml, hown, hts⟩ (c_XA_fill248 l dC dI cA _ bh fh (-1)) (va_cwS 2 hts (jG_T tw_131 tw_132 tw_12 tw_133) rfl rfl rfl (by decide +kernel) (by rw [hR]; exact ⟨Nat.le_of_ble_eq_true rfl, Nat.le_of_ble_eq_true rfl⟩)) hK hP hD hS hA hN [1] [0, 2, 3, 4, 5] rfl rfl (by decide) (by decide) (by decide) rfl hl.1 rfl (Nat.le_of_ble_eq_true rfl) dXB_forget_13 (by rw [hR]; exact ⟨Nat.le_of_ble_eq_true rfl, Nat.le_of_ble_eq_true rfl⟩) (fun u1 H locs hw hP hD hS => ?_)
  subst hw
  have hP : va_P (dC, dI) vwCl [(ba, .inr (0, [.ref bt, .ref bp, .ref bl, .ref bh, .ref bq, .ref br, .ref bd, .int (jI bg), .int (jI bf)])), (bq, .inl (cA, 124, .inl (jA fq))), (br, .inl (cA, 31, .inl (jA fr))), (bd, .inl (cA, 32, .inl (jA fd))), (bt, .inl (cA, 31, .inl (jA (f_XA_fill31 ft 0)))), (bh, .inl (cA, 248, .inl (jA (f_XA_fill248 fh (-1)))))] H := hP
  have hD : va_D A [(ba, .inr (0, [.ref bt, .ref bp, .ref bl, .ref bh, .ref bq, .ref br, .ref bd, .int (jI bg), .int (jI bf)])), (bq, .inl (cA, 124, .inl (jA fq))), (br, .inl (cA, 31, .inl (jA fr))), (bd, .inl (cA, 32, .inl (jA fd))), (bt, .inl (cA, 31, .inl (jA (f_XA_fill31 ft 0)))), (bh, .inl (cA, 248, .inl (jA (f_XA_fill248 fh (-1)))))] := hD
  refine lv_aload_n hx hb dXB_forget_16 rfl (lv_at hl 0 rfl) ?_
  refine va_get (D := (dC, dI)) (ci := 0) (v := .ref bq) (C := RXB) (T := TXB) (N := 9) hx hb hts (fun w h => jmem (inXB w h)) hown hK hP 0 rfl rfl 4 (by decide) (hts _ (jmem tw_77)) (fun _ h9 => h9) rfl dXB_forget_17 ?_
  refine ji_iconst hx hb dXB_forget_20 ?_
  refine jwSv (rest := []) (wr := [(ba, .inr (0, [.ref bt, .ref bp, .ref bl, .ref bh, .ref bq, .ref br, .ref bd, .int (jI bg), .int (jI bf)])), (br, .inl (cA, 31, .inl (jA fr))), (bd, .inl (cA, 32, .inl (jA fd))), (bt, .inl (cA, 31, .inl (jA (f_XA_fill31 ft 0)))), (bh, .inl (cA, 248, .inl (jA (f_XA_fill248 fh (-1)))))]) ⟨hx, hb, hml, hown, hts⟩ (c_XA_fill124 l dC dI cA _ bq fq (-1)) (va_cwS 2 hts (jG_T tw_131 tw_132 tw_12 tw_133) rfl rfl rfl (by decide +kernel) (by rw [hR]; exact ⟨Nat.le_of_ble_eq_true rfl, Nat.le_of_ble_eq_true rfl⟩)) hK hP hD hS hA hN [1] [0, 2, 3, 4, 5] rfl rfl (by decide) (by decide) (by decide) rfl hl.1 rfl (Nat.le_of_ble_eq_true rfl) dXB_forget_21 (by rw [hR]; exact ⟨Nat.le_of_ble_eq_true rfl, Nat.le_of_ble_eq_true rfl⟩) (fun u2 H locs hw hP hD hS => ?_)
  subst hw
  have hP : va_P (dC, dI) vwCl [(ba, .inr (0, [.ref bt, .ref bp, .ref bl, .ref bh, .ref bq, .ref br, .ref bd, .int (jI bg), .int (jI bf)])), (br, .inl (cA, 31, .inl (jA fr))), (bd, .inl (cA, 32, .inl (jA fd))), (bt, .inl (cA, 31, .inl (jA (f_XA_fill31 ft 0)))), (bh, .inl (cA, 248, .inl (jA (f_XA_fill248 fh (-1))))), (bq, .inl (cA, 124, .inl (jA (f_XA_fill124 fq (-1)))))] H := hP
  have hD : va_D A [(ba, .inr (0, [.ref bt, .ref bp, .ref bl, .ref bh, .ref bq, .ref br, .ref bd, .int (jI bg), .int (jI bf)])), (br, .inl (cA, 31, .inl (jA fr))), (bd, .inl (cA, 32, .inl (jA fd))), (bt, .inl (cA, 31, .inl (jA (f_XA_fill31 ft 0)))), (bh, .inl (cA, 248, .inl (jA (f_XA_fill248 fh (-1))))), (bq, .inl (cA, 124, .inl (jA (f_XA_fill124 fq (-1)))))] := hD
  refine lv_aload_n hx hb dXB_forget_24 rfl (lv_at hl 0 rfl) ?_
  refine va_get (D := (dC, dI)) (ci := 0) (v := .ref br) (C := RXB) (T := TXB) (N := 9) hx hb hts (fun w h => jmem (inXB w h)) hown hK hP 0 rfl rfl 5 (by decide) (hts _ (jmem tw_78)) (fun _ h9 => h9) rfl dXB_forget_25 ?_
  refine ji_iconst hx hb dXB_forget_28 ?_
  refine jwSv (rest := []) (wr := [(ba, .inr (0, [.ref bt, .ref bp, .ref bl, .ref bh, .ref bq, .ref br, .ref bd, .int (jI bg), .int (jI bf)])), (bd, .inl (cA, 32, .inl (jA fd))), (bt, .inl (cA, 31, .inl (jA (f_XA_fill31 ft 0)))), (bh, .inl (cA, 248, .inl (jA (f_XA_fill248 fh (-1))))), (bq, .inl (cA, 124, .inl (jA (f_XA_fill124 fq (-1)))))]) ⟨hx, hb, hml, hown, hts⟩ (c_XA_fill31 l dC dI cA _ br fr 0) (va_cwS 2 hts (jG_T tw_131 tw_132 tw_12 tw_133) rfl rfl rfl (by decide +kernel) (by rw [hR]; exact ⟨Nat.le_of_ble_eq_true rfl, Nat.le_of_ble_eq_true rfl⟩)) hK hP hD hS hA hN [1] [0, 2, 3, 4, 5] rfl rfl (by decide) (by decide) (by decide) rfl hl.1 rfl (Nat.le_of_ble_eq_true rfl) dXB_forget_29 (by rw [hR]; exact ⟨Nat.le_of_ble_eq_true rfl, Nat.le_of_ble_eq_true rfl⟩) (fun u3 H locs hw hP hD hS => ?_)
  subst hw
  have hP : va_P (dC, dI) vwCl [(ba, .inr (0, [.ref bt, .ref bp, .ref bl, .ref bh, .ref bq, .ref br, .ref bd, .int (jI bg), .int (jI bf)])), (bd, .inl (cA, 32, .inl (jA fd))), (bt, .inl (cA, 31, .inl (jA (f_XA_fill31 ft 0)))), (bh, .inl (cA, 248, .inl (jA (f_XA_fill248 fh (-1))))), (bq, .inl (cA, 124, .inl (jA (f_XA_fill124 fq (-1))))), (br, .inl (cA, 31, .inl (jA (f_XA_fill31 fr 0))))] H := hP
  have hD : va_D A [(ba, .inr (0, [.ref bt, .ref bp, .ref bl, .ref bh, .ref bq, .ref br, .ref bd, .int (jI bg), .int (jI bf)])), (bd, .inl (cA, 32, .inl (jA fd))), (bt, .inl (cA, 31, .inl (jA (f_XA_fill31 ft 0)))), (bh, .inl (cA, 248, .inl (jA (f_XA_fill248 fh (-1))))), (bq, .inl (cA, 124, .inl (jA (f_XA_fill124 fq (-1))))), (br, .inl (cA, 31, .inl (jA (f_XA_fill31 fr 0))))] := hD
  refine lv_aload_n hx hb dXB_forget_32 rfl (lv_at hl 0 rfl) ?_
  refine va_get (D := (dC, dI)) (ci := 0) (v := .ref bd) (C := RXB) (T := TXB) (N := 9) hx hb hts (fun w h => jmem (inXB w h)) hown hK hP 0 rfl rfl 6 (by decide) (hts _ (jmem tw_79)) (fun _ h9 => h9) rfl dXB_forget_33 ?_
  refine ji_iconst hx hb dXB_forget_36 ?_
  refine jwSv (rest := []) (wr := [(ba, .inr (0, [.ref bt, .ref bp, .ref bl, .ref bh, .ref bq, .ref br, .ref bd, .int (jI bg), .int (jI bf)])), (bt, .inl (cA, 31, .inl (jA (f_XA_fill31 ft 0)))), (bh, .inl (cA, 248, .inl (jA (f_XA_fill248 fh (-1))))), (bq, .inl (cA, 124, .inl (jA (f_XA_fill124 fq (-1))))), (br, .inl (cA, 31, .inl (jA (f_XA_fill31 fr 0))))]) ⟨hx, hb, hml, hown, hts⟩ (c_XA_fill32 l dC dI cA _ bd fd 0) (va_cwS 2 hts (jG_T tw_131 tw_132 tw_12 tw_133) rfl rfl rfl (by decide +kernel) (by rw [hR]; exact ⟨Nat.le_of_ble_eq_true rfl, Nat.le_of_ble_eq_true rfl⟩)) hK hP hD hS hA hN [1] [0, 2, 3, 4, 5] rfl rfl (by decide) (by decide) (by decide) rfl hl.1 rfl (Nat.le_of_ble_eq_true rfl) dXB_forget_37 (by rw [hR]; exact ⟨Nat.le_of_ble_eq_true rfl, Nat.le_of_ble_eq_true rfl⟩) (fun u4 H locs hw hP hD hS => ?_)
  subst hw
  have hP : va_P (dC, dI) vwCl [(ba, .inr (0, [.ref bt, .ref bp, .ref bl, .ref bh, .ref bq, .ref br, .ref bd, .int (jI bg), .int (jI bf)])), (bt, .inl (cA, 31, .inl (jA (f_XA_fill31 ft 0)))), (bh, .inl (cA, 248, .inl (jA (f_XA_fill248 fh (-1))))), (bq, .inl (cA, 124, .inl (jA (f_XA_fill124 fq (-1))))), (br, .inl (cA, 31, .inl (jA (f_XA_fill31 fr 0)))), (bd, .inl (cA, 32, .inl (jA (f_XA_fill32 fd 0))))] H := hP
  have hD : va_D A [(ba, .inr (0, [.ref bt, .ref bp, .ref bl, .ref bh, .ref bq, .ref br, .ref bd, .int (jI bg), .int (jI bf)])), (bt, .inl (cA, 31, .inl (jA (f_XA_fill31 ft 0)))), (bh, .inl (cA, 248, .inl (jA (f_XA_fill248 fh (-1))))), (bq, .inl (cA, 124, .inl (jA (f_XA_fill124 fq (-1))))), (br, .inl (cA, 31, .inl (jA (f_XA_fill31 fr 0)))), (bd, .inl (cA, 32, .inl (jA (f_XA_fill32 fd 0))))] := hD
  refine lv_aload_n hx hb dXB_forget_40 rfl (lv_at hl 0 rfl) ?_
  refine ji_iconst hx hb dXB_forget_41 ?_
  refine va_put (D := (dC, dI)) (ci := 0) (v := .int (jI 0)) (ty := (.int)) (C := RXB) (T := TXB) (N := 9) hx hb hts (fun w h => jmem (inXB w h)) tyXB tyXB_ok nXB hown hK hP hD hS 0 rfl rfl 7 (by decide) (hts _ (jmem tw_80)) (fun _ h9 => h9) rfl (by decide +kernel) rfl rfl (Nat.le_of_ble_eq_true rfl) dXB_forget_42 (fun H locs hP hD hS => ?_)
  have hP : va_P (dC, dI) vwCl [(ba, .inr (0, [.ref bt, .ref bp, .ref bl, .ref bh, .ref bq, .ref br, .ref bd, .int (jI 0), .int (jI bf)])), (bt, .inl (cA, 31, .inl (jA (f_XA_fill31 ft 0)))), (bh, .inl (cA, 248, .inl (jA (f_XA_fill248 fh (-1))))), (bq, .inl (cA, 124, .inl (jA (f_XA_fill124 fq (-1))))), (br, .inl (cA, 31, .inl (jA (f_XA_fill31 fr 0)))), (bd, .inl (cA, 32, .inl (jA (f_XA_fill32 fd 0))))] H := hP
  have hD : va_D A [(ba, .inr (0, [.ref bt, .ref bp, .ref bl, .ref bh, .ref bq, .ref br, .ref bd, .int (jI 0), .int (jI bf)])), (bt, .inl (cA, 31, .inl (jA (f_XA_fill31 ft 0)))), (bh, .inl (cA, 248, .inl (jA (f_XA_fill248 fh (-1))))), (bq, .inl (cA, 124, .inl (jA (f_XA_fill124 fq (-1))))), (br, .inl (cA, 31, .inl (jA (f_XA_fill31 fr 0)))), (bd, .inl (cA, 32, .inl (jA (f_XA_fill32 fd 0))))] := hD
  refine lv_aload_n hx hb dXB_forget_45 rfl (lv_at hl 0 rfl) ?_
  refine ji_iconst hx hb dXB_forget_46 ?_
  refine va_put (D := (dC, dI)) (ci := 0) (v := .int (jI 0)) (ty := (.int)) (C := RXB) (T := TXB) (N := 9) hx hb hts (fun w h => jmem (inXB w h)) tyXB tyXB_ok nXB hown hK hP hD hS 0 rfl rfl 8 (by decide) (hts _ (jmem tw_81)) (fun _ h9 => h9) rfl (by decide +kernel) rfl rfl (Nat.le_of_ble_eq_true rfl) dXB_forget_47 (fun H locs hP hD hS => ?_)
  have hP : va_P (dC, dI) vwCl [(ba, .inr (0, [.ref bt, .ref bp, .ref bl, .ref bh, .ref bq, .ref br, .ref bd, .int (jI 0), .int (jI 0)])), (bt, .inl (cA, 31, .inl (jA (f_XA_fill31 ft 0)))), (bh, .inl (cA, 248, .inl (jA (f_XA_fill248 fh (-1))))), (bq, .inl (cA, 124, .inl (jA (f_XA_fill124 fq (-1))))), (br, .inl (cA, 31, .inl (jA (f_XA_fill31 fr 0)))), (bd, .inl (cA, 32, .inl (jA (f_XA_fill32 fd 0))))] H := hP
  have hD : va_D A [(ba, .inr (0, [.ref bt, .ref bp, .ref bl, .ref bh, .ref bq, .ref br, .ref bd, .int (jI 0), .int (jI 0)])), (bt, .inl (cA, 31, .inl (jA (f_XA_fill31 ft 0)))), (bh, .inl (cA, 248, .inl (jA (f_XA_fill248 fh (-1))))), (bq, .inl (cA, 124, .inl (jA (f_XA_fill124 fq (-1))))), (br, .inl (cA, 31, .inl (jA (f_XA_fill31 fr 0)))), (bd, .inl (cA, 32, .inl (jA (f_XA_fill32 fd 0))))] := hD
  have hP9 := hP.sub (ws' := [(ba, .inr (0, [.ref bt, .ref bp, .ref bl, .ref bh, .ref bq, .ref br, .ref bd, .int (jI 0), .int (jI 0)])), (bt, .inl (cA, 31, .inl (jA (f_XA_fill31 ft 0)))), (bh, .inl (cA, 248, .inl (jA (f_XA_fill248 fh (-1))))), (bq, .inl (cA, 124, .inl (jA (f_XA_fill124 fq (-1))))), (br, .inl (cA, 31, .inl (jA (f_XA_fill31 fr 0)))), (bd, .inl (cA, 32, .inl (jA (f_XA_fill32 fd 0))))]) [0, 1, 2, 3, 4, 5] rfl
  have hD9 := hD.sub (ws' := [(ba, .inr (0, [.ref bt, .ref bp, .ref bl, .ref bh, .ref bq, .ref br, .ref bd, .int (jI 0), .int (jI 0)])), (bt, .inl (cA, 31, .inl (jA (f_XA_fill31 ft 0)))), (bh, .inl (cA, 248, .inl (jA (f_XA_fill248 fh (-1))))), (bq, .inl (cA, 124, .inl (jA (f_XA_fill124 fq (-1))))), (br, .inl (cA, 31, .inl (jA (f_XA_fill31 fr 0)))), (bd, .inl (cA, 32, .inl (jA (f_XA_fill32 fd 0))))]) [0, 1, 2, 3, 4, 5] (by decide) rfl
  subst hAe
  subst hQ
  exact W.vret hx hb hr (fun t ht hW => ⟨⟨(f_XA_fill31 ft 0, f_XA_fill248 fh (-1), f_XA_fill124 fq (-1), f_XA_fill31 fr 0, f_XA_fill32 fd 0, 0, 0), rfl, ⟨Eq.trans (by rw [f_XB_forget_s]; try rfl) rfl, show ∀ i, 0 ≤ (f_XA_fill31 ft 0) i ∧ (f_XA_fill31 ft 0) i ≤ 30 from by first | omega | exact f_XA_fill31_p (fun x => 0 ≤ x ∧ x ≤ 30) ft 0 (by omega) hbt | exact f_XA_fill248_p (fun x => -1 ≤ x ∧ x ≤ 100000) fh (-1) (by omega) hbh | exact f_XA_fill124_p (fun x => -1 ≤ x ∧ x ≤ 999999) fq (-1) (by omega) hbq | exact f_XA_fill31_p (fun x => 0 ≤ x ∧ x < 2147483648) fr 0 (by omega) hbr | exact f_XA_fill32_p (fun x => 0 ≤ x ∧ x ≤ 20) fd 0 (by omega) hbd, show ∀ i, -1 ≤ (f_XA_fill248 fh (-1)) i ∧ (f_XA_fill248 fh (-1)) i ≤ 100000 from by first | omega | exact f_XA_fill31_p (fun x => 0 ≤ x ∧ x ≤ 30) ft 0 (by omega) hbt | exact f_XA_fill248_p (fun x => -1 ≤ x ∧ x ≤ 100000) fh (-1) (by omega) hbh | exact f_XA_fill124_p (fun x => -1 ≤ x ∧ x ≤ 999999) fq (-1) (by omega) hbq | exact f_XA_fill31_p (fun x => 0 ≤ x ∧ x < 2147483648) fr 0 (by omega) hbr | exact f_XA_fill32_p (fun x => 0 ≤ x ∧ x ≤ 20) fd 0 (by omega) hbd, show ∀ i, -1 ≤ (f_XA_fill124 fq (-1)) i ∧ (f_XA_fill124 fq (-1)) i ≤ 999999 from by first | omega | exact f_XA_fill31_p (fun x => 0 ≤ x ∧ x ≤ 30) ft 0 (by omega) hbt | exact f_XA_fill248_p (fun x => -1 ≤ x ∧ x ≤ 100000) fh (-1) (by omega) hbh | exact f_XA_fill124_p (fun x => -1 ≤ x ∧ x ≤ 999999) fq (-1) (by omega) hbq | exact f_XA_fill31_p (fun x => 0 ≤ x ∧ x < 2147483648) fr 0 (by omega) hbr | exact f_XA_fill32_p (fun x => 0 ≤ x ∧ x ≤ 20) fd 0 (by omega) hbd, show ∀ i, 0 ≤ (f_XA_fill31 fr 0) i ∧ (f_XA_fill31 fr 0) i < 2147483648 from by first | omega | exact f_XA_fill31_p (fun x => 0 ≤ x ∧ x ≤ 30) ft 0 (by omega) hbt | exact f_XA_fill248_p (fun x => -1 ≤ x ∧ x ≤ 100000) fh (-1) (by omega) hbh | exact f_XA_fill124_p (fun x => -1 ≤ x ∧ x ≤ 999999) fq (-1) (by omega) hbq | exact f_XA_fill31_p (fun x => 0 ≤ x ∧ x < 2147483648) fr 0 (by omega) hbr | exact f_XA_fill32_p (fun x => 0 ≤ x ∧ x ≤ 20) fd 0 (by omega) hbd, show ∀ i, 0 ≤ (f_XA_fill32 fd 0) i ∧ (f_XA_fill32 fd 0) i ≤ 20 from by first | omega | exact f_XA_fill31_p (fun x => 0 ≤ x ∧ x ≤ 30) ft 0 (by omega) hbt | exact f_XA_fill248_p (fun x => -1 ≤ x ∧ x ≤ 100000) fh (-1) (by omega) hbh | exact f_XA_fill124_p (fun x => -1 ≤ x ∧ x ≤ 999999) fq (-1) (by omega) hbq | exact f_XA_fill31_p (fun x => 0 ≤ x ∧ x < 2147483648) fr 0 (by omega) hbr | exact f_XA_fill32_p (fun x => 0 ≤ x ∧ x ≤ 20) fd 0 (by omega) hbd, show 0 = 0 from by first | omega | exact f_XA_fill31_p (fun x => 0 ≤ x ∧ x ≤ 30) ft 0 (by omega) hbt | exact f_XA_fill248_p (fun x => -1 ≤ x ∧ x ≤ 100000) fh (-1) (by omega) hbh | exact f_XA_fill124_p (fun x => -1 ≤ x ∧ x ≤ 999999) fq (-1) (by omega) hbq | exact f_XA_fill31_p (fun x => 0 ≤ x ∧ x < 2147483648) fr 0 (by omega) hbr | exact f_XA_fill32_p (fun x => 0 ≤ x ∧ x ≤ 20) fd 0 (by omega) hbd, show 0 = 0 from by first | omega | exact f_XA_fill31_p (fun x => 0 ≤ x ∧ x ≤ 30) ft 0 (by omega) hbt | exact f_XA_fill248_p (fun x => -1 ≤ x ∧ x ≤ 100000) fh (-1) (by omega) hbh | exact f_XA_fill124_p (fun x => -1 ≤ x ∧ x ≤ 999999) fq (-1) (by omega) hbq | exact f_XA_fill31_p (fun x => 0 ≤ x ∧ x < 2147483648) fr 0 (by omega) hbr | exact f_XA_fill32_p (fun x => 0 ≤ x ∧ x ≤ 20) fd 0 (by omega) hbd⟩, ⟨by rw [ht]; exact hP9, va_K.moved hW.alike hK, hD9⟩⟩, hS.F ht⟩) hS.2.2 dXB_forget_50
noncomputable def g_XB_onRing_L9 (bg : Int) (bf : Int) (ft : Int → Int) (zg : Int) : Nat → Int → Int → Int
  | 0, _, _ => 0
  | n9 + 1, v, k =>
    if k < 30 then
      if 0 < v then
        if v = zg then
          1
        else
          g_XB_onRing_L9 bg bf ft zg n9 (ft v) (k + 1)
      else
        0
    else
      0
noncomputable def f_XB_onRing_L9 : Int → Int → (Int → Int) → Int → Nat → Int → Int → Int := jopq g_XB_onRing_L9
theorem f_XB_onRing_L9_q : f_XB_onRing_L9 = g_XB_onRing_L9 := jopq_eq _
theorem f_XB_onRing_L9_s (bg : Int) (bf : Int) (ft : Int → Int) (zg : Int) (n9 : Nat) (v : Int) (k : Int) : f_XB_onRing_L9 bg bf ft zg (n9 + 1) v k = (
    if k < 30 then
      if 0 < v then
        if v = zg then
          1
        else
          f_XB_onRing_L9 bg bf ft zg n9 (ft v) (k + 1)
      else
        0
    else
      0
  : Int) := by rw [f_XB_onRing_L9_q]; rfl
theorem f_XB_onRing_L9_z (bg : Int) (bf : Int) (ft : Int → Int) (zg : Int) (v : Int) (k : Int) : f_XB_onRing_L9 bg bf ft zg 0 v k = 0 := by rw [f_XB_onRing_L9_q]; rfl
noncomputable def g_XB_onRing (bg : Int) (bf : Int) (ft : Int → Int) (zg : Int) : Int :=
  f_XB_onRing_L9 bg bf ft zg (Int.toNat (30 - 0) + 1) (ft zg) 0
noncomputable def f_XB_onRing : Int → Int → (Int → Int) → Int → Int := jopq g_XB_onRing
theorem f_XB_onRing_q : f_XB_onRing = g_XB_onRing := jopq_eq _
theorem f_XB_onRing_s (bg : Int) (bf : Int) (ft : Int → Int) (zg : Int) : f_XB_onRing bg bf ft zg = (
    f_XB_onRing_L9 bg bf ft zg (Int.toNat (30 - 0) + 1) (ft zg) 0
  : Int) := by rw [f_XB_onRing_q]; rfl
theorem f_XB_onRing_L (bg bf : Int) (ft : Int → Int) (zg : Int) : ∀ (n : Nat) (v k : Int), 0 ≤ f_XB_onRing_L9 bg bf ft zg n v k ∧ f_XB_onRing_L9 bg bf ft zg n v k ≤ 1 := by
  intro n
  induction n with
  | zero => intro v k; simp only [f_XB_onRing_L9_z] <;> omega
  | succ n ih =>
    intro v k
    rw [f_XB_onRing_L9_s]
    (repeat' split) <;> first | omega | exact ih _ _
theorem f_XB_onRing_b (bg : Int) (bf : Int) (ft : Int → Int) (zg : Int) (hbt : ∀ i, 0 ≤ ft i ∧ ft i ≤ 30) (hzg : 0 ≤ zg ∧ zg ≤ 30) : 0 ≤ (f_XB_onRing bg bf ft zg) ∧ (f_XB_onRing bg bf ft zg) ≤ 1 := by rw [f_XB_onRing_s]; exact f_XB_onRing_L _ _ _ _ _ _ _
set_option maxHeartbeats 4000000 in
set_option maxRecDepth 100000 in
theorem c_XB_onRing (l : Launch) (dC : Nat → ClassId) (dI : Nat → Nat → Nat) (cA : ClassId) (ba : Nat) (bt : Nat) (bp : Nat) (bl : Nat) (bh : Nat) (bq : Nat) (br : Nat) (bd : Nat) (bg : Int) (bf : Int) (ft : Int → Int) (zg : Int) (hbt : ∀ i, 0 ≤ ft i ∧ ft i ≤ 30) (hzg : 0 ≤ zg ∧ zg ≤ 30) : Met l yXB_onRing (Cond.code yXB_onRing cXB_onRing 4 (some .boolean) :: TBL) ({ frames := 0, cells := 0, slots := 0, locals := 0 } : Room) (va_Pc [.ref ba, .int (jI zg)] (jB (dC, dI) [(cA, .int)] [(ba, .inr (0, [.ref bt, .ref bp, .ref bl, .ref bh, .ref bq, .ref br, .ref bd, .int (jI bg), .int (jI bf)])), (bt, .inl (cA, 31, .inl (jA ft)))])) (vp_Si (fun r => r = jI (f_XB_onRing bg bf ft zg))) 0 0 (fun _ => False) := by
  refine jMet (cc := cXB_onRing) (maxL := 4) (ret := some .boolean) (by decide) rfl ?_
  intro p e s m args below meth c s₁ R Q hR hQ B hml hv
  obtain ⟨rfl, hP, hK, hN⟩ := hv
  have hx := B.exec
  have hb := B.bytes
  have hr := B.returns
  have hts := atoms_spec (ws := Cond.code yXB_onRing cXB_onRing 4 (some .boolean) :: TBL) B.pre
  have hown : s.vm.findClass RXB = some m.cls := findClass_of_methodNamed B.named
  have hlocks := B.notSynchronized
  have hP : va_P (dC, dI) vwCl [(ba, .inr (0, [.ref bt, .ref bp, .ref bl, .ref bh, .ref bq, .ref br, .ref bd, .int (jI bg), .int (jI bf)])), (bt, .inl (cA, 31, .inl (jA ft)))] s.heap := hP
  have hl := lv_entry ([.ref ba, .int (jI zg)]) (n := 4) (Nat.le_of_ble_eq_true rfl)
  rw [lg_entry_eq]
  generalize (lg_sl ([.ref ba, .int (jI zg)]) ++ List.replicate (4 - (lg_sl ([.ref ba, .int (jI zg)])).length) Slot.unset).toArray = ls at hl ⊢
  have hl : lv_has ls 4 [(0, .ref ba), (1, .int (jI zg))] := hl
  refine lv_aload_n hx hb dXB_onRing_0 rfl (lv_at hl 0 rfl) ?_
  refine va_get (D := (dC, dI)) (ci := 0) (v := .ref bt) (C := RXB) (T := TXB) (N := 9) hx hb hts (fun w h => jmem (inXB w h)) hown hK hP 0 rfl rfl 0 (by decide) (hts _ (jmem tw_73)) (fun _ h9 => h9) rfl dXB_onRing_1 ?_
  refine lv_iload_n hx hb dXB_onRing_4 rfl (lv_at hl 1 rfl) ?_
  refine ji_iald hx hb hK hP 1 0 rfl rfl ⟨by omega, by omega⟩ (by decide) dXB_onRing_5 ?_
  have rb := hbt zg
  refine lv_istore_n (lv' := [(2, .int (jI (ft zg))), (0, .ref ba), (1, .int (jI zg))]) hx hb dXB_onRing_6 rfl hl (by decide) rfl (fun ls hl => ?_)
  refine ji_iconst hx hb dXB_onRing_7 ?_
  refine lv_istore_n (lv' := [(3, .int (jI 0)), (2, .int (jI (ft zg))), (0, .ref ba), (1, .int (jI zg))]) hx hb dXB_onRing_8 rfl hl (by decide) rfl (fun ls hl => ?_)
  have loop9 : ∀ (n9 : Nat) (v : Int) (k : Int) , 30 - k < (n9 : Int) → f_XB_onRing_L9 bg bf ft zg n9 v k = f_XB_onRing bg bf ft zg → (0 ≤ k ∧ k ≤ 30) → (0 ≤ v ∧ v ≤ 30) → ∀ ls : Array Slot, lv_has ls 4 [(3, .int (jI k)), (2, .int (jI v)), (0, .ref ba), (1, .int (jI zg))] → W p l e R s m ([.ref ba, .int (jI zg)] : List Value).toArray below meth c s.heap [] 0 0 Q (F0 m 9 ls []) := by
    intro n9
    induction n9 with
    | zero =>
      intro v k hm hF hk hv
      exact absurd hm (by omega)
    | succ n9 ih9 =>
      intro v k hm hF hk hv ls hl
      refine lv_iload_n hx hb dXB_onRing_9 rfl (lv_at hl 0 rfl) ?_
      refine ji_bipush hx hb dXB_onRing_10 (by decide) ?_
      refine ji_icmp_ge (tgt := 39) hx hb dXB_onRing_12 (by decide) (by omega) (by omega) (fun c12_ => ?_) (fun c12_ => ?_)
      · refine ji_iconst hx hb dXB_onRing_39 ?_
        subst hQ
        exact W.zret (v := jI 0) hx hb hr (by first | decide | exact jz (by omega)) (fun t ht hW => ⟨_, rfl, congrArg jI (Eq.trans (by rw [f_XB_onRing_L9_s]; rw [if_neg (Int.not_lt.mpr c12_)]; try rfl) hF), ht⟩) (fun _ h => nomatch h) dXB_onRing_40
      · refine lv_iload_n hx hb dXB_onRing_15 rfl (lv_at hl 1 rfl) ?_
        refine ji_if_le (tgt := 39) hx hb dXB_onRing_16 (by decide) (by omega) (fun c16_ => ?_) (fun c16_ => ?_)
        · refine ji_iconst hx hb dXB_onRing_39 ?_
          subst hQ
          exact W.zret (v := jI 0) hx hb hr (by first | decide | exact jz (by omega)) (fun t ht hW => ⟨_, rfl, congrArg jI (Eq.trans (by rw [f_XB_onRing_L9_s]; rw [if_pos c12_, if_neg (Int.not_lt.mpr c16_)]; try rfl) hF), ht⟩) (fun _ h => nomatch h) dXB_onRing_40
        · refine lv_iload_n hx hb dXB_onRing_19 rfl (lv_at hl 1 rfl) ?_
          refine lv_iload_n hx hb dXB_onRing_20 rfl (lv_at hl 3 rfl) ?_
          refine ji_icmp_ne (tgt := 26) hx hb dXB_onRing_21 (by decide) (by omega) (by omega) (fun c21_ => ?_) (fun c21_ => ?_)
          · refine lv_aload_n hx hb dXB_onRing_26 rfl (lv_at hl 2 rfl) ?_
            refine va_get (D := (dC, dI)) (ci := 0) (v := .ref bt) (C := RXB) (T := TXB) (N := 9) hx hb hts (fun w h => jmem (inXB w h)) hown hK hP 0 rfl rfl 0 (by decide) (hts _ (jmem tw_73)) (fun _ h9 => h9) rfl dXB_onRing_27 ?_
            refine lv_iload_n hx hb dXB_onRing_30 rfl (lv_at hl 1 rfl) ?_
            refine ji_iald hx hb hK hP 1 0 rfl rfl ⟨by omega, by omega⟩ (by decide) dXB_onRing_31 ?_
            have rb1 := hbt v
            refine lv_istore_n (lv' := [(2, .int (jI (ft v))), (3, .int (jI k)), (0, .ref ba), (1, .int (jI zg))]) hx hb dXB_onRing_32 rfl hl (by decide) rfl (fun ls hl => ?_)
            refine ji_iinc (k := 1) (lv' := [(3, .int (jI (k + 1))), (2, .int (jI (ft v))), (0, .ref ba), (1, .int (jI zg))]) hx hb dXB_onRing_33 hl rfl (by decide) rfl (fun ls hl => ?_)
            refine lv_goto (tgt := 9) hx hb dXB_onRing_36 (by decide) ?_
            exact ih9 (ft v) (k + 1) (by omega) (Eq.trans (by rw [f_XB_onRing_L9_s]; rw [if_pos c12_, if_pos c16_, if_neg c21_]; try rfl) hF) (by first | assumption | omega) (by first | assumption | omega) ls (lv_sub hl [0, 1, 2, 3] rfl)
          · refine ji_iconst hx hb dXB_onRing_24 ?_
            subst hQ
            exact W.zret (v := jI 1) hx hb hr (by first | decide | exact jz (by omega)) (fun t ht hW => ⟨_, rfl, congrArg jI (Eq.trans (by rw [f_XB_onRing_L9_s]; rw [if_pos c12_, if_pos c16_, if_pos c21_]; try rfl) hF), ht⟩) (fun _ h => nomatch h) dXB_onRing_25
  exact loop9 (Int.toNat (30 - 0) + 1) (ft zg) 0 (by omega) (Eq.trans (by rw [f_XB_onRing_s]; try rfl) rfl) (by first | assumption | omega) (by first | assumption | omega) ls (lv_sub hl [0, 1, 2, 3] rfl)
noncomputable def g_XB_settle_L2 (bg : Int) (bf : Int) (ft : Int → Int) (fp : Int → Int) : Nat → Int → (Int → Int) → (Int → Int)
  | 0, _, _ => fun _ => 0
  | n9 + 1, k, fa =>
    if 30 < k then
      fa
    else
      if (f_XB_knows bg bf (ft k)) = 0 then
        g_XB_settle_L2 bg bf ft fp n9 (k + 1) (jset fa k 0)
      else
        if (f_XB_onRing bg bf ft k) = 0 then
          g_XB_settle_L2 bg bf ft fp n9 (k + 1) (jset fa k (ft k))
        else
          g_XB_settle_L2 bg bf ft fp n9 (k + 1) (jset fa k 0)
noncomputable def f_XB_settle_L2 : Int → Int → (Int → Int) → (Int → Int) → Nat → Int → (Int → Int) → (Int → Int) := jopq g_XB_settle_L2
theorem f_XB_settle_L2_q : f_XB_settle_L2 = g_XB_settle_L2 := jopq_eq _
theorem f_XB_settle_L2_s (bg : Int) (bf : Int) (ft : Int → Int) (fp : Int → Int) (n9 : Nat) (k : Int) (fa : Int → Int) : f_XB_settle_L2 bg bf ft fp (n9 + 1) k fa = (
    if 30 < k then
      fa
    else
      if (f_XB_knows bg bf (ft k)) = 0 then
        f_XB_settle_L2 bg bf ft fp n9 (k + 1) (jset fa k 0)
      else
        if (f_XB_onRing bg bf ft k) = 0 then
          f_XB_settle_L2 bg bf ft fp n9 (k + 1) (jset fa k (ft k))
        else
          f_XB_settle_L2 bg bf ft fp n9 (k + 1) (jset fa k 0)
  : (Int → Int)) := by rw [f_XB_settle_L2_q]; rfl
theorem f_XB_settle_L2_z (bg : Int) (bf : Int) (ft : Int → Int) (fp : Int → Int) (k : Int) (fa : Int → Int) : f_XB_settle_L2 bg bf ft fp 0 k fa = fun _ => 0 := by rw [f_XB_settle_L2_q]; rfl
noncomputable def g_XB_settle (bg : Int) (bf : Int) (ft : Int → Int) (fp : Int → Int) : (Int → Int) :=
  f_XB_settle_L2 bg bf ft fp (Int.toNat (31 - 1) + 1) 1 fp
noncomputable def f_XB_settle : Int → Int → (Int → Int) → (Int → Int) → (Int → Int) := jopq g_XB_settle
theorem f_XB_settle_q : f_XB_settle = g_XB_settle := jopq_eq _
theorem f_XB_settle_s (bg : Int) (bf : Int) (ft : Int → Int) (fp : Int → Int) : f_XB_settle bg bf ft fp = (
    f_XB_settle_L2 bg bf ft fp (Int.toNat (31 - 1) + 1) 1 fp
  : (Int → Int)) := by rw [f_XB_settle_q]; rfl
theorem f_XB_settle_L (bg bf : Int) (ft fp : Int → Int) (hbt : ∀ i, 0 ≤ ft i ∧ ft i ≤ 30) : ∀ (n : Nat) (k : Int) (fa : Int → Int), (∀ i, 0 ≤ fa i ∧ fa i ≤ 30) → ∀ i, 0 ≤ f_XB_settle_L2 bg bf ft fp n k fa i ∧ f_XB_settle_L2 bg bf ft fp n k fa i ≤ 30 := by
  intro n
  induction n with
  | zero => intro k fa _ i; simp only [f_XB_settle_L2_z] <;> omega
  | succ n ih =>
    intro k fa h
    have hj : ∀ x, 0 ≤ x ∧ x ≤ 30 → ∀ i, 0 ≤ jset fa k x i ∧ jset fa k x i ≤ 30 := by
      intro x hx i
      unfold jset
      split
      · exact hx
      · exact h i
    rw [f_XB_settle_L2_s]
    (repeat' split) <;> first | exact h | exact ih _ _ (hj _ (hbt _)) | exact ih _ _ (hj 0 (by omega))
theorem f_XB_settle_b (bg : Int) (bf : Int) (ft : Int → Int) (fp : Int → Int) (hbt : ∀ i, 0 ≤ ft i ∧ ft i ≤ 30) (hbp : ∀ i, 0 ≤ fp i ∧ fp i ≤ 30) (hbg : 0 ≤ bg ∧ bg < 2147483648) : ∀ i, 0 ≤ (f_XB_settle bg bf ft fp) i ∧ (f_XB_settle bg bf ft fp) i ≤ 30 := by rw [f_XB_settle_s]; exact f_XB_settle_L _ _ _ _ hbt _ _ _ hbp
set_option maxHeartbeats 4000000 in
set_option maxRecDepth 100000 in
theorem c_XB_settle (l : Launch) (dC : Nat → ClassId) (dI : Nat → Nat → Nat) (cA : ClassId) (sz : Nat) (ba : Nat) (bt : Nat) (bp : Nat) (bl : Nat) (bh : Nat) (bq : Nat) (br : Nat) (bd : Nat) (bg : Int) (bf : Int) (ft : Int → Int) (fp : Int → Int) (hbt : ∀ i, 0 ≤ ft i ∧ ft i ≤ 30) (hbp : ∀ i, 0 ≤ fp i ∧ fp i ≤ 30) (hbg : 0 ≤ bg ∧ bg < 2147483648) : Met l yXB_settle (Cond.code yXB_settle cXB_settle 3 none :: TBL) ({ frames := 2, cells := 0, slots := 0, locals := 42 } : Room) (va_Pc [.ref ba] (jBw (dC, dI) [(cA, .int)] [(ba, .inr (0, [.ref bt, .ref bp, .ref bl, .ref bh, .ref bq, .ref br, .ref bd, .int (jI bg), .int (jI bf)])), (bt, .inl (cA, 31, .inl (jA ft))), (bp, .inl (cA, 31, .inl (jA fp)))] sz)) (va_Qv (fun (u : (Int → Int)) => u = f_XB_settle bg bf ft fp) (fun u t => jE (dC, dI) [(cA, .int)] [(ba, .inr (0, [.ref bt, .ref bp, .ref bl, .ref bh, .ref bq, .ref br, .ref bd, .int (jI bg), .int (jI bf)])), (bt, .inl (cA, 31, .inl (jA ft))), (bp, .inl (cA, 31, .inl (jA fp)))] sz [(ba, .inr (0, [.ref bt, .ref bp, .ref bl, .ref bh, .ref bq, .ref br, .ref bd, .int (jI bg), .int (jI bf)])), (bt, .inl (cA, 31, .inl (jA ft))), (bp, .inl (cA, 31, .inl (jA u)))] t) (va_A [(ba, .inr (0, [.ref bt, .ref bp, .ref bl, .ref bh, .ref bq, .ref br, .ref bd, .int (jI bg), .int (jI bf)])), (bt, .inl (cA, 31, .inl (jA ft))), (bp, .inl (cA, 31, .inl (jA fp)))] sz)) 0 0 (va_A [(ba, .inr (0, [.ref bt, .ref bp, .ref bl, .ref bh, .ref bq, .ref br, .ref bd, .int (jI bg), .int (jI bf)])), (bt, .inl (cA, 31, .inl (jA ft))), (bp, .inl (cA, 31, .inl (jA fp)))] sz) := by
  refine jMet (cc := cXB_settle) (maxL := 3) (ret := none) (by decide) rfl ?_
  intro p e s m args below meth c s₁ R Q hR hQ B hml hv
  obtain ⟨rfl, hsz, hP, hK, hD0, hN⟩ := hv
  have hx := B.exec
  have hb := B.bytes
  have hr := B.returns
  have hts := atoms_spec (ws := Cond.code yXB_settle cXB_settle 3 none :: TBL) B.pre
  have hown : s.vm.findClass RXB = some m.cls := findClass_of_methodNamed B.named
  have hlocks := B.notSynchronized
  subst hsz
  obtain ⟨A, hAe⟩ : ∃ A, A = va_A [(ba, .inr (0, [.ref bt, .ref bp, .ref bl, .ref bh, .ref bq, .ref br, .ref bd, .int (jI bg), .int (jI bf)])), (bt, .inl (cA, 31, .inl (jA ft))), (bp, .inl (cA, 31, .inl (jA fp)))] s.heap.size := ⟨_, rfl⟩
  have hD : va_D A [(ba, .inr (0, [.ref bt, .ref bp, .ref bl, .ref bh, .ref bq, .ref br, .ref bd, .int (jI bg), .int (jI bf)])), (bt, .inl (cA, 31, .inl (jA ft))), (bp, .inl (cA, 31, .inl (jA fp)))] := by rw [hAe]; exact hD0.self
  have hA : ∀ q : Nat, s.heap.size ≤ q → A q := fun q h => by rw [hAe]; exact Or.inr h
  have hS : va_S A s.heap s.heap [] := va_S.rf
  have hP : va_P (dC, dI) vwCl [(ba, .inr (0, [.ref bt, .ref bp, .ref bl, .ref bh, .ref bq, .ref br, .ref bd, .int (jI bg), .int (jI bf)])), (bt, .inl (cA, 31, .inl (jA ft))), (bp, .inl (cA, 31, .inl (jA fp)))] s.heap := hP
  have hl := lv_entry ([.ref ba]) (n := 3) (Nat.le_of_ble_eq_true rfl)
  rw [lg_entry_eq]
  generalize (lg_sl ([.ref ba]) ++ List.replicate (3 - (lg_sl ([.ref ba])).length) Slot.unset).toArray = ls at hl ⊢
  have hl : lv_has ls 3 [(0, .ref ba)] := hl
  refine ji_iconst hx hb dXB_settle_0 ?_
  refine lv_istore_n (lv' := [(1, .int (jI 1)), (0, .ref ba)]) hx hb dXB_settle_1 rfl hl (by decide) rfl (fun ls hl => ?_)
  have loop2 : ∀ (n9 : Nat) (k : Int) (fa : Int → Int) , 31 - k < (n9 : Int) → f_XB_settle_L2 bg bf ft fp n9 k fa = f_XB_settle bg bf ft fp → (1 ≤ k ∧ k ≤ 31) → ∀ (H : Heap) (locs : List Loc), va_P (dC, dI) vwCl [(ba, .inr (0, [.ref bt, .ref bp, .ref bl, .ref bh, .ref bq, .ref br, .ref bd, .int (jI bg), .int (jI bf)])), (bt, .inl (cA, 31, .inl (jA ft))), (bp, .inl (cA, 31, .inl (jA fa)))] H → va_D A [(ba, .inr (0, [.ref bt, .ref bp, .ref bl, .ref bh, .ref bq, .ref br, .ref bd, .int (jI bg), .int (jI bf)])), (bt, .inl (cA, 31, .inl (jA ft))), (bp, .inl (cA, 31, .inl (jA fa)))] → va_S A s.heap H locs → ∀ ls : Array Slot, lv_has ls 3 [(1, .int (jI k)), (0, .ref ba)] → W p l e R s m ([.ref ba] : List Value).toArray below meth c H locs 0 0 Q (F0 m 2 ls []) := by
    intro n9
    induction n9 with
    | zero =>
      intro k fa hm hF hk
      exact absurd hm (by omega)
    | succ n9 ih2 =>
      intro k fa hm hF hk H locs hP hD hS ls hl
      refine lv_iload_n hx hb dXB_settle_2 rfl (lv_at hl 0 rfl) ?_
      refine ji_bipush hx hb dXB_settle_3 (by decide) ?_
      refine ji_icmp_gt (tgt := 48) hx hb dXB_settle_5 (by decide) (by omega) (by omega) (fun c5_ => ?_) (fun c5_ => ?_)
      · have hP9 := hP.sub (ws' := [(ba, .inr (0, [.ref bt, .ref bp, .ref bl, .ref bh, .ref bq, .ref br, .ref bd, .int (jI bg), .int (jI bf)])), (bt, .inl (cA, 31, .inl (jA ft))), (bp, .inl (cA, 31, .inl (jA fa)))]) [0, 1, 2] rfl
        have hD9 := hD.sub (ws' := [(ba, .inr (0, [.ref bt, .ref bp, .ref bl, .ref bh, .ref bq, .ref br, .ref bd, .int (jI bg), .int (jI bf)])), (bt, .inl (cA, 31, .inl (jA ft))), (bp, .inl (cA, 31, .inl (jA fa)))]) [0, 1, 2] (by decide) rfl
        subst hAe
        subst hQ
        exact W.vret hx hb hr (fun t ht hW => ⟨⟨fa, rfl, Eq.trans (by rw [f_XB_settle_L2_s]; rw [if_pos c5_]; try rfl) hF, ⟨by rw [ht]; exact hP9, va_K.moved hW.alike hK, hD9⟩⟩, hS.F ht⟩) hS.2.2 dXB_settle_48
      · refine lv_aload_n hx hb dXB_settle_8 rfl (lv_at hl 1 rfl) ?_
        refine va_get (D := (dC, dI)) (ci := 0) (v := .ref bt) (C := RXB) (T := TXB) (N := 9) hx hb hts (fun w h => jmem (inXB w h)) hown hK hP 0 rfl rfl 0 (by decide) (hts _ (jmem tw_73)) (fun _ h9 => h9) rfl dXB_settle_9 ?_
        refine lv_iload_n hx hb dXB_settle_12 rfl (lv_at hl 0 rfl) ?_
        refine ji_iald hx hb hK hP 1 0 rfl rfl ⟨by omega, by omega⟩ (by decide) dXB_settle_13 ?_
        have rb := hbt k
        refine lv_istore_n (lv' := [(2, .int (jI (ft k))), (1, .int (jI k)), (0, .ref ba)]) hx hb dXB_settle_14 rfl hl (by decide) rfl (fun ls hl => ?_)
        refine lv_aload_n hx hb dXB_settle_15 rfl (lv_at hl 2 rfl) ?_
        refine va_get (D := (dC, dI)) (ci := 0) (v := .ref bp) (C := RXB) (T := TXB) (N := 9) hx hb hts (fun w h => jmem (inXB w h)) hown hK hP 0 rfl rfl 1 (by decide) (hts _ (jmem tw_74)) (fun _ h9 => h9) rfl dXB_settle_16 ?_
        refine lv_iload_n hx hb dXB_settle_19 rfl (lv_at hl 1 rfl) ?_
        refine lv_aload_n hx hb dXB_settle_20 rfl (lv_at hl 2 rfl) ?_
        refine lv_iload_n hx hb dXB_settle_21 rfl (lv_at hl 0 rfl) ?_
        refine jrVi (rest := [.int (jI k), .ref bp]) ⟨hx, hb, hml, hown, hts⟩ (c_XB_knows l dC dI cA ba bt bp bl bh bq br bd bg bf (ft k) (by first | assumption | omega) (by first | assumption | omega)) (cwV 1 hts (jG_V tw_281 tw_216 tw_217 tw_5 tw_218) rfl rfl rfl (by decide +kernel) (by rw [hR]; exact ⟨Nat.le_of_ble_eq_true rfl, Nat.le_of_ble_eq_true rfl⟩)) hK hP hN [0] rfl 0 0 rfl rfl rfl rfl hl.1 rfl (Nat.le_of_ble_eq_true rfl) dXB_settle_22 (by rw [hR]; exact ⟨Nat.le_of_ble_eq_true rfl, Nat.le_of_ble_eq_true rfl⟩) ?_
        have f := f_XB_knows_b bg bf (ft k) (by first | assumption | omega) (by first | assumption | omega)
        have f1 := f_XB_knows_c bg bf (ft k) (by first | assumption | omega) (by first | assumption | omega)
        refine ji_if_eq (tgt := 40) hx hb dXB_settle_25 (by decide) (by omega) (fun c25_ => ?_) (fun c25_ => ?_)
        · refine ji_iconst hx hb dXB_settle_40 ?_
          refine ji_iast hx hb hK hP hD hS 2 0 rfl rfl ⟨by omega, by omega⟩ (by decide) dXB_settle_41 (fun H locs hP hD hS => ?_)
          have hP : va_P (dC, dI) vwCl [(ba, .inr (0, [.ref bt, .ref bp, .ref bl, .ref bh, .ref bq, .ref br, .ref bd, .int (jI bg), .int (jI bf)])), (bt, .inl (cA, 31, .inl (jA ft))), (bp, .inl (cA, 31, .inl (jA (jset fa k 0))))] H := hP
          have hD : va_D A [(ba, .inr (0, [.ref bt, .ref bp, .ref bl, .ref bh, .ref bq, .ref br, .ref bd, .int (jI bg), .int (jI bf)])), (bt, .inl (cA, 31, .inl (jA ft))), (bp, .inl (cA, 31, .inl (jA (jset fa k 0))))] := hD
          refine ji_iinc (k := 1) (lv' := [(1, .int (jI (k + 1))), (2, .int (jI (ft k))), (0, .ref ba)]) hx hb dXB_settle_42 hl rfl (by decide) rfl (fun ls hl => ?_)
          refine lv_goto (tgt := 2) hx hb dXB_settle_45 (by decide) ?_
          exact ih2 (k + 1) (jset fa k 0) (by omega) (Eq.trans (by rw [f_XB_settle_L2_s]; rw [if_neg (Int.not_lt.mpr c5_), if_pos c25_]; try rfl) hF) (by first | assumption | omega) _ _ hP hD hS ls (lv_sub hl [0, 2] rfl)
        · refine lv_aload_n hx hb dXB_settle_28 rfl (lv_at hl 2 rfl) ?_
          refine lv_iload_n hx hb dXB_settle_29 rfl (lv_at hl 1 rfl) ?_
          refine jrVi (rest := [.int (jI k), .ref bp]) ⟨hx, hb, hml, hown, hts⟩ (c_XB_onRing l dC dI cA ba bt bp bl bh bq br bd bg bf ft k (by first | assumption | omega) (by first | assumption | omega)) (cwV 1 hts (jG_V tw_282 tw_283 tw_284 tw_5 tw_285) rfl rfl rfl (by decide +kernel) (by rw [hR]; exact ⟨Nat.le_of_ble_eq_true rfl, Nat.le_of_ble_eq_true rfl⟩)) hK hP hN [0, 1] rfl 0 0 rfl rfl rfl rfl hl.1 rfl (Nat.le_of_ble_eq_true rfl) dXB_settle_30 (by rw [hR]; exact ⟨Nat.le_of_ble_eq_true rfl, Nat.le_of_ble_eq_true rfl⟩) ?_
          have f2 := f_XB_onRing_b bg bf ft k (by first | assumption | omega) (by first | assumption | omega)
          refine ji_if_ne (tgt := 40) hx hb dXB_settle_33 (by decide) (by omega) (fun c33_ => ?_) (fun c33_ => ?_)
          · refine ji_iconst hx hb dXB_settle_40 ?_
            refine ji_iast hx hb hK hP hD hS 2 0 rfl rfl ⟨by omega, by omega⟩ (by decide) dXB_settle_41 (fun H locs hP hD hS => ?_)
            have hP : va_P (dC, dI) vwCl [(ba, .inr (0, [.ref bt, .ref bp, .ref bl, .ref bh, .ref bq, .ref br, .ref bd, .int (jI bg), .int (jI bf)])), (bt, .inl (cA, 31, .inl (jA ft))), (bp, .inl (cA, 31, .inl (jA (jset fa k 0))))] H := hP
            have hD : va_D A [(ba, .inr (0, [.ref bt, .ref bp, .ref bl, .ref bh, .ref bq, .ref br, .ref bd, .int (jI bg), .int (jI bf)])), (bt, .inl (cA, 31, .inl (jA ft))), (bp, .inl (cA, 31, .inl (jA (jset fa k 0))))] := hD
            refine ji_iinc (k := 1) (lv' := [(1, .int (jI (k + 1))), (2, .int (jI (ft k))), (0, .ref ba)]) hx hb dXB_settle_42 hl rfl (by decide) rfl (fun ls hl => ?_)
            refine lv_goto (tgt := 2) hx hb dXB_settle_45 (by decide) ?_
            exact ih2 (k + 1) (jset fa k 0) (by omega) (Eq.trans (by rw [f_XB_settle_L2_s]; rw [if_neg (Int.not_lt.mpr c5_), if_neg c25_, if_neg c33_]; try rfl) hF) (by first | assumption | omega) _ _ hP hD hS ls (lv_sub hl [0, 2] rfl)
          · refine lv_iload_n hx hb dXB_settle_36 rfl (lv_at hl 0 rfl) ?_
            refine lv_goto (tgt := 41) hx hb dXB_settle_37 (by decide) ?_
            refine ji_iast hx hb hK hP hD hS 2 0 rfl rfl ⟨by omega, by omega⟩ (by decide) dXB_settle_41 (fun H locs hP hD hS => ?_)
            have hP : va_P (dC, dI) vwCl [(ba, .inr (0, [.ref bt, .ref bp, .ref bl, .ref bh, .ref bq, .ref br, .ref bd, .int (jI bg), .int (jI bf)])), (bt, .inl (cA, 31, .inl (jA ft))), (bp, .inl (cA, 31, .inl (jA (jset fa k (ft k)))))] H := hP
            have hD : va_D A [(ba, .inr (0, [.ref bt, .ref bp, .ref bl, .ref bh, .ref bq, .ref br, .ref bd, .int (jI bg), .int (jI bf)])), (bt, .inl (cA, 31, .inl (jA ft))), (bp, .inl (cA, 31, .inl (jA (jset fa k (ft k)))))] := hD
            refine ji_iinc (k := 1) (lv' := [(1, .int (jI (k + 1))), (2, .int (jI (ft k))), (0, .ref ba)]) hx hb dXB_settle_42 hl rfl (by decide) rfl (fun ls hl => ?_)
            refine lv_goto (tgt := 2) hx hb dXB_settle_45 (by decide) ?_
            exact ih2 (k + 1) (jset fa k (ft k)) (by omega) (Eq.trans (by rw [f_XB_settle_L2_s]; rw [if_neg (Int.not_lt.mpr c5_), if_neg c25_, if_pos c33_]; try rfl) hF) (by first | assumption | omega) _ _ hP hD hS ls (lv_sub hl [0, 2] rfl)
  exact loop2 (Int.toNat (31 - 1) + 1) 1 fp (by omega) (Eq.trans (by rw [f_XB_settle_s]; try rfl) rfl) (by first | assumption | omega) _ _ hP hD hS ls (lv_sub hl [0, 1] rfl)
noncomputable def g_XB_endOf_L6 (bg : Int) (bf : Int) (fp : Int → Int) (fl : Int → Int) (fh : Int → Int) (zg : Int) (ze : Int) (zn : Int) : Nat → Int → Int → Int
  | 0, _, _ => 0
  | n9 + 1, v, k =>
    if k < 30 then
      if 0 < v then
        if (f_XB_tellsSpan bg bf fh v ze) = 0 then
          g_XB_endOf_L6 bg bf fp fl fh zg ze zn n9 (fp v) (k + 1)
        else
          if v = 0 then
            if zn = 0 then
              0
            else
              100000
          else
            if zn = 0 then
              fl ((v * 8) + ze)
            else
              fh ((v * 8) + ze)
      else
        if v = 0 then
          if zn = 0 then
            0
          else
            100000
        else
          if zn = 0 then
            fl ((v * 8) + ze)
          else
            fh ((v * 8) + ze)
    else
      if v = 0 then
        if zn = 0 then
          0
        else
          100000
      else
        if zn = 0 then
          fl ((v * 8) + ze)
        else
          fh ((v * 8) + ze)
noncomputable def f_XB_endOf_L6 : Int → Int → (Int → Int) → (Int → Int) → (Int → Int) → Int → Int → Int → Nat → Int → Int → Int := jopq g_XB_endOf_L6
theorem f_XB_endOf_L6_q : f_XB_endOf_L6 = g_XB_endOf_L6 := jopq_eq _
theorem f_XB_endOf_L6_s (bg : Int) (bf : Int) (fp : Int → Int) (fl : Int → Int) (fh : Int → Int) (zg : Int) (ze : Int) (zn : Int) (n9 : Nat) (v : Int) (k : Int) : f_XB_endOf_L6 bg bf fp fl fh zg ze zn (n9 + 1) v k = (
    if k < 30 then
      if 0 < v then
        if (f_XB_tellsSpan bg bf fh v ze) = 0 then
          f_XB_endOf_L6 bg bf fp fl fh zg ze zn n9 (fp v) (k + 1)
        else
          if v = 0 then
            if zn = 0 then
              0
            else
              100000
          else
            if zn = 0 then
              fl ((v * 8) + ze)
            else
              fh ((v * 8) + ze)
      else
        if v = 0 then
          if zn = 0 then
            0
          else
            100000
        else
          if zn = 0 then
            fl ((v * 8) + ze)
          else
            fh ((v * 8) + ze)
    else
      if v = 0 then
        if zn = 0 then
          0
        else
          100000
      else
        if zn = 0 then
          fl ((v * 8) + ze)
        else
          fh ((v * 8) + ze)
  : Int) := by rw [f_XB_endOf_L6_q]; rfl
theorem f_XB_endOf_L6_z (bg : Int) (bf : Int) (fp : Int → Int) (fl : Int → Int) (fh : Int → Int) (zg : Int) (ze : Int) (zn : Int) (v : Int) (k : Int) : f_XB_endOf_L6 bg bf fp fl fh zg ze zn 0 v k = 0 := by rw [f_XB_endOf_L6_q]; rfl
noncomputable def g_XB_endOf (bg : Int) (bf : Int) (fp : Int → Int) (fl : Int → Int) (fh : Int → Int) (zg : Int) (ze : Int) (zn : Int) : Int :=
  f_XB_endOf_L6 bg bf fp fl fh zg ze zn (Int.toNat (30 - 0) + 1) zg 0
noncomputable def f_XB_endOf : Int → Int → (Int → Int) → (Int → Int) → (Int → Int) → Int → Int → Int → Int := jopq g_XB_endOf
theorem f_XB_endOf_q : f_XB_endOf = g_XB_endOf := jopq_eq _
theorem f_XB_endOf_s (bg : Int) (bf : Int) (fp : Int → Int) (fl : Int → Int) (fh : Int → Int) (zg : Int) (ze : Int) (zn : Int) : f_XB_endOf bg bf fp fl fh zg ze zn = (
    f_XB_endOf_L6 bg bf fp fl fh zg ze zn (Int.toNat (30 - 0) + 1) zg 0
  : Int) := by rw [f_XB_endOf_q]; rfl
theorem f_XB_endOf_L (bg bf : Int) (fp fl fh : Int → Int) (zg ze zn : Int) (hbl : ∀ i, 0 ≤ fl i ∧ fl i ≤ 100000) (hbh : ∀ i, -1 ≤ fh i ∧ fh i ≤ 100000) : ∀ (n : Nat) (v k : Int), -1 ≤ f_XB_endOf_L6 bg bf fp fl fh zg ze zn n v k ∧ f_XB_endOf_L6 bg bf fp fl fh zg ze zn n v k ≤ 100000 := by
  intro n
  induction n with
  | zero => intro v k; simp only [f_XB_endOf_L6_z] <;> omega
  | succ n ih =>
    intro v k
    have h1 := hbl (v * 8 + ze)
    have h2 := hbh (v * 8 + ze)
    rw [f_XB_endOf_L6_s]
    (repeat' split) <;> first | omega | exact ih _ _
theorem f_XB_endOf_b (bg : Int) (bf : Int) (fp : Int → Int) (fl : Int → Int) (fh : Int → Int) (zg : Int) (ze : Int) (zn : Int) (hbp : ∀ i, 0 ≤ fp i ∧ fp i ≤ 30) (hbl : ∀ i, 0 ≤ fl i ∧ fl i ≤ 100000) (hbh : ∀ i, -1 ≤ fh i ∧ fh i ≤ 100000) (hzg : 0 ≤ zg ∧ zg ≤ 30) (hze : 0 ≤ ze ∧ ze < 8) (hzn : 0 ≤ zn ∧ zn < 2) : -1 ≤ (f_XB_endOf bg bf fp fl fh zg ze zn) ∧ (f_XB_endOf bg bf fp fl fh zg ze zn) ≤ 100000 := by rw [f_XB_endOf_s]; exact f_XB_endOf_L _ _ _ _ _ _ _ _ hbl hbh _ _ _
set_option maxHeartbeats 4000000 in
set_option maxRecDepth 100000 in
theorem c_XB_endOf (l : Launch) (dC : Nat → ClassId) (dI : Nat → Nat → Nat) (cA : ClassId) (ba : Nat) (bt : Nat) (bp : Nat) (bl : Nat) (bh : Nat) (bq : Nat) (br : Nat) (bd : Nat) (bg : Int) (bf : Int) (fp : Int → Int) (fl : Int → Int) (fh : Int → Int) (zg : Int) (ze : Int) (zn : Int) (hbp : ∀ i, 0 ≤ fp i ∧ fp i ≤ 30) (hbl : ∀ i, 0 ≤ fl i ∧ fl i ≤ 100000) (hbh : ∀ i, -1 ≤ fh i ∧ fh i ≤ 100000) (hzg : 0 ≤ zg ∧ zg ≤ 30) (hze : 0 ≤ ze ∧ ze < 8) (hzn : 0 ≤ zn ∧ zn < 2) : Met l yXB_endOf (Cond.code yXB_endOf cXB_endOf 6 (some .int) :: TBL) ({ frames := 1, cells := 0, slots := 0, locals := 22 } : Room) (va_Pc [.ref ba, .int (jI zg), .int (jI ze), .int (jI zn)] (jB (dC, dI) [(cA, .int)] [(ba, .inr (0, [.ref bt, .ref bp, .ref bl, .ref bh, .ref bq, .ref br, .ref bd, .int (jI bg), .int (jI bf)])), (bp, .inl (cA, 31, .inl (jA fp))), (bl, .inl (cA, 248, .inl (jA fl))), (bh, .inl (cA, 248, .inl (jA fh)))])) (vp_Si (fun r => r = jI (f_XB_endOf bg bf fp fl fh zg ze zn))) 0 0 (fun _ => False) := by
  refine jMet (cc := cXB_endOf) (maxL := 6) (ret := some .int) (by decide) rfl ?_
  intro p e s m args below meth c s₁ R Q hR hQ B hml hv
  obtain ⟨rfl, hP, hK, hN⟩ := hv
  have hx := B.exec
  have hb := B.bytes
  have hr := B.returns
  have hts := atoms_spec (ws := Cond.code yXB_endOf cXB_endOf 6 (some .int) :: TBL) B.pre
  have hown : s.vm.findClass RXB = some m.cls := findClass_of_methodNamed B.named
  have hlocks := B.notSynchronized
  have hP : va_P (dC, dI) vwCl [(ba, .inr (0, [.ref bt, .ref bp, .ref bl, .ref bh, .ref bq, .ref br, .ref bd, .int (jI bg), .int (jI bf)])), (bp, .inl (cA, 31, .inl (jA fp))), (bl, .inl (cA, 248, .inl (jA fl))), (bh, .inl (cA, 248, .inl (jA fh)))] s.heap := hP
  have hl := lv_entry ([.ref ba, .int (jI zg), .int (jI ze), .int (jI zn)]) (n := 6) (Nat.le_of_ble_eq_true rfl)
  rw [lg_entry_eq]
  generalize (lg_sl ([.ref ba, .int (jI zg), .int (jI ze), .int (jI zn)]) ++ List.replicate (6 - (lg_sl ([.ref ba, .int (jI zg), .int (jI ze), .int (jI zn)])).length) Slot.unset).toArray = ls at hl ⊢
  have hl : lv_has ls 6 [(0, .ref ba), (1, .int (jI zg)), (2, .int (jI ze)), (3, .int (jI zn))] := hl
  refine lv_iload_n hx hb dXB_endOf_0 rfl (lv_at hl 1 rfl) ?_
  refine lv_istore (lv' := [(4, .int (jI zg)), (0, .ref ba), (1, .int (jI zg)), (2, .int (jI ze)), (3, .int (jI zn))]) hx hb dXB_endOf_1 hl (by decide) rfl (fun ls hl => ?_)
  refine ji_iconst hx hb dXB_endOf_3 ?_
  refine lv_istore (lv' := [(5, .int (jI 0)), (4, .int (jI zg)), (0, .ref ba), (1, .int (jI zg)), (2, .int (jI ze)), (3, .int (jI zn))]) hx hb dXB_endOf_4 hl (by decide) rfl (fun ls hl => ?_)
  have loop6 : ∀ (n9 : Nat) (v : Int) (k : Int) , 30 - k < (n9 : Int) → f_XB_endOf_L6 bg bf fp fl fh zg ze zn n9 v k = f_XB_endOf bg bf fp fl fh zg ze zn → (0 ≤ k ∧ k ≤ 30) → (0 ≤ v ∧ v ≤ 30) → ∀ ls : Array Slot, lv_has ls 6 [(5, .int (jI k)), (4, .int (jI v)), (0, .ref ba), (1, .int (jI zg)), (2, .int (jI ze)), (3, .int (jI zn))] → W p l e R s m ([.ref ba, .int (jI zg), .int (jI ze), .int (jI zn)] : List Value).toArray below meth c s.heap [] 0 0 Q (F0 m 6 ls []) := by
    intro n9
    induction n9 with
    | zero =>
      intro v k hm hF hk hv
      exact absurd hm (by omega)
    | succ n9 ih6 =>
      intro v k hm hF hk hv ls hl
      refine lv_iload hx hb dXB_endOf_6 (lv_at hl 0 rfl) ?_
      refine ji_bipush hx hb dXB_endOf_8 (by decide) ?_
      refine ji_icmp_ge (tgt := 43) hx hb dXB_endOf_10 (by decide) (by omega) (by omega) (fun c10_ => ?_) (fun c10_ => ?_)
      · refine lv_iload hx hb dXB_endOf_43 (lv_at hl 1 rfl) ?_
        refine ji_if_ne (tgt := 59) hx hb dXB_endOf_45 (by decide) (by omega) (fun c45_ => ?_) (fun c45_ => ?_)
        · refine lv_iload_n hx hb dXB_endOf_59 rfl (lv_at hl 5 rfl) ?_
          refine ji_if_ne (tgt := 78) hx hb dXB_endOf_60 (by decide) (by omega) (fun c60_ => ?_) (fun c60_ => ?_)
          · refine lv_aload_n hx hb dXB_endOf_78 rfl (lv_at hl 2 rfl) ?_
            refine va_get (D := (dC, dI)) (ci := 0) (v := .ref bh) (C := RXB) (T := TXB) (N := 9) hx hb hts (fun w h => jmem (inXB w h)) hown hK hP 0 rfl rfl 3 (by decide) (hts _ (jmem tw_76)) (fun _ h9 => h9) rfl dXB_endOf_79 ?_
            refine lv_iload hx hb dXB_endOf_82 (lv_at hl 1 rfl) ?_
            refine ji_bipush hx hb dXB_endOf_84 (by decide) ?_
            refine ji_imul hx hb dXB_endOf_86 ?_
            refine lv_iload_n hx hb dXB_endOf_87 rfl (lv_at hl 4 rfl) ?_
            refine ji_iadd hx hb dXB_endOf_88 ?_
            refine ji_iald hx hb hK hP 3 0 rfl rfl ⟨by omega, by omega⟩ (by decide) dXB_endOf_89 ?_
            have rb := hbh ((v * 8) + ze)
            subst hQ
            exact W.iret (v := jI (fh ((v * 8) + ze))) hx hb hr (fun t ht hW => ⟨_, rfl, congrArg jI (Eq.trans (by rw [f_XB_endOf_L6_s]; rw [if_neg (Int.not_lt.mpr c10_), if_neg c45_, if_neg c60_]; try rfl) hF), ht⟩) (fun _ h => nomatch h) dXB_endOf_90
          · refine lv_aload_n hx hb dXB_endOf_63 rfl (lv_at hl 2 rfl) ?_
            refine va_get (D := (dC, dI)) (ci := 0) (v := .ref bl) (C := RXB) (T := TXB) (N := 9) hx hb hts (fun w h => jmem (inXB w h)) hown hK hP 0 rfl rfl 2 (by decide) (hts _ (jmem tw_75)) (fun _ h9 => h9) rfl dXB_endOf_64 ?_
            refine lv_iload hx hb dXB_endOf_67 (lv_at hl 1 rfl) ?_
            refine ji_bipush hx hb dXB_endOf_69 (by decide) ?_
            refine ji_imul hx hb dXB_endOf_71 ?_
            refine lv_iload_n hx hb dXB_endOf_72 rfl (lv_at hl 4 rfl) ?_
            refine ji_iadd hx hb dXB_endOf_73 ?_
            refine ji_iald hx hb hK hP 2 0 rfl rfl ⟨by omega, by omega⟩ (by decide) dXB_endOf_74 ?_
            have rb1 := hbl ((v * 8) + ze)
            refine lv_goto (tgt := 90) hx hb dXB_endOf_75 (by decide) ?_
            subst hQ
            exact W.iret (v := jI (fl ((v * 8) + ze))) hx hb hr (fun t ht hW => ⟨_, rfl, congrArg jI (Eq.trans (by rw [f_XB_endOf_L6_s]; rw [if_neg (Int.not_lt.mpr c10_), if_neg c45_, if_pos c60_]; try rfl) hF), ht⟩) (fun _ h => nomatch h) dXB_endOf_90
        · refine lv_iload_n hx hb dXB_endOf_48 rfl (lv_at hl 5 rfl) ?_
          refine ji_if_ne (tgt := 56) hx hb dXB_endOf_49 (by decide) (by omega) (fun c49_ => ?_) (fun c49_ => ?_)
          · refine lv_ldc hx hb hown (hts _ (jmem tw_442)) dXB_endOf_56 ?_
            refine ji_re (y := 100000) (by decide) ?_
            subst hQ
            exact W.iret (v := jI 100000) hx hb hr (fun t ht hW => ⟨_, rfl, congrArg jI (Eq.trans (by rw [f_XB_endOf_L6_s]; rw [if_neg (Int.not_lt.mpr c10_), if_pos c45_, if_neg c49_]; try rfl) hF), ht⟩) (fun _ h => nomatch h) dXB_endOf_58
          · refine ji_iconst hx hb dXB_endOf_52 ?_
            refine lv_goto (tgt := 58) hx hb dXB_endOf_53 (by decide) ?_
            subst hQ
            exact W.iret (v := jI 0) hx hb hr (fun t ht hW => ⟨_, rfl, congrArg jI (Eq.trans (by rw [f_XB_endOf_L6_s]; rw [if_neg (Int.not_lt.mpr c10_), if_pos c45_, if_pos c49_]; try rfl) hF), ht⟩) (fun _ h => nomatch h) dXB_endOf_58
      · refine lv_iload hx hb dXB_endOf_13 (lv_at hl 1 rfl) ?_
        refine ji_if_le (tgt := 43) hx hb dXB_endOf_15 (by decide) (by omega) (fun c15_ => ?_) (fun c15_ => ?_)
        · refine lv_iload hx hb dXB_endOf_43 (lv_at hl 1 rfl) ?_
          refine ji_if_ne (tgt := 59) hx hb dXB_endOf_45 (by decide) (by omega) (fun c45_2 => ?_) (fun c45_2 => ?_)
          · refine lv_iload_n hx hb dXB_endOf_59 rfl (lv_at hl 5 rfl) ?_
            refine ji_if_ne (tgt := 78) hx hb dXB_endOf_60 (by decide) (by omega) (fun c60_3 => ?_) (fun c60_3 => ?_)
            · refine lv_aload_n hx hb dXB_endOf_78 rfl (lv_at hl 2 rfl) ?_
              refine va_get (D := (dC, dI)) (ci := 0) (v := .ref bh) (C := RXB) (T := TXB) (N := 9) hx hb hts (fun w h => jmem (inXB w h)) hown hK hP 0 rfl rfl 3 (by decide) (hts _ (jmem tw_76)) (fun _ h9 => h9) rfl dXB_endOf_79 ?_
              refine lv_iload hx hb dXB_endOf_82 (lv_at hl 1 rfl) ?_
              refine ji_bipush hx hb dXB_endOf_84 (by decide) ?_
              refine ji_imul hx hb dXB_endOf_86 ?_
              refine lv_iload_n hx hb dXB_endOf_87 rfl (lv_at hl 4 rfl) ?_
              refine ji_iadd hx hb dXB_endOf_88 ?_
              refine ji_iald hx hb hK hP 3 0 rfl rfl ⟨by omega, by omega⟩ (by decide) dXB_endOf_89 ?_
              have rb4 := hbh ((v * 8) + ze)
              subst hQ
              exact W.iret (v := jI (fh ((v * 8) + ze))) hx hb hr (fun t ht hW => ⟨_, rfl, congrArg jI (Eq.trans (by rw [f_XB_endOf_L6_s]; rw [if_pos c10_, if_neg (Int.not_lt.mpr c15_), if_neg c45_2, if_neg c60_3]; try rfl) hF), ht⟩) (fun _ h => nomatch h) dXB_endOf_90
            · refine lv_aload_n hx hb dXB_endOf_63 rfl (lv_at hl 2 rfl) ?_
              refine va_get (D := (dC, dI)) (ci := 0) (v := .ref bl) (C := RXB) (T := TXB) (N := 9) hx hb hts (fun w h => jmem (inXB w h)) hown hK hP 0 rfl rfl 2 (by decide) (hts _ (jmem tw_75)) (fun _ h9 => h9) rfl dXB_endOf_64 ?_
              refine lv_iload hx hb dXB_endOf_67 (lv_at hl 1 rfl) ?_
              refine ji_bipush hx hb dXB_endOf_69 (by decide) ?_
              refine ji_imul hx hb dXB_endOf_71 ?_
              refine lv_iload_n hx hb dXB_endOf_72 rfl (lv_at hl 4 rfl) ?_
              refine ji_iadd hx hb dXB_endOf_73 ?_
              refine ji_iald hx hb hK hP 2 0 rfl rfl ⟨by omega, by omega⟩ (by decide) dXB_endOf_74 ?_
              have rb5 := hbl ((v * 8) + ze)
              refine lv_goto (tgt := 90) hx hb dXB_endOf_75 (by decide) ?_
              subst hQ
              exact W.iret (v := jI (fl ((v * 8) + ze))) hx hb hr (fun t ht hW => ⟨_, rfl, congrArg jI (Eq.trans (by rw [f_XB_endOf_L6_s]; rw [if_pos c10_, if_neg (Int.not_lt.mpr c15_), if_neg c45_2, if_pos c60_3]; try rfl) hF), ht⟩) (fun _ h => nomatch h) dXB_endOf_90
          · refine lv_iload_n hx hb dXB_endOf_48 rfl (lv_at hl 5 rfl) ?_
            refine ji_if_ne (tgt := 56) hx hb dXB_endOf_49 (by decide) (by omega) (fun c49_6 => ?_) (fun c49_6 => ?_)
            · refine lv_ldc hx hb hown (hts _ (jmem tw_442)) dXB_endOf_56 ?_
              refine ji_re (y := 100000) (by decide) ?_
              subst hQ
              exact W.iret (v := jI 100000) hx hb hr (fun t ht hW => ⟨_, rfl, congrArg jI (Eq.trans (by rw [f_XB_endOf_L6_s]; rw [if_pos c10_, if_neg (Int.not_lt.mpr c15_), if_pos c45_2, if_neg c49_6]; try rfl) hF), ht⟩) (fun _ h => nomatch h) dXB_endOf_58
            · refine ji_iconst hx hb dXB_endOf_52 ?_
              refine lv_goto (tgt := 58) hx hb dXB_endOf_53 (by decide) ?_
              subst hQ
              exact W.iret (v := jI 0) hx hb hr (fun t ht hW => ⟨_, rfl, congrArg jI (Eq.trans (by rw [f_XB_endOf_L6_s]; rw [if_pos c10_, if_neg (Int.not_lt.mpr c15_), if_pos c45_2, if_pos c49_6]; try rfl) hF), ht⟩) (fun _ h => nomatch h) dXB_endOf_58
        · refine lv_aload_n hx hb dXB_endOf_18 rfl (lv_at hl 2 rfl) ?_
          refine lv_iload hx hb dXB_endOf_19 (lv_at hl 1 rfl) ?_
          refine lv_iload_n hx hb dXB_endOf_21 rfl (lv_at hl 4 rfl) ?_
          refine jrVi (rest := []) ⟨hx, hb, hml, hown, hts⟩ (c_XB_tellsSpan l dC dI cA ba bt bp bl bh bq br bd bg bf fh v ze (by first | assumption | omega) (by first | assumption | omega) (by first | assumption | omega)) (cwV 2 hts (jG_V tw_441 tw_239 tw_240 tw_5 tw_241) rfl rfl rfl (by decide +kernel) (by rw [hR]; exact ⟨Nat.le_of_ble_eq_true rfl, Nat.le_of_ble_eq_true rfl⟩)) hK hP hN [0, 3] rfl 0 0 rfl rfl rfl rfl hl.1 rfl (Nat.le_of_ble_eq_true rfl) dXB_endOf_22 (by rw [hR]; exact ⟨Nat.le_of_ble_eq_true rfl, Nat.le_of_ble_eq_true rfl⟩) ?_
          have f := f_XB_tellsSpan_b bg bf fh v ze (by first | assumption | omega) (by first | assumption | omega) (by first | assumption | omega)
          have f7 := f_XB_tellsSpan_c bg bf fh v ze (by first | assumption | omega) (by first | assumption | omega) (by first | assumption | omega)
          refine ji_if_ne (tgt := 43) hx hb dXB_endOf_25 (by decide) (by omega) (fun c25_ => ?_) (fun c25_ => ?_)
          · refine lv_iload hx hb dXB_endOf_43 (lv_at hl 1 rfl) ?_
            refine ji_if_ne (tgt := 59) hx hb dXB_endOf_45 (by decide) (by omega) (fun c45_8 => ?_) (fun c45_8 => ?_)
            · refine lv_iload_n hx hb dXB_endOf_59 rfl (lv_at hl 5 rfl) ?_
              refine ji_if_ne (tgt := 78) hx hb dXB_endOf_60 (by decide) (by omega) (fun c60_9 => ?_) (fun c60_9 => ?_)
              · refine lv_aload_n hx hb dXB_endOf_78 rfl (lv_at hl 2 rfl) ?_
                refine va_get (D := (dC, dI)) (ci := 0) (v := .ref bh) (C := RXB) (T := TXB) (N := 9) hx hb hts (fun w h => jmem (inXB w h)) hown hK hP 0 rfl rfl 3 (by decide) (hts _ (jmem tw_76)) (fun _ h9 => h9) rfl dXB_endOf_79 ?_
                refine lv_iload hx hb dXB_endOf_82 (lv_at hl 1 rfl) ?_
                refine ji_bipush hx hb dXB_endOf_84 (by decide) ?_
                refine ji_imul hx hb dXB_endOf_86 ?_
                refine lv_iload_n hx hb dXB_endOf_87 rfl (lv_at hl 4 rfl) ?_
                refine ji_iadd hx hb dXB_endOf_88 ?_
                refine ji_iald hx hb hK hP 3 0 rfl rfl ⟨by omega, by omega⟩ (by decide) dXB_endOf_89 ?_
                have rb10 := hbh ((v * 8) + ze)
                subst hQ
                exact W.iret (v := jI (fh ((v * 8) + ze))) hx hb hr (fun t ht hW => ⟨_, rfl, congrArg jI (Eq.trans (by rw [f_XB_endOf_L6_s]; rw [if_pos c10_, if_pos c15_, if_neg c25_, if_neg c45_8, if_neg c60_9]; try rfl) hF), ht⟩) (fun _ h => nomatch h) dXB_endOf_90
              · refine lv_aload_n hx hb dXB_endOf_63 rfl (lv_at hl 2 rfl) ?_
                refine va_get (D := (dC, dI)) (ci := 0) (v := .ref bl) (C := RXB) (T := TXB) (N := 9) hx hb hts (fun w h => jmem (inXB w h)) hown hK hP 0 rfl rfl 2 (by decide) (hts _ (jmem tw_75)) (fun _ h9 => h9) rfl dXB_endOf_64 ?_
                refine lv_iload hx hb dXB_endOf_67 (lv_at hl 1 rfl) ?_
                refine ji_bipush hx hb dXB_endOf_69 (by decide) ?_
                refine ji_imul hx hb dXB_endOf_71 ?_
                refine lv_iload_n hx hb dXB_endOf_72 rfl (lv_at hl 4 rfl) ?_
                refine ji_iadd hx hb dXB_endOf_73 ?_
                refine ji_iald hx hb hK hP 2 0 rfl rfl ⟨by omega, by omega⟩ (by decide) dXB_endOf_74 ?_
                have rb11 := hbl ((v * 8) + ze)
                refine lv_goto (tgt := 90) hx hb dXB_endOf_75 (by decide) ?_
                subst hQ
                exact W.iret (v := jI (fl ((v * 8) + ze))) hx hb hr (fun t ht hW => ⟨_, rfl, congrArg jI (Eq.trans (by rw [f_XB_endOf_L6_s]; rw [if_pos c10_, if_pos c15_, if_neg c25_, if_neg c45_8, if_pos c60_9]; try rfl) hF), ht⟩) (fun _ h => nomatch h) dXB_endOf_90
            · refine lv_iload_n hx hb dXB_endOf_48 rfl (lv_at hl 5 rfl) ?_
              refine ji_if_ne (tgt := 56) hx hb dXB_endOf_49 (by decide) (by omega) (fun c49_12 => ?_) (fun c49_12 => ?_)
              · refine lv_ldc hx hb hown (hts _ (jmem tw_442)) dXB_endOf_56 ?_
                refine ji_re (y := 100000) (by decide) ?_
                subst hQ
                exact W.iret (v := jI 100000) hx hb hr (fun t ht hW => ⟨_, rfl, congrArg jI (Eq.trans (by rw [f_XB_endOf_L6_s]; rw [if_pos c10_, if_pos c15_, if_neg c25_, if_pos c45_8, if_neg c49_12]; try rfl) hF), ht⟩) (fun _ h => nomatch h) dXB_endOf_58
              · refine ji_iconst hx hb dXB_endOf_52 ?_
                refine lv_goto (tgt := 58) hx hb dXB_endOf_53 (by decide) ?_
                subst hQ
                exact W.iret (v := jI 0) hx hb hr (fun t ht hW => ⟨_, rfl, congrArg jI (Eq.trans (by rw [f_XB_endOf_L6_s]; rw [if_pos c10_, if_pos c15_, if_neg c25_, if_pos c45_8, if_pos c49_12]; try rfl) hF), ht⟩) (fun _ h => nomatch h) dXB_endOf_58
          · refine lv_aload_n hx hb dXB_endOf_28 rfl (lv_at hl 2 rfl) ?_
            refine va_get (D := (dC, dI)) (ci := 0) (v := .ref bp) (C := RXB) (T := TXB) (N := 9) hx hb hts (fun w h => jmem (inXB w h)) hown hK hP 0 rfl rfl 1 (by decide) (hts _ (jmem tw_74)) (fun _ h9 => h9) rfl dXB_endOf_29 ?_
            refine lv_iload hx hb dXB_endOf_32 (lv_at hl 1 rfl) ?_
            refine ji_iald hx hb hK hP 1 0 rfl rfl ⟨by omega, by omega⟩ (by decide) dXB_endOf_34 ?_
            have rb13 := hbp v
            refine lv_istore (lv' := [(4, .int (jI (fp v))), (5, .int (jI k)), (0, .ref ba), (1, .int (jI zg)), (2, .int (jI ze)), (3, .int (jI zn))]) hx hb dXB_endOf_35 hl (by decide) rfl (fun ls hl => ?_)
            refine ji_iinc (k := 1) (lv' := [(5, .int (jI (k + 1))), (4, .int (jI (fp v))), (0, .ref ba), (1, .int (jI zg)), (2, .int (jI ze)), (3, .int (jI zn))]) hx hb dXB_endOf_37 hl rfl (by decide) rfl (fun ls hl => ?_)
            refine lv_goto (tgt := 6) hx hb dXB_endOf_40 (by decide) ?_
            exact ih6 (fp v) (k + 1) (by omega) (Eq.trans (by rw [f_XB_endOf_L6_s]; rw [if_pos c10_, if_pos c15_, if_pos c25_]; try rfl) hF) (by first | assumption | omega) (by first | assumption | omega) ls (lv_sub hl [0, 1, 2, 3, 4, 5] rfl)
  exact loop6 (Int.toNat (30 - 0) + 1) zg 0 (by omega) (Eq.trans (by rw [f_XB_endOf_s]; try rfl) rfl) (by first | assumption | omega) (by first | assumption | omega) ls (lv_sub hl [0, 1, 2, 3, 4, 5] rfl)
noncomputable def g_XB_limitOf_L5 (bg : Int) (bf : Int) (fp : Int → Int) (fq : Int → Int) (zg : Int) (zk : Int) : Nat → Int → Int → Int
  | 0, _, _ => 0
  | n9 + 1, v, k =>
    if k < 30 then
      if 0 < v then
        if (f_XB_tellsLimit bg bf fq v zk) = 0 then
          g_XB_limitOf_L5 bg bf fp fq zg zk n9 (fp v) (k + 1)
        else
          if v = 0 then
            -1
          else
            fq ((v * 4) + zk)
      else
        if v = 0 then
          -1
        else
          fq ((v * 4) + zk)
    else
      if v = 0 then
        -1
      else
        fq ((v * 4) + zk)
noncomputable def f_XB_limitOf_L5 : Int → Int → (Int → Int) → (Int → Int) → Int → Int → Nat → Int → Int → Int := jopq g_XB_limitOf_L5
theorem f_XB_limitOf_L5_q : f_XB_limitOf_L5 = g_XB_limitOf_L5 := jopq_eq _
theorem f_XB_limitOf_L5_s (bg : Int) (bf : Int) (fp : Int → Int) (fq : Int → Int) (zg : Int) (zk : Int) (n9 : Nat) (v : Int) (k : Int) : f_XB_limitOf_L5 bg bf fp fq zg zk (n9 + 1) v k = (
    if k < 30 then
      if 0 < v then
        if (f_XB_tellsLimit bg bf fq v zk) = 0 then
          f_XB_limitOf_L5 bg bf fp fq zg zk n9 (fp v) (k + 1)
        else
          if v = 0 then
            -1
          else
            fq ((v * 4) + zk)
      else
        if v = 0 then
          -1
        else
          fq ((v * 4) + zk)
    else
      if v = 0 then
        -1
      else
        fq ((v * 4) + zk)
  : Int) := by rw [f_XB_limitOf_L5_q]; rfl
theorem f_XB_limitOf_L5_z (bg : Int) (bf : Int) (fp : Int → Int) (fq : Int → Int) (zg : Int) (zk : Int) (v : Int) (k : Int) : f_XB_limitOf_L5 bg bf fp fq zg zk 0 v k = 0 := by rw [f_XB_limitOf_L5_q]; rfl
noncomputable def g_XB_limitOf (bg : Int) (bf : Int) (fp : Int → Int) (fq : Int → Int) (zg : Int) (zk : Int) : Int :=
  f_XB_limitOf_L5 bg bf fp fq zg zk (Int.toNat (30 - 0) + 1) zg 0
noncomputable def f_XB_limitOf : Int → Int → (Int → Int) → (Int → Int) → Int → Int → Int := jopq g_XB_limitOf
theorem f_XB_limitOf_q : f_XB_limitOf = g_XB_limitOf := jopq_eq _
theorem f_XB_limitOf_s (bg : Int) (bf : Int) (fp : Int → Int) (fq : Int → Int) (zg : Int) (zk : Int) : f_XB_limitOf bg bf fp fq zg zk = (
    f_XB_limitOf_L5 bg bf fp fq zg zk (Int.toNat (30 - 0) + 1) zg 0
  : Int) := by rw [f_XB_limitOf_q]; rfl
theorem f_XB_limitOf_L (bg bf : Int) (fp fq : Int → Int) (zg zk : Int) (hbq : ∀ i, -1 ≤ fq i ∧ fq i ≤ 999999) : ∀ (n : Nat) (v k : Int), -1 ≤ f_XB_limitOf_L5 bg bf fp fq zg zk n v k ∧ f_XB_limitOf_L5 bg bf fp fq zg zk n v k ≤ 999999 := by
  intro n
  induction n with
  | zero => intro v k; simp only [f_XB_limitOf_L5_z] <;> omega
  | succ n ih =>
    intro v k
    have h1 := hbq (v * 4 + zk)
    rw [f_XB_limitOf_L5_s]
    (repeat' split) <;> first | omega | exact ih _ _
theorem f_XB_limitOf_b (bg : Int) (bf : Int) (fp : Int → Int) (fq : Int → Int) (zg : Int) (zk : Int) (hbp : ∀ i, 0 ≤ fp i ∧ fp i ≤ 30) (hbq : ∀ i, -1 ≤ fq i ∧ fq i ≤ 999999) (hzg : 0 ≤ zg ∧ zg ≤ 30) (hzk : 0 ≤ zk ∧ zk < 4) : -1 ≤ (f_XB_limitOf bg bf fp fq zg zk) ∧ (f_XB_limitOf bg bf fp fq zg zk) ≤ 999999 := by rw [f_XB_limitOf_s]; exact f_XB_limitOf_L _ _ _ _ _ _ hbq _ _ _
set_option maxHeartbeats 4000000 in
set_option maxRecDepth 100000 in
theorem c_XB_limitOf (l : Launch) (dC : Nat → ClassId) (dI : Nat → Nat → Nat) (cA : ClassId) (ba : Nat) (bt : Nat) (bp : Nat) (bl : Nat) (bh : Nat) (bq : Nat) (br : Nat) (bd : Nat) (bg : Int) (bf : Int) (fp : Int → Int) (fq : Int → Int) (zg : Int) (zk : Int) (hbp : ∀ i, 0 ≤ fp i ∧ fp i ≤ 30) (hbq : ∀ i, -1 ≤ fq i ∧ fq i ≤ 999999) (hzg : 0 ≤ zg ∧ zg ≤ 30) (hzk : 0 ≤ zk ∧ zk < 4) : Met l yXB_limitOf (Cond.code yXB_limitOf cXB_limitOf 5 (some .int) :: TBL) ({ frames := 1, cells := 0, slots := 0, locals := 22 } : Room) (va_Pc [.ref ba, .int (jI zg), .int (jI zk)] (jB (dC, dI) [(cA, .int)] [(ba, .inr (0, [.ref bt, .ref bp, .ref bl, .ref bh, .ref bq, .ref br, .ref bd, .int (jI bg), .int (jI bf)])), (bp, .inl (cA, 31, .inl (jA fp))), (bq, .inl (cA, 124, .inl (jA fq)))])) (vp_Si (fun r => r = jI (f_XB_limitOf bg bf fp fq zg zk))) 0 0 (fun _ => False) := by
  refine jMet (cc := cXB_limitOf) (maxL := 5) (ret := some .int) (by decide) rfl ?_
  intro p e s m args below meth c s₁ R Q hR hQ B hml hv
  obtain ⟨rfl, hP, hK, hN⟩ := hv
  have hx := B.exec
  have hb := B.bytes
  have hr := B.returns
  have hts := atoms_spec (ws := Cond.code yXB_limitOf cXB_limitOf 5 (some .int) :: TBL) B.pre
  have hown : s.vm.findClass RXB = some m.cls := findClass_of_methodNamed B.named
  have hlocks := B.notSynchronized
  have hP : va_P (dC, dI) vwCl [(ba, .inr (0, [.ref bt, .ref bp, .ref bl, .ref bh, .ref bq, .ref br, .ref bd, .int (jI bg), .int (jI bf)])), (bp, .inl (cA, 31, .inl (jA fp))), (bq, .inl (cA, 124, .inl (jA fq)))] s.heap := hP
  have hl := lv_entry ([.ref ba, .int (jI zg), .int (jI zk)]) (n := 5) (Nat.le_of_ble_eq_true rfl)
  rw [lg_entry_eq]
  generalize (lg_sl ([.ref ba, .int (jI zg), .int (jI zk)]) ++ List.replicate (5 - (lg_sl ([.ref ba, .int (jI zg), .int (jI zk)])).length) Slot.unset).toArray = ls at hl ⊢
  have hl : lv_has ls 5 [(0, .ref ba), (1, .int (jI zg)), (2, .int (jI zk))] := hl
  refine lv_iload_n hx hb dXB_limitOf_0 rfl (lv_at hl 1 rfl) ?_
  refine lv_istore_n (lv' := [(3, .int (jI zg)), (0, .ref ba), (1, .int (jI zg)), (2, .int (jI zk))]) hx hb dXB_limitOf_1 rfl hl (by decide) rfl (fun ls hl => ?_)
  refine ji_iconst hx hb dXB_limitOf_2 ?_
  refine lv_istore (lv' := [(4, .int (jI 0)), (3, .int (jI zg)), (0, .ref ba), (1, .int (jI zg)), (2, .int (jI zk))]) hx hb dXB_limitOf_3 hl (by decide) rfl (fun ls hl => ?_)
  have loop5 : ∀ (n9 : Nat) (v : Int) (k : Int) , 30 - k < (n9 : Int) → f_XB_limitOf_L5 bg bf fp fq zg zk n9 v k = f_XB_limitOf bg bf fp fq zg zk → (0 ≤ k ∧ k ≤ 30) → (0 ≤ v ∧ v ≤ 30) → ∀ ls : Array Slot, lv_has ls 5 [(4, .int (jI k)), (3, .int (jI v)), (0, .ref ba), (1, .int (jI zg)), (2, .int (jI zk))] → W p l e R s m ([.ref ba, .int (jI zg), .int (jI zk)] : List Value).toArray below meth c s.heap [] 0 0 Q (F0 m 5 ls []) := by
    intro n9
    induction n9 with
    | zero =>
      intro v k hm hF hk hv
      exact absurd hm (by omega)
    | succ n9 ih5 =>
      intro v k hm hF hk hv ls hl
      refine lv_iload hx hb dXB_limitOf_5 (lv_at hl 0 rfl) ?_
      refine ji_bipush hx hb dXB_limitOf_7 (by decide) ?_
      refine ji_icmp_ge (tgt := 38) hx hb dXB_limitOf_9 (by decide) (by omega) (by omega) (fun c9_ => ?_) (fun c9_ => ?_)
      · refine lv_iload_n hx hb dXB_limitOf_38 rfl (lv_at hl 1 rfl) ?_
        refine ji_if_ne (tgt := 46) hx hb dXB_limitOf_39 (by decide) (by omega) (fun c39_ => ?_) (fun c39_ => ?_)
        · refine lv_aload_n hx hb dXB_limitOf_46 rfl (lv_at hl 2 rfl) ?_
          refine va_get (D := (dC, dI)) (ci := 0) (v := .ref bq) (C := RXB) (T := TXB) (N := 9) hx hb hts (fun w h => jmem (inXB w h)) hown hK hP 0 rfl rfl 4 (by decide) (hts _ (jmem tw_77)) (fun _ h9 => h9) rfl dXB_limitOf_47 ?_
          refine lv_iload_n hx hb dXB_limitOf_50 rfl (lv_at hl 1 rfl) ?_
          refine ji_iconst hx hb dXB_limitOf_51 ?_
          refine ji_imul hx hb dXB_limitOf_52 ?_
          refine lv_iload_n hx hb dXB_limitOf_53 rfl (lv_at hl 4 rfl) ?_
          refine ji_iadd hx hb dXB_limitOf_54 ?_
          refine ji_iald hx hb hK hP 2 0 rfl rfl ⟨by omega, by omega⟩ (by decide) dXB_limitOf_55 ?_
          have rb := hbq ((v * 4) + zk)
          subst hQ
          exact W.iret (v := jI (fq ((v * 4) + zk))) hx hb hr (fun t ht hW => ⟨_, rfl, congrArg jI (Eq.trans (by rw [f_XB_limitOf_L5_s]; rw [if_neg (Int.not_lt.mpr c9_), if_neg c39_]; try rfl) hF), ht⟩) (fun _ h => nomatch h) dXB_limitOf_56
        · refine ji_iconst hx hb dXB_limitOf_42 ?_
          refine lv_goto (tgt := 56) hx hb dXB_limitOf_43 (by decide) ?_
          subst hQ
          exact W.iret (v := jI (-1)) hx hb hr (fun t ht hW => ⟨_, rfl, congrArg jI (Eq.trans (by rw [f_XB_limitOf_L5_s]; rw [if_neg (Int.not_lt.mpr c9_), if_pos c39_]; try rfl) hF), ht⟩) (fun _ h => nomatch h) dXB_limitOf_56
      · refine lv_iload_n hx hb dXB_limitOf_12 rfl (lv_at hl 1 rfl) ?_
        refine ji_if_le (tgt := 38) hx hb dXB_limitOf_13 (by decide) (by omega) (fun c13_ => ?_) (fun c13_ => ?_)
        · refine lv_iload_n hx hb dXB_limitOf_38 rfl (lv_at hl 1 rfl) ?_
          refine ji_if_ne (tgt := 46) hx hb dXB_limitOf_39 (by decide) (by omega) (fun c39_1 => ?_) (fun c39_1 => ?_)
          · refine lv_aload_n hx hb dXB_limitOf_46 rfl (lv_at hl 2 rfl) ?_
            refine va_get (D := (dC, dI)) (ci := 0) (v := .ref bq) (C := RXB) (T := TXB) (N := 9) hx hb hts (fun w h => jmem (inXB w h)) hown hK hP 0 rfl rfl 4 (by decide) (hts _ (jmem tw_77)) (fun _ h9 => h9) rfl dXB_limitOf_47 ?_
            refine lv_iload_n hx hb dXB_limitOf_50 rfl (lv_at hl 1 rfl) ?_
            refine ji_iconst hx hb dXB_limitOf_51 ?_
            refine ji_imul hx hb dXB_limitOf_52 ?_
            refine lv_iload_n hx hb dXB_limitOf_53 rfl (lv_at hl 4 rfl) ?_
            refine ji_iadd hx hb dXB_limitOf_54 ?_
            refine ji_iald hx hb hK hP 2 0 rfl rfl ⟨by omega, by omega⟩ (by decide) dXB_limitOf_55 ?_
            have rb2 := hbq ((v * 4) + zk)
            subst hQ
            exact W.iret (v := jI (fq ((v * 4) + zk))) hx hb hr (fun t ht hW => ⟨_, rfl, congrArg jI (Eq.trans (by rw [f_XB_limitOf_L5_s]; rw [if_pos c9_, if_neg (Int.not_lt.mpr c13_), if_neg c39_1]; try rfl) hF), ht⟩) (fun _ h => nomatch h) dXB_limitOf_56
          · refine ji_iconst hx hb dXB_limitOf_42 ?_
            refine lv_goto (tgt := 56) hx hb dXB_limitOf_43 (by decide) ?_
            subst hQ
            exact W.iret (v := jI (-1)) hx hb hr (fun t ht hW => ⟨_, rfl, congrArg jI (Eq.trans (by rw [f_XB_limitOf_L5_s]; rw [if_pos c9_, if_neg (Int.not_lt.mpr c13_), if_pos c39_1]; try rfl) hF), ht⟩) (fun _ h => nomatch h) dXB_limitOf_56
        · refine lv_aload_n hx hb dXB_limitOf_16 rfl (lv_at hl 2 rfl) ?_
          refine lv_iload_n hx hb dXB_limitOf_17 rfl (lv_at hl 1 rfl) ?_
          refine lv_iload_n hx hb dXB_limitOf_18 rfl (lv_at hl 4 rfl) ?_
          refine jrVi (rest := []) ⟨hx, hb, hml, hown, hts⟩ (c_XB_tellsLimit l dC dI cA ba bt bp bl bh bq br bd bg bf fq v zk (by first | assumption | omega) (by first | assumption | omega) (by first | assumption | omega)) (cwV 2 hts (jG_V tw_454 tw_261 tw_262 tw_5 tw_263) rfl rfl rfl (by decide +kernel) (by rw [hR]; exact ⟨Nat.le_of_ble_eq_true rfl, Nat.le_of_ble_eq_true rfl⟩)) hK hP hN [0, 2] rfl 0 0 rfl rfl rfl rfl hl.1 rfl (Nat.le_of_ble_eq_true rfl) dXB_limitOf_19 (by rw [hR]; exact ⟨Nat.le_of_ble_eq_true rfl, Nat.le_of_ble_eq_true rfl⟩) ?_
          have f := f_XB_tellsLimit_b bg bf fq v zk (by first | assumption | omega) (by first | assumption | omega) (by first | assumption | omega)
          have f3 := f_XB_tellsLimit_c bg bf fq v zk (by first | assumption | omega) (by first | assumption | omega) (by first | assumption | omega)
          refine ji_if_ne (tgt := 38) hx hb dXB_limitOf_22 (by decide) (by omega) (fun c22_ => ?_) (fun c22_ => ?_)
          · refine lv_iload_n hx hb dXB_limitOf_38 rfl (lv_at hl 1 rfl) ?_
            refine ji_if_ne (tgt := 46) hx hb dXB_limitOf_39 (by decide) (by omega) (fun c39_4 => ?_) (fun c39_4 => ?_)
            · refine lv_aload_n hx hb dXB_limitOf_46 rfl (lv_at hl 2 rfl) ?_
              refine va_get (D := (dC, dI)) (ci := 0) (v := .ref bq) (C := RXB) (T := TXB) (N := 9) hx hb hts (fun w h => jmem (inXB w h)) hown hK hP 0 rfl rfl 4 (by decide) (hts _ (jmem tw_77)) (fun _ h9 => h9) rfl dXB_limitOf_47 ?_
              refine lv_iload_n hx hb dXB_limitOf_50 rfl (lv_at hl 1 rfl) ?_
              refine ji_iconst hx hb dXB_limitOf_51 ?_
              refine ji_imul hx hb dXB_limitOf_52 ?_
              refine lv_iload_n hx hb dXB_limitOf_53 rfl (lv_at hl 4 rfl) ?_
              refine ji_iadd hx hb dXB_limitOf_54 ?_
              refine ji_iald hx hb hK hP 2 0 rfl rfl ⟨by omega, by omega⟩ (by decide) dXB_limitOf_55 ?_
              have rb5 := hbq ((v * 4) + zk)
              subst hQ
              exact W.iret (v := jI (fq ((v * 4) + zk))) hx hb hr (fun t ht hW => ⟨_, rfl, congrArg jI (Eq.trans (by rw [f_XB_limitOf_L5_s]; rw [if_pos c9_, if_pos c13_, if_neg c22_, if_neg c39_4]; try rfl) hF), ht⟩) (fun _ h => nomatch h) dXB_limitOf_56
            · refine ji_iconst hx hb dXB_limitOf_42 ?_
              refine lv_goto (tgt := 56) hx hb dXB_limitOf_43 (by decide) ?_
              subst hQ
              exact W.iret (v := jI (-1)) hx hb hr (fun t ht hW => ⟨_, rfl, congrArg jI (Eq.trans (by rw [f_XB_limitOf_L5_s]; rw [if_pos c9_, if_pos c13_, if_neg c22_, if_pos c39_4]; try rfl) hF), ht⟩) (fun _ h => nomatch h) dXB_limitOf_56
          · refine lv_aload_n hx hb dXB_limitOf_25 rfl (lv_at hl 2 rfl) ?_
            refine va_get (D := (dC, dI)) (ci := 0) (v := .ref bp) (C := RXB) (T := TXB) (N := 9) hx hb hts (fun w h => jmem (inXB w h)) hown hK hP 0 rfl rfl 1 (by decide) (hts _ (jmem tw_74)) (fun _ h9 => h9) rfl dXB_limitOf_26 ?_
            refine lv_iload_n hx hb dXB_limitOf_29 rfl (lv_at hl 1 rfl) ?_
            refine ji_iald hx hb hK hP 1 0 rfl rfl ⟨by omega, by omega⟩ (by decide) dXB_limitOf_30 ?_
            have rb6 := hbp v
            refine lv_istore_n (lv' := [(3, .int (jI (fp v))), (4, .int (jI k)), (0, .ref ba), (1, .int (jI zg)), (2, .int (jI zk))]) hx hb dXB_limitOf_31 rfl hl (by decide) rfl (fun ls hl => ?_)
            refine ji_iinc (k := 1) (lv' := [(4, .int (jI (k + 1))), (3, .int (jI (fp v))), (0, .ref ba), (1, .int (jI zg)), (2, .int (jI zk))]) hx hb dXB_limitOf_32 hl rfl (by decide) rfl (fun ls hl => ?_)
            refine lv_goto (tgt := 5) hx hb dXB_limitOf_35 (by decide) ?_
            exact ih5 (fp v) (k + 1) (by omega) (Eq.trans (by rw [f_XB_limitOf_L5_s]; rw [if_pos c9_, if_pos c13_, if_pos c22_]; try rfl) hF) (by first | assumption | omega) (by first | assumption | omega) ls (lv_sub hl [0, 1, 2, 3, 4] rfl)
  exact loop5 (Int.toNat (30 - 0) + 1) zg 0 (by omega) (Eq.trans (by rw [f_XB_limitOf_s]; try rfl) rfl) (by first | assumption | omega) (by first | assumption | omega) ls (lv_sub hl [0, 1, 2, 3, 4] rfl)
noncomputable def g_XB_routesOf_L4 (bg : Int) (bf : Int) (fp : Int → Int) (fr : Int → Int) (zg : Int) : Nat → Int → Int → Int
  | 0, _, _ => 0
  | n9 + 1, v, k =>
    if k < 30 then
      if 0 < v then
        if (fr v) = 0 then
          g_XB_routesOf_L4 bg bf fp fr zg n9 (fp v) (k + 1)
        else
          if v = 0 then
            0
          else
            fr v
      else
        if v = 0 then
          0
        else
          fr v
    else
      if v = 0 then
        0
      else
        fr v
noncomputable def f_XB_routesOf_L4 : Int → Int → (Int → Int) → (Int → Int) → Int → Nat → Int → Int → Int := jopq g_XB_routesOf_L4
theorem f_XB_routesOf_L4_q : f_XB_routesOf_L4 = g_XB_routesOf_L4 := jopq_eq _
theorem f_XB_routesOf_L4_s (bg : Int) (bf : Int) (fp : Int → Int) (fr : Int → Int) (zg : Int) (n9 : Nat) (v : Int) (k : Int) : f_XB_routesOf_L4 bg bf fp fr zg (n9 + 1) v k = (
    if k < 30 then
      if 0 < v then
        if (fr v) = 0 then
          f_XB_routesOf_L4 bg bf fp fr zg n9 (fp v) (k + 1)
        else
          if v = 0 then
            0
          else
            fr v
      else
        if v = 0 then
          0
        else
          fr v
    else
      if v = 0 then
        0
      else
        fr v
  : Int) := by rw [f_XB_routesOf_L4_q]; rfl
theorem f_XB_routesOf_L4_z (bg : Int) (bf : Int) (fp : Int → Int) (fr : Int → Int) (zg : Int) (v : Int) (k : Int) : f_XB_routesOf_L4 bg bf fp fr zg 0 v k = 0 := by rw [f_XB_routesOf_L4_q]; rfl
noncomputable def g_XB_routesOf (bg : Int) (bf : Int) (fp : Int → Int) (fr : Int → Int) (zg : Int) : Int :=
  f_XB_routesOf_L4 bg bf fp fr zg (Int.toNat (30 - 0) + 1) zg 0
noncomputable def f_XB_routesOf : Int → Int → (Int → Int) → (Int → Int) → Int → Int := jopq g_XB_routesOf
theorem f_XB_routesOf_q : f_XB_routesOf = g_XB_routesOf := jopq_eq _
theorem f_XB_routesOf_s (bg : Int) (bf : Int) (fp : Int → Int) (fr : Int → Int) (zg : Int) : f_XB_routesOf bg bf fp fr zg = (
    f_XB_routesOf_L4 bg bf fp fr zg (Int.toNat (30 - 0) + 1) zg 0
  : Int) := by rw [f_XB_routesOf_q]; rfl
theorem f_XB_routesOf_L (bg bf : Int) (fp fr : Int → Int) (zg : Int) (hbr : ∀ i, 0 ≤ fr i ∧ fr i < 2147483648) : ∀ (n : Nat) (v k : Int), 0 ≤ f_XB_routesOf_L4 bg bf fp fr zg n v k ∧ f_XB_routesOf_L4 bg bf fp fr zg n v k < 2147483648 := by
  intro n
  induction n with
  | zero => intro v k; simp only [f_XB_routesOf_L4_z] <;> omega
  | succ n ih =>
    intro v k
    have h1 := hbr v
    rw [f_XB_routesOf_L4_s]
    (repeat' split) <;> first | omega | exact ih _ _
theorem f_XB_routesOf_b (bg : Int) (bf : Int) (fp : Int → Int) (fr : Int → Int) (zg : Int) (hbp : ∀ i, 0 ≤ fp i ∧ fp i ≤ 30) (hbr : ∀ i, 0 ≤ fr i ∧ fr i < 2147483648) (hzg : 0 ≤ zg ∧ zg ≤ 30) : 0 ≤ (f_XB_routesOf bg bf fp fr zg) ∧ (f_XB_routesOf bg bf fp fr zg) < 2147483648 := by rw [f_XB_routesOf_s]; exact f_XB_routesOf_L _ _ _ _ _ hbr _ _ _
set_option maxHeartbeats 4000000 in
set_option maxRecDepth 100000 in
theorem c_XB_routesOf (l : Launch) (dC : Nat → ClassId) (dI : Nat → Nat → Nat) (cA : ClassId) (ba : Nat) (bt : Nat) (bp : Nat) (bl : Nat) (bh : Nat) (bq : Nat) (br : Nat) (bd : Nat) (bg : Int) (bf : Int) (fp : Int → Int) (fr : Int → Int) (zg : Int) (hbp : ∀ i, 0 ≤ fp i ∧ fp i ≤ 30) (hbr : ∀ i, 0 ≤ fr i ∧ fr i < 2147483648) (hzg : 0 ≤ zg ∧ zg ≤ 30) : Met l yXB_routesOf (Cond.code yXB_routesOf cXB_routesOf 4 (some .int) :: TBL) ({ frames := 0, cells := 0, slots := 0, locals := 0 } : Room) (va_Pc [.ref ba, .int (jI zg)] (jB (dC, dI) [(cA, .int)] [(ba, .inr (0, [.ref bt, .ref bp, .ref bl, .ref bh, .ref bq, .ref br, .ref bd, .int (jI bg), .int (jI bf)])), (bp, .inl (cA, 31, .inl (jA fp))), (br, .inl (cA, 31, .inl (jA fr)))])) (vp_Si (fun r => r = jI (f_XB_routesOf bg bf fp fr zg))) 0 0 (fun _ => False) := by
  refine jMet (cc := cXB_routesOf) (maxL := 4) (ret := some .int) (by decide) rfl ?_
  intro p e s m args below meth c s₁ R Q hR hQ B hml hv
  obtain ⟨rfl, hP, hK, hN⟩ := hv
  have hx := B.exec
  have hb := B.bytes
  have hr := B.returns
  have hts := atoms_spec (ws := Cond.code yXB_routesOf cXB_routesOf 4 (some .int) :: TBL) B.pre
  have hown : s.vm.findClass RXB = some m.cls := findClass_of_methodNamed B.named
  have hlocks := B.notSynchronized
  have hP : va_P (dC, dI) vwCl [(ba, .inr (0, [.ref bt, .ref bp, .ref bl, .ref bh, .ref bq, .ref br, .ref bd, .int (jI bg), .int (jI bf)])), (bp, .inl (cA, 31, .inl (jA fp))), (br, .inl (cA, 31, .inl (jA fr)))] s.heap := hP
  have hl := lv_entry ([.ref ba, .int (jI zg)]) (n := 4) (Nat.le_of_ble_eq_true rfl)
  rw [lg_entry_eq]
  generalize (lg_sl ([.ref ba, .int (jI zg)]) ++ List.replicate (4 - (lg_sl ([.ref ba, .int (jI zg)])).length) Slot.unset).toArray = ls at hl ⊢
  have hl : lv_has ls 4 [(0, .ref ba), (1, .int (jI zg))] := hl
  refine lv_iload_n hx hb dXB_routesOf_0 rfl (lv_at hl 1 rfl) ?_
  refine lv_istore_n (lv' := [(2, .int (jI zg)), (0, .ref ba), (1, .int (jI zg))]) hx hb dXB_routesOf_1 rfl hl (by decide) rfl (fun ls hl => ?_)
  refine ji_iconst hx hb dXB_routesOf_2 ?_
  refine lv_istore_n (lv' := [(3, .int (jI 0)), (2, .int (jI zg)), (0, .ref ba), (1, .int (jI zg))]) hx hb dXB_routesOf_3 rfl hl (by decide) rfl (fun ls hl => ?_)
  have loop4 : ∀ (n9 : Nat) (v : Int) (k : Int) , 30 - k < (n9 : Int) → f_XB_routesOf_L4 bg bf fp fr zg n9 v k = f_XB_routesOf bg bf fp fr zg → (0 ≤ k ∧ k ≤ 30) → (0 ≤ v ∧ v ≤ 30) → ∀ ls : Array Slot, lv_has ls 4 [(3, .int (jI k)), (2, .int (jI v)), (0, .ref ba), (1, .int (jI zg))] → W p l e R s m ([.ref ba, .int (jI zg)] : List Value).toArray below meth c s.heap [] 0 0 Q (F0 m 4 ls []) := by
    intro n9
    induction n9 with
    | zero =>
      intro v k hm hF hk hv
      exact absurd hm (by omega)
    | succ n9 ih4 =>
      intro v k hm hF hk hv ls hl
      refine lv_iload_n hx hb dXB_routesOf_4 rfl (lv_at hl 0 rfl) ?_
      refine ji_bipush hx hb dXB_routesOf_5 (by decide) ?_
      refine ji_icmp_ge (tgt := 36) hx hb dXB_routesOf_7 (by decide) (by omega) (by omega) (fun c7_ => ?_) (fun c7_ => ?_)
      · refine lv_iload_n hx hb dXB_routesOf_36 rfl (lv_at hl 1 rfl) ?_
        refine ji_if_ne (tgt := 44) hx hb dXB_routesOf_37 (by decide) (by omega) (fun c37_ => ?_) (fun c37_ => ?_)
        · refine lv_aload_n hx hb dXB_routesOf_44 rfl (lv_at hl 2 rfl) ?_
          refine va_get (D := (dC, dI)) (ci := 0) (v := .ref br) (C := RXB) (T := TXB) (N := 9) hx hb hts (fun w h => jmem (inXB w h)) hown hK hP 0 rfl rfl 5 (by decide) (hts _ (jmem tw_78)) (fun _ h9 => h9) rfl dXB_routesOf_45 ?_
          refine lv_iload_n hx hb dXB_routesOf_48 rfl (lv_at hl 1 rfl) ?_
          refine ji_iald hx hb hK hP 2 0 rfl rfl ⟨by omega, by omega⟩ (by decide) dXB_routesOf_49 ?_
          have rb := hbr v
          subst hQ
          exact W.iret (v := jI (fr v)) hx hb hr (fun t ht hW => ⟨_, rfl, congrArg jI (Eq.trans (by rw [f_XB_routesOf_L4_s]; rw [if_neg (Int.not_lt.mpr c7_), if_neg c37_]; try rfl) hF), ht⟩) (fun _ h => nomatch h) dXB_routesOf_50
        · refine ji_iconst hx hb dXB_routesOf_40 ?_
          refine lv_goto (tgt := 50) hx hb dXB_routesOf_41 (by decide) ?_
          subst hQ
          exact W.iret (v := jI 0) hx hb hr (fun t ht hW => ⟨_, rfl, congrArg jI (Eq.trans (by rw [f_XB_routesOf_L4_s]; rw [if_neg (Int.not_lt.mpr c7_), if_pos c37_]; try rfl) hF), ht⟩) (fun _ h => nomatch h) dXB_routesOf_50
      · refine lv_iload_n hx hb dXB_routesOf_10 rfl (lv_at hl 1 rfl) ?_
        refine ji_if_le (tgt := 36) hx hb dXB_routesOf_11 (by decide) (by omega) (fun c11_ => ?_) (fun c11_ => ?_)
        · refine lv_iload_n hx hb dXB_routesOf_36 rfl (lv_at hl 1 rfl) ?_
          refine ji_if_ne (tgt := 44) hx hb dXB_routesOf_37 (by decide) (by omega) (fun c37_1 => ?_) (fun c37_1 => ?_)
          · refine lv_aload_n hx hb dXB_routesOf_44 rfl (lv_at hl 2 rfl) ?_
            refine va_get (D := (dC, dI)) (ci := 0) (v := .ref br) (C := RXB) (T := TXB) (N := 9) hx hb hts (fun w h => jmem (inXB w h)) hown hK hP 0 rfl rfl 5 (by decide) (hts _ (jmem tw_78)) (fun _ h9 => h9) rfl dXB_routesOf_45 ?_
            refine lv_iload_n hx hb dXB_routesOf_48 rfl (lv_at hl 1 rfl) ?_
            refine ji_iald hx hb hK hP 2 0 rfl rfl ⟨by omega, by omega⟩ (by decide) dXB_routesOf_49 ?_
            have rb2 := hbr v
            subst hQ
            exact W.iret (v := jI (fr v)) hx hb hr (fun t ht hW => ⟨_, rfl, congrArg jI (Eq.trans (by rw [f_XB_routesOf_L4_s]; rw [if_pos c7_, if_neg (Int.not_lt.mpr c11_), if_neg c37_1]; try rfl) hF), ht⟩) (fun _ h => nomatch h) dXB_routesOf_50
          · refine ji_iconst hx hb dXB_routesOf_40 ?_
            refine lv_goto (tgt := 50) hx hb dXB_routesOf_41 (by decide) ?_
            subst hQ
            exact W.iret (v := jI 0) hx hb hr (fun t ht hW => ⟨_, rfl, congrArg jI (Eq.trans (by rw [f_XB_routesOf_L4_s]; rw [if_pos c7_, if_neg (Int.not_lt.mpr c11_), if_pos c37_1]; try rfl) hF), ht⟩) (fun _ h => nomatch h) dXB_routesOf_50
        · refine lv_aload_n hx hb dXB_routesOf_14 rfl (lv_at hl 2 rfl) ?_
          refine va_get (D := (dC, dI)) (ci := 0) (v := .ref br) (C := RXB) (T := TXB) (N := 9) hx hb hts (fun w h => jmem (inXB w h)) hown hK hP 0 rfl rfl 5 (by decide) (hts _ (jmem tw_78)) (fun _ h9 => h9) rfl dXB_routesOf_15 ?_
          refine lv_iload_n hx hb dXB_routesOf_18 rfl (lv_at hl 1 rfl) ?_
          refine ji_iald hx hb hK hP 2 0 rfl rfl ⟨by omega, by omega⟩ (by decide) dXB_routesOf_19 ?_
          have rb3 := hbr v
          refine ji_if_ne (tgt := 36) hx hb dXB_routesOf_20 (by decide) (by omega) (fun c20_ => ?_) (fun c20_ => ?_)
          · refine lv_iload_n hx hb dXB_routesOf_36 rfl (lv_at hl 1 rfl) ?_
            refine ji_if_ne (tgt := 44) hx hb dXB_routesOf_37 (by decide) (by omega) (fun c37_4 => ?_) (fun c37_4 => ?_)
            · refine lv_aload_n hx hb dXB_routesOf_44 rfl (lv_at hl 2 rfl) ?_
              refine va_get (D := (dC, dI)) (ci := 0) (v := .ref br) (C := RXB) (T := TXB) (N := 9) hx hb hts (fun w h => jmem (inXB w h)) hown hK hP 0 rfl rfl 5 (by decide) (hts _ (jmem tw_78)) (fun _ h9 => h9) rfl dXB_routesOf_45 ?_
              refine lv_iload_n hx hb dXB_routesOf_48 rfl (lv_at hl 1 rfl) ?_
              refine ji_iald hx hb hK hP 2 0 rfl rfl ⟨by omega, by omega⟩ (by decide) dXB_routesOf_49 ?_
              have rb5 := hbr v
              subst hQ
              exact W.iret (v := jI (fr v)) hx hb hr (fun t ht hW => ⟨_, rfl, congrArg jI (Eq.trans (by rw [f_XB_routesOf_L4_s]; rw [if_pos c7_, if_pos c11_, if_neg c20_, if_neg c37_4]; try rfl) hF), ht⟩) (fun _ h => nomatch h) dXB_routesOf_50
            · refine ji_iconst hx hb dXB_routesOf_40 ?_
              refine lv_goto (tgt := 50) hx hb dXB_routesOf_41 (by decide) ?_
              subst hQ
              exact W.iret (v := jI 0) hx hb hr (fun t ht hW => ⟨_, rfl, congrArg jI (Eq.trans (by rw [f_XB_routesOf_L4_s]; rw [if_pos c7_, if_pos c11_, if_neg c20_, if_pos c37_4]; try rfl) hF), ht⟩) (fun _ h => nomatch h) dXB_routesOf_50
          · refine lv_aload_n hx hb dXB_routesOf_23 rfl (lv_at hl 2 rfl) ?_
            refine va_get (D := (dC, dI)) (ci := 0) (v := .ref bp) (C := RXB) (T := TXB) (N := 9) hx hb hts (fun w h => jmem (inXB w h)) hown hK hP 0 rfl rfl 1 (by decide) (hts _ (jmem tw_74)) (fun _ h9 => h9) rfl dXB_routesOf_24 ?_
            refine lv_iload_n hx hb dXB_routesOf_27 rfl (lv_at hl 1 rfl) ?_
            refine ji_iald hx hb hK hP 1 0 rfl rfl ⟨by omega, by omega⟩ (by decide) dXB_routesOf_28 ?_
            have rb6 := hbp v
            refine lv_istore_n (lv' := [(2, .int (jI (fp v))), (3, .int (jI k)), (0, .ref ba), (1, .int (jI zg))]) hx hb dXB_routesOf_29 rfl hl (by decide) rfl (fun ls hl => ?_)
            refine ji_iinc (k := 1) (lv' := [(3, .int (jI (k + 1))), (2, .int (jI (fp v))), (0, .ref ba), (1, .int (jI zg))]) hx hb dXB_routesOf_30 hl rfl (by decide) rfl (fun ls hl => ?_)
            refine lv_goto (tgt := 4) hx hb dXB_routesOf_33 (by decide) ?_
            exact ih4 (fp v) (k + 1) (by omega) (Eq.trans (by rw [f_XB_routesOf_L4_s]; rw [if_pos c7_, if_pos c11_, if_pos c20_]; try rfl) hF) (by first | assumption | omega) (by first | assumption | omega) ls (lv_sub hl [0, 1, 2, 3] rfl)
  exact loop4 (Int.toNat (30 - 0) + 1) zg 0 (by omega) (Eq.trans (by rw [f_XB_routesOf_s]; try rfl) rfl) (by first | assumption | omega) (by first | assumption | omega) ls (lv_sub hl [0, 1, 2, 3] rfl)

end
section
theorem jmul_b {a b A B : Int} (h0 : 0 ≤ a) (h1 : a ≤ A) (h2 : 0 ≤ b) (h3 : b ≤ B) : 0 ≤ a * b ∧ a * b ≤ A * B := ⟨Int.mul_nonneg h0 h2, Int.mul_le_mul h1 h3 h2 (Int.le_trans h0 h1)⟩
theorem jtdiv_b {d : Int} (h : 0 < d) : 0 ≤ (232792560 : Int).tdiv d ∧ (232792560 : Int).tdiv d ≤ 232792560 := by
  rw [Int.tdiv_eq_ediv_of_nonneg (by decide)]
  exact ⟨Int.ediv_nonneg (by decide) (by omega), Int.ediv_le_self _ (by decide)⟩
theorem jterm_b {a d : Int} (h0 : -1 ≤ a) (h1 : a ≤ 100000) (h : 0 < d) : -232792560 ≤ a * (232792560 : Int).tdiv d ∧ a * (232792560 : Int).tdiv d ≤ 23279256000000 := by
  have hd := jtdiv_b h
  by_cases ha : 0 ≤ a
  · have := jmul_b ha h1 hd.1 hd.2
    omega
  · have e : a = -1 := by omega
    subst e
    omega
noncomputable def g_XB_scaledSum_L5 (bg : Int) (bf : Int) (fd : Int → Int) (zk : Int) (fw : Int → Int) : Nat → Int → Int → Int
  | 0, _, _ => 0
  | n9 + 1, v, k =>
    if k < 8 then
      if k < 8 then
        if 0 < (f_XB_divisorOf bg bf fd zk k) then
          g_XB_scaledSum_L5 bg bf fd zk fw n9 (v + ((fw k) * (Int.tdiv 232792560 (f_XB_divisorOf bg bf fd zk k)))) (k + 1)
        else
          g_XB_scaledSum_L5 bg bf fd zk fw n9 v (k + 1)
      else
        v
    else
      v
noncomputable def f_XB_scaledSum_L5 : Int → Int → (Int → Int) → Int → (Int → Int) → Nat → Int → Int → Int := jopq g_XB_scaledSum_L5
theorem f_XB_scaledSum_L5_q : f_XB_scaledSum_L5 = g_XB_scaledSum_L5 := jopq_eq _
theorem f_XB_scaledSum_L5_s (bg : Int) (bf : Int) (fd : Int → Int) (zk : Int) (fw : Int → Int) (n9 : Nat) (v : Int) (k : Int) : f_XB_scaledSum_L5 bg bf fd zk fw (n9 + 1) v k = (
    if k < 8 then
      if k < 8 then
        if 0 < (f_XB_divisorOf bg bf fd zk k) then
          f_XB_scaledSum_L5 bg bf fd zk fw n9 (v + ((fw k) * (Int.tdiv 232792560 (f_XB_divisorOf bg bf fd zk k)))) (k + 1)
        else
          f_XB_scaledSum_L5 bg bf fd zk fw n9 v (k + 1)
      else
        v
    else
      v
  : Int) := by rw [f_XB_scaledSum_L5_q]; rfl
theorem f_XB_scaledSum_L5_z (bg : Int) (bf : Int) (fd : Int → Int) (zk : Int) (fw : Int → Int) (v : Int) (k : Int) : f_XB_scaledSum_L5 bg bf fd zk fw 0 v k = 0 := by rw [f_XB_scaledSum_L5_q]; rfl
noncomputable def g_XB_scaledSum (bg : Int) (bf : Int) (fd : Int → Int) (zk : Int) (fw : Int → Int) : Int :=
  f_XB_scaledSum_L5 bg bf fd zk fw (Int.toNat (8 - 0) + 1) 0 0
noncomputable def f_XB_scaledSum : Int → Int → (Int → Int) → Int → (Int → Int) → Int := jopq g_XB_scaledSum
theorem f_XB_scaledSum_q : f_XB_scaledSum = g_XB_scaledSum := jopq_eq _
theorem f_XB_scaledSum_s (bg : Int) (bf : Int) (fd : Int → Int) (zk : Int) (fw : Int → Int) : f_XB_scaledSum bg bf fd zk fw = (
    f_XB_scaledSum_L5 bg bf fd zk fw (Int.toNat (8 - 0) + 1) 0 0
  : Int) := by rw [f_XB_scaledSum_q]; rfl
theorem f_XB_scaledSum_L (bg bf : Int) (fd : Int → Int) (zk : Int) (fw : Int → Int) (hbd : ∀ i, 0 ≤ fd i ∧ fd i ≤ 20) (hw0 : ∀ i, -1 ≤ fw i ∧ fw i ≤ 100000) : ∀ (n : Nat) (v k : Int), 0 ≤ k → k ≤ 8 → (-232792560) * k ≤ v ∧ v ≤ 23279256000000 * k → -1862340480 ≤ f_XB_scaledSum_L5 bg bf fd zk fw n v k ∧ f_XB_scaledSum_L5 bg bf fd zk fw n v k ≤ 186234048000000 := by
  intro n
  induction n with
  | zero => intro v k _ _ _; simp only [f_XB_scaledSum_L5_z] <;> omega
  | succ n ih =>
    intro v k h0 h1 h2
    rw [f_XB_scaledSum_L5_s]
    (repeat' split) <;> first | omega | exact ih _ _ (by omega) (by omega) (by omega) | (rename_i h; have := jterm_b (hw0 k).1 (hw0 k).2 h; exact ih _ _ (by omega) (by omega) (by omega))
theorem f_XB_scaledSum_b (bg : Int) (bf : Int) (fd : Int → Int) (zk : Int) (fw : Int → Int) (hbd : ∀ i, 0 ≤ fd i ∧ fd i ≤ 20) (hzk : 0 ≤ zk ∧ zk < 4) (hw0 : ∀ i, -1 ≤ fw i ∧ fw i ≤ 100000) : -1862340480 ≤ (f_XB_scaledSum bg bf fd zk fw) ∧ (f_XB_scaledSum bg bf fd zk fw) ≤ 186234048000000 := by rw [f_XB_scaledSum_s]; exact f_XB_scaledSum_L _ _ _ _ _ hbd hw0 _ _ _ (by omega) (by omega) (by omega)
set_option maxHeartbeats 4000000 in
set_option maxRecDepth 100000 in
theorem c_XB_scaledSum (l : Launch) (dC : Nat → ClassId) (dI : Nat → Nat → Nat) (cA : ClassId) (ba : Nat) (bt : Nat) (bp : Nat) (bl : Nat) (bh : Nat) (bq : Nat) (br : Nat) (bd : Nat) (bg : Int) (bf : Int) (fd : Int → Int) (zk : Int) (ra : Nat) (fw : Int → Int) (hbd : ∀ i, 0 ≤ fd i ∧ fd i ≤ 20) (hzk : 0 ≤ zk ∧ zk < 4) (hw0 : ∀ i, -1 ≤ fw i ∧ fw i ≤ 100000) : Met l yXB_scaledSum (Cond.code yXB_scaledSum cXB_scaledSum 7 (some .long) :: TBL) ({ frames := 1, cells := 0, slots := 0, locals := 22 } : Room) (va_Pc [.ref ba, .int (jI zk), .ref ra] (jB (dC, dI) [(cA, .int)] [(ba, .inr (0, [.ref bt, .ref bp, .ref bl, .ref bh, .ref bq, .ref br, .ref bd, .int (jI bg), .int (jI bf)])), (bd, .inl (cA, 32, .inl (jA fd))), (ra, .inl (cA, 8, .inl (jA fw)))])) (vp_Sl (fun r => r = jL (f_XB_scaledSum bg bf fd zk fw))) 0 0 (fun _ => False) := by
  refine jMet (cc := cXB_scaledSum) (maxL := 7) (ret := some .long) (by decide) rfl ?_
  intro p e s m args below meth c s₁ R Q hR hQ B hml hv
  obtain ⟨rfl, hP, hK, hN⟩ := hv
  have hx := B.exec
  have hb := B.bytes
  have hr := B.returns
  have hts := atoms_spec (ws := Cond.code yXB_scaledSum cXB_scaledSum 7 (some .long) :: TBL) B.pre
  have hown : s.vm.findClass RXB = some m.cls := findClass_of_methodNamed B.named
  have hlocks := B.notSynchronized
  have hP : va_P (dC, dI) vwCl [(ba, .inr (0, [.ref bt, .ref bp, .ref bl, .ref bh, .ref bq, .ref br, .ref bd, .int (jI bg), .int (jI bf)])), (bd, .inl (cA, 32, .inl (jA fd))), (ra, .inl (cA, 8, .inl (jA fw)))] s.heap := hP
  have hl := lv_entry ([.ref ba, .int (jI zk), .ref ra]) (n := 7) (Nat.le_of_ble_eq_true rfl)
  rw [lg_entry_eq]
  generalize (lg_sl ([.ref ba, .int (jI zk), .ref ra]) ++ List.replicate (7 - (lg_sl ([.ref ba, .int (jI zk), .ref ra])).length) Slot.unset).toArray = ls at hl ⊢
  have hl : lv_has ls 7 [(0, .ref ba), (1, .int (jI zk)), (2, .ref ra)] := hl
  refine ji_lconst (z := 0) hx hb dXB_scaledSum_0 rfl ?_
  refine lv_lstore_n (lv' := [(3, .long (jL 0)), (0, .ref ba), (1, .int (jI zk)), (2, .ref ra)]) hx hb dXB_scaledSum_1 rfl hl (by decide) rfl (fun ls hl => ?_)
  refine ji_iconst hx hb dXB_scaledSum_2 ?_
  refine lv_istore (lv' := [(5, .int (jI 0)), (3, .long (jL 0)), (0, .ref ba), (1, .int (jI zk)), (2, .ref ra)]) hx hb dXB_scaledSum_3 hl (by decide) rfl (fun ls hl => ?_)
  have loop5 : ∀ (n9 : Nat) (v : Int) (k : Int) , 8 - k < (n9 : Int) → f_XB_scaledSum_L5 bg bf fd zk fw n9 v k = f_XB_scaledSum bg bf fd zk fw → (0 ≤ k ∧ k ≤ 8) → ((-232792560) * k ≤ v ∧ v ≤ 23279256000000 * k) → ∀ ls : Array Slot, lv_has ls 7 [(5, .int (jI k)), (3, .long (jL v)), (0, .ref ba), (1, .int (jI zk)), (2, .ref ra)] → W p l e R s m ([.ref ba, .int (jI zk), .ref ra] : List Value).toArray below meth c s.heap [] 0 0 Q (F0 m 5 ls []) := by
    intro n9
    induction n9 with
    | zero =>
      intro v k hm hF hk hv
      exact absurd hm (by omega)
    | succ n9 ih5 =>
      intro v k hm hF hk hv ls hl
      refine lv_iload hx hb dXB_scaledSum_5 (lv_at hl 0 rfl) ?_
      refine ji_bipush hx hb dXB_scaledSum_7 (by decide) ?_
      refine ji_icmp_ge (tgt := 55) hx hb dXB_scaledSum_9 (by decide) (by omega) (by omega) (fun c9_ => ?_) (fun c9_ => ?_)
      · refine lv_lload_n hx hb dXB_scaledSum_55 rfl (lv_at hl 1 rfl) ?_
        subst hQ
        exact W.lret (v := jL v) hx hb hr (fun t ht hW => ⟨_, rfl, congrArg jL (Eq.trans (by rw [f_XB_scaledSum_L5_s]; rw [if_neg (Int.not_lt.mpr c9_)]; try rfl) hF), ht⟩) (fun _ h => nomatch h) dXB_scaledSum_56
      · refine lv_iload hx hb dXB_scaledSum_12 (lv_at hl 0 rfl) ?_
        refine lv_aload_n hx hb dXB_scaledSum_14 rfl (lv_at hl 4 rfl) ?_
        refine ji_alen (z := 8) hx hb hK hP 2 0 rfl rfl rfl dXB_scaledSum_15 ?_
        refine ji_icmp_ge (tgt := 55) hx hb dXB_scaledSum_16 (by decide) (by omega) (by omega) (fun c16_ => ?_) (fun c16_ => ?_)
        · refine lv_lload_n hx hb dXB_scaledSum_55 rfl (lv_at hl 1 rfl) ?_
          subst hQ
          exact W.lret (v := jL v) hx hb hr (fun t ht hW => ⟨_, rfl, congrArg jL (Eq.trans (by rw [f_XB_scaledSum_L5_s]; rw [if_pos c9_, if_neg (Int.not_lt.mpr c16_)]; try rfl) hF), ht⟩) (fun _ h => nomatch h) dXB_scaledSum_56
        · refine lv_aload_n hx hb dXB_scaledSum_19 rfl (lv_at hl 2 rfl) ?_
          refine lv_iload_n hx hb dXB_scaledSum_20 rfl (lv_at hl 3 rfl) ?_
          refine lv_iload hx hb dXB_scaledSum_21 (lv_at hl 0 rfl) ?_
          refine jrVi (rest := []) ⟨hx, hb, hml, hown, hts⟩ (c_XB_divisorOf l dC dI cA ba bt bp bl bh bq br bd bg bf fd zk k (by first | assumption | omega) (by first | assumption | omega) (by first | assumption | omega)) (cwV 2 hts (jG_V tw_493 tw_191 tw_192 tw_5 tw_193) rfl rfl rfl (by decide +kernel) (by rw [hR]; exact ⟨Nat.le_of_ble_eq_true rfl, Nat.le_of_ble_eq_true rfl⟩)) hK hP hN [0, 1] rfl 0 0 rfl rfl rfl rfl hl.1 rfl (Nat.le_of_ble_eq_true rfl) dXB_scaledSum_23 (by rw [hR]; exact ⟨Nat.le_of_ble_eq_true rfl, Nat.le_of_ble_eq_true rfl⟩) ?_
          have f := f_XB_divisorOf_b bg bf fd zk k (by first | assumption | omega) (by first | assumption | omega) (by first | assumption | omega)
          refine lv_istore (lv' := [(6, .int (jI (f_XB_divisorOf bg bf fd zk k))), (5, .int (jI k)), (3, .long (jL v)), (0, .ref ba), (1, .int (jI zk)), (2, .ref ra)]) hx hb dXB_scaledSum_26 hl (by decide) rfl (fun ls hl => ?_)
          refine lv_iload hx hb dXB_scaledSum_28 (lv_at hl 0 rfl) ?_
          refine ji_if_le (tgt := 49) hx hb dXB_scaledSum_30 (by decide) (by omega) (fun c30_ => ?_) (fun c30_ => ?_)
          · refine ji_iinc (k := 1) (lv' := [(5, .int (jI (k + 1))), (6, .int (jI (f_XB_divisorOf bg bf fd zk k))), (3, .long (jL v)), (0, .ref ba), (1, .int (jI zk)), (2, .ref ra)]) hx hb dXB_scaledSum_49 hl rfl (by decide) rfl (fun ls hl => ?_)
            refine lv_goto (tgt := 5) hx hb dXB_scaledSum_52 (by decide) ?_
            exact ih5 v (k + 1) (by omega) (Eq.trans (by rw [f_XB_scaledSum_L5_s]; rw [if_pos c9_, if_pos c16_, if_neg (Int.not_lt.mpr c30_)]; try rfl) hF) (by first | assumption | omega) (by first | omega | (have := hw0 k; have := jterm_b (hw0 k).1 (hw0 k).2 (show (0 : Int) < f_XB_divisorOf bg bf fd zk k by omega); omega)) ls (lv_sub hl [0, 2, 3, 4, 5] rfl)
          · refine lv_lload_n hx hb dXB_scaledSum_33 rfl (lv_at hl 2 rfl) ?_
            refine lv_aload_n hx hb dXB_scaledSum_34 rfl (lv_at hl 5 rfl) ?_
            refine lv_iload hx hb dXB_scaledSum_35 (lv_at hl 1 rfl) ?_
            refine ji_iald hx hb hK hP 2 0 rfl rfl ⟨by omega, by omega⟩ (by decide) dXB_scaledSum_37 ?_
            have rb := hw0 k
            refine ji_i2l hx hb dXB_scaledSum_38 (by omega) ?_
            refine lv_ldc2 hx hb hown (hts _ (jmem tw_494)) dXB_scaledSum_39 ?_
            refine ji_rel (y := 232792560) (by decide) ?_
            refine lv_iload hx hb dXB_scaledSum_42 (lv_at hl 0 rfl) ?_
            refine ji_i2l hx hb dXB_scaledSum_44 (by omega) ?_
            refine ji_ldiv hx hb dXB_scaledSum_45 (by omega) (by omega) (by omega) (by omega) ?_
            refine ji_lmul hx hb dXB_scaledSum_46 ?_
            refine ji_ladd hx hb dXB_scaledSum_47 ?_
            refine lv_lstore_n (lv' := [(3, .long (jL (v + ((fw k) * (Int.tdiv 232792560 (f_XB_divisorOf bg bf fd zk k)))))), (6, .int (jI (f_XB_divisorOf bg bf fd zk k))), (5, .int (jI k)), (0, .ref ba), (1, .int (jI zk)), (2, .ref ra)]) hx hb dXB_scaledSum_48 rfl hl (by decide) rfl (fun ls hl => ?_)
            refine ji_iinc (k := 2) (lv' := [(5, .int (jI (k + 1))), (3, .long (jL (v + ((fw k) * (Int.tdiv 232792560 (f_XB_divisorOf bg bf fd zk k)))))), (6, .int (jI (f_XB_divisorOf bg bf fd zk k))), (0, .ref ba), (1, .int (jI zk)), (2, .ref ra)]) hx hb dXB_scaledSum_49 hl rfl (by decide) rfl (fun ls hl => ?_)
            refine lv_goto (tgt := 5) hx hb dXB_scaledSum_52 (by decide) ?_
            exact ih5 (v + ((fw k) * (Int.tdiv 232792560 (f_XB_divisorOf bg bf fd zk k)))) (k + 1) (by omega) (Eq.trans (by rw [f_XB_scaledSum_L5_s]; rw [if_pos c9_, if_pos c16_, if_pos c30_]; try rfl) hF) (by first | assumption | omega) (by first | omega | (have := hw0 k; have := jterm_b (hw0 k).1 (hw0 k).2 (show (0 : Int) < f_XB_divisorOf bg bf fd zk k by omega); omega)) ls (lv_sub hl [0, 1, 3, 4, 5] rfl)
  exact loop5 (Int.toNat (8 - 0) + 1) 0 0 (by omega) (Eq.trans (by rw [f_XB_scaledSum_s]; try rfl) rfl) (by first | assumption | omega) (by first | assumption | omega) ls (lv_sub hl [0, 1, 2, 3, 4] rfl)
noncomputable def g_XB_copyEnds_L3 (bg : Int) (bf : Int) (fp : Int → Int) (fl : Int → Int) (fh : Int → Int) (zg : Int) (zn : Int) (fw : Int → Int) : Nat → Int → (Int → Int) → (Int → Int)
  | 0, _, _ => fun _ => 0
  | n9 + 1, k, fa =>
    if k < 8 then
      if k < 8 then
        g_XB_copyEnds_L3 bg bf fp fl fh zg zn fw n9 (k + 1) (jset fa k (f_XB_endOf bg bf fp fl fh zg k zn))
      else
        fa
    else
      fa
noncomputable def f_XB_copyEnds_L3 : Int → Int → (Int → Int) → (Int → Int) → (Int → Int) → Int → Int → (Int → Int) → Nat → Int → (Int → Int) → (Int → Int) := jopq g_XB_copyEnds_L3
theorem f_XB_copyEnds_L3_q : f_XB_copyEnds_L3 = g_XB_copyEnds_L3 := jopq_eq _
theorem f_XB_copyEnds_L3_s (bg : Int) (bf : Int) (fp : Int → Int) (fl : Int → Int) (fh : Int → Int) (zg : Int) (zn : Int) (fw : Int → Int) (n9 : Nat) (k : Int) (fa : Int → Int) : f_XB_copyEnds_L3 bg bf fp fl fh zg zn fw (n9 + 1) k fa = (
    if k < 8 then
      if k < 8 then
        f_XB_copyEnds_L3 bg bf fp fl fh zg zn fw n9 (k + 1) (jset fa k (f_XB_endOf bg bf fp fl fh zg k zn))
      else
        fa
    else
      fa
  : (Int → Int)) := by rw [f_XB_copyEnds_L3_q]; rfl
theorem f_XB_copyEnds_L3_z (bg : Int) (bf : Int) (fp : Int → Int) (fl : Int → Int) (fh : Int → Int) (zg : Int) (zn : Int) (fw : Int → Int) (k : Int) (fa : Int → Int) : f_XB_copyEnds_L3 bg bf fp fl fh zg zn fw 0 k fa = fun _ => 0 := by rw [f_XB_copyEnds_L3_q]; rfl
noncomputable def g_XB_copyEnds (bg : Int) (bf : Int) (fp : Int → Int) (fl : Int → Int) (fh : Int → Int) (zg : Int) (zn : Int) (fw : Int → Int) : (Int → Int) :=
  f_XB_copyEnds_L3 bg bf fp fl fh zg zn fw (Int.toNat (8 - 0) + 1) 0 fw
noncomputable def f_XB_copyEnds : Int → Int → (Int → Int) → (Int → Int) → (Int → Int) → Int → Int → (Int → Int) → (Int → Int) := jopq g_XB_copyEnds
theorem f_XB_copyEnds_q : f_XB_copyEnds = g_XB_copyEnds := jopq_eq _
theorem f_XB_copyEnds_s (bg : Int) (bf : Int) (fp : Int → Int) (fl : Int → Int) (fh : Int → Int) (zg : Int) (zn : Int) (fw : Int → Int) : f_XB_copyEnds bg bf fp fl fh zg zn fw = (
    f_XB_copyEnds_L3 bg bf fp fl fh zg zn fw (Int.toNat (8 - 0) + 1) 0 fw
  : (Int → Int)) := by rw [f_XB_copyEnds_q]; rfl
theorem f_XB_copyEnds_L (bg bf : Int) (fp fl fh : Int → Int) (zg zn : Int) (fw : Int → Int) (hbp : ∀ i, 0 ≤ fp i ∧ fp i ≤ 30) (hbl : ∀ i, 0 ≤ fl i ∧ fl i ≤ 100000) (hbh : ∀ i, -1 ≤ fh i ∧ fh i ≤ 100000) (hzg : 0 ≤ zg ∧ zg ≤ 30) (hzn : 0 ≤ zn ∧ zn < 2) : ∀ (n : Nat) (k : Int) (fa : Int → Int), 0 ≤ k → (∀ i, -1 ≤ fa i ∧ fa i ≤ 100000) → ∀ i, -1 ≤ f_XB_copyEnds_L3 bg bf fp fl fh zg zn fw n k fa i ∧ f_XB_copyEnds_L3 bg bf fp fl fh zg zn fw n k fa i ≤ 100000 := by
  intro n
  induction n with
  | zero => intro k fa _ _ i; simp only [f_XB_copyEnds_L3_z] <;> omega
  | succ n ih =>
    intro k fa h0 h
    rw [f_XB_copyEnds_L3_s]
    split
    · refine ih _ _ (by omega) (fun i => ?_)
      unfold jset
      split
      · exact f_XB_endOf_b bg bf fp fl fh zg k zn hbp hbl hbh hzg (by omega) hzn
      · exact h i
    · exact h
theorem f_XB_copyEnds_b (bg : Int) (bf : Int) (fp : Int → Int) (fl : Int → Int) (fh : Int → Int) (zg : Int) (zn : Int) (fw : Int → Int) (hbp : ∀ i, 0 ≤ fp i ∧ fp i ≤ 30) (hbl : ∀ i, 0 ≤ fl i ∧ fl i ≤ 100000) (hbh : ∀ i, -1 ≤ fh i ∧ fh i ≤ 100000) (hzg : 0 ≤ zg ∧ zg ≤ 30) (hzn : 0 ≤ zn ∧ zn < 2) (hw0 : ∀ i, -1 ≤ fw i ∧ fw i ≤ 100000) : ∀ i, -1 ≤ (f_XB_copyEnds bg bf fp fl fh zg zn fw) i ∧ (f_XB_copyEnds bg bf fp fl fh zg zn fw) i ≤ 100000 := by rw [f_XB_copyEnds_s]; exact f_XB_copyEnds_L _ _ _ _ _ _ _ _ hbp hbl hbh hzg hzn _ _ _ (by omega) hw0
set_option maxHeartbeats 4000000 in
set_option maxRecDepth 100000 in
theorem c_XB_copyEnds (l : Launch) (dC : Nat → ClassId) (dI : Nat → Nat → Nat) (cA : ClassId) (sz : Nat) (ba : Nat) (bt : Nat) (bp : Nat) (bl : Nat) (bh : Nat) (bq : Nat) (br : Nat) (bd : Nat) (bg : Int) (bf : Int) (fp : Int → Int) (fl : Int → Int) (fh : Int → Int) (zg : Int) (zn : Int) (ra : Nat) (fw : Int → Int) (hbp : ∀ i, 0 ≤ fp i ∧ fp i ≤ 30) (hbl : ∀ i, 0 ≤ fl i ∧ fl i ≤ 100000) (hbh : ∀ i, -1 ≤ fh i ∧ fh i ≤ 100000) (hzg : 0 ≤ zg ∧ zg ≤ 30) (hzn : 0 ≤ zn ∧ zn < 2) (hw0 : ∀ i, -1 ≤ fw i ∧ fw i ≤ 100000) : Met l yXB_copyEnds (Cond.code yXB_copyEnds cXB_copyEnds 5 none :: TBL) ({ frames := 2, cells := 0, slots := 0, locals := 47 } : Room) (va_Pc [.ref ba, .int (jI zg), .int (jI zn), .ref ra] (jBw (dC, dI) [(cA, .int)] [(ba, .inr (0, [.ref bt, .ref bp, .ref bl, .ref bh, .ref bq, .ref br, .ref bd, .int (jI bg), .int (jI bf)])), (bp, .inl (cA, 31, .inl (jA fp))), (bl, .inl (cA, 248, .inl (jA fl))), (bh, .inl (cA, 248, .inl (jA fh))), (ra, .inl (cA, 8, .inl (jA fw)))] sz)) (va_Qv (fun (u : (Int → Int)) => u = f_XB_copyEnds bg bf fp fl fh zg zn fw) (fun u t => jE (dC, dI) [(cA, .int)] [(ba, .inr (0, [.ref bt, .ref bp, .ref bl, .ref bh, .ref bq, .ref br, .ref bd, .int (jI bg), .int (jI bf)])), (bp, .inl (cA, 31, .inl (jA fp))), (bl, .inl (cA, 248, .inl (jA fl))), (bh, .inl (cA, 248, .inl (jA fh))), (ra, .inl (cA, 8, .inl (jA fw)))] sz [(ba, .inr (0, [.ref bt, .ref bp, .ref bl, .ref bh, .ref bq, .ref br, .ref bd, .int (jI bg), .int (jI bf)])), (bp, .inl (cA, 31, .inl (jA fp))), (bl, .inl (cA, 248, .inl (jA fl))), (bh, .inl (cA, 248, .inl (jA fh))), (ra, .inl (cA, 8, .inl (jA u)))] t) (va_A [(ba, .inr (0, [.ref bt, .ref bp, .ref bl, .ref bh, .ref bq, .ref br, .ref bd, .int (jI bg), .int (jI bf)])), (bp, .inl (cA, 31, .inl (jA fp))), (bl, .inl (cA, 248, .inl (jA fl))), (bh, .inl (cA, 248, .inl (jA fh))), (ra, .inl (cA, 8, .inl (jA fw)))] sz)) 0 0 (va_A [(ba, .inr (0, [.ref bt, .ref bp, .ref bl, .ref bh, .ref bq, .ref br, .ref bd, .int (jI bg), .int (jI bf)])), (bp, .inl (cA, 31, .inl (jA fp))), (bl, .inl (cA, 248, .inl (jA fl))), (bh, .inl (cA, 248, .inl (jA fh))), (ra, .inl (cA, 8, .inl (jA fw)))] sz) := by
  refine jMet (cc := cXB_copyEnds) (maxL := 5) (ret := none) (by decide) rfl ?_
  intro p e s m args below meth c s₁ R Q hR hQ B hml hv
  obtain ⟨rfl, hsz, hP, hK, hD0, hN⟩ := hv
  have hx := B.exec
  have hb := B.bytes
  have hr := B.returns
  have hts := atoms_spec (ws := Cond.code yXB_copyEnds cXB_copyEnds 5 none :: TBL) B.pre
  have hown : s.vm.findClass RXB = some m.cls := findClass_of_methodNamed B.named
  have hlocks := B.notSynchronized
  subst hsz
  obtain ⟨A, hAe⟩ : ∃ A, A = va_A [(ba, .inr (0, [.ref bt, .ref bp, .ref bl, .ref bh, .ref bq, .ref br, .ref bd, .int (jI bg), .int (jI bf)])), (bp, .inl (cA, 31, .inl (jA fp))), (bl, .inl (cA, 248, .inl (jA fl))), (bh, .inl (cA, 248, .inl (jA fh))), (ra, .inl (cA, 8, .inl (jA fw)))] s.heap.size := ⟨_, rfl⟩
  have hD : va_D A [(ba, .inr (0, [.ref bt, .ref bp, .ref bl, .ref bh, .ref bq, .ref br, .ref bd, .int (jI bg), .int (jI bf)])), (bp, .inl (cA, 31, .inl (jA fp))), (bl, .inl (cA, 248, .inl (jA fl))), (bh, .inl (cA, 248, .inl (jA fh))), (ra, .inl (cA, 8, .inl (jA fw)))] := by rw [hAe]; exact hD0.self
  have hA : ∀ q : Nat, s.heap.size ≤ q → A q := fun q h => by rw [hAe]; exact Or.inr h
  have hS : va_S A s.heap s.heap [] := va_S.rf
  have hP : va_P (dC, dI) vwCl [(ba, .inr (0, [.ref bt, .ref bp, .ref bl, .ref bh, .ref bq, .ref br, .ref bd, .int (jI bg), .int (jI bf)])), (bp, .inl (cA, 31, .inl (jA fp))), (bl, .inl (cA, 248, .inl (jA fl))), (bh, .inl (cA, 248, .inl (jA fh))), (ra, .inl (cA, 8, .inl (jA fw)))] s.heap := hP
  have hl := lv_entry ([.ref ba, .int (jI zg), .int (jI zn), .ref ra]) (n := 5) (Nat.le_of_ble_eq_true rfl)
  rw [lg_entry_eq]
  generalize (lg_sl ([.ref ba, .int (jI zg), .int (jI zn), .ref ra]) ++ List.replicate (5 - (lg_sl ([.ref ba, .int (jI zg), .int (jI zn), .ref ra])).length) Slot.unset).toArray = ls at hl ⊢
  have hl : lv_has ls 5 [(0, .ref ba), (1, .int (jI zg)), (2, .int (jI zn)), (3, .ref ra)] := hl
  refine ji_iconst hx hb dXB_copyEnds_0 ?_
  refine lv_istore (lv' := [(4, .int (jI 0)), (0, .ref ba), (1, .int (jI zg)), (2, .int (jI zn)), (3, .ref ra)]) hx hb dXB_copyEnds_1 hl (by decide) rfl (fun ls hl => ?_)
  have loop3 : ∀ (n9 : Nat) (k : Int) (fa : Int → Int) , 8 - k < (n9 : Int) → f_XB_copyEnds_L3 bg bf fp fl fh zg zn fw n9 k fa = f_XB_copyEnds bg bf fp fl fh zg zn fw → (0 ≤ k ∧ k ≤ 8) → ∀ (H : Heap) (locs : List Loc), va_P (dC, dI) vwCl [(ba, .inr (0, [.ref bt, .ref bp, .ref bl, .ref bh, .ref bq, .ref br, .ref bd, .int (jI bg), .int (jI bf)])), (bp, .inl (cA, 31, .inl (jA fp))), (bl, .inl (cA, 248, .inl (jA fl))), (bh, .inl (cA, 248, .inl (jA fh))), (ra, .inl (cA, 8, .inl (jA fa)))] H → va_D A [(ba, .inr (0, [.ref bt, .ref bp, .ref bl, .ref bh, .ref bq, .ref br, .ref bd, .int (jI bg), .int (jI bf)])), (bp, .inl (cA, 31, .inl (jA fp))), (bl, .inl (cA, 248, .inl (jA fl))), (bh, .inl (cA, 248, .inl (jA fh))), (ra, .inl (cA, 8, .inl (jA fa)))] → va_S A s.heap H locs → ∀ ls : Array Slot, lv_has ls 5 [(4, .int (jI k)), (0, .ref ba), (1, .int (jI zg)), (2, .int (jI zn)), (3, .ref ra)] → W p l e R s m ([.ref ba, .int (jI zg), .int (jI zn), .ref ra] : List Value).toArray below meth c H locs 0 0 Q (F0 m 3 ls []) := by
    intro n9
    induction n9 with
    | zero =>
      intro k fa hm hF hk
      exact absurd hm (by omega)
    | succ n9 ih3 =>
      intro k fa hm hF hk H locs hP hD hS ls hl
      refine lv_iload hx hb dXB_copyEnds_3 (lv_at hl 0 rfl) ?_
      refine ji_bipush hx hb dXB_copyEnds_5 (by decide) ?_
      refine ji_icmp_ge (tgt := 35) hx hb dXB_copyEnds_7 (by decide) (by omega) (by omega) (fun c7_ => ?_) (fun c7_ => ?_)
      · have hP9 := hP.sub (ws' := [(ba, .inr (0, [.ref bt, .ref bp, .ref bl, .ref bh, .ref bq, .ref br, .ref bd, .int (jI bg), .int (jI bf)])), (bp, .inl (cA, 31, .inl (jA fp))), (bl, .inl (cA, 248, .inl (jA fl))), (bh, .inl (cA, 248, .inl (jA fh))), (ra, .inl (cA, 8, .inl (jA fa)))]) [0, 1, 2, 3, 4] rfl
        have hD9 := hD.sub (ws' := [(ba, .inr (0, [.ref bt, .ref bp, .ref bl, .ref bh, .ref bq, .ref br, .ref bd, .int (jI bg), .int (jI bf)])), (bp, .inl (cA, 31, .inl (jA fp))), (bl, .inl (cA, 248, .inl (jA fl))), (bh, .inl (cA, 248, .inl (jA fh))), (ra, .inl (cA, 8, .inl (jA fa)))]) [0, 1, 2, 3, 4] (by decide) rfl
        subst hAe
        subst hQ
        exact W.vret hx hb hr (fun t ht hW => ⟨⟨fa, rfl, Eq.trans (by rw [f_XB_copyEnds_L3_s]; rw [if_neg (Int.not_lt.mpr c7_)]; try rfl) hF, ⟨by rw [ht]; exact hP9, va_K.moved hW.alike hK, hD9⟩⟩, hS.F ht⟩) hS.2.2 dXB_copyEnds_35
      · refine lv_iload hx hb dXB_copyEnds_10 (lv_at hl 0 rfl) ?_
        refine lv_aload_n hx hb dXB_copyEnds_12 rfl (lv_at hl 4 rfl) ?_
        refine ji_alen (z := 8) hx hb hK hP 4 0 rfl rfl rfl dXB_copyEnds_13 ?_
        refine ji_icmp_ge (tgt := 35) hx hb dXB_copyEnds_14 (by decide) (by omega) (by omega) (fun c14_ => ?_) (fun c14_ => ?_)
        · have hP9 := hP.sub (ws' := [(ba, .inr (0, [.ref bt, .ref bp, .ref bl, .ref bh, .ref bq, .ref br, .ref bd, .int (jI bg), .int (jI bf)])), (bp, .inl (cA, 31, .inl (jA fp))), (bl, .inl (cA, 248, .inl (jA fl))), (bh, .inl (cA, 248, .inl (jA fh))), (ra, .inl (cA, 8, .inl (jA fa)))]) [0, 1, 2, 3, 4] rfl
          have hD9 := hD.sub (ws' := [(ba, .inr (0, [.ref bt, .ref bp, .ref bl, .ref bh, .ref bq, .ref br, .ref bd, .int (jI bg), .int (jI bf)])), (bp, .inl (cA, 31, .inl (jA fp))), (bl, .inl (cA, 248, .inl (jA fl))), (bh, .inl (cA, 248, .inl (jA fh))), (ra, .inl (cA, 8, .inl (jA fa)))]) [0, 1, 2, 3, 4] (by decide) rfl
          subst hAe
          subst hQ
          exact W.vret hx hb hr (fun t ht hW => ⟨⟨fa, rfl, Eq.trans (by rw [f_XB_copyEnds_L3_s]; rw [if_pos c7_, if_neg (Int.not_lt.mpr c14_)]; try rfl) hF, ⟨by rw [ht]; exact hP9, va_K.moved hW.alike hK, hD9⟩⟩, hS.F ht⟩) hS.2.2 dXB_copyEnds_35
        · refine lv_aload_n hx hb dXB_copyEnds_17 rfl (lv_at hl 4 rfl) ?_
          refine lv_iload hx hb dXB_copyEnds_18 (lv_at hl 0 rfl) ?_
          refine lv_aload_n hx hb dXB_copyEnds_20 rfl (lv_at hl 1 rfl) ?_
          refine lv_iload_n hx hb dXB_copyEnds_21 rfl (lv_at hl 2 rfl) ?_
          refine lv_iload hx hb dXB_copyEnds_22 (lv_at hl 0 rfl) ?_
          refine lv_iload_n hx hb dXB_copyEnds_24 rfl (lv_at hl 3 rfl) ?_
          refine jrVi (rest := [.int (jI k), .ref ra]) ⟨hx, hb, hml, hown, hts⟩ (c_XB_endOf l dC dI cA ba bt bp bl bh bq br bd bg bf fp fl fh zg k zn (by first | assumption | omega) (by first | assumption | omega) (by first | assumption | omega) (by first | assumption | omega) (by first | assumption | omega) (by first | assumption | omega)) (cwV 3 hts (jG_V tw_488 tw_438 tw_439 tw_5 tw_440) rfl rfl rfl (by decide +kernel) (by rw [hR]; exact ⟨Nat.le_of_ble_eq_true rfl, Nat.le_of_ble_eq_true rfl⟩)) hK hP hN [0, 1, 2, 3] rfl 0 0 rfl rfl rfl rfl hl.1 rfl (Nat.le_of_ble_eq_true rfl) dXB_copyEnds_25 (by rw [hR]; exact ⟨Nat.le_of_ble_eq_true rfl, Nat.le_of_ble_eq_true rfl⟩) ?_
          have f := f_XB_endOf_b bg bf fp fl fh zg k zn (by first | assumption | omega) (by first | assumption | omega) (by first | assumption | omega) (by first | assumption | omega) (by first | assumption | omega) (by first | assumption | omega)
          refine ji_iast hx hb hK hP hD hS 4 0 rfl rfl ⟨by omega, by omega⟩ (by decide) dXB_copyEnds_28 (fun H locs hP hD hS => ?_)
          have hP : va_P (dC, dI) vwCl [(ba, .inr (0, [.ref bt, .ref bp, .ref bl, .ref bh, .ref bq, .ref br, .ref bd, .int (jI bg), .int (jI bf)])), (bp, .inl (cA, 31, .inl (jA fp))), (bl, .inl (cA, 248, .inl (jA fl))), (bh, .inl (cA, 248, .inl (jA fh))), (ra, .inl (cA, 8, .inl (jA (jset fa k (f_XB_endOf bg bf fp fl fh zg k zn)))))] H := hP
          have hD : va_D A [(ba, .inr (0, [.ref bt, .ref bp, .ref bl, .ref bh, .ref bq, .ref br, .ref bd, .int (jI bg), .int (jI bf)])), (bp, .inl (cA, 31, .inl (jA fp))), (bl, .inl (cA, 248, .inl (jA fl))), (bh, .inl (cA, 248, .inl (jA fh))), (ra, .inl (cA, 8, .inl (jA (jset fa k (f_XB_endOf bg bf fp fl fh zg k zn)))))] := hD
          refine ji_iinc (k := 0) (lv' := [(4, .int (jI (k + 1))), (0, .ref ba), (1, .int (jI zg)), (2, .int (jI zn)), (3, .ref ra)]) hx hb dXB_copyEnds_29 hl rfl (by decide) rfl (fun ls hl => ?_)
          refine lv_goto (tgt := 3) hx hb dXB_copyEnds_32 (by decide) ?_
          exact ih3 (k + 1) (jset fa k (f_XB_endOf bg bf fp fl fh zg k zn)) (by omega) (Eq.trans (by rw [f_XB_copyEnds_L3_s]; rw [if_pos c7_, if_pos c14_]; try rfl) hF) (by first | assumption | omega) _ _ hP hD hS ls (lv_sub hl [0, 1, 2, 3, 4] rfl)
  exact loop3 (Int.toNat (8 - 0) + 1) 0 fw (by omega) (Eq.trans (by rw [f_XB_copyEnds_s]; try rfl) rfl) (by first | assumption | omega) _ _ hP hD hS ls (lv_sub hl [0, 1, 2, 3, 4] rfl)
noncomputable def g_XB_firstKindAbove_L2 (bg : Int) (bf : Int) (fp : Int → Int) (fq : Int → Int) (fd : Int → Int) (zg : Int) (fw : Int → Int) : Nat → Int → Int
  | 0, _ => 0
  | n9 + 1, k =>
    if k < 4 then
      if (f_XB_hasFormula bg bf k) = 0 then
        g_XB_firstKindAbove_L2 bg bf fp fq fd zg fw n9 (k + 1)
      else
        if (f_XB_limitOf bg bf fp fq zg k) = (-1) then
          g_XB_firstKindAbove_L2 bg bf fp fq fd zg fw n9 (k + 1)
        else
          if ((f_XB_limitOf bg bf fp fq zg k) * 232792560) < (f_XB_scaledSum bg bf fd k fw) then
            k
          else
            g_XB_firstKindAbove_L2 bg bf fp fq fd zg fw n9 (k + 1)
    else
      -1
noncomputable def f_XB_firstKindAbove_L2 : Int → Int → (Int → Int) → (Int → Int) → (Int → Int) → Int → (Int → Int) → Nat → Int → Int := jopq g_XB_firstKindAbove_L2
theorem f_XB_firstKindAbove_L2_q : f_XB_firstKindAbove_L2 = g_XB_firstKindAbove_L2 := jopq_eq _
theorem f_XB_firstKindAbove_L2_s (bg : Int) (bf : Int) (fp : Int → Int) (fq : Int → Int) (fd : Int → Int) (zg : Int) (fw : Int → Int) (n9 : Nat) (k : Int) : f_XB_firstKindAbove_L2 bg bf fp fq fd zg fw (n9 + 1) k = (
    if k < 4 then
      if (f_XB_hasFormula bg bf k) = 0 then
        f_XB_firstKindAbove_L2 bg bf fp fq fd zg fw n9 (k + 1)
      else
        if (f_XB_limitOf bg bf fp fq zg k) = (-1) then
          f_XB_firstKindAbove_L2 bg bf fp fq fd zg fw n9 (k + 1)
        else
          if ((f_XB_limitOf bg bf fp fq zg k) * 232792560) < (f_XB_scaledSum bg bf fd k fw) then
            k
          else
            f_XB_firstKindAbove_L2 bg bf fp fq fd zg fw n9 (k + 1)
    else
      -1
  : Int) := by rw [f_XB_firstKindAbove_L2_q]; rfl
theorem f_XB_firstKindAbove_L2_z (bg : Int) (bf : Int) (fp : Int → Int) (fq : Int → Int) (fd : Int → Int) (zg : Int) (fw : Int → Int) (k : Int) : f_XB_firstKindAbove_L2 bg bf fp fq fd zg fw 0 k = 0 := by rw [f_XB_firstKindAbove_L2_q]; rfl
noncomputable def g_XB_firstKindAbove (bg : Int) (bf : Int) (fp : Int → Int) (fq : Int → Int) (fd : Int → Int) (zg : Int) (fw : Int → Int) : Int :=
  f_XB_firstKindAbove_L2 bg bf fp fq fd zg fw (Int.toNat (4 - 0) + 1) 0
noncomputable def f_XB_firstKindAbove : Int → Int → (Int → Int) → (Int → Int) → (Int → Int) → Int → (Int → Int) → Int := jopq g_XB_firstKindAbove
theorem f_XB_firstKindAbove_q : f_XB_firstKindAbove = g_XB_firstKindAbove := jopq_eq _
theorem f_XB_firstKindAbove_s (bg : Int) (bf : Int) (fp : Int → Int) (fq : Int → Int) (fd : Int → Int) (zg : Int) (fw : Int → Int) : f_XB_firstKindAbove bg bf fp fq fd zg fw = (
    f_XB_firstKindAbove_L2 bg bf fp fq fd zg fw (Int.toNat (4 - 0) + 1) 0
  : Int) := by rw [f_XB_firstKindAbove_q]; rfl
theorem f_XB_firstKindAbove_L (bg bf : Int) (fp fq fd : Int → Int) (zg : Int) (fw : Int → Int) : ∀ (n : Nat) (k : Int), 0 ≤ k → -1 ≤ f_XB_firstKindAbove_L2 bg bf fp fq fd zg fw n k ∧ f_XB_firstKindAbove_L2 bg bf fp fq fd zg fw n k < 4 := by
  intro n
  induction n with
  | zero => intro k _; simp only [f_XB_firstKindAbove_L2_z] <;> omega
  | succ n ih =>
    intro k h
    rw [f_XB_firstKindAbove_L2_s]
    (repeat' split) <;> first | omega | exact ih _ (by omega)
theorem f_XB_firstKindAbove_b (bg : Int) (bf : Int) (fp : Int → Int) (fq : Int → Int) (fd : Int → Int) (zg : Int) (fw : Int → Int) (hbp : ∀ i, 0 ≤ fp i ∧ fp i ≤ 30) (hbq : ∀ i, -1 ≤ fq i ∧ fq i ≤ 999999) (hbd : ∀ i, 0 ≤ fd i ∧ fd i ≤ 20) (hbf : 0 ≤ bf ∧ bf < 2147483648) (hzg : 0 ≤ zg ∧ zg ≤ 30) (hw0 : ∀ i, -1 ≤ fw i ∧ fw i ≤ 100000) : -1 ≤ (f_XB_firstKindAbove bg bf fp fq fd zg fw) ∧ (f_XB_firstKindAbove bg bf fp fq fd zg fw) < 4 := by rw [f_XB_firstKindAbove_s]; exact f_XB_firstKindAbove_L _ _ _ _ _ _ _ _ _ (by omega)
set_option maxHeartbeats 4000000 in
set_option maxRecDepth 100000 in
theorem c_XB_firstKindAbove (l : Launch) (dC : Nat → ClassId) (dI : Nat → Nat → Nat) (cA : ClassId) (ba : Nat) (bt : Nat) (bp : Nat) (bl : Nat) (bh : Nat) (bq : Nat) (br : Nat) (bd : Nat) (bg : Int) (bf : Int) (fp : Int → Int) (fq : Int → Int) (fd : Int → Int) (zg : Int) (ra : Nat) (fw : Int → Int) (hbp : ∀ i, 0 ≤ fp i ∧ fp i ≤ 30) (hbq : ∀ i, -1 ≤ fq i ∧ fq i ≤ 999999) (hbd : ∀ i, 0 ≤ fd i ∧ fd i ≤ 20) (hbf : 0 ≤ bf ∧ bf < 2147483648) (hzg : 0 ≤ zg ∧ zg ≤ 30) (hw0 : ∀ i, -1 ≤ fw i ∧ fw i ≤ 100000) : Met l yXB_firstKindAbove (Cond.code yXB_firstKindAbove cXB_firstKindAbove 5 (some .int) :: TBL) ({ frames := 2, cells := 0, slots := 0, locals := 48 } : Room) (va_Pc [.ref ba, .int (jI zg), .ref ra] (jB (dC, dI) [(cA, .int)] [(ba, .inr (0, [.ref bt, .ref bp, .ref bl, .ref bh, .ref bq, .ref br, .ref bd, .int (jI bg), .int (jI bf)])), (bp, .inl (cA, 31, .inl (jA fp))), (bq, .inl (cA, 124, .inl (jA fq))), (bd, .inl (cA, 32, .inl (jA fd))), (ra, .inl (cA, 8, .inl (jA fw)))])) (vp_Si (fun r => r = jI (f_XB_firstKindAbove bg bf fp fq fd zg fw))) 0 0 (fun _ => False) := by
  refine jMet (cc := cXB_firstKindAbove) (maxL := 5) (ret := some .int) (by decide) rfl ?_
  intro p e s m args below meth c s₁ R Q hR hQ B hml hv
  obtain ⟨rfl, hP, hK, hN⟩ := hv
  have hx := B.exec
  have hb := B.bytes
  have hr := B.returns
  have hts := atoms_spec (ws := Cond.code yXB_firstKindAbove cXB_firstKindAbove 5 (some .int) :: TBL) B.pre
  have hown : s.vm.findClass RXB = some m.cls := findClass_of_methodNamed B.named
  have hlocks := B.notSynchronized
  have hP : va_P (dC, dI) vwCl [(ba, .inr (0, [.ref bt, .ref bp, .ref bl, .ref bh, .ref bq, .ref br, .ref bd, .int (jI bg), .int (jI bf)])), (bp, .inl (cA, 31, .inl (jA fp))), (bq, .inl (cA, 124, .inl (jA fq))), (bd, .inl (cA, 32, .inl (jA fd))), (ra, .inl (cA, 8, .inl (jA fw)))] s.heap := hP
  have hl := lv_entry ([.ref ba, .int (jI zg), .ref ra]) (n := 5) (Nat.le_of_ble_eq_true rfl)
  rw [lg_entry_eq]
  generalize (lg_sl ([.ref ba, .int (jI zg), .ref ra]) ++ List.replicate (5 - (lg_sl ([.ref ba, .int (jI zg), .ref ra])).length) Slot.unset).toArray = ls at hl ⊢
  have hl : lv_has ls 5 [(0, .ref ba), (1, .int (jI zg)), (2, .ref ra)] := hl
  refine ji_iconst hx hb dXB_firstKindAbove_0 ?_
  refine lv_istore_n (lv' := [(3, .int (jI 0)), (0, .ref ba), (1, .int (jI zg)), (2, .ref ra)]) hx hb dXB_firstKindAbove_1 rfl hl (by decide) rfl (fun ls hl => ?_)
  have loop2 : ∀ (n9 : Nat) (k : Int) , 4 - k < (n9 : Int) → f_XB_firstKindAbove_L2 bg bf fp fq fd zg fw n9 k = f_XB_firstKindAbove bg bf fp fq fd zg fw → (0 ≤ k ∧ k ≤ 4) → ∀ ls : Array Slot, lv_has ls 5 [(3, .int (jI k)), (0, .ref ba), (1, .int (jI zg)), (2, .ref ra)] → W p l e R s m ([.ref ba, .int (jI zg), .ref ra] : List Value).toArray below meth c s.heap [] 0 0 Q (F0 m 2 ls []) := by
    intro n9
    induction n9 with
    | zero =>
      intro k hm hF hk
      exact absurd hm (by omega)
    | succ n9 ih2 =>
      intro k hm hF hk ls hl
      refine lv_iload_n hx hb dXB_firstKindAbove_2 rfl (lv_at hl 0 rfl) ?_
      refine ji_iconst hx hb dXB_firstKindAbove_3 ?_
      refine ji_icmp_ge (tgt := 54) hx hb dXB_firstKindAbove_4 (by decide) (by omega) (by omega) (fun c4_ => ?_) (fun c4_ => ?_)
      · refine ji_iconst hx hb dXB_firstKindAbove_54 ?_
        subst hQ
        exact W.iret (v := jI (-1)) hx hb hr (fun t ht hW => ⟨_, rfl, congrArg jI (Eq.trans (by rw [f_XB_firstKindAbove_L2_s]; rw [if_neg (Int.not_lt.mpr c4_)]; try rfl) hF), ht⟩) (fun _ h => nomatch h) dXB_firstKindAbove_55
      · refine lv_aload_n hx hb dXB_firstKindAbove_7 rfl (lv_at hl 1 rfl) ?_
        refine lv_iload_n hx hb dXB_firstKindAbove_8 rfl (lv_at hl 2 rfl) ?_
        refine lv_iload_n hx hb dXB_firstKindAbove_9 rfl (lv_at hl 0 rfl) ?_
        refine jrVi (rest := []) ⟨hx, hb, hml, hown, hts⟩ (c_XB_limitOf l dC dI cA ba bt bp bl bh bq br bd bg bf fp fq zg k (by first | assumption | omega) (by first | assumption | omega) (by first | assumption | omega) (by first | assumption | omega)) (cwV 2 hts (jG_V tw_529 tw_451 tw_452 tw_5 tw_453) rfl rfl rfl (by decide +kernel) (by rw [hR]; exact ⟨Nat.le_of_ble_eq_true rfl, Nat.le_of_ble_eq_true rfl⟩)) hK hP hN [0, 1, 2] rfl 0 0 rfl rfl rfl rfl hl.1 rfl (Nat.le_of_ble_eq_true rfl) dXB_firstKindAbove_10 (by rw [hR]; exact ⟨Nat.le_of_ble_eq_true rfl, Nat.le_of_ble_eq_true rfl⟩) ?_
        have f := f_XB_limitOf_b bg bf fp fq zg k (by first | assumption | omega) (by first | assumption | omega) (by first | assumption | omega) (by first | assumption | omega)
        refine lv_istore (lv' := [(4, .int (jI (f_XB_limitOf bg bf fp fq zg k))), (3, .int (jI k)), (0, .ref ba), (1, .int (jI zg)), (2, .ref ra)]) hx hb dXB_firstKindAbove_13 hl (by decide) rfl (fun ls hl => ?_)
        refine lv_aload_n hx hb dXB_firstKindAbove_15 rfl (lv_at hl 2 rfl) ?_
        refine lv_iload_n hx hb dXB_firstKindAbove_16 rfl (lv_at hl 1 rfl) ?_
        refine jrVi (rest := []) ⟨hx, hb, hml, hown, hts⟩ (c_XB_hasFormula l dC dI cA ba bt bp bl bh bq br bd bg bf k (by first | assumption | omega) (by first | assumption | omega)) (cwV 1 hts (jG_V tw_530 tw_168 tw_169 tw_5 tw_170) rfl rfl rfl (by decide +kernel) (by rw [hR]; exact ⟨Nat.le_of_ble_eq_true rfl, Nat.le_of_ble_eq_true rfl⟩)) hK hP hN [0] rfl 0 0 rfl rfl rfl rfl hl.1 rfl (Nat.le_of_ble_eq_true rfl) dXB_firstKindAbove_17 (by rw [hR]; exact ⟨Nat.le_of_ble_eq_true rfl, Nat.le_of_ble_eq_true rfl⟩) ?_
        have f1 := f_XB_hasFormula_b bg bf k (by first | assumption | omega) (by first | assumption | omega)
        refine ji_if_eq (tgt := 48) hx hb dXB_firstKindAbove_20 (by decide) (by omega) (fun c20_ => ?_) (fun c20_ => ?_)
        · refine ji_iinc (k := 1) (lv' := [(3, .int (jI (k + 1))), (4, .int (jI (f_XB_limitOf bg bf fp fq zg k))), (0, .ref ba), (1, .int (jI zg)), (2, .ref ra)]) hx hb dXB_firstKindAbove_48 hl rfl (by decide) rfl (fun ls hl => ?_)
          refine lv_goto (tgt := 2) hx hb dXB_firstKindAbove_51 (by decide) ?_
          exact ih2 (k + 1) (by omega) (Eq.trans (by rw [f_XB_firstKindAbove_L2_s]; rw [if_pos c4_, if_pos c20_]; try rfl) hF) (by first | assumption | omega) ls (lv_sub hl [0, 2, 3, 4] rfl)
        · refine lv_iload hx hb dXB_firstKindAbove_23 (lv_at hl 0 rfl) ?_
          refine ji_iconst hx hb dXB_firstKindAbove_25 ?_
          refine ji_icmp_eq (tgt := 48) hx hb dXB_firstKindAbove_26 (by decide) (by omega) (by omega) (fun c26_ => ?_) (fun c26_ => ?_)
          · refine ji_iinc (k := 1) (lv' := [(3, .int (jI (k + 1))), (4, .int (jI (f_XB_limitOf bg bf fp fq zg k))), (0, .ref ba), (1, .int (jI zg)), (2, .ref ra)]) hx hb dXB_firstKindAbove_48 hl rfl (by decide) rfl (fun ls hl => ?_)
            refine lv_goto (tgt := 2) hx hb dXB_firstKindAbove_51 (by decide) ?_
            exact ih2 (k + 1) (by omega) (Eq.trans (by rw [f_XB_firstKindAbove_L2_s]; rw [if_pos c4_, if_neg c20_, if_pos c26_]; try rfl) hF) (by first | assumption | omega) ls (lv_sub hl [0, 2, 3, 4] rfl)
          · refine lv_aload_n hx hb dXB_firstKindAbove_29 rfl (lv_at hl 2 rfl) ?_
            refine lv_iload_n hx hb dXB_firstKindAbove_30 rfl (lv_at hl 1 rfl) ?_
            refine lv_aload_n hx hb dXB_firstKindAbove_31 rfl (lv_at hl 4 rfl) ?_
            refine jrVl (rest := []) ⟨hx, hb, hml, hown, hts⟩ (c_XB_scaledSum l dC dI cA ba bt bp bl bh bq br bd bg bf fd k ra fw (by first | assumption | omega) (by first | assumption | omega) (by first | assumption | omega)) (cwV 2 hts (jG_V tw_531 tw_490 tw_491 tw_5 tw_492) rfl rfl rfl (by decide +kernel) (by rw [hR]; exact ⟨Nat.le_of_ble_eq_true rfl, Nat.le_of_ble_eq_true rfl⟩)) hK hP hN [0, 3, 4] rfl 0 0 rfl rfl rfl rfl hl.1 rfl (Nat.le_of_ble_eq_true rfl) dXB_firstKindAbove_32 (by rw [hR]; exact ⟨Nat.le_of_ble_eq_true rfl, Nat.le_of_ble_eq_true rfl⟩) ?_
            have f2 := f_XB_scaledSum_b bg bf fd k fw (by first | assumption | omega) (by first | assumption | omega) (by first | assumption | omega)
            refine lv_iload hx hb dXB_firstKindAbove_35 (lv_at hl 0 rfl) ?_
            refine ji_i2l hx hb dXB_firstKindAbove_37 (by omega) ?_
            refine lv_ldc2 hx hb hown (hts _ (jmem tw_494)) dXB_firstKindAbove_38 ?_
            refine ji_rel (y := 232792560) (by decide) ?_
            refine ji_lmul hx hb dXB_firstKindAbove_41 ?_
            refine ji_lcmp hx hb dXB_firstKindAbove_42 (by omega) (by omega) ?_
            refine ji_if_le (tgt := 48) hx hb dXB_firstKindAbove_43 (by decide) (jcmp_i _ _) (fun c43_ => ?_) (fun c43_ => ?_)
            · have c43_ := jcmp_ngt.mp c43_
              refine ji_iinc (k := 1) (lv' := [(3, .int (jI (k + 1))), (4, .int (jI (f_XB_limitOf bg bf fp fq zg k))), (0, .ref ba), (1, .int (jI zg)), (2, .ref ra)]) hx hb dXB_firstKindAbove_48 hl rfl (by decide) rfl (fun ls hl => ?_)
              refine lv_goto (tgt := 2) hx hb dXB_firstKindAbove_51 (by decide) ?_
              exact ih2 (k + 1) (by omega) (Eq.trans (by rw [f_XB_firstKindAbove_L2_s]; rw [if_pos c4_, if_neg c20_, if_neg c26_, if_neg (Int.not_lt.mpr c43_)]; try rfl) hF) (by first | assumption | omega) ls (lv_sub hl [0, 2, 3, 4] rfl)
            · have c43_ := jcmp_gt.mp c43_
              refine lv_iload_n hx hb dXB_firstKindAbove_46 rfl (lv_at hl 1 rfl) ?_
              subst hQ
              exact W.iret (v := jI k) hx hb hr (fun t ht hW => ⟨_, rfl, congrArg jI (Eq.trans (by rw [f_XB_firstKindAbove_L2_s]; rw [if_pos c4_, if_neg c20_, if_neg c26_, if_pos c43_]; try rfl) hF), ht⟩) (fun _ h => nomatch h) dXB_firstKindAbove_47
  exact loop2 (Int.toNat (4 - 0) + 1) 0 (by omega) (Eq.trans (by rw [f_XB_firstKindAbove_s]; try rfl) rfl) (by first | assumption | omega) ls (lv_sub hl [0, 1, 2, 3] rfl)

end
section
noncomputable def g_XP_start (pn : Int) (pf : Int → Int) : Int :=
  0
noncomputable def f_XP_start : Int → (Int → Int) → Int := jopq g_XP_start
theorem f_XP_start_q : f_XP_start = g_XP_start := jopq_eq _
theorem f_XP_start_s (pn : Int) (pf : Int → Int) : f_XP_start pn pf = (
    0
  : Int) := by rw [f_XP_start_q]; rfl
theorem f_XP_start_b (pn : Int) (pf : Int → Int) : (f_XP_start pn pf) = 0 := by rw [f_XP_start_s]
set_option maxHeartbeats 4000000 in
set_option maxRecDepth 100000 in
theorem c_XP_start (l : Launch) (dC : Nat → ClassId) (dI : Nat → Nat → Nat) (cA : ClassId) (sz : Nat) (pa : Nat) (ps : Nat) (pn : Int) (pf : Int → Int) : Met l yXP_start (Cond.code yXP_start cXP_start 1 none :: TBL) ({ frames := 0, cells := 0, slots := 0, locals := 0 } : Room) (va_Pc [.ref pa] (jBw (dC, dI) [(cA, .int)] [(pa, .inr (1, [.ref ps, .int (jI pn)])), (ps, .inl (cA, 160, .inl (jA pf)))] sz)) (va_Qv (fun (u : Int) => u = f_XP_start pn pf) (fun u t => jE (dC, dI) [(cA, .int)] [(pa, .inr (1, [.ref ps, .int (jI pn)])), (ps, .inl (cA, 160, .inl (jA pf)))] sz [(pa, .inr (1, [.ref ps, .int (jI u)])), (ps, .inl (cA, 160, .inl (jA pf)))] t) (va_A [(pa, .inr (1, [.ref ps, .int (jI pn)])), (ps, .inl (cA, 160, .inl (jA pf)))] sz)) 0 0 (va_A [(pa, .inr (1, [.ref ps, .int (jI pn)])), (ps, .inl (cA, 160, .inl (jA pf)))] sz) := by
  refine jMet (cc := cXP_start) (maxL := 1) (ret := none) (by decide) rfl ?_
  intro p e s m args below meth c s₁ R Q hR hQ B hml hv
  obtain ⟨rfl, hsz, hP, hK, hD0, hN⟩ := hv
  have hx := B.exec
  have hb := B.bytes
  have hr := B.returns
  have hts := atoms_spec (ws := Cond.code yXP_start cXP_start 1 none :: TBL) B.pre
  have hown : s.vm.findClass RXP = some m.cls := findClass_of_methodNamed B.named
  have hlocks := B.notSynchronized
  subst hsz
  obtain ⟨A, hAe⟩ : ∃ A, A = va_A [(pa, .inr (1, [.ref ps, .int (jI pn)])), (ps, .inl (cA, 160, .inl (jA pf)))] s.heap.size := ⟨_, rfl⟩
  have hD : va_D A [(pa, .inr (1, [.ref ps, .int (jI pn)])), (ps, .inl (cA, 160, .inl (jA pf)))] := by rw [hAe]; exact hD0.self
  have hA : ∀ q : Nat, s.heap.size ≤ q → A q := fun q h => by rw [hAe]; exact Or.inr h
  have hS : va_S A s.heap s.heap [] := va_S.rf
  have hP : va_P (dC, dI) vwCl [(pa, .inr (1, [.ref ps, .int (jI pn)])), (ps, .inl (cA, 160, .inl (jA pf)))] s.heap := hP
  have hl := lv_entry ([.ref pa]) (n := 1) (Nat.le_of_ble_eq_true rfl)
  rw [lg_entry_eq]
  generalize (lg_sl ([.ref pa]) ++ List.replicate (1 - (lg_sl ([.ref pa])).length) Slot.unset).toArray = ls at hl ⊢
  have hl : lv_has ls 1 [(0, .ref pa)] := hl
  refine lv_aload_n hx hb dXP_start_0 rfl (lv_at hl 0 rfl) ?_
  refine ji_iconst hx hb dXP_start_1 ?_
  refine va_put (D := (dC, dI)) (ci := 1) (v := .int (jI 0)) (ty := (.int)) (C := RXP) (T := TXP) (N := 2) hx hb hts (fun w h => jmem (inXP w h)) tyXP tyXP_ok nXP hown hK hP hD hS 0 rfl rfl 1 (by decide) (hts _ (jmem tw_61)) (fun _ h9 => h9) rfl (by decide +kernel) rfl rfl (Nat.le_of_ble_eq_true rfl) dXP_start_2 (fun H locs hP hD hS => ?_)
  have hP : va_P (dC, dI) vwCl [(pa, .inr (1, [.ref ps, .int (jI 0)])), (ps, .inl (cA, 160, .inl (jA pf)))] H := hP
  have hD : va_D A [(pa, .inr (1, [.ref ps, .int (jI 0)])), (ps, .inl (cA, 160, .inl (jA pf)))] := hD
  have hP9 := hP.sub (ws' := [(pa, .inr (1, [.ref ps, .int (jI 0)])), (ps, .inl (cA, 160, .inl (jA pf)))]) [0, 1] rfl
  have hD9 := hD.sub (ws' := [(pa, .inr (1, [.ref ps, .int (jI 0)])), (ps, .inl (cA, 160, .inl (jA pf)))]) [0, 1] (by decide) rfl
  subst hAe
  subst hQ
  exact W.vret hx hb hr (fun t ht hW => ⟨⟨0, rfl, Eq.trans (by rw [f_XP_start_s]; try rfl) rfl, ⟨by rw [ht]; exact hP9, va_K.moved hW.alike hK, hD9⟩⟩, hS.F ht⟩) hS.2.2 dXP_start_5
noncomputable def g_XP_length (pn : Int) (pf : Int → Int) : Int :=
  pn
noncomputable def f_XP_length : Int → (Int → Int) → Int := jopq g_XP_length
theorem f_XP_length_q : f_XP_length = g_XP_length := jopq_eq _
theorem f_XP_length_s (pn : Int) (pf : Int → Int) : f_XP_length pn pf = (
    pn
  : Int) := by rw [f_XP_length_q]; rfl
set_option maxHeartbeats 4000000 in
set_option maxRecDepth 100000 in
theorem c_XP_length (l : Launch) (dC : Nat → ClassId) (dI : Nat → Nat → Nat) (cA : ClassId) (pa : Nat) (ps : Nat) (pn : Int) (pf : Int → Int) : Met l yXP_length (Cond.code yXP_length cXP_length 1 (some .int) :: TBL) ({ frames := 0, cells := 0, slots := 0, locals := 0 } : Room) (va_Pc [.ref pa] (jB (dC, dI) [(cA, .int)] [(pa, .inr (1, [.ref ps, .int (jI pn)])), (ps, .inl (cA, 160, .inl (jA pf)))])) (vp_Si (fun r => r = jI (f_XP_length pn pf))) 0 0 (fun _ => False) := by
  refine jMet (cc := cXP_length) (maxL := 1) (ret := some .int) (by decide) rfl ?_
  intro p e s m args below meth c s₁ R Q hR hQ B hml hv
  obtain ⟨rfl, hP, hK, hN⟩ := hv
  have hx := B.exec
  have hb := B.bytes
  have hr := B.returns
  have hts := atoms_spec (ws := Cond.code yXP_length cXP_length 1 (some .int) :: TBL) B.pre
  have hown : s.vm.findClass RXP = some m.cls := findClass_of_methodNamed B.named
  have hlocks := B.notSynchronized
  have hP : va_P (dC, dI) vwCl [(pa, .inr (1, [.ref ps, .int (jI pn)])), (ps, .inl (cA, 160, .inl (jA pf)))] s.heap := hP
  have hl := lv_entry ([.ref pa]) (n := 1) (Nat.le_of_ble_eq_true rfl)
  rw [lg_entry_eq]
  generalize (lg_sl ([.ref pa]) ++ List.replicate (1 - (lg_sl ([.ref pa])).length) Slot.unset).toArray = ls at hl ⊢
  have hl : lv_has ls 1 [(0, .ref pa)] := hl
  refine lv_aload_n hx hb dXP_length_0 rfl (lv_at hl 0 rfl) ?_
  refine va_get (D := (dC, dI)) (ci := 1) (v := .int (jI pn)) (C := RXP) (T := TXP) (N := 2) hx hb hts (fun w h => jmem (inXP w h)) hown hK hP 0 rfl rfl 1 (by decide) (hts _ (jmem tw_61)) (fun _ h9 => h9) rfl dXP_length_1 ?_
  subst hQ
  exact W.iret (v := jI pn) hx hb hr (fun t ht hW => ⟨_, rfl, congrArg jI (Eq.trans (by rw [f_XP_length_s]; try rfl) rfl), ht⟩) (fun _ h => nomatch h) dXP_length_4
noncomputable def g_XP_byteAt (pn : Int) (pf : Int → Int) (zi : Int) : Int :=
  if zi < 0 then
    -1
  else
    if zi < pn then
      pf zi
    else
      -1
noncomputable def f_XP_byteAt : Int → (Int → Int) → Int → Int := jopq g_XP_byteAt
theorem f_XP_byteAt_q : f_XP_byteAt = g_XP_byteAt := jopq_eq _
theorem f_XP_byteAt_s (pn : Int) (pf : Int → Int) (zi : Int) : f_XP_byteAt pn pf zi = (
    if zi < 0 then
      -1
    else
      if zi < pn then
        pf zi
      else
        -1
  : Int) := by rw [f_XP_byteAt_q]; rfl
set_option maxHeartbeats 4000000 in
set_option maxRecDepth 100000 in
theorem c_XP_byteAt (l : Launch) (dC : Nat → ClassId) (dI : Nat → Nat → Nat) (cA : ClassId) (pa : Nat) (ps : Nat) (pn : Int) (pf : Int → Int) (zi : Int) (hpn : 0 ≤ pn ∧ pn ≤ 160) (hzi : i32 zi) : Met l yXP_byteAt (Cond.code yXP_byteAt cXP_byteAt 2 (some .int) :: TBL) ({ frames := 0, cells := 0, slots := 0, locals := 0 } : Room) (va_Pc [.ref pa, .int (jI zi)] (jB (dC, dI) [(cA, .int)] [(pa, .inr (1, [.ref ps, .int (jI pn)])), (ps, .inl (cA, 160, .inl (jA pf)))])) (vp_Si (fun r => r = jI (f_XP_byteAt pn pf zi))) 0 0 (fun _ => False) := by
  refine jMet (cc := cXP_byteAt) (maxL := 2) (ret := some .int) (by decide) rfl ?_
  intro p e s m args below meth c s₁ R Q hR hQ B hml hv
  obtain ⟨rfl, hP, hK, hN⟩ := hv
  have hx := B.exec
  have hb := B.bytes
  have hr := B.returns
  have hts := atoms_spec (ws := Cond.code yXP_byteAt cXP_byteAt 2 (some .int) :: TBL) B.pre
  have hown : s.vm.findClass RXP = some m.cls := findClass_of_methodNamed B.named
  have hlocks := B.notSynchronized
  have hP : va_P (dC, dI) vwCl [(pa, .inr (1, [.ref ps, .int (jI pn)])), (ps, .inl (cA, 160, .inl (jA pf)))] s.heap := hP
  have hl := lv_entry ([.ref pa, .int (jI zi)]) (n := 2) (Nat.le_of_ble_eq_true rfl)
  rw [lg_entry_eq]
  generalize (lg_sl ([.ref pa, .int (jI zi)]) ++ List.replicate (2 - (lg_sl ([.ref pa, .int (jI zi)])).length) Slot.unset).toArray = ls at hl ⊢
  have hl : lv_has ls 2 [(0, .ref pa), (1, .int (jI zi))] := hl
  refine lv_iload_n hx hb dXP_byteAt_0 rfl (lv_at hl 1 rfl) ?_
  refine ji_if_lt (tgt := 21) hx hb dXP_byteAt_1 (by decide) (by omega) (fun c1_ => ?_) (fun c1_ => ?_)
  · refine ji_iconst hx hb dXP_byteAt_21 ?_
    subst hQ
    exact W.iret (v := jI (-1)) hx hb hr (fun t ht hW => ⟨_, rfl, congrArg jI (Eq.trans (by rw [f_XP_byteAt_s]; rw [if_pos c1_]; try rfl) rfl), ht⟩) (fun _ h => nomatch h) dXP_byteAt_22
  · refine lv_iload_n hx hb dXP_byteAt_4 rfl (lv_at hl 1 rfl) ?_
    refine lv_aload_n hx hb dXP_byteAt_5 rfl (lv_at hl 0 rfl) ?_
    refine va_get (D := (dC, dI)) (ci := 1) (v := .int (jI pn)) (C := RXP) (T := TXP) (N := 2) hx hb hts (fun w h => jmem (inXP w h)) hown hK hP 0 rfl rfl 1 (by decide) (hts _ (jmem tw_61)) (fun _ h9 => h9) rfl dXP_byteAt_6 ?_
    refine ji_icmp_ge (tgt := 21) hx hb dXP_byteAt_9 (by decide) (by omega) (by omega) (fun c9_ => ?_) (fun c9_ => ?_)
    · refine ji_iconst hx hb dXP_byteAt_21 ?_
      subst hQ
      exact W.iret (v := jI (-1)) hx hb hr (fun t ht hW => ⟨_, rfl, congrArg jI (Eq.trans (by rw [f_XP_byteAt_s]; rw [if_neg (Int.not_lt.mpr c1_), if_neg (Int.not_lt.mpr c9_)]; try rfl) rfl), ht⟩) (fun _ h => nomatch h) dXP_byteAt_22
    · refine lv_aload_n hx hb dXP_byteAt_12 rfl (lv_at hl 0 rfl) ?_
      refine va_get (D := (dC, dI)) (ci := 1) (v := .ref ps) (C := RXP) (T := TXP) (N := 2) hx hb hts (fun w h => jmem (inXP w h)) hown hK hP 0 rfl rfl 0 (by decide) (hts _ (jmem tw_60)) (fun _ h9 => h9) rfl dXP_byteAt_13 ?_
      refine lv_iload_n hx hb dXP_byteAt_16 rfl (lv_at hl 1 rfl) ?_
      refine ji_iald hx hb hK hP 1 0 rfl rfl ⟨by omega, by omega⟩ (by decide) dXP_byteAt_17 ?_
      refine lv_goto (tgt := 22) hx hb dXP_byteAt_18 (by decide) ?_
      subst hQ
      exact W.iret (v := jI (pf zi)) hx hb hr (fun t ht hW => ⟨_, rfl, congrArg jI (Eq.trans (by rw [f_XP_byteAt_s]; rw [if_neg (Int.not_lt.mpr c1_), if_pos c9_]; try rfl) rfl), ht⟩) (fun _ h => nomatch h) dXP_byteAt_22
noncomputable def g_XP_put (pn : Int) (pf : Int → Int) (zs : Int) : Int × (Int → Int) :=
  if pn < 160 then
    (pn + 1, jset pf pn zs)
  else
    (pn, pf)
noncomputable def f_XP_put : Int → (Int → Int) → Int → Int × (Int → Int) := jopq g_XP_put
theorem f_XP_put_q : f_XP_put = g_XP_put := jopq_eq _
theorem f_XP_put_s (pn : Int) (pf : Int → Int) (zs : Int) : f_XP_put pn pf zs = (
    if pn < 160 then
      (pn + 1, jset pf pn zs)
    else
      (pn, pf)
  : Int × (Int → Int)) := by rw [f_XP_put_q]; rfl
theorem f_XP_put_b (pn : Int) (pf : Int → Int) (zs : Int) (hpn : 0 ≤ pn ∧ pn ≤ 160) : 0 ≤ (f_XP_put pn pf zs).1 ∧ (f_XP_put pn pf zs).1 ≤ 160 := by rw [f_XP_put_s]; split <;> dsimp only <;> omega
set_option maxHeartbeats 4000000 in
set_option maxRecDepth 100000 in
theorem c_XP_put (l : Launch) (dC : Nat → ClassId) (dI : Nat → Nat → Nat) (cA : ClassId) (sz : Nat) (pa : Nat) (ps : Nat) (pn : Int) (pf : Int → Int) (zs : Int) (hpn : 0 ≤ pn ∧ pn ≤ 160) : Met l yXP_put (Cond.code yXP_put cXP_put 2 none :: TBL) ({ frames := 0, cells := 0, slots := 0, locals := 0 } : Room) (va_Pc [.ref pa, .int (jI zs)] (jBw (dC, dI) [(cA, .int)] [(pa, .inr (1, [.ref ps, .int (jI pn)])), (ps, .inl (cA, 160, .inl (jA pf)))] sz)) (va_Qv (fun (u : Int × (Int → Int)) => u = f_XP_put pn pf zs) (fun u t => jE (dC, dI) [(cA, .int)] [(pa, .inr (1, [.ref ps, .int (jI pn)])), (ps, .inl (cA, 160, .inl (jA pf)))] sz [(pa, .inr (1, [.ref ps, .int (jI u.1)])), (ps, .inl (cA, 160, .inl (jA u.2)))] t) (va_A [(pa, .inr (1, [.ref ps, .int (jI pn)])), (ps, .inl (cA, 160, .inl (jA pf)))] sz)) 0 0 (va_A [(pa, .inr (1, [.ref ps, .int (jI pn)])), (ps, .inl (cA, 160, .inl (jA pf)))] sz) := by
  refine jMet (cc := cXP_put) (maxL := 2) (ret := none) (by decide) rfl ?_
  intro p e s m args below meth c s₁ R Q hR hQ B hml hv
  obtain ⟨rfl, hsz, hP, hK, hD0, hN⟩ := hv
  have hx := B.exec
  have hb := B.bytes
  have hr := B.returns
  have hts := atoms_spec (ws := Cond.code yXP_put cXP_put 2 none :: TBL) B.pre
  have hown : s.vm.findClass RXP = some m.cls := findClass_of_methodNamed B.named
  have hlocks := B.notSynchronized
  subst hsz
  obtain ⟨A, hAe⟩ : ∃ A, A = va_A [(pa, .inr (1, [.ref ps, .int (jI pn)])), (ps, .inl (cA, 160, .inl (jA pf)))] s.heap.size := ⟨_, rfl⟩
  have hD : va_D A [(pa, .inr (1, [.ref ps, .int (jI pn)])), (ps, .inl (cA, 160, .inl (jA pf)))] := by rw [hAe]; exact hD0.self
  have hA : ∀ q : Nat, s.heap.size ≤ q → A q := fun q h => by rw [hAe]; exact Or.inr h
  have hS : va_S A s.heap s.heap [] := va_S.rf
  have hP : va_P (dC, dI) vwCl [(pa, .inr (1, [.ref ps, .int (jI pn)])), (ps, .inl (cA, 160, .inl (jA pf)))] s.heap := hP
  have hl := lv_entry ([.ref pa, .int (jI zs)]) (n := 2) (Nat.le_of_ble_eq_true rfl)
  rw [lg_entry_eq]
  generalize (lg_sl ([.ref pa, .int (jI zs)]) ++ List.replicate (2 - (lg_sl ([.ref pa, .int (jI zs)])).length) Slot.unset).toArray = ls at hl ⊢
  have hl : lv_has ls 2 [(0, .ref pa), (1, .int (jI zs))] := hl
  refine lv_aload_n hx hb dXP_put_0 rfl (lv_at hl 0 rfl) ?_
  refine va_get (D := (dC, dI)) (ci := 1) (v := .int (jI pn)) (C := RXP) (T := TXP) (N := 2) hx hb hts (fun w h => jmem (inXP w h)) hown hK hP 0 rfl rfl 1 (by decide) (hts _ (jmem tw_61)) (fun _ h9 => h9) rfl dXP_put_1 ?_
  refine ji_sipush hx hb dXP_put_4 (by decide) ?_
  refine ji_icmp_ge (tgt := 30) hx hb dXP_put_7 (by decide) (by omega) (by omega) (fun c7_ => ?_) (fun c7_ => ?_)
  · have hP9 := hP.sub (ws' := [(pa, .inr (1, [.ref ps, .int (jI pn)])), (ps, .inl (cA, 160, .inl (jA pf)))]) [0, 1] rfl
    have hD9 := hD.sub (ws' := [(pa, .inr (1, [.ref ps, .int (jI pn)])), (ps, .inl (cA, 160, .inl (jA pf)))]) [0, 1] (by decide) rfl
    subst hAe
    subst hQ
    exact W.vret hx hb hr (fun t ht hW => ⟨⟨(pn, pf), rfl, Eq.trans (by rw [f_XP_put_s]; rw [if_neg (Int.not_lt.mpr c7_)]; try rfl) rfl, ⟨by rw [ht]; exact hP9, va_K.moved hW.alike hK, hD9⟩⟩, hS.F ht⟩) hS.2.2 dXP_put_30
  · refine lv_aload_n hx hb dXP_put_10 rfl (lv_at hl 0 rfl) ?_
    refine va_get (D := (dC, dI)) (ci := 1) (v := .ref ps) (C := RXP) (T := TXP) (N := 2) hx hb hts (fun w h => jmem (inXP w h)) hown hK hP 0 rfl rfl 0 (by decide) (hts _ (jmem tw_60)) (fun _ h9 => h9) rfl dXP_put_11 ?_
    refine lv_aload_n hx hb dXP_put_14 rfl (lv_at hl 0 rfl) ?_
    refine va_get (D := (dC, dI)) (ci := 1) (v := .int (jI pn)) (C := RXP) (T := TXP) (N := 2) hx hb hts (fun w h => jmem (inXP w h)) hown hK hP 0 rfl rfl 1 (by decide) (hts _ (jmem tw_61)) (fun _ h9 => h9) rfl dXP_put_15 ?_
    refine lv_iload_n hx hb dXP_put_18 rfl (lv_at hl 1 rfl) ?_
    refine ji_iast hx hb hK hP hD hS 1 0 rfl rfl ⟨by omega, by omega⟩ (by decide) dXP_put_19 (fun H locs hP hD hS => ?_)
    have hP : va_P (dC, dI) vwCl [(pa, .inr (1, [.ref ps, .int (jI pn)])), (ps, .inl (cA, 160, .inl (jA (jset pf pn zs))))] H := hP
    have hD : va_D A [(pa, .inr (1, [.ref ps, .int (jI pn)])), (ps, .inl (cA, 160, .inl (jA (jset pf pn zs))))] := hD
    refine lv_aload_n hx hb dXP_put_20 rfl (lv_at hl 0 rfl) ?_
    refine lv_dup hx hb dXP_put_21 rfl ?_
    refine va_get (D := (dC, dI)) (ci := 1) (v := .int (jI pn)) (C := RXP) (T := TXP) (N := 2) hx hb hts (fun w h => jmem (inXP w h)) hown hK hP 0 rfl rfl 1 (by decide) (hts _ (jmem tw_61)) (fun _ h9 => h9) rfl dXP_put_22 ?_
    refine ji_iconst hx hb dXP_put_25 ?_
    refine ji_iadd hx hb dXP_put_26 ?_
    refine va_put (D := (dC, dI)) (ci := 1) (v := .int (jI (pn + 1))) (ty := (.int)) (C := RXP) (T := TXP) (N := 2) hx hb hts (fun w h => jmem (inXP w h)) tyXP tyXP_ok nXP hown hK hP hD hS 0 rfl rfl 1 (by decide) (hts _ (jmem tw_61)) (fun _ h9 => h9) rfl (by decide +kernel) rfl rfl (Nat.le_of_ble_eq_true rfl) dXP_put_27 (fun H locs hP hD hS => ?_)
    have hP : va_P (dC, dI) vwCl [(pa, .inr (1, [.ref ps, .int (jI (pn + 1))])), (ps, .inl (cA, 160, .inl (jA (jset pf pn zs))))] H := hP
    have hD : va_D A [(pa, .inr (1, [.ref ps, .int (jI (pn + 1))])), (ps, .inl (cA, 160, .inl (jA (jset pf pn zs))))] := hD
    have hP9 := hP.sub (ws' := [(pa, .inr (1, [.ref ps, .int (jI (pn + 1))])), (ps, .inl (cA, 160, .inl (jA (jset pf pn zs))))]) [0, 1] rfl
    have hD9 := hD.sub (ws' := [(pa, .inr (1, [.ref ps, .int (jI (pn + 1))])), (ps, .inl (cA, 160, .inl (jA (jset pf pn zs))))]) [0, 1] (by decide) rfl
    subst hAe
    subst hQ
    exact W.vret hx hb hr (fun t ht hW => ⟨⟨(pn + 1, jset pf pn zs), rfl, Eq.trans (by rw [f_XP_put_s]; rw [if_pos c7_]; try rfl) rfl, ⟨by rw [ht]; exact hP9, va_K.moved hW.alike hK, hD9⟩⟩, hS.F ht⟩) hS.2.2 dXP_put_30
noncomputable def g_XP_putNumber_L3 (pn : Int) (pf : Int → Int) (zi : Int) : Nat → Int → Int → (Int → Int) → Int × (Int → Int)
  | 0, _, _, _ => (0, fun _ => 0)
  | n9 + 1, w, q, fa =>
    if 0 < w then
      if zi < w then
        if w = 1 then
          match f_XP_put q fa (48 + (Int.tmod (Int.tdiv zi w) 10)) with
          | (pn1'1, pf1'2) =>
            g_XP_putNumber_L3 pn pf zi n9 (Int.tdiv w 10) pn1'1 pf1'2
        else
          g_XP_putNumber_L3 pn pf zi n9 (Int.tdiv w 10) q fa
      else
        match f_XP_put q fa (48 + (Int.tmod (Int.tdiv zi w) 10)) with
        | (pn1', pf1') =>
          g_XP_putNumber_L3 pn pf zi n9 (Int.tdiv w 10) pn1' pf1'
    else
      (q, fa)
noncomputable def f_XP_putNumber_L3 : Int → (Int → Int) → Int → Nat → Int → Int → (Int → Int) → Int × (Int → Int) := jopq g_XP_putNumber_L3
theorem f_XP_putNumber_L3_q : f_XP_putNumber_L3 = g_XP_putNumber_L3 := jopq_eq _
theorem f_XP_putNumber_L3_s (pn : Int) (pf : Int → Int) (zi : Int) (n9 : Nat) (w : Int) (q : Int) (fa : Int → Int) : f_XP_putNumber_L3 pn pf zi (n9 + 1) w q fa = (
    if 0 < w then
      if zi < w then
        if w = 1 then
          match f_XP_put q fa (48 + (Int.tmod (Int.tdiv zi w) 10)) with
          | (pn1'1, pf1'2) =>
            f_XP_putNumber_L3 pn pf zi n9 (Int.tdiv w 10) pn1'1 pf1'2
        else
          f_XP_putNumber_L3 pn pf zi n9 (Int.tdiv w 10) q fa
      else
        match f_XP_put q fa (48 + (Int.tmod (Int.tdiv zi w) 10)) with
        | (pn1', pf1') =>
          f_XP_putNumber_L3 pn pf zi n9 (Int.tdiv w 10) pn1' pf1'
    else
      (q, fa)
  : Int × (Int → Int)) := by rw [f_XP_putNumber_L3_q]; rfl
theorem f_XP_putNumber_L3_z (pn : Int) (pf : Int → Int) (zi : Int) (w : Int) (q : Int) (fa : Int → Int) : f_XP_putNumber_L3 pn pf zi 0 w q fa = (0, fun _ => 0) := by rw [f_XP_putNumber_L3_q]; rfl
noncomputable def g_XP_putNumber (pn : Int) (pf : Int → Int) (zi : Int) : Int × (Int → Int) :=
  f_XP_putNumber_L3 pn pf zi (Int.toNat (100000) + 1) 100000 pn pf
noncomputable def f_XP_putNumber : Int → (Int → Int) → Int → Int × (Int → Int) := jopq g_XP_putNumber
theorem f_XP_putNumber_q : f_XP_putNumber = g_XP_putNumber := jopq_eq _
theorem f_XP_putNumber_s (pn : Int) (pf : Int → Int) (zi : Int) : f_XP_putNumber pn pf zi = (
    f_XP_putNumber_L3 pn pf zi (Int.toNat (100000) + 1) 100000 pn pf
  : Int × (Int → Int)) := by rw [f_XP_putNumber_q]; rfl
theorem jx_div {z w : Int} (hz : 0 ≤ z ∧ z < 1000000) (hw : 0 < w) : 0 ≤ z.tdiv w ∧ z.tdiv w < 1000000 := by
  rw [Int.tdiv_eq_ediv_of_nonneg hz.1]
  have h1 := Int.ediv_nonneg hz.1 (show 0 ≤ w by omega)
  have h2 := Int.ediv_le_self w hz.1
  omega
theorem jtd10 {w : Int} (hw : w = 100000 ∨ w = 10000 ∨ w = 1000 ∨ w = 100 ∨ w = 10 ∨ w = 1 ∨ w = 0) : w.tdiv 10 ≤ w ∧ (0 < w → w.tdiv 10 < w) := by rcases hw with rfl | rfl | rfl | rfl | rfl | rfl | rfl <;> decide
theorem f_XP_putNumber_L (pn : Int) (pf : Int → Int) (zi : Int) : ∀ (n : Nat) (w q : Int) (fa : Int → Int), 0 ≤ q ∧ q ≤ 160 → 0 ≤ (f_XP_putNumber_L3 pn pf zi n w q fa).1 ∧ (f_XP_putNumber_L3 pn pf zi n w q fa).1 ≤ 160 := by
  intro n
  induction n with
  | zero => intro w q fa _; simp only [f_XP_putNumber_L3_z] <;> omega
  | succ n ih =>
    intro w q fa h
    have hp := fun x => f_XP_put_b q fa x h
    rw [f_XP_putNumber_L3_s]
    (repeat' split) <;> first | exact ih _ _ _ h | (rename_i e; have h9 := hp (48 + (zi.tdiv w).tmod 10); rw [e] at h9; exact ih _ _ _ h9) | exact h
theorem f_XP_putNumber_b (pn : Int) (pf : Int → Int) (zi : Int) (hpn : 0 ≤ pn ∧ pn ≤ 160) (hzi : 0 ≤ zi ∧ zi < 1000000) : 0 ≤ (f_XP_putNumber pn pf zi).1 ∧ (f_XP_putNumber pn pf zi).1 ≤ 160 := by rw [f_XP_putNumber_s]; exact f_XP_putNumber_L _ _ _ _ _ _ _ hpn
set_option maxHeartbeats 4000000 in
set_option maxRecDepth 100000 in
theorem c_XP_putNumber (l : Launch) (dC : Nat → ClassId) (dI : Nat → Nat → Nat) (cA : ClassId) (sz : Nat) (pa : Nat) (ps : Nat) (pn : Int) (pf : Int → Int) (zi : Int) (hpn : 0 ≤ pn ∧ pn ≤ 160) (hzi : 0 ≤ zi ∧ zi < 1000000) : Met l yXP_putNumber (Cond.code yXP_putNumber cXP_putNumber 3 none :: TBL) ({ frames := 1, cells := 0, slots := 0, locals := 21 } : Room) (va_Pc [.ref pa, .int (jI zi)] (jBw (dC, dI) [(cA, .int)] [(pa, .inr (1, [.ref ps, .int (jI pn)])), (ps, .inl (cA, 160, .inl (jA pf)))] sz)) (va_Qv (fun (u : Int × (Int → Int)) => u = f_XP_putNumber pn pf zi) (fun u t => jE (dC, dI) [(cA, .int)] [(pa, .inr (1, [.ref ps, .int (jI pn)])), (ps, .inl (cA, 160, .inl (jA pf)))] sz [(pa, .inr (1, [.ref ps, .int (jI u.1)])), (ps, .inl (cA, 160, .inl (jA u.2)))] t) (va_A [(pa, .inr (1, [.ref ps, .int (jI pn)])), (ps, .inl (cA, 160, .inl (jA pf)))] sz)) 0 0 (va_A [(pa, .inr (1, [.ref ps, .int (jI pn)])), (ps, .inl (cA, 160, .inl (jA pf)))] sz) := by
  refine jMet (cc := cXP_putNumber) (maxL := 3) (ret := none) (by decide) rfl ?_
  intro p e s m args below meth c s₁ R Q hR hQ B hml hv
  obtain ⟨rfl, hsz, hP, hK, hD0, hN⟩ := hv
  have hx := B.exec
  have hb := B.bytes
  have hr := B.returns
  have hts := atoms_spec (ws := Cond.code yXP_putNumber cXP_putNumber 3 none :: TBL) B.pre
  have hown : s.vm.findClass RXP = some m.cls := findClass_of_methodNamed B.named
  have hlocks := B.notSynchronized
  subst hsz
  obtain ⟨A, hAe⟩ : ∃ A, A = va_A [(pa, .inr (1, [.ref ps, .int (jI pn)])), (ps, .inl (cA, 160, .inl (jA pf)))] s.heap.size := ⟨_, rfl⟩
  have hD : va_D A [(pa, .inr (1, [.ref ps, .int (jI pn)])), (ps, .inl (cA, 160, .inl (jA pf)))] := by rw [hAe]; exact hD0.self
  have hA : ∀ q : Nat, s.heap.size ≤ q → A q := fun q h => by rw [hAe]; exact Or.inr h
  have hS : va_S A s.heap s.heap [] := va_S.rf
  have hP : va_P (dC, dI) vwCl [(pa, .inr (1, [.ref ps, .int (jI pn)])), (ps, .inl (cA, 160, .inl (jA pf)))] s.heap := hP
  have hl := lv_entry ([.ref pa, .int (jI zi)]) (n := 3) (Nat.le_of_ble_eq_true rfl)
  rw [lg_entry_eq]
  generalize (lg_sl ([.ref pa, .int (jI zi)]) ++ List.replicate (3 - (lg_sl ([.ref pa, .int (jI zi)])).length) Slot.unset).toArray = ls at hl ⊢
  have hl : lv_has ls 3 [(0, .ref pa), (1, .int (jI zi))] := hl
  refine lv_ldc hx hb hown (hts _ (jmem tw_593)) dXP_putNumber_0 ?_
  refine ji_re (y := 100000) (by decide) ?_
  refine lv_istore_n (lv' := [(2, .int (jI 100000)), (0, .ref pa), (1, .int (jI zi))]) hx hb dXP_putNumber_2 rfl hl (by decide) rfl (fun ls hl => ?_)
  have loop3 : ∀ (n9 : Nat) (w : Int) (q : Int) (fa : Int → Int) , w < (n9 : Int) → f_XP_putNumber_L3 pn pf zi n9 w q fa = f_XP_putNumber pn pf zi → (w = 100000 ∨ w = 10000 ∨ w = 1000 ∨ w = 100 ∨ w = 10 ∨ w = 1 ∨ w = 0) → (0 ≤ q ∧ q ≤ 160) → ∀ (H : Heap) (locs : List Loc), va_P (dC, dI) vwCl [(pa, .inr (1, [.ref ps, .int (jI q)])), (ps, .inl (cA, 160, .inl (jA fa)))] H → va_D A [(pa, .inr (1, [.ref ps, .int (jI q)])), (ps, .inl (cA, 160, .inl (jA fa)))] → va_S A s.heap H locs → ∀ ls : Array Slot, lv_has ls 3 [(2, .int (jI w)), (0, .ref pa), (1, .int (jI zi))] → W p l e R s m ([.ref pa, .int (jI zi)] : List Value).toArray below meth c H locs 0 0 Q (F0 m 3 ls []) := by
    intro n9
    induction n9 with
    | zero =>
      intro w q fa hm hF hw hq
      exact absurd hm (by omega)
    | succ n9 ih3 =>
      intro w q fa hm hF hw hq H locs hP hD hS ls hl
      refine lv_iload_n hx hb dXP_putNumber_3 rfl (lv_at hl 0 rfl) ?_
      refine ji_if_le (tgt := 38) hx hb dXP_putNumber_4 (by decide) (by omega) (fun c4_ => ?_) (fun c4_ => ?_)
      · have hP9 := hP.sub (ws' := [(pa, .inr (1, [.ref ps, .int (jI q)])), (ps, .inl (cA, 160, .inl (jA fa)))]) [0, 1] rfl
        have hD9 := hD.sub (ws' := [(pa, .inr (1, [.ref ps, .int (jI q)])), (ps, .inl (cA, 160, .inl (jA fa)))]) [0, 1] (by decide) rfl
        subst hAe
        subst hQ
        exact W.vret hx hb hr (fun t ht hW => ⟨⟨(q, fa), rfl, Eq.trans (by rw [f_XP_putNumber_L3_s]; rw [if_neg (Int.not_lt.mpr c4_)]; try rfl) hF, ⟨by rw [ht]; exact hP9, va_K.moved hW.alike hK, hD9⟩⟩, hS.F ht⟩) hS.2.2 dXP_putNumber_38
      · refine lv_iload_n hx hb dXP_putNumber_7 rfl (lv_at hl 2 rfl) ?_
        refine lv_iload_n hx hb dXP_putNumber_8 rfl (lv_at hl 0 rfl) ?_
        refine ji_icmp_ge (tgt := 17) hx hb dXP_putNumber_9 (by decide) (by omega) (by omega) (fun c9_ => ?_) (fun c9_ => ?_)
        · refine lv_aload_n hx hb dXP_putNumber_17 rfl (lv_at hl 1 rfl) ?_
          refine ji_bipush hx hb dXP_putNumber_18 (by decide) ?_
          refine lv_iload_n hx hb dXP_putNumber_20 rfl (lv_at hl 2 rfl) ?_
          refine lv_iload_n hx hb dXP_putNumber_21 rfl (lv_at hl 0 rfl) ?_
          refine ji_idiv hx hb dXP_putNumber_22 (by omega) (by omega) (by omega) (by omega) ?_
          refine ji_bipush hx hb dXP_putNumber_23 (by decide) ?_
          refine ji_irem hx hb dXP_putNumber_25 (by have h9 := jx_div hzi (by omega : 0 < w); omega) (by have h9 := jx_div hzi (by omega : 0 < w); omega) (by have h9 := jx_div hzi (by omega : 0 < w); omega) (by have h9 := jx_div hzi (by omega : 0 < w); omega) ?_
          refine ji_iadd hx hb dXP_putNumber_26 ?_
          refine jwVv (rest := []) (wr := []) ⟨hx, hb, hml, hown, hts⟩ (c_XP_put l dC dI cA _ pa ps q fa (48 + (Int.tmod (Int.tdiv zi w) 10)) (by first | assumption | omega)) (cwV 1 hts (jG_V tw_594 tw_586 tw_587 tw_4 tw_588) rfl rfl rfl (by decide +kernel) (by rw [hR]; exact ⟨Nat.le_of_ble_eq_true rfl, Nat.le_of_ble_eq_true rfl⟩)) hK hP hD hS hA hN [0, 1] [] rfl rfl (by decide) (by decide) (by decide) 0 1 rfl rfl rfl rfl hl.1 rfl (Nat.le_of_ble_eq_true rfl) dXP_putNumber_27 (by rw [hR]; exact ⟨Nat.le_of_ble_eq_true rfl, Nat.le_of_ble_eq_true rfl⟩) (fun u H locs hwb hP hD hS => ?_)
          obtain ⟨pn1', pf1'⟩ := u
          try dsimp only at hwb
          have hP : va_P (dC, dI) vwCl [(pa, .inr (1, [.ref ps, .int (jI pn1')])), (ps, .inl (cA, 160, .inl (jA pf1')))] H := hP
          have hD : va_D A [(pa, .inr (1, [.ref ps, .int (jI pn1')])), (ps, .inl (cA, 160, .inl (jA pf1')))] := hD
          have f := f_XP_put_b q fa (48 + (Int.tmod (Int.tdiv zi w) 10)) (by first | assumption | omega)
          rw [← hwb] at f; try dsimp only at f
          refine lv_iload_n hx hb dXP_putNumber_30 rfl (lv_at hl 0 rfl) ?_
          refine ji_bipush hx hb dXP_putNumber_31 (by decide) ?_
          refine ji_idiv hx hb dXP_putNumber_33 (by omega) (by omega) (by omega) (by omega) ?_
          refine lv_istore_n (lv' := [(2, .int (jI (Int.tdiv w 10))), (0, .ref pa), (1, .int (jI zi))]) hx hb dXP_putNumber_34 rfl hl (by decide) rfl (fun ls hl => ?_)
          refine lv_goto (tgt := 3) hx hb dXP_putNumber_35 (by decide) ?_
          exact ih3 (Int.tdiv w 10) pn1' pf1' (by have hz9 := jtd10 hw; omega) (Eq.trans (by rw [f_XP_putNumber_L3_s]; rw [if_pos c4_, if_neg (Int.not_lt.mpr c9_)]; rw [← hwb]; try dsimp only; try rfl) hF) (by rcases hw with rfl | rfl | rfl | rfl | rfl | rfl | rfl <;> first | omega | decide) (by first | assumption | omega) _ _ hP hD hS ls (lv_sub hl [0, 1, 2] rfl)
        · refine lv_iload_n hx hb dXP_putNumber_12 rfl (lv_at hl 0 rfl) ?_
          refine ji_iconst hx hb dXP_putNumber_13 ?_
          refine ji_icmp_ne (tgt := 30) hx hb dXP_putNumber_14 (by decide) (by omega) (by omega) (fun c14_ => ?_) (fun c14_ => ?_)
          · refine lv_iload_n hx hb dXP_putNumber_30 rfl (lv_at hl 0 rfl) ?_
            refine ji_bipush hx hb dXP_putNumber_31 (by decide) ?_
            refine ji_idiv hx hb dXP_putNumber_33 (by omega) (by omega) (by omega) (by omega) ?_
            refine lv_istore_n (lv' := [(2, .int (jI (Int.tdiv w 10))), (0, .ref pa), (1, .int (jI zi))]) hx hb dXP_putNumber_34 rfl hl (by decide) rfl (fun ls hl => ?_)
            refine lv_goto (tgt := 3) hx hb dXP_putNumber_35 (by decide) ?_
            exact ih3 (Int.tdiv w 10) q fa (by have hz9 := jtd10 hw; omega) (Eq.trans (by rw [f_XP_putNumber_L3_s]; rw [if_pos c4_, if_pos c9_, if_neg c14_]; try rfl) hF) (by rcases hw with rfl | rfl | rfl | rfl | rfl | rfl | rfl <;> first | omega | decide) (by first | assumption | omega) _ _ hP hD hS ls (lv_sub hl [0, 1, 2] rfl)
          · refine lv_aload_n hx hb dXP_putNumber_17 rfl (lv_at hl 1 rfl) ?_
            refine ji_bipush hx hb dXP_putNumber_18 (by decide) ?_
            refine lv_iload_n hx hb dXP_putNumber_20 rfl (lv_at hl 2 rfl) ?_
            refine lv_iload_n hx hb dXP_putNumber_21 rfl (lv_at hl 0 rfl) ?_
            refine ji_idiv hx hb dXP_putNumber_22 (by omega) (by omega) (by omega) (by omega) ?_
            refine ji_bipush hx hb dXP_putNumber_23 (by decide) ?_
            refine ji_irem hx hb dXP_putNumber_25 (by have h9 := jx_div hzi (by omega : 0 < w); omega) (by have h9 := jx_div hzi (by omega : 0 < w); omega) (by have h9 := jx_div hzi (by omega : 0 < w); omega) (by have h9 := jx_div hzi (by omega : 0 < w); omega) ?_
            refine ji_iadd hx hb dXP_putNumber_26 ?_
            refine jwVv (rest := []) (wr := []) ⟨hx, hb, hml, hown, hts⟩ (c_XP_put l dC dI cA _ pa ps q fa (48 + (Int.tmod (Int.tdiv zi w) 10)) (by first | assumption | omega)) (cwV 1 hts (jG_V tw_594 tw_586 tw_587 tw_4 tw_588) rfl rfl rfl (by decide +kernel) (by rw [hR]; exact ⟨Nat.le_of_ble_eq_true rfl, Nat.le_of_ble_eq_true rfl⟩)) hK hP hD hS hA hN [0, 1] [] rfl rfl (by decide) (by decide) (by decide) 0 1 rfl rfl rfl rfl hl.1 rfl (Nat.le_of_ble_eq_true rfl) dXP_putNumber_27 (by rw [hR]; exact ⟨Nat.le_of_ble_eq_true rfl, Nat.le_of_ble_eq_true rfl⟩) (fun u3 H locs hwb4 hP hD hS => ?_)
            obtain ⟨pn1'1, pf1'2⟩ := u3
            try dsimp only at hwb4
            have hP : va_P (dC, dI) vwCl [(pa, .inr (1, [.ref ps, .int (jI pn1'1)])), (ps, .inl (cA, 160, .inl (jA pf1'2)))] H := hP
            have hD : va_D A [(pa, .inr (1, [.ref ps, .int (jI pn1'1)])), (ps, .inl (cA, 160, .inl (jA pf1'2)))] := hD
            have f5 := f_XP_put_b q fa (48 + (Int.tmod (Int.tdiv zi w) 10)) (by first | assumption | omega)
            rw [← hwb4] at f5; try dsimp only at f5
            refine lv_iload_n hx hb dXP_putNumber_30 rfl (lv_at hl 0 rfl) ?_
            refine ji_bipush hx hb dXP_putNumber_31 (by decide) ?_
            refine ji_idiv hx hb dXP_putNumber_33 (by omega) (by omega) (by omega) (by omega) ?_
            refine lv_istore_n (lv' := [(2, .int (jI (Int.tdiv w 10))), (0, .ref pa), (1, .int (jI zi))]) hx hb dXP_putNumber_34 rfl hl (by decide) rfl (fun ls hl => ?_)
            refine lv_goto (tgt := 3) hx hb dXP_putNumber_35 (by decide) ?_
            exact ih3 (Int.tdiv w 10) pn1'1 pf1'2 (by have hz9 := jtd10 hw; omega) (Eq.trans (by rw [f_XP_putNumber_L3_s]; rw [if_pos c4_, if_pos c9_, if_pos c14_]; rw [← hwb4]; try dsimp only; try rfl) hF) (by rcases hw with rfl | rfl | rfl | rfl | rfl | rfl | rfl <;> first | omega | decide) (by first | assumption | omega) _ _ hP hD hS ls (lv_sub hl [0, 1, 2] rfl)
  exact loop3 (Int.toNat (100000) + 1) 100000 pn pf (by omega) (Eq.trans (by rw [f_XP_putNumber_s]; try rfl) rfl) (by omega) (by first | assumption | omega) _ _ hP hD hS ls (lv_sub hl [0, 1, 2] rfl)

end
section
noncomputable def g_XB_printSpans_L2 (bg : Int) (bf : Int) (fl : Int → Int) (fh : Int → Int) (zg : Int) (pn : Int) (pf : Int → Int) : Nat → Int → Int → (Int → Int) → Int × (Int → Int)
  | 0, _, _, _ => (0, fun _ => 0)
  | n9 + 1, k, q, fa =>
    if k < 8 then
      if (f_XB_tellsSpan bg bf fh zg k) = 0 then
        g_XB_printSpans_L2 bg bf fl fh zg pn pf n9 (k + 1) q fa
      else
        match f_XP_put q fa (65 + k) with
        | (pn1', pf1') =>
          match f_XP_putNumber pn1' pf1' (fl ((zg * 8) + k)) with
          | (pn1'3, pf1'4) =>
            match f_XP_put pn1'3 pf1'4 45 with
            | (pn1'8, pf1'9) =>
              match f_XP_putNumber pn1'8 pf1'9 (fh ((zg * 8) + k)) with
              | (pn1'14, pf1'15) =>
                g_XB_printSpans_L2 bg bf fl fh zg pn pf n9 (k + 1) pn1'14 pf1'15
    else
      (q, fa)
noncomputable def f_XB_printSpans_L2 : Int → Int → (Int → Int) → (Int → Int) → Int → Int → (Int → Int) → Nat → Int → Int → (Int → Int) → Int × (Int → Int) := jopq g_XB_printSpans_L2
theorem f_XB_printSpans_L2_q : f_XB_printSpans_L2 = g_XB_printSpans_L2 := jopq_eq _
theorem f_XB_printSpans_L2_s (bg : Int) (bf : Int) (fl : Int → Int) (fh : Int → Int) (zg : Int) (pn : Int) (pf : Int → Int) (n9 : Nat) (k : Int) (q : Int) (fa : Int → Int) : f_XB_printSpans_L2 bg bf fl fh zg pn pf (n9 + 1) k q fa = (
    if k < 8 then
      if (f_XB_tellsSpan bg bf fh zg k) = 0 then
        f_XB_printSpans_L2 bg bf fl fh zg pn pf n9 (k + 1) q fa
      else
        match f_XP_put q fa (65 + k) with
        | (pn1', pf1') =>
          match f_XP_putNumber pn1' pf1' (fl ((zg * 8) + k)) with
          | (pn1'3, pf1'4) =>
            match f_XP_put pn1'3 pf1'4 45 with
            | (pn1'8, pf1'9) =>
              match f_XP_putNumber pn1'8 pf1'9 (fh ((zg * 8) + k)) with
              | (pn1'14, pf1'15) =>
                f_XB_printSpans_L2 bg bf fl fh zg pn pf n9 (k + 1) pn1'14 pf1'15
    else
      (q, fa)
  : Int × (Int → Int)) := by rw [f_XB_printSpans_L2_q]; rfl
theorem f_XB_printSpans_L2_z (bg : Int) (bf : Int) (fl : Int → Int) (fh : Int → Int) (zg : Int) (pn : Int) (pf : Int → Int) (k : Int) (q : Int) (fa : Int → Int) : f_XB_printSpans_L2 bg bf fl fh zg pn pf 0 k q fa = (0, fun _ => 0) := by rw [f_XB_printSpans_L2_q]; rfl
noncomputable def g_XB_printSpans (bg : Int) (bf : Int) (fl : Int → Int) (fh : Int → Int) (zg : Int) (pn : Int) (pf : Int → Int) : Int × (Int → Int) :=
  f_XB_printSpans_L2 bg bf fl fh zg pn pf (Int.toNat (8 - 0) + 1) 0 pn pf
noncomputable def f_XB_printSpans : Int → Int → (Int → Int) → (Int → Int) → Int → Int → (Int → Int) → Int × (Int → Int) := jopq g_XB_printSpans
theorem f_XB_printSpans_q : f_XB_printSpans = g_XB_printSpans := jopq_eq _
theorem f_XB_printSpans_s (bg : Int) (bf : Int) (fl : Int → Int) (fh : Int → Int) (zg : Int) (pn : Int) (pf : Int → Int) : f_XB_printSpans bg bf fl fh zg pn pf = (
    f_XB_printSpans_L2 bg bf fl fh zg pn pf (Int.toNat (8 - 0) + 1) 0 pn pf
  : Int × (Int → Int)) := by rw [f_XB_printSpans_q]; rfl
theorem f_XB_printSpans_L (bg bf : Int) (fl fh : Int → Int) (zg pn : Int) (pf : Int → Int) (hbl : ∀ i, 0 ≤ fl i ∧ fl i ≤ 100000) (hbh : ∀ i, -1 ≤ fh i ∧ fh i ≤ 100000) (hzg : 0 ≤ zg ∧ zg ≤ 30) : ∀ (n : Nat) (k q : Int) (fa : Int → Int), 0 ≤ k → 0 ≤ q ∧ q ≤ 160 → 0 ≤ (f_XB_printSpans_L2 bg bf fl fh zg pn pf n k q fa).1 ∧ (f_XB_printSpans_L2 bg bf fl fh zg pn pf n k q fa).1 ≤ 160 := by
  intro n
  induction n with
  | zero => intro k q fa _ _; simp only [f_XB_printSpans_L2_z] <;> omega
  | succ n ih =>
    intro k q fa h0 h
    rw [f_XB_printSpans_L2_s]
    simp only []
    split
    · split
      · exact ih _ _ _ (by omega) h
      · have hl := hbl (zg * 8 + k)
        have hc := f_XB_tellsSpan_c bg bf fh zg k hbh hzg (by omega)
        have hb := f_XB_tellsSpan_b bg bf fh zg k hbh hzg (by omega)
        have hh := hbh (zg * 8 + k)
        exact ih _ _ _ (by omega) (f_XP_putNumber_b _ _ _ (f_XP_put_b _ _ _ (f_XP_putNumber_b _ _ _ (f_XP_put_b _ _ _ h) (by omega))) (by omega))
    · exact h
theorem f_XB_printSpans_b (bg : Int) (bf : Int) (fl : Int → Int) (fh : Int → Int) (zg : Int) (pn : Int) (pf : Int → Int) (hbl : ∀ i, 0 ≤ fl i ∧ fl i ≤ 100000) (hbh : ∀ i, -1 ≤ fh i ∧ fh i ≤ 100000) (hzg : 0 ≤ zg ∧ zg ≤ 30) (hpn : 0 ≤ pn ∧ pn ≤ 160) : 0 ≤ (f_XB_printSpans bg bf fl fh zg pn pf).1 ∧ (f_XB_printSpans bg bf fl fh zg pn pf).1 ≤ 160 := by rw [f_XB_printSpans_s]; exact f_XB_printSpans_L _ _ _ _ _ _ _ hbl hbh hzg _ _ _ _ (by omega) hpn
set_option maxHeartbeats 4000000 in
set_option maxRecDepth 100000 in
theorem c_XB_printSpans (l : Launch) (dC : Nat → ClassId) (dI : Nat → Nat → Nat) (cA : ClassId) (sz : Nat) (ba : Nat) (bt : Nat) (bp : Nat) (bl : Nat) (bh : Nat) (bq : Nat) (br : Nat) (bd : Nat) (bg : Int) (bf : Int) (fl : Int → Int) (fh : Int → Int) (zg : Int) (pa : Nat) (ps : Nat) (pn : Int) (pf : Int → Int) (hbl : ∀ i, 0 ≤ fl i ∧ fl i ≤ 100000) (hbh : ∀ i, -1 ≤ fh i ∧ fh i ≤ 100000) (hzg : 0 ≤ zg ∧ zg ≤ 30) (hpn : 0 ≤ pn ∧ pn ≤ 160) : Met l yXB_printSpans (Cond.code yXB_printSpans cXB_printSpans 4 none :: TBL) ({ frames := 2, cells := 0, slots := 0, locals := 43 } : Room) (va_Pc [.ref ba, .int (jI zg), .ref pa] (jBw (dC, dI) [(cA, .int)] [(ba, .inr (0, [.ref bt, .ref bp, .ref bl, .ref bh, .ref bq, .ref br, .ref bd, .int (jI bg), .int (jI bf)])), (bl, .inl (cA, 248, .inl (jA fl))), (bh, .inl (cA, 248, .inl (jA fh))), (pa, .inr (1, [.ref ps, .int (jI pn)])), (ps, .inl (cA, 160, .inl (jA pf)))] sz)) (va_Qv (fun (u : Int × (Int → Int)) => u = f_XB_printSpans bg bf fl fh zg pn pf) (fun u t => jE (dC, dI) [(cA, .int)] [(ba, .inr (0, [.ref bt, .ref bp, .ref bl, .ref bh, .ref bq, .ref br, .ref bd, .int (jI bg), .int (jI bf)])), (bl, .inl (cA, 248, .inl (jA fl))), (bh, .inl (cA, 248, .inl (jA fh))), (pa, .inr (1, [.ref ps, .int (jI pn)])), (ps, .inl (cA, 160, .inl (jA pf)))] sz [(ba, .inr (0, [.ref bt, .ref bp, .ref bl, .ref bh, .ref bq, .ref br, .ref bd, .int (jI bg), .int (jI bf)])), (bl, .inl (cA, 248, .inl (jA fl))), (bh, .inl (cA, 248, .inl (jA fh))), (pa, .inr (1, [.ref ps, .int (jI u.1)])), (ps, .inl (cA, 160, .inl (jA u.2)))] t) (va_A [(ba, .inr (0, [.ref bt, .ref bp, .ref bl, .ref bh, .ref bq, .ref br, .ref bd, .int (jI bg), .int (jI bf)])), (bl, .inl (cA, 248, .inl (jA fl))), (bh, .inl (cA, 248, .inl (jA fh))), (pa, .inr (1, [.ref ps, .int (jI pn)])), (ps, .inl (cA, 160, .inl (jA pf)))] sz)) 0 0 (va_A [(ba, .inr (0, [.ref bt, .ref bp, .ref bl, .ref bh, .ref bq, .ref br, .ref bd, .int (jI bg), .int (jI bf)])), (bl, .inl (cA, 248, .inl (jA fl))), (bh, .inl (cA, 248, .inl (jA fh))), (pa, .inr (1, [.ref ps, .int (jI pn)])), (ps, .inl (cA, 160, .inl (jA pf)))] sz) := by
  refine jMet (cc := cXB_printSpans) (maxL := 4) (ret := none) (by decide) rfl ?_
  intro p e s m args below meth c s₁ R Q hR hQ B hml hv
  obtain ⟨rfl, hsz, hP, hK, hD0, hN⟩ := hv
  have hx := B.exec
  have hb := B.bytes
  have hr := B.returns
  have hts := atoms_spec (ws := Cond.code yXB_printSpans cXB_printSpans 4 none :: TBL) B.pre
  have hown : s.vm.findClass RXB = some m.cls := findClass_of_methodNamed B.named
  have hlocks := B.notSynchronized
  subst hsz
  obtain ⟨A, hAe⟩ : ∃ A, A = va_A [(ba, .inr (0, [.ref bt, .ref bp, .ref bl, .ref bh, .ref bq, .ref br, .ref bd, .int (jI bg), .int (jI bf)])), (bl, .inl (cA, 248, .inl (jA fl))), (bh, .inl (cA, 248, .inl (jA fh))), (pa, .inr (1, [.ref ps, .int (jI pn)])), (ps, .inl (cA, 160, .inl (jA pf)))] s.heap.size := ⟨_, rfl⟩
  have hD : va_D A [(ba, .inr (0, [.ref bt, .ref bp, .ref bl, .ref bh, .ref bq, .ref br, .ref bd, .int (jI bg), .int (jI bf)])), (bl, .inl (cA, 248, .inl (jA fl))), (bh, .inl (cA, 248, .inl (jA fh))), (pa, .inr (1, [.ref ps, .int (jI pn)])), (ps, .inl (cA, 160, .inl (jA pf)))] := by rw [hAe]; exact hD0.self
  have hA : ∀ q : Nat, s.heap.size ≤ q → A q := fun q h => by rw [hAe]; exact Or.inr h
  have hS : va_S A s.heap s.heap [] := va_S.rf
  have hP : va_P (dC, dI) vwCl [(ba, .inr (0, [.ref bt, .ref bp, .ref bl, .ref bh, .ref bq, .ref br, .ref bd, .int (jI bg), .int (jI bf)])), (bl, .inl (cA, 248, .inl (jA fl))), (bh, .inl (cA, 248, .inl (jA fh))), (pa, .inr (1, [.ref ps, .int (jI pn)])), (ps, .inl (cA, 160, .inl (jA pf)))] s.heap := hP
  have hl := lv_entry ([.ref ba, .int (jI zg), .ref pa]) (n := 4) (Nat.le_of_ble_eq_true rfl)
  rw [lg_entry_eq]
  generalize (lg_sl ([.ref ba, .int (jI zg), .ref pa]) ++ List.replicate (4 - (lg_sl ([.ref ba, .int (jI zg), .ref pa])).length) Slot.unset).toArray = ls at hl ⊢
  have hl : lv_has ls 4 [(0, .ref ba), (1, .int (jI zg)), (2, .ref pa)] := hl
  refine ji_iconst hx hb dXB_printSpans_0 ?_
  refine lv_istore_n (lv' := [(3, .int (jI 0)), (0, .ref ba), (1, .int (jI zg)), (2, .ref pa)]) hx hb dXB_printSpans_1 rfl hl (by decide) rfl (fun ls hl => ?_)
  have loop2 : ∀ (n9 : Nat) (k : Int) (q : Int) (fa : Int → Int) , 8 - k < (n9 : Int) → f_XB_printSpans_L2 bg bf fl fh zg pn pf n9 k q fa = f_XB_printSpans bg bf fl fh zg pn pf → (0 ≤ k ∧ k ≤ 8) → (0 ≤ q ∧ q ≤ 160) → ∀ (H : Heap) (locs : List Loc), va_P (dC, dI) vwCl [(ba, .inr (0, [.ref bt, .ref bp, .ref bl, .ref bh, .ref bq, .ref br, .ref bd, .int (jI bg), .int (jI bf)])), (bl, .inl (cA, 248, .inl (jA fl))), (bh, .inl (cA, 248, .inl (jA fh))), (pa, .inr (1, [.ref ps, .int (jI q)])), (ps, .inl (cA, 160, .inl (jA fa)))] H → va_D A [(ba, .inr (0, [.ref bt, .ref bp, .ref bl, .ref bh, .ref bq, .ref br, .ref bd, .int (jI bg), .int (jI bf)])), (bl, .inl (cA, 248, .inl (jA fl))), (bh, .inl (cA, 248, .inl (jA fh))), (pa, .inr (1, [.ref ps, .int (jI q)])), (ps, .inl (cA, 160, .inl (jA fa)))] → va_S A s.heap H locs → ∀ ls : Array Slot, lv_has ls 4 [(3, .int (jI k)), (0, .ref ba), (1, .int (jI zg)), (2, .ref pa)] → W p l e R s m ([.ref ba, .int (jI zg), .ref pa] : List Value).toArray below meth c H locs 0 0 Q (F0 m 2 ls []) := by
    intro n9
    induction n9 with
    | zero =>
      intro k q fa hm hF hk hq
      exact absurd hm (by omega)
    | succ n9 ih2 =>
      intro k q fa hm hF hk hq H locs hP hD hS ls hl
      refine lv_iload_n hx hb dXB_printSpans_2 rfl (lv_at hl 0 rfl) ?_
      refine ji_bipush hx hb dXB_printSpans_3 (by decide) ?_
      refine ji_icmp_ge (tgt := 67) hx hb dXB_printSpans_5 (by decide) (by omega) (by omega) (fun c5_ => ?_) (fun c5_ => ?_)
      · have hP9 := hP.sub (ws' := [(ba, .inr (0, [.ref bt, .ref bp, .ref bl, .ref bh, .ref bq, .ref br, .ref bd, .int (jI bg), .int (jI bf)])), (bl, .inl (cA, 248, .inl (jA fl))), (bh, .inl (cA, 248, .inl (jA fh))), (pa, .inr (1, [.ref ps, .int (jI q)])), (ps, .inl (cA, 160, .inl (jA fa)))]) [0, 1, 2, 3, 4] rfl
        have hD9 := hD.sub (ws' := [(ba, .inr (0, [.ref bt, .ref bp, .ref bl, .ref bh, .ref bq, .ref br, .ref bd, .int (jI bg), .int (jI bf)])), (bl, .inl (cA, 248, .inl (jA fl))), (bh, .inl (cA, 248, .inl (jA fh))), (pa, .inr (1, [.ref ps, .int (jI q)])), (ps, .inl (cA, 160, .inl (jA fa)))]) [0, 1, 2, 3, 4] (by decide) rfl
        subst hAe
        subst hQ
        exact W.vret hx hb hr (fun t ht hW => ⟨⟨(q, fa), rfl, Eq.trans (by rw [f_XB_printSpans_L2_s]; rw [if_neg (Int.not_lt.mpr c5_)]; try rfl) hF, ⟨by rw [ht]; exact hP9, va_K.moved hW.alike hK, hD9⟩⟩, hS.F ht⟩) hS.2.2 dXB_printSpans_67
      · refine lv_aload_n hx hb dXB_printSpans_8 rfl (lv_at hl 1 rfl) ?_
        refine lv_iload_n hx hb dXB_printSpans_9 rfl (lv_at hl 2 rfl) ?_
        refine lv_iload_n hx hb dXB_printSpans_10 rfl (lv_at hl 0 rfl) ?_
        refine jrVi (rest := []) ⟨hx, hb, hml, hown, hts⟩ (c_XB_tellsSpan l dC dI cA ba bt bp bl bh bq br bd bg bf fh zg k (by first | assumption | omega) (by first | assumption | omega) (by first | assumption | omega)) (cwV 2 hts (jG_V tw_441 tw_239 tw_240 tw_5 tw_241) rfl rfl rfl (by decide +kernel) (by rw [hR]; exact ⟨Nat.le_of_ble_eq_true rfl, Nat.le_of_ble_eq_true rfl⟩)) hK hP hN [0, 2] rfl 0 0 rfl rfl rfl rfl hl.1 rfl (Nat.le_of_ble_eq_true rfl) dXB_printSpans_11 (by rw [hR]; exact ⟨Nat.le_of_ble_eq_true rfl, Nat.le_of_ble_eq_true rfl⟩) ?_
        have f := f_XB_tellsSpan_b bg bf fh zg k (by first | assumption | omega) (by first | assumption | omega) (by first | assumption | omega)
        have f1 := f_XB_tellsSpan_c bg bf fh zg k (by first | assumption | omega) (by first | assumption | omega) (by first | assumption | omega)
        refine ji_if_eq (tgt := 61) hx hb dXB_printSpans_14 (by decide) (by omega) (fun c14_ => ?_) (fun c14_ => ?_)
        · refine ji_iinc (k := 0) (lv' := [(3, .int (jI (k + 1))), (0, .ref ba), (1, .int (jI zg)), (2, .ref pa)]) hx hb dXB_printSpans_61 hl rfl (by decide) rfl (fun ls hl => ?_)
          refine lv_goto (tgt := 2) hx hb dXB_printSpans_64 (by decide) ?_
          exact ih2 (k + 1) q fa (by omega) (Eq.trans (by rw [f_XB_printSpans_L2_s]; rw [if_pos c5_, if_pos c14_]; try rfl) hF) (by first | assumption | omega) (by first | assumption | omega) _ _ hP hD hS ls (lv_sub hl [0, 1, 2, 3] rfl)
        · refine lv_aload_n hx hb dXB_printSpans_17 rfl (lv_at hl 3 rfl) ?_
          refine ji_bipush hx hb dXB_printSpans_18 (by decide) ?_
          refine lv_iload_n hx hb dXB_printSpans_20 rfl (lv_at hl 0 rfl) ?_
          refine ji_iadd hx hb dXB_printSpans_21 ?_
          refine jwVv (rest := []) (wr := [(ba, .inr (0, [.ref bt, .ref bp, .ref bl, .ref bh, .ref bq, .ref br, .ref bd, .int (jI bg), .int (jI bf)])), (bl, .inl (cA, 248, .inl (jA fl))), (bh, .inl (cA, 248, .inl (jA fh)))]) ⟨hx, hb, hml, hown, hts⟩ (c_XP_put l dC dI cA _ pa ps q fa (65 + k) (by first | assumption | omega)) (cwV 1 hts (jG_V tw_585 tw_586 tw_587 tw_4 tw_588) rfl rfl rfl (by decide +kernel) (by rw [hR]; exact ⟨Nat.le_of_ble_eq_true rfl, Nat.le_of_ble_eq_true rfl⟩)) hK hP hD hS hA hN [3, 4] [0, 1, 2] rfl rfl (by decide) (by decide) (by decide) 3 1 rfl rfl rfl rfl hl.1 rfl (Nat.le_of_ble_eq_true rfl) dXB_printSpans_22 (by rw [hR]; exact ⟨Nat.le_of_ble_eq_true rfl, Nat.le_of_ble_eq_true rfl⟩) (fun u H locs hwb hP hD hS => ?_)
          obtain ⟨pn1', pf1'⟩ := u
          try dsimp only at hwb
          have hP : va_P (dC, dI) vwCl [(ba, .inr (0, [.ref bt, .ref bp, .ref bl, .ref bh, .ref bq, .ref br, .ref bd, .int (jI bg), .int (jI bf)])), (bl, .inl (cA, 248, .inl (jA fl))), (bh, .inl (cA, 248, .inl (jA fh))), (pa, .inr (1, [.ref ps, .int (jI pn1')])), (ps, .inl (cA, 160, .inl (jA pf1')))] H := hP
          have hD : va_D A [(ba, .inr (0, [.ref bt, .ref bp, .ref bl, .ref bh, .ref bq, .ref br, .ref bd, .int (jI bg), .int (jI bf)])), (bl, .inl (cA, 248, .inl (jA fl))), (bh, .inl (cA, 248, .inl (jA fh))), (pa, .inr (1, [.ref ps, .int (jI pn1')])), (ps, .inl (cA, 160, .inl (jA pf1')))] := hD
          have f2 := f_XP_put_b q fa (65 + k) (by first | assumption | omega)
          rw [← hwb] at f2; try dsimp only at f2
          refine lv_aload_n hx hb dXB_printSpans_25 rfl (lv_at hl 3 rfl) ?_
          refine lv_aload_n hx hb dXB_printSpans_26 rfl (lv_at hl 1 rfl) ?_
          refine va_get (D := (dC, dI)) (ci := 0) (v := .ref bl) (C := RXB) (T := TXB) (N := 9) hx hb hts (fun w h => jmem (inXB w h)) hown hK hP 0 rfl rfl 2 (by decide) (hts _ (jmem tw_75)) (fun _ h9 => h9) rfl dXB_printSpans_27 ?_
          refine lv_iload_n hx hb dXB_printSpans_30 rfl (lv_at hl 2 rfl) ?_
          refine ji_bipush hx hb dXB_printSpans_31 (by decide) ?_
          refine ji_imul hx hb dXB_printSpans_33 ?_
          refine lv_iload_n hx hb dXB_printSpans_34 rfl (lv_at hl 0 rfl) ?_
          refine ji_iadd hx hb dXB_printSpans_35 ?_
          refine ji_iald hx hb hK hP 1 0 rfl rfl ⟨by omega, by omega⟩ (by decide) dXB_printSpans_36 ?_
          have rb := hbl ((zg * 8) + k)
          refine jwVv (rest := []) (wr := [(ba, .inr (0, [.ref bt, .ref bp, .ref bl, .ref bh, .ref bq, .ref br, .ref bd, .int (jI bg), .int (jI bf)])), (bl, .inl (cA, 248, .inl (jA fl))), (bh, .inl (cA, 248, .inl (jA fh)))]) ⟨hx, hb, hml, hown, hts⟩ (c_XP_putNumber l dC dI cA _ pa ps pn1' pf1' (fl ((zg * 8) + k)) (by first | assumption | omega) (by first | assumption | omega)) (cwV 1 hts (jG_V tw_589 tw_590 tw_591 tw_4 tw_592) rfl rfl rfl (by decide +kernel) (by rw [hR]; exact ⟨Nat.le_of_ble_eq_true rfl, Nat.le_of_ble_eq_true rfl⟩)) hK hP hD hS hA hN [3, 4] [0, 1, 2] rfl rfl (by decide) (by decide) (by decide) 3 1 rfl rfl rfl rfl hl.1 rfl (Nat.le_of_ble_eq_true rfl) dXB_printSpans_37 (by rw [hR]; exact ⟨Nat.le_of_ble_eq_true rfl, Nat.le_of_ble_eq_true rfl⟩) (fun u5 H locs hwb6 hP hD hS => ?_)
          obtain ⟨pn1'3, pf1'4⟩ := u5
          try dsimp only at hwb6
          have hP : va_P (dC, dI) vwCl [(ba, .inr (0, [.ref bt, .ref bp, .ref bl, .ref bh, .ref bq, .ref br, .ref bd, .int (jI bg), .int (jI bf)])), (bl, .inl (cA, 248, .inl (jA fl))), (bh, .inl (cA, 248, .inl (jA fh))), (pa, .inr (1, [.ref ps, .int (jI pn1'3)])), (ps, .inl (cA, 160, .inl (jA pf1'4)))] H := hP
          have hD : va_D A [(ba, .inr (0, [.ref bt, .ref bp, .ref bl, .ref bh, .ref bq, .ref br, .ref bd, .int (jI bg), .int (jI bf)])), (bl, .inl (cA, 248, .inl (jA fl))), (bh, .inl (cA, 248, .inl (jA fh))), (pa, .inr (1, [.ref ps, .int (jI pn1'3)])), (ps, .inl (cA, 160, .inl (jA pf1'4)))] := hD
          have f7 := f_XP_putNumber_b pn1' pf1' (fl ((zg * 8) + k)) (by first | assumption | omega) (by first | assumption | omega)
          rw [← hwb6] at f7; try dsimp only at f7
          refine lv_aload_n hx hb dXB_printSpans_40 rfl (lv_at hl 3 rfl) ?_
          refine ji_bipush hx hb dXB_printSpans_41 (by decide) ?_
          refine jwVv (rest := []) (wr := [(ba, .inr (0, [.ref bt, .ref bp, .ref bl, .ref bh, .ref bq, .ref br, .ref bd, .int (jI bg), .int (jI bf)])), (bl, .inl (cA, 248, .inl (jA fl))), (bh, .inl (cA, 248, .inl (jA fh)))]) ⟨hx, hb, hml, hown, hts⟩ (c_XP_put l dC dI cA _ pa ps pn1'3 pf1'4 45 (by first | assumption | omega)) (cwV 1 hts (jG_V tw_585 tw_586 tw_587 tw_4 tw_588) rfl rfl rfl (by decide +kernel) (by rw [hR]; exact ⟨Nat.le_of_ble_eq_true rfl, Nat.le_of_ble_eq_true rfl⟩)) hK hP hD hS hA hN [3, 4] [0, 1, 2] rfl rfl (by decide) (by decide) (by decide) 3 1 rfl rfl rfl rfl hl.1 rfl (Nat.le_of_ble_eq_true rfl) dXB_printSpans_43 (by rw [hR]; exact ⟨Nat.le_of_ble_eq_true rfl, Nat.le_of_ble_eq_true rfl⟩) (fun u10 H locs hwb11 hP hD hS => ?_)
          obtain ⟨pn1'8, pf1'9⟩ := u10
          try dsimp only at hwb11
          have hP : va_P (dC, dI) vwCl [(ba, .inr (0, [.ref bt, .ref bp, .ref bl, .ref bh, .ref bq, .ref br, .ref bd, .int (jI bg), .int (jI bf)])), (bl, .inl (cA, 248, .inl (jA fl))), (bh, .inl (cA, 248, .inl (jA fh))), (pa, .inr (1, [.ref ps, .int (jI pn1'8)])), (ps, .inl (cA, 160, .inl (jA pf1'9)))] H := hP
          have hD : va_D A [(ba, .inr (0, [.ref bt, .ref bp, .ref bl, .ref bh, .ref bq, .ref br, .ref bd, .int (jI bg), .int (jI bf)])), (bl, .inl (cA, 248, .inl (jA fl))), (bh, .inl (cA, 248, .inl (jA fh))), (pa, .inr (1, [.ref ps, .int (jI pn1'8)])), (ps, .inl (cA, 160, .inl (jA pf1'9)))] := hD
          have f12 := f_XP_put_b pn1'3 pf1'4 45 (by first | assumption | omega)
          rw [← hwb11] at f12; try dsimp only at f12
          refine lv_aload_n hx hb dXB_printSpans_46 rfl (lv_at hl 3 rfl) ?_
          refine lv_aload_n hx hb dXB_printSpans_47 rfl (lv_at hl 1 rfl) ?_
          refine va_get (D := (dC, dI)) (ci := 0) (v := .ref bh) (C := RXB) (T := TXB) (N := 9) hx hb hts (fun w h => jmem (inXB w h)) hown hK hP 0 rfl rfl 3 (by decide) (hts _ (jmem tw_76)) (fun _ h9 => h9) rfl dXB_printSpans_48 ?_
          refine lv_iload_n hx hb dXB_printSpans_51 rfl (lv_at hl 2 rfl) ?_
          refine ji_bipush hx hb dXB_printSpans_52 (by decide) ?_
          refine ji_imul hx hb dXB_printSpans_54 ?_
          refine lv_iload_n hx hb dXB_printSpans_55 rfl (lv_at hl 0 rfl) ?_
          refine ji_iadd hx hb dXB_printSpans_56 ?_
          refine ji_iald hx hb hK hP 2 0 rfl rfl ⟨by omega, by omega⟩ (by decide) dXB_printSpans_57 ?_
          have rb13 := hbh ((zg * 8) + k)
          refine jwVv (rest := []) (wr := [(ba, .inr (0, [.ref bt, .ref bp, .ref bl, .ref bh, .ref bq, .ref br, .ref bd, .int (jI bg), .int (jI bf)])), (bl, .inl (cA, 248, .inl (jA fl))), (bh, .inl (cA, 248, .inl (jA fh)))]) ⟨hx, hb, hml, hown, hts⟩ (c_XP_putNumber l dC dI cA _ pa ps pn1'8 pf1'9 (fh ((zg * 8) + k)) (by first | assumption | omega) (by first | assumption | omega)) (cwV 1 hts (jG_V tw_589 tw_590 tw_591 tw_4 tw_592) rfl rfl rfl (by decide +kernel) (by rw [hR]; exact ⟨Nat.le_of_ble_eq_true rfl, Nat.le_of_ble_eq_true rfl⟩)) hK hP hD hS hA hN [3, 4] [0, 1, 2] rfl rfl (by decide) (by decide) (by decide) 3 1 rfl rfl rfl rfl hl.1 rfl (Nat.le_of_ble_eq_true rfl) dXB_printSpans_58 (by rw [hR]; exact ⟨Nat.le_of_ble_eq_true rfl, Nat.le_of_ble_eq_true rfl⟩) (fun u16 H locs hwb17 hP hD hS => ?_)
          obtain ⟨pn1'14, pf1'15⟩ := u16
          try dsimp only at hwb17
          have hP : va_P (dC, dI) vwCl [(ba, .inr (0, [.ref bt, .ref bp, .ref bl, .ref bh, .ref bq, .ref br, .ref bd, .int (jI bg), .int (jI bf)])), (bl, .inl (cA, 248, .inl (jA fl))), (bh, .inl (cA, 248, .inl (jA fh))), (pa, .inr (1, [.ref ps, .int (jI pn1'14)])), (ps, .inl (cA, 160, .inl (jA pf1'15)))] H := hP
          have hD : va_D A [(ba, .inr (0, [.ref bt, .ref bp, .ref bl, .ref bh, .ref bq, .ref br, .ref bd, .int (jI bg), .int (jI bf)])), (bl, .inl (cA, 248, .inl (jA fl))), (bh, .inl (cA, 248, .inl (jA fh))), (pa, .inr (1, [.ref ps, .int (jI pn1'14)])), (ps, .inl (cA, 160, .inl (jA pf1'15)))] := hD
          have f18 := f_XP_putNumber_b pn1'8 pf1'9 (fh ((zg * 8) + k)) (by first | assumption | omega) (by first | assumption | omega)
          rw [← hwb17] at f18; try dsimp only at f18
          refine ji_iinc (k := 0) (lv' := [(3, .int (jI (k + 1))), (0, .ref ba), (1, .int (jI zg)), (2, .ref pa)]) hx hb dXB_printSpans_61 hl rfl (by decide) rfl (fun ls hl => ?_)
          refine lv_goto (tgt := 2) hx hb dXB_printSpans_64 (by decide) ?_
          exact ih2 (k + 1) pn1'14 pf1'15 (by omega) (Eq.trans (by rw [f_XB_printSpans_L2_s]; rw [if_pos c5_, if_neg c14_]; rw [← hwb]; try dsimp only; rw [← hwb6]; try dsimp only; rw [← hwb11]; try dsimp only; rw [← hwb17]; try dsimp only; try rfl) hF) (by first | assumption | omega) (by first | assumption | omega) _ _ hP hD hS ls (lv_sub hl [0, 1, 2, 3] rfl)
  exact loop2 (Int.toNat (8 - 0) + 1) 0 pn pf (by omega) (Eq.trans (by rw [f_XB_printSpans_s]; try rfl) rfl) (by first | assumption | omega) (by first | assumption | omega) _ _ hP hD hS ls (lv_sub hl [0, 1, 2, 3] rfl)
noncomputable def g_XB_printRoutes_L18 (bg : Int) (bf : Int) (fr : Int → Int) (zg : Int) (pn : Int) (pf : Int → Int) : Nat → Int → Int → (Int → Int) → Int × (Int → Int)
  | 0, _, _, _ => (0, fun _ => 0)
  | n9 + 1, k, q, fa =>
    if k < 8 then
      if (f_XG_hasBit (fr zg) k) = 0 then
        g_XB_printRoutes_L18 bg bf fr zg pn pf n9 (k + 1) q fa
      else
        match f_XP_put q fa (48 + k) with
        | (pn1'3, pf1'4) =>
          g_XB_printRoutes_L18 bg bf fr zg pn pf n9 (k + 1) pn1'3 pf1'4
    else
      (q, fa)
noncomputable def f_XB_printRoutes_L18 : Int → Int → (Int → Int) → Int → Int → (Int → Int) → Nat → Int → Int → (Int → Int) → Int × (Int → Int) := jopq g_XB_printRoutes_L18
theorem f_XB_printRoutes_L18_q : f_XB_printRoutes_L18 = g_XB_printRoutes_L18 := jopq_eq _
theorem f_XB_printRoutes_L18_s (bg : Int) (bf : Int) (fr : Int → Int) (zg : Int) (pn : Int) (pf : Int → Int) (n9 : Nat) (k : Int) (q : Int) (fa : Int → Int) : f_XB_printRoutes_L18 bg bf fr zg pn pf (n9 + 1) k q fa = (
    if k < 8 then
      if (f_XG_hasBit (fr zg) k) = 0 then
        f_XB_printRoutes_L18 bg bf fr zg pn pf n9 (k + 1) q fa
      else
        match f_XP_put q fa (48 + k) with
        | (pn1'3, pf1'4) =>
          f_XB_printRoutes_L18 bg bf fr zg pn pf n9 (k + 1) pn1'3 pf1'4
    else
      (q, fa)
  : Int × (Int → Int)) := by rw [f_XB_printRoutes_L18_q]; rfl
theorem f_XB_printRoutes_L18_z (bg : Int) (bf : Int) (fr : Int → Int) (zg : Int) (pn : Int) (pf : Int → Int) (k : Int) (q : Int) (fa : Int → Int) : f_XB_printRoutes_L18 bg bf fr zg pn pf 0 k q fa = (0, fun _ => 0) := by rw [f_XB_printRoutes_L18_q]; rfl
noncomputable def g_XB_printRoutes (bg : Int) (bf : Int) (fr : Int → Int) (zg : Int) (pn : Int) (pf : Int → Int) : Int × (Int → Int) :=
  if (fr zg) = 0 then
    (pn, pf)
  else
    match f_XP_put pn pf 114 with
    | (pn1', pf1') =>
      f_XB_printRoutes_L18 bg bf fr zg pn pf (Int.toNat (8 - 0) + 1) 0 pn1' pf1'
noncomputable def f_XB_printRoutes : Int → Int → (Int → Int) → Int → Int → (Int → Int) → Int × (Int → Int) := jopq g_XB_printRoutes
theorem f_XB_printRoutes_q : f_XB_printRoutes = g_XB_printRoutes := jopq_eq _
theorem f_XB_printRoutes_s (bg : Int) (bf : Int) (fr : Int → Int) (zg : Int) (pn : Int) (pf : Int → Int) : f_XB_printRoutes bg bf fr zg pn pf = (
    if (fr zg) = 0 then
      (pn, pf)
    else
      match f_XP_put pn pf 114 with
      | (pn1', pf1') =>
        f_XB_printRoutes_L18 bg bf fr zg pn pf (Int.toNat (8 - 0) + 1) 0 pn1' pf1'
  : Int × (Int → Int)) := by rw [f_XB_printRoutes_q]; rfl
theorem f_XB_printRoutes_L (bg bf : Int) (fr : Int → Int) (zg pn : Int) (pf : Int → Int) : ∀ (n : Nat) (k q : Int) (fa : Int → Int), 0 ≤ q ∧ q ≤ 160 → 0 ≤ (f_XB_printRoutes_L18 bg bf fr zg pn pf n k q fa).1 ∧ (f_XB_printRoutes_L18 bg bf fr zg pn pf n k q fa).1 ≤ 160 := by
  intro n
  induction n with
  | zero => intro k q fa _; simp only [f_XB_printRoutes_L18_z] <;> omega
  | succ n ih =>
    intro k q fa h
    rw [f_XB_printRoutes_L18_s]
    simp only []
    split
    · split
      · exact ih _ _ _ h
      · exact ih _ _ _ (f_XP_put_b _ _ _ h)
    · exact h
theorem f_XB_printRoutes_b (bg : Int) (bf : Int) (fr : Int → Int) (zg : Int) (pn : Int) (pf : Int → Int) (hbr : ∀ i, 0 ≤ fr i ∧ fr i < 2147483648) (hzg : 0 ≤ zg ∧ zg ≤ 30) (hpn : 0 ≤ pn ∧ pn ≤ 160) : 0 ≤ (f_XB_printRoutes bg bf fr zg pn pf).1 ∧ (f_XB_printRoutes bg bf fr zg pn pf).1 ≤ 160 := by
  rw [f_XB_printRoutes_s]
  simp only []
  split
  · exact hpn
  · exact f_XB_printRoutes_L _ _ _ _ _ _ _ _ _ _ (f_XP_put_b _ _ _ hpn)
set_option maxHeartbeats 4000000 in
set_option maxRecDepth 100000 in
theorem c_XB_printRoutes (l : Launch) (dC : Nat → ClassId) (dI : Nat → Nat → Nat) (cA : ClassId) (sz : Nat) (ba : Nat) (bt : Nat) (bp : Nat) (bl : Nat) (bh : Nat) (bq : Nat) (br : Nat) (bd : Nat) (bg : Int) (bf : Int) (fr : Int → Int) (zg : Int) (pa : Nat) (ps : Nat) (pn : Int) (pf : Int → Int) (hbr : ∀ i, 0 ≤ fr i ∧ fr i < 2147483648) (hzg : 0 ≤ zg ∧ zg ≤ 30) (hpn : 0 ≤ pn ∧ pn ≤ 160) : Met l yXB_printRoutes (Cond.code yXB_printRoutes cXB_printRoutes 4 none :: TBL) ({ frames := 1, cells := 0, slots := 0, locals := 21 } : Room) (va_Pc [.ref ba, .int (jI zg), .ref pa] (jBw (dC, dI) [(cA, .int)] [(ba, .inr (0, [.ref bt, .ref bp, .ref bl, .ref bh, .ref bq, .ref br, .ref bd, .int (jI bg), .int (jI bf)])), (br, .inl (cA, 31, .inl (jA fr))), (pa, .inr (1, [.ref ps, .int (jI pn)])), (ps, .inl (cA, 160, .inl (jA pf)))] sz)) (va_Qv (fun (u : Int × (Int → Int)) => u = f_XB_printRoutes bg bf fr zg pn pf) (fun u t => jE (dC, dI) [(cA, .int)] [(ba, .inr (0, [.ref bt, .ref bp, .ref bl, .ref bh, .ref bq, .ref br, .ref bd, .int (jI bg), .int (jI bf)])), (br, .inl (cA, 31, .inl (jA fr))), (pa, .inr (1, [.ref ps, .int (jI pn)])), (ps, .inl (cA, 160, .inl (jA pf)))] sz [(ba, .inr (0, [.ref bt, .ref bp, .ref bl, .ref bh, .ref bq, .ref br, .ref bd, .int (jI bg), .int (jI bf)])), (br, .inl (cA, 31, .inl (jA fr))), (pa, .inr (1, [.ref ps, .int (jI u.1)])), (ps, .inl (cA, 160, .inl (jA u.2)))] t) (va_A [(ba, .inr (0, [.ref bt, .ref bp, .ref bl, .ref bh, .ref bq, .ref br, .ref bd, .int (jI bg), .int (jI bf)])), (br, .inl (cA, 31, .inl (jA fr))), (pa, .inr (1, [.ref ps, .int (jI pn)])), (ps, .inl (cA, 160, .inl (jA pf)))] sz)) 0 0 (va_A [(ba, .inr (0, [.ref bt, .ref bp, .ref bl, .ref bh, .ref bq, .ref br, .ref bd, .int (jI bg), .int (jI bf)])), (br, .inl (cA, 31, .inl (jA fr))), (pa, .inr (1, [.ref ps, .int (jI pn)])), (ps, .inl (cA, 160, .inl (jA pf)))] sz) := by
  refine jMet (cc := cXB_printRoutes) (maxL := 4) (ret := none) (by decide) rfl ?_
  intro p e s m args below meth c s₁ R Q hR hQ B hml hv
  obtain ⟨rfl, hsz, hP, hK, hD0, hN⟩ := hv
  have hx := B.exec
  have hb := B.bytes
  have hr := B.returns
  have hts := atoms_spec (ws := Cond.code yXB_printRoutes cXB_printRoutes 4 none :: TBL) B.pre
  have hown : s.vm.findClass RXB = some m.cls := findClass_of_methodNamed B.named
  have hlocks := B.notSynchronized
  subst hsz
  obtain ⟨A, hAe⟩ : ∃ A, A = va_A [(ba, .inr (0, [.ref bt, .ref bp, .ref bl, .ref bh, .ref bq, .ref br, .ref bd, .int (jI bg), .int (jI bf)])), (br, .inl (cA, 31, .inl (jA fr))), (pa, .inr (1, [.ref ps, .int (jI pn)])), (ps, .inl (cA, 160, .inl (jA pf)))] s.heap.size := ⟨_, rfl⟩
  have hD : va_D A [(ba, .inr (0, [.ref bt, .ref bp, .ref bl, .ref bh, .ref bq, .ref br, .ref bd, .int (jI bg), .int (jI bf)])), (br, .inl (cA, 31, .inl (jA fr))), (pa, .inr (1, [.ref ps, .int (jI pn)])), (ps, .inl (cA, 160, .inl (jA pf)))] := by rw [hAe]; exact hD0.self
  have hA : ∀ q : Nat, s.heap.size ≤ q → A q := fun q h => by rw [hAe]; exact Or.inr h
  have hS : va_S A s.heap s.heap [] := va_S.rf
  have hP : va_P (dC, dI) vwCl [(ba, .inr (0, [.ref bt, .ref bp, .ref bl, .ref bh, .ref bq, .ref br, .ref bd, .int (jI bg), .int (jI bf)])), (br, .inl (cA, 31, .inl (jA fr))), (pa, .inr (1, [.ref ps, .int (jI pn)])), (ps, .inl (cA, 160, .inl (jA pf)))] s.heap := hP
  have hl := lv_entry ([.ref ba, .int (jI zg), .ref pa]) (n := 4) (Nat.le_of_ble_eq_true rfl)
  rw [lg_entry_eq]
  generalize (lg_sl ([.ref ba, .int (jI zg), .ref pa]) ++ List.replicate (4 - (lg_sl ([.ref ba, .int (jI zg), .ref pa])).length) Slot.unset).toArray = ls at hl ⊢
  have hl : lv_has ls 4 [(0, .ref ba), (1, .int (jI zg)), (2, .ref pa)] := hl
  refine lv_aload_n hx hb dXB_printRoutes_0 rfl (lv_at hl 0 rfl) ?_
  refine va_get (D := (dC, dI)) (ci := 0) (v := .ref br) (C := RXB) (T := TXB) (N := 9) hx hb hts (fun w h => jmem (inXB w h)) hown hK hP 0 rfl rfl 5 (by decide) (hts _ (jmem tw_78)) (fun _ h9 => h9) rfl dXB_printRoutes_1 ?_
  refine lv_iload_n hx hb dXB_printRoutes_4 rfl (lv_at hl 1 rfl) ?_
  refine ji_iald hx hb hK hP 1 0 rfl rfl ⟨by omega, by omega⟩ (by decide) dXB_printRoutes_5 ?_
  have rb := hbr zg
  refine ji_if_ne (tgt := 10) hx hb dXB_printRoutes_6 (by decide) (by omega) (fun c6_ => ?_) (fun c6_ => ?_)
  · refine lv_aload_n hx hb dXB_printRoutes_10 rfl (lv_at hl 2 rfl) ?_
    refine ji_bipush hx hb dXB_printRoutes_11 (by decide) ?_
    refine jwVv (rest := []) (wr := [(ba, .inr (0, [.ref bt, .ref bp, .ref bl, .ref bh, .ref bq, .ref br, .ref bd, .int (jI bg), .int (jI bf)])), (br, .inl (cA, 31, .inl (jA fr)))]) ⟨hx, hb, hml, hown, hts⟩ (c_XP_put l dC dI cA _ pa ps pn pf 114 (by first | assumption | omega)) (cwV 1 hts (jG_V tw_585 tw_586 tw_587 tw_4 tw_588) rfl rfl rfl (by decide +kernel) (by rw [hR]; exact ⟨Nat.le_of_ble_eq_true rfl, Nat.le_of_ble_eq_true rfl⟩)) hK hP hD hS hA hN [2, 3] [0, 1] rfl rfl (by decide) (by decide) (by decide) 2 1 rfl rfl rfl rfl hl.1 rfl (Nat.le_of_ble_eq_true rfl) dXB_printRoutes_13 (by rw [hR]; exact ⟨Nat.le_of_ble_eq_true rfl, Nat.le_of_ble_eq_true rfl⟩) (fun u H locs hwb hP hD hS => ?_)
    obtain ⟨pn1', pf1'⟩ := u
    try dsimp only at hwb
    have hP : va_P (dC, dI) vwCl [(ba, .inr (0, [.ref bt, .ref bp, .ref bl, .ref bh, .ref bq, .ref br, .ref bd, .int (jI bg), .int (jI bf)])), (br, .inl (cA, 31, .inl (jA fr))), (pa, .inr (1, [.ref ps, .int (jI pn1')])), (ps, .inl (cA, 160, .inl (jA pf1')))] H := hP
    have hD : va_D A [(ba, .inr (0, [.ref bt, .ref bp, .ref bl, .ref bh, .ref bq, .ref br, .ref bd, .int (jI bg), .int (jI bf)])), (br, .inl (cA, 31, .inl (jA fr))), (pa, .inr (1, [.ref ps, .int (jI pn1')])), (ps, .inl (cA, 160, .inl (jA pf1')))] := hD
    have f := f_XP_put_b pn pf 114 (by first | assumption | omega)
    rw [← hwb] at f; try dsimp only at f
    refine ji_iconst hx hb dXB_printRoutes_16 ?_
    refine lv_istore_n (lv' := [(3, .int (jI 0)), (0, .ref ba), (1, .int (jI zg)), (2, .ref pa)]) hx hb dXB_printRoutes_17 rfl hl (by decide) rfl (fun ls hl => ?_)
    have loop18 : ∀ (n9 : Nat) (k : Int) (q : Int) (fa : Int → Int) , 8 - k < (n9 : Int) → f_XB_printRoutes_L18 bg bf fr zg pn pf n9 k q fa = f_XB_printRoutes bg bf fr zg pn pf → (0 ≤ k ∧ k ≤ 8) → (0 ≤ q ∧ q ≤ 160) → ∀ (H : Heap) (locs : List Loc), va_P (dC, dI) vwCl [(ba, .inr (0, [.ref bt, .ref bp, .ref bl, .ref bh, .ref bq, .ref br, .ref bd, .int (jI bg), .int (jI bf)])), (br, .inl (cA, 31, .inl (jA fr))), (pa, .inr (1, [.ref ps, .int (jI q)])), (ps, .inl (cA, 160, .inl (jA fa)))] H → va_D A [(ba, .inr (0, [.ref bt, .ref bp, .ref bl, .ref bh, .ref bq, .ref br, .ref bd, .int (jI bg), .int (jI bf)])), (br, .inl (cA, 31, .inl (jA fr))), (pa, .inr (1, [.ref ps, .int (jI q)])), (ps, .inl (cA, 160, .inl (jA fa)))] → va_S A s.heap H locs → ∀ ls : Array Slot, lv_has ls 4 [(3, .int (jI k)), (0, .ref ba), (1, .int (jI zg)), (2, .ref pa)] → W p l e R s m ([.ref ba, .int (jI zg), .ref pa] : List Value).toArray below meth c H locs 0 0 Q (F0 m 18 ls []) := by
      intro n9
      induction n9 with
      | zero =>
        intro k q fa hm hF hk hq
        exact absurd hm (by omega)
      | succ n9 ih18 =>
        intro k q fa hm hF hk hq H locs hP hD hS ls hl
        refine lv_iload_n hx hb dXB_printRoutes_18 rfl (lv_at hl 0 rfl) ?_
        refine ji_bipush hx hb dXB_printRoutes_19 (by decide) ?_
        refine ji_icmp_ge (tgt := 51) hx hb dXB_printRoutes_21 (by decide) (by omega) (by omega) (fun c21_ => ?_) (fun c21_ => ?_)
        · have hP9 := hP.sub (ws' := [(ba, .inr (0, [.ref bt, .ref bp, .ref bl, .ref bh, .ref bq, .ref br, .ref bd, .int (jI bg), .int (jI bf)])), (br, .inl (cA, 31, .inl (jA fr))), (pa, .inr (1, [.ref ps, .int (jI q)])), (ps, .inl (cA, 160, .inl (jA fa)))]) [0, 1, 2, 3] rfl
          have hD9 := hD.sub (ws' := [(ba, .inr (0, [.ref bt, .ref bp, .ref bl, .ref bh, .ref bq, .ref br, .ref bd, .int (jI bg), .int (jI bf)])), (br, .inl (cA, 31, .inl (jA fr))), (pa, .inr (1, [.ref ps, .int (jI q)])), (ps, .inl (cA, 160, .inl (jA fa)))]) [0, 1, 2, 3] (by decide) rfl
          subst hAe
          subst hQ
          exact W.vret hx hb hr (fun t ht hW => ⟨⟨(q, fa), rfl, Eq.trans (by rw [f_XB_printRoutes_L18_s]; rw [if_neg (Int.not_lt.mpr c21_)]; try rfl) hF, ⟨by rw [ht]; exact hP9, va_K.moved hW.alike hK, hD9⟩⟩, hS.F ht⟩) hS.2.2 dXB_printRoutes_51
        · refine lv_aload_n hx hb dXB_printRoutes_24 rfl (lv_at hl 1 rfl) ?_
          refine va_get (D := (dC, dI)) (ci := 0) (v := .ref br) (C := RXB) (T := TXB) (N := 9) hx hb hts (fun w h => jmem (inXB w h)) hown hK hP 0 rfl rfl 5 (by decide) (hts _ (jmem tw_78)) (fun _ h9 => h9) rfl dXB_printRoutes_25 ?_
          refine lv_iload_n hx hb dXB_printRoutes_28 rfl (lv_at hl 2 rfl) ?_
          refine ji_iald hx hb hK hP 1 0 rfl rfl ⟨by omega, by omega⟩ (by decide) dXB_printRoutes_29 ?_
          have rb1 := hbr zg
          refine lv_iload_n hx hb dXB_printRoutes_30 rfl (lv_at hl 0 rfl) ?_
          refine jrNi (rest := []) ⟨hx, hb, hml, hown, hts⟩ (c_XG_hasBit l dC dI cA (fr zg) k (by first | assumption | omega) (by first | assumption | omega)) ⟨va_cnB 2 hts (jG (jG_c tw_173)) rfl rfl rfl (jN.n171 hN) (hts _ (jmem tw_1)) (by decide +kernel) (by rw [hR]; exact ⟨Nat.le_of_ble_eq_true rfl, Nat.le_of_ble_eq_true rfl⟩), hts _ (jmem tw_172), trivial⟩ hK hP hN [] rfl rfl hl.1 rfl (Nat.le_of_ble_eq_true rfl) dXB_printRoutes_31 (by rw [hR]; exact ⟨Nat.le_of_ble_eq_true rfl, Nat.le_of_ble_eq_true rfl⟩) ?_
          have f2 := f_XG_hasBit_01 (fr zg) k (by first | assumption | omega) (by first | assumption | omega)
          refine ji_if_eq (tgt := 45) hx hb dXB_printRoutes_34 (by decide) (by omega) (fun c34_ => ?_) (fun c34_ => ?_)
          · refine ji_iinc (k := 0) (lv' := [(3, .int (jI (k + 1))), (0, .ref ba), (1, .int (jI zg)), (2, .ref pa)]) hx hb dXB_printRoutes_45 hl rfl (by decide) rfl (fun ls hl => ?_)
            refine lv_goto (tgt := 18) hx hb dXB_printRoutes_48 (by decide) ?_
            exact ih18 (k + 1) q fa (by omega) (Eq.trans (by rw [f_XB_printRoutes_L18_s]; rw [if_pos c21_, if_pos c34_]; try rfl) hF) (by first | assumption | omega) (by first | assumption | omega) _ _ hP hD hS ls (lv_sub hl [0, 1, 2, 3] rfl)
          · refine lv_aload_n hx hb dXB_printRoutes_37 rfl (lv_at hl 3 rfl) ?_
            refine ji_bipush hx hb dXB_printRoutes_38 (by decide) ?_
            refine lv_iload_n hx hb dXB_printRoutes_40 rfl (lv_at hl 0 rfl) ?_
            refine ji_iadd hx hb dXB_printRoutes_41 ?_
            refine jwVv (rest := []) (wr := [(ba, .inr (0, [.ref bt, .ref bp, .ref bl, .ref bh, .ref bq, .ref br, .ref bd, .int (jI bg), .int (jI bf)])), (br, .inl (cA, 31, .inl (jA fr)))]) ⟨hx, hb, hml, hown, hts⟩ (c_XP_put l dC dI cA _ pa ps q fa (48 + k) (by first | assumption | omega)) (cwV 1 hts (jG_V tw_585 tw_586 tw_587 tw_4 tw_588) rfl rfl rfl (by decide +kernel) (by rw [hR]; exact ⟨Nat.le_of_ble_eq_true rfl, Nat.le_of_ble_eq_true rfl⟩)) hK hP hD hS hA hN [2, 3] [0, 1] rfl rfl (by decide) (by decide) (by decide) 2 1 rfl rfl rfl rfl hl.1 rfl (Nat.le_of_ble_eq_true rfl) dXB_printRoutes_42 (by rw [hR]; exact ⟨Nat.le_of_ble_eq_true rfl, Nat.le_of_ble_eq_true rfl⟩) (fun u5 H locs hwb6 hP hD hS => ?_)
            obtain ⟨pn1'3, pf1'4⟩ := u5
            try dsimp only at hwb6
            have hP : va_P (dC, dI) vwCl [(ba, .inr (0, [.ref bt, .ref bp, .ref bl, .ref bh, .ref bq, .ref br, .ref bd, .int (jI bg), .int (jI bf)])), (br, .inl (cA, 31, .inl (jA fr))), (pa, .inr (1, [.ref ps, .int (jI pn1'3)])), (ps, .inl (cA, 160, .inl (jA pf1'4)))] H := hP
            have hD : va_D A [(ba, .inr (0, [.ref bt, .ref bp, .ref bl, .ref bh, .ref bq, .ref br, .ref bd, .int (jI bg), .int (jI bf)])), (br, .inl (cA, 31, .inl (jA fr))), (pa, .inr (1, [.ref ps, .int (jI pn1'3)])), (ps, .inl (cA, 160, .inl (jA pf1'4)))] := hD
            have f7 := f_XP_put_b q fa (48 + k) (by first | assumption | omega)
            rw [← hwb6] at f7; try dsimp only at f7
            refine ji_iinc (k := 0) (lv' := [(3, .int (jI (k + 1))), (0, .ref ba), (1, .int (jI zg)), (2, .ref pa)]) hx hb dXB_printRoutes_45 hl rfl (by decide) rfl (fun ls hl => ?_)
            refine lv_goto (tgt := 18) hx hb dXB_printRoutes_48 (by decide) ?_
            exact ih18 (k + 1) pn1'3 pf1'4 (by omega) (Eq.trans (by rw [f_XB_printRoutes_L18_s]; rw [if_pos c21_, if_neg c34_]; rw [← hwb6]; try dsimp only; try rfl) hF) (by first | assumption | omega) (by first | assumption | omega) _ _ hP hD hS ls (lv_sub hl [0, 1, 2, 3] rfl)
    exact loop18 (Int.toNat (8 - 0) + 1) 0 pn1' pf1' (by omega) (Eq.trans (by rw [f_XB_printRoutes_s]; rw [if_neg c6_]; rw [← hwb]; try dsimp only; try rfl) rfl) (by first | assumption | omega) (by first | assumption | omega) _ _ hP hD hS ls (lv_sub hl [0, 1, 2, 3] rfl)
  · have hP9 := hP.sub (ws' := [(ba, .inr (0, [.ref bt, .ref bp, .ref bl, .ref bh, .ref bq, .ref br, .ref bd, .int (jI bg), .int (jI bf)])), (br, .inl (cA, 31, .inl (jA fr))), (pa, .inr (1, [.ref ps, .int (jI pn)])), (ps, .inl (cA, 160, .inl (jA pf)))]) [0, 1, 2, 3] rfl
    have hD9 := hD.sub (ws' := [(ba, .inr (0, [.ref bt, .ref bp, .ref bl, .ref bh, .ref bq, .ref br, .ref bd, .int (jI bg), .int (jI bf)])), (br, .inl (cA, 31, .inl (jA fr))), (pa, .inr (1, [.ref ps, .int (jI pn)])), (ps, .inl (cA, 160, .inl (jA pf)))]) [0, 1, 2, 3] (by decide) rfl
    subst hAe
    subst hQ
    exact W.vret hx hb hr (fun t ht hW => ⟨⟨(pn, pf), rfl, Eq.trans (by rw [f_XB_printRoutes_s]; rw [if_pos c6_]; try rfl) rfl, ⟨by rw [ht]; exact hP9, va_K.moved hW.alike hK, hD9⟩⟩, hS.F ht⟩) hS.2.2 dXB_printRoutes_9
noncomputable def g_XB_printLimits_L2 (bg : Int) (bf : Int) (fq : Int → Int) (zg : Int) (pn : Int) (pf : Int → Int) : Nat → Int → Int → (Int → Int) → Int × (Int → Int)
  | 0, _, _, _ => (0, fun _ => 0)
  | n9 + 1, k, q, fa =>
    if k < 4 then
      if (f_XB_tellsLimit bg bf fq zg k) = 0 then
        g_XB_printLimits_L2 bg bf fq zg pn pf n9 (k + 1) q fa
      else
        match f_XP_put q fa 113 with
        | (pn1', pf1') =>
          match f_XP_put pn1' pf1' (48 + k) with
          | (pn1'3, pf1'4) =>
            match f_XP_put pn1'3 pf1'4 60 with
            | (pn1'8, pf1'9) =>
              match f_XP_putNumber pn1'8 pf1'9 (fq ((zg * 4) + k)) with
              | (pn1'13, pf1'14) =>
                g_XB_printLimits_L2 bg bf fq zg pn pf n9 (k + 1) pn1'13 pf1'14
    else
      (q, fa)
noncomputable def f_XB_printLimits_L2 : Int → Int → (Int → Int) → Int → Int → (Int → Int) → Nat → Int → Int → (Int → Int) → Int × (Int → Int) := jopq g_XB_printLimits_L2
theorem f_XB_printLimits_L2_q : f_XB_printLimits_L2 = g_XB_printLimits_L2 := jopq_eq _
theorem f_XB_printLimits_L2_s (bg : Int) (bf : Int) (fq : Int → Int) (zg : Int) (pn : Int) (pf : Int → Int) (n9 : Nat) (k : Int) (q : Int) (fa : Int → Int) : f_XB_printLimits_L2 bg bf fq zg pn pf (n9 + 1) k q fa = (
    if k < 4 then
      if (f_XB_tellsLimit bg bf fq zg k) = 0 then
        f_XB_printLimits_L2 bg bf fq zg pn pf n9 (k + 1) q fa
      else
        match f_XP_put q fa 113 with
        | (pn1', pf1') =>
          match f_XP_put pn1' pf1' (48 + k) with
          | (pn1'3, pf1'4) =>
            match f_XP_put pn1'3 pf1'4 60 with
            | (pn1'8, pf1'9) =>
              match f_XP_putNumber pn1'8 pf1'9 (fq ((zg * 4) + k)) with
              | (pn1'13, pf1'14) =>
                f_XB_printLimits_L2 bg bf fq zg pn pf n9 (k + 1) pn1'13 pf1'14
    else
      (q, fa)
  : Int × (Int → Int)) := by rw [f_XB_printLimits_L2_q]; rfl
theorem f_XB_printLimits_L2_z (bg : Int) (bf : Int) (fq : Int → Int) (zg : Int) (pn : Int) (pf : Int → Int) (k : Int) (q : Int) (fa : Int → Int) : f_XB_printLimits_L2 bg bf fq zg pn pf 0 k q fa = (0, fun _ => 0) := by rw [f_XB_printLimits_L2_q]; rfl
noncomputable def g_XB_printLimits (bg : Int) (bf : Int) (fq : Int → Int) (zg : Int) (pn : Int) (pf : Int → Int) : Int × (Int → Int) :=
  f_XB_printLimits_L2 bg bf fq zg pn pf (Int.toNat (4 - 0) + 1) 0 pn pf
noncomputable def f_XB_printLimits : Int → Int → (Int → Int) → Int → Int → (Int → Int) → Int × (Int → Int) := jopq g_XB_printLimits
theorem f_XB_printLimits_q : f_XB_printLimits = g_XB_printLimits := jopq_eq _
theorem f_XB_printLimits_s (bg : Int) (bf : Int) (fq : Int → Int) (zg : Int) (pn : Int) (pf : Int → Int) : f_XB_printLimits bg bf fq zg pn pf = (
    f_XB_printLimits_L2 bg bf fq zg pn pf (Int.toNat (4 - 0) + 1) 0 pn pf
  : Int × (Int → Int)) := by rw [f_XB_printLimits_q]; rfl
theorem f_XB_printLimits_L (bg bf : Int) (fq : Int → Int) (zg pn : Int) (pf : Int → Int) (hbq : ∀ i, -1 ≤ fq i ∧ fq i ≤ 999999) (hzg : 0 ≤ zg ∧ zg ≤ 30) : ∀ (n : Nat) (k q : Int) (fa : Int → Int), 0 ≤ k → 0 ≤ q ∧ q ≤ 160 → 0 ≤ (f_XB_printLimits_L2 bg bf fq zg pn pf n k q fa).1 ∧ (f_XB_printLimits_L2 bg bf fq zg pn pf n k q fa).1 ≤ 160 := by
  intro n
  induction n with
  | zero => intro k q fa _ _; simp only [f_XB_printLimits_L2_z] <;> omega
  | succ n ih =>
    intro k q fa h0 h
    rw [f_XB_printLimits_L2_s]
    simp only []
    split
    · split
      · exact ih _ _ _ (by omega) h
      · have hc := f_XB_tellsLimit_c bg bf fq zg k hbq hzg (by omega)
        have hb := f_XB_tellsLimit_b bg bf fq zg k hbq hzg (by omega)
        have hh := hbq (zg * 4 + k)
        exact ih _ _ _ (by omega) (f_XP_putNumber_b _ _ _ (f_XP_put_b _ _ _ (f_XP_put_b _ _ _ (f_XP_put_b _ _ _ h))) (by omega))
    · exact h
theorem f_XB_printLimits_b (bg : Int) (bf : Int) (fq : Int → Int) (zg : Int) (pn : Int) (pf : Int → Int) (hbq : ∀ i, -1 ≤ fq i ∧ fq i ≤ 999999) (hzg : 0 ≤ zg ∧ zg ≤ 30) (hpn : 0 ≤ pn ∧ pn ≤ 160) : 0 ≤ (f_XB_printLimits bg bf fq zg pn pf).1 ∧ (f_XB_printLimits bg bf fq zg pn pf).1 ≤ 160 := by rw [f_XB_printLimits_s]; exact f_XB_printLimits_L _ _ _ _ _ _ hbq hzg _ _ _ _ (by omega) hpn
set_option maxHeartbeats 4000000 in
set_option maxRecDepth 100000 in
theorem c_XB_printLimits (l : Launch) (dC : Nat → ClassId) (dI : Nat → Nat → Nat) (cA : ClassId) (sz : Nat) (ba : Nat) (bt : Nat) (bp : Nat) (bl : Nat) (bh : Nat) (bq : Nat) (br : Nat) (bd : Nat) (bg : Int) (bf : Int) (fq : Int → Int) (zg : Int) (pa : Nat) (ps : Nat) (pn : Int) (pf : Int → Int) (hbq : ∀ i, -1 ≤ fq i ∧ fq i ≤ 999999) (hzg : 0 ≤ zg ∧ zg ≤ 30) (hpn : 0 ≤ pn ∧ pn ≤ 160) : Met l yXB_printLimits (Cond.code yXB_printLimits cXB_printLimits 4 none :: TBL) ({ frames := 2, cells := 0, slots := 0, locals := 43 } : Room) (va_Pc [.ref ba, .int (jI zg), .ref pa] (jBw (dC, dI) [(cA, .int)] [(ba, .inr (0, [.ref bt, .ref bp, .ref bl, .ref bh, .ref bq, .ref br, .ref bd, .int (jI bg), .int (jI bf)])), (bq, .inl (cA, 124, .inl (jA fq))), (pa, .inr (1, [.ref ps, .int (jI pn)])), (ps, .inl (cA, 160, .inl (jA pf)))] sz)) (va_Qv (fun (u : Int × (Int → Int)) => u = f_XB_printLimits bg bf fq zg pn pf) (fun u t => jE (dC, dI) [(cA, .int)] [(ba, .inr (0, [.ref bt, .ref bp, .ref bl, .ref bh, .ref bq, .ref br, .ref bd, .int (jI bg), .int (jI bf)])), (bq, .inl (cA, 124, .inl (jA fq))), (pa, .inr (1, [.ref ps, .int (jI pn)])), (ps, .inl (cA, 160, .inl (jA pf)))] sz [(ba, .inr (0, [.ref bt, .ref bp, .ref bl, .ref bh, .ref bq, .ref br, .ref bd, .int (jI bg), .int (jI bf)])), (bq, .inl (cA, 124, .inl (jA fq))), (pa, .inr (1, [.ref ps, .int (jI u.1)])), (ps, .inl (cA, 160, .inl (jA u.2)))] t) (va_A [(ba, .inr (0, [.ref bt, .ref bp, .ref bl, .ref bh, .ref bq, .ref br, .ref bd, .int (jI bg), .int (jI bf)])), (bq, .inl (cA, 124, .inl (jA fq))), (pa, .inr (1, [.ref ps, .int (jI pn)])), (ps, .inl (cA, 160, .inl (jA pf)))] sz)) 0 0 (va_A [(ba, .inr (0, [.ref bt, .ref bp, .ref bl, .ref bh, .ref bq, .ref br, .ref bd, .int (jI bg), .int (jI bf)])), (bq, .inl (cA, 124, .inl (jA fq))), (pa, .inr (1, [.ref ps, .int (jI pn)])), (ps, .inl (cA, 160, .inl (jA pf)))] sz) := by
  refine jMet (cc := cXB_printLimits) (maxL := 4) (ret := none) (by decide) rfl ?_
  intro p e s m args below meth c s₁ R Q hR hQ B hml hv
  obtain ⟨rfl, hsz, hP, hK, hD0, hN⟩ := hv
  have hx := B.exec
  have hb := B.bytes
  have hr := B.returns
  have hts := atoms_spec (ws := Cond.code yXB_printLimits cXB_printLimits 4 none :: TBL) B.pre
  have hown : s.vm.findClass RXB = some m.cls := findClass_of_methodNamed B.named
  have hlocks := B.notSynchronized
  subst hsz
  obtain ⟨A, hAe⟩ : ∃ A, A = va_A [(ba, .inr (0, [.ref bt, .ref bp, .ref bl, .ref bh, .ref bq, .ref br, .ref bd, .int (jI bg), .int (jI bf)])), (bq, .inl (cA, 124, .inl (jA fq))), (pa, .inr (1, [.ref ps, .int (jI pn)])), (ps, .inl (cA, 160, .inl (jA pf)))] s.heap.size := ⟨_, rfl⟩
  have hD : va_D A [(ba, .inr (0, [.ref bt, .ref bp, .ref bl, .ref bh, .ref bq, .ref br, .ref bd, .int (jI bg), .int (jI bf)])), (bq, .inl (cA, 124, .inl (jA fq))), (pa, .inr (1, [.ref ps, .int (jI pn)])), (ps, .inl (cA, 160, .inl (jA pf)))] := by rw [hAe]; exact hD0.self
  have hA : ∀ q : Nat, s.heap.size ≤ q → A q := fun q h => by rw [hAe]; exact Or.inr h
  have hS : va_S A s.heap s.heap [] := va_S.rf
  have hP : va_P (dC, dI) vwCl [(ba, .inr (0, [.ref bt, .ref bp, .ref bl, .ref bh, .ref bq, .ref br, .ref bd, .int (jI bg), .int (jI bf)])), (bq, .inl (cA, 124, .inl (jA fq))), (pa, .inr (1, [.ref ps, .int (jI pn)])), (ps, .inl (cA, 160, .inl (jA pf)))] s.heap := hP
  have hl := lv_entry ([.ref ba, .int (jI zg), .ref pa]) (n := 4) (Nat.le_of_ble_eq_true rfl)
  rw [lg_entry_eq]
  generalize (lg_sl ([.ref ba, .int (jI zg), .ref pa]) ++ List.replicate (4 - (lg_sl ([.ref ba, .int (jI zg), .ref pa])).length) Slot.unset).toArray = ls at hl ⊢
  have hl : lv_has ls 4 [(0, .ref ba), (1, .int (jI zg)), (2, .ref pa)] := hl
  refine ji_iconst hx hb dXB_printLimits_0 ?_
  refine lv_istore_n (lv' := [(3, .int (jI 0)), (0, .ref ba), (1, .int (jI zg)), (2, .ref pa)]) hx hb dXB_printLimits_1 rfl hl (by decide) rfl (fun ls hl => ?_)
  have loop2 : ∀ (n9 : Nat) (k : Int) (q : Int) (fa : Int → Int) , 4 - k < (n9 : Int) → f_XB_printLimits_L2 bg bf fq zg pn pf n9 k q fa = f_XB_printLimits bg bf fq zg pn pf → (0 ≤ k ∧ k ≤ 4) → (0 ≤ q ∧ q ≤ 160) → ∀ (H : Heap) (locs : List Loc), va_P (dC, dI) vwCl [(ba, .inr (0, [.ref bt, .ref bp, .ref bl, .ref bh, .ref bq, .ref br, .ref bd, .int (jI bg), .int (jI bf)])), (bq, .inl (cA, 124, .inl (jA fq))), (pa, .inr (1, [.ref ps, .int (jI q)])), (ps, .inl (cA, 160, .inl (jA fa)))] H → va_D A [(ba, .inr (0, [.ref bt, .ref bp, .ref bl, .ref bh, .ref bq, .ref br, .ref bd, .int (jI bg), .int (jI bf)])), (bq, .inl (cA, 124, .inl (jA fq))), (pa, .inr (1, [.ref ps, .int (jI q)])), (ps, .inl (cA, 160, .inl (jA fa)))] → va_S A s.heap H locs → ∀ ls : Array Slot, lv_has ls 4 [(3, .int (jI k)), (0, .ref ba), (1, .int (jI zg)), (2, .ref pa)] → W p l e R s m ([.ref ba, .int (jI zg), .ref pa] : List Value).toArray below meth c H locs 0 0 Q (F0 m 2 ls []) := by
    intro n9
    induction n9 with
    | zero =>
      intro k q fa hm hF hk hq
      exact absurd hm (by omega)
    | succ n9 ih2 =>
      intro k q fa hm hF hk hq H locs hP hD hS ls hl
      refine lv_iload_n hx hb dXB_printLimits_2 rfl (lv_at hl 0 rfl) ?_
      refine ji_iconst hx hb dXB_printLimits_3 ?_
      refine ji_icmp_ge (tgt := 56) hx hb dXB_printLimits_4 (by decide) (by omega) (by omega) (fun c4_ => ?_) (fun c4_ => ?_)
      · have hP9 := hP.sub (ws' := [(ba, .inr (0, [.ref bt, .ref bp, .ref bl, .ref bh, .ref bq, .ref br, .ref bd, .int (jI bg), .int (jI bf)])), (bq, .inl (cA, 124, .inl (jA fq))), (pa, .inr (1, [.ref ps, .int (jI q)])), (ps, .inl (cA, 160, .inl (jA fa)))]) [0, 1, 2, 3] rfl
        have hD9 := hD.sub (ws' := [(ba, .inr (0, [.ref bt, .ref bp, .ref bl, .ref bh, .ref bq, .ref br, .ref bd, .int (jI bg), .int (jI bf)])), (bq, .inl (cA, 124, .inl (jA fq))), (pa, .inr (1, [.ref ps, .int (jI q)])), (ps, .inl (cA, 160, .inl (jA fa)))]) [0, 1, 2, 3] (by decide) rfl
        subst hAe
        subst hQ
        exact W.vret hx hb hr (fun t ht hW => ⟨⟨(q, fa), rfl, Eq.trans (by rw [f_XB_printLimits_L2_s]; rw [if_neg (Int.not_lt.mpr c4_)]; try rfl) hF, ⟨by rw [ht]; exact hP9, va_K.moved hW.alike hK, hD9⟩⟩, hS.F ht⟩) hS.2.2 dXB_printLimits_56
      · refine lv_aload_n hx hb dXB_printLimits_7 rfl (lv_at hl 1 rfl) ?_
        refine lv_iload_n hx hb dXB_printLimits_8 rfl (lv_at hl 2 rfl) ?_
        refine lv_iload_n hx hb dXB_printLimits_9 rfl (lv_at hl 0 rfl) ?_
        refine jrVi (rest := []) ⟨hx, hb, hml, hown, hts⟩ (c_XB_tellsLimit l dC dI cA ba bt bp bl bh bq br bd bg bf fq zg k (by first | assumption | omega) (by first | assumption | omega) (by first | assumption | omega)) (cwV 2 hts (jG_V tw_454 tw_261 tw_262 tw_5 tw_263) rfl rfl rfl (by decide +kernel) (by rw [hR]; exact ⟨Nat.le_of_ble_eq_true rfl, Nat.le_of_ble_eq_true rfl⟩)) hK hP hN [0, 1] rfl 0 0 rfl rfl rfl rfl hl.1 rfl (Nat.le_of_ble_eq_true rfl) dXB_printLimits_10 (by rw [hR]; exact ⟨Nat.le_of_ble_eq_true rfl, Nat.le_of_ble_eq_true rfl⟩) ?_
        have f := f_XB_tellsLimit_b bg bf fq zg k (by first | assumption | omega) (by first | assumption | omega) (by first | assumption | omega)
        have f1 := f_XB_tellsLimit_c bg bf fq zg k (by first | assumption | omega) (by first | assumption | omega) (by first | assumption | omega)
        refine ji_if_eq (tgt := 50) hx hb dXB_printLimits_13 (by decide) (by omega) (fun c13_ => ?_) (fun c13_ => ?_)
        · refine ji_iinc (k := 0) (lv' := [(3, .int (jI (k + 1))), (0, .ref ba), (1, .int (jI zg)), (2, .ref pa)]) hx hb dXB_printLimits_50 hl rfl (by decide) rfl (fun ls hl => ?_)
          refine lv_goto (tgt := 2) hx hb dXB_printLimits_53 (by decide) ?_
          exact ih2 (k + 1) q fa (by omega) (Eq.trans (by rw [f_XB_printLimits_L2_s]; rw [if_pos c4_, if_pos c13_]; try rfl) hF) (by first | assumption | omega) (by first | assumption | omega) _ _ hP hD hS ls (lv_sub hl [0, 1, 2, 3] rfl)
        · refine lv_aload_n hx hb dXB_printLimits_16 rfl (lv_at hl 3 rfl) ?_
          refine ji_bipush hx hb dXB_printLimits_17 (by decide) ?_
          refine jwVv (rest := []) (wr := [(ba, .inr (0, [.ref bt, .ref bp, .ref bl, .ref bh, .ref bq, .ref br, .ref bd, .int (jI bg), .int (jI bf)])), (bq, .inl (cA, 124, .inl (jA fq)))]) ⟨hx, hb, hml, hown, hts⟩ (c_XP_put l dC dI cA _ pa ps q fa 113 (by first | assumption | omega)) (cwV 1 hts (jG_V tw_585 tw_586 tw_587 tw_4 tw_588) rfl rfl rfl (by decide +kernel) (by rw [hR]; exact ⟨Nat.le_of_ble_eq_true rfl, Nat.le_of_ble_eq_true rfl⟩)) hK hP hD hS hA hN [2, 3] [0, 1] rfl rfl (by decide) (by decide) (by decide) 2 1 rfl rfl rfl rfl hl.1 rfl (Nat.le_of_ble_eq_true rfl) dXB_printLimits_19 (by rw [hR]; exact ⟨Nat.le_of_ble_eq_true rfl, Nat.le_of_ble_eq_true rfl⟩) (fun u H locs hwb hP hD hS => ?_)
          obtain ⟨pn1', pf1'⟩ := u
          try dsimp only at hwb
          have hP : va_P (dC, dI) vwCl [(ba, .inr (0, [.ref bt, .ref bp, .ref bl, .ref bh, .ref bq, .ref br, .ref bd, .int (jI bg), .int (jI bf)])), (bq, .inl (cA, 124, .inl (jA fq))), (pa, .inr (1, [.ref ps, .int (jI pn1')])), (ps, .inl (cA, 160, .inl (jA pf1')))] H := hP
          have hD : va_D A [(ba, .inr (0, [.ref bt, .ref bp, .ref bl, .ref bh, .ref bq, .ref br, .ref bd, .int (jI bg), .int (jI bf)])), (bq, .inl (cA, 124, .inl (jA fq))), (pa, .inr (1, [.ref ps, .int (jI pn1')])), (ps, .inl (cA, 160, .inl (jA pf1')))] := hD
          have f2 := f_XP_put_b q fa 113 (by first | assumption | omega)
          rw [← hwb] at f2; try dsimp only at f2
          refine lv_aload_n hx hb dXB_printLimits_22 rfl (lv_at hl 3 rfl) ?_
          refine ji_bipush hx hb dXB_printLimits_23 (by decide) ?_
          refine lv_iload_n hx hb dXB_printLimits_25 rfl (lv_at hl 0 rfl) ?_
          refine ji_iadd hx hb dXB_printLimits_26 ?_
          refine jwVv (rest := []) (wr := [(ba, .inr (0, [.ref bt, .ref bp, .ref bl, .ref bh, .ref bq, .ref br, .ref bd, .int (jI bg), .int (jI bf)])), (bq, .inl (cA, 124, .inl (jA fq)))]) ⟨hx, hb, hml, hown, hts⟩ (c_XP_put l dC dI cA _ pa ps pn1' pf1' (48 + k) (by first | assumption | omega)) (cwV 1 hts (jG_V tw_585 tw_586 tw_587 tw_4 tw_588) rfl rfl rfl (by decide +kernel) (by rw [hR]; exact ⟨Nat.le_of_ble_eq_true rfl, Nat.le_of_ble_eq_true rfl⟩)) hK hP hD hS hA hN [2, 3] [0, 1] rfl rfl (by decide) (by decide) (by decide) 2 1 rfl rfl rfl rfl hl.1 rfl (Nat.le_of_ble_eq_true rfl) dXB_printLimits_27 (by rw [hR]; exact ⟨Nat.le_of_ble_eq_true rfl, Nat.le_of_ble_eq_true rfl⟩) (fun u5 H locs hwb6 hP hD hS => ?_)
          obtain ⟨pn1'3, pf1'4⟩ := u5
          try dsimp only at hwb6
          have hP : va_P (dC, dI) vwCl [(ba, .inr (0, [.ref bt, .ref bp, .ref bl, .ref bh, .ref bq, .ref br, .ref bd, .int (jI bg), .int (jI bf)])), (bq, .inl (cA, 124, .inl (jA fq))), (pa, .inr (1, [.ref ps, .int (jI pn1'3)])), (ps, .inl (cA, 160, .inl (jA pf1'4)))] H := hP
          have hD : va_D A [(ba, .inr (0, [.ref bt, .ref bp, .ref bl, .ref bh, .ref bq, .ref br, .ref bd, .int (jI bg), .int (jI bf)])), (bq, .inl (cA, 124, .inl (jA fq))), (pa, .inr (1, [.ref ps, .int (jI pn1'3)])), (ps, .inl (cA, 160, .inl (jA pf1'4)))] := hD
          have f7 := f_XP_put_b pn1' pf1' (48 + k) (by first | assumption | omega)
          rw [← hwb6] at f7; try dsimp only at f7
          refine lv_aload_n hx hb dXB_printLimits_30 rfl (lv_at hl 3 rfl) ?_
          refine ji_bipush hx hb dXB_printLimits_31 (by decide) ?_
          refine jwVv (rest := []) (wr := [(ba, .inr (0, [.ref bt, .ref bp, .ref bl, .ref bh, .ref bq, .ref br, .ref bd, .int (jI bg), .int (jI bf)])), (bq, .inl (cA, 124, .inl (jA fq)))]) ⟨hx, hb, hml, hown, hts⟩ (c_XP_put l dC dI cA _ pa ps pn1'3 pf1'4 60 (by first | assumption | omega)) (cwV 1 hts (jG_V tw_585 tw_586 tw_587 tw_4 tw_588) rfl rfl rfl (by decide +kernel) (by rw [hR]; exact ⟨Nat.le_of_ble_eq_true rfl, Nat.le_of_ble_eq_true rfl⟩)) hK hP hD hS hA hN [2, 3] [0, 1] rfl rfl (by decide) (by decide) (by decide) 2 1 rfl rfl rfl rfl hl.1 rfl (Nat.le_of_ble_eq_true rfl) dXB_printLimits_33 (by rw [hR]; exact ⟨Nat.le_of_ble_eq_true rfl, Nat.le_of_ble_eq_true rfl⟩) (fun u10 H locs hwb11 hP hD hS => ?_)
          obtain ⟨pn1'8, pf1'9⟩ := u10
          try dsimp only at hwb11
          have hP : va_P (dC, dI) vwCl [(ba, .inr (0, [.ref bt, .ref bp, .ref bl, .ref bh, .ref bq, .ref br, .ref bd, .int (jI bg), .int (jI bf)])), (bq, .inl (cA, 124, .inl (jA fq))), (pa, .inr (1, [.ref ps, .int (jI pn1'8)])), (ps, .inl (cA, 160, .inl (jA pf1'9)))] H := hP
          have hD : va_D A [(ba, .inr (0, [.ref bt, .ref bp, .ref bl, .ref bh, .ref bq, .ref br, .ref bd, .int (jI bg), .int (jI bf)])), (bq, .inl (cA, 124, .inl (jA fq))), (pa, .inr (1, [.ref ps, .int (jI pn1'8)])), (ps, .inl (cA, 160, .inl (jA pf1'9)))] := hD
          have f12 := f_XP_put_b pn1'3 pf1'4 60 (by first | assumption | omega)
          rw [← hwb11] at f12; try dsimp only at f12
          refine lv_aload_n hx hb dXB_printLimits_36 rfl (lv_at hl 3 rfl) ?_
          refine lv_aload_n hx hb dXB_printLimits_37 rfl (lv_at hl 1 rfl) ?_
          refine va_get (D := (dC, dI)) (ci := 0) (v := .ref bq) (C := RXB) (T := TXB) (N := 9) hx hb hts (fun w h => jmem (inXB w h)) hown hK hP 0 rfl rfl 4 (by decide) (hts _ (jmem tw_77)) (fun _ h9 => h9) rfl dXB_printLimits_38 ?_
          refine lv_iload_n hx hb dXB_printLimits_41 rfl (lv_at hl 2 rfl) ?_
          refine ji_iconst hx hb dXB_printLimits_42 ?_
          refine ji_imul hx hb dXB_printLimits_43 ?_
          refine lv_iload_n hx hb dXB_printLimits_44 rfl (lv_at hl 0 rfl) ?_
          refine ji_iadd hx hb dXB_printLimits_45 ?_
          refine ji_iald hx hb hK hP 1 0 rfl rfl ⟨by omega, by omega⟩ (by decide) dXB_printLimits_46 ?_
          have rb := hbq ((zg * 4) + k)
          refine jwVv (rest := []) (wr := [(ba, .inr (0, [.ref bt, .ref bp, .ref bl, .ref bh, .ref bq, .ref br, .ref bd, .int (jI bg), .int (jI bf)])), (bq, .inl (cA, 124, .inl (jA fq)))]) ⟨hx, hb, hml, hown, hts⟩ (c_XP_putNumber l dC dI cA _ pa ps pn1'8 pf1'9 (fq ((zg * 4) + k)) (by first | assumption | omega) (by first | assumption | omega)) (cwV 1 hts (jG_V tw_589 tw_590 tw_591 tw_4 tw_592) rfl rfl rfl (by decide +kernel) (by rw [hR]; exact ⟨Nat.le_of_ble_eq_true rfl, Nat.le_of_ble_eq_true rfl⟩)) hK hP hD hS hA hN [2, 3] [0, 1] rfl rfl (by decide) (by decide) (by decide) 2 1 rfl rfl rfl rfl hl.1 rfl (Nat.le_of_ble_eq_true rfl) dXB_printLimits_47 (by rw [hR]; exact ⟨Nat.le_of_ble_eq_true rfl, Nat.le_of_ble_eq_true rfl⟩) (fun u15 H locs hwb16 hP hD hS => ?_)
          obtain ⟨pn1'13, pf1'14⟩ := u15
          try dsimp only at hwb16
          have hP : va_P (dC, dI) vwCl [(ba, .inr (0, [.ref bt, .ref bp, .ref bl, .ref bh, .ref bq, .ref br, .ref bd, .int (jI bg), .int (jI bf)])), (bq, .inl (cA, 124, .inl (jA fq))), (pa, .inr (1, [.ref ps, .int (jI pn1'13)])), (ps, .inl (cA, 160, .inl (jA pf1'14)))] H := hP
          have hD : va_D A [(ba, .inr (0, [.ref bt, .ref bp, .ref bl, .ref bh, .ref bq, .ref br, .ref bd, .int (jI bg), .int (jI bf)])), (bq, .inl (cA, 124, .inl (jA fq))), (pa, .inr (1, [.ref ps, .int (jI pn1'13)])), (ps, .inl (cA, 160, .inl (jA pf1'14)))] := hD
          have f17 := f_XP_putNumber_b pn1'8 pf1'9 (fq ((zg * 4) + k)) (by first | assumption | omega) (by first | assumption | omega)
          rw [← hwb16] at f17; try dsimp only at f17
          refine ji_iinc (k := 0) (lv' := [(3, .int (jI (k + 1))), (0, .ref ba), (1, .int (jI zg)), (2, .ref pa)]) hx hb dXB_printLimits_50 hl rfl (by decide) rfl (fun ls hl => ?_)
          refine lv_goto (tgt := 2) hx hb dXB_printLimits_53 (by decide) ?_
          exact ih2 (k + 1) pn1'13 pf1'14 (by omega) (Eq.trans (by rw [f_XB_printLimits_L2_s]; rw [if_pos c4_, if_neg c13_]; rw [← hwb]; try dsimp only; rw [← hwb6]; try dsimp only; rw [← hwb11]; try dsimp only; rw [← hwb16]; try dsimp only; try rfl) hF) (by first | assumption | omega) (by first | assumption | omega) _ _ hP hD hS ls (lv_sub hl [0, 1, 2, 3] rfl)
  exact loop2 (Int.toNat (4 - 0) + 1) 0 pn pf (by omega) (Eq.trans (by rw [f_XB_printLimits_s]; try rfl) rfl) (by first | assumption | omega) (by first | assumption | omega) _ _ hP hD hS ls (lv_sub hl [0, 1, 2, 3] rfl)
noncomputable def g_XB_printRow (bg : Int) (bf : Int) (ft : Int → Int) (fl : Int → Int) (fh : Int → Int) (fq : Int → Int) (fr : Int → Int) (zg : Int) (pn : Int) (pf : Int → Int) : Int × (Int → Int) :=
  match f_XP_put pn pf 103 with
  | (pn1', pf1') =>
    match f_XP_putNumber pn1' pf1' zg with
    | (pn1'1, pf1'2) =>
      if 0 < (ft zg) then
        match f_XP_put pn1'1 pf1'2 60 with
        | (pn1'26, pf1'27) =>
          match f_XP_putNumber pn1'26 pf1'27 (ft zg) with
          | (pn1'32, pf1'33) =>
            match f_XB_printSpans bg bf fl fh zg pn1'32 pf1'33 with
            | (pn1'37, pf1'38) =>
              match f_XB_printRoutes bg bf fr zg pn1'37 pf1'38 with
              | (pn1'42, pf1'43) =>
                match f_XB_printLimits bg bf fq zg pn1'42 pf1'43 with
                | (pn1'47, pf1'48) =>
                  match f_XP_put pn1'47 pf1'48 59 with
                  | (pn1'52, pf1'53) =>
                    (pn1'52, pf1'53)
      else
        match f_XB_printSpans bg bf fl fh zg pn1'1 pf1'2 with
        | (pn1'6, pf1'7) =>
          match f_XB_printRoutes bg bf fr zg pn1'6 pf1'7 with
          | (pn1'11, pf1'12) =>
            match f_XB_printLimits bg bf fq zg pn1'11 pf1'12 with
            | (pn1'16, pf1'17) =>
              match f_XP_put pn1'16 pf1'17 59 with
              | (pn1'21, pf1'22) =>
                (pn1'21, pf1'22)
noncomputable def f_XB_printRow : Int → Int → (Int → Int) → (Int → Int) → (Int → Int) → (Int → Int) → (Int → Int) → Int → Int → (Int → Int) → Int × (Int → Int) := jopq g_XB_printRow
theorem f_XB_printRow_q : f_XB_printRow = g_XB_printRow := jopq_eq _
theorem f_XB_printRow_s (bg : Int) (bf : Int) (ft : Int → Int) (fl : Int → Int) (fh : Int → Int) (fq : Int → Int) (fr : Int → Int) (zg : Int) (pn : Int) (pf : Int → Int) : f_XB_printRow bg bf ft fl fh fq fr zg pn pf = (
    match f_XP_put pn pf 103 with
    | (pn1', pf1') =>
      match f_XP_putNumber pn1' pf1' zg with
      | (pn1'1, pf1'2) =>
        if 0 < (ft zg) then
          match f_XP_put pn1'1 pf1'2 60 with
          | (pn1'26, pf1'27) =>
            match f_XP_putNumber pn1'26 pf1'27 (ft zg) with
            | (pn1'32, pf1'33) =>
              match f_XB_printSpans bg bf fl fh zg pn1'32 pf1'33 with
              | (pn1'37, pf1'38) =>
                match f_XB_printRoutes bg bf fr zg pn1'37 pf1'38 with
                | (pn1'42, pf1'43) =>
                  match f_XB_printLimits bg bf fq zg pn1'42 pf1'43 with
                  | (pn1'47, pf1'48) =>
                    match f_XP_put pn1'47 pf1'48 59 with
                    | (pn1'52, pf1'53) =>
                      (pn1'52, pf1'53)
        else
          match f_XB_printSpans bg bf fl fh zg pn1'1 pf1'2 with
          | (pn1'6, pf1'7) =>
            match f_XB_printRoutes bg bf fr zg pn1'6 pf1'7 with
            | (pn1'11, pf1'12) =>
              match f_XB_printLimits bg bf fq zg pn1'11 pf1'12 with
              | (pn1'16, pf1'17) =>
                match f_XP_put pn1'16 pf1'17 59 with
                | (pn1'21, pf1'22) =>
                  (pn1'21, pf1'22)
  : Int × (Int → Int)) := by rw [f_XB_printRow_q]; rfl
theorem f_XB_printRow_b (bg : Int) (bf : Int) (ft : Int → Int) (fl : Int → Int) (fh : Int → Int) (fq : Int → Int) (fr : Int → Int) (zg : Int) (pn : Int) (pf : Int → Int) (hbt : ∀ i, 0 ≤ ft i ∧ ft i ≤ 30) (hbl : ∀ i, 0 ≤ fl i ∧ fl i ≤ 100000) (hbh : ∀ i, -1 ≤ fh i ∧ fh i ≤ 100000) (hbq : ∀ i, -1 ≤ fq i ∧ fq i ≤ 999999) (hbr : ∀ i, 0 ≤ fr i ∧ fr i < 2147483648) (hzg : 0 ≤ zg ∧ zg ≤ 30) (hpn : 0 ≤ pn ∧ pn ≤ 160) : 0 ≤ (f_XB_printRow bg bf ft fl fh fq fr zg pn pf).1 ∧ (f_XB_printRow bg bf ft fl fh fq fr zg pn pf).1 ≤ 160 := by
  have ht := hbt zg
  rw [f_XB_printRow_s]
  simp only []
  split
  · exact f_XP_put_b _ _ _ (f_XB_printLimits_b _ _ _ _ _ _ hbq hzg (f_XB_printRoutes_b _ _ _ _ _ _ hbr hzg (f_XB_printSpans_b _ _ _ _ _ _ _ hbl hbh hzg (f_XP_putNumber_b _ _ _ (f_XP_put_b _ _ _ (f_XP_putNumber_b _ _ _ (f_XP_put_b _ _ _ hpn) (by omega))) (by omega)))))
  · exact f_XP_put_b _ _ _ (f_XB_printLimits_b _ _ _ _ _ _ hbq hzg (f_XB_printRoutes_b _ _ _ _ _ _ hbr hzg (f_XB_printSpans_b _ _ _ _ _ _ _ hbl hbh hzg (f_XP_putNumber_b _ _ _ (f_XP_put_b _ _ _ hpn) (by omega)))))
set_option maxHeartbeats 4000000 in
set_option maxRecDepth 100000 in
theorem c_XB_printRow (l : Launch) (dC : Nat → ClassId) (dI : Nat → Nat → Nat) (cA : ClassId) (sz : Nat) (ba : Nat) (bt : Nat) (bp : Nat) (bl : Nat) (bh : Nat) (bq : Nat) (br : Nat) (bd : Nat) (bg : Int) (bf : Int) (ft : Int → Int) (fl : Int → Int) (fh : Int → Int) (fq : Int → Int) (fr : Int → Int) (zg : Int) (pa : Nat) (ps : Nat) (pn : Int) (pf : Int → Int) (hbt : ∀ i, 0 ≤ ft i ∧ ft i ≤ 30) (hbl : ∀ i, 0 ≤ fl i ∧ fl i ≤ 100000) (hbh : ∀ i, -1 ≤ fh i ∧ fh i ≤ 100000) (hbq : ∀ i, -1 ≤ fq i ∧ fq i ≤ 999999) (hbr : ∀ i, 0 ≤ fr i ∧ fr i < 2147483648) (hzg : 0 ≤ zg ∧ zg ≤ 30) (hpn : 0 ≤ pn ∧ pn ≤ 160) : Met l yXB_printRow (Cond.code yXB_printRow cXB_printRow 3 none :: TBL) ({ frames := 3, cells := 0, slots := 0, locals := 66 } : Room) (va_Pc [.ref ba, .int (jI zg), .ref pa] (jBw (dC, dI) [(cA, .int)] [(ba, .inr (0, [.ref bt, .ref bp, .ref bl, .ref bh, .ref bq, .ref br, .ref bd, .int (jI bg), .int (jI bf)])), (bt, .inl (cA, 31, .inl (jA ft))), (bl, .inl (cA, 248, .inl (jA fl))), (bh, .inl (cA, 248, .inl (jA fh))), (bq, .inl (cA, 124, .inl (jA fq))), (br, .inl (cA, 31, .inl (jA fr))), (pa, .inr (1, [.ref ps, .int (jI pn)])), (ps, .inl (cA, 160, .inl (jA pf)))] sz)) (va_Qv (fun (u : Int × (Int → Int)) => u = f_XB_printRow bg bf ft fl fh fq fr zg pn pf) (fun u t => jE (dC, dI) [(cA, .int)] [(ba, .inr (0, [.ref bt, .ref bp, .ref bl, .ref bh, .ref bq, .ref br, .ref bd, .int (jI bg), .int (jI bf)])), (bt, .inl (cA, 31, .inl (jA ft))), (bl, .inl (cA, 248, .inl (jA fl))), (bh, .inl (cA, 248, .inl (jA fh))), (bq, .inl (cA, 124, .inl (jA fq))), (br, .inl (cA, 31, .inl (jA fr))), (pa, .inr (1, [.ref ps, .int (jI pn)])), (ps, .inl (cA, 160, .inl (jA pf)))] sz [(ba, .inr (0, [.ref bt, .ref bp, .ref bl, .ref bh, .ref bq, .ref br, .ref bd, .int (jI bg), .int (jI bf)])), (bt, .inl (cA, 31, .inl (jA ft))), (bl, .inl (cA, 248, .inl (jA fl))), (bh, .inl (cA, 248, .inl (jA fh))), (bq, .inl (cA, 124, .inl (jA fq))), (br, .inl (cA, 31, .inl (jA fr))), (pa, .inr (1, [.ref ps, .int (jI u.1)])), (ps, .inl (cA, 160, .inl (jA u.2)))] t) (va_A [(ba, .inr (0, [.ref bt, .ref bp, .ref bl, .ref bh, .ref bq, .ref br, .ref bd, .int (jI bg), .int (jI bf)])), (bt, .inl (cA, 31, .inl (jA ft))), (bl, .inl (cA, 248, .inl (jA fl))), (bh, .inl (cA, 248, .inl (jA fh))), (bq, .inl (cA, 124, .inl (jA fq))), (br, .inl (cA, 31, .inl (jA fr))), (pa, .inr (1, [.ref ps, .int (jI pn)])), (ps, .inl (cA, 160, .inl (jA pf)))] sz)) 0 0 (va_A [(ba, .inr (0, [.ref bt, .ref bp, .ref bl, .ref bh, .ref bq, .ref br, .ref bd, .int (jI bg), .int (jI bf)])), (bt, .inl (cA, 31, .inl (jA ft))), (bl, .inl (cA, 248, .inl (jA fl))), (bh, .inl (cA, 248, .inl (jA fh))), (bq, .inl (cA, 124, .inl (jA fq))), (br, .inl (cA, 31, .inl (jA fr))), (pa, .inr (1, [.ref ps, .int (jI pn)])), (ps, .inl (cA, 160, .inl (jA pf)))] sz) := by
  refine jMet (cc := cXB_printRow) (maxL := 3) (ret := none) (by decide) rfl ?_
  intro p e s m args below meth c s₁ R Q hR hQ B hml hv
  obtain ⟨rfl, hsz, hP, hK, hD0, hN⟩ := hv
  have hx := B.exec
  have hb := B.bytes
  have hr := B.returns
  have hts := atoms_spec (ws := Cond.code yXB_printRow cXB_printRow 3 none :: TBL) B.pre
  have hown : s.vm.findClass RXB = some m.cls := findClass_of_methodNamed B.named
  have hlocks := B.notSynchronized
  subst hsz
  obtain ⟨A, hAe⟩ : ∃ A, A = va_A [(ba, .inr (0, [.ref bt, .ref bp, .ref bl, .ref bh, .ref bq, .ref br, .ref bd, .int (jI bg), .int (jI bf)])), (bt, .inl (cA, 31, .inl (jA ft))), (bl, .inl (cA, 248, .inl (jA fl))), (bh, .inl (cA, 248, .inl (jA fh))), (bq, .inl (cA, 124, .inl (jA fq))), (br, .inl (cA, 31, .inl (jA fr))), (pa, .inr (1, [.ref ps, .int (jI pn)])), (ps, .inl (cA, 160, .inl (jA pf)))] s.heap.size := ⟨_, rfl⟩
  have hD : va_D A [(ba, .inr (0, [.ref bt, .ref bp, .ref bl, .ref bh, .ref bq, .ref br, .ref bd, .int (jI bg), .int (jI bf)])), (bt, .inl (cA, 31, .inl (jA ft))), (bl, .inl (cA, 248, .inl (jA fl))), (bh, .inl (cA, 248, .inl (jA fh))), (bq, .inl (cA, 124, .inl (jA fq))), (br, .inl (cA, 31, .inl (jA fr))), (pa, .inr (1, [.ref ps, .int (jI pn)])), (ps, .inl (cA, 160, .inl (jA pf)))] := by rw [hAe]; exact hD0.self
  have hA : ∀ q : Nat, s.heap.size ≤ q → A q := fun q h => by rw [hAe]; exact Or.inr h
  have hS : va_S A s.heap s.heap [] := va_S.rf
  have hP : va_P (dC, dI) vwCl [(ba, .inr (0, [.ref bt, .ref bp, .ref bl, .ref bh, .ref bq, .ref br, .ref bd, .int (jI bg), .int (jI bf)])), (bt, .inl (cA, 31, .inl (jA ft))), (bl, .inl (cA, 248, .inl (jA fl))), (bh, .inl (cA, 248, .inl (jA fh))), (bq, .inl (cA, 124, .inl (jA fq))), (br, .inl (cA, 31, .inl (jA fr))), (pa, .inr (1, [.ref ps, .int (jI pn)])), (ps, .inl (cA, 160, .inl (jA pf)))] s.heap := hP
  have hl := lv_entry ([.ref ba, .int (jI zg), .ref pa]) (n := 3) (Nat.le_of_ble_eq_true rfl)
  rw [lg_entry_eq]
  generalize (lg_sl ([.ref ba, .int (jI zg), .ref pa]) ++ List.replicate (3 - (lg_sl ([.ref ba, .int (jI zg), .ref pa])).length) Slot.unset).toArray = ls at hl ⊢
  have hl : lv_has ls 3 [(0, .ref ba), (1, .int (jI zg)), (2, .ref pa)] := hl
  refine lv_aload_n hx hb dXB_printRow_0 rfl (lv_at hl 2 rfl) ?_
  refine ji_bipush hx hb dXB_printRow_1 (by decide) ?_
  refine jwVv (rest := []) (wr := [(ba, .inr (0, [.ref bt, .ref bp, .ref bl, .ref bh, .ref bq, .ref br, .ref bd, .int (jI bg), .int (jI bf)])), (bt, .inl (cA, 31, .inl (jA ft))), (bl, .inl (cA, 248, .inl (jA fl))), (bh, .inl (cA, 248, .inl (jA fh))), (bq, .inl (cA, 124, .inl (jA fq))), (br, .inl (cA, 31, .inl (jA fr)))]) ⟨hx, hb, hml, hown, hts⟩ (c_XP_put l dC dI cA _ pa ps pn pf 103 (by first | assumption | omega)) (cwV 1 hts (jG_V tw_585 tw_586 tw_587 tw_4 tw_588) rfl rfl rfl (by decide +kernel) (by rw [hR]; exact ⟨Nat.le_of_ble_eq_true rfl, Nat.le_of_ble_eq_true rfl⟩)) hK hP hD hS hA hN [6, 7] [0, 1, 2, 3, 4, 5] rfl rfl (by decide) (by decide) (by decide) 6 1 rfl rfl rfl rfl hl.1 rfl (Nat.le_of_ble_eq_true rfl) dXB_printRow_3 (by rw [hR]; exact ⟨Nat.le_of_ble_eq_true rfl, Nat.le_of_ble_eq_true rfl⟩) (fun u H locs hwb hP hD hS => ?_)
  obtain ⟨pn1', pf1'⟩ := u
  try dsimp only at hwb
  have hP : va_P (dC, dI) vwCl [(ba, .inr (0, [.ref bt, .ref bp, .ref bl, .ref bh, .ref bq, .ref br, .ref bd, .int (jI bg), .int (jI bf)])), (bt, .inl (cA, 31, .inl (jA ft))), (bl, .inl (cA, 248, .inl (jA fl))), (bh, .inl (cA, 248, .inl (jA fh))), (bq, .inl (cA, 124, .inl (jA fq))), (br, .inl (cA, 31, .inl (jA fr))), (pa, .inr (1, [.ref ps, .int (jI pn1')])), (ps, .inl (cA, 160, .inl (jA pf1')))] H := hP
  have hD : va_D A [(ba, .inr (0, [.ref bt, .ref bp, .ref bl, .ref bh, .ref bq, .ref br, .ref bd, .int (jI bg), .int (jI bf)])), (bt, .inl (cA, 31, .inl (jA ft))), (bl, .inl (cA, 248, .inl (jA fl))), (bh, .inl (cA, 248, .inl (jA fh))), (bq, .inl (cA, 124, .inl (jA fq))), (br, .inl (cA, 31, .inl (jA fr))), (pa, .inr (1, [.ref ps, .int (jI pn1')])), (ps, .inl (cA, 160, .inl (jA pf1')))] := hD
  have f := f_XP_put_b pn pf 103 (by first | assumption | omega)
  rw [← hwb] at f; try dsimp only at f
  refine lv_aload_n hx hb dXB_printRow_6 rfl (lv_at hl 2 rfl) ?_
  refine lv_iload_n hx hb dXB_printRow_7 rfl (lv_at hl 1 rfl) ?_
  refine jwVv (rest := []) (wr := [(ba, .inr (0, [.ref bt, .ref bp, .ref bl, .ref bh, .ref bq, .ref br, .ref bd, .int (jI bg), .int (jI bf)])), (bt, .inl (cA, 31, .inl (jA ft))), (bl, .inl (cA, 248, .inl (jA fl))), (bh, .inl (cA, 248, .inl (jA fh))), (bq, .inl (cA, 124, .inl (jA fq))), (br, .inl (cA, 31, .inl (jA fr)))]) ⟨hx, hb, hml, hown, hts⟩ (c_XP_putNumber l dC dI cA _ pa ps pn1' pf1' zg (by first | assumption | omega) (by first | assumption | omega)) (cwV 1 hts (jG_V tw_589 tw_590 tw_591 tw_4 tw_592) rfl rfl rfl (by decide +kernel) (by rw [hR]; exact ⟨Nat.le_of_ble_eq_true rfl, Nat.le_of_ble_eq_true rfl⟩)) hK hP hD hS hA hN [6, 7] [0, 1, 2, 3, 4, 5] rfl rfl (by decide) (by decide) (by decide) 6 1 rfl rfl rfl rfl hl.1 rfl (Nat.le_of_ble_eq_true rfl) dXB_printRow_8 (by rw [hR]; exact ⟨Nat.le_of_ble_eq_true rfl, Nat.le_of_ble_eq_true rfl⟩) (fun u3 H locs hwb4 hP hD hS => ?_)
  obtain ⟨pn1'1, pf1'2⟩ := u3
  try dsimp only at hwb4
  have hP : va_P (dC, dI) vwCl [(ba, .inr (0, [.ref bt, .ref bp, .ref bl, .ref bh, .ref bq, .ref br, .ref bd, .int (jI bg), .int (jI bf)])), (bt, .inl (cA, 31, .inl (jA ft))), (bl, .inl (cA, 248, .inl (jA fl))), (bh, .inl (cA, 248, .inl (jA fh))), (bq, .inl (cA, 124, .inl (jA fq))), (br, .inl (cA, 31, .inl (jA fr))), (pa, .inr (1, [.ref ps, .int (jI pn1'1)])), (ps, .inl (cA, 160, .inl (jA pf1'2)))] H := hP
  have hD : va_D A [(ba, .inr (0, [.ref bt, .ref bp, .ref bl, .ref bh, .ref bq, .ref br, .ref bd, .int (jI bg), .int (jI bf)])), (bt, .inl (cA, 31, .inl (jA ft))), (bl, .inl (cA, 248, .inl (jA fl))), (bh, .inl (cA, 248, .inl (jA fh))), (bq, .inl (cA, 124, .inl (jA fq))), (br, .inl (cA, 31, .inl (jA fr))), (pa, .inr (1, [.ref ps, .int (jI pn1'1)])), (ps, .inl (cA, 160, .inl (jA pf1'2)))] := hD
  have f5 := f_XP_putNumber_b pn1' pf1' zg (by first | assumption | omega) (by first | assumption | omega)
  rw [← hwb4] at f5; try dsimp only at f5
  refine lv_aload_n hx hb dXB_printRow_11 rfl (lv_at hl 0 rfl) ?_
  refine va_get (D := (dC, dI)) (ci := 0) (v := .ref bt) (C := RXB) (T := TXB) (N := 9) hx hb hts (fun w h => jmem (inXB w h)) hown hK hP 0 rfl rfl 0 (by decide) (hts _ (jmem tw_73)) (fun _ h9 => h9) rfl dXB_printRow_12 ?_
  refine lv_iload_n hx hb dXB_printRow_15 rfl (lv_at hl 1 rfl) ?_
  refine ji_iald hx hb hK hP 1 0 rfl rfl ⟨by omega, by omega⟩ (by decide) dXB_printRow_16 ?_
  have rb := hbt zg
  refine ji_if_le (tgt := 36) hx hb dXB_printRow_17 (by decide) (by omega) (fun c17_ => ?_) (fun c17_ => ?_)
  · refine lv_aload_n hx hb dXB_printRow_36 rfl (lv_at hl 0 rfl) ?_
    refine lv_iload_n hx hb dXB_printRow_37 rfl (lv_at hl 1 rfl) ?_
    refine lv_aload_n hx hb dXB_printRow_38 rfl (lv_at hl 2 rfl) ?_
    refine jwVv (rest := []) (wr := [(bt, .inl (cA, 31, .inl (jA ft))), (bq, .inl (cA, 124, .inl (jA fq))), (br, .inl (cA, 31, .inl (jA fr)))]) ⟨hx, hb, hml, hown, hts⟩ (c_XB_printSpans l dC dI cA _ ba bt bp bl bh bq br bd bg bf fl fh zg pa ps pn1'1 pf1'2 (by first | assumption | omega) (by first | assumption | omega) (by first | assumption | omega) (by first | assumption | omega)) (cwV 2 hts (jG_V tw_595 tw_597 ts_11 tw_5 tw_598) rfl rfl rfl (by decide +kernel) (by rw [hR]; exact ⟨Nat.le_of_ble_eq_true rfl, Nat.le_of_ble_eq_true rfl⟩)) hK hP hD hS hA hN [0, 2, 3, 6, 7] [1, 4, 5] rfl rfl (by decide) (by decide) (by decide) 0 0 rfl rfl rfl rfl hl.1 rfl (Nat.le_of_ble_eq_true rfl) dXB_printRow_39 (by rw [hR]; exact ⟨Nat.le_of_ble_eq_true rfl, Nat.le_of_ble_eq_true rfl⟩) (fun u8 H locs hwb9 hP hD hS => ?_)
    obtain ⟨pn1'6, pf1'7⟩ := u8
    try dsimp only at hwb9
    have hP : va_P (dC, dI) vwCl [(bt, .inl (cA, 31, .inl (jA ft))), (bq, .inl (cA, 124, .inl (jA fq))), (br, .inl (cA, 31, .inl (jA fr))), (ba, .inr (0, [.ref bt, .ref bp, .ref bl, .ref bh, .ref bq, .ref br, .ref bd, .int (jI bg), .int (jI bf)])), (bl, .inl (cA, 248, .inl (jA fl))), (bh, .inl (cA, 248, .inl (jA fh))), (pa, .inr (1, [.ref ps, .int (jI pn1'6)])), (ps, .inl (cA, 160, .inl (jA pf1'7)))] H := hP
    have hD : va_D A [(bt, .inl (cA, 31, .inl (jA ft))), (bq, .inl (cA, 124, .inl (jA fq))), (br, .inl (cA, 31, .inl (jA fr))), (ba, .inr (0, [.ref bt, .ref bp, .ref bl, .ref bh, .ref bq, .ref br, .ref bd, .int (jI bg), .int (jI bf)])), (bl, .inl (cA, 248, .inl (jA fl))), (bh, .inl (cA, 248, .inl (jA fh))), (pa, .inr (1, [.ref ps, .int (jI pn1'6)])), (ps, .inl (cA, 160, .inl (jA pf1'7)))] := hD
    have f10 := f_XB_printSpans_b bg bf fl fh zg pn1'1 pf1'2 (by first | assumption | omega) (by first | assumption | omega) (by first | assumption | omega) (by first | assumption | omega)
    rw [← hwb9] at f10; try dsimp only at f10
    refine lv_aload_n hx hb dXB_printRow_42 rfl (lv_at hl 0 rfl) ?_
    refine lv_iload_n hx hb dXB_printRow_43 rfl (lv_at hl 1 rfl) ?_
    refine lv_aload_n hx hb dXB_printRow_44 rfl (lv_at hl 2 rfl) ?_
    refine jwVv (rest := []) (wr := [(bt, .inl (cA, 31, .inl (jA ft))), (bq, .inl (cA, 124, .inl (jA fq))), (bl, .inl (cA, 248, .inl (jA fl))), (bh, .inl (cA, 248, .inl (jA fh)))]) ⟨hx, hb, hml, hown, hts⟩ (c_XB_printRoutes l dC dI cA _ ba bt bp bl bh bq br bd bg bf fr zg pa ps pn1'6 pf1'7 (by first | assumption | omega) (by first | assumption | omega) (by first | assumption | omega)) (cwV 2 hts (jG_V tw_599 tw_601 ts_12 tw_5 tw_602) rfl rfl rfl (by decide +kernel) (by rw [hR]; exact ⟨Nat.le_of_ble_eq_true rfl, Nat.le_of_ble_eq_true rfl⟩)) hK hP hD hS hA hN [3, 2, 6, 7] [0, 1, 4, 5] rfl rfl (by decide) (by decide) (by decide) 3 0 rfl rfl rfl rfl hl.1 rfl (Nat.le_of_ble_eq_true rfl) dXB_printRow_45 (by rw [hR]; exact ⟨Nat.le_of_ble_eq_true rfl, Nat.le_of_ble_eq_true rfl⟩) (fun u13 H locs hwb14 hP hD hS => ?_)
    obtain ⟨pn1'11, pf1'12⟩ := u13
    try dsimp only at hwb14
    have hP : va_P (dC, dI) vwCl [(bt, .inl (cA, 31, .inl (jA ft))), (bq, .inl (cA, 124, .inl (jA fq))), (bl, .inl (cA, 248, .inl (jA fl))), (bh, .inl (cA, 248, .inl (jA fh))), (ba, .inr (0, [.ref bt, .ref bp, .ref bl, .ref bh, .ref bq, .ref br, .ref bd, .int (jI bg), .int (jI bf)])), (br, .inl (cA, 31, .inl (jA fr))), (pa, .inr (1, [.ref ps, .int (jI pn1'11)])), (ps, .inl (cA, 160, .inl (jA pf1'12)))] H := hP
    have hD : va_D A [(bt, .inl (cA, 31, .inl (jA ft))), (bq, .inl (cA, 124, .inl (jA fq))), (bl, .inl (cA, 248, .inl (jA fl))), (bh, .inl (cA, 248, .inl (jA fh))), (ba, .inr (0, [.ref bt, .ref bp, .ref bl, .ref bh, .ref bq, .ref br, .ref bd, .int (jI bg), .int (jI bf)])), (br, .inl (cA, 31, .inl (jA fr))), (pa, .inr (1, [.ref ps, .int (jI pn1'11)])), (ps, .inl (cA, 160, .inl (jA pf1'12)))] := hD
    have f15 := f_XB_printRoutes_b bg bf fr zg pn1'6 pf1'7 (by first | assumption | omega) (by first | assumption | omega) (by first | assumption | omega)
    rw [← hwb14] at f15; try dsimp only at f15
    refine lv_aload_n hx hb dXB_printRow_48 rfl (lv_at hl 0 rfl) ?_
    refine lv_iload_n hx hb dXB_printRow_49 rfl (lv_at hl 1 rfl) ?_
    refine lv_aload_n hx hb dXB_printRow_50 rfl (lv_at hl 2 rfl) ?_
    refine jwVv (rest := []) (wr := [(bt, .inl (cA, 31, .inl (jA ft))), (bl, .inl (cA, 248, .inl (jA fl))), (bh, .inl (cA, 248, .inl (jA fh))), (br, .inl (cA, 31, .inl (jA fr)))]) ⟨hx, hb, hml, hown, hts⟩ (c_XB_printLimits l dC dI cA _ ba bt bp bl bh bq br bd bg bf fq zg pa ps pn1'11 pf1'12 (by first | assumption | omega) (by first | assumption | omega) (by first | assumption | omega)) (cwV 2 hts (jG_V tw_603 tw_605 ts_13 tw_5 tw_606) rfl rfl rfl (by decide +kernel) (by rw [hR]; exact ⟨Nat.le_of_ble_eq_true rfl, Nat.le_of_ble_eq_true rfl⟩)) hK hP hD hS hA hN [4, 1, 6, 7] [0, 2, 3, 5] rfl rfl (by decide) (by decide) (by decide) 4 0 rfl rfl rfl rfl hl.1 rfl (Nat.le_of_ble_eq_true rfl) dXB_printRow_51 (by rw [hR]; exact ⟨Nat.le_of_ble_eq_true rfl, Nat.le_of_ble_eq_true rfl⟩) (fun u18 H locs hwb19 hP hD hS => ?_)
    obtain ⟨pn1'16, pf1'17⟩ := u18
    try dsimp only at hwb19
    have hP : va_P (dC, dI) vwCl [(bt, .inl (cA, 31, .inl (jA ft))), (bl, .inl (cA, 248, .inl (jA fl))), (bh, .inl (cA, 248, .inl (jA fh))), (br, .inl (cA, 31, .inl (jA fr))), (ba, .inr (0, [.ref bt, .ref bp, .ref bl, .ref bh, .ref bq, .ref br, .ref bd, .int (jI bg), .int (jI bf)])), (bq, .inl (cA, 124, .inl (jA fq))), (pa, .inr (1, [.ref ps, .int (jI pn1'16)])), (ps, .inl (cA, 160, .inl (jA pf1'17)))] H := hP
    have hD : va_D A [(bt, .inl (cA, 31, .inl (jA ft))), (bl, .inl (cA, 248, .inl (jA fl))), (bh, .inl (cA, 248, .inl (jA fh))), (br, .inl (cA, 31, .inl (jA fr))), (ba, .inr (0, [.ref bt, .ref bp, .ref bl, .ref bh, .ref bq, .ref br, .ref bd, .int (jI bg), .int (jI bf)])), (bq, .inl (cA, 124, .inl (jA fq))), (pa, .inr (1, [.ref ps, .int (jI pn1'16)])), (ps, .inl (cA, 160, .inl (jA pf1'17)))] := hD
    have f20 := f_XB_printLimits_b bg bf fq zg pn1'11 pf1'12 (by first | assumption | omega) (by first | assumption | omega) (by first | assumption | omega)
    rw [← hwb19] at f20; try dsimp only at f20
    refine lv_aload_n hx hb dXB_printRow_54 rfl (lv_at hl 2 rfl) ?_
    refine ji_bipush hx hb dXB_printRow_55 (by decide) ?_
    refine jwVv (rest := []) (wr := [(bt, .inl (cA, 31, .inl (jA ft))), (bl, .inl (cA, 248, .inl (jA fl))), (bh, .inl (cA, 248, .inl (jA fh))), (br, .inl (cA, 31, .inl (jA fr))), (ba, .inr (0, [.ref bt, .ref bp, .ref bl, .ref bh, .ref bq, .ref br, .ref bd, .int (jI bg), .int (jI bf)])), (bq, .inl (cA, 124, .inl (jA fq)))]) ⟨hx, hb, hml, hown, hts⟩ (c_XP_put l dC dI cA _ pa ps pn1'16 pf1'17 59 (by first | assumption | omega)) (cwV 1 hts (jG_V tw_585 tw_586 tw_587 tw_4 tw_588) rfl rfl rfl (by decide +kernel) (by rw [hR]; exact ⟨Nat.le_of_ble_eq_true rfl, Nat.le_of_ble_eq_true rfl⟩)) hK hP hD hS hA hN [6, 7] [0, 1, 2, 3, 4, 5] rfl rfl (by decide) (by decide) (by decide) 6 1 rfl rfl rfl rfl hl.1 rfl (Nat.le_of_ble_eq_true rfl) dXB_printRow_57 (by rw [hR]; exact ⟨Nat.le_of_ble_eq_true rfl, Nat.le_of_ble_eq_true rfl⟩) (fun u23 H locs hwb24 hP hD hS => ?_)
    obtain ⟨pn1'21, pf1'22⟩ := u23
    try dsimp only at hwb24
    have hP : va_P (dC, dI) vwCl [(bt, .inl (cA, 31, .inl (jA ft))), (bl, .inl (cA, 248, .inl (jA fl))), (bh, .inl (cA, 248, .inl (jA fh))), (br, .inl (cA, 31, .inl (jA fr))), (ba, .inr (0, [.ref bt, .ref bp, .ref bl, .ref bh, .ref bq, .ref br, .ref bd, .int (jI bg), .int (jI bf)])), (bq, .inl (cA, 124, .inl (jA fq))), (pa, .inr (1, [.ref ps, .int (jI pn1'21)])), (ps, .inl (cA, 160, .inl (jA pf1'22)))] H := hP
    have hD : va_D A [(bt, .inl (cA, 31, .inl (jA ft))), (bl, .inl (cA, 248, .inl (jA fl))), (bh, .inl (cA, 248, .inl (jA fh))), (br, .inl (cA, 31, .inl (jA fr))), (ba, .inr (0, [.ref bt, .ref bp, .ref bl, .ref bh, .ref bq, .ref br, .ref bd, .int (jI bg), .int (jI bf)])), (bq, .inl (cA, 124, .inl (jA fq))), (pa, .inr (1, [.ref ps, .int (jI pn1'21)])), (ps, .inl (cA, 160, .inl (jA pf1'22)))] := hD
    have f25 := f_XP_put_b pn1'16 pf1'17 59 (by first | assumption | omega)
    rw [← hwb24] at f25; try dsimp only at f25
    have hP9 := hP.sub (ws' := [(ba, .inr (0, [.ref bt, .ref bp, .ref bl, .ref bh, .ref bq, .ref br, .ref bd, .int (jI bg), .int (jI bf)])), (bt, .inl (cA, 31, .inl (jA ft))), (bl, .inl (cA, 248, .inl (jA fl))), (bh, .inl (cA, 248, .inl (jA fh))), (bq, .inl (cA, 124, .inl (jA fq))), (br, .inl (cA, 31, .inl (jA fr))), (pa, .inr (1, [.ref ps, .int (jI pn1'21)])), (ps, .inl (cA, 160, .inl (jA pf1'22)))]) [4, 0, 1, 2, 5, 3, 6, 7] rfl
    have hD9 := hD.sub (ws' := [(ba, .inr (0, [.ref bt, .ref bp, .ref bl, .ref bh, .ref bq, .ref br, .ref bd, .int (jI bg), .int (jI bf)])), (bt, .inl (cA, 31, .inl (jA ft))), (bl, .inl (cA, 248, .inl (jA fl))), (bh, .inl (cA, 248, .inl (jA fh))), (bq, .inl (cA, 124, .inl (jA fq))), (br, .inl (cA, 31, .inl (jA fr))), (pa, .inr (1, [.ref ps, .int (jI pn1'21)])), (ps, .inl (cA, 160, .inl (jA pf1'22)))]) [4, 0, 1, 2, 5, 3, 6, 7] (by decide) rfl
    subst hAe
    subst hQ
    exact W.vret hx hb hr (fun t ht hW => ⟨⟨(pn1'21, pf1'22), rfl, Eq.trans (by rw [f_XB_printRow_s]; rw [← hwb]; try dsimp only; rw [← hwb4]; try dsimp only; rw [if_neg (Int.not_lt.mpr c17_)]; rw [← hwb9]; try dsimp only; rw [← hwb14]; try dsimp only; rw [← hwb19]; try dsimp only; rw [← hwb24]; try dsimp only; try rfl) rfl, ⟨by rw [ht]; exact hP9, va_K.moved hW.alike hK, hD9⟩⟩, hS.F ht⟩) hS.2.2 dXB_printRow_60
  · refine lv_aload_n hx hb dXB_printRow_20 rfl (lv_at hl 2 rfl) ?_
    refine ji_bipush hx hb dXB_printRow_21 (by decide) ?_
    refine jwVv (rest := []) (wr := [(ba, .inr (0, [.ref bt, .ref bp, .ref bl, .ref bh, .ref bq, .ref br, .ref bd, .int (jI bg), .int (jI bf)])), (bt, .inl (cA, 31, .inl (jA ft))), (bl, .inl (cA, 248, .inl (jA fl))), (bh, .inl (cA, 248, .inl (jA fh))), (bq, .inl (cA, 124, .inl (jA fq))), (br, .inl (cA, 31, .inl (jA fr)))]) ⟨hx, hb, hml, hown, hts⟩ (c_XP_put l dC dI cA _ pa ps pn1'1 pf1'2 60 (by first | assumption | omega)) (cwV 1 hts (jG_V tw_585 tw_586 tw_587 tw_4 tw_588) rfl rfl rfl (by decide +kernel) (by rw [hR]; exact ⟨Nat.le_of_ble_eq_true rfl, Nat.le_of_ble_eq_true rfl⟩)) hK hP hD hS hA hN [6, 7] [0, 1, 2, 3, 4, 5] rfl rfl (by decide) (by decide) (by decide) 6 1 rfl rfl rfl rfl hl.1 rfl (Nat.le_of_ble_eq_true rfl) dXB_printRow_23 (by rw [hR]; exact ⟨Nat.le_of_ble_eq_true rfl, Nat.le_of_ble_eq_true rfl⟩) (fun u28 H locs hwb29 hP hD hS => ?_)
    obtain ⟨pn1'26, pf1'27⟩ := u28
    try dsimp only at hwb29
    have hP : va_P (dC, dI) vwCl [(ba, .inr (0, [.ref bt, .ref bp, .ref bl, .ref bh, .ref bq, .ref br, .ref bd, .int (jI bg), .int (jI bf)])), (bt, .inl (cA, 31, .inl (jA ft))), (bl, .inl (cA, 248, .inl (jA fl))), (bh, .inl (cA, 248, .inl (jA fh))), (bq, .inl (cA, 124, .inl (jA fq))), (br, .inl (cA, 31, .inl (jA fr))), (pa, .inr (1, [.ref ps, .int (jI pn1'26)])), (ps, .inl (cA, 160, .inl (jA pf1'27)))] H := hP
    have hD : va_D A [(ba, .inr (0, [.ref bt, .ref bp, .ref bl, .ref bh, .ref bq, .ref br, .ref bd, .int (jI bg), .int (jI bf)])), (bt, .inl (cA, 31, .inl (jA ft))), (bl, .inl (cA, 248, .inl (jA fl))), (bh, .inl (cA, 248, .inl (jA fh))), (bq, .inl (cA, 124, .inl (jA fq))), (br, .inl (cA, 31, .inl (jA fr))), (pa, .inr (1, [.ref ps, .int (jI pn1'26)])), (ps, .inl (cA, 160, .inl (jA pf1'27)))] := hD
    have f30 := f_XP_put_b pn1'1 pf1'2 60 (by first | assumption | omega)
    rw [← hwb29] at f30; try dsimp only at f30
    refine lv_aload_n hx hb dXB_printRow_26 rfl (lv_at hl 2 rfl) ?_
    refine lv_aload_n hx hb dXB_printRow_27 rfl (lv_at hl 0 rfl) ?_
    refine va_get (D := (dC, dI)) (ci := 0) (v := .ref bt) (C := RXB) (T := TXB) (N := 9) hx hb hts (fun w h => jmem (inXB w h)) hown hK hP 0 rfl rfl 0 (by decide) (hts _ (jmem tw_73)) (fun _ h9 => h9) rfl dXB_printRow_28 ?_
    refine lv_iload_n hx hb dXB_printRow_31 rfl (lv_at hl 1 rfl) ?_
    refine ji_iald hx hb hK hP 1 0 rfl rfl ⟨by omega, by omega⟩ (by decide) dXB_printRow_32 ?_
    have rb31 := hbt zg
    refine jwVv (rest := []) (wr := [(ba, .inr (0, [.ref bt, .ref bp, .ref bl, .ref bh, .ref bq, .ref br, .ref bd, .int (jI bg), .int (jI bf)])), (bt, .inl (cA, 31, .inl (jA ft))), (bl, .inl (cA, 248, .inl (jA fl))), (bh, .inl (cA, 248, .inl (jA fh))), (bq, .inl (cA, 124, .inl (jA fq))), (br, .inl (cA, 31, .inl (jA fr)))]) ⟨hx, hb, hml, hown, hts⟩ (c_XP_putNumber l dC dI cA _ pa ps pn1'26 pf1'27 (ft zg) (by first | assumption | omega) (by first | assumption | omega)) (cwV 1 hts (jG_V tw_589 tw_590 tw_591 tw_4 tw_592) rfl rfl rfl (by decide +kernel) (by rw [hR]; exact ⟨Nat.le_of_ble_eq_true rfl, Nat.le_of_ble_eq_true rfl⟩)) hK hP hD hS hA hN [6, 7] [0, 1, 2, 3, 4, 5] rfl rfl (by decide) (by decide) (by decide) 6 1 rfl rfl rfl rfl hl.1 rfl (Nat.le_of_ble_eq_true rfl) dXB_printRow_33 (by rw [hR]; exact ⟨Nat.le_of_ble_eq_true rfl, Nat.le_of_ble_eq_true rfl⟩) (fun u34 H locs hwb35 hP hD hS => ?_)
    obtain ⟨pn1'32, pf1'33⟩ := u34
    try dsimp only at hwb35
    have hP : va_P (dC, dI) vwCl [(ba, .inr (0, [.ref bt, .ref bp, .ref bl, .ref bh, .ref bq, .ref br, .ref bd, .int (jI bg), .int (jI bf)])), (bt, .inl (cA, 31, .inl (jA ft))), (bl, .inl (cA, 248, .inl (jA fl))), (bh, .inl (cA, 248, .inl (jA fh))), (bq, .inl (cA, 124, .inl (jA fq))), (br, .inl (cA, 31, .inl (jA fr))), (pa, .inr (1, [.ref ps, .int (jI pn1'32)])), (ps, .inl (cA, 160, .inl (jA pf1'33)))] H := hP
    have hD : va_D A [(ba, .inr (0, [.ref bt, .ref bp, .ref bl, .ref bh, .ref bq, .ref br, .ref bd, .int (jI bg), .int (jI bf)])), (bt, .inl (cA, 31, .inl (jA ft))), (bl, .inl (cA, 248, .inl (jA fl))), (bh, .inl (cA, 248, .inl (jA fh))), (bq, .inl (cA, 124, .inl (jA fq))), (br, .inl (cA, 31, .inl (jA fr))), (pa, .inr (1, [.ref ps, .int (jI pn1'32)])), (ps, .inl (cA, 160, .inl (jA pf1'33)))] := hD
    have f36 := f_XP_putNumber_b pn1'26 pf1'27 (ft zg) (by first | assumption | omega) (by first | assumption | omega)
    rw [← hwb35] at f36; try dsimp only at f36
    refine lv_aload_n hx hb dXB_printRow_36 rfl (lv_at hl 0 rfl) ?_
    refine lv_iload_n hx hb dXB_printRow_37 rfl (lv_at hl 1 rfl) ?_
    refine lv_aload_n hx hb dXB_printRow_38 rfl (lv_at hl 2 rfl) ?_
    refine jwVv (rest := []) (wr := [(bt, .inl (cA, 31, .inl (jA ft))), (bq, .inl (cA, 124, .inl (jA fq))), (br, .inl (cA, 31, .inl (jA fr)))]) ⟨hx, hb, hml, hown, hts⟩ (c_XB_printSpans l dC dI cA _ ba bt bp bl bh bq br bd bg bf fl fh zg pa ps pn1'32 pf1'33 (by first | assumption | omega) (by first | assumption | omega) (by first | assumption | omega) (by first | assumption | omega)) (cwV 2 hts (jG_V tw_595 tw_597 ts_11 tw_5 tw_598) rfl rfl rfl (by decide +kernel) (by rw [hR]; exact ⟨Nat.le_of_ble_eq_true rfl, Nat.le_of_ble_eq_true rfl⟩)) hK hP hD hS hA hN [0, 2, 3, 6, 7] [1, 4, 5] rfl rfl (by decide) (by decide) (by decide) 0 0 rfl rfl rfl rfl hl.1 rfl (Nat.le_of_ble_eq_true rfl) dXB_printRow_39 (by rw [hR]; exact ⟨Nat.le_of_ble_eq_true rfl, Nat.le_of_ble_eq_true rfl⟩) (fun u39 H locs hwb40 hP hD hS => ?_)
    obtain ⟨pn1'37, pf1'38⟩ := u39
    try dsimp only at hwb40
    have hP : va_P (dC, dI) vwCl [(bt, .inl (cA, 31, .inl (jA ft))), (bq, .inl (cA, 124, .inl (jA fq))), (br, .inl (cA, 31, .inl (jA fr))), (ba, .inr (0, [.ref bt, .ref bp, .ref bl, .ref bh, .ref bq, .ref br, .ref bd, .int (jI bg), .int (jI bf)])), (bl, .inl (cA, 248, .inl (jA fl))), (bh, .inl (cA, 248, .inl (jA fh))), (pa, .inr (1, [.ref ps, .int (jI pn1'37)])), (ps, .inl (cA, 160, .inl (jA pf1'38)))] H := hP
    have hD : va_D A [(bt, .inl (cA, 31, .inl (jA ft))), (bq, .inl (cA, 124, .inl (jA fq))), (br, .inl (cA, 31, .inl (jA fr))), (ba, .inr (0, [.ref bt, .ref bp, .ref bl, .ref bh, .ref bq, .ref br, .ref bd, .int (jI bg), .int (jI bf)])), (bl, .inl (cA, 248, .inl (jA fl))), (bh, .inl (cA, 248, .inl (jA fh))), (pa, .inr (1, [.ref ps, .int (jI pn1'37)])), (ps, .inl (cA, 160, .inl (jA pf1'38)))] := hD
    have f41 := f_XB_printSpans_b bg bf fl fh zg pn1'32 pf1'33 (by first | assumption | omega) (by first | assumption | omega) (by first | assumption | omega) (by first | assumption | omega)
    rw [← hwb40] at f41; try dsimp only at f41
    refine lv_aload_n hx hb dXB_printRow_42 rfl (lv_at hl 0 rfl) ?_
    refine lv_iload_n hx hb dXB_printRow_43 rfl (lv_at hl 1 rfl) ?_
    refine lv_aload_n hx hb dXB_printRow_44 rfl (lv_at hl 2 rfl) ?_
    refine jwVv (rest := []) (wr := [(bt, .inl (cA, 31, .inl (jA ft))), (bq, .inl (cA, 124, .inl (jA fq))), (bl, .inl (cA, 248, .inl (jA fl))), (bh, .inl (cA, 248, .inl (jA fh)))]) ⟨hx, hb, hml, hown, hts⟩ (c_XB_printRoutes l dC dI cA _ ba bt bp bl bh bq br bd bg bf fr zg pa ps pn1'37 pf1'38 (by first | assumption | omega) (by first | assumption | omega) (by first | assumption | omega)) (cwV 2 hts (jG_V tw_599 tw_601 ts_12 tw_5 tw_602) rfl rfl rfl (by decide +kernel) (by rw [hR]; exact ⟨Nat.le_of_ble_eq_true rfl, Nat.le_of_ble_eq_true rfl⟩)) hK hP hD hS hA hN [3, 2, 6, 7] [0, 1, 4, 5] rfl rfl (by decide) (by decide) (by decide) 3 0 rfl rfl rfl rfl hl.1 rfl (Nat.le_of_ble_eq_true rfl) dXB_printRow_45 (by rw [hR]; exact ⟨Nat.le_of_ble_eq_true rfl, Nat.le_of_ble_eq_true rfl⟩) (fun u44 H locs hwb45 hP hD hS => ?_)
    obtain ⟨pn1'42, pf1'43⟩ := u44
    try dsimp only at hwb45
    have hP : va_P (dC, dI) vwCl [(bt, .inl (cA, 31, .inl (jA ft))), (bq, .inl (cA, 124, .inl (jA fq))), (bl, .inl (cA, 248, .inl (jA fl))), (bh, .inl (cA, 248, .inl (jA fh))), (ba, .inr (0, [.ref bt, .ref bp, .ref bl, .ref bh, .ref bq, .ref br, .ref bd, .int (jI bg), .int (jI bf)])), (br, .inl (cA, 31, .inl (jA fr))), (pa, .inr (1, [.ref ps, .int (jI pn1'42)])), (ps, .inl (cA, 160, .inl (jA pf1'43)))] H := hP
    have hD : va_D A [(bt, .inl (cA, 31, .inl (jA ft))), (bq, .inl (cA, 124, .inl (jA fq))), (bl, .inl (cA, 248, .inl (jA fl))), (bh, .inl (cA, 248, .inl (jA fh))), (ba, .inr (0, [.ref bt, .ref bp, .ref bl, .ref bh, .ref bq, .ref br, .ref bd, .int (jI bg), .int (jI bf)])), (br, .inl (cA, 31, .inl (jA fr))), (pa, .inr (1, [.ref ps, .int (jI pn1'42)])), (ps, .inl (cA, 160, .inl (jA pf1'43)))] := hD
    have f46 := f_XB_printRoutes_b bg bf fr zg pn1'37 pf1'38 (by first | assumption | omega) (by first | assumption | omega) (by first | assumption | omega)
    rw [← hwb45] at f46; try dsimp only at f46
    refine lv_aload_n hx hb dXB_printRow_48 rfl (lv_at hl 0 rfl) ?_
    refine lv_iload_n hx hb dXB_printRow_49 rfl (lv_at hl 1 rfl) ?_
    refine lv_aload_n hx hb dXB_printRow_50 rfl (lv_at hl 2 rfl) ?_
    refine jwVv (rest := []) (wr := [(bt, .inl (cA, 31, .inl (jA ft))), (bl, .inl (cA, 248, .inl (jA fl))), (bh, .inl (cA, 248, .inl (jA fh))), (br, .inl (cA, 31, .inl (jA fr)))]) ⟨hx, hb, hml, hown, hts⟩ (c_XB_printLimits l dC dI cA _ ba bt bp bl bh bq br bd bg bf fq zg pa ps pn1'42 pf1'43 (by first | assumption | omega) (by first | assumption | omega) (by first | assumption | omega)) (cwV 2 hts (jG_V tw_603 tw_605 ts_13 tw_5 tw_606) rfl rfl rfl (by decide +kernel) (by rw [hR]; exact ⟨Nat.le_of_ble_eq_true rfl, Nat.le_of_ble_eq_true rfl⟩)) hK hP hD hS hA hN [4, 1, 6, 7] [0, 2, 3, 5] rfl rfl (by decide) (by decide) (by decide) 4 0 rfl rfl rfl rfl hl.1 rfl (Nat.le_of_ble_eq_true rfl) dXB_printRow_51 (by rw [hR]; exact ⟨Nat.le_of_ble_eq_true rfl, Nat.le_of_ble_eq_true rfl⟩) (fun u49 H locs hwb50 hP hD hS => ?_)
    obtain ⟨pn1'47, pf1'48⟩ := u49
    try dsimp only at hwb50
    have hP : va_P (dC, dI) vwCl [(bt, .inl (cA, 31, .inl (jA ft))), (bl, .inl (cA, 248, .inl (jA fl))), (bh, .inl (cA, 248, .inl (jA fh))), (br, .inl (cA, 31, .inl (jA fr))), (ba, .inr (0, [.ref bt, .ref bp, .ref bl, .ref bh, .ref bq, .ref br, .ref bd, .int (jI bg), .int (jI bf)])), (bq, .inl (cA, 124, .inl (jA fq))), (pa, .inr (1, [.ref ps, .int (jI pn1'47)])), (ps, .inl (cA, 160, .inl (jA pf1'48)))] H := hP
    have hD : va_D A [(bt, .inl (cA, 31, .inl (jA ft))), (bl, .inl (cA, 248, .inl (jA fl))), (bh, .inl (cA, 248, .inl (jA fh))), (br, .inl (cA, 31, .inl (jA fr))), (ba, .inr (0, [.ref bt, .ref bp, .ref bl, .ref bh, .ref bq, .ref br, .ref bd, .int (jI bg), .int (jI bf)])), (bq, .inl (cA, 124, .inl (jA fq))), (pa, .inr (1, [.ref ps, .int (jI pn1'47)])), (ps, .inl (cA, 160, .inl (jA pf1'48)))] := hD
    have f51 := f_XB_printLimits_b bg bf fq zg pn1'42 pf1'43 (by first | assumption | omega) (by first | assumption | omega) (by first | assumption | omega)
    rw [← hwb50] at f51; try dsimp only at f51
    refine lv_aload_n hx hb dXB_printRow_54 rfl (lv_at hl 2 rfl) ?_
    refine ji_bipush hx hb dXB_printRow_55 (by decide) ?_
    refine jwVv (rest := []) (wr := [(bt, .inl (cA, 31, .inl (jA ft))), (bl, .inl (cA, 248, .inl (jA fl))), (bh, .inl (cA, 248, .inl (jA fh))), (br, .inl (cA, 31, .inl (jA fr))), (ba, .inr (0, [.ref bt, .ref bp, .ref bl, .ref bh, .ref bq, .ref br, .ref bd, .int (jI bg), .int (jI bf)])), (bq, .inl (cA, 124, .inl (jA fq)))]) ⟨hx, hb, hml, hown, hts⟩ (c_XP_put l dC dI cA _ pa ps pn1'47 pf1'48 59 (by first | assumption | omega)) (cwV 1 hts (jG_V tw_585 tw_586 tw_587 tw_4 tw_588) rfl rfl rfl (by decide +kernel) (by rw [hR]; exact ⟨Nat.le_of_ble_eq_true rfl, Nat.le_of_ble_eq_true rfl⟩)) hK hP hD hS hA hN [6, 7] [0, 1, 2, 3, 4, 5] rfl rfl (by decide) (by decide) (by decide) 6 1 rfl rfl rfl rfl hl.1 rfl (Nat.le_of_ble_eq_true rfl) dXB_printRow_57 (by rw [hR]; exact ⟨Nat.le_of_ble_eq_true rfl, Nat.le_of_ble_eq_true rfl⟩) (fun u54 H locs hwb55 hP hD hS => ?_)
    obtain ⟨pn1'52, pf1'53⟩ := u54
    try dsimp only at hwb55
    have hP : va_P (dC, dI) vwCl [(bt, .inl (cA, 31, .inl (jA ft))), (bl, .inl (cA, 248, .inl (jA fl))), (bh, .inl (cA, 248, .inl (jA fh))), (br, .inl (cA, 31, .inl (jA fr))), (ba, .inr (0, [.ref bt, .ref bp, .ref bl, .ref bh, .ref bq, .ref br, .ref bd, .int (jI bg), .int (jI bf)])), (bq, .inl (cA, 124, .inl (jA fq))), (pa, .inr (1, [.ref ps, .int (jI pn1'52)])), (ps, .inl (cA, 160, .inl (jA pf1'53)))] H := hP
    have hD : va_D A [(bt, .inl (cA, 31, .inl (jA ft))), (bl, .inl (cA, 248, .inl (jA fl))), (bh, .inl (cA, 248, .inl (jA fh))), (br, .inl (cA, 31, .inl (jA fr))), (ba, .inr (0, [.ref bt, .ref bp, .ref bl, .ref bh, .ref bq, .ref br, .ref bd, .int (jI bg), .int (jI bf)])), (bq, .inl (cA, 124, .inl (jA fq))), (pa, .inr (1, [.ref ps, .int (jI pn1'52)])), (ps, .inl (cA, 160, .inl (jA pf1'53)))] := hD
    have f56 := f_XP_put_b pn1'47 pf1'48 59 (by first | assumption | omega)
    rw [← hwb55] at f56; try dsimp only at f56
    have hP9 := hP.sub (ws' := [(ba, .inr (0, [.ref bt, .ref bp, .ref bl, .ref bh, .ref bq, .ref br, .ref bd, .int (jI bg), .int (jI bf)])), (bt, .inl (cA, 31, .inl (jA ft))), (bl, .inl (cA, 248, .inl (jA fl))), (bh, .inl (cA, 248, .inl (jA fh))), (bq, .inl (cA, 124, .inl (jA fq))), (br, .inl (cA, 31, .inl (jA fr))), (pa, .inr (1, [.ref ps, .int (jI pn1'52)])), (ps, .inl (cA, 160, .inl (jA pf1'53)))]) [4, 0, 1, 2, 5, 3, 6, 7] rfl
    have hD9 := hD.sub (ws' := [(ba, .inr (0, [.ref bt, .ref bp, .ref bl, .ref bh, .ref bq, .ref br, .ref bd, .int (jI bg), .int (jI bf)])), (bt, .inl (cA, 31, .inl (jA ft))), (bl, .inl (cA, 248, .inl (jA fl))), (bh, .inl (cA, 248, .inl (jA fh))), (bq, .inl (cA, 124, .inl (jA fq))), (br, .inl (cA, 31, .inl (jA fr))), (pa, .inr (1, [.ref ps, .int (jI pn1'52)])), (ps, .inl (cA, 160, .inl (jA pf1'53)))]) [4, 0, 1, 2, 5, 3, 6, 7] (by decide) rfl
    subst hAe
    subst hQ
    exact W.vret hx hb hr (fun t ht hW => ⟨⟨(pn1'52, pf1'53), rfl, Eq.trans (by rw [f_XB_printRow_s]; rw [← hwb]; try dsimp only; rw [← hwb4]; try dsimp only; rw [if_pos c17_]; rw [← hwb29]; try dsimp only; rw [← hwb35]; try dsimp only; rw [← hwb40]; try dsimp only; rw [← hwb45]; try dsimp only; rw [← hwb50]; try dsimp only; rw [← hwb55]; try dsimp only; try rfl) rfl, ⟨by rw [ht]; exact hP9, va_K.moved hW.alike hK, hD9⟩⟩, hS.F ht⟩) hS.2.2 dXB_printRow_60

end
