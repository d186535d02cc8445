noncomputable def g_XB_divisorOf (bg : Int) (bf : Int) (fd : Int → Int) (zk : Int) (ze : Int) : Int :=
  fd ((zk * 8) + ze)
noncomputable def f_XB_divisorOf : Int → Int → (Int → Int) → Int → Int → Int := jopq g_XB_divisorOf
theorem f_XB_divisorOf_q : f_XB_divisorOf = g_XB_divisorOf := jopq_eq _
theorem f_XB_divisorOf_s (bg : Int) (bf : Int) (fd : Int → Int) (zk : Int) (ze : Int) : f_XB_divisorOf bg bf fd zk ze = (
    fd ((zk * 8) + ze)
  : Int) := by rw [f_XB_divisorOf_q]; rfl
theorem f_XB_divisorOf_b (bg : Int) (bf : Int) (fd : Int → Int) (zk : Int) (ze : Int) (hbd : ∀ i, 0 ≤ fd i ∧ fd i ≤ 20) (hzk : 0 ≤ zk ∧ zk < 4) (hze : 0 ≤ ze ∧ ze < 8) : 0 ≤ (f_XB_divisorOf bg bf fd zk ze) ∧ (f_XB_divisorOf bg bf fd zk ze) ≤ 20 := by rw [f_XB_divisorOf_s]; exact hbd _
set_option maxHeartbeats 4000000 in
set_option maxRecDepth 100000 in
theorem c_XB_divisorOf (l : Launch) (dC : Nat → ClassId) (dI : Nat → Nat → Nat) (cA : ClassId) (ba : Nat) (bt : Nat) (bp : Nat) (bl : Nat) (bh : Nat) (bq : Nat) (br : Nat) (bd : Nat) (bg : Int) (bf : Int) (fd : Int → Int) (zk : Int) (ze : Int) (hbd : ∀ i, 0 ≤ fd i ∧ fd i ≤ 20) (hzk : 0 ≤ zk ∧ zk < 4) (hze : 0 ≤ ze ∧ ze < 8) : Met l yXB_divisorOf (Cond.code yXB_divisorOf cXB_divisorOf 3 (some .int) :: TBL) ({ frames := 0, cells := 0, slots := 0, locals := 0 } : Room) (va_Pc [.ref ba, .int (jI zk), .int (jI ze)] (jB (dC, dI) [(cA, .int)] [(ba, .inr (0, [.ref bt, .ref bp, .ref bl, .ref bh, .ref bq, .ref br, .ref bd, .int (jI bg), .int (jI bf)])), (bd, .inl (cA, 32, .inl (jA fd)))])) (vp_Si (fun r => r = jI (f_XB_divisorOf bg bf fd zk ze))) 0 0 (fun _ => False) := by
  refine jMet (cc := cXB_divisorOf) (maxL := 3) (ret := some .int) (by decide) rfl ?_
  intro p e s m args below meth c s₁ R Q hR hQ B hml hv
  obtain ⟨rfl, hP, hK, hN⟩ := hv
  have hx := B.exec
  have hb := B.bytes
  have hr := B.returns
  have hts := atoms_spec (ws := Cond.code yXB_divisorOf cXB_divisorOf 3 (some .int) :: TBL) B.pre
  have hown : s.vm.findClass RXB = some m.cls := findClass_of_methodNamed B.named
  have hlocks := B.notSynchronized
  have hP : va_P (dC, dI) vwCl [(ba, .inr (0, [.ref bt, .ref bp, .ref bl, .ref bh, .ref bq, .ref br, .ref bd, .int (jI bg), .int (jI bf)])), (bd, .inl (cA, 32, .inl (jA fd)))] s.heap := hP
  have hl := lv_entry ([.ref ba, .int (jI zk), .int (jI ze)]) (n := 3) (Nat.le_of_ble_eq_true rfl)
  rw [lg_entry_eq]
  generalize (lg_sl ([.ref ba, .int (jI zk), .int (jI ze)]) ++ List.replicate (3 - (lg_sl ([.ref ba, .int (jI zk), .int (jI ze)])).length) Slot.unset).toArray = ls at hl ⊢
  have hl : lv_has ls 3 [(0, .ref ba), (1, .int (jI zk)), (2, .int (jI ze))] := hl
  refine lv_aload_n hx hb dXB_divisorOf_0 rfl (lv_at hl 0 rfl) ?_
  refine va_get (D := (dC, dI)) (ci := 0) (v := .ref bd) (C := RXB) (T := TXB) (N := 9) hx hb hts (fun w h => jmem (inXB w h)) hown hK hP 0 rfl rfl 6 (by decide) (hts _ (jmem tw_79)) (fun _ h9 => h9) rfl dXB_divisorOf_1 ?_
  refine lv_iload_n hx hb dXB_divisorOf_4 rfl (lv_at hl 1 rfl) ?_
  refine ji_bipush hx hb dXB_divisorOf_5 (by decide) ?_
  refine ji_imul hx hb dXB_divisorOf_7 ?_
  refine lv_iload_n hx hb dXB_divisorOf_8 rfl (lv_at hl 2 rfl) ?_
  refine ji_iadd hx hb dXB_divisorOf_9 ?_
  refine ji_iald hx hb hK hP 1 0 rfl rfl ⟨by omega, by omega⟩ (by decide) dXB_divisorOf_10 ?_
  have rb := hbd ((zk * 8) + ze)
  subst hQ
  exact W.iret (v := jI (fd ((zk * 8) + ze))) hx hb hr (fun t ht hW => ⟨_, rfl, congrArg jI (Eq.trans (by rw [f_XB_divisorOf_s]; try rfl) rfl), ht⟩) (fun _ h => nomatch h) dXB_divisorOf_11
noncomputable def g_XB_tellsSpan (bg : Int) (bf : Int) (fh : Int → Int) (zg : Int) (ze : Int) : Int :=
  if (fh ((zg * 8) + ze)) = (-1) then
    0
  else
    1
noncomputable def f_XB_tellsSpan : Int → Int → (Int → Int) → Int → Int → Int := jopq g_XB_tellsSpan
theorem f_XB_tellsSpan_q : f_XB_tellsSpan = g_XB_tellsSpan := jopq_eq _
theorem f_XB_tellsSpan_s (bg : Int) (bf : Int) (fh : Int → Int) (zg : Int) (ze : Int) : f_XB_tellsSpan bg bf fh zg ze = (
    if (fh ((zg * 8) + ze)) = (-1) then
      0
    else
      1
  : Int) := by rw [f_XB_tellsSpan_q]; rfl
theorem f_XB_tellsSpan_b (bg : Int) (bf : Int) (fh : Int → Int) (zg : Int) (ze : Int) (hbh : ∀ i, -1 ≤ fh i ∧ fh i ≤ 100000) (hzg : 0 ≤ zg ∧ zg ≤ 30) (hze : 0 ≤ ze ∧ ze < 8) : 0 ≤ (f_XB_tellsSpan bg bf fh zg ze) ∧ (f_XB_tellsSpan bg bf fh zg ze) ≤ 1 := by rw [f_XB_tellsSpan_s]; split <;> omega
theorem f_XB_tellsSpan_c (bg : Int) (bf : Int) (fh : Int → Int) (zg : Int) (ze : Int) (hbh : ∀ i, -1 ≤ fh i ∧ fh i ≤ 100000) (hzg : 0 ≤ zg ∧ zg ≤ 30) (hze : 0 ≤ ze ∧ ze < 8) : (f_XB_tellsSpan bg bf fh zg ze) = 1 → 0 ≤ fh (zg * 8 + ze) := by have := hbh (zg * 8 + ze); rw [f_XB_tellsSpan_s]; split <;> omega
set_option maxHeartbeats 4000000 in
set_option maxRecDepth 100000 in
theorem c_XB_tellsSpan (l : Launch) (dC : Nat → ClassId) (dI : Nat → Nat → Nat) (cA : ClassId) (ba : Nat) (bt : Nat) (bp : Nat) (bl : Nat) (bh : Nat) (bq : Nat) (br : Nat) (bd : Nat) (bg : Int) (bf : Int) (fh : Int → Int) (zg : Int) (ze : Int) (hbh : ∀ i, -1 ≤ fh i ∧ fh i ≤ 100000) (hzg : 0 ≤ zg ∧ zg ≤ 30) (hze : 0 ≤ ze ∧ ze < 8) : Met l yXB_tellsSpan (Cond.code yXB_tellsSpan cXB_tellsSpan 3 (some .boolean) :: TBL) ({ frames := 0, cells := 0, slots := 0, locals := 0 } : Room) (va_Pc [.ref ba, .int (jI zg), .int (jI ze)] (jB (dC, dI) [(cA, .int)] [(ba, .inr (0, [.ref bt, .ref bp, .ref bl, .ref bh, .ref bq, .ref br, .ref bd, .int (jI bg), .int (jI bf)])), (bh, .inl (cA, 248, .inl (jA fh)))])) (vp_Si (fun r => r = jI (f_XB_tellsSpan bg bf fh zg ze))) 0 0 (fun _ => False) := by
  refine jMet (cc := cXB_tellsSpan) (maxL := 3) (ret := some .boolean) (by decide) rfl ?_
  intro p e s m args below meth c s₁ R Q hR hQ B hml hv
  obtain ⟨rfl, hP, hK, hN⟩ := hv
  have hx := B.exec
  have hb := B.bytes
  have hr := B.returns
  have hts := atoms_spec (ws := Cond.code yXB_tellsSpan cXB_tellsSpan 3 (some .boolean) :: TBL) B.pre
  have hown : s.vm.findClass RXB = some m.cls := findClass_of_methodNamed B.named
  have hlocks := B.notSynchronized
  have hP : va_P (dC, dI) vwCl [(ba, .inr (0, [.ref bt, .ref bp, .ref bl, .ref bh, .ref bq, .ref br, .ref bd, .int (jI bg), .int (jI bf)])), (bh, .inl (cA, 248, .inl (jA fh)))] s.heap := hP
  have hl := lv_entry ([.ref ba, .int (jI zg), .int (jI ze)]) (n := 3) (Nat.le_of_ble_eq_true rfl)
  rw [lg_entry_eq]
  generalize (lg_sl ([.ref ba, .int (jI zg), .int (jI ze)]) ++ List.replicate (3 - (lg_sl ([.ref ba, .int (jI zg), .int (jI ze)])).length) Slot.unset).toArray = ls at hl ⊢
  have hl : lv_has ls 3 [(0, .ref ba), (1, .int (jI zg)), (2, .int (jI ze))] := hl
  refine lv_aload_n hx hb dXB_tellsSpan_0 rfl (lv_at hl 0 rfl) ?_
  refine va_get (D := (dC, dI)) (ci := 0) (v := .ref bh) (C := RXB) (T := TXB) (N := 9) hx hb hts (fun w h => jmem (inXB w h)) hown hK hP 0 rfl rfl 3 (by decide) (hts _ (jmem tw_76)) (fun _ h9 => h9) rfl dXB_tellsSpan_1 ?_
  refine lv_iload_n hx hb dXB_tellsSpan_4 rfl (lv_at hl 1 rfl) ?_
  refine ji_bipush hx hb dXB_tellsSpan_5 (by decide) ?_
  refine ji_imul hx hb dXB_tellsSpan_7 ?_
  refine lv_iload_n hx hb dXB_tellsSpan_8 rfl (lv_at hl 2 rfl) ?_
  refine ji_iadd hx hb dXB_tellsSpan_9 ?_
  refine ji_iald hx hb hK hP 1 0 rfl rfl ⟨by omega, by omega⟩ (by decide) dXB_tellsSpan_10 ?_
  have rb := hbh ((zg * 8) + ze)
  refine ji_iconst hx hb dXB_tellsSpan_11 ?_
  refine ji_icmp_eq (tgt := 19) hx hb dXB_tellsSpan_12 (by decide) (by omega) (by omega) (fun c12_ => ?_) (fun c12_ => ?_)
  · refine ji_iconst hx hb dXB_tellsSpan_19 ?_
    subst hQ
    exact W.zret (v := jI 0) hx hb hr (by first | decide | exact jz (by omega)) (fun t ht hW => ⟨_, rfl, congrArg jI (Eq.trans (by rw [f_XB_tellsSpan_s]; rw [if_pos c12_]; try rfl) rfl), ht⟩) (fun _ h => nomatch h) dXB_tellsSpan_20
  · refine ji_iconst hx hb dXB_tellsSpan_15 ?_
    refine lv_goto (tgt := 20) hx hb dXB_tellsSpan_16 (by decide) ?_
    subst hQ
    exact W.zret (v := jI 1) hx hb hr (by first | decide | exact jz (by omega)) (fun t ht hW => ⟨_, rfl, congrArg jI (Eq.trans (by rw [f_XB_tellsSpan_s]; rw [if_neg c12_]; try rfl) rfl), ht⟩) (fun _ h => nomatch h) dXB_tellsSpan_20
noncomputable def g_XB_tellsLimit (bg : Int) (bf : Int) (fq : Int → Int) (zg : Int) (zk : Int) : Int :=
  if (fq ((zg * 4) + zk)) = (-1) then
    0
  else
    1
noncomputable def f_XB_tellsLimit : Int → Int → (Int → Int) → Int → Int → Int := jopq g_XB_tellsLimit
theorem f_XB_tellsLimit_q : f_XB_tellsLimit = g_XB_tellsLimit := jopq_eq _
theorem f_XB_tellsLimit_s (bg : Int) (bf : Int) (fq : Int → Int) (zg : Int) (zk : Int) : f_XB_tellsLimit bg bf fq zg zk = (
    if (fq ((zg * 4) + zk)) = (-1) then
      0
    else
      1
  : Int) := by rw [f_XB_tellsLimit_q]; rfl
theorem f_XB_tellsLimit_b (bg : Int) (bf : Int) (fq : Int → Int) (zg : Int) (zk : Int) (hbq : ∀ i, -1 ≤ fq i ∧ fq i ≤ 999999) (hzg : 0 ≤ zg ∧ zg ≤ 30) (hzk : 0 ≤ zk ∧ zk < 4) : 0 ≤ (f_XB_tellsLimit bg bf fq zg zk) ∧ (f_XB_tellsLimit bg bf fq zg zk) ≤ 1 := by rw [f_XB_tellsLimit_s]; split <;> omega
theorem f_XB_tellsLimit_c (bg : Int) (bf : Int) (fq : Int → Int) (zg : Int) (zk : Int) (hbq : ∀ i, -1 ≤ fq i ∧ fq i ≤ 999999) (hzg : 0 ≤ zg ∧ zg ≤ 30) (hzk : 0 ≤ zk ∧ zk < 4) : (f_XB_tellsLimit bg bf fq zg zk) = 1 → 0 ≤ fq (zg * 4 + zk) := by have := hbq (zg * 4 + zk); rw [f_XB_tellsLimit_s]; split <;> omega
set_option maxHeartbeats 4000000 in
set_option maxRecDepth 100000 in
theorem c_XB_tellsLimit (l : Launch) (dC : Nat → ClassId) (dI : Nat → Nat → Nat) (cA : ClassId) (ba : Nat) (bt : Nat) (bp : Nat) (bl : Nat) (bh : Nat) (bq : Nat) (br : Nat) (bd : Nat) (bg : Int) (bf : Int) (fq : Int → Int) (zg : Int) (zk : Int) (hbq : ∀ i, -1 ≤ fq i ∧ fq i ≤ 999999) (hzg : 0 ≤ zg ∧ zg ≤ 30) (hzk : 0 ≤ zk ∧ zk < 4) : Met l yXB_tellsLimit (Cond.code yXB_tellsLimit cXB_tellsLimit 3 (some .boolean) :: TBL) ({ frames := 0, cells := 0, slots := 0, locals := 0 } : Room) (va_Pc [.ref ba, .int (jI zg), .int (jI zk)] (jB (dC, dI) [(cA, .int)] [(ba, .inr (0, [.ref bt, .ref bp, .ref bl, .ref bh, .ref bq, .ref br, .ref bd, .int (jI bg), .int (jI bf)])), (bq, .inl (cA, 124, .inl (jA fq)))])) (vp_Si (fun r => r = jI (f_XB_tellsLimit bg bf fq zg zk))) 0 0 (fun _ => False) := by
  refine jMet (cc := cXB_tellsLimit) (maxL := 3) (ret := some .boolean) (by decide) rfl ?_
  intro p e s m args below meth c s₁ R Q hR hQ B hml hv
  obtain ⟨rfl, hP, hK, hN⟩ := hv
  have hx := B.exec
  have hb := B.bytes
  have hr := B.returns
  have hts := atoms_spec (ws := Cond.code yXB_tellsLimit cXB_tellsLimit 3 (some .boolean) :: TBL) B.pre
  have hown : s.vm.findClass RXB = some m.cls := findClass_of_methodNamed B.named
  have hlocks := B.notSynchronized
  have hP : va_P (dC, dI) vwCl [(ba, .inr (0, [.ref bt, .ref bp, .ref bl, .ref bh, .ref bq, .ref br, .ref bd, .int (jI bg), .int (jI bf)])), (bq, .inl (cA, 124, .inl (jA fq)))] s.heap := hP
  have hl := lv_entry ([.ref ba, .int (jI zg), .int (jI zk)]) (n := 3) (Nat.le_of_ble_eq_true rfl)
  rw [lg_entry_eq]
  generalize (lg_sl ([.ref ba, .int (jI zg), .int (jI zk)]) ++ List.replicate (3 - (lg_sl ([.ref ba, .int (jI zg), .int (jI zk)])).length) Slot.unset).toArray = ls at hl ⊢
  have hl : lv_has ls 3 [(0, .ref ba), (1, .int (jI zg)), (2, .int (jI zk))] := hl
  refine lv_aload_n hx hb dXB_tellsLimit_0 rfl (lv_at hl 0 rfl) ?_
  refine va_get (D := (dC, dI)) (ci := 0) (v := .ref bq) (C := RXB) (T := TXB) (N := 9) hx hb hts (fun w h => jmem (inXB w h)) hown hK hP 0 rfl rfl 4 (by decide) (hts _ (jmem tw_77)) (fun _ h9 => h9) rfl dXB_tellsLimit_1 ?_
  refine lv_iload_n hx hb dXB_tellsLimit_4 rfl (lv_at hl 1 rfl) ?_
  refine ji_iconst hx hb dXB_tellsLimit_5 ?_
  refine ji_imul hx hb dXB_tellsLimit_6 ?_
  refine lv_iload_n hx hb dXB_tellsLimit_7 rfl (lv_at hl 2 rfl) ?_
  refine ji_iadd hx hb dXB_tellsLimit_8 ?_
  refine ji_iald hx hb hK hP 1 0 rfl rfl ⟨by omega, by omega⟩ (by decide) dXB_tellsLimit_9 ?_
  have rb := hbq ((zg * 4) + zk)
  refine ji_iconst hx hb dXB_tellsLimit_10 ?_
  refine ji_icmp_eq (tgt := 18) hx hb dXB_tellsLimit_11 (by decide) (by omega) (by omega) (fun c11_ => ?_) (fun c11_ => ?_)
  · refine ji_iconst hx hb dXB_tellsLimit_18 ?_
    subst hQ
    exact W.zret (v := jI 0) hx hb hr (by first | decide | exact jz (by omega)) (fun t ht hW => ⟨_, rfl, congrArg jI (Eq.trans (by rw [f_XB_tellsLimit_s]; rw [if_pos c11_]; try rfl) rfl), ht⟩) (fun _ h => nomatch h) dXB_tellsLimit_19
  · refine ji_iconst hx hb dXB_tellsLimit_14 ?_
    refine lv_goto (tgt := 19) hx hb dXB_tellsLimit_15 (by decide) ?_
    subst hQ
    exact W.zret (v := jI 1) hx hb hr (by first | decide | exact jz (by omega)) (fun t ht hW => ⟨_, rfl, congrArg jI (Eq.trans (by rw [f_XB_tellsLimit_s]; rw [if_neg c11_]; try rfl) rfl), ht⟩) (fun _ h => nomatch h) dXB_tellsLimit_19
noncomputable def g_XB_tellFormula (bg : Int) (bf : Int) (zk : Int) : Int :=
  jor bf (jpow zk)
noncomputable def f_XB_tellFormula : Int → Int → Int → Int := jopq g_XB_tellFormula
theorem f_XB_tellFormula_q : f_XB_tellFormula = g_XB_tellFormula := jopq_eq _
theorem f_XB_tellFormula_s (bg : Int) (bf : Int) (zk : Int) : f_XB_tellFormula bg bf zk = (
    jor bf (jpow zk)
  : Int) := by rw [f_XB_tellFormula_q]; rfl
theorem f_XB_tellFormula_b (bg : Int) (bf : Int) (zk : Int) (hbf : 0 ≤ bf ∧ bf < 2147483648) (hzk : 0 ≤ zk ∧ zk < 4) : 0 ≤ (f_XB_tellFormula bg bf zk) ∧ (f_XB_tellFormula bg bf zk) < 2147483648 := by rw [f_XB_tellFormula_s]; exact ⟨jor_nn _ _, jor_lt hbf.2 (jpow_lt (by omega))⟩
set_option maxHeartbeats 4000000 in
set_option maxRecDepth 100000 in
theorem c_XB_tellFormula (l : Launch) (dC : Nat → ClassId) (dI : Nat → Nat → Nat) (cA : ClassId) (sz : Nat) (ba : Nat) (bt : Nat) (bp : Nat) (bl : Nat) (bh : Nat) (bq : Nat) (br : Nat) (bd : Nat) (bg : Int) (bf : Int) (zk : Int) (hbf : 0 ≤ bf ∧ bf < 2147483648) (hzk : 0 ≤ zk ∧ zk < 4) : Met l yXB_tellFormula (Cond.code yXB_tellFormula cXB_tellFormula 2 none :: TBL) ({ frames := 0, cells := 0, slots := 0, locals := 0 } : Room) (va_Pc [.ref ba, .int (jI zk)] (jBw (dC, dI) [(cA, .int)] [(ba, .inr (0, [.ref bt, .ref bp, .ref bl, .ref bh, .ref bq, .ref br, .ref bd, .int (jI bg), .int (jI bf)]))] sz)) (va_Qv (fun (u : Int) => u = f_XB_tellFormula bg bf zk) (fun u t => jE (dC, dI) [(cA, .int)] [(ba, .inr (0, [.ref bt, .ref bp, .ref bl, .ref bh, .ref bq, .ref br, .ref bd, .int (jI bg), .int (jI bf)]))] sz [(ba, .inr (0, [.ref bt, .ref bp, .ref bl, .ref bh, .ref bq, .ref br, .ref bd, .int (jI bg), .int (jI u)]))] t) (va_A [(ba, .inr (0, [.ref bt, .ref bp, .ref bl, .ref bh, .ref bq, .ref br, .ref bd, .int (jI bg), .int (jI bf)]))] sz)) 0 0 (va_A [(ba, .inr (0, [.ref bt, .ref bp, .ref bl, .ref bh, .ref bq, .ref br, .ref bd, .int (jI bg), .int (jI bf)]))] sz) := by
  refine jMet (cc := cXB_tellFormula) (maxL := 2) (ret := none) (by decide) rfl ?_
  intro p e s m args below meth c s₁ R Q hR hQ B hml hv
  obtain ⟨rfl, hsz, hP, hK, hD0, hN⟩ := hv
  have hx := B.exec
  have hb := B.bytes
  have hr := B.returns
  have hts := atoms_spec (ws := Cond.code yXB_tellFormula cXB_tellFormula 2 none :: TBL) B.pre
  have hown : s.vm.findClass RXB = some m.cls := findClass_of_methodNamed B.named
  have hlocks := B.notSynchronized
  subst hsz
  obtain ⟨A, hAe⟩ : ∃ A, A = va_A [(ba, .inr (0, [.ref bt, .ref bp, .ref bl, .ref bh, .ref bq, .ref br, .ref bd, .int (jI bg), .int (jI bf)]))] s.heap.size := ⟨_, rfl⟩
  have hD : va_D A [(ba, .inr (0, [.ref bt, .ref bp, .ref bl, .ref bh, .ref bq, .ref br, .ref bd, .int (jI bg), .int (jI bf)]))] := by rw [hAe]; exact hD0.self
  have hA : ∀ q : Nat, s.heap.size ≤ q → A q := fun q h => by rw [hAe]; exact Or.inr h
  have hS : va_S A s.heap s.heap [] := va_S.rf
  have hP : va_P (dC, dI) vwCl [(ba, .inr (0, [.ref bt, .ref bp, .ref bl, .ref bh, .ref bq, .ref br, .ref bd, .int (jI bg), .int (jI bf)]))] s.heap := hP
  have hl := lv_entry ([.ref ba, .int (jI zk)]) (n := 2) (Nat.le_of_ble_eq_true rfl)
  rw [lg_entry_eq]
  generalize (lg_sl ([.ref ba, .int (jI zk)]) ++ List.replicate (2 - (lg_sl ([.ref ba, .int (jI zk)])).length) Slot.unset).toArray = ls at hl ⊢
  have hl : lv_has ls 2 [(0, .ref ba), (1, .int (jI zk))] := hl
  have q1 := jpow_pos zk
  refine lv_aload_n hx hb dXB_tellFormula_0 rfl (lv_at hl 0 rfl) ?_
  refine lv_dup hx hb dXB_tellFormula_1 rfl ?_
  refine va_get (D := (dC, dI)) (ci := 0) (v := .int (jI bf)) (C := RXB) (T := TXB) (N := 9) hx hb hts (fun w h => jmem (inXB w h)) hown hK hP 0 rfl rfl 8 (by decide) (hts _ (jmem tw_81)) (fun _ h9 => h9) rfl dXB_tellFormula_2 ?_
  refine ji_iconst hx hb dXB_tellFormula_5 ?_
  refine lv_iload_n hx hb dXB_tellFormula_6 rfl (lv_at hl 1 rfl) ?_
  refine ji_ishl1 hx hb dXB_tellFormula_7 (by omega) (by omega) ?_
  refine ji_ior hx hb dXB_tellFormula_8 (by omega) (by omega) ?_
  refine va_put (D := (dC, dI)) (ci := 0) (v := .int (jI (jor bf (jpow zk)))) (ty := (.int)) (C := RXB) (T := TXB) (N := 9) hx hb hts (fun w h => jmem (inXB w h)) tyXB tyXB_ok nXB hown hK hP hD hS 0 rfl rfl 8 (by decide) (hts _ (jmem tw_81)) (fun _ h9 => h9) rfl (by decide +kernel) rfl rfl (Nat.le_of_ble_eq_true rfl) dXB_tellFormula_9 (fun H locs hP hD hS => ?_)
  have hP : va_P (dC, dI) vwCl [(ba, .inr (0, [.ref bt, .ref bp, .ref bl, .ref bh, .ref bq, .ref br, .ref bd, .int (jI bg), .int (jI (jor bf (jpow zk)))]))] H := hP
  have hD : va_D A [(ba, .inr (0, [.ref bt, .ref bp, .ref bl, .ref bh, .ref bq, .ref br, .ref bd, .int (jI bg), .int (jI (jor bf (jpow zk)))]))] := hD
  have hP9 := hP.sub (ws' := [(ba, .inr (0, [.ref bt, .ref bp, .ref bl, .ref bh, .ref bq, .ref br, .ref bd, .int (jI bg), .int (jI (jor bf (jpow zk)))]))]) [0] rfl
  have hD9 := hD.sub (ws' := [(ba, .inr (0, [.ref bt, .ref bp, .ref bl, .ref bh, .ref bq, .ref br, .ref bd, .int (jI bg), .int (jI (jor bf (jpow zk)))]))]) [0] (by decide) rfl
  subst hAe
  subst hQ
  exact W.vret hx hb hr (fun t ht hW => ⟨⟨(jor bf (jpow zk)), rfl, Eq.trans (by rw [f_XB_tellFormula_s]; try rfl) rfl, ⟨by rw [ht]; exact hP9, va_K.moved hW.alike hK, hD9⟩⟩, hS.F ht⟩) hS.2.2 dXB_tellFormula_12
noncomputable def g_XB_tellTerm (bg : Int) (bf : Int) (fd : Int → Int) (zk : Int) (ze : Int) (zd : Int) : (Int → Int) :=
  jset fd ((zk * 8) + ze) zd
noncomputable def f_XB_tellTerm : Int → Int → (Int → Int) → Int → Int → Int → (Int → Int) := jopq g_XB_tellTerm
theorem f_XB_tellTerm_q : f_XB_tellTerm = g_XB_tellTerm := jopq_eq _
theorem f_XB_tellTerm_s (bg : Int) (bf : Int) (fd : Int → Int) (zk : Int) (ze : Int) (zd : Int) : f_XB_tellTerm bg bf fd zk ze zd = (
    jset fd ((zk * 8) + ze) zd
  : (Int → Int)) := by rw [f_XB_tellTerm_q]; rfl
theorem f_XB_tellTerm_b (bg : Int) (bf : Int) (fd : Int → Int) (zk : Int) (ze : Int) (zd : Int) (hbd : ∀ i, 0 ≤ fd i ∧ fd i ≤ 20) (hzk : 0 ≤ zk ∧ zk < 4) (hze : 0 ≤ ze ∧ ze < 8) (hzd : 1 ≤ zd ∧ zd ≤ 20) : ∀ i, 0 ≤ (f_XB_tellTerm bg bf fd zk ze zd) i ∧ (f_XB_tellTerm bg bf fd zk ze zd) i ≤ 20 := by
  intro i
  rw [f_XB_tellTerm_s]
  unfold jset
  split
  · omega
  · exact hbd i
set_option maxHeartbeats 4000000 in
set_option maxRecDepth 100000 in
theorem c_XB_tellTerm (l : Launch) (dC : Nat → ClassId) (dI : Nat → Nat → Nat) (cA : ClassId) (sz : Nat) (ba : Nat) (bt : Nat) (bp : Nat) (bl : Nat) (bh : Nat) (bq : Nat) (br : Nat) (bd : Nat) (bg : Int) (bf : Int) (fd : Int → Int) (zk : Int) (ze : Int) (zd : Int) (hbd : ∀ i, 0 ≤ fd i ∧ fd i ≤ 20) (hzk : 0 ≤ zk ∧ zk < 4) (hze : 0 ≤ ze ∧ ze < 8) (hzd : 1 ≤ zd ∧ zd ≤ 20) : Met l yXB_tellTerm (Cond.code yXB_tellTerm cXB_tellTerm 4 none :: TBL) ({ frames := 0, cells := 0, slots := 0, locals := 0 } : Room) (va_Pc [.ref ba, .int (jI zk), .int (jI ze), .int (jI zd)] (jBw (dC, dI) [(cA, .int)] [(ba, .inr (0, [.ref bt, .ref bp, .ref bl, .ref bh, .ref bq, .ref br, .ref bd, .int (jI bg), .int (jI bf)])), (bd, .inl (cA, 32, .inl (jA fd)))] sz)) (va_Qv (fun (u : (Int → Int)) => u = f_XB_tellTerm bg bf fd zk ze zd) (fun u t => jE (dC, dI) [(cA, .int)] [(ba, .inr (0, [.ref bt, .ref bp, .ref bl, .ref bh, .ref bq, .ref br, .ref bd, .int (jI bg), .int (jI bf)])), (bd, .inl (cA, 32, .inl (jA fd)))] sz [(ba, .inr (0, [.ref bt, .ref bp, .ref bl, .ref bh, .ref bq, .ref br, .ref bd, .int (jI bg), .int (jI bf)])), (bd, .inl (cA, 32, .inl (jA u)))] t) (va_A [(ba, .inr (0, [.ref bt, .ref bp, .ref bl, .ref bh, .ref bq, .ref br, .ref bd, .int (jI bg), .int (jI bf)])), (bd, .inl (cA, 32, .inl (jA fd)))] sz)) 0 0 (va_A [(ba, .inr (0, [.ref bt, .ref bp, .ref bl, .ref bh, .ref bq, .ref br, .ref bd, .int (jI bg), .int (jI bf)])), (bd, .inl (cA, 32, .inl (jA fd)))] sz) := by
  refine jMet (cc := cXB_tellTerm) (maxL := 4) (ret := none) (by decide) rfl ?_
  intro p e s m args below meth c s₁ R Q hR hQ B hml hv
  obtain ⟨rfl, hsz, hP, hK, hD0, hN⟩ := hv
  have hx := B.exec
  have hb := B.bytes
  have hr := B.returns
  have hts := atoms_spec (ws := Cond.code yXB_tellTerm cXB_tellTerm 4 none :: TBL) B.pre
  have hown : s.vm.findClass RXB = some m.cls := findClass_of_methodNamed B.named
  have hlocks := B.notSynchronized
  subst hsz
  obtain ⟨A, hAe⟩ : ∃ A, A = va_A [(ba, .inr (0, [.ref bt, .ref bp, .ref bl, .ref bh, .ref bq, .ref br, .ref bd, .int (jI bg), .int (jI bf)])), (bd, .inl (cA, 32, .inl (jA fd)))] s.heap.size := ⟨_, rfl⟩
  have hD : va_D A [(ba, .inr (0, [.ref bt, .ref bp, .ref bl, .ref bh, .ref bq, .ref br, .ref bd, .int (jI bg), .int (jI bf)])), (bd, .inl (cA, 32, .inl (jA fd)))] := by rw [hAe]; exact hD0.self
  have hA : ∀ q : Nat, s.heap.size ≤ q → A q := fun q h => by rw [hAe]; exact Or.inr h
  have hS : va_S A s.heap s.heap [] := va_S.rf
  have hP : va_P (dC, dI) vwCl [(ba, .inr (0, [.ref bt, .ref bp, .ref bl, .ref bh, .ref bq, .ref br, .ref bd, .int (jI bg), .int (jI bf)])), (bd, .inl (cA, 32, .inl (jA fd)))] s.heap := hP
  have hl := lv_entry ([.ref ba, .int (jI zk), .int (jI ze), .int (jI zd)]) (n := 4) (Nat.le_of_ble_eq_true rfl)
  rw [lg_entry_eq]
  generalize (lg_sl ([.ref ba, .int (jI zk), .int (jI ze), .int (jI zd)]) ++ List.replicate (4 - (lg_sl ([.ref ba, .int (jI zk), .int (jI ze), .int (jI zd)])).length) Slot.unset).toArray = ls at hl ⊢
  have hl : lv_has ls 4 [(0, .ref ba), (1, .int (jI zk)), (2, .int (jI ze)), (3, .int (jI zd))] := hl
  refine lv_aload_n hx hb dXB_tellTerm_0 rfl (lv_at hl 0 rfl) ?_
  refine va_get (D := (dC, dI)) (ci := 0) (v := .ref bd) (C := RXB) (T := TXB) (N := 9) hx hb hts (fun w h => jmem (inXB w h)) hown hK hP 0 rfl rfl 6 (by decide) (hts _ (jmem tw_79)) (fun _ h9 => h9) rfl dXB_tellTerm_1 ?_
  refine lv_iload_n hx hb dXB_tellTerm_4 rfl (lv_at hl 1 rfl) ?_
  refine ji_bipush hx hb dXB_tellTerm_5 (by decide) ?_
  refine ji_imul hx hb dXB_tellTerm_7 ?_
  refine lv_iload_n hx hb dXB_tellTerm_8 rfl (lv_at hl 2 rfl) ?_
  refine ji_iadd hx hb dXB_tellTerm_9 ?_
  refine lv_iload_n hx hb dXB_tellTerm_10 rfl (lv_at hl 3 rfl) ?_
  refine ji_iast hx hb hK hP hD hS 1 0 rfl rfl ⟨by omega, by omega⟩ (by decide) dXB_tellTerm_11 (fun H locs hP hD hS => ?_)
  have hP : va_P (dC, dI) vwCl [(ba, .inr (0, [.ref bt, .ref bp, .ref bl, .ref bh, .ref bq, .ref br, .ref bd, .int (jI bg), .int (jI bf)])), (bd, .inl (cA, 32, .inl (jA (jset fd ((zk * 8) + ze) zd))))] H := hP
  have hD : va_D A [(ba, .inr (0, [.ref bt, .ref bp, .ref bl, .ref bh, .ref bq, .ref br, .ref bd, .int (jI bg), .int (jI bf)])), (bd, .inl (cA, 32, .inl (jA (jset fd ((zk * 8) + ze) zd))))] := hD
  have hP9 := hP.sub (ws' := [(ba, .inr (0, [.ref bt, .ref bp, .ref bl, .ref bh, .ref bq, .ref br, .ref bd, .int (jI bg), .int (jI bf)])), (bd, .inl (cA, 32, .inl (jA (jset fd ((zk * 8) + ze) zd))))]) [0, 1] rfl
  have hD9 := hD.sub (ws' := [(ba, .inr (0, [.ref bt, .ref bp, .ref bl, .ref bh, .ref bq, .ref br, .ref bd, .int (jI bg), .int (jI bf)])), (bd, .inl (cA, 32, .inl (jA (jset fd ((zk * 8) + ze) zd))))]) [0, 1] (by decide) rfl
  subst hAe
  subst hQ
  exact W.vret hx hb hr (fun t ht hW => ⟨⟨(jset fd ((zk * 8) + ze) zd), rfl, Eq.trans (by rw [f_XB_tellTerm_s]; try rfl) rfl, ⟨by rw [ht]; exact hP9, va_K.moved hW.alike hK, hD9⟩⟩, hS.F ht⟩) hS.2.2 dXB_tellTerm_12
noncomputable def g_XB_tellGrade (bg : Int) (bf : Int) (zg : Int) : Int :=
  jor bg (jpow zg)
noncomputable def f_XB_tellGrade : Int → Int → Int → Int := jopq g_XB_tellGrade
theorem f_XB_tellGrade_q : f_XB_tellGrade = g_XB_tellGrade := jopq_eq _
theorem f_XB_tellGrade_s (bg : Int) (bf : Int) (zg : Int) : f_XB_tellGrade bg bf zg = (
    jor bg (jpow zg)
  : Int) := by rw [f_XB_tellGrade_q]; rfl
theorem f_XB_tellGrade_b (bg : Int) (bf : Int) (zg : Int) (hbg : 0 ≤ bg ∧ bg < 2147483648) (hzg : 0 ≤ zg ∧ zg ≤ 30) : 0 ≤ (f_XB_tellGrade bg bf zg) ∧ (f_XB_tellGrade bg bf zg) < 2147483648 := by rw [f_XB_tellGrade_s]; exact ⟨jor_nn _ _, jor_lt hbg.2 (jpow_lt (by omega))⟩
set_option maxHeartbeats 4000000 in
set_option maxRecDepth 100000 in
theorem c_XB_tellGrade (l : Launch) (dC : Nat → ClassId) (dI : Nat → Nat → Nat) (cA : ClassId) (sz : Nat) (ba : Nat) (bt : Nat) (bp : Nat) (bl : Nat) (bh : Nat) (bq : Nat) (br : Nat) (bd : Nat) (bg : Int) (bf : Int) (zg : Int) (hbg : 0 ≤ bg ∧ bg < 2147483648) (hzg : 0 ≤ zg ∧ zg ≤ 30) : Met l yXB_tellGrade (Cond.code yXB_tellGrade cXB_tellGrade 2 none :: TBL) ({ frames := 0, cells := 0, slots := 0, locals := 0 } : Room) (va_Pc [.ref ba, .int (jI zg)] (jBw (dC, dI) [(cA, .int)] [(ba, .inr (0, [.ref bt, .ref bp, .ref bl, .ref bh, .ref bq, .ref br, .ref bd, .int (jI bg), .int (jI bf)]))] sz)) (va_Qv (fun (u : Int) => u = f_XB_tellGrade bg bf zg) (fun u t => jE (dC, dI) [(cA, .int)] [(ba, .inr (0, [.ref bt, .ref bp, .ref bl, .ref bh, .ref bq, .ref br, .ref bd, .int (jI bg), .int (jI bf)]))] sz [(ba, .inr (0, [.ref bt, .ref bp, .ref bl, .ref bh, .ref bq, .ref br, .ref bd, .int (jI u), .int (jI bf)]))] t) (va_A [(ba, .inr (0, [.ref bt, .ref bp, .ref bl, .ref bh, .ref bq, .ref br, .ref bd, .int (jI bg), .int (jI bf)]))] sz)) 0 0 (va_A [(ba, .inr (0, [.ref bt, .ref bp, .ref bl, .ref bh, .ref bq, .ref br, .ref bd, .int (jI bg), .int (jI bf)]))] sz) := by
  refine jMet (cc := cXB_tellGrade) (maxL := 2) (ret := none) (by decide) rfl ?_
  intro p e s m args below meth c s₁ R Q hR hQ B hml hv
  obtain ⟨rfl, hsz, hP, hK, hD0, hN⟩ := hv
  have hx := B.exec
  have hb := B.bytes
  have hr := B.returns
  have hts := atoms_spec (ws := Cond.code yXB_tellGrade cXB_tellGrade 2 none :: TBL) B.pre
  have hown : s.vm.findClass RXB = some m.cls := findClass_of_methodNamed B.named
  have hlocks := B.notSynchronized
  subst hsz
  obtain ⟨A, hAe⟩ : ∃ A, A = va_A [(ba, .inr (0, [.ref bt, .ref bp, .ref bl, .ref bh, .ref bq, .ref br, .ref bd, .int (jI bg), .int (jI bf)]))] s.heap.size := ⟨_, rfl⟩
  have hD : va_D A [(ba, .inr (0, [.ref bt, .ref bp, .ref bl, .ref bh, .ref bq, .ref br, .ref bd, .int (jI bg), .int (jI bf)]))] := by rw [hAe]; exact hD0.self
  have hA : ∀ q : Nat, s.heap.size ≤ q → A q := fun q h => by rw [hAe]; exact Or.inr h
  have hS : va_S A s.heap s.heap [] := va_S.rf
  have hP : va_P (dC, dI) vwCl [(ba, .inr (0, [.ref bt, .ref bp, .ref bl, .ref bh, .ref bq, .ref br, .ref bd, .int (jI bg), .int (jI bf)]))] s.heap := hP
  have hl := lv_entry ([.ref ba, .int (jI zg)]) (n := 2) (Nat.le_of_ble_eq_true rfl)
  rw [lg_entry_eq]
  generalize (lg_sl ([.ref ba, .int (jI zg)]) ++ List.replicate (2 - (lg_sl ([.ref ba, .int (jI zg)])).length) Slot.unset).toArray = ls at hl ⊢
  have hl : lv_has ls 2 [(0, .ref ba), (1, .int (jI zg))] := hl
  have q1 := jpow_pos zg
  refine lv_aload_n hx hb dXB_tellGrade_0 rfl (lv_at hl 0 rfl) ?_
  refine lv_dup hx hb dXB_tellGrade_1 rfl ?_
  refine va_get (D := (dC, dI)) (ci := 0) (v := .int (jI bg)) (C := RXB) (T := TXB) (N := 9) hx hb hts (fun w h => jmem (inXB w h)) hown hK hP 0 rfl rfl 7 (by decide) (hts _ (jmem tw_80)) (fun _ h9 => h9) rfl dXB_tellGrade_2 ?_
  refine ji_iconst hx hb dXB_tellGrade_5 ?_
  refine lv_iload_n hx hb dXB_tellGrade_6 rfl (lv_at hl 1 rfl) ?_
  refine ji_ishl1 hx hb dXB_tellGrade_7 (by omega) (by omega) ?_
  refine ji_ior hx hb dXB_tellGrade_8 (by omega) (by omega) ?_
  refine va_put (D := (dC, dI)) (ci := 0) (v := .int (jI (jor bg (jpow zg)))) (ty := (.int)) (C := RXB) (T := TXB) (N := 9) hx hb hts (fun w h => jmem (inXB w h)) tyXB tyXB_ok nXB hown hK hP hD hS 0 rfl rfl 7 (by decide) (hts _ (jmem tw_80)) (fun _ h9 => h9) rfl (by decide +kernel) rfl rfl (Nat.le_of_ble_eq_true rfl) dXB_tellGrade_9 (fun H locs hP hD hS => ?_)
  have hP : va_P (dC, dI) vwCl [(ba, .inr (0, [.ref bt, .ref bp, .ref bl, .ref bh, .ref bq, .ref br, .ref bd, .int (jI (jor bg (jpow zg))), .int (jI bf)]))] H := hP
  have hD : va_D A [(ba, .inr (0, [.ref bt, .ref bp, .ref bl, .ref bh, .ref bq, .ref br, .ref bd, .int (jI (jor bg (jpow zg))), .int (jI bf)]))] := hD
  have hP9 := hP.sub (ws' := [(ba, .inr (0, [.ref bt, .ref bp, .ref bl, .ref bh, .ref bq, .ref br, .ref bd, .int (jI (jor bg (jpow zg))), .int (jI bf)]))]) [0] rfl
  have hD9 := hD.sub (ws' := [(ba, .inr (0, [.ref bt, .ref bp, .ref bl, .ref bh, .ref bq, .ref br, .ref bd, .int (jI (jor bg (jpow zg))), .int (jI bf)]))]) [0] (by decide) rfl
  subst hAe
  subst hQ
  exact W.vret hx hb hr (fun t ht hW => ⟨⟨(jor bg (jpow zg)), rfl, Eq.trans (by rw [f_XB_tellGrade_s]; try rfl) rfl, ⟨by rw [ht]; exact hP9, va_K.moved hW.alike hK, hD9⟩⟩, hS.F ht⟩) hS.2.2 dXB_tellGrade_12
noncomputable def g_XB_tellParent (bg : Int) (bf : Int) (ft : Int → Int) (zg : Int) (zp : Int) : (Int → Int) :=
  jset ft zg zp
noncomputable def f_XB_tellParent : Int → Int → (Int → Int) → Int → Int → (Int → Int) := jopq g_XB_tellParent
theorem f_XB_tellParent_q : f_XB_tellParent = g_XB_tellParent := jopq_eq _
theorem f_XB_tellParent_s (bg : Int) (bf : Int) (ft : Int → Int) (zg : Int) (zp : Int) : f_XB_tellParent bg bf ft zg zp = (
    jset ft zg zp
  : (Int → Int)) := by rw [f_XB_tellParent_q]; rfl
theorem f_XB_tellParent_b (bg : Int) (bf : Int) (ft : Int → Int) (zg : Int) (zp : Int) (hbt : ∀ i, 0 ≤ ft i ∧ ft i ≤ 30) (hzg : 0 ≤ zg ∧ zg ≤ 30) (hzp : 0 ≤ zp ∧ zp ≤ 30) : ∀ i, 0 ≤ (f_XB_tellParent bg bf ft zg zp) i ∧ (f_XB_tellParent bg bf ft zg zp) i ≤ 30 := by
  intro i
  rw [f_XB_tellParent_s]
  unfold jset
  split
  · omega
  · exact hbt i
set_option maxHeartbeats 4000000 in
set_option maxRecDepth 100000 in
theorem c_XB_tellParent (l : Launch) (dC : Nat → ClassId) (dI : Nat → Nat → Nat) (cA : ClassId) (sz : Nat) (ba : Nat) (bt : Nat) (bp : Nat) (bl : Nat) (bh : Nat) (bq : Nat) (br : Nat) (bd : Nat) (bg : Int) (bf : Int) (ft : Int → Int) (zg : Int) (zp : Int) (hbt : ∀ i, 0 ≤ ft i ∧ ft i ≤ 30) (hzg : 0 ≤ zg ∧ zg ≤ 30) (hzp : 0 ≤ zp ∧ zp ≤ 30) : Met l yXB_tellParent (Cond.code yXB_tellParent cXB_tellParent 3 none :: TBL) ({ frames := 0, cells := 0, slots := 0, locals := 0 } : Room) (va_Pc [.ref ba, .int (jI zg), .int (jI zp)] (jBw (dC, dI) [(cA, .int)] [(ba, .inr (0, [.ref bt, .ref bp, .ref bl, .ref bh, .ref bq, .ref br, .ref bd, .int (jI bg), .int (jI bf)])), (bt, .inl (cA, 31, .inl (jA ft)))] sz)) (va_Qv (fun (u : (Int → Int)) => u = f_XB_tellParent bg bf ft zg zp) (fun u t => jE (dC, dI) [(cA, .int)] [(ba, .inr (0, [.ref bt, .ref bp, .ref bl, .ref bh, .ref bq, .ref br, .ref bd, .int (jI bg), .int (jI bf)])), (bt, .inl (cA, 31, .inl (jA ft)))] sz [(ba, .inr (0, [.ref bt, .ref bp, .ref bl, .ref bh, .ref bq, .ref br, .ref bd, .int (jI bg), .int (jI bf)])), (bt, .inl (cA, 31, .inl (jA u)))] t) (va_A [(ba, .inr (0, [.ref bt, .ref bp, .ref bl, .ref bh, .ref bq, .ref br, .ref bd, .int (jI bg), .int (jI bf)])), (bt, .inl (cA, 31, .inl (jA ft)))] sz)) 0 0 (va_A [(ba, .inr (0, [.ref bt, .ref bp, .ref bl, .ref bh, .ref bq, .ref br, .ref bd, .int (jI bg), .int (jI bf)])), (bt, .inl (cA, 31, .inl (jA ft)))] sz) := by
  refine jMet (cc := cXB_tellParent) (maxL := 3) (ret := none) (by decide) rfl ?_
  intro p e s m args below meth c s₁ R Q hR hQ B hml hv
  obtain ⟨rfl, hsz, hP, hK, hD0, hN⟩ := hv
  have hx := B.exec
  have hb := B.bytes
  have hr := B.returns
  have hts := atoms_spec (ws := Cond.code yXB_tellParent cXB_tellParent 3 none :: TBL) B.pre
  have hown : s.vm.findClass RXB = some m.cls := findClass_of_methodNamed B.named
  have hlocks := B.notSynchronized
  subst hsz
  obtain ⟨A, hAe⟩ : ∃ A, A = va_A [(ba, .inr (0, [.ref bt, .ref bp, .ref bl, .ref bh, .ref bq, .ref br, .ref bd, .int (jI bg), .int (jI bf)])), (bt, .inl (cA, 31, .inl (jA ft)))] s.heap.size := ⟨_, rfl⟩
  have hD : va_D A [(ba, .inr (0, [.ref bt, .ref bp, .ref bl, .ref bh, .ref bq, .ref br, .ref bd, .int (jI bg), .int (jI bf)])), (bt, .inl (cA, 31, .inl (jA ft)))] := by rw [hAe]; exact hD0.self
  have hA : ∀ q : Nat, s.heap.size ≤ q → A q := fun q h => by rw [hAe]; exact Or.inr h
  have hS : va_S A s.heap s.heap [] := va_S.rf
  have hP : va_P (dC, dI) vwCl [(ba, .inr (0, [.ref bt, .ref bp, .ref bl, .ref bh, .ref bq, .ref br, .ref bd, .int (jI bg), .int (jI bf)])), (bt, .inl (cA, 31, .inl (jA ft)))] s.heap := hP
  have hl := lv_entry ([.ref ba, .int (jI zg), .int (jI zp)]) (n := 3) (Nat.le_of_ble_eq_true rfl)
  rw [lg_entry_eq]
  generalize (lg_sl ([.ref ba, .int (jI zg), .int (jI zp)]) ++ List.replicate (3 - (lg_sl ([.ref ba, .int (jI zg), .int (jI zp)])).length) Slot.unset).toArray = ls at hl ⊢
  have hl : lv_has ls 3 [(0, .ref ba), (1, .int (jI zg)), (2, .int (jI zp))] := hl
  refine lv_aload_n hx hb dXB_tellParent_0 rfl (lv_at hl 0 rfl) ?_
  refine va_get (D := (dC, dI)) (ci := 0) (v := .ref bt) (C := RXB) (T := TXB) (N := 9) hx hb hts (fun w h => jmem (inXB w h)) hown hK hP 0 rfl rfl 0 (by decide) (hts _ (jmem tw_73)) (fun _ h9 => h9) rfl dXB_tellParent_1 ?_
  refine lv_iload_n hx hb dXB_tellParent_4 rfl (lv_at hl 1 rfl) ?_
  refine lv_iload_n hx hb dXB_tellParent_5 rfl (lv_at hl 2 rfl) ?_
  refine ji_iast hx hb hK hP hD hS 1 0 rfl rfl ⟨by omega, by omega⟩ (by decide) dXB_tellParent_6 (fun H locs hP hD hS => ?_)
  have hP : va_P (dC, dI) vwCl [(ba, .inr (0, [.ref bt, .ref bp, .ref bl, .ref bh, .ref bq, .ref br, .ref bd, .int (jI bg), .int (jI bf)])), (bt, .inl (cA, 31, .inl (jA (jset ft zg zp))))] H := hP
  have hD : va_D A [(ba, .inr (0, [.ref bt, .ref bp, .ref bl, .ref bh, .ref bq, .ref br, .ref bd, .int (jI bg), .int (jI bf)])), (bt, .inl (cA, 31, .inl (jA (jset ft zg zp))))] := hD
  have hP9 := hP.sub (ws' := [(ba, .inr (0, [.ref bt, .ref bp, .ref bl, .ref bh, .ref bq, .ref br, .ref bd, .int (jI bg), .int (jI bf)])), (bt, .inl (cA, 31, .inl (jA (jset ft zg zp))))]) [0, 1] rfl
  have hD9 := hD.sub (ws' := [(ba, .inr (0, [.ref bt, .ref bp, .ref bl, .ref bh, .ref bq, .ref br, .ref bd, .int (jI bg), .int (jI bf)])), (bt, .inl (cA, 31, .inl (jA (jset ft zg zp))))]) [0, 1] (by decide) rfl
  subst hAe
  subst hQ
  exact W.vret hx hb hr (fun t ht hW => ⟨⟨(jset ft zg zp), rfl, Eq.trans (by rw [f_XB_tellParent_s]; try rfl) rfl, ⟨by rw [ht]; exact hP9, va_K.moved hW.alike hK, hD9⟩⟩, hS.F ht⟩) hS.2.2 dXB_tellParent_7
noncomputable def g_XB_tellSpan (bg : Int) (bf : Int) (fl : Int → Int) (fh : Int → Int) (zg : Int) (ze : Int) (zlo : Int) (zhi : Int) : (Int → Int) × (Int → Int) :=
  (jset fl ((zg * 8) + ze) zlo, jset fh ((zg * 8) + ze) zhi)
noncomputable def f_XB_tellSpan : Int → Int → (Int → Int) → (Int → Int) → Int → Int → Int → Int → (Int → Int) × (Int → Int) := jopq g_XB_tellSpan
theorem f_XB_tellSpan_q : f_XB_tellSpan = g_XB_tellSpan := jopq_eq _
theorem f_XB_tellSpan_s (bg : Int) (bf : Int) (fl : Int → Int) (fh : Int → Int) (zg : Int) (ze : Int) (zlo : Int) (zhi : Int) : f_XB_tellSpan bg bf fl fh zg ze zlo zhi = (
    (jset fl ((zg * 8) + ze) zlo, jset fh ((zg * 8) + ze) zhi)
  : (Int → Int) × (Int → Int)) := by rw [f_XB_tellSpan_q]; rfl
theorem f_XB_tellSpan_l (bg : Int) (bf : Int) (fl : Int → Int) (fh : Int → Int) (zg : Int) (ze : Int) (zlo : Int) (zhi : Int) (hbl : ∀ i, 0 ≤ fl i ∧ fl i ≤ 100000) (hbh : ∀ i, -1 ≤ fh i ∧ fh i ≤ 100000) (hzg : 0 ≤ zg ∧ zg ≤ 30) (hze : 0 ≤ ze ∧ ze < 8) (hzlo : 0 ≤ zlo ∧ zlo ≤ 100000) (hzhi : 0 ≤ zhi ∧ zhi ≤ 100000) : ∀ i, 0 ≤ (f_XB_tellSpan bg bf fl fh zg ze zlo zhi).1 i ∧ (f_XB_tellSpan bg bf fl fh zg ze zlo zhi).1 i ≤ 100000 := by
  intro i
  rw [f_XB_tellSpan_s]
  dsimp only
  unfold jset
  split
  · omega
  · exact hbl i
theorem f_XB_tellSpan_h (bg : Int) (bf : Int) (fl : Int → Int) (fh : Int → Int) (zg : Int) (ze : Int) (zlo : Int) (zhi : Int) (hbl : ∀ i, 0 ≤ fl i ∧ fl i ≤ 100000) (hbh : ∀ i, -1 ≤ fh i ∧ fh i ≤ 100000) (hzg : 0 ≤ zg ∧ zg ≤ 30) (hze : 0 ≤ ze ∧ ze < 8) (hzlo : 0 ≤ zlo ∧ zlo ≤ 100000) (hzhi : 0 ≤ zhi ∧ zhi ≤ 100000) : ∀ i, -1 ≤ (f_XB_tellSpan bg bf fl fh zg ze zlo zhi).2 i ∧ (f_XB_tellSpan bg bf fl fh zg ze zlo zhi).2 i ≤ 100000 := by
  intro i
  rw [f_XB_tellSpan_s]
  dsimp only
  unfold jset
  split
  · omega
  · exact hbh i
set_option maxHeartbeats 4000000 in
set_option maxRecDepth 100000 in
theorem c_XB_tellSpan (l : Launch) (dC : Nat → ClassId) (dI : Nat → Nat → Nat) (cA : ClassId) (sz : Nat) (ba : Nat) (bt : Nat) (bp : Nat) (bl : Nat) (bh : Nat) (bq : Nat) (br : Nat) (bd : Nat) (bg : Int) (bf : Int) (fl : Int → Int) (fh : Int → Int) (zg : Int) (ze : Int) (zlo : Int) (zhi : Int) (hbl : ∀ i, 0 ≤ fl i ∧ fl i ≤ 100000) (hbh : ∀ i, -1 ≤ fh i ∧ fh i ≤ 100000) (hzg : 0 ≤ zg ∧ zg ≤ 30) (hze : 0 ≤ ze ∧ ze < 8) (hzlo : 0 ≤ zlo ∧ zlo ≤ 100000) (hzhi : 0 ≤ zhi ∧ zhi ≤ 100000) : Met l yXB_tellSpan (Cond.code yXB_tellSpan cXB_tellSpan 5 none :: TBL) ({ frames := 0, cells := 0, slots := 0, locals := 0 } : Room) (va_Pc [.ref ba, .int (jI zg), .int (jI ze), .int (jI zlo), .int (jI zhi)] (jBw (dC, dI) [(cA, .int)] [(ba, .inr (0, [.ref bt, .ref bp, .ref bl, .ref bh, .ref bq, .ref br, .ref bd, .int (jI bg), .int (jI bf)])), (bl, .inl (cA, 248, .inl (jA fl))), (bh, .inl (cA, 248, .inl (jA fh)))] sz)) (va_Qv (fun (u : (Int → Int) × (Int → Int)) => u = f_XB_tellSpan bg bf fl fh zg ze zlo zhi) (fun u t => jE (dC, dI) [(cA, .int)] [(ba, .inr (0, [.ref bt, .ref bp, .ref bl, .ref bh, .ref bq, .ref br, .ref bd, .int (jI bg), .int (jI bf)])), (bl, .inl (cA, 248, .inl (jA fl))), (bh, .inl (cA, 248, .inl (jA fh)))] sz [(ba, .inr (0, [.ref bt, .ref bp, .ref bl, .ref bh, .ref bq, .ref br, .ref bd, .int (jI bg), .int (jI bf)])), (bl, .inl (cA, 248, .inl (jA u.1))), (bh, .inl (cA, 248, .inl (jA u.2)))] t) (va_A [(ba, .inr (0, [.ref bt, .ref bp, .ref bl, .ref bh, .ref bq, .ref br, .ref bd, .int (jI bg), .int (jI bf)])), (bl, .inl (cA, 248, .inl (jA fl))), (bh, .inl (cA, 248, .inl (jA fh)))] sz)) 0 0 (va_A [(ba, .inr (0, [.ref bt, .ref bp, .ref bl, .ref bh, .ref bq, .ref br, .ref bd, .int (jI bg), .int (jI bf)])), (bl, .inl (cA, 248, .inl (jA fl))), (bh, .inl (cA, 248, .inl (jA fh)))] sz) := by
  refine jMet (cc := cXB_tellSpan) (maxL := 5) (ret := none) (by decide) rfl ?_
  intro p e s m args below meth c s₁ R Q hR hQ B hml hv
  obtain ⟨rfl, hsz, hP, hK, hD0, hN⟩ := hv
  have hx := B.exec
  have hb := B.bytes
  have hr := B.returns
  have hts := atoms_spec (ws := Cond.code yXB_tellSpan cXB_tellSpan 5 none :: TBL) B.pre
  have hown : s.vm.findClass RXB = some m.cls := findClass_of_methodNamed B.named
  have hlocks := B.notSynchronized
  subst hsz
  obtain ⟨A, hAe⟩ : ∃ A, A = va_A [(ba, .inr (0, [.ref bt, .ref bp, .ref bl, .ref bh, .ref bq, .ref br, .ref bd, .int (jI bg), .int (jI bf)])), (bl, .inl (cA, 248, .inl (jA fl))), (bh, .inl (cA, 248, .inl (jA fh)))] s.heap.size := ⟨_, rfl⟩
  have hD : va_D A [(ba, .inr (0, [.ref bt, .ref bp, .ref bl, .ref bh, .ref bq, .ref br, .ref bd, .int (jI bg), .int (jI bf)])), (bl, .inl (cA, 248, .inl (jA fl))), (bh, .inl (cA, 248, .inl (jA fh)))] := by rw [hAe]; exact hD0.self
  have hA : ∀ q : Nat, s.heap.size ≤ q → A q := fun q h => by rw [hAe]; exact Or.inr h
  have hS : va_S A s.heap s.heap [] := va_S.rf
  have hP : va_P (dC, dI) vwCl [(ba, .inr (0, [.ref bt, .ref bp, .ref bl, .ref bh, .ref bq, .ref br, .ref bd, .int (jI bg), .int (jI bf)])), (bl, .inl (cA, 248, .inl (jA fl))), (bh, .inl (cA, 248, .inl (jA fh)))] s.heap := hP
  have hl := lv_entry ([.ref ba, .int (jI zg), .int (jI ze), .int (jI zlo), .int (jI zhi)]) (n := 5) (Nat.le_of_ble_eq_true rfl)
  rw [lg_entry_eq]
  generalize (lg_sl ([.ref ba, .int (jI zg), .int (jI ze), .int (jI zlo), .int (jI zhi)]) ++ List.replicate (5 - (lg_sl ([.ref ba, .int (jI zg), .int (jI ze), .int (jI zlo), .int (jI zhi)])).length) Slot.unset).toArray = ls at hl ⊢
  have hl : lv_has ls 5 [(0, .ref ba), (1, .int (jI zg)), (2, .int (jI ze)), (3, .int (jI zlo)), (4, .int (jI zhi))] := hl
  refine lv_aload_n hx hb dXB_tellSpan_0 rfl (lv_at hl 0 rfl) ?_
  refine va_get (D := (dC, dI)) (ci := 0) (v := .ref bl) (C := RXB) (T := TXB) (N := 9) hx hb hts (fun w h => jmem (inXB w h)) hown hK hP 0 rfl rfl 2 (by decide) (hts _ (jmem tw_75)) (fun _ h9 => h9) rfl dXB_tellSpan_1 ?_
  refine lv_iload_n hx hb dXB_tellSpan_4 rfl (lv_at hl 1 rfl) ?_
  refine ji_bipush hx hb dXB_tellSpan_5 (by decide) ?_
  refine ji_imul hx hb dXB_tellSpan_7 ?_
  refine lv_iload_n hx hb dXB_tellSpan_8 rfl (lv_at hl 2 rfl) ?_
  refine ji_iadd hx hb dXB_tellSpan_9 ?_
  refine lv_iload_n hx hb dXB_tellSpan_10 rfl (lv_at hl 3 rfl) ?_
  refine ji_iast hx hb hK hP hD hS 1 0 rfl rfl ⟨by omega, by omega⟩ (by decide) dXB_tellSpan_11 (fun H locs hP hD hS => ?_)
  have hP : va_P (dC, dI) vwCl [(ba, .inr (0, [.ref bt, .ref bp, .ref bl, .ref bh, .ref bq, .ref br, .ref bd, .int (jI bg), .int (jI bf)])), (bl, .inl (cA, 248, .inl (jA (jset fl ((zg * 8) + ze) zlo)))), (bh, .inl (cA, 248, .inl (jA fh)))] H := hP
  have hD : va_D A [(ba, .inr (0, [.ref bt, .ref bp, .ref bl, .ref bh, .ref bq, .ref br, .ref bd, .int (jI bg), .int (jI bf)])), (bl, .inl (cA, 248, .inl (jA (jset fl ((zg * 8) + ze) zlo)))), (bh, .inl (cA, 248, .inl (jA fh)))] := hD
  refine lv_aload_n hx hb dXB_tellSpan_12 rfl (lv_at hl 0 rfl) ?_
  refine va_get (D := (dC, dI)) (ci := 0) (v := .ref bh) (C := RXB) (T := TXB) (N := 9) hx hb hts (fun w h => jmem (inXB w h)) hown hK hP 0 rfl rfl 3 (by decide) (hts _ (jmem tw_76)) (fun _ h9 => h9) rfl dXB_tellSpan_13 ?_
  refine lv_iload_n hx hb dXB_tellSpan_16 rfl (lv_at hl 1 rfl) ?_
  refine ji_bipush hx hb dXB_tellSpan_17 (by decide) ?_
  refine ji_imul hx hb dXB_tellSpan_19 ?_
  refine lv_iload_n hx hb dXB_tellSpan_20 rfl (lv_at hl 2 rfl) ?_
  refine ji_iadd hx hb dXB_tellSpan_21 ?_
  refine lv_iload hx hb dXB_tellSpan_22 (lv_at hl 4 rfl) ?_
  refine ji_iast hx hb hK hP hD hS 2 0 rfl rfl ⟨by omega, by omega⟩ (by decide) dXB_tellSpan_24 (fun H locs hP hD hS => ?_)
  have hP : va_P (dC, dI) vwCl [(ba, .inr (0, [.ref bt, .ref bp, .ref bl, .ref bh, .ref bq, .ref br, .ref bd, .int (jI bg), .int (jI bf)])), (bl, .inl (cA, 248, .inl (jA (jset fl ((zg * 8) + ze) zlo)))), (bh, .inl (cA, 248, .inl (jA (jset fh ((zg * 8) + ze) zhi))))] H := hP
  have hD : va_D A [(ba, .inr (0, [.ref bt, .ref bp, .ref bl, .ref bh, .ref bq, .ref br, .ref bd, .int (jI bg), .int (jI bf)])), (bl, .inl (cA, 248, .inl (jA (jset fl ((zg * 8) + ze) zlo)))), (bh, .inl (cA, 248, .inl (jA (jset fh ((zg * 8) + ze) zhi))))] := hD
  have hP9 := hP.sub (ws' := [(ba, .inr (0, [.ref bt, .ref bp, .ref bl, .ref bh, .ref bq, .ref br, .ref bd, .int (jI bg), .int (jI bf)])), (bl, .inl (cA, 248, .inl (jA (jset fl ((zg * 8) + ze) zlo)))), (bh, .inl (cA, 248, .inl (jA (jset fh ((zg * 8) + ze) zhi))))]) [0, 1, 2] rfl
  have hD9 := hD.sub (ws' := [(ba, .inr (0, [.ref bt, .ref bp, .ref bl, .ref bh, .ref bq, .ref br, .ref bd, .int (jI bg), .int (jI bf)])), (bl, .inl (cA, 248, .inl (jA (jset fl ((zg * 8) + ze) zlo)))), (bh, .inl (cA, 248, .inl (jA (jset fh ((zg * 8) + ze) zhi))))]) [0, 1, 2] (by decide) rfl
  subst hAe
  subst hQ
  exact W.vret hx hb hr (fun t ht hW => ⟨⟨(jset fl ((zg * 8) + ze) zlo, jset fh ((zg * 8) + ze) zhi), rfl, Eq.trans (by rw [f_XB_tellSpan_s]; try rfl) rfl, ⟨by rw [ht]; exact hP9, va_K.moved hW.alike hK, hD9⟩⟩, hS.F ht⟩) hS.2.2 dXB_tellSpan_25
noncomputable def g_XB_tellRoute (bg : Int) (bf : Int) (fr : Int → Int) (zg : Int) (zr : Int) : (Int → Int) :=
  jset fr zg (jor (fr zg) (jpow zr))
noncomputable def f_XB_tellRoute : Int → Int → (Int → Int) → Int → Int → (Int → Int) := jopq g_XB_tellRoute
theorem f_XB_tellRoute_q : f_XB_tellRoute = g_XB_tellRoute := jopq_eq _
theorem f_XB_tellRoute_s (bg : Int) (bf : Int) (fr : Int → Int) (zg : Int) (zr : Int) : f_XB_tellRoute bg bf fr zg zr = (
    jset fr zg (jor (fr zg) (jpow zr))
  : (Int → Int)) := by rw [f_XB_tellRoute_q]; rfl
theorem f_XB_tellRoute_b (bg : Int) (bf : Int) (fr : Int → Int) (zg : Int) (zr : Int) (hbr : ∀ i, 0 ≤ fr i ∧ fr i < 2147483648) (hzg : 0 ≤ zg ∧ zg ≤ 30) (hzr : 0 ≤ zr ∧ zr < 8) : ∀ i, 0 ≤ (f_XB_tellRoute bg bf fr zg zr) i ∧ (f_XB_tellRoute bg bf fr zg zr) i < 2147483648 := by
  intro i
  rw [f_XB_tellRoute_s]
  unfold jset
  split
  · exact ⟨jor_nn _ _, jor_lt (hbr _).2 (jpow_lt (by omega))⟩
  · exact hbr i
set_option maxHeartbeats 4000000 in
set_option maxRecDepth 100000 in
theorem c_XB_tellRoute (l : Launch) (dC : Nat → ClassId) (dI : Nat → Nat → Nat) (cA : ClassId) (sz : Nat) (ba : Nat) (bt : Nat) (bp : Nat) (bl : Nat) (bh : Nat) (bq : Nat) (br : Nat) (bd : Nat) (bg : Int) (bf : Int) (fr : Int → Int) (zg : Int) (zr : Int) (hbr : ∀ i, 0 ≤ fr i ∧ fr i < 2147483648) (hzg : 0 ≤ zg ∧ zg ≤ 30) (hzr : 0 ≤ zr ∧ zr < 8) : Met l yXB_tellRoute (Cond.code yXB_tellRoute cXB_tellRoute 3 none :: TBL) ({ frames := 0, cells := 0, slots := 0, locals := 0 } : Room) (va_Pc [.ref ba, .int (jI zg), .int (jI zr)] (jBw (dC, dI) [(cA, .int)] [(ba, .inr (0, [.ref bt, .ref bp, .ref bl, .ref bh, .ref bq, .ref br, .ref bd, .int (jI bg), .int (jI bf)])), (br, .inl (cA, 31, .inl (jA fr)))] sz)) (va_Qv (fun (u : (Int → Int)) => u = f_XB_tellRoute bg bf fr zg zr) (fun u t => jE (dC, dI) [(cA, .int)] [(ba, .inr (0, [.ref bt, .ref bp, .ref bl, .ref bh, .ref bq, .ref br, .ref bd, .int (jI bg), .int (jI bf)])), (br, .inl (cA, 31, .inl (jA fr)))] sz [(ba, .inr (0, [.ref bt, .ref bp, .ref bl, .ref bh, .ref bq, .ref br, .ref bd, .int (jI bg), .int (jI bf)])), (br, .inl (cA, 31, .inl (jA u)))] t) (va_A [(ba, .inr (0, [.ref bt, .ref bp, .ref bl, .ref bh, .ref bq, .ref br, .ref bd, .int (jI bg), .int (jI bf)])), (br, .inl (cA, 31, .inl (jA fr)))] sz)) 0 0 (va_A [(ba, .inr (0, [.ref bt, .ref bp, .ref bl, .ref bh, .ref bq, .ref br, .ref bd, .int (jI bg), .int (jI bf)])), (br, .inl (cA, 31, .inl (jA fr)))] sz) := by
  refine jMet (cc := cXB_tellRoute) (maxL := 3) (ret := none) (by decide) rfl ?_
  intro p e s m args below meth c s₁ R Q hR hQ B hml hv
  obtain ⟨rfl, hsz, hP, hK, hD0, hN⟩ := hv
  have hx := B.exec
  have hb := B.bytes
  have hr := B.returns
  have hts := atoms_spec (ws := Cond.code yXB_tellRoute cXB_tellRoute 3 none :: TBL) B.pre
  have hown : s.vm.findClass RXB = some m.cls := findClass_of_methodNamed B.named
  have hlocks := B.notSynchronized
  subst hsz
  obtain ⟨A, hAe⟩ : ∃ A, A = va_A [(ba, .inr (0, [.ref bt, .ref bp, .ref bl, .ref bh, .ref bq, .ref br, .ref bd, .int (jI bg), .int (jI bf)])), (br, .inl (cA, 31, .inl (jA fr)))] s.heap.size := ⟨_, rfl⟩
  have hD : va_D A [(ba, .inr (0, [.ref bt, .ref bp, .ref bl, .ref bh, .ref bq, .ref br, .ref bd, .int (jI bg), .int (jI bf)])), (br, .inl (cA, 31, .inl (jA fr)))] := by rw [hAe]; exact hD0.self
  have hA : ∀ q : Nat, s.heap.size ≤ q → A q := fun q h => by rw [hAe]; exact Or.inr h
  have hS : va_S A s.heap s.heap [] := va_S.rf
  have hP : va_P (dC, dI) vwCl [(ba, .inr (0, [.ref bt, .ref bp, .ref bl, .ref bh, .ref bq, .ref br, .ref bd, .int (jI bg), .int (jI bf)])), (br, .inl (cA, 31, .inl (jA fr)))] s.heap := hP
  have hl := lv_entry ([.ref ba, .int (jI zg), .int (jI zr)]) (n := 3) (Nat.le_of_ble_eq_true rfl)
  rw [lg_entry_eq]
  generalize (lg_sl ([.ref ba, .int (jI zg), .int (jI zr)]) ++ List.replicate (3 - (lg_sl ([.ref ba, .int (jI zg), .int (jI zr)])).length) Slot.unset).toArray = ls at hl ⊢
  have hl : lv_has ls 3 [(0, .ref ba), (1, .int (jI zg)), (2, .int (jI zr))] := hl
  have q1 := jpow_pos zr
  refine lv_aload_n hx hb dXB_tellRoute_0 rfl (lv_at hl 0 rfl) ?_
  refine va_get (D := (dC, dI)) (ci := 0) (v := .ref br) (C := RXB) (T := TXB) (N := 9) hx hb hts (fun w h => jmem (inXB w h)) hown hK hP 0 rfl rfl 5 (by decide) (hts _ (jmem tw_78)) (fun _ h9 => h9) rfl dXB_tellRoute_1 ?_
  refine lv_iload_n hx hb dXB_tellRoute_4 rfl (lv_at hl 1 rfl) ?_
  refine lv_dup2_11 hx hb dXB_tellRoute_5 rfl rfl ?_
  refine ji_iald hx hb hK hP 1 0 rfl rfl ⟨by omega, by omega⟩ (by decide) dXB_tellRoute_6 ?_
  have rb := hbr zg
  refine ji_iconst hx hb dXB_tellRoute_7 ?_
  refine lv_iload_n hx hb dXB_tellRoute_8 rfl (lv_at hl 2 rfl) ?_
  refine ji_ishl1 hx hb dXB_tellRoute_9 (by omega) (by omega) ?_
  refine ji_ior hx hb dXB_tellRoute_10 (by omega) (by omega) ?_
  refine ji_iast hx hb hK hP hD hS 1 0 rfl rfl ⟨by omega, by omega⟩ (by decide) dXB_tellRoute_11 (fun H locs hP hD hS => ?_)
  have hP : va_P (dC, dI) vwCl [(ba, .inr (0, [.ref bt, .ref bp, .ref bl, .ref bh, .ref bq, .ref br, .ref bd, .int (jI bg), .int (jI bf)])), (br, .inl (cA, 31, .inl (jA (jset fr zg (jor (fr zg) (jpow zr))))))] H := hP
  have hD : va_D A [(ba, .inr (0, [.ref bt, .ref bp, .ref bl, .ref bh, .ref bq, .ref br, .ref bd, .int (jI bg), .int (jI bf)])), (br, .inl (cA, 31, .inl (jA (jset fr zg (jor (fr zg) (jpow zr))))))] := hD
  have hP9 := hP.sub (ws' := [(ba, .inr (0, [.ref bt, .ref bp, .ref bl, .ref bh, .ref bq, .ref br, .ref bd, .int (jI bg), .int (jI bf)])), (br, .inl (cA, 31, .inl (jA (jset fr zg (jor (fr zg) (jpow zr))))))]) [0, 1] rfl
  have hD9 := hD.sub (ws' := [(ba, .inr (0, [.ref bt, .ref bp, .ref bl, .ref bh, .ref bq, .ref br, .ref bd, .int (jI bg), .int (jI bf)])), (br, .inl (cA, 31, .inl (jA (jset fr zg (jor (fr zg) (jpow zr))))))]) [0, 1] (by decide) rfl
  subst hAe
  subst hQ
  exact W.vret hx hb hr (fun t ht hW => ⟨⟨(jset fr zg (jor (fr zg) (jpow zr))), rfl, Eq.trans (by rw [f_XB_tellRoute_s]; try rfl) rfl, ⟨by rw [ht]; exact hP9, va_K.moved hW.alike hK, hD9⟩⟩, hS.F ht⟩) hS.2.2 dXB_tellRoute_12
noncomputable def g_XB_tellLimit (bg : Int) (bf : Int) (fq : Int → Int) (zg : Int) (zk : Int) (zm : Int) : (Int → Int) :=
  jset fq ((zg * 4) + zk) zm
noncomputable def f_XB_tellLimit : Int → Int → (Int → Int) → Int → Int → Int → (Int → Int) := jopq g_XB_tellLimit
theorem f_XB_tellLimit_q : f_XB_tellLimit = g_XB_tellLimit := jopq_eq _
theorem f_XB_tellLimit_s (bg : Int) (bf : Int) (fq : Int → Int) (zg : Int) (zk : Int) (zm : Int) : f_XB_tellLimit bg bf fq zg zk zm = (
    jset fq ((zg * 4) + zk) zm
  : (Int → Int)) := by rw [f_XB_tellLimit_q]; rfl
theorem f_XB_tellLimit_b (bg : Int) (bf : Int) (fq : Int → Int) (zg : Int) (zk : Int) (zm : Int) (hbq : ∀ i, -1 ≤ fq i ∧ fq i ≤ 999999) (hzg : 0 ≤ zg ∧ zg ≤ 30) (hzk : 0 ≤ zk ∧ zk < 4) (hzm : 0 ≤ zm ∧ zm ≤ 999999) : ∀ i, -1 ≤ (f_XB_tellLimit bg bf fq zg zk zm) i ∧ (f_XB_tellLimit bg bf fq zg zk zm) i ≤ 999999 := by
  intro i
  rw [f_XB_tellLimit_s]
  unfold jset
  split
  · omega
  · exact hbq i
set_option maxHeartbeats 4000000 in
set_option maxRecDepth 100000 in
theorem c_XB_tellLimit (l : Launch) (dC : Nat → ClassId) (dI : Nat → Nat → Nat) (cA : ClassId) (sz : Nat) (ba : Nat) (bt : Nat) (bp : Nat) (bl : Nat) (bh : Nat) (bq : Nat) (br : Nat) (bd : Nat) (bg : Int) (bf : Int) (fq : Int → Int) (zg : Int) (zk : Int) (zm : Int) (hbq : ∀ i, -1 ≤ fq i ∧ fq i ≤ 999999) (hzg : 0 ≤ zg ∧ zg ≤ 30) (hzk : 0 ≤ zk ∧ zk < 4) (hzm : 0 ≤ zm ∧ zm ≤ 999999) : Met l yXB_tellLimit (Cond.code yXB_tellLimit cXB_tellLimit 4 none :: TBL) ({ frames := 0, cells := 0, slots := 0, locals := 0 } : Room) (va_Pc [.ref ba, .int (jI zg), .int (jI zk), .int (jI zm)] (jBw (dC, dI) [(cA, .int)] [(ba, .inr (0, [.ref bt, .ref bp, .ref bl, .ref bh, .ref bq, .ref br, .ref bd, .int (jI bg), .int (jI bf)])), (bq, .inl (cA, 124, .inl (jA fq)))] sz)) (va_Qv (fun (u : (Int → Int)) => u = f_XB_tellLimit bg bf fq zg zk zm) (fun u t => jE (dC, dI) [(cA, .int)] [(ba, .inr (0, [.ref bt, .ref bp, .ref bl, .ref bh, .ref bq, .ref br, .ref bd, .int (jI bg), .int (jI bf)])), (bq, .inl (cA, 124, .inl (jA fq)))] sz [(ba, .inr (0, [.ref bt, .ref bp, .ref bl, .ref bh, .ref bq, .ref br, .ref bd, .int (jI bg), .int (jI bf)])), (bq, .inl (cA, 124, .inl (jA u)))] t) (va_A [(ba, .inr (0, [.ref bt, .ref bp, .ref bl, .ref bh, .ref bq, .ref br, .ref bd, .int (jI bg), .int (jI bf)])), (bq, .inl (cA, 124, .inl (jA fq)))] sz)) 0 0 (va_A [(ba, .inr (0, [.ref bt, .ref bp, .ref bl, .ref bh, .ref bq, .ref br, .ref bd, .int (jI bg), .int (jI bf)])), (bq, .inl (cA, 124, .inl (jA fq)))] sz) := by
  refine jMet (cc := cXB_tellLimit) (maxL := 4) (ret := none) (by decide) rfl ?_
  intro p e s m args below meth c s₁ R Q hR hQ B hml hv
  obtain ⟨rfl, hsz, hP, hK, hD0, hN⟩ := hv
  have hx := B.exec
  have hb := B.bytes
  have hr := B.returns
  have hts := atoms_spec (ws := Cond.code yXB_tellLimit cXB_tellLimit 4 none :: TBL) B.pre
  have hown : s.vm.findClass RXB = some m.cls := findClass_of_methodNamed B.named
  have hlocks := B.notSynchronized
  subst hsz
  obtain ⟨A, hAe⟩ : ∃ A, A = va_A [(ba, .inr (0, [.ref bt, .ref bp, .ref bl, .ref bh, .ref bq, .ref br, .ref bd, .int (jI bg), .int (jI bf)])), (bq, .inl (cA, 124, .inl (jA fq)))] s.heap.size := ⟨_, rfl⟩
  have hD : va_D A [(ba, .inr (0, [.ref bt, .ref bp, .ref bl, .ref bh, .ref bq, .ref br, .ref bd, .int (jI bg), .int (jI bf)])), (bq, .inl (cA, 124, .inl (jA fq)))] := by rw [hAe]; exact hD0.self
  have hA : ∀ q : Nat, s.heap.size ≤ q → A q := fun q h => by rw [hAe]; exact Or.inr h
  have hS : va_S A s.heap s.heap [] := va_S.rf
  have hP : va_P (dC, dI) vwCl [(ba, .inr (0, [.ref bt, .ref bp, .ref bl, .ref bh, .ref bq, .ref br, .ref bd, .int (jI bg), .int (jI bf)])), (bq, .inl (cA, 124, .inl (jA fq)))] s.heap := hP
  have hl := lv_entry ([.ref ba, .int (jI zg), .int (jI zk), .int (jI zm)]) (n := 4) (Nat.le_of_ble_eq_true rfl)
  rw [lg_entry_eq]
  generalize (lg_sl ([.ref ba, .int (jI zg), .int (jI zk), .int (jI zm)]) ++ List.replicate (4 - (lg_sl ([.ref ba, .int (jI zg), .int (jI zk), .int (jI zm)])).length) Slot.unset).toArray = ls at hl ⊢
  have hl : lv_has ls 4 [(0, .ref ba), (1, .int (jI zg)), (2, .int (jI zk)), (3, .int (jI zm))] := hl
  refine lv_aload_n hx hb dXB_tellLimit_0 rfl (lv_at hl 0 rfl) ?_
  refine va_get (D := (dC, dI)) (ci := 0) (v := .ref bq) (C := RXB) (T := TXB) (N := 9) hx hb hts (fun w h => jmem (inXB w h)) hown hK hP 0 rfl rfl 4 (by decide) (hts _ (jmem tw_77)) (fun _ h9 => h9) rfl dXB_tellLimit_1 ?_
  refine lv_iload_n hx hb dXB_tellLimit_4 rfl (lv_at hl 1 rfl) ?_
  refine ji_iconst hx hb dXB_tellLimit_5 ?_
  refine ji_imul hx hb dXB_tellLimit_6 ?_
  refine lv_iload_n hx hb dXB_tellLimit_7 rfl (lv_at hl 2 rfl) ?_
  refine ji_iadd hx hb dXB_tellLimit_8 ?_
  refine lv_iload_n hx hb dXB_tellLimit_9 rfl (lv_at hl 3 rfl) ?_
  refine ji_iast hx hb hK hP hD hS 1 0 rfl rfl ⟨by omega, by omega⟩ (by decide) dXB_tellLimit_10 (fun H locs hP hD hS => ?_)
  have hP : va_P (dC, dI) vwCl [(ba, .inr (0, [.ref bt, .ref bp, .ref bl, .ref bh, .ref bq, .ref br, .ref bd, .int (jI bg), .int (jI bf)])), (bq, .inl (cA, 124, .inl (jA (jset fq ((zg * 4) + zk) zm))))] H := hP
  have hD : va_D A [(ba, .inr (0, [.ref bt, .ref bp, .ref bl, .ref bh, .ref bq, .ref br, .ref bd, .int (jI bg), .int (jI bf)])), (bq, .inl (cA, 124, .inl (jA (jset fq ((zg * 4) + zk) zm))))] := hD
  have hP9 := hP.sub (ws' := [(ba, .inr (0, [.ref bt, .ref bp, .ref bl, .ref bh, .ref bq, .ref br, .ref bd, .int (jI bg), .int (jI bf)])), (bq, .inl (cA, 124, .inl (jA (jset fq ((zg * 4) + zk) zm))))]) [0, 1] rfl
  have hD9 := hD.sub (ws' := [(ba, .inr (0, [.ref bt, .ref bp, .ref bl, .ref bh, .ref bq, .ref br, .ref bd, .int (jI bg), .int (jI bf)])), (bq, .inl (cA, 124, .inl (jA (jset fq ((zg * 4) + zk) zm))))]) [0, 1] (by decide) rfl
  subst hAe
  subst hQ
  exact W.vret hx hb hr (fun t ht hW => ⟨⟨(jset fq ((zg * 4) + zk) zm), rfl, Eq.trans (by rw [f_XB_tellLimit_s]; try rfl) rfl, ⟨by rw [ht]; exact hP9, va_K.moved hW.alike hK, hD9⟩⟩, hS.F ht⟩) hS.2.2 dXB_tellLimit_11
noncomputable def g_XB_hasFormula (bg : Int) (bf : Int) (zk : Int) : Int :=
  f_XG_hasBit bf zk
noncomputable def f_XB_hasFormula : Int → Int → Int → Int := jopq g_XB_hasFormula
theorem f_XB_hasFormula_q : f_XB_hasFormula = g_XB_hasFormula := jopq_eq _
theorem f_XB_hasFormula_s (bg : Int) (bf : Int) (zk : Int) : f_XB_hasFormula bg bf zk = (
    f_XG_hasBit bf zk
  : Int) := by rw [f_XB_hasFormula_q]; rfl
theorem f_XB_hasFormula_b (bg : Int) (bf : Int) (zk : Int) (hbf : 0 ≤ bf ∧ bf < 2147483648) (hzk : 0 ≤ zk ∧ zk < 4) : 0 ≤ (f_XB_hasFormula bg bf zk) ∧ (f_XB_hasFormula bg bf zk) ≤ 1 := by rw [f_XB_hasFormula_s]; exact f_XG_hasBit_01 _ _ hbf (by omega)
set_option maxHeartbeats 4000000 in
set_option maxRecDepth 100000 in
theorem c_XB_hasFormula (l : Launch) (dC : Nat → ClassId) (dI : Nat → Nat → Nat) (cA : ClassId) (ba : Nat) (bt : Nat) (bp : Nat) (bl : Nat) (bh : Nat) (bq : Nat) (br : Nat) (bd : Nat) (bg : Int) (bf : Int) (zk : Int) (hbf : 0 ≤ bf ∧ bf < 2147483648) (hzk : 0 ≤ zk ∧ zk < 4) : Met l yXB_hasFormula (Cond.code yXB_hasFormula cXB_hasFormula 2 (some .boolean) :: TBL) ({ frames := 1, cells := 0, slots := 0, locals := 21 } : Room) (va_Pc [.ref ba, .int (jI zk)] (jB (dC, dI) [(cA, .int)] [(ba, .inr (0, [.ref bt, .ref bp, .ref bl, .ref bh, .ref bq, .ref br, .ref bd, .int (jI bg), .int (jI bf)]))])) (vp_Si (fun r => r = jI (f_XB_hasFormula bg bf zk))) 0 0 (fun _ => False) := by
  refine jMet (cc := cXB_hasFormula) (maxL := 2) (ret := some .boolean) (by decide) rfl ?_
  intro p e s m args below meth c s₁ R Q hR hQ B hml hv
  obtain ⟨rfl, hP, hK, hN⟩ := hv
  have hx := B.exec
  have hb := B.bytes
  have hr := B.returns
  have hts := atoms_spec (ws := Cond.code yXB_hasFormula cXB_hasFormula 2 (some .boolean) :: TBL) B.pre
  have hown : s.vm.findClass RXB = some m.cls := findClass_of_methodNamed B.named
  have hlocks := B.notSynchronized
  have hP : va_P (dC, dI) vwCl [(ba, .inr (0, [.ref bt, .ref bp, .ref bl, .ref bh, .ref bq, .ref br, .ref bd, .int (jI bg), .int (jI bf)]))] s.heap := hP
  have hl := lv_entry ([.ref ba, .int (jI zk)]) (n := 2) (Nat.le_of_ble_eq_true rfl)
  rw [lg_entry_eq]
  generalize (lg_sl ([.ref ba, .int (jI zk)]) ++ List.replicate (2 - (lg_sl ([.ref ba, .int (jI zk)])).length) Slot.unset).toArray = ls at hl ⊢
  have hl : lv_has ls 2 [(0, .ref ba), (1, .int (jI zk))] := hl
  refine lv_aload_n hx hb dXB_hasFormula_0 rfl (lv_at hl 0 rfl) ?_
  refine va_get (D := (dC, dI)) (ci := 0) (v := .int (jI bf)) (C := RXB) (T := TXB) (N := 9) hx hb hts (fun w h => jmem (inXB w h)) hown hK hP 0 rfl rfl 8 (by decide) (hts _ (jmem tw_81)) (fun _ h9 => h9) rfl dXB_hasFormula_1 ?_
  refine lv_iload_n hx hb dXB_hasFormula_4 rfl (lv_at hl 1 rfl) ?_
  refine jrNi (rest := []) ⟨hx, hb, hml, hown, hts⟩ (c_XG_hasBit l dC dI cA bf zk (by first | assumption | omega) (by first | assumption | omega)) ⟨va_cnB 2 hts (jG (jG_c tw_173)) rfl rfl rfl (jN.n171 hN) (hts _ (jmem tw_1)) (by decide +kernel) (by rw [hR]; exact ⟨Nat.le_of_ble_eq_true rfl, Nat.le_of_ble_eq_true rfl⟩), hts _ (jmem tw_172), trivial⟩ hK hP hN [] rfl rfl hl.1 rfl (Nat.le_of_ble_eq_true rfl) dXB_hasFormula_5 (by rw [hR]; exact ⟨Nat.le_of_ble_eq_true rfl, Nat.le_of_ble_eq_true rfl⟩) ?_
  have f := f_XG_hasBit_01 bf zk (by first | assumption | omega) (by first | assumption | omega)
  subst hQ
  exact W.zret (v := jI (f_XG_hasBit bf zk)) hx hb hr (by first | decide | exact jz (by omega)) (fun t ht hW => ⟨_, rfl, congrArg jI (Eq.trans (by rw [f_XB_hasFormula_s]; try rfl) rfl), ht⟩) (fun _ h => nomatch h) dXB_hasFormula_8
noncomputable def g_XB_knows (bg : Int) (bf : Int) (zi : Int) : Int :=
  if zi < 1 then
    0
  else
    if 30 < zi then
      0
    else
      if (f_XG_hasBit bg zi) = 0 then
        0
      else
        1
noncomputable def f_XB_knows : Int → Int → Int → Int := jopq g_XB_knows
theorem f_XB_knows_q : f_XB_knows = g_XB_knows := jopq_eq _
theorem f_XB_knows_s (bg : Int) (bf : Int) (zi : Int) : f_XB_knows bg bf zi = (
    if zi < 1 then
      0
    else
      if 30 < zi then
        0
      else
        if (f_XG_hasBit bg zi) = 0 then
          0
        else
          1
  : Int) := by rw [f_XB_knows_q]; rfl
theorem f_XB_knows_b (bg : Int) (bf : Int) (zi : Int) (hbg : 0 ≤ bg ∧ bg < 2147483648) (hzi : i32 zi) : 0 ≤ (f_XB_knows bg bf zi) ∧ (f_XB_knows bg bf zi) ≤ 1 := by rw [f_XB_knows_s]; (repeat' split) <;> omega
theorem f_XB_knows_c (bg : Int) (bf : Int) (zi : Int) (hbg : 0 ≤ bg ∧ bg < 2147483648) (hzi : i32 zi) : (f_XB_knows bg bf zi) ≠ 0 → 1 ≤ zi ∧ zi ≤ 30 := by rw [f_XB_knows_s]; (repeat' split) <;> omega
set_option maxHeartbeats 4000000 in
set_option maxRecDepth 100000 in
theorem c_XB_knows (l : Launch) (dC : Nat → ClassId) (dI : Nat → Nat → Nat) (cA : ClassId) (ba : Nat) (bt : Nat) (bp : Nat) (bl : Nat) (bh : Nat) (bq : Nat) (br : Nat) (bd : Nat) (bg : Int) (bf : Int) (zi : Int) (hbg : 0 ≤ bg ∧ bg < 2147483648) (hzi : i32 zi) : Met l yXB_knows (Cond.code yXB_knows cXB_knows 2 (some .boolean) :: TBL) ({ frames := 1, cells := 0, slots := 0, locals := 21 } : Room) (va_Pc [.ref ba, .int (jI zi)] (jB (dC, dI) [(cA, .int)] [(ba, .inr (0, [.ref bt, .ref bp, .ref bl, .ref bh, .ref bq, .ref br, .ref bd, .int (jI bg), .int (jI bf)]))])) (vp_Si (fun r => r = jI (f_XB_knows bg bf zi))) 0 0 (fun _ => False) := by
  refine jMet (cc := cXB_knows) (maxL := 2) (ret := some .boolean) (by decide) rfl ?_
  intro p e s m args below meth c s₁ R Q hR hQ B hml hv
  obtain ⟨rfl, hP, hK, hN⟩ := hv
  have hx := B.exec
  have hb := B.bytes
  have hr := B.returns
  have hts := atoms_spec (ws := Cond.code yXB_knows cXB_knows 2 (some .boolean) :: TBL) B.pre
  have hown : s.vm.findClass RXB = some m.cls := findClass_of_methodNamed B.named
  have hlocks := B.notSynchronized
  have hP : va_P (dC, dI) vwCl [(ba, .inr (0, [.ref bt, .ref bp, .ref bl, .ref bh, .ref bq, .ref br, .ref bd, .int (jI bg), .int (jI bf)]))] s.heap := hP
  have hl := lv_entry ([.ref ba, .int (jI zi)]) (n := 2) (Nat.le_of_ble_eq_true rfl)
  rw [lg_entry_eq]
  generalize (lg_sl ([.ref ba, .int (jI zi)]) ++ List.replicate (2 - (lg_sl ([.ref ba, .int (jI zi)])).length) Slot.unset).toArray = ls at hl ⊢
  have hl : lv_has ls 2 [(0, .ref ba), (1, .int (jI zi))] := hl
  refine lv_iload_n hx hb dXB_knows_0 rfl (lv_at hl 1 rfl) ?_
  refine ji_iconst hx hb dXB_knows_1 ?_
  refine ji_icmp_lt (tgt := 26) hx hb dXB_knows_2 (by decide) (by omega) (by omega) (fun c2_ => ?_) (fun c2_ => ?_)
  · refine ji_iconst hx hb dXB_knows_26 ?_
    subst hQ
    exact W.zret (v := jI 0) hx hb hr (by first | decide | exact jz (by omega)) (fun t ht hW => ⟨_, rfl, congrArg jI (Eq.trans (by rw [f_XB_knows_s]; rw [if_pos c2_]; try rfl) rfl), ht⟩) (fun _ h => nomatch h) dXB_knows_27
  · refine lv_iload_n hx hb dXB_knows_5 rfl (lv_at hl 1 rfl) ?_
    refine ji_bipush hx hb dXB_knows_6 (by decide) ?_
    refine ji_icmp_gt (tgt := 26) hx hb dXB_knows_8 (by decide) (by omega) (by omega) (fun c8_ => ?_) (fun c8_ => ?_)
    · refine ji_iconst hx hb dXB_knows_26 ?_
      subst hQ
      exact W.zret (v := jI 0) hx hb hr (by first | decide | exact jz (by omega)) (fun t ht hW => ⟨_, rfl, congrArg jI (Eq.trans (by rw [f_XB_knows_s]; rw [if_neg (Int.not_lt.mpr c2_), if_pos c8_]; try rfl) rfl), ht⟩) (fun _ h => nomatch h) dXB_knows_27
    · refine lv_aload_n hx hb dXB_knows_11 rfl (lv_at hl 0 rfl) ?_
      refine va_get (D := (dC, dI)) (ci := 0) (v := .int (jI bg)) (C := RXB) (T := TXB) (N := 9) hx hb hts (fun w h => jmem (inXB w h)) hown hK hP 0 rfl rfl 7 (by decide) (hts _ (jmem tw_80)) (fun _ h9 => h9) rfl dXB_knows_12 ?_
      refine lv_iload_n hx hb dXB_knows_15 rfl (lv_at hl 1 rfl) ?_
      refine jrNi (rest := []) ⟨hx, hb, hml, hown, hts⟩ (c_XG_hasBit l dC dI cA bg zi (by first | assumption | omega) (by first | assumption | omega)) ⟨va_cnB 2 hts (jG (jG_c tw_173)) rfl rfl rfl (jN.n171 hN) (hts _ (jmem tw_1)) (by decide +kernel) (by rw [hR]; exact ⟨Nat.le_of_ble_eq_true rfl, Nat.le_of_ble_eq_true rfl⟩), hts _ (jmem tw_172), trivial⟩ hK hP hN [] rfl rfl hl.1 rfl (Nat.le_of_ble_eq_true rfl) dXB_knows_16 (by rw [hR]; exact ⟨Nat.le_of_ble_eq_true rfl, Nat.le_of_ble_eq_true rfl⟩) ?_
      have f := f_XG_hasBit_01 bg zi (by first | assumption | omega) (by first | assumption | omega)
      refine ji_if_eq (tgt := 26) hx hb dXB_knows_19 (by decide) (by omega) (fun c19_ => ?_) (fun c19_ => ?_)
      · refine ji_iconst hx hb dXB_knows_26 ?_
        subst hQ
        exact W.zret (v := jI 0) hx hb hr (by first | decide | exact jz (by omega)) (fun t ht hW => ⟨_, rfl, congrArg jI (Eq.trans (by rw [f_XB_knows_s]; rw [if_neg (Int.not_lt.mpr c2_), if_neg (Int.not_lt.mpr c8_), if_pos c19_]; try rfl) rfl), ht⟩) (fun _ h => nomatch h) dXB_knows_27
      · refine ji_iconst hx hb dXB_knows_22 ?_
        refine lv_goto (tgt := 27) hx hb dXB_knows_23 (by decide) ?_
        subst hQ
        exact W.zret (v := jI 1) hx hb hr (by first | decide | exact jz (by omega)) (fun t ht hW => ⟨_, rfl, congrArg jI (Eq.trans (by rw [f_XB_knows_s]; rw [if_neg (Int.not_lt.mpr c2_), if_neg (Int.not_lt.mpr c8_), if_neg c19_]; try rfl) rfl), ht⟩) (fun _ h => nomatch h) dXB_knows_27
