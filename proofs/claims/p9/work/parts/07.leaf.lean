noncomputable def g_XG_hasBit (zb : Int) (zk : Int) : Int :=
  if (jand zb (jpow zk)) = 0 then
    0
  else
    1
noncomputable def f_XG_hasBit : Int → Int → Int := jopq g_XG_hasBit
theorem f_XG_hasBit_q : f_XG_hasBit = g_XG_hasBit := jopq_eq _
theorem f_XG_hasBit_s (zb : Int) (zk : Int) : f_XG_hasBit zb zk = (
    if (jand zb (jpow zk)) = 0 then
      0
    else
      1
  : Int) := by rw [f_XG_hasBit_q]; rfl
theorem f_XG_hasBit_01 (zb zk : Int) (h1 : 0 ≤ zb ∧ zb < 2147483648) (h2 : 0 ≤ zk ∧ zk < 31) : 0 ≤ f_XG_hasBit zb zk ∧ f_XG_hasBit zb zk ≤ 1 := by rw [f_XG_hasBit_s]; split <;> omega
set_option maxHeartbeats 4000000 in
set_option maxRecDepth 100000 in
theorem c_XG_hasBit (l : Launch) (dC : Nat → ClassId) (dI : Nat → Nat → Nat) (cA : ClassId) (zb : Int) (zk : Int) (h1 : 0 ≤ zb ∧ zb < 2147483648) (h2 : 0 ≤ zk ∧ zk < 31) : Met l yXG_hasBit (Cond.code yXG_hasBit cXG_hasBit 2 (some .boolean) :: TBL) ({ frames := 0, cells := 0, slots := 0, locals := 0 } : Room) (va_Pc [.int (jI zb), .int (jI zk)] (jB (dC, dI) [(cA, .int)] [])) (vp_Si (fun r => r = jI (f_XG_hasBit zb zk))) 0 0 (fun _ => False) := by
  refine jMet (cc := cXG_hasBit) (maxL := 2) (ret := some .boolean) (by decide) rfl ?_
  intro p e s m args below meth c s₁ R Q hR hQ B hml hv
  obtain ⟨rfl, hP, hK, hN⟩ := hv
  have hx := B.exec
  have hb := B.bytes
  have hr := B.returns
  have hts := atoms_spec (ws := Cond.code yXG_hasBit cXG_hasBit 2 (some .boolean) :: TBL) B.pre
  have hown : s.vm.findClass RXG = some m.cls := findClass_of_methodNamed B.named
  have hlocks := B.notSynchronized
  have hP : va_P (dC, dI) vwCl [] s.heap := hP
  have hl := lv_entry ([.int (jI zb), .int (jI zk)]) (n := 2) (Nat.le_of_ble_eq_true rfl)
  rw [lg_entry_eq]
  generalize (lg_sl ([.int (jI zb), .int (jI zk)]) ++ List.replicate (2 - (lg_sl ([.int (jI zb), .int (jI zk)])).length) Slot.unset).toArray = ls at hl ⊢
  have hl : lv_has ls 2 [(0, .int (jI zb)), (1, .int (jI zk))] := hl
  have q1 := jpow_pos zk
  have q2 := jand_nn zb (jpow zk)
  have q3 := jand_le h1.1 (jpow zk)
  refine lv_iload_n hx hb dXG_hasBit_0 rfl (lv_at hl 0 rfl) ?_
  refine ji_iconst hx hb dXG_hasBit_1 ?_
  refine lv_iload_n hx hb dXG_hasBit_2 rfl (lv_at hl 1 rfl) ?_
  refine ji_ishl1 hx hb dXG_hasBit_3 (by omega) (by omega) ?_
  refine ji_iand hx hb dXG_hasBit_4 (by omega) (by omega) ?_
  refine ji_if_eq (tgt := 12) hx hb dXG_hasBit_5 (by decide) (by omega) (fun c5_ => ?_) (fun c5_ => ?_)
  · refine ji_iconst hx hb dXG_hasBit_12 ?_
    subst hQ
    exact W.zret (v := jI 0) hx hb hr (by first | decide | exact jz (by omega)) (fun t ht hW => ⟨_, rfl, congrArg jI (Eq.trans (by rw [f_XG_hasBit_s]; rw [if_pos c5_]; try rfl) rfl), ht⟩) (fun _ h => nomatch h) dXG_hasBit_13
  · refine ji_iconst hx hb dXG_hasBit_8 ?_
    refine lv_goto (tgt := 13) hx hb dXG_hasBit_9 (by decide) ?_
    subst hQ
    exact W.zret (v := jI 1) hx hb hr (by first | decide | exact jz (by omega)) (fun t ht hW => ⟨_, rfl, congrArg jI (Eq.trans (by rw [f_XG_hasBit_s]; rw [if_neg c5_]; try rfl) rfl), ht⟩) (fun _ h => nomatch h) dXG_hasBit_13
noncomputable def g_XG_isDigit (zs : Int) : Int :=
  if zs < 48 then
    0
  else
    if 57 < zs then
      0
    else
      1
noncomputable def f_XG_isDigit : Int → Int := jopq g_XG_isDigit
theorem f_XG_isDigit_q : f_XG_isDigit = g_XG_isDigit := jopq_eq _
theorem f_XG_isDigit_s (zs : Int) : f_XG_isDigit zs = (
    if zs < 48 then
      0
    else
      if 57 < zs then
        0
      else
        1
  : Int) := by rw [f_XG_isDigit_q]; rfl
theorem f_XG_isDigit_01 (zs : Int) (h1 : i32 zs) : (f_XG_isDigit zs = 1 ∧ 48 ≤ zs ∧ zs ≤ 57) ∨ (f_XG_isDigit zs = 0 ∧ (zs < 48 ∨ 57 < zs)) := by rw [f_XG_isDigit_s]; split <;> (try split) <;> omega
set_option maxHeartbeats 4000000 in
set_option maxRecDepth 100000 in
theorem c_XG_isDigit (l : Launch) (dC : Nat → ClassId) (dI : Nat → Nat → Nat) (cA : ClassId) (zs : Int) (h1 : i32 zs) : Met l yXG_isDigit (Cond.code yXG_isDigit cXG_isDigit 1 (some .boolean) :: TBL) ({ frames := 0, cells := 0, slots := 0, locals := 0 } : Room) (va_Pc [.int (jI zs)] (jB (dC, dI) [(cA, .int)] [])) (vp_Si (fun r => r = jI (f_XG_isDigit zs))) 0 0 (fun _ => False) := by
  refine jMet (cc := cXG_isDigit) (maxL := 1) (ret := some .boolean) (by decide) rfl ?_
  intro p e s m args below meth c s₁ R Q hR hQ B hml hv
  obtain ⟨rfl, hP, hK, hN⟩ := hv
  have hx := B.exec
  have hb := B.bytes
  have hr := B.returns
  have hts := atoms_spec (ws := Cond.code yXG_isDigit cXG_isDigit 1 (some .boolean) :: TBL) B.pre
  have hown : s.vm.findClass RXG = some m.cls := findClass_of_methodNamed B.named
  have hlocks := B.notSynchronized
  have hP : va_P (dC, dI) vwCl [] s.heap := hP
  have hl := lv_entry ([.int (jI zs)]) (n := 1) (Nat.le_of_ble_eq_true rfl)
  rw [lg_entry_eq]
  generalize (lg_sl ([.int (jI zs)]) ++ List.replicate (1 - (lg_sl ([.int (jI zs)])).length) Slot.unset).toArray = ls at hl ⊢
  have hl : lv_has ls 1 [(0, .int (jI zs))] := hl
  refine lv_iload_n hx hb dXG_isDigit_0 rfl (lv_at hl 0 rfl) ?_
  refine ji_bipush hx hb dXG_isDigit_1 (by decide) ?_
  refine ji_icmp_lt (tgt := 16) hx hb dXG_isDigit_3 (by decide) (by omega) (by omega) (fun c3_ => ?_) (fun c3_ => ?_)
  · refine ji_iconst hx hb dXG_isDigit_16 ?_
    subst hQ
    exact W.zret (v := jI 0) hx hb hr (by first | decide | exact jz (by omega)) (fun t ht hW => ⟨_, rfl, congrArg jI (Eq.trans (by rw [f_XG_isDigit_s]; rw [if_pos c3_]; try rfl) rfl), ht⟩) (fun _ h => nomatch h) dXG_isDigit_17
  · refine lv_iload_n hx hb dXG_isDigit_6 rfl (lv_at hl 0 rfl) ?_
    refine ji_bipush hx hb dXG_isDigit_7 (by decide) ?_
    refine ji_icmp_gt (tgt := 16) hx hb dXG_isDigit_9 (by decide) (by omega) (by omega) (fun c9_ => ?_) (fun c9_ => ?_)
    · refine ji_iconst hx hb dXG_isDigit_16 ?_
      subst hQ
      exact W.zret (v := jI 0) hx hb hr (by first | decide | exact jz (by omega)) (fun t ht hW => ⟨_, rfl, congrArg jI (Eq.trans (by rw [f_XG_isDigit_s]; rw [if_neg (Int.not_lt.mpr c3_), if_pos c9_]; try rfl) rfl), ht⟩) (fun _ h => nomatch h) dXG_isDigit_17
    · refine ji_iconst hx hb dXG_isDigit_12 ?_
      refine lv_goto (tgt := 17) hx hb dXG_isDigit_13 (by decide) ?_
      subst hQ
      exact W.zret (v := jI 1) hx hb hr (by first | decide | exact jz (by omega)) (fun t ht hW => ⟨_, rfl, congrArg jI (Eq.trans (by rw [f_XG_isDigit_s]; rw [if_neg (Int.not_lt.mpr c3_), if_neg (Int.not_lt.mpr c9_)]; try rfl) rfl), ht⟩) (fun _ h => nomatch h) dXG_isDigit_17
noncomputable def g_XG_isElement (zs : Int) : Int :=
  if zs < 65 then
    0
  else
    if zs < 73 then
      1
    else
      0
noncomputable def f_XG_isElement : Int → Int := jopq g_XG_isElement
theorem f_XG_isElement_q : f_XG_isElement = g_XG_isElement := jopq_eq _
theorem f_XG_isElement_s (zs : Int) : f_XG_isElement zs = (
    if zs < 65 then
      0
    else
      if zs < 73 then
        1
      else
        0
  : Int) := by rw [f_XG_isElement_q]; rfl
theorem f_XG_isElement_01 (zs : Int) (h1 : i32 zs) : (f_XG_isElement zs = 1 ∧ 65 ≤ zs ∧ zs < 73) ∨ (f_XG_isElement zs = 0 ∧ (zs < 65 ∨ 73 ≤ zs)) := by rw [f_XG_isElement_s]; split <;> (try split) <;> omega
set_option maxHeartbeats 4000000 in
set_option maxRecDepth 100000 in
theorem c_XG_isElement (l : Launch) (dC : Nat → ClassId) (dI : Nat → Nat → Nat) (cA : ClassId) (zs : Int) (h1 : i32 zs) : Met l yXG_isElement (Cond.code yXG_isElement cXG_isElement 1 (some .boolean) :: TBL) ({ frames := 0, cells := 0, slots := 0, locals := 0 } : Room) (va_Pc [.int (jI zs)] (jB (dC, dI) [(cA, .int)] [])) (vp_Si (fun r => r = jI (f_XG_isElement zs))) 0 0 (fun _ => False) := by
  refine jMet (cc := cXG_isElement) (maxL := 1) (ret := some .boolean) (by decide) rfl ?_
  intro p e s m args below meth c s₁ R Q hR hQ B hml hv
  obtain ⟨rfl, hP, hK, hN⟩ := hv
  have hx := B.exec
  have hb := B.bytes
  have hr := B.returns
  have hts := atoms_spec (ws := Cond.code yXG_isElement cXG_isElement 1 (some .boolean) :: TBL) B.pre
  have hown : s.vm.findClass RXG = some m.cls := findClass_of_methodNamed B.named
  have hlocks := B.notSynchronized
  have hP : va_P (dC, dI) vwCl [] s.heap := hP
  have hl := lv_entry ([.int (jI zs)]) (n := 1) (Nat.le_of_ble_eq_true rfl)
  rw [lg_entry_eq]
  generalize (lg_sl ([.int (jI zs)]) ++ List.replicate (1 - (lg_sl ([.int (jI zs)])).length) Slot.unset).toArray = ls at hl ⊢
  have hl : lv_has ls 1 [(0, .int (jI zs))] := hl
  refine lv_iload_n hx hb dXG_isElement_0 rfl (lv_at hl 0 rfl) ?_
  refine ji_bipush hx hb dXG_isElement_1 (by decide) ?_
  refine ji_icmp_lt (tgt := 16) hx hb dXG_isElement_3 (by decide) (by omega) (by omega) (fun c3_ => ?_) (fun c3_ => ?_)
  · refine ji_iconst hx hb dXG_isElement_16 ?_
    subst hQ
    exact W.zret (v := jI 0) hx hb hr (by first | decide | exact jz (by omega)) (fun t ht hW => ⟨_, rfl, congrArg jI (Eq.trans (by rw [f_XG_isElement_s]; rw [if_pos c3_]; try rfl) rfl), ht⟩) (fun _ h => nomatch h) dXG_isElement_17
  · refine lv_iload_n hx hb dXG_isElement_6 rfl (lv_at hl 0 rfl) ?_
    refine ji_bipush hx hb dXG_isElement_7 (by decide) ?_
    refine ji_icmp_ge (tgt := 16) hx hb dXG_isElement_9 (by decide) (by omega) (by omega) (fun c9_ => ?_) (fun c9_ => ?_)
    · refine ji_iconst hx hb dXG_isElement_16 ?_
      subst hQ
      exact W.zret (v := jI 0) hx hb hr (by first | decide | exact jz (by omega)) (fun t ht hW => ⟨_, rfl, congrArg jI (Eq.trans (by rw [f_XG_isElement_s]; rw [if_neg (Int.not_lt.mpr c3_), if_neg (Int.not_lt.mpr c9_)]; try rfl) rfl), ht⟩) (fun _ h => nomatch h) dXG_isElement_17
    · refine ji_iconst hx hb dXG_isElement_12 ?_
      refine lv_goto (tgt := 17) hx hb dXG_isElement_13 (by decide) ?_
      subst hQ
      exact W.zret (v := jI 1) hx hb hr (by first | decide | exact jz (by omega)) (fun t ht hW => ⟨_, rfl, congrArg jI (Eq.trans (by rw [f_XG_isElement_s]; rw [if_neg (Int.not_lt.mpr c3_), if_pos c9_]; try rfl) rfl), ht⟩) (fun _ h => nomatch h) dXG_isElement_17
