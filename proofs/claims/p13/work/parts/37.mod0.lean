section
/-! truth arrays, long arrays -/
theorem jnar_z {x : Int} (h : 0 ≤ x ∧ x ≤ 1) : vp_nar .boolean (jI x) = jI x := by
  rcases (show x = 0 ∨ x = 1 by omega) with rfl | rfl <;> decide
theorem jzeroL : jL 0 = 0 := by decide
theorem jL_ti (v : Int64) : jL v.toInt = v := Int64.ofInt_toInt v
section JZ
variable {p : Program} {l : Launch} {e : Env} {R : Room} {s : State} {m : MethodId} {args : Array Value} {below : List Frame} {meth : Method} {c : Code} {H : Heap} {locs : List Loc} {cells slots : Nat} {Q : State → Prop}
variable {cc : ByteArray} {pc : Nat} {ls : Array Slot} {rest : List Value} {D : va_G} {cl : List vw_C} {A : Nat → Prop} {a : Nat} {tys : List (ClassId × FieldType)} {ws : va_W} {H0 : Heap}
theorem ji_zald (hx : p.tables.exec = Jvm.exec) (hb : c.code = cc) (hK : va_K D cl tys s) (hP : va_P D cl ws H) (q0 t0 : Nat) {cA : ClassId} {n : Nat} {f : Int → Int} (ha : ws[q0]? = some (a, .inl (cA, n, .inl (jA f)))) (ht : tys[t0]? = some (cA, .boolean)) {i : Int} (h0 : 0 ≤ i ∧ i < (n : Int)) (hn : n ≤ 2147483648) (hdg : decode cc pc = .ok (.baload, 1)) (kk : W p l e R s m args below meth c H locs cells slots Q (F0 m (pc + 1) ls (.int (jI (f i)) :: rest))) : W p l e R s m args below meth c H locs cells slots Q (F0 m pc ls (.int (jI i) :: .ref a :: rest)) := va_zald hx hb hK hP q0 t0 ha ht (jA_in h0.1 h0.2 hn) hdg (by rw [jA_at h0.1 h0.2 hn]; exact kk)
theorem ji_zast (hx : p.tables.exec = Jvm.exec) (hb : c.code = cc) (hK : va_K D cl tys s) (hP : va_P D cl ws H) (hD : va_D A ws) (hS : va_S A H0 H locs) (q0 t0 : Nat) {cA : ClassId} {n : Nat} {f : Int → Int} (ha : ws[q0]? = some (a, .inl (cA, n, .inl (jA f)))) (ht : tys[t0]? = some (cA, .boolean)) {i x : Int} (hv : 0 ≤ x ∧ x ≤ 1) (h0 : 0 ≤ i ∧ i < (n : Int)) (hn : n ≤ 2147483648) (hdg : decode cc pc = .ok (.bastore, 1)) (kk : ∀ (H1 : Heap) (locs1 : List Loc), va_P D cl (ws.set q0 (a, .inl (cA, n, .inl (jA (jset f i x))))) H1 → va_D A (ws.set q0 (a, .inl (cA, n, .inl (jA (jset f i x))))) → va_S A H0 H1 locs1 → W p l e R s m args below meth c H1 locs1 cells slots Q (F0 m (pc + 1) ls rest)) : W p l e R s m args below meth c H locs cells slots Q (F0 m pc ls (.int (jI x) :: .int (jI i) :: .ref a :: rest)) := va_zast hx hb hK hP hD hS q0 t0 ha ht (jA_in h0.1 h0.2 hn) hdg (by rw [jnar_z hv, jA_upd h0.1 h0.2 hn]; exact kk)
theorem ji_newz (hx : p.tables.exec = Jvm.exec) (hb : c.code = cc) (harr : (Cond.arrayClass .boolean).before args s = true) (hK : va_K D cl tys s) (hP : va_P D cl ws H) (hD : va_D A ws) (hS : va_S A H0 H locs) (hA : ∀ q, H0.size ≤ q → A q) (t0 : Nat) {cA : ClassId} (ht : tys[t0]? = some (cA, .boolean)) {N : Nat} {z : Int} (hz : z = (N : Int)) (hN : N ≤ 1000) (hcells : cells + 1 ≤ R.cells) (hslots : slots + N ≤ R.slots) (hdg : decode cc pc = .ok (.newarray .boolean, 2))
    (kk : ∀ (q : Nat) (H1 : Heap), va_P D cl (ws ++ [(q, .inl (cA, N, .inl (jA (fun _ => 0))))]) H1 → va_D A (ws ++ [(q, .inl (cA, N, .inl (jA (fun _ => 0))))]) → va_S A H0 H1 locs → W p l e R s m args below meth c H1 locs (cells + 1) (slots + N) Q (F0 m (pc + 2) ls (.ref q :: rest))) : W p l e R s m args below meth c H locs cells slots Q (F0 m pc ls (.int (jI z) :: rest)) := by
  subst hz
  refine va_newa (atype := .boolean) (a0 := (N, .inl (jA (fun _ => 0)))) (ty := .boolean) (N' := N) hx hb harr rfl hK hP hD hS hA (fun cA => ?_) ?_ ?_ ?_ hcells hslots hdg (fun q cA' H1 hK1 hP1 hD1 hS1 => ?_)
  · show arrV cA N (fun j => Value.int (jI 0)) = arrV cA N (fun _ => Value.int 0)
    rw [jzero]
  · have h0 := jI_lt (a := (N : Int)) (b := 0) (by omega) (by decide)
    rw [jzero] at h0
    intro h
    have := h0.mp h
    omega
  · rw [jI_clamp (by omega) (by omega)]; exact Int.toNat_natCast N
  · have h4 : componentBytes .boolean = 1 := rfl
    rw [h4]; omega
  · have h1 := (hK1.2 tys.length (cA', .boolean) (by simp)).2
    have h2 := (hK.2 t0 (cA, .boolean) ht).2
    have h3 : some cA' = some cA := (show s.vm.findClass ("[" ++ FieldType.boolean.toString) = some cA' from h1).symm.trans h2
    cases h3
    exact kk q H1 hP1 hD1 hS1
theorem ji_newl (hx : p.tables.exec = Jvm.exec) (hb : c.code = cc) (harr : (Cond.arrayClass .long).before args s = true) (hK : va_K D cl tys s) (hP : va_P D cl ws H) (hD : va_D A ws) (hS : va_S A H0 H locs) (hA : ∀ q, H0.size ≤ q → A q) (t0 : Nat) {cA : ClassId} (ht : tys[t0]? = some (cA, .long)) {N : Nat} {z : Int} (hz : z = (N : Int)) (hN : N ≤ 1000) (hcells : cells + 1 ≤ R.cells) (hslots : slots + N ≤ R.slots) (hdg : decode cc pc = .ok (.newarray .long, 2))
    (kk : ∀ (q : Nat) (H1 : Heap), va_P D cl (ws ++ [(q, .inl (cA, N, .inr (.inl (jAL (fun _ => 0)))))]) H1 → va_D A (ws ++ [(q, .inl (cA, N, .inr (.inl (jAL (fun _ => 0)))))]) → va_S A H0 H1 locs → W p l e R s m args below meth c H1 locs (cells + 1) (slots + N) Q (F0 m (pc + 2) ls (.ref q :: rest))) : W p l e R s m args below meth c H locs cells slots Q (F0 m pc ls (.int (jI z) :: rest)) := by
  subst hz
  refine va_newa (atype := .long) (a0 := (N, .inr (.inl (jAL (fun _ => 0))))) (ty := .long) (N' := N) hx hb harr rfl hK hP hD hS hA (fun cA => ?_) ?_ ?_ ?_ hcells hslots hdg (fun q cA' H1 hK1 hP1 hD1 hS1 => ?_)
  · show arrV cA N (fun j => Value.long (jL 0)) = arrV cA N (fun _ => Value.long 0)
    rw [jzeroL]
  · have h0 := jI_lt (a := (N : Int)) (b := 0) (by omega) (by decide)
    rw [jzero] at h0
    intro h
    have := h0.mp h
    omega
  · rw [jI_clamp (by omega) (by omega)]; exact Int.toNat_natCast N
  · have h4 : componentBytes .long = 8 := rfl
    rw [h4]; omega
  · have h1 := (hK1.2 tys.length (cA', .long) (by simp)).2
    have h2 := (hK.2 t0 (cA, .long) ht).2
    have h3 : some cA' = some cA := (show s.vm.findClass ("[" ++ FieldType.long.toString) = some cA' from h1).symm.trans h2
    cases h3
    exact kk q H1 hP1 hD1 hS1
theorem ji_lald (hx : p.tables.exec = Jvm.exec) (hb : c.code = cc) (hK : va_K D cl tys s) (hP : va_P D cl ws H) (q0 t0 : Nat) {cA : ClassId} {n : Nat} {f : Int → Int} (ha : ws[q0]? = some (a, .inl (cA, n, .inr (.inl (jAL f))))) (ht : tys[t0]? = some (cA, .long)) {i : Int} (h0 : 0 ≤ i ∧ i < (n : Int)) (hn : n ≤ 2147483648) (hdg : decode cc pc = .ok (.laload, 1)) (kk : W p l e R s m args below meth c H locs cells slots Q (F0 m (pc + 1) ls (.long (jL (f i)) :: rest))) : W p l e R s m args below meth c H locs cells slots Q (F0 m pc ls (.int (jI i) :: .ref a :: rest)) := va_lald hx hb hK hP q0 t0 ha ht (jA_in h0.1 h0.2 hn) hdg (by
  have h : jAL f (jI i).toNatClampNeg = jL (f i) := by
    rw [jI_clamp h0.1 (by omega)]
    show jL (f ((i.toNat : Nat) : Int)) = _
    rw [Int.toNat_of_nonneg h0.1]
  rw [h]; exact kk)
theorem ji_rev {x : Int32} (k : W p l e R s m args below meth c H locs cells slots Q (F0 m pc ls (.int (jI x.toInt) :: rest))) : W p l e R s m args below meth c H locs cells slots Q (F0 m pc ls (.int x :: rest)) := by rw [jI_ti] at k; exact k
theorem ji_revl {x : Int64} (k : W p l e R s m args below meth c H locs cells slots Q (F0 m pc ls (.long (jL x.toInt) :: rest))) : W p l e R s m args below meth c H locs cells slots Q (F0 m pc ls (.long x :: rest)) := by rw [jL_ti] at k; exact k
end JZ
theorem jset_b {f : Int → Int} {lo hi k v : Int} (hf : ∀ i, lo ≤ f i ∧ f i ≤ hi) (hv : lo ≤ v ∧ v ≤ hi) : ∀ i, lo ≤ jset f k v i ∧ jset f k v i ≤ hi := by
  intro i; unfold jset; split
  · exact hv
  · exact hf i
theorem jw_or (v : Int) : i32 (jw v) ∧ (jw v = v ∨ v < -2147483648 ∨ 2147483647 < v) := ⟨jw_i v, by
  by_cases h : i32 v
  · exact Or.inl (jI_toInt h)
  · omega⟩
end
section
noncomputable def g_XM_in (z1 : Int) (z2 : Int) (z3 : Int) : Int :=
  if z1 < z2 then
    0
  else
    if z3 < z1 then
      0
    else
      1
noncomputable def f_XM_in : Int → Int → Int → Int := jopq g_XM_in
theorem f_XM_in_q : f_XM_in = g_XM_in := jopq_eq _
theorem f_XM_in_s (z1 : Int) (z2 : Int) (z3 : Int) : f_XM_in z1 z2 z3 = (
    if z1 < z2 then
      0
    else
      if z3 < z1 then
        0
      else
        1
  : Int) := by rw [f_XM_in_q]; rfl
theorem f_XM_in_b (z1 : Int) (z2 : Int) (z3 : Int) (h1 : i32 z1) (h2 : i32 z2) (h3 : i32 z3) : ((f_XM_in z1 z2 z3) = 1 ∧ z2 ≤ z1 ∧ z1 ≤ z3) ∨ ((f_XM_in z1 z2 z3) = 0 ∧ (z1 < z2 ∨ z3 < z1)) := by rw [f_XM_in_s]; (repeat' split) <;> omega
set_option maxHeartbeats 4000000 in
set_option maxRecDepth 100000 in
theorem c_XM_in (l : Launch) (dC : Nat → ClassId) (dI : Nat → Nat → Nat) (cA cZ : ClassId) (z1 : Int) (z2 : Int) (z3 : Int) (h1 : i32 z1) (h2 : i32 z2) (h3 : i32 z3) : Met l yXM_in (Cond.code yXM_in cXM_in 3 (some .boolean) :: TBL) ({ frames := 0, cells := 0, slots := 0, locals := 0 } : Room) (va_Pc [.int (jI z1), .int (jI z2), .int (jI z3)] (jB (dC, dI) [(cA, .int), (cZ, .boolean)] [])) (vp_Si (fun r => r = jI (f_XM_in z1 z2 z3))) 0 0 (fun _ => False) := by
  refine jMet (cc := cXM_in) (maxL := 3) (ret := some .boolean) (by decide) rfl ?_
  intro p e s m args below meth c s₁ R Q hR hQ B hml hv
  obtain ⟨rfl, hP, hK, hN⟩ := hv
  have hx := B.exec
  have hb := B.bytes
  have hr := B.returns
  have hts := atoms_spec (ws := Cond.code yXM_in cXM_in 3 (some .boolean) :: TBL) B.pre
  have hown : s.vm.findClass RXM = some m.cls := findClass_of_methodNamed B.named
  have hlocks := B.notSynchronized
  have hP : va_P (dC, dI) vwCl [] s.heap := hP
  have hl := lv_entry ([.int (jI z1), .int (jI z2), .int (jI z3)]) (n := 3) (Nat.le_of_ble_eq_true rfl)
  rw [lg_entry_eq]
  generalize (lg_sl ([.int (jI z1), .int (jI z2), .int (jI z3)]) ++ List.replicate (3 - (lg_sl ([.int (jI z1), .int (jI z2), .int (jI z3)])).length) Slot.unset).toArray = ls at hl ⊢
  have hl : lv_has ls 3 [(0, .int (jI z1)), (1, .int (jI z2)), (2, .int (jI z3))] := hl
  refine lv_iload_n hx hb dXM_in_0 rfl (lv_at hl 0 rfl) ?_
  refine lv_iload_n hx hb dXM_in_1 rfl (lv_at hl 1 rfl) ?_
  refine ji_icmp_lt (tgt := 14) hx hb dXM_in_2 (by decide) (by omega) (by omega) (fun c2_ => ?_) (fun c2_ => ?_)
  · refine ji_iconst hx hb dXM_in_14 ?_
    subst hQ
    exact W.zret (v := jI 0) hx hb hr (by first | decide | exact jz (by omega)) (fun t ht hW => ⟨_, rfl, congrArg jI (Eq.trans (by rw [f_XM_in_s]; rw [if_pos c2_]; try rfl) rfl), ht⟩) (fun _ h => nomatch h) dXM_in_15
  · refine lv_iload_n hx hb dXM_in_5 rfl (lv_at hl 0 rfl) ?_
    refine lv_iload_n hx hb dXM_in_6 rfl (lv_at hl 2 rfl) ?_
    refine ji_icmp_gt (tgt := 14) hx hb dXM_in_7 (by decide) (by omega) (by omega) (fun c7_ => ?_) (fun c7_ => ?_)
    · refine ji_iconst hx hb dXM_in_14 ?_
      subst hQ
      exact W.zret (v := jI 0) hx hb hr (by first | decide | exact jz (by omega)) (fun t ht hW => ⟨_, rfl, congrArg jI (Eq.trans (by rw [f_XM_in_s]; rw [if_neg (Int.not_lt.mpr c2_), if_pos c7_]; try rfl) rfl), ht⟩) (fun _ h => nomatch h) dXM_in_15
    · refine ji_iconst hx hb dXM_in_10 ?_
      refine lv_goto (tgt := 15) hx hb dXM_in_11 (by decide) ?_
      subst hQ
      exact W.zret (v := jI 1) hx hb hr (by first | decide | exact jz (by omega)) (fun t ht hW => ⟨_, rfl, congrArg jI (Eq.trans (by rw [f_XM_in_s]; rw [if_neg (Int.not_lt.mpr c2_), if_neg (Int.not_lt.mpr c7_)]; try rfl) rfl), ht⟩) (fun _ h => nomatch h) dXM_in_15
noncomputable def g_XM_isElement (z1 : Int) : Int :=
  f_XM_in z1 0 7
noncomputable def f_XM_isElement : Int → Int := jopq g_XM_isElement
theorem f_XM_isElement_q : f_XM_isElement = g_XM_isElement := jopq_eq _
theorem f_XM_isElement_s (z1 : Int) : f_XM_isElement z1 = (
    f_XM_in z1 0 7
  : Int) := by rw [f_XM_isElement_q]; rfl
theorem f_XM_isElement_b (z1 : Int) (h1 : i32 z1) : ((f_XM_isElement z1) = 1 ∧ 0 ≤ z1 ∧ z1 ≤ 7) ∨ ((f_XM_isElement z1) = 0 ∧ (z1 < 0 ∨ 7 < z1)) := by rw [f_XM_isElement_s]; have := f_XM_in_b z1 0 7 h1 (by decide) (by decide); omega
set_option maxHeartbeats 4000000 in
set_option maxRecDepth 100000 in
theorem c_XM_isElement (l : Launch) (dC : Nat → ClassId) (dI : Nat → Nat → Nat) (cA cZ : ClassId) (z1 : Int) (h1 : i32 z1) : Met l yXM_isElement (Cond.code yXM_isElement cXM_isElement 1 (some .boolean) :: TBL) ({ frames := 1, cells := 0, slots := 0, locals := 22 } : Room) (va_Pc [.int (jI z1)] (jB (dC, dI) [(cA, .int), (cZ, .boolean)] [])) (vp_Si (fun r => r = jI (f_XM_isElement z1))) 0 0 (fun _ => False) := by
  refine jMet (cc := cXM_isElement) (maxL := 1) (ret := some .boolean) (by decide) rfl ?_
  intro p e s m args below meth c s₁ R Q hR hQ B hml hv
  obtain ⟨rfl, hP, hK, hN⟩ := hv
  have hx := B.exec
  have hb := B.bytes
  have hr := B.returns
  have hts := atoms_spec (ws := Cond.code yXM_isElement cXM_isElement 1 (some .boolean) :: TBL) B.pre
  have hown : s.vm.findClass RXM = some m.cls := findClass_of_methodNamed B.named
  have hlocks := B.notSynchronized
  have hP : va_P (dC, dI) vwCl [] s.heap := hP
  have hl := lv_entry ([.int (jI z1)]) (n := 1) (Nat.le_of_ble_eq_true rfl)
  rw [lg_entry_eq]
  generalize (lg_sl ([.int (jI z1)]) ++ List.replicate (1 - (lg_sl ([.int (jI z1)])).length) Slot.unset).toArray = ls at hl ⊢
  have hl : lv_has ls 1 [(0, .int (jI z1))] := hl
  refine lv_iload_n hx hb dXM_isElement_0 rfl (lv_at hl 0 rfl) ?_
  refine ji_iconst hx hb dXM_isElement_1 ?_
  refine ji_bipush hx hb dXM_isElement_2 (by decide) ?_
  refine jrSi (rest := []) ⟨hx, hb, hml, hown, hts⟩ (c_XM_in l dC dI cA cZ z1 0 7 (by first | assumption | omega) (by first | assumption | omega) (by first | assumption | omega)) (cwS 3 hts (jG_S tw_695 tw_696 tw_6 tw_697) rfl rfl rfl (by decide +kernel) (by rw [hR]; exact ⟨Nat.le_of_ble_eq_true rfl, Nat.le_of_ble_eq_true rfl⟩)) hK hP hN [] rfl rfl hl.1 rfl (Nat.le_of_ble_eq_true rfl) dXM_isElement_4 (by rw [hR]; exact ⟨Nat.le_of_ble_eq_true rfl, Nat.le_of_ble_eq_true rfl⟩) ?_
  have f := f_XM_in_b z1 0 7 (by first | assumption | omega) (by first | assumption | omega) (by first | assumption | omega)
  subst hQ
  exact W.zret (v := jI (f_XM_in z1 0 7)) hx hb hr (by first | decide | exact jz (by omega)) (fun t ht hW => ⟨_, rfl, congrArg jI (Eq.trans (by rw [f_XM_isElement_s]; try rfl) rfl), ht⟩) (fun _ h => nomatch h) dXM_isElement_7
noncomputable def g_XM_isKind (z1 : Int) : Int :=
  f_XM_in z1 0 3
noncomputable def f_XM_isKind : Int → Int := jopq g_XM_isKind
theorem f_XM_isKind_q : f_XM_isKind = g_XM_isKind := jopq_eq _
theorem f_XM_isKind_s (z1 : Int) : f_XM_isKind z1 = (
    f_XM_in z1 0 3
  : Int) := by rw [f_XM_isKind_q]; rfl
theorem f_XM_isKind_b (z1 : Int) (h1 : i32 z1) : ((f_XM_isKind z1) = 1 ∧ 0 ≤ z1 ∧ z1 ≤ 3) ∨ ((f_XM_isKind z1) = 0 ∧ (z1 < 0 ∨ 3 < z1)) := by rw [f_XM_isKind_s]; have := f_XM_in_b z1 0 3 h1 (by decide) (by decide); omega
set_option maxHeartbeats 4000000 in
set_option maxRecDepth 100000 in
theorem c_XM_isKind (l : Launch) (dC : Nat → ClassId) (dI : Nat → Nat → Nat) (cA cZ : ClassId) (z1 : Int) (h1 : i32 z1) : Met l yXM_isKind (Cond.code yXM_isKind cXM_isKind 1 (some .boolean) :: TBL) ({ frames := 1, cells := 0, slots := 0, locals := 22 } : Room) (va_Pc [.int (jI z1)] (jB (dC, dI) [(cA, .int), (cZ, .boolean)] [])) (vp_Si (fun r => r = jI (f_XM_isKind z1))) 0 0 (fun _ => False) := by
  refine jMet (cc := cXM_isKind) (maxL := 1) (ret := some .boolean) (by decide) rfl ?_
  intro p e s m args below meth c s₁ R Q hR hQ B hml hv
  obtain ⟨rfl, hP, hK, hN⟩ := hv
  have hx := B.exec
  have hb := B.bytes
  have hr := B.returns
  have hts := atoms_spec (ws := Cond.code yXM_isKind cXM_isKind 1 (some .boolean) :: TBL) B.pre
  have hown : s.vm.findClass RXM = some m.cls := findClass_of_methodNamed B.named
  have hlocks := B.notSynchronized
  have hP : va_P (dC, dI) vwCl [] s.heap := hP
  have hl := lv_entry ([.int (jI z1)]) (n := 1) (Nat.le_of_ble_eq_true rfl)
  rw [lg_entry_eq]
  generalize (lg_sl ([.int (jI z1)]) ++ List.replicate (1 - (lg_sl ([.int (jI z1)])).length) Slot.unset).toArray = ls at hl ⊢
  have hl : lv_has ls 1 [(0, .int (jI z1))] := hl
  refine lv_iload_n hx hb dXM_isKind_0 rfl (lv_at hl 0 rfl) ?_
  refine ji_iconst hx hb dXM_isKind_1 ?_
  refine ji_iconst hx hb dXM_isKind_2 ?_
  refine jrSi (rest := []) ⟨hx, hb, hml, hown, hts⟩ (c_XM_in l dC dI cA cZ z1 0 3 (by first | assumption | omega) (by first | assumption | omega) (by first | assumption | omega)) (cwS 3 hts (jG_S tw_695 tw_696 tw_6 tw_697) rfl rfl rfl (by decide +kernel) (by rw [hR]; exact ⟨Nat.le_of_ble_eq_true rfl, Nat.le_of_ble_eq_true rfl⟩)) hK hP hN [] rfl rfl hl.1 rfl (Nat.le_of_ble_eq_true rfl) dXM_isKind_3 (by rw [hR]; exact ⟨Nat.le_of_ble_eq_true rfl, Nat.le_of_ble_eq_true rfl⟩) ?_
  have f := f_XM_in_b z1 0 3 (by first | assumption | omega) (by first | assumption | omega) (by first | assumption | omega)
  subst hQ
  exact W.zret (v := jI (f_XM_in z1 0 3)) hx hb hr (by first | decide | exact jz (by omega)) (fun t ht hW => ⟨_, rfl, congrArg jI (Eq.trans (by rw [f_XM_isKind_s]; try rfl) rfl), ht⟩) (fun _ h => nomatch h) dXM_isKind_6
noncomputable def g_XM_thrown (mth : Int) (mn : Int) (mp : Int) (mw : Int) (mu : Int) (md : Int) (mo : Int) : Int :=
  mth
noncomputable def f_XM_thrown : Int → Int → Int → Int → Int → Int → Int → Int := jopq g_XM_thrown
theorem f_XM_thrown_q : f_XM_thrown = g_XM_thrown := jopq_eq _
theorem f_XM_thrown_s (mth : Int) (mn : Int) (mp : Int) (mw : Int) (mu : Int) (md : Int) (mo : Int) : f_XM_thrown mth mn mp mw mu md mo = (
    mth
  : Int) := by rw [f_XM_thrown_q]; rfl
theorem f_XM_thrown_b (mth : Int) (mn : Int) (mp : Int) (mw : Int) (mu : Int) (md : Int) (mo : Int) : (f_XM_thrown mth mn mp mw mu md mo) = mth := by rw [f_XM_thrown_s]
set_option maxHeartbeats 4000000 in
set_option maxRecDepth 100000 in
theorem c_XM_thrown (l : Launch) (dC : Nat → ClassId) (dI : Nat → Nat → Nat) (cA cZ : ClassId) (ma : Nat) (a0 : Nat) (a1 : Nat) (a2 : Nat) (a3 : Nat) (a4 : Nat) (a5 : Nat) (a6 : Nat) (a7 : Nat) (a8 : Nat) (a9 : Nat) (a10 : Nat) (a11 : Nat) (mth : Int) (mn : Int) (mp : Int) (mw : Int) (mu : Int) (md : Int) (mo : Int) : Met l yXM_thrown (Cond.code yXM_thrown cXM_thrown 1 (some .int) :: TBL) ({ frames := 0, cells := 0, slots := 0, locals := 0 } : Room) (va_Pc [.ref ma] (jB (dC, dI) [(cA, .int), (cZ, .boolean)] [(ma, .inr (5, [.int (jI mth), .int (jI mn), .ref a0, .int (jI mp), .int (jI mw), .ref a1, .ref a2, .ref a3, .ref a4, .ref a5, .ref a6, .ref a7, .ref a8, .ref a9, .ref a10, .long (jL mu), .long (jL md), .int (jI mo), .ref a11]))])) (vp_Si (fun r => r = jI (f_XM_thrown mth mn mp mw mu md mo))) 0 0 (fun _ => False) := by
  refine jMet (cc := cXM_thrown) (maxL := 1) (ret := some .int) (by decide) rfl ?_
  intro p e s m args below meth c s₁ R Q hR hQ B hml hv
  obtain ⟨rfl, hP, hK, hN⟩ := hv
  have hx := B.exec
  have hb := B.bytes
  have hr := B.returns
  have hts := atoms_spec (ws := Cond.code yXM_thrown cXM_thrown 1 (some .int) :: TBL) B.pre
  have hown : s.vm.findClass RXM = some m.cls := findClass_of_methodNamed B.named
  have hlocks := B.notSynchronized
  have hP : va_P (dC, dI) vwCl [(ma, .inr (5, [.int (jI mth), .int (jI mn), .ref a0, .int (jI mp), .int (jI mw), .ref a1, .ref a2, .ref a3, .ref a4, .ref a5, .ref a6, .ref a7, .ref a8, .ref a9, .ref a10, .long (jL mu), .long (jL md), .int (jI mo), .ref a11]))] s.heap := hP
  have hl := lv_entry ([.ref ma]) (n := 1) (Nat.le_of_ble_eq_true rfl)
  rw [lg_entry_eq]
  generalize (lg_sl ([.ref ma]) ++ List.replicate (1 - (lg_sl ([.ref ma])).length) Slot.unset).toArray = ls at hl ⊢
  have hl : lv_has ls 1 [(0, .ref ma)] := hl
  refine lv_aload_n hx hb dXM_thrown_0 rfl (lv_at hl 0 rfl) ?_
  refine va_get (D := (dC, dI)) (ci := 5) (v := .int (jI mth)) (C := RXM) (T := TXM) (N := 19) hx hb hts (fun w h => jmem (inXM w h)) hown hK hP 0 rfl rfl 0 (by decide) (hts _ (jmem tw_628)) (fun _ h9 => h9) rfl dXM_thrown_1 ?_
  subst hQ
  exact W.iret (v := jI mth) hx hb hr (fun t ht hW => ⟨_, rfl, congrArg jI (Eq.trans (by rw [f_XM_thrown_s]; try rfl) rfl), ht⟩) (fun _ h => nomatch h) dXM_thrown_4
noncomputable def g_XM_isTold (mth : Int) (mn : Int) (mp : Int) (mw : Int) (mu : Int) (md : Int) (mo : Int) (y1 : Int → Int) (z1 : Int) : Int :=
  if (f_XM_in z1 1 30) = 0 then
    0
  else
    if (y1 z1) = 0 then
      0
    else
      1
noncomputable def f_XM_isTold : Int → Int → Int → Int → Int → Int → Int → (Int → Int) → Int → Int := jopq g_XM_isTold
theorem f_XM_isTold_q : f_XM_isTold = g_XM_isTold := jopq_eq _
theorem f_XM_isTold_s (mth : Int) (mn : Int) (mp : Int) (mw : Int) (mu : Int) (md : Int) (mo : Int) (y1 : Int → Int) (z1 : Int) : f_XM_isTold mth mn mp mw mu md mo y1 z1 = (
    if (f_XM_in z1 1 30) = 0 then
      0
    else
      if (y1 z1) = 0 then
        0
      else
        1
  : Int) := by rw [f_XM_isTold_q]; rfl
theorem f_XM_isTold_b (mth : Int) (mn : Int) (mp : Int) (mw : Int) (mu : Int) (md : Int) (mo : Int) (y1 : Int → Int) (z1 : Int) (hy1 : ∀ i, 0 ≤ y1 i ∧ y1 i ≤ 1) (h1 : i32 z1) : ((f_XM_isTold mth mn mp mw mu md mo y1 z1) = 1 ∧ 1 ≤ z1 ∧ z1 ≤ 30 ∧ y1 z1 = 1) ∨ ((f_XM_isTold mth mn mp mw mu md mo y1 z1) = 0 ∧ (z1 < 1 ∨ 30 < z1 ∨ y1 z1 = 0)) := by have := hy1 z1; have := f_XM_in_b z1 1 30 h1 (by decide) (by decide); rw [f_XM_isTold_s]; (repeat' split) <;> omega
set_option maxHeartbeats 4000000 in
set_option maxRecDepth 100000 in
theorem c_XM_isTold (l : Launch) (dC : Nat → ClassId) (dI : Nat → Nat → Nat) (cA cZ : ClassId) (ma : Nat) (a0 : Nat) (a1 : Nat) (a2 : Nat) (a3 : Nat) (a4 : Nat) (a5 : Nat) (a6 : Nat) (a7 : Nat) (a8 : Nat) (a9 : Nat) (a10 : Nat) (a11 : Nat) (mth : Int) (mn : Int) (mp : Int) (mw : Int) (mu : Int) (md : Int) (mo : Int) (y1 : Int → Int) (z1 : Int) (hy1 : ∀ i, 0 ≤ y1 i ∧ y1 i ≤ 1) (h1 : i32 z1) : Met l yXM_isTold (Cond.code yXM_isTold cXM_isTold 2 (some .boolean) :: TBL) ({ frames := 1, cells := 0, slots := 0, locals := 22 } : Room) (va_Pc [.ref ma, .int (jI z1)] (jB (dC, dI) [(cA, .int), (cZ, .boolean)] [(ma, .inr (5, [.int (jI mth), .int (jI mn), .ref a0, .int (jI mp), .int (jI mw), .ref a1, .ref a2, .ref a3, .ref a4, .ref a5, .ref a6, .ref a7, .ref a8, .ref a9, .ref a10, .long (jL mu), .long (jL md), .int (jI mo), .ref a11])), (a1, .inl (cZ, 62, .inl (jA y1)))])) (vp_Si (fun r => r = jI (f_XM_isTold mth mn mp mw mu md mo y1 z1))) 0 0 (fun _ => False) := by
  refine jMet (cc := cXM_isTold) (maxL := 2) (ret := some .boolean) (by decide) rfl ?_
  intro p e s m args below meth c s₁ R Q hR hQ B hml hv
  obtain ⟨rfl, hP, hK, hN⟩ := hv
  have hx := B.exec
  have hb := B.bytes
  have hr := B.returns
  have hts := atoms_spec (ws := Cond.code yXM_isTold cXM_isTold 2 (some .boolean) :: TBL) B.pre
  have hown : s.vm.findClass RXM = some m.cls := findClass_of_methodNamed B.named
  have hlocks := B.notSynchronized
  have hP : va_P (dC, dI) vwCl [(ma, .inr (5, [.int (jI mth), .int (jI mn), .ref a0, .int (jI mp), .int (jI mw), .ref a1, .ref a2, .ref a3, .ref a4, .ref a5, .ref a6, .ref a7, .ref a8, .ref a9, .ref a10, .long (jL mu), .long (jL md), .int (jI mo), .ref a11])), (a1, .inl (cZ, 62, .inl (jA y1)))] s.heap := hP
  have hl := lv_entry ([.ref ma, .int (jI z1)]) (n := 2) (Nat.le_of_ble_eq_true rfl)
  rw [lg_entry_eq]
  generalize (lg_sl ([.ref ma, .int (jI z1)]) ++ List.replicate (2 - (lg_sl ([.ref ma, .int (jI z1)])).length) Slot.unset).toArray = ls at hl ⊢
  have hl : lv_has ls 2 [(0, .ref ma), (1, .int (jI z1))] := hl
  refine lv_iload_n hx hb dXM_isTold_0 rfl (lv_at hl 1 rfl) ?_
  refine ji_iconst hx hb dXM_isTold_1 ?_
  refine ji_bipush hx hb dXM_isTold_2 (by decide) ?_
  refine jrSi (rest := []) ⟨hx, hb, hml, hown, hts⟩ (c_XM_in l dC dI cA cZ z1 1 30 (by first | assumption | omega) (by first | assumption | omega) (by first | assumption | omega)) (cwS 3 hts (jG_S tw_695 tw_696 tw_6 tw_697) rfl rfl rfl (by decide +kernel) (by rw [hR]; exact ⟨Nat.le_of_ble_eq_true rfl, Nat.le_of_ble_eq_true rfl⟩)) hK hP hN [] rfl rfl hl.1 rfl (Nat.le_of_ble_eq_true rfl) dXM_isTold_4 (by rw [hR]; exact ⟨Nat.le_of_ble_eq_true rfl, Nat.le_of_ble_eq_true rfl⟩) ?_
  have f := f_XM_in_b z1 1 30 (by first | assumption | omega) (by first | assumption | omega) (by first | assumption | omega)
  refine ji_if_eq (tgt := 23) hx hb dXM_isTold_7 (by decide) (by omega) (fun c7_ => ?_) (fun c7_ => ?_)
  · refine ji_iconst hx hb dXM_isTold_23 ?_
    subst hQ
    exact W.zret (v := jI 0) hx hb hr (by first | decide | exact jz (by omega)) (fun t ht hW => ⟨_, rfl, congrArg jI (Eq.trans (by rw [f_XM_isTold_s]; rw [if_pos c7_]; try rfl) rfl), ht⟩) (fun _ h => nomatch h) dXM_isTold_24
  · refine lv_aload_n hx hb dXM_isTold_10 rfl (lv_at hl 0 rfl) ?_
    refine va_get (D := (dC, dI)) (ci := 5) (v := .ref a1) (C := RXM) (T := TXM) (N := 19) hx hb hts (fun w h => jmem (inXM w h)) hown hK hP 0 rfl rfl 5 (by decide) (hts _ (jmem tw_633)) (fun _ h9 => h9) rfl dXM_isTold_11 ?_
    refine lv_iload_n hx hb dXM_isTold_14 rfl (lv_at hl 1 rfl) ?_
    refine ji_zald hx hb hK hP 1 1 rfl rfl ⟨by omega, by omega⟩ (by decide) dXM_isTold_15 ?_
    have rb := hy1 z1
    refine ji_if_eq (tgt := 23) hx hb dXM_isTold_16 (by decide) (by omega) (fun c16_ => ?_) (fun c16_ => ?_)
    · refine ji_iconst hx hb dXM_isTold_23 ?_
      subst hQ
      exact W.zret (v := jI 0) hx hb hr (by first | decide | exact jz (by omega)) (fun t ht hW => ⟨_, rfl, congrArg jI (Eq.trans (by rw [f_XM_isTold_s]; rw [if_neg c7_, if_pos c16_]; try rfl) rfl), ht⟩) (fun _ h => nomatch h) dXM_isTold_24
    · refine ji_iconst hx hb dXM_isTold_19 ?_
      refine lv_goto (tgt := 24) hx hb dXM_isTold_20 (by decide) ?_
      subst hQ
      exact W.zret (v := jI 1) hx hb hr (by first | decide | exact jz (by omega)) (fun t ht hW => ⟨_, rfl, congrArg jI (Eq.trans (by rw [f_XM_isTold_s]; rw [if_neg c7_, if_neg c16_]; try rfl) rfl), ht⟩) (fun _ h => nomatch h) dXM_isTold_24
noncomputable def g_XM_here (mth : Int) (mn : Int) (mp : Int) (mw : Int) (mu : Int) (md : Int) (mo : Int) (y0 : Int → Int) : Int :=
  if mp < mn then
    y0 mp
  else
    -1
noncomputable def f_XM_here : Int → Int → Int → Int → Int → Int → Int → (Int → Int) → Int := jopq g_XM_here
theorem f_XM_here_q : f_XM_here = g_XM_here := jopq_eq _
theorem f_XM_here_s (mth : Int) (mn : Int) (mp : Int) (mw : Int) (mu : Int) (md : Int) (mo : Int) (y0 : Int → Int) : f_XM_here mth mn mp mw mu md mo y0 = (
    if mp < mn then
      y0 mp
    else
      -1
  : Int) := by rw [f_XM_here_q]; rfl
theorem f_XM_here_b (mth : Int) (mn : Int) (mp : Int) (mw : Int) (mu : Int) (md : Int) (mo : Int) (y0 : Int → Int) (hy0 : ∀ i, 0 ≤ y0 i ∧ y0 i ≤ 255) (hmn : 0 ≤ mn ∧ mn ≤ 400) (hmp : 0 ≤ mp ∧ mp ≤ mn) : -1 ≤ (f_XM_here mth mn mp mw mu md mo y0) ∧ (f_XM_here mth mn mp mw mu md mo y0) ≤ 255 ∧ (0 ≤ (f_XM_here mth mn mp mw mu md mo y0) → mp < mn) := by have := hy0 mp; rw [f_XM_here_s]; (repeat' split) <;> omega
theorem f_XM_here_v (mth : Int) (mn : Int) (mp : Int) (mw : Int) (mu : Int) (md : Int) (mo : Int) (y0 : Int → Int) (hy0 : ∀ i, 0 ≤ y0 i ∧ y0 i ≤ 255) (hmn : 0 ≤ mn ∧ mn ≤ 400) (hmp : 0 ≤ mp ∧ mp ≤ mn) : (mp < mn ∧ (f_XM_here mth mn mp mw mu md mo y0) = y0 mp) ∨ (mp = mn ∧ (f_XM_here mth mn mp mw mu md mo y0) = -1) := by have := hy0 mp; rw [f_XM_here_s]; (repeat' split) <;> omega
set_option maxHeartbeats 4000000 in
set_option maxRecDepth 100000 in
theorem c_XM_here (l : Launch) (dC : Nat → ClassId) (dI : Nat → Nat → Nat) (cA cZ : ClassId) (ma : Nat) (a0 : Nat) (a1 : Nat) (a2 : Nat) (a3 : Nat) (a4 : Nat) (a5 : Nat) (a6 : Nat) (a7 : Nat) (a8 : Nat) (a9 : Nat) (a10 : Nat) (a11 : Nat) (mth : Int) (mn : Int) (mp : Int) (mw : Int) (mu : Int) (md : Int) (mo : Int) (y0 : Int → Int) (hy0 : ∀ i, 0 ≤ y0 i ∧ y0 i ≤ 255) (hmn : 0 ≤ mn ∧ mn ≤ 400) (hmp : 0 ≤ mp ∧ mp ≤ mn) : Met l yXM_here (Cond.code yXM_here cXM_here 1 (some .int) :: TBL) ({ frames := 0, cells := 0, slots := 0, locals := 0 } : Room) (va_Pc [.ref ma] (jB (dC, dI) [(cA, .int), (cZ, .boolean)] [(ma, .inr (5, [.int (jI mth), .int (jI mn), .ref a0, .int (jI mp), .int (jI mw), .ref a1, .ref a2, .ref a3, .ref a4, .ref a5, .ref a6, .ref a7, .ref a8, .ref a9, .ref a10, .long (jL mu), .long (jL md), .int (jI mo), .ref a11])), (a0, .inl (cA, 400, .inl (jA y0)))])) (vp_Si (fun r => r = jI (f_XM_here mth mn mp mw mu md mo y0))) 0 0 (fun _ => False) := by
  refine jMet (cc := cXM_here) (maxL := 1) (ret := some .int) (by decide) rfl ?_
  intro p e s m args below meth c s₁ R Q hR hQ B hml hv
  obtain ⟨rfl, hP, hK, hN⟩ := hv
  have hx := B.exec
  have hb := B.bytes
  have hr := B.returns
  have hts := atoms_spec (ws := Cond.code yXM_here cXM_here 1 (some .int) :: TBL) B.pre
  have hown : s.vm.findClass RXM = some m.cls := findClass_of_methodNamed B.named
  have hlocks := B.notSynchronized
  have hP : va_P (dC, dI) vwCl [(ma, .inr (5, [.int (jI mth), .int (jI mn), .ref a0, .int (jI mp), .int (jI mw), .ref a1, .ref a2, .ref a3, .ref a4, .ref a5, .ref a6, .ref a7, .ref a8, .ref a9, .ref a10, .long (jL mu), .long (jL md), .int (jI mo), .ref a11])), (a0, .inl (cA, 400, .inl (jA y0)))] s.heap := hP
  have hl := lv_entry ([.ref ma]) (n := 1) (Nat.le_of_ble_eq_true rfl)
  rw [lg_entry_eq]
  generalize (lg_sl ([.ref ma]) ++ List.replicate (1 - (lg_sl ([.ref ma])).length) Slot.unset).toArray = ls at hl ⊢
  have hl : lv_has ls 1 [(0, .ref ma)] := hl
  refine lv_aload_n hx hb dXM_here_0 rfl (lv_at hl 0 rfl) ?_
  refine va_get (D := (dC, dI)) (ci := 5) (v := .int (jI mp)) (C := RXM) (T := TXM) (N := 19) hx hb hts (fun w h => jmem (inXM w h)) hown hK hP 0 rfl rfl 3 (by decide) (hts _ (jmem tw_631)) (fun _ h9 => h9) rfl dXM_here_1 ?_
  refine lv_aload_n hx hb dXM_here_4 rfl (lv_at hl 0 rfl) ?_
  refine va_get (D := (dC, dI)) (ci := 5) (v := .int (jI mn)) (C := RXM) (T := TXM) (N := 19) hx hb hts (fun w h => jmem (inXM w h)) hown hK hP 0 rfl rfl 1 (by decide) (hts _ (jmem tw_629)) (fun _ h9 => h9) rfl dXM_here_5 ?_
  refine ji_icmp_ge (tgt := 23) hx hb dXM_here_8 (by decide) (by omega) (by omega) (fun c8_ => ?_) (fun c8_ => ?_)
  · refine ji_iconst hx hb dXM_here_23 ?_
    subst hQ
    exact W.iret (v := jI (-1)) hx hb hr (fun t ht hW => ⟨_, rfl, congrArg jI (Eq.trans (by rw [f_XM_here_s]; rw [if_neg (Int.not_lt.mpr c8_)]; try rfl) rfl), ht⟩) (fun _ h => nomatch h) dXM_here_24
  · refine lv_aload_n hx hb dXM_here_11 rfl (lv_at hl 0 rfl) ?_
    refine va_get (D := (dC, dI)) (ci := 5) (v := .ref a0) (C := RXM) (T := TXM) (N := 19) hx hb hts (fun w h => jmem (inXM w h)) hown hK hP 0 rfl rfl 2 (by decide) (hts _ (jmem tw_630)) (fun _ h9 => h9) rfl dXM_here_12 ?_
    refine lv_aload_n hx hb dXM_here_15 rfl (lv_at hl 0 rfl) ?_
    refine va_get (D := (dC, dI)) (ci := 5) (v := .int (jI mp)) (C := RXM) (T := TXM) (N := 19) hx hb hts (fun w h => jmem (inXM w h)) hown hK hP 0 rfl rfl 3 (by decide) (hts _ (jmem tw_631)) (fun _ h9 => h9) rfl dXM_here_16 ?_
    refine ji_iald hx hb hK hP 1 0 rfl rfl ⟨by omega, by omega⟩ (by decide) dXM_here_19 ?_
    have rb := hy0 mp
    refine lv_goto (tgt := 24) hx hb dXM_here_20 (by decide) ?_
    subst hQ
    exact W.iret (v := jI (y0 mp)) hx hb hr (fun t ht hW => ⟨_, rfl, congrArg jI (Eq.trans (by rw [f_XM_here_s]; rw [if_pos c8_]; try rfl) rfl), ht⟩) (fun _ h => nomatch h) dXM_here_24
set_option maxHeartbeats 4000000 in
set_option maxRecDepth 100000 in
theorem c_XM_goes (l : Launch) (dC : Nat → ClassId) (dI : Nat → Nat → Nat) (cA cZ : ClassId) (sz : Nat) (ma : Nat) (a0 : Nat) (a1 : Nat) (a2 : Nat) (a3 : Nat) (a4 : Nat) (a5 : Nat) (a6 : Nat) (a7 : Nat) (a8 : Nat) (a9 : Nat) (a10 : Nat) (a11 : Nat) (mth : Int) (mn : Int) (mp : Int) (mw : Int) (mu : Int) (md : Int) (mo : Int) (z1 : Int) (z2 : Int) (h1 : 0 ≤ z1 ∧ z1 ≤ 1) (h2 : 0 ≤ z2 ∧ z2 ≤ 1) : Met l yXM_goes (Cond.code yXM_goes cXM_goes 3 (some .boolean) :: TBL) ({ frames := 0, cells := 0, slots := 0, locals := 0 } : Room) (va_Pc [.ref ma, .int (jI z1), .int (jI z2)] (jBw (dC, dI) [(cA, .int), (cZ, .boolean)] [(ma, .inr (5, [.int (jI mth), .int (jI mn), .ref a0, .int (jI mp), .int (jI mw), .ref a1, .ref a2, .ref a3, .ref a4, .ref a5, .ref a6, .ref a7, .ref a8, .ref a9, .ref a10, .long (jL mu), .long (jL md), .int (jI mo), .ref a11]))] sz)) (va_Qi (fun (r : Int32) (u : Int × Int) => r = jI u.1 ∧ ((u.1 = 0 ∧ u.2 = 1 ∧ z1 = 0) ∨ (u.1 = 0 ∧ u.2 = 2 ∧ z1 = 1 ∧ z2 = 0) ∨ (u.1 = 1 ∧ u.2 = 0 ∧ z1 = 1 ∧ z2 = 1))) (fun u t => jE (dC, dI) [(cA, .int), (cZ, .boolean)] [(ma, .inr (5, [.int (jI mth), .int (jI mn), .ref a0, .int (jI mp), .int (jI mw), .ref a1, .ref a2, .ref a3, .ref a4, .ref a5, .ref a6, .ref a7, .ref a8, .ref a9, .ref a10, .long (jL mu), .long (jL md), .int (jI mo), .ref a11]))] sz [(ma, .inr (5, [.int (jI u.2), .int (jI mn), .ref a0, .int (jI mp), .int (jI mw), .ref a1, .ref a2, .ref a3, .ref a4, .ref a5, .ref a6, .ref a7, .ref a8, .ref a9, .ref a10, .long (jL mu), .long (jL md), .int (jI mo), .ref a11]))] t) (va_A [(ma, .inr (5, [.int (jI mth), .int (jI mn), .ref a0, .int (jI mp), .int (jI mw), .ref a1, .ref a2, .ref a3, .ref a4, .ref a5, .ref a6, .ref a7, .ref a8, .ref a9, .ref a10, .long (jL mu), .long (jL md), .int (jI mo), .ref a11]))] sz)) 0 0 (va_A [(ma, .inr (5, [.int (jI mth), .int (jI mn), .ref a0, .int (jI mp), .int (jI mw), .ref a1, .ref a2, .ref a3, .ref a4, .ref a5, .ref a6, .ref a7, .ref a8, .ref a9, .ref a10, .long (jL mu), .long (jL md), .int (jI mo), .ref a11]))] sz) := by
  refine jMet (cc := cXM_goes) (maxL := 3) (ret := some .boolean) (by decide) rfl ?_
  intro p e s m args below meth c s₁ R Q hR hQ B hml hv
  obtain ⟨rfl, hsz, hP, hK, hD0, hN⟩ := hv
  have hx := B.exec
  have hb := B.bytes
  have hr := B.returns
  have hts := atoms_spec (ws := Cond.code yXM_goes cXM_goes 3 (some .boolean) :: TBL) B.pre
  have hown : s.vm.findClass RXM = some m.cls := findClass_of_methodNamed B.named
  have hlocks := B.notSynchronized
  subst hsz
  obtain ⟨A, hAe⟩ : ∃ A, A = va_A [(ma, .inr (5, [.int (jI mth), .int (jI mn), .ref a0, .int (jI mp), .int (jI mw), .ref a1, .ref a2, .ref a3, .ref a4, .ref a5, .ref a6, .ref a7, .ref a8, .ref a9, .ref a10, .long (jL mu), .long (jL md), .int (jI mo), .ref a11]))] s.heap.size := ⟨_, rfl⟩
  have hD : va_D A [(ma, .inr (5, [.int (jI mth), .int (jI mn), .ref a0, .int (jI mp), .int (jI mw), .ref a1, .ref a2, .ref a3, .ref a4, .ref a5, .ref a6, .ref a7, .ref a8, .ref a9, .ref a10, .long (jL mu), .long (jL md), .int (jI mo), .ref a11]))] := by rw [hAe]; exact hD0.self
  have hA : ∀ q : Nat, s.heap.size ≤ q → A q := fun q h => by rw [hAe]; exact Or.inr h
  have hS : va_S A s.heap s.heap [] := va_S.rf
  have hP : va_P (dC, dI) vwCl [(ma, .inr (5, [.int (jI mth), .int (jI mn), .ref a0, .int (jI mp), .int (jI mw), .ref a1, .ref a2, .ref a3, .ref a4, .ref a5, .ref a6, .ref a7, .ref a8, .ref a9, .ref a10, .long (jL mu), .long (jL md), .int (jI mo), .ref a11]))] s.heap := hP
  have hl := lv_entry ([.ref ma, .int (jI z1), .int (jI z2)]) (n := 3) (Nat.le_of_ble_eq_true rfl)
  rw [lg_entry_eq]
  generalize (lg_sl ([.ref ma, .int (jI z1), .int (jI z2)]) ++ List.replicate (3 - (lg_sl ([.ref ma, .int (jI z1), .int (jI z2)])).length) Slot.unset).toArray = ls at hl ⊢
  have hl : lv_has ls 3 [(0, .ref ma), (1, .int (jI z1)), (2, .int (jI z2))] := hl
  refine lv_aload_n hx hb dXM_goes_0 rfl (lv_at hl 0 rfl) ?_
  refine lv_iload_n hx hb dXM_goes_1 rfl (lv_at hl 1 rfl) ?_
  refine ji_if_ne (tgt := 9) hx hb dXM_goes_2 (by decide) (by first | omega | decide) (fun c2_ => ?_) (fun c2_ => ?_)
  · refine lv_iload_n hx hb dXM_goes_9 rfl (lv_at hl 2 rfl) ?_
    refine ji_if_ne (tgt := 17) hx hb dXM_goes_10 (by decide) (by first | omega | decide) (fun c10_ => ?_) (fun c10_ => ?_)
    · refine ji_iconst hx hb dXM_goes_17 ?_
      refine va_put (D := (dC, dI)) (ci := 5) (v := .int (jI 0)) (ty := (.int)) (C := RXM) (T := TXM) (N := 19) hx hb hts (fun w h => jmem (inXM w h)) tyXM tyXM_ok nXM hown hK hP hD hS 0 rfl rfl 0 (by decide) (hts _ (jmem tw_628)) (fun _ h9 => h9) rfl (by decide +kernel) rfl rfl (Nat.le_of_ble_eq_true rfl) dXM_goes_18 (fun H locs hP hD hS => ?_)
      have hP : va_P (dC, dI) vwCl [(ma, .inr (5, [.int (jI 0), .int (jI mn), .ref a0, .int (jI mp), .int (jI mw), .ref a1, .ref a2, .ref a3, .ref a4, .ref a5, .ref a6, .ref a7, .ref a8, .ref a9, .ref a10, .long (jL mu), .long (jL md), .int (jI mo), .ref a11]))] H := hP
      have hD : va_D A [(ma, .inr (5, [.int (jI 0), .int (jI mn), .ref a0, .int (jI mp), .int (jI mw), .ref a1, .ref a2, .ref a3, .ref a4, .ref a5, .ref a6, .ref a7, .ref a8, .ref a9, .ref a10, .long (jL mu), .long (jL md), .int (jI mo), .ref a11]))] := hD
      refine lv_aload_n hx hb dXM_goes_21 rfl (lv_at hl 0 rfl) ?_
      refine va_get (D := (dC, dI)) (ci := 5) (v := .int (jI 0)) (C := RXM) (T := TXM) (N := 19) hx hb hts (fun w h => jmem (inXM w h)) hown hK hP 0 rfl rfl 0 (by decide) (hts _ (jmem tw_628)) (fun _ h9 => h9) rfl dXM_goes_22 ?_
      refine ji_if_ne (tgt := 32) hx hb dXM_goes_25 (by decide) (by first | omega | decide) (fun c25_ => absurd c25_ (by decide)) (fun c25_ => ?_)
      refine ji_iconst hx hb dXM_goes_28 ?_
      refine lv_goto (tgt := 33) hx hb dXM_goes_29 (by decide) ?_
      have hP9 := hP.sub (ws' := [(ma, .inr (5, [.int (jI 0), .int (jI mn), .ref a0, .int (jI mp), .int (jI mw), .ref a1, .ref a2, .ref a3, .ref a4, .ref a5, .ref a6, .ref a7, .ref a8, .ref a9, .ref a10, .long (jL mu), .long (jL md), .int (jI mo), .ref a11]))]) [0] rfl
      have hD9 := hD.sub (ws' := [(ma, .inr (5, [.int (jI 0), .int (jI mn), .ref a0, .int (jI mp), .int (jI mw), .ref a1, .ref a2, .ref a3, .ref a4, .ref a5, .ref a6, .ref a7, .ref a8, .ref a9, .ref a10, .long (jL mu), .long (jL md), .int (jI mo), .ref a11]))]) [0] (by decide) rfl
      subst hAe
      subst hQ
      exact W.zret (v := jI 1) hx hb hr (by first | decide | exact jz (by omega)) (fun t ht hW => ⟨⟨_, (1, 0), rfl, ⟨rfl, (show ((1 : Int) = 0 ∧ (0 : Int) = 1 ∧ z1 = 0) ∨ ((1 : Int) = 0 ∧ (0 : Int) = 2 ∧ z1 = 1 ∧ z2 = 0) ∨ ((1 : Int) = 1 ∧ (0 : Int) = 0 ∧ z1 = 1 ∧ z2 = 1) from by first | assumption | omega | exact jset_b (by assumption) (by omega))⟩, ⟨by rw [ht]; exact hP9, va_K.moved hW.alike hK, hD9⟩⟩, hS.F ht⟩) hS.2.2 dXM_goes_33
    · refine ji_iconst hx hb dXM_goes_13 ?_
      refine lv_goto (tgt := 18) hx hb dXM_goes_14 (by decide) ?_
      refine va_put (D := (dC, dI)) (ci := 5) (v := .int (jI 2)) (ty := (.int)) (C := RXM) (T := TXM) (N := 19) hx hb hts (fun w h => jmem (inXM w h)) tyXM tyXM_ok nXM hown hK hP hD hS 0 rfl rfl 0 (by decide) (hts _ (jmem tw_628)) (fun _ h9 => h9) rfl (by decide +kernel) rfl rfl (Nat.le_of_ble_eq_true rfl) dXM_goes_18 (fun H locs hP hD hS => ?_)
      have hP : va_P (dC, dI) vwCl [(ma, .inr (5, [.int (jI 2), .int (jI mn), .ref a0, .int (jI mp), .int (jI mw), .ref a1, .ref a2, .ref a3, .ref a4, .ref a5, .ref a6, .ref a7, .ref a8, .ref a9, .ref a10, .long (jL mu), .long (jL md), .int (jI mo), .ref a11]))] H := hP
      have hD : va_D A [(ma, .inr (5, [.int (jI 2), .int (jI mn), .ref a0, .int (jI mp), .int (jI mw), .ref a1, .ref a2, .ref a3, .ref a4, .ref a5, .ref a6, .ref a7, .ref a8, .ref a9, .ref a10, .long (jL mu), .long (jL md), .int (jI mo), .ref a11]))] := hD
      refine lv_aload_n hx hb dXM_goes_21 rfl (lv_at hl 0 rfl) ?_
      refine va_get (D := (dC, dI)) (ci := 5) (v := .int (jI 2)) (C := RXM) (T := TXM) (N := 19) hx hb hts (fun w h => jmem (inXM w h)) hown hK hP 0 rfl rfl 0 (by decide) (hts _ (jmem tw_628)) (fun _ h9 => h9) rfl dXM_goes_22 ?_
      refine ji_if_ne (tgt := 32) hx hb dXM_goes_25 (by decide) (by first | omega | decide) (fun c25_1 => ?_) (fun c25_1 => absurd c25_1 (by decide))
      refine ji_iconst hx hb dXM_goes_32 ?_
      have hP9 := hP.sub (ws' := [(ma, .inr (5, [.int (jI 2), .int (jI mn), .ref a0, .int (jI mp), .int (jI mw), .ref a1, .ref a2, .ref a3, .ref a4, .ref a5, .ref a6, .ref a7, .ref a8, .ref a9, .ref a10, .long (jL mu), .long (jL md), .int (jI mo), .ref a11]))]) [0] rfl
      have hD9 := hD.sub (ws' := [(ma, .inr (5, [.int (jI 2), .int (jI mn), .ref a0, .int (jI mp), .int (jI mw), .ref a1, .ref a2, .ref a3, .ref a4, .ref a5, .ref a6, .ref a7, .ref a8, .ref a9, .ref a10, .long (jL mu), .long (jL md), .int (jI mo), .ref a11]))]) [0] (by decide) rfl
      subst hAe
      subst hQ
      exact W.zret (v := jI 0) hx hb hr (by first | decide | exact jz (by omega)) (fun t ht hW => ⟨⟨_, (0, 2), rfl, ⟨rfl, (show ((0 : Int) = 0 ∧ (2 : Int) = 1 ∧ z1 = 0) ∨ ((0 : Int) = 0 ∧ (2 : Int) = 2 ∧ z1 = 1 ∧ z2 = 0) ∨ ((0 : Int) = 1 ∧ (2 : Int) = 0 ∧ z1 = 1 ∧ z2 = 1) from by first | assumption | omega | exact jset_b (by assumption) (by omega))⟩, ⟨by rw [ht]; exact hP9, va_K.moved hW.alike hK, hD9⟩⟩, hS.F ht⟩) hS.2.2 dXM_goes_33
  · refine ji_iconst hx hb dXM_goes_5 ?_
    refine lv_goto (tgt := 18) hx hb dXM_goes_6 (by decide) ?_
    refine va_put (D := (dC, dI)) (ci := 5) (v := .int (jI 1)) (ty := (.int)) (C := RXM) (T := TXM) (N := 19) hx hb hts (fun w h => jmem (inXM w h)) tyXM tyXM_ok nXM hown hK hP hD hS 0 rfl rfl 0 (by decide) (hts _ (jmem tw_628)) (fun _ h9 => h9) rfl (by decide +kernel) rfl rfl (Nat.le_of_ble_eq_true rfl) dXM_goes_18 (fun H locs hP hD hS => ?_)
    have hP : va_P (dC, dI) vwCl [(ma, .inr (5, [.int (jI 1), .int (jI mn), .ref a0, .int (jI mp), .int (jI mw), .ref a1, .ref a2, .ref a3, .ref a4, .ref a5, .ref a6, .ref a7, .ref a8, .ref a9, .ref a10, .long (jL mu), .long (jL md), .int (jI mo), .ref a11]))] H := hP
    have hD : va_D A [(ma, .inr (5, [.int (jI 1), .int (jI mn), .ref a0, .int (jI mp), .int (jI mw), .ref a1, .ref a2, .ref a3, .ref a4, .ref a5, .ref a6, .ref a7, .ref a8, .ref a9, .ref a10, .long (jL mu), .long (jL md), .int (jI mo), .ref a11]))] := hD
    refine lv_aload_n hx hb dXM_goes_21 rfl (lv_at hl 0 rfl) ?_
    refine va_get (D := (dC, dI)) (ci := 5) (v := .int (jI 1)) (C := RXM) (T := TXM) (N := 19) hx hb hts (fun w h => jmem (inXM w h)) hown hK hP 0 rfl rfl 0 (by decide) (hts _ (jmem tw_628)) (fun _ h9 => h9) rfl dXM_goes_22 ?_
    refine ji_if_ne (tgt := 32) hx hb dXM_goes_25 (by decide) (by first | omega | decide) (fun c25_2 => ?_) (fun c25_2 => absurd c25_2 (by decide))
    refine ji_iconst hx hb dXM_goes_32 ?_
    have hP9 := hP.sub (ws' := [(ma, .inr (5, [.int (jI 1), .int (jI mn), .ref a0, .int (jI mp), .int (jI mw), .ref a1, .ref a2, .ref a3, .ref a4, .ref a5, .ref a6, .ref a7, .ref a8, .ref a9, .ref a10, .long (jL mu), .long (jL md), .int (jI mo), .ref a11]))]) [0] rfl
    have hD9 := hD.sub (ws' := [(ma, .inr (5, [.int (jI 1), .int (jI mn), .ref a0, .int (jI mp), .int (jI mw), .ref a1, .ref a2, .ref a3, .ref a4, .ref a5, .ref a6, .ref a7, .ref a8, .ref a9, .ref a10, .long (jL mu), .long (jL md), .int (jI mo), .ref a11]))]) [0] (by decide) rfl
    subst hAe
    subst hQ
    exact W.zret (v := jI 0) hx hb hr (by first | decide | exact jz (by omega)) (fun t ht hW => ⟨⟨_, (0, 1), rfl, ⟨rfl, (show ((0 : Int) = 0 ∧ (1 : Int) = 1 ∧ z1 = 0) ∨ ((0 : Int) = 0 ∧ (1 : Int) = 2 ∧ z1 = 1 ∧ z2 = 0) ∨ ((0 : Int) = 1 ∧ (1 : Int) = 0 ∧ z1 = 1 ∧ z2 = 1) from by first | assumption | omega | exact jset_b (by assumption) (by omega))⟩, ⟨by rw [ht]; exact hP9, va_K.moved hW.alike hK, hD9⟩⟩, hS.F ht⟩) hS.2.2 dXM_goes_33
end
section
theorem jand255 (x : Int32) : 0 ≤ (x &&& jI 255).toInt ∧ (x &&& jI 255).toInt ≤ 255 := by
  have h : (x &&& jI 255).toInt = ((x.toBitVec &&& 255#32).toNat : Int) := by
    have h1 : (x &&& jI 255).toBitVec = x.toBitVec &&& 255#32 := rfl
    have h2 : (x.toBitVec &&& 255#32).toNat < 256 := by
      rw [BitVec.toNat_and]
      exact Nat.lt_of_le_of_lt Nat.and_le_right (by decide)
    show (x &&& jI 255).toBitVec.toInt = _
    rw [h1, BitVec.toInt_eq_toNat_of_lt (by omega)]
  have h2 : (x.toBitVec &&& 255#32).toNat ≤ 255 := by
    rw [BitVec.toNat_and]
    exact Nat.and_le_right
  omega
set_option maxHeartbeats 4000000 in
set_option maxRecDepth 100000 in
theorem c_XM_at (l : Launch) (dC : Nat → ClassId) (dI : Nat → Nat → Nat) (cA cZ : ClassId) (sz : Nat) (ma : Nat) (a0 : Nat) (a1 : Nat) (a2 : Nat) (a3 : Nat) (a4 : Nat) (a5 : Nat) (a6 : Nat) (a7 : Nat) (a8 : Nat) (a9 : Nat) (a10 : Nat) (a11 : Nat) (mth : Int) (mn : Int) (mp : Int) (mw : Int) (mu : Int) (md : Int) (mo : Int) (y11 : Int → Int) (z1 : Int) (hmo : 0 ≤ mo ∧ mo ≤ 300) (hi1 : i32 z1) : Met l yXM_at (Cond.code yXM_at cXM_at 2 (some .int) :: TBL) ({ frames := 1, cells := 0, slots := 0, locals := 22 } : Room) (va_Pc [.ref ma, .int (jI z1)] (jBw (dC, dI) [(cA, .int), (cZ, .boolean)] [(ma, .inr (5, [.int (jI mth), .int (jI mn), .ref a0, .int (jI mp), .int (jI mw), .ref a1, .ref a2, .ref a3, .ref a4, .ref a5, .ref a6, .ref a7, .ref a8, .ref a9, .ref a10, .long (jL mu), .long (jL md), .int (jI mo), .ref a11])), (a11, .inl (cA, 300, .inl (jA y11)))] sz)) (va_Qi (fun (r : Int32) (u : Int × Int) => r = jI u.1 ∧ ((u.2 = 1 ∧ z1 < 0) ∨ (u.2 = 0 ∧ 0 ≤ z1)) ∧ (mo = 0 → 0 ≤ z1 → u.1 = -1)) (fun u t => jE (dC, dI) [(cA, .int), (cZ, .boolean)] [(ma, .inr (5, [.int (jI mth), .int (jI mn), .ref a0, .int (jI mp), .int (jI mw), .ref a1, .ref a2, .ref a3, .ref a4, .ref a5, .ref a6, .ref a7, .ref a8, .ref a9, .ref a10, .long (jL mu), .long (jL md), .int (jI mo), .ref a11])), (a11, .inl (cA, 300, .inl (jA y11)))] sz [(ma, .inr (5, [.int (jI u.2), .int (jI mn), .ref a0, .int (jI mp), .int (jI mw), .ref a1, .ref a2, .ref a3, .ref a4, .ref a5, .ref a6, .ref a7, .ref a8, .ref a9, .ref a10, .long (jL mu), .long (jL md), .int (jI mo), .ref a11])), (a11, .inl (cA, 300, .inl (jA y11)))] t) (va_A [(ma, .inr (5, [.int (jI mth), .int (jI mn), .ref a0, .int (jI mp), .int (jI mw), .ref a1, .ref a2, .ref a3, .ref a4, .ref a5, .ref a6, .ref a7, .ref a8, .ref a9, .ref a10, .long (jL mu), .long (jL md), .int (jI mo), .ref a11])), (a11, .inl (cA, 300, .inl (jA y11)))] sz)) 0 0 (va_A [(ma, .inr (5, [.int (jI mth), .int (jI mn), .ref a0, .int (jI mp), .int (jI mw), .ref a1, .ref a2, .ref a3, .ref a4, .ref a5, .ref a6, .ref a7, .ref a8, .ref a9, .ref a10, .long (jL mu), .long (jL md), .int (jI mo), .ref a11])), (a11, .inl (cA, 300, .inl (jA y11)))] sz) := by
  refine jMet (cc := cXM_at) (maxL := 2) (ret := some .int) (by decide) rfl ?_
  intro p e s m args below meth c s₁ R Q hR hQ B hml hv
  obtain ⟨rfl, hsz, hP, hK, hD0, hN⟩ := hv
  have hx := B.exec
  have hb := B.bytes
  have hr := B.returns
  have hts := atoms_spec (ws := Cond.code yXM_at cXM_at 2 (some .int) :: TBL) B.pre
  have hown : s.vm.findClass RXM = some m.cls := findClass_of_methodNamed B.named
  have hlocks := B.notSynchronized
  subst hsz
  obtain ⟨A, hAe⟩ : ∃ A, A = va_A [(ma, .inr (5, [.int (jI mth), .int (jI mn), .ref a0, .int (jI mp), .int (jI mw), .ref a1, .ref a2, .ref a3, .ref a4, .ref a5, .ref a6, .ref a7, .ref a8, .ref a9, .ref a10, .long (jL mu), .long (jL md), .int (jI mo), .ref a11])), (a11, .inl (cA, 300, .inl (jA y11)))] s.heap.size := ⟨_, rfl⟩
  have hD : va_D A [(ma, .inr (5, [.int (jI mth), .int (jI mn), .ref a0, .int (jI mp), .int (jI mw), .ref a1, .ref a2, .ref a3, .ref a4, .ref a5, .ref a6, .ref a7, .ref a8, .ref a9, .ref a10, .long (jL mu), .long (jL md), .int (jI mo), .ref a11])), (a11, .inl (cA, 300, .inl (jA y11)))] := by rw [hAe]; exact hD0.self
  have hA : ∀ q : Nat, s.heap.size ≤ q → A q := fun q h => by rw [hAe]; exact Or.inr h
  have hS : va_S A s.heap s.heap [] := va_S.rf
  have hP : va_P (dC, dI) vwCl [(ma, .inr (5, [.int (jI mth), .int (jI mn), .ref a0, .int (jI mp), .int (jI mw), .ref a1, .ref a2, .ref a3, .ref a4, .ref a5, .ref a6, .ref a7, .ref a8, .ref a9, .ref a10, .long (jL mu), .long (jL md), .int (jI mo), .ref a11])), (a11, .inl (cA, 300, .inl (jA y11)))] s.heap := hP
  have hl := lv_entry ([.ref ma, .int (jI z1)]) (n := 2) (Nat.le_of_ble_eq_true rfl)
  rw [lg_entry_eq]
  generalize (lg_sl ([.ref ma, .int (jI z1)]) ++ List.replicate (2 - (lg_sl ([.ref ma, .int (jI z1)])).length) Slot.unset).toArray = ls at hl ⊢
  have hl : lv_has ls 2 [(0, .ref ma), (1, .int (jI z1))] := hl
  refine lv_aload_n hx hb dXM_at_0 rfl (lv_at hl 0 rfl) ?_
  refine lv_iload_n hx hb dXM_at_1 rfl (lv_at hl 1 rfl) ?_
  refine ji_if_lt (tgt := 9) hx hb dXM_at_2 (by decide) (by first | omega | decide) (fun c2_ => ?_) (fun c2_ => ?_)
  · refine ji_iconst hx hb dXM_at_9 ?_
    refine ji_iconst hx hb dXM_at_10 ?_
    refine jwVi (rest := []) (wr := [(a11, .inl (cA, 300, .inl (jA y11)))]) ⟨hx, hb, hml, hown, hts⟩ (c_XM_goes l dC dI cA cZ _ ma a0 a1 a2 a3 a4 a5 a6 a7 a8 a9 a10 a11 mth mn mp mw mu md mo 0 1 (by first | assumption | omega | exact jset_b (by assumption) (by omega)) (by first | assumption | omega | exact jset_b (by assumption) (by omega))) (cwV 2 hts (jG_V tw_698 tw_700 ts_14 tw_6 tw_701) rfl rfl rfl (by decide +kernel) (by rw [hR]; exact ⟨Nat.le_of_ble_eq_true rfl, Nat.le_of_ble_eq_true rfl⟩)) hK hP hD hS hA hN [0] [1] rfl rfl (by decide) (by decide) (by decide) 0 5 rfl rfl rfl rfl hl.1 rfl (Nat.le_of_ble_eq_true rfl) dXM_at_11 (by rw [hR]; exact ⟨Nat.le_of_ble_eq_true rfl, Nat.le_of_ble_eq_true rfl⟩) (fun v u H locs hwb hP hD hS => ?_)
    obtain ⟨r, mth1'⟩ := u
    try dsimp only at hwb
    obtain ⟨er, f⟩ := hwb
    subst er
    have f : (r = 0 ∧ mth1' = 1 ∧ (0 : Int) = 0) ∨ (r = 0 ∧ mth1' = 2 ∧ (0 : Int) = 1 ∧ (1 : Int) = 0) ∨ (r = 1 ∧ mth1' = 0 ∧ (0 : Int) = 1 ∧ (1 : Int) = 1) := f
    have hP : va_P (dC, dI) vwCl [(a11, .inl (cA, 300, .inl (jA y11))), (ma, .inr (5, [.int (jI mth1'), .int (jI mn), .ref a0, .int (jI mp), .int (jI mw), .ref a1, .ref a2, .ref a3, .ref a4, .ref a5, .ref a6, .ref a7, .ref a8, .ref a9, .ref a10, .long (jL mu), .long (jL md), .int (jI mo), .ref a11]))] H := hP
    have hD : va_D A [(a11, .inl (cA, 300, .inl (jA y11))), (ma, .inr (5, [.int (jI mth1'), .int (jI mn), .ref a0, .int (jI mp), .int (jI mw), .ref a1, .ref a2, .ref a3, .ref a4, .ref a5, .ref a6, .ref a7, .ref a8, .ref a9, .ref a10, .long (jL mu), .long (jL md), .int (jI mo), .ref a11]))] := hD
    refine ji_if_ne (tgt := 19) hx hb dXM_at_14 (by decide) (by first | omega | decide) (fun c14_ => ?_) (fun c14_ => ?_)
    · refine lv_iload_n hx hb dXM_at_19 rfl (lv_at hl 1 rfl) ?_
      refine lv_aload_n hx hb dXM_at_20 rfl (lv_at hl 0 rfl) ?_
      refine va_get (D := (dC, dI)) (ci := 5) (v := .int (jI mo)) (C := RXM) (T := TXM) (N := 19) hx hb hts (fun w h => jmem (inXM w h)) hown hK hP 1 rfl rfl 17 (by decide) (hts _ (jmem tw_645)) (fun _ h9 => h9) rfl dXM_at_21 ?_
      refine ji_icmp_ge (tgt := 36) hx hb dXM_at_24 (by decide) (by first | omega | decide) (by first | omega | decide) (fun c24_ => ?_) (fun c24_ => ?_)
      · refine ji_iconst hx hb dXM_at_36 ?_
        have hP9 := hP.sub (ws' := [(ma, .inr (5, [.int (jI mth1'), .int (jI mn), .ref a0, .int (jI mp), .int (jI mw), .ref a1, .ref a2, .ref a3, .ref a4, .ref a5, .ref a6, .ref a7, .ref a8, .ref a9, .ref a10, .long (jL mu), .long (jL md), .int (jI mo), .ref a11])), (a11, .inl (cA, 300, .inl (jA y11)))]) [1, 0] rfl
        have hD9 := hD.sub (ws' := [(ma, .inr (5, [.int (jI mth1'), .int (jI mn), .ref a0, .int (jI mp), .int (jI mw), .ref a1, .ref a2, .ref a3, .ref a4, .ref a5, .ref a6, .ref a7, .ref a8, .ref a9, .ref a10, .long (jL mu), .long (jL md), .int (jI mo), .ref a11])), (a11, .inl (cA, 300, .inl (jA y11)))]) [1, 0] (by decide) rfl
        subst hAe
        subst hQ
        exact W.iret (v := jI (-1)) hx hb hr (fun t ht hW => ⟨⟨_, (-1, mth1'), rfl, ⟨rfl, (show (mth1' = 1 ∧ z1 < 0) ∨ (mth1' = 0 ∧ 0 ≤ z1) from by first | assumption | omega | exact jset_b (by assumption) (by omega)), (show mo = 0 → 0 ≤ z1 → (-1 : Int) = -1 from by first | assumption | omega | exact jset_b (by assumption) (by omega))⟩, ⟨by rw [ht]; exact hP9, va_K.moved hW.alike hK, hD9⟩⟩, hS.F ht⟩) hS.2.2 dXM_at_37
      · refine lv_aload_n hx hb dXM_at_27 rfl (lv_at hl 0 rfl) ?_
        refine va_get (D := (dC, dI)) (ci := 5) (v := .ref a11) (C := RXM) (T := TXM) (N := 19) hx hb hts (fun w h => jmem (inXM w h)) hown hK hP 1 rfl rfl 18 (by decide) (hts _ (jmem tw_646)) (fun _ h9 => h9) rfl dXM_at_28 ?_
        refine lv_iload_n hx hb dXM_at_31 rfl (lv_at hl 1 rfl) ?_
        refine ji_iald hx hb hK hP 0 0 rfl rfl ⟨by omega, by omega⟩ (by decide) dXM_at_32 ?_
        refine lv_goto (tgt := 37) hx hb dXM_at_33 (by decide) ?_
        have hP9 := hP.sub (ws' := [(ma, .inr (5, [.int (jI mth1'), .int (jI mn), .ref a0, .int (jI mp), .int (jI mw), .ref a1, .ref a2, .ref a3, .ref a4, .ref a5, .ref a6, .ref a7, .ref a8, .ref a9, .ref a10, .long (jL mu), .long (jL md), .int (jI mo), .ref a11])), (a11, .inl (cA, 300, .inl (jA y11)))]) [1, 0] rfl
        have hD9 := hD.sub (ws' := [(ma, .inr (5, [.int (jI mth1'), .int (jI mn), .ref a0, .int (jI mp), .int (jI mw), .ref a1, .ref a2, .ref a3, .ref a4, .ref a5, .ref a6, .ref a7, .ref a8, .ref a9, .ref a10, .long (jL mu), .long (jL md), .int (jI mo), .ref a11])), (a11, .inl (cA, 300, .inl (jA y11)))]) [1, 0] (by decide) rfl
        subst hAe
        subst hQ
        exact W.iret (v := jI (y11 z1)) hx hb hr (fun t ht hW => ⟨⟨_, (y11 z1, mth1'), rfl, ⟨rfl, (show (mth1' = 1 ∧ z1 < 0) ∨ (mth1' = 0 ∧ 0 ≤ z1) from by first | assumption | omega | exact jset_b (by assumption) (by omega)), (show mo = 0 → 0 ≤ z1 → (y11 z1) = -1 from by first | assumption | omega | exact jset_b (by assumption) (by omega))⟩, ⟨by rw [ht]; exact hP9, va_K.moved hW.alike hK, hD9⟩⟩, hS.F ht⟩) hS.2.2 dXM_at_37
    · refine ji_iconst hx hb dXM_at_17 ?_
      have hP9 := hP.sub (ws' := [(ma, .inr (5, [.int (jI mth1'), .int (jI mn), .ref a0, .int (jI mp), .int (jI mw), .ref a1, .ref a2, .ref a3, .ref a4, .ref a5, .ref a6, .ref a7, .ref a8, .ref a9, .ref a10, .long (jL mu), .long (jL md), .int (jI mo), .ref a11])), (a11, .inl (cA, 300, .inl (jA y11)))]) [1, 0] rfl
      have hD9 := hD.sub (ws' := [(ma, .inr (5, [.int (jI mth1'), .int (jI mn), .ref a0, .int (jI mp), .int (jI mw), .ref a1, .ref a2, .ref a3, .ref a4, .ref a5, .ref a6, .ref a7, .ref a8, .ref a9, .ref a10, .long (jL mu), .long (jL md), .int (jI mo), .ref a11])), (a11, .inl (cA, 300, .inl (jA y11)))]) [1, 0] (by decide) rfl
      subst hAe
      subst hQ
      exact W.iret (v := jI 0) hx hb hr (fun t ht hW => ⟨⟨_, (0, mth1'), rfl, ⟨rfl, (show (mth1' = 1 ∧ z1 < 0) ∨ (mth1' = 0 ∧ 0 ≤ z1) from by first | assumption | omega | exact jset_b (by assumption) (by omega)), (show mo = 0 → 0 ≤ z1 → (0 : Int) = -1 from by first | assumption | omega | exact jset_b (by assumption) (by omega))⟩, ⟨by rw [ht]; exact hP9, va_K.moved hW.alike hK, hD9⟩⟩, hS.F ht⟩) hS.2.2 dXM_at_18
  · refine ji_iconst hx hb dXM_at_5 ?_
    refine lv_goto (tgt := 10) hx hb dXM_at_6 (by decide) ?_
    refine ji_iconst hx hb dXM_at_10 ?_
    refine jwVi (rest := []) (wr := [(a11, .inl (cA, 300, .inl (jA y11)))]) ⟨hx, hb, hml, hown, hts⟩ (c_XM_goes l dC dI cA cZ _ ma a0 a1 a2 a3 a4 a5 a6 a7 a8 a9 a10 a11 mth mn mp mw mu md mo 1 1 (by first | assumption | omega | exact jset_b (by assumption) (by omega)) (by first | assumption | omega | exact jset_b (by assumption) (by omega))) (cwV 2 hts (jG_V tw_698 tw_700 ts_14 tw_6 tw_701) rfl rfl rfl (by decide +kernel) (by rw [hR]; exact ⟨Nat.le_of_ble_eq_true rfl, Nat.le_of_ble_eq_true rfl⟩)) hK hP hD hS hA hN [0] [1] rfl rfl (by decide) (by decide) (by decide) 0 5 rfl rfl rfl rfl hl.1 rfl (Nat.le_of_ble_eq_true rfl) dXM_at_11 (by rw [hR]; exact ⟨Nat.le_of_ble_eq_true rfl, Nat.le_of_ble_eq_true rfl⟩) (fun v4 u3 H locs hwb5 hP hD hS => ?_)
    obtain ⟨r1, mth1'2⟩ := u3
    try dsimp only at hwb5
    obtain ⟨er, f6⟩ := hwb5
    subst er
    have f6 : (r1 = 0 ∧ mth1'2 = 1 ∧ (1 : Int) = 0) ∨ (r1 = 0 ∧ mth1'2 = 2 ∧ (1 : Int) = 1 ∧ (1 : Int) = 0) ∨ (r1 = 1 ∧ mth1'2 = 0 ∧ (1 : Int) = 1 ∧ (1 : Int) = 1) := f6
    have hP : va_P (dC, dI) vwCl [(a11, .inl (cA, 300, .inl (jA y11))), (ma, .inr (5, [.int (jI mth1'2), .int (jI mn), .ref a0, .int (jI mp), .int (jI mw), .ref a1, .ref a2, .ref a3, .ref a4, .ref a5, .ref a6, .ref a7, .ref a8, .ref a9, .ref a10, .long (jL mu), .long (jL md), .int (jI mo), .ref a11]))] H := hP
    have hD : va_D A [(a11, .inl (cA, 300, .inl (jA y11))), (ma, .inr (5, [.int (jI mth1'2), .int (jI mn), .ref a0, .int (jI mp), .int (jI mw), .ref a1, .ref a2, .ref a3, .ref a4, .ref a5, .ref a6, .ref a7, .ref a8, .ref a9, .ref a10, .long (jL mu), .long (jL md), .int (jI mo), .ref a11]))] := hD
    refine ji_if_ne (tgt := 19) hx hb dXM_at_14 (by decide) (by first | omega | decide) (fun c14_7 => ?_) (fun c14_7 => ?_)
    · refine lv_iload_n hx hb dXM_at_19 rfl (lv_at hl 1 rfl) ?_
      refine lv_aload_n hx hb dXM_at_20 rfl (lv_at hl 0 rfl) ?_
      refine va_get (D := (dC, dI)) (ci := 5) (v := .int (jI mo)) (C := RXM) (T := TXM) (N := 19) hx hb hts (fun w h => jmem (inXM w h)) hown hK hP 1 rfl rfl 17 (by decide) (hts _ (jmem tw_645)) (fun _ h9 => h9) rfl dXM_at_21 ?_
      refine ji_icmp_ge (tgt := 36) hx hb dXM_at_24 (by decide) (by first | omega | decide) (by first | omega | decide) (fun c24_8 => ?_) (fun c24_8 => ?_)
      · refine ji_iconst hx hb dXM_at_36 ?_
        have hP9 := hP.sub (ws' := [(ma, .inr (5, [.int (jI mth1'2), .int (jI mn), .ref a0, .int (jI mp), .int (jI mw), .ref a1, .ref a2, .ref a3, .ref a4, .ref a5, .ref a6, .ref a7, .ref a8, .ref a9, .ref a10, .long (jL mu), .long (jL md), .int (jI mo), .ref a11])), (a11, .inl (cA, 300, .inl (jA y11)))]) [1, 0] rfl
        have hD9 := hD.sub (ws' := [(ma, .inr (5, [.int (jI mth1'2), .int (jI mn), .ref a0, .int (jI mp), .int (jI mw), .ref a1, .ref a2, .ref a3, .ref a4, .ref a5, .ref a6, .ref a7, .ref a8, .ref a9, .ref a10, .long (jL mu), .long (jL md), .int (jI mo), .ref a11])), (a11, .inl (cA, 300, .inl (jA y11)))]) [1, 0] (by decide) rfl
        subst hAe
        subst hQ
        exact W.iret (v := jI (-1)) hx hb hr (fun t ht hW => ⟨⟨_, (-1, mth1'2), rfl, ⟨rfl, (show (mth1'2 = 1 ∧ z1 < 0) ∨ (mth1'2 = 0 ∧ 0 ≤ z1) from by first | assumption | omega | exact jset_b (by assumption) (by omega)), (show mo = 0 → 0 ≤ z1 → (-1 : Int) = -1 from by first | assumption | omega | exact jset_b (by assumption) (by omega))⟩, ⟨by rw [ht]; exact hP9, va_K.moved hW.alike hK, hD9⟩⟩, hS.F ht⟩) hS.2.2 dXM_at_37
      · refine lv_aload_n hx hb dXM_at_27 rfl (lv_at hl 0 rfl) ?_
        refine va_get (D := (dC, dI)) (ci := 5) (v := .ref a11) (C := RXM) (T := TXM) (N := 19) hx hb hts (fun w h => jmem (inXM w h)) hown hK hP 1 rfl rfl 18 (by decide) (hts _ (jmem tw_646)) (fun _ h9 => h9) rfl dXM_at_28 ?_
        refine lv_iload_n hx hb dXM_at_31 rfl (lv_at hl 1 rfl) ?_
        refine ji_iald hx hb hK hP 0 0 rfl rfl ⟨by omega, by omega⟩ (by decide) dXM_at_32 ?_
        refine lv_goto (tgt := 37) hx hb dXM_at_33 (by decide) ?_
        have hP9 := hP.sub (ws' := [(ma, .inr (5, [.int (jI mth1'2), .int (jI mn), .ref a0, .int (jI mp), .int (jI mw), .ref a1, .ref a2, .ref a3, .ref a4, .ref a5, .ref a6, .ref a7, .ref a8, .ref a9, .ref a10, .long (jL mu), .long (jL md), .int (jI mo), .ref a11])), (a11, .inl (cA, 300, .inl (jA y11)))]) [1, 0] rfl
        have hD9 := hD.sub (ws' := [(ma, .inr (5, [.int (jI mth1'2), .int (jI mn), .ref a0, .int (jI mp), .int (jI mw), .ref a1, .ref a2, .ref a3, .ref a4, .ref a5, .ref a6, .ref a7, .ref a8, .ref a9, .ref a10, .long (jL mu), .long (jL md), .int (jI mo), .ref a11])), (a11, .inl (cA, 300, .inl (jA y11)))]) [1, 0] (by decide) rfl
        subst hAe
        subst hQ
        exact W.iret (v := jI (y11 z1)) hx hb hr (fun t ht hW => ⟨⟨_, (y11 z1, mth1'2), rfl, ⟨rfl, (show (mth1'2 = 1 ∧ z1 < 0) ∨ (mth1'2 = 0 ∧ 0 ≤ z1) from by first | assumption | omega | exact jset_b (by assumption) (by omega)), (show mo = 0 → 0 ≤ z1 → (y11 z1) = -1 from by first | assumption | omega | exact jset_b (by assumption) (by omega))⟩, ⟨by rw [ht]; exact hP9, va_K.moved hW.alike hK, hD9⟩⟩, hS.F ht⟩) hS.2.2 dXM_at_37
    · refine ji_iconst hx hb dXM_at_17 ?_
      have hP9 := hP.sub (ws' := [(ma, .inr (5, [.int (jI mth1'2), .int (jI mn), .ref a0, .int (jI mp), .int (jI mw), .ref a1, .ref a2, .ref a3, .ref a4, .ref a5, .ref a6, .ref a7, .ref a8, .ref a9, .ref a10, .long (jL mu), .long (jL md), .int (jI mo), .ref a11])), (a11, .inl (cA, 300, .inl (jA y11)))]) [1, 0] rfl
      have hD9 := hD.sub (ws' := [(ma, .inr (5, [.int (jI mth1'2), .int (jI mn), .ref a0, .int (jI mp), .int (jI mw), .ref a1, .ref a2, .ref a3, .ref a4, .ref a5, .ref a6, .ref a7, .ref a8, .ref a9, .ref a10, .long (jL mu), .long (jL md), .int (jI mo), .ref a11])), (a11, .inl (cA, 300, .inl (jA y11)))]) [1, 0] (by decide) rfl
      subst hAe
      subst hQ
      exact W.iret (v := jI 0) hx hb hr (fun t ht hW => ⟨⟨_, (0, mth1'2), rfl, ⟨rfl, (show (mth1'2 = 1 ∧ z1 < 0) ∨ (mth1'2 = 0 ∧ 0 ≤ z1) from by first | assumption | omega | exact jset_b (by assumption) (by omega)), (show mo = 0 → 0 ≤ z1 → (0 : Int) = -1 from by first | assumption | omega | exact jset_b (by assumption) (by omega))⟩, ⟨by rw [ht]; exact hP9, va_K.moved hW.alike hK, hD9⟩⟩, hS.F ht⟩) hS.2.2 dXM_at_18
end
section
set_option maxHeartbeats 4000000 in
set_option maxRecDepth 100000 in
theorem c_XM_init (l : Launch) (dC : Nat → ClassId) (dI : Nat → Nat → Nat) (cA cZ : ClassId) (sz : Nat) (ma : Nat) : Met l yXM_init (Cond.code yXM_init cXM_init 2 none :: TBL) ({ frames := 1, cells := 12, slots := 2702, locals := 12 } : Room) (va_Pc [.ref ma] (jBw (dC, dI) [(cA, .int), (cZ, .boolean)] [(ma, .inr (5, [.int (jI 0), .int (jI 0), .null, .int (jI 0), .int (jI 0), .null, .null, .null, .null, .null, .null, .null, .null, .null, .null, .long (jL 0), .long (jL 0), .int (jI 0), .null]))] sz)) (va_Qv (fun (u : Nat × Nat × Nat × Nat × Nat × Nat × Nat × Nat × Nat × Nat × Nat × Nat × (Int → Int)) => (∀ i, -1 ≤ u.2.2.2.2.2.2.2.2.2.2.2.2 i ∧ u.2.2.2.2.2.2.2.2.2.2.2.2 i ≤ 999999)) (fun u t => jE (dC, dI) [(cA, .int), (cZ, .boolean)] [(ma, .inr (5, [.int (jI 0), .int (jI 0), .null, .int (jI 0), .int (jI 0), .null, .null, .null, .null, .null, .null, .null, .null, .null, .null, .long (jL 0), .long (jL 0), .int (jI 0), .null]))] sz [(ma, .inr (5, [.int (jI 0), .int (jI 0), .ref u.1, .int (jI 0), .int (jI 0), .ref u.2.1, .ref u.2.2.1, .ref u.2.2.2.1, .ref u.2.2.2.2.1, .ref u.2.2.2.2.2.1, .ref u.2.2.2.2.2.2.1, .ref u.2.2.2.2.2.2.2.1, .ref u.2.2.2.2.2.2.2.2.1, .ref u.2.2.2.2.2.2.2.2.2.1, .ref u.2.2.2.2.2.2.2.2.2.2.1, .long (jL 0), .long (jL 0), .int (jI 0), .ref u.2.2.2.2.2.2.2.2.2.2.2.1])), (u.1, .inl (cA, 400, .inl (jA (fun _ => 0)))), (u.2.1, .inl (cZ, 62, .inl (jA (fun _ => 0)))), (u.2.2.1, .inl (cA, 62, .inl (jA (fun _ => 0)))), (u.2.2.2.1, .inl (cZ, 496, .inl (jA (fun _ => 0)))), (u.2.2.2.2.1, .inl (cA, 496, .inl (jA (fun _ => 0)))), (u.2.2.2.2.2.1, .inl (cA, 496, .inl (jA (fun _ => 0)))), (u.2.2.2.2.2.2.1, .inl (cA, 62, .inl (jA (fun _ => 0)))), (u.2.2.2.2.2.2.2.1, .inl (cA, 248, .inl (jA u.2.2.2.2.2.2.2.2.2.2.2.2))), (u.2.2.2.2.2.2.2.2.1, .inl (cZ, 8, .inl (jA (fun _ => 0)))), (u.2.2.2.2.2.2.2.2.2.1, .inl (cA, 64, .inl (jA (fun _ => 0)))), (u.2.2.2.2.2.2.2.2.2.2.1, .inl (cA, 8, .inl (jA (fun _ => 0)))), (u.2.2.2.2.2.2.2.2.2.2.2.1, .inl (cA, 300, .inl (jA (fun _ => 0))))] t) (va_A [(ma, .inr (5, [.int (jI 0), .int (jI 0), .null, .int (jI 0), .int (jI 0), .null, .null, .null, .null, .null, .null, .null, .null, .null, .null, .long (jL 0), .long (jL 0), .int (jI 0), .null]))] sz)) 12 2702 (va_A [(ma, .inr (5, [.int (jI 0), .int (jI 0), .null, .int (jI 0), .int (jI 0), .null, .null, .null, .null, .null, .null, .null, .null, .null, .null, .long (jL 0), .long (jL 0), .int (jI 0), .null]))] sz) := by
  refine jMet (cc := cXM_init) (maxL := 2) (ret := none) (by decide) rfl ?_
  intro p e s m args below meth c s₁ R Q hR hQ B hml hv
  obtain ⟨rfl, hsz, hP, hK, hD0, hN⟩ := hv
  have hx := B.exec
  have hb := B.bytes
  have hr := B.returns
  have hts := atoms_spec (ws := Cond.code yXM_init cXM_init 2 none :: TBL) B.pre
  have hown : s.vm.findClass RXM = some m.cls := findClass_of_methodNamed B.named
  have hlocks := B.notSynchronized
  have hin : meth.name = "<init>" := (name_of_methodNamed B.named B.method).1
  subst hsz
  obtain ⟨A, hAe⟩ : ∃ A, A = va_A [(ma, .inr (5, [.int (jI 0), .int (jI 0), .null, .int (jI 0), .int (jI 0), .null, .null, .null, .null, .null, .null, .null, .null, .null, .null, .long (jL 0), .long (jL 0), .int (jI 0), .null]))] s.heap.size := ⟨_, rfl⟩
  have hD : va_D A [(ma, .inr (5, [.int (jI 0), .int (jI 0), .null, .int (jI 0), .int (jI 0), .null, .null, .null, .null, .null, .null, .null, .null, .null, .null, .long (jL 0), .long (jL 0), .int (jI 0), .null]))] := by rw [hAe]; exact hD0.self
  have hA : ∀ q : Nat, s.heap.size ≤ q → A q := fun q h => by rw [hAe]; exact Or.inr h
  have hS : va_S A s.heap s.heap [] := va_S.rf
  have hP : va_P (dC, dI) vwCl [(ma, .inr (5, [.int (jI 0), .int (jI 0), .null, .int (jI 0), .int (jI 0), .null, .null, .null, .null, .null, .null, .null, .null, .null, .null, .long (jL 0), .long (jL 0), .int (jI 0), .null]))] s.heap := hP
  have hl := lv_entry ([.ref ma]) (n := 2) (Nat.le_of_ble_eq_true rfl)
  rw [lg_entry_eq]
  generalize (lg_sl ([.ref ma]) ++ List.replicate (2 - (lg_sl ([.ref ma])).length) Slot.unset).toArray = ls at hl ⊢
  have hl : lv_has ls 2 [(0, .ref ma)] := hl
  refine lv_aload_n hx hb dXM_init_0 rfl (lv_at hl 0 rfl) ?_
  refine W.objInit hx hb hown (hts _ (jmem tw_627)) (hts _ (jmem tw_22)) (hts _ (jmem tw_23)) rfl (by rw [hml]; exact hl.1) rfl dXM_init_1 (by rw [hR]; exact Nat.le_of_ble_eq_true rfl) (by rw [hR]; exact Nat.le_of_ble_eq_true rfl) ?_
  refine lv_aload_n hx hb dXM_init_4 rfl (lv_at hl 0 rfl) ?_
  refine ji_sipush hx hb dXM_init_5 (by decide) ?_
  refine ji_newa (N := 400) hx hb (hts _ (jmem tw_43)) hK hP hD hS hA 0 rfl rfl (by decide) (by rw [hR]; exact Nat.le_of_ble_eq_true rfl) (by rw [hR]; exact Nat.le_of_ble_eq_true rfl) dXM_init_8 (fun q0 H hP hD hS => ?_)
  have hP : va_P (dC, dI) vwCl [(ma, .inr (5, [.int (jI 0), .int (jI 0), .null, .int (jI 0), .int (jI 0), .null, .null, .null, .null, .null, .null, .null, .null, .null, .null, .long (jL 0), .long (jL 0), .int (jI 0), .null])), (q0, .inl (cA, 400, .inl (jA (fun _ => 0))))] H := hP
  have hD : va_D A [(ma, .inr (5, [.int (jI 0), .int (jI 0), .null, .int (jI 0), .int (jI 0), .null, .null, .null, .null, .null, .null, .null, .null, .null, .null, .long (jL 0), .long (jL 0), .int (jI 0), .null])), (q0, .inl (cA, 400, .inl (jA (fun _ => 0))))] := hD
  refine va_putF (D := (dC, dI)) (ci := 5) (v := .ref q0) (ty := (.array .int)) (C := RXM) (T := TXM) (N := 19) hx hb hts (fun w h => jmem (inXM w h)) tyXM tyXM_ok nXM hown hK hP hD hS 0 rfl rfl 2 (by decide) (hts _ (jmem tw_630)) (fun _ h9 => h9) rfl hin rfl (by decide +kernel) rfl rfl (Nat.le_of_ble_eq_true rfl) dXM_init_10 (fun H locs hP hD hS => ?_)
  have hP : va_P (dC, dI) vwCl [(ma, .inr (5, [.int (jI 0), .int (jI 0), .ref q0, .int (jI 0), .int (jI 0), .null, .null, .null, .null, .null, .null, .null, .null, .null, .null, .long (jL 0), .long (jL 0), .int (jI 0), .null])), (q0, .inl (cA, 400, .inl (jA (fun _ => 0))))] H := hP
  have hD : va_D A [(ma, .inr (5, [.int (jI 0), .int (jI 0), .ref q0, .int (jI 0), .int (jI 0), .null, .null, .null, .null, .null, .null, .null, .null, .null, .null, .long (jL 0), .long (jL 0), .int (jI 0), .null])), (q0, .inl (cA, 400, .inl (jA (fun _ => 0))))] := hD
  refine lv_aload_n hx hb dXM_init_13 rfl (lv_at hl 0 rfl) ?_
  refine ji_bipush hx hb dXM_init_14 (by decide) ?_
  refine ji_newz (N := 62) hx hb (hts _ (jmem tw_686)) hK hP hD hS hA 1 rfl rfl (by decide) (by rw [hR]; exact Nat.le_of_ble_eq_true rfl) (by rw [hR]; exact Nat.le_of_ble_eq_true rfl) dXM_init_16 (fun q1 H hP hD hS => ?_)
  have hP : va_P (dC, dI) vwCl [(ma, .inr (5, [.int (jI 0), .int (jI 0), .ref q0, .int (jI 0), .int (jI 0), .null, .null, .null, .null, .null, .null, .null, .null, .null, .null, .long (jL 0), .long (jL 0), .int (jI 0), .null])), (q0, .inl (cA, 400, .inl (jA (fun _ => 0)))), (q1, .inl (cZ, 62, .inl (jA (fun _ => 0))))] H := hP
  have hD : va_D A [(ma, .inr (5, [.int (jI 0), .int (jI 0), .ref q0, .int (jI 0), .int (jI 0), .null, .null, .null, .null, .null, .null, .null, .null, .null, .null, .long (jL 0), .long (jL 0), .int (jI 0), .null])), (q0, .inl (cA, 400, .inl (jA (fun _ => 0)))), (q1, .inl (cZ, 62, .inl (jA (fun _ => 0))))] := hD
  refine va_putF (D := (dC, dI)) (ci := 5) (v := .ref q1) (ty := (.array .boolean)) (C := RXM) (T := TXM) (N := 19) hx hb hts (fun w h => jmem (inXM w h)) tyXM tyXM_ok nXM hown hK hP hD hS 0 rfl rfl 5 (by decide) (hts _ (jmem tw_633)) (fun _ h9 => h9) rfl hin rfl (by decide +kernel) rfl rfl (Nat.le_of_ble_eq_true rfl) dXM_init_18 (fun H locs hP hD hS => ?_)
  have hP : va_P (dC, dI) vwCl [(ma, .inr (5, [.int (jI 0), .int (jI 0), .ref q0, .int (jI 0), .int (jI 0), .ref q1, .null, .null, .null, .null, .null, .null, .null, .null, .null, .long (jL 0), .long (jL 0), .int (jI 0), .null])), (q0, .inl (cA, 400, .inl (jA (fun _ => 0)))), (q1, .inl (cZ, 62, .inl (jA (fun _ => 0))))] H := hP
  have hD : va_D A [(ma, .inr (5, [.int (jI 0), .int (jI 0), .ref q0, .int (jI 0), .int (jI 0), .ref q1, .null, .null, .null, .null, .null, .null, .null, .null, .null, .long (jL 0), .long (jL 0), .int (jI 0), .null])), (q0, .inl (cA, 400, .inl (jA (fun _ => 0)))), (q1, .inl (cZ, 62, .inl (jA (fun _ => 0))))] := hD
  refine lv_aload_n hx hb dXM_init_21 rfl (lv_at hl 0 rfl) ?_
  refine ji_bipush hx hb dXM_init_22 (by decide) ?_
  refine ji_newa (N := 62) hx hb (hts _ (jmem tw_43)) hK hP hD hS hA 0 rfl rfl (by decide) (by rw [hR]; exact Nat.le_of_ble_eq_true rfl) (by rw [hR]; exact Nat.le_of_ble_eq_true rfl) dXM_init_24 (fun q2 H hP hD hS => ?_)
  have hP : va_P (dC, dI) vwCl [(ma, .inr (5, [.int (jI 0), .int (jI 0), .ref q0, .int (jI 0), .int (jI 0), .ref q1, .null, .null, .null, .null, .null, .null, .null, .null, .null, .long (jL 0), .long (jL 0), .int (jI 0), .null])), (q0, .inl (cA, 400, .inl (jA (fun _ => 0)))), (q1, .inl (cZ, 62, .inl (jA (fun _ => 0)))), (q2, .inl (cA, 62, .inl (jA (fun _ => 0))))] H := hP
  have hD : va_D A [(ma, .inr (5, [.int (jI 0), .int (jI 0), .ref q0, .int (jI 0), .int (jI 0), .ref q1, .null, .null, .null, .null, .null, .null, .null, .null, .null, .long (jL 0), .long (jL 0), .int (jI 0), .null])), (q0, .inl (cA, 400, .inl (jA (fun _ => 0)))), (q1, .inl (cZ, 62, .inl (jA (fun _ => 0)))), (q2, .inl (cA, 62, .inl (jA (fun _ => 0))))] := hD
  refine va_putF (D := (dC, dI)) (ci := 5) (v := .ref q2) (ty := (.array .int)) (C := RXM) (T := TXM) (N := 19) hx hb hts (fun w h => jmem (inXM w h)) tyXM tyXM_ok nXM hown hK hP hD hS 0 rfl rfl 6 (by decide) (hts _ (jmem tw_634)) (fun _ h9 => h9) rfl hin rfl (by decide +kernel) rfl rfl (Nat.le_of_ble_eq_true rfl) dXM_init_26 (fun H locs hP hD hS => ?_)
  have hP : va_P (dC, dI) vwCl [(ma, .inr (5, [.int (jI 0), .int (jI 0), .ref q0, .int (jI 0), .int (jI 0), .ref q1, .ref q2, .null, .null, .null, .null, .null, .null, .null, .null, .long (jL 0), .long (jL 0), .int (jI 0), .null])), (q0, .inl (cA, 400, .inl (jA (fun _ => 0)))), (q1, .inl (cZ, 62, .inl (jA (fun _ => 0)))), (q2, .inl (cA, 62, .inl (jA (fun _ => 0))))] H := hP
  have hD : va_D A [(ma, .inr (5, [.int (jI 0), .int (jI 0), .ref q0, .int (jI 0), .int (jI 0), .ref q1, .ref q2, .null, .null, .null, .null, .null, .null, .null, .null, .long (jL 0), .long (jL 0), .int (jI 0), .null])), (q0, .inl (cA, 400, .inl (jA (fun _ => 0)))), (q1, .inl (cZ, 62, .inl (jA (fun _ => 0)))), (q2, .inl (cA, 62, .inl (jA (fun _ => 0))))] := hD
  refine lv_aload_n hx hb dXM_init_29 rfl (lv_at hl 0 rfl) ?_
  refine ji_sipush hx hb dXM_init_30 (by decide) ?_
  refine ji_newz (N := 496) hx hb (hts _ (jmem tw_686)) hK hP hD hS hA 1 rfl rfl (by decide) (by rw [hR]; exact Nat.le_of_ble_eq_true rfl) (by rw [hR]; exact Nat.le_of_ble_eq_true rfl) dXM_init_33 (fun q3 H hP hD hS => ?_)
  have hP : va_P (dC, dI) vwCl [(ma, .inr (5, [.int (jI 0), .int (jI 0), .ref q0, .int (jI 0), .int (jI 0), .ref q1, .ref q2, .null, .null, .null, .null, .null, .null, .null, .null, .long (jL 0), .long (jL 0), .int (jI 0), .null])), (q0, .inl (cA, 400, .inl (jA (fun _ => 0)))), (q1, .inl (cZ, 62, .inl (jA (fun _ => 0)))), (q2, .inl (cA, 62, .inl (jA (fun _ => 0)))), (q3, .inl (cZ, 496, .inl (jA (fun _ => 0))))] H := hP
  have hD : va_D A [(ma, .inr (5, [.int (jI 0), .int (jI 0), .ref q0, .int (jI 0), .int (jI 0), .ref q1, .ref q2, .null, .null, .null, .null, .null, .null, .null, .null, .long (jL 0), .long (jL 0), .int (jI 0), .null])), (q0, .inl (cA, 400, .inl (jA (fun _ => 0)))), (q1, .inl (cZ, 62, .inl (jA (fun _ => 0)))), (q2, .inl (cA, 62, .inl (jA (fun _ => 0)))), (q3, .inl (cZ, 496, .inl (jA (fun _ => 0))))] := hD
  refine va_putF (D := (dC, dI)) (ci := 5) (v := .ref q3) (ty := (.array .boolean)) (C := RXM) (T := TXM) (N := 19) hx hb hts (fun w h => jmem (inXM w h)) tyXM tyXM_ok nXM hown hK hP hD hS 0 rfl rfl 7 (by decide) (hts _ (jmem tw_635)) (fun _ h9 => h9) rfl hin rfl (by decide +kernel) rfl rfl (Nat.le_of_ble_eq_true rfl) dXM_init_35 (fun H locs hP hD hS => ?_)
  have hP : va_P (dC, dI) vwCl [(ma, .inr (5, [.int (jI 0), .int (jI 0), .ref q0, .int (jI 0), .int (jI 0), .ref q1, .ref q2, .ref q3, .null, .null, .null, .null, .null, .null, .null, .long (jL 0), .long (jL 0), .int (jI 0), .null])), (q0, .inl (cA, 400, .inl (jA (fun _ => 0)))), (q1, .inl (cZ, 62, .inl (jA (fun _ => 0)))), (q2, .inl (cA, 62, .inl (jA (fun _ => 0)))), (q3, .inl (cZ, 496, .inl (jA (fun _ => 0))))] H := hP
  have hD : va_D A [(ma, .inr (5, [.int (jI 0), .int (jI 0), .ref q0, .int (jI 0), .int (jI 0), .ref q1, .ref q2, .ref q3, .null, .null, .null, .null, .null, .null, .null, .long (jL 0), .long (jL 0), .int (jI 0), .null])), (q0, .inl (cA, 400, .inl (jA (fun _ => 0)))), (q1, .inl (cZ, 62, .inl (jA (fun _ => 0)))), (q2, .inl (cA, 62, .inl (jA (fun _ => 0)))), (q3, .inl (cZ, 496, .inl (jA (fun _ => 0))))] := hD
  refine lv_aload_n hx hb dXM_init_38 rfl (lv_at hl 0 rfl) ?_
  refine ji_sipush hx hb dXM_init_39 (by decide) ?_
  refine ji_newa (N := 496) hx hb (hts _ (jmem tw_43)) hK hP hD hS hA 0 rfl rfl (by decide) (by rw [hR]; exact Nat.le_of_ble_eq_true rfl) (by rw [hR]; exact Nat.le_of_ble_eq_true rfl) dXM_init_42 (fun q4 H hP hD hS => ?_)
  have hP : va_P (dC, dI) vwCl [(ma, .inr (5, [.int (jI 0), .int (jI 0), .ref q0, .int (jI 0), .int (jI 0), .ref q1, .ref q2, .ref q3, .null, .null, .null, .null, .null, .null, .null, .long (jL 0), .long (jL 0), .int (jI 0), .null])), (q0, .inl (cA, 400, .inl (jA (fun _ => 0)))), (q1, .inl (cZ, 62, .inl (jA (fun _ => 0)))), (q2, .inl (cA, 62, .inl (jA (fun _ => 0)))), (q3, .inl (cZ, 496, .inl (jA (fun _ => 0)))), (q4, .inl (cA, 496, .inl (jA (fun _ => 0))))] H := hP
  have hD : va_D A [(ma, .inr (5, [.int (jI 0), .int (jI 0), .ref q0, .int (jI 0), .int (jI 0), .ref q1, .ref q2, .ref q3, .null, .null, .null, .null, .null, .null, .null, .long (jL 0), .long (jL 0), .int (jI 0), .null])), (q0, .inl (cA, 400, .inl (jA (fun _ => 0)))), (q1, .inl (cZ, 62, .inl (jA (fun _ => 0)))), (q2, .inl (cA, 62, .inl (jA (fun _ => 0)))), (q3, .inl (cZ, 496, .inl (jA (fun _ => 0)))), (q4, .inl (cA, 496, .inl (jA (fun _ => 0))))] := hD
  refine va_putF (D := (dC, dI)) (ci := 5) (v := .ref q4) (ty := (.array .int)) (C := RXM) (T := TXM) (N := 19) hx hb hts (fun w h => jmem (inXM w h)) tyXM tyXM_ok nXM hown hK hP hD hS 0 rfl rfl 8 (by decide) (hts _ (jmem tw_636)) (fun _ h9 => h9) rfl hin rfl (by decide +kernel) rfl rfl (Nat.le_of_ble_eq_true rfl) dXM_init_44 (fun H locs hP hD hS => ?_)
  have hP : va_P (dC, dI) vwCl [(ma, .inr (5, [.int (jI 0), .int (jI 0), .ref q0, .int (jI 0), .int (jI 0), .ref q1, .ref q2, .ref q3, .ref q4, .null, .null, .null, .null, .null, .null, .long (jL 0), .long (jL 0), .int (jI 0), .null])), (q0, .inl (cA, 400, .inl (jA (fun _ => 0)))), (q1, .inl (cZ, 62, .inl (jA (fun _ => 0)))), (q2, .inl (cA, 62, .inl (jA (fun _ => 0)))), (q3, .inl (cZ, 496, .inl (jA (fun _ => 0)))), (q4, .inl (cA, 496, .inl (jA (fun _ => 0))))] H := hP
  have hD : va_D A [(ma, .inr (5, [.int (jI 0), .int (jI 0), .ref q0, .int (jI 0), .int (jI 0), .ref q1, .ref q2, .ref q3, .ref q4, .null, .null, .null, .null, .null, .null, .long (jL 0), .long (jL 0), .int (jI 0), .null])), (q0, .inl (cA, 400, .inl (jA (fun _ => 0)))), (q1, .inl (cZ, 62, .inl (jA (fun _ => 0)))), (q2, .inl (cA, 62, .inl (jA (fun _ => 0)))), (q3, .inl (cZ, 496, .inl (jA (fun _ => 0)))), (q4, .inl (cA, 496, .inl (jA (fun _ => 0))))] := hD
  refine lv_aload_n hx hb dXM_init_47 rfl (lv_at hl 0 rfl) ?_
  refine ji_sipush hx hb dXM_init_48 (by decide) ?_
  refine ji_newa (N := 496) hx hb (hts _ (jmem tw_43)) hK hP hD hS hA 0 rfl rfl (by decide) (by rw [hR]; exact Nat.le_of_ble_eq_true rfl) (by rw [hR]; exact Nat.le_of_ble_eq_true rfl) dXM_init_51 (fun q5 H hP hD hS => ?_)
  have hP : va_P (dC, dI) vwCl [(ma, .inr (5, [.int (jI 0), .int (jI 0), .ref q0, .int (jI 0), .int (jI 0), .ref q1, .ref q2, .ref q3, .ref q4, .null, .null, .null, .null, .null, .null, .long (jL 0), .long (jL 0), .int (jI 0), .null])), (q0, .inl (cA, 400, .inl (jA (fun _ => 0)))), (q1, .inl (cZ, 62, .inl (jA (fun _ => 0)))), (q2, .inl (cA, 62, .inl (jA (fun _ => 0)))), (q3, .inl (cZ, 496, .inl (jA (fun _ => 0)))), (q4, .inl (cA, 496, .inl (jA (fun _ => 0)))), (q5, .inl (cA, 496, .inl (jA (fun _ => 0))))] H := hP
  have hD : va_D A [(ma, .inr (5, [.int (jI 0), .int (jI 0), .ref q0, .int (jI 0), .int (jI 0), .ref q1, .ref q2, .ref q3, .ref q4, .null, .null, .null, .null, .null, .null, .long (jL 0), .long (jL 0), .int (jI 0), .null])), (q0, .inl (cA, 400, .inl (jA (fun _ => 0)))), (q1, .inl (cZ, 62, .inl (jA (fun _ => 0)))), (q2, .inl (cA, 62, .inl (jA (fun _ => 0)))), (q3, .inl (cZ, 496, .inl (jA (fun _ => 0)))), (q4, .inl (cA, 496, .inl (jA (fun _ => 0)))), (q5, .inl (cA, 496, .inl (jA (fun _ => 0))))] := hD
  refine va_putF (D := (dC, dI)) (ci := 5) (v := .ref q5) (ty := (.array .int)) (C := RXM) (T := TXM) (N := 19) hx hb hts (fun w h => jmem (inXM w h)) tyXM tyXM_ok nXM hown hK hP hD hS 0 rfl rfl 9 (by decide) (hts _ (jmem tw_637)) (fun _ h9 => h9) rfl hin rfl (by decide +kernel) rfl rfl (Nat.le_of_ble_eq_true rfl) dXM_init_53 (fun H locs hP hD hS => ?_)
  have hP : va_P (dC, dI) vwCl [(ma, .inr (5, [.int (jI 0), .int (jI 0), .ref q0, .int (jI 0), .int (jI 0), .ref q1, .ref q2, .ref q3, .ref q4, .ref q5, .null, .null, .null, .null, .null, .long (jL 0), .long (jL 0), .int (jI 0), .null])), (q0, .inl (cA, 400, .inl (jA (fun _ => 0)))), (q1, .inl (cZ, 62, .inl (jA (fun _ => 0)))), (q2, .inl (cA, 62, .inl (jA (fun _ => 0)))), (q3, .inl (cZ, 496, .inl (jA (fun _ => 0)))), (q4, .inl (cA, 496, .inl (jA (fun _ => 0)))), (q5, .inl (cA, 496, .inl (jA (fun _ => 0))))] H := hP
  have hD : va_D A [(ma, .inr (5, [.int (jI 0), .int (jI 0), .ref q0, .int (jI 0), .int (jI 0), .ref q1, .ref q2, .ref q3, .ref q4, .ref q5, .null, .null, .null, .null, .null, .long (jL 0), .long (jL 0), .int (jI 0), .null])), (q0, .inl (cA, 400, .inl (jA (fun _ => 0)))), (q1, .inl (cZ, 62, .inl (jA (fun _ => 0)))), (q2, .inl (cA, 62, .inl (jA (fun _ => 0)))), (q3, .inl (cZ, 496, .inl (jA (fun _ => 0)))), (q4, .inl (cA, 496, .inl (jA (fun _ => 0)))), (q5, .inl (cA, 496, .inl (jA (fun _ => 0))))] := hD
  refine lv_aload_n hx hb dXM_init_56 rfl (lv_at hl 0 rfl) ?_
  refine ji_bipush hx hb dXM_init_57 (by decide) ?_
  refine ji_newa (N := 62) hx hb (hts _ (jmem tw_43)) hK hP hD hS hA 0 rfl rfl (by decide) (by rw [hR]; exact Nat.le_of_ble_eq_true rfl) (by rw [hR]; exact Nat.le_of_ble_eq_true rfl) dXM_init_59 (fun q6 H hP hD hS => ?_)
  have hP : va_P (dC, dI) vwCl [(ma, .inr (5, [.int (jI 0), .int (jI 0), .ref q0, .int (jI 0), .int (jI 0), .ref q1, .ref q2, .ref q3, .ref q4, .ref q5, .null, .null, .null, .null, .null, .long (jL 0), .long (jL 0), .int (jI 0), .null])), (q0, .inl (cA, 400, .inl (jA (fun _ => 0)))), (q1, .inl (cZ, 62, .inl (jA (fun _ => 0)))), (q2, .inl (cA, 62, .inl (jA (fun _ => 0)))), (q3, .inl (cZ, 496, .inl (jA (fun _ => 0)))), (q4, .inl (cA, 496, .inl (jA (fun _ => 0)))), (q5, .inl (cA, 496, .inl (jA (fun _ => 0)))), (q6, .inl (cA, 62, .inl (jA (fun _ => 0))))] H := hP
  have hD : va_D A [(ma, .inr (5, [.int (jI 0), .int (jI 0), .ref q0, .int (jI 0), .int (jI 0), .ref q1, .ref q2, .ref q3, .ref q4, .ref q5, .null, .null, .null, .null, .null, .long (jL 0), .long (jL 0), .int (jI 0), .null])), (q0, .inl (cA, 400, .inl (jA (fun _ => 0)))), (q1, .inl (cZ, 62, .inl (jA (fun _ => 0)))), (q2, .inl (cA, 62, .inl (jA (fun _ => 0)))), (q3, .inl (cZ, 496, .inl (jA (fun _ => 0)))), (q4, .inl (cA, 496, .inl (jA (fun _ => 0)))), (q5, .inl (cA, 496, .inl (jA (fun _ => 0)))), (q6, .inl (cA, 62, .inl (jA (fun _ => 0))))] := hD
  refine va_putF (D := (dC, dI)) (ci := 5) (v := .ref q6) (ty := (.array .int)) (C := RXM) (T := TXM) (N := 19) hx hb hts (fun w h => jmem (inXM w h)) tyXM tyXM_ok nXM hown hK hP hD hS 0 rfl rfl 10 (by decide) (hts _ (jmem tw_638)) (fun _ h9 => h9) rfl hin rfl (by decide +kernel) rfl rfl (Nat.le_of_ble_eq_true rfl) dXM_init_61 (fun H locs hP hD hS => ?_)
  have hP : va_P (dC, dI) vwCl [(ma, .inr (5, [.int (jI 0), .int (jI 0), .ref q0, .int (jI 0), .int (jI 0), .ref q1, .ref q2, .ref q3, .ref q4, .ref q5, .ref q6, .null, .null, .null, .null, .long (jL 0), .long (jL 0), .int (jI 0), .null])), (q0, .inl (cA, 400, .inl (jA (fun _ => 0)))), (q1, .inl (cZ, 62, .inl (jA (fun _ => 0)))), (q2, .inl (cA, 62, .inl (jA (fun _ => 0)))), (q3, .inl (cZ, 496, .inl (jA (fun _ => 0)))), (q4, .inl (cA, 496, .inl (jA (fun _ => 0)))), (q5, .inl (cA, 496, .inl (jA (fun _ => 0)))), (q6, .inl (cA, 62, .inl (jA (fun _ => 0))))] H := hP
  have hD : va_D A [(ma, .inr (5, [.int (jI 0), .int (jI 0), .ref q0, .int (jI 0), .int (jI 0), .ref q1, .ref q2, .ref q3, .ref q4, .ref q5, .ref q6, .null, .null, .null, .null, .long (jL 0), .long (jL 0), .int (jI 0), .null])), (q0, .inl (cA, 400, .inl (jA (fun _ => 0)))), (q1, .inl (cZ, 62, .inl (jA (fun _ => 0)))), (q2, .inl (cA, 62, .inl (jA (fun _ => 0)))), (q3, .inl (cZ, 496, .inl (jA (fun _ => 0)))), (q4, .inl (cA, 496, .inl (jA (fun _ => 0)))), (q5, .inl (cA, 496, .inl (jA (fun _ => 0)))), (q6, .inl (cA, 62, .inl (jA (fun _ => 0))))] := hD
  refine lv_aload_n hx hb dXM_init_64 rfl (lv_at hl 0 rfl) ?_
  refine ji_sipush hx hb dXM_init_65 (by decide) ?_
  refine ji_newa (N := 248) hx hb (hts _ (jmem tw_43)) hK hP hD hS hA 0 rfl rfl (by decide) (by rw [hR]; exact Nat.le_of_ble_eq_true rfl) (by rw [hR]; exact Nat.le_of_ble_eq_true rfl) dXM_init_68 (fun q7 H hP hD hS => ?_)
  have hP : va_P (dC, dI) vwCl [(ma, .inr (5, [.int (jI 0), .int (jI 0), .ref q0, .int (jI 0), .int (jI 0), .ref q1, .ref q2, .ref q3, .ref q4, .ref q5, .ref q6, .null, .null, .null, .null, .long (jL 0), .long (jL 0), .int (jI 0), .null])), (q0, .inl (cA, 400, .inl (jA (fun _ => 0)))), (q1, .inl (cZ, 62, .inl (jA (fun _ => 0)))), (q2, .inl (cA, 62, .inl (jA (fun _ => 0)))), (q3, .inl (cZ, 496, .inl (jA (fun _ => 0)))), (q4, .inl (cA, 496, .inl (jA (fun _ => 0)))), (q5, .inl (cA, 496, .inl (jA (fun _ => 0)))), (q6, .inl (cA, 62, .inl (jA (fun _ => 0)))), (q7, .inl (cA, 248, .inl (jA (fun _ => 0))))] H := hP
  have hD : va_D A [(ma, .inr (5, [.int (jI 0), .int (jI 0), .ref q0, .int (jI 0), .int (jI 0), .ref q1, .ref q2, .ref q3, .ref q4, .ref q5, .ref q6, .null, .null, .null, .null, .long (jL 0), .long (jL 0), .int (jI 0), .null])), (q0, .inl (cA, 400, .inl (jA (fun _ => 0)))), (q1, .inl (cZ, 62, .inl (jA (fun _ => 0)))), (q2, .inl (cA, 62, .inl (jA (fun _ => 0)))), (q3, .inl (cZ, 496, .inl (jA (fun _ => 0)))), (q4, .inl (cA, 496, .inl (jA (fun _ => 0)))), (q5, .inl (cA, 496, .inl (jA (fun _ => 0)))), (q6, .inl (cA, 62, .inl (jA (fun _ => 0)))), (q7, .inl (cA, 248, .inl (jA (fun _ => 0))))] := hD
  refine va_putF (D := (dC, dI)) (ci := 5) (v := .ref q7) (ty := (.array .int)) (C := RXM) (T := TXM) (N := 19) hx hb hts (fun w h => jmem (inXM w h)) tyXM tyXM_ok nXM hown hK hP hD hS 0 rfl rfl 11 (by decide) (hts _ (jmem tw_639)) (fun _ h9 => h9) rfl hin rfl (by decide +kernel) rfl rfl (Nat.le_of_ble_eq_true rfl) dXM_init_70 (fun H locs hP hD hS => ?_)
  have hP : va_P (dC, dI) vwCl [(ma, .inr (5, [.int (jI 0), .int (jI 0), .ref q0, .int (jI 0), .int (jI 0), .ref q1, .ref q2, .ref q3, .ref q4, .ref q5, .ref q6, .ref q7, .null, .null, .null, .long (jL 0), .long (jL 0), .int (jI 0), .null])), (q0, .inl (cA, 400, .inl (jA (fun _ => 0)))), (q1, .inl (cZ, 62, .inl (jA (fun _ => 0)))), (q2, .inl (cA, 62, .inl (jA (fun _ => 0)))), (q3, .inl (cZ, 496, .inl (jA (fun _ => 0)))), (q4, .inl (cA, 496, .inl (jA (fun _ => 0)))), (q5, .inl (cA, 496, .inl (jA (fun _ => 0)))), (q6, .inl (cA, 62, .inl (jA (fun _ => 0)))), (q7, .inl (cA, 248, .inl (jA (fun _ => 0))))] H := hP
  have hD : va_D A [(ma, .inr (5, [.int (jI 0), .int (jI 0), .ref q0, .int (jI 0), .int (jI 0), .ref q1, .ref q2, .ref q3, .ref q4, .ref q5, .ref q6, .ref q7, .null, .null, .null, .long (jL 0), .long (jL 0), .int (jI 0), .null])), (q0, .inl (cA, 400, .inl (jA (fun _ => 0)))), (q1, .inl (cZ, 62, .inl (jA (fun _ => 0)))), (q2, .inl (cA, 62, .inl (jA (fun _ => 0)))), (q3, .inl (cZ, 496, .inl (jA (fun _ => 0)))), (q4, .inl (cA, 496, .inl (jA (fun _ => 0)))), (q5, .inl (cA, 496, .inl (jA (fun _ => 0)))), (q6, .inl (cA, 62, .inl (jA (fun _ => 0)))), (q7, .inl (cA, 248, .inl (jA (fun _ => 0))))] := hD
  refine lv_aload_n hx hb dXM_init_73 rfl (lv_at hl 0 rfl) ?_
  refine ji_bipush hx hb dXM_init_74 (by decide) ?_
  refine ji_newz (N := 8) hx hb (hts _ (jmem tw_686)) hK hP hD hS hA 1 rfl rfl (by decide) (by rw [hR]; exact Nat.le_of_ble_eq_true rfl) (by rw [hR]; exact Nat.le_of_ble_eq_true rfl) dXM_init_76 (fun q8 H hP hD hS => ?_)
  have hP : va_P (dC, dI) vwCl [(ma, .inr (5, [.int (jI 0), .int (jI 0), .ref q0, .int (jI 0), .int (jI 0), .ref q1, .ref q2, .ref q3, .ref q4, .ref q5, .ref q6, .ref q7, .null, .null, .null, .long (jL 0), .long (jL 0), .int (jI 0), .null])), (q0, .inl (cA, 400, .inl (jA (fun _ => 0)))), (q1, .inl (cZ, 62, .inl (jA (fun _ => 0)))), (q2, .inl (cA, 62, .inl (jA (fun _ => 0)))), (q3, .inl (cZ, 496, .inl (jA (fun _ => 0)))), (q4, .inl (cA, 496, .inl (jA (fun _ => 0)))), (q5, .inl (cA, 496, .inl (jA (fun _ => 0)))), (q6, .inl (cA, 62, .inl (jA (fun _ => 0)))), (q7, .inl (cA, 248, .inl (jA (fun _ => 0)))), (q8, .inl (cZ, 8, .inl (jA (fun _ => 0))))] H := hP
  have hD : va_D A [(ma, .inr (5, [.int (jI 0), .int (jI 0), .ref q0, .int (jI 0), .int (jI 0), .ref q1, .ref q2, .ref q3, .ref q4, .ref q5, .ref q6, .ref q7, .null, .null, .null, .long (jL 0), .long (jL 0), .int (jI 0), .null])), (q0, .inl (cA, 400, .inl (jA (fun _ => 0)))), (q1, .inl (cZ, 62, .inl (jA (fun _ => 0)))), (q2, .inl (cA, 62, .inl (jA (fun _ => 0)))), (q3, .inl (cZ, 496, .inl (jA (fun _ => 0)))), (q4, .inl (cA, 496, .inl (jA (fun _ => 0)))), (q5, .inl (cA, 496, .inl (jA (fun _ => 0)))), (q6, .inl (cA, 62, .inl (jA (fun _ => 0)))), (q7, .inl (cA, 248, .inl (jA (fun _ => 0)))), (q8, .inl (cZ, 8, .inl (jA (fun _ => 0))))] := hD
  refine va_putF (D := (dC, dI)) (ci := 5) (v := .ref q8) (ty := (.array .boolean)) (C := RXM) (T := TXM) (N := 19) hx hb hts (fun w h => jmem (inXM w h)) tyXM tyXM_ok nXM hown hK hP hD hS 0 rfl rfl 12 (by decide) (hts _ (jmem tw_640)) (fun _ h9 => h9) rfl hin rfl (by decide +kernel) rfl rfl (Nat.le_of_ble_eq_true rfl) dXM_init_78 (fun H locs hP hD hS => ?_)
  have hP : va_P (dC, dI) vwCl [(ma, .inr (5, [.int (jI 0), .int (jI 0), .ref q0, .int (jI 0), .int (jI 0), .ref q1, .ref q2, .ref q3, .ref q4, .ref q5, .ref q6, .ref q7, .ref q8, .null, .null, .long (jL 0), .long (jL 0), .int (jI 0), .null])), (q0, .inl (cA, 400, .inl (jA (fun _ => 0)))), (q1, .inl (cZ, 62, .inl (jA (fun _ => 0)))), (q2, .inl (cA, 62, .inl (jA (fun _ => 0)))), (q3, .inl (cZ, 496, .inl (jA (fun _ => 0)))), (q4, .inl (cA, 496, .inl (jA (fun _ => 0)))), (q5, .inl (cA, 496, .inl (jA (fun _ => 0)))), (q6, .inl (cA, 62, .inl (jA (fun _ => 0)))), (q7, .inl (cA, 248, .inl (jA (fun _ => 0)))), (q8, .inl (cZ, 8, .inl (jA (fun _ => 0))))] H := hP
  have hD : va_D A [(ma, .inr (5, [.int (jI 0), .int (jI 0), .ref q0, .int (jI 0), .int (jI 0), .ref q1, .ref q2, .ref q3, .ref q4, .ref q5, .ref q6, .ref q7, .ref q8, .null, .null, .long (jL 0), .long (jL 0), .int (jI 0), .null])), (q0, .inl (cA, 400, .inl (jA (fun _ => 0)))), (q1, .inl (cZ, 62, .inl (jA (fun _ => 0)))), (q2, .inl (cA, 62, .inl (jA (fun _ => 0)))), (q3, .inl (cZ, 496, .inl (jA (fun _ => 0)))), (q4, .inl (cA, 496, .inl (jA (fun _ => 0)))), (q5, .inl (cA, 496, .inl (jA (fun _ => 0)))), (q6, .inl (cA, 62, .inl (jA (fun _ => 0)))), (q7, .inl (cA, 248, .inl (jA (fun _ => 0)))), (q8, .inl (cZ, 8, .inl (jA (fun _ => 0))))] := hD
  refine lv_aload_n hx hb dXM_init_81 rfl (lv_at hl 0 rfl) ?_
  refine ji_bipush hx hb dXM_init_82 (by decide) ?_
  refine ji_newa (N := 64) hx hb (hts _ (jmem tw_43)) hK hP hD hS hA 0 rfl rfl (by decide) (by rw [hR]; exact Nat.le_of_ble_eq_true rfl) (by rw [hR]; exact Nat.le_of_ble_eq_true rfl) dXM_init_84 (fun q9 H hP hD hS => ?_)
  have hP : va_P (dC, dI) vwCl [(ma, .inr (5, [.int (jI 0), .int (jI 0), .ref q0, .int (jI 0), .int (jI 0), .ref q1, .ref q2, .ref q3, .ref q4, .ref q5, .ref q6, .ref q7, .ref q8, .null, .null, .long (jL 0), .long (jL 0), .int (jI 0), .null])), (q0, .inl (cA, 400, .inl (jA (fun _ => 0)))), (q1, .inl (cZ, 62, .inl (jA (fun _ => 0)))), (q2, .inl (cA, 62, .inl (jA (fun _ => 0)))), (q3, .inl (cZ, 496, .inl (jA (fun _ => 0)))), (q4, .inl (cA, 496, .inl (jA (fun _ => 0)))), (q5, .inl (cA, 496, .inl (jA (fun _ => 0)))), (q6, .inl (cA, 62, .inl (jA (fun _ => 0)))), (q7, .inl (cA, 248, .inl (jA (fun _ => 0)))), (q8, .inl (cZ, 8, .inl (jA (fun _ => 0)))), (q9, .inl (cA, 64, .inl (jA (fun _ => 0))))] H := hP
  have hD : va_D A [(ma, .inr (5, [.int (jI 0), .int (jI 0), .ref q0, .int (jI 0), .int (jI 0), .ref q1, .ref q2, .ref q3, .ref q4, .ref q5, .ref q6, .ref q7, .ref q8, .null, .null, .long (jL 0), .long (jL 0), .int (jI 0), .null])), (q0, .inl (cA, 400, .inl (jA (fun _ => 0)))), (q1, .inl (cZ, 62, .inl (jA (fun _ => 0)))), (q2, .inl (cA, 62, .inl (jA (fun _ => 0)))), (q3, .inl (cZ, 496, .inl (jA (fun _ => 0)))), (q4, .inl (cA, 496, .inl (jA (fun _ => 0)))), (q5, .inl (cA, 496, .inl (jA (fun _ => 0)))), (q6, .inl (cA, 62, .inl (jA (fun _ => 0)))), (q7, .inl (cA, 248, .inl (jA (fun _ => 0)))), (q8, .inl (cZ, 8, .inl (jA (fun _ => 0)))), (q9, .inl (cA, 64, .inl (jA (fun _ => 0))))] := hD
  refine va_putF (D := (dC, dI)) (ci := 5) (v := .ref q9) (ty := (.array .int)) (C := RXM) (T := TXM) (N := 19) hx hb hts (fun w h => jmem (inXM w h)) tyXM tyXM_ok nXM hown hK hP hD hS 0 rfl rfl 13 (by decide) (hts _ (jmem tw_641)) (fun _ h9 => h9) rfl hin rfl (by decide +kernel) rfl rfl (Nat.le_of_ble_eq_true rfl) dXM_init_86 (fun H locs hP hD hS => ?_)
  have hP : va_P (dC, dI) vwCl [(ma, .inr (5, [.int (jI 0), .int (jI 0), .ref q0, .int (jI 0), .int (jI 0), .ref q1, .ref q2, .ref q3, .ref q4, .ref q5, .ref q6, .ref q7, .ref q8, .ref q9, .null, .long (jL 0), .long (jL 0), .int (jI 0), .null])), (q0, .inl (cA, 400, .inl (jA (fun _ => 0)))), (q1, .inl (cZ, 62, .inl (jA (fun _ => 0)))), (q2, .inl (cA, 62, .inl (jA (fun _ => 0)))), (q3, .inl (cZ, 496, .inl (jA (fun _ => 0)))), (q4, .inl (cA, 496, .inl (jA (fun _ => 0)))), (q5, .inl (cA, 496, .inl (jA (fun _ => 0)))), (q6, .inl (cA, 62, .inl (jA (fun _ => 0)))), (q7, .inl (cA, 248, .inl (jA (fun _ => 0)))), (q8, .inl (cZ, 8, .inl (jA (fun _ => 0)))), (q9, .inl (cA, 64, .inl (jA (fun _ => 0))))] H := hP
  have hD : va_D A [(ma, .inr (5, [.int (jI 0), .int (jI 0), .ref q0, .int (jI 0), .int (jI 0), .ref q1, .ref q2, .ref q3, .ref q4, .ref q5, .ref q6, .ref q7, .ref q8, .ref q9, .null, .long (jL 0), .long (jL 0), .int (jI 0), .null])), (q0, .inl (cA, 400, .inl (jA (fun _ => 0)))), (q1, .inl (cZ, 62, .inl (jA (fun _ => 0)))), (q2, .inl (cA, 62, .inl (jA (fun _ => 0)))), (q3, .inl (cZ, 496, .inl (jA (fun _ => 0)))), (q4, .inl (cA, 496, .inl (jA (fun _ => 0)))), (q5, .inl (cA, 496, .inl (jA (fun _ => 0)))), (q6, .inl (cA, 62, .inl (jA (fun _ => 0)))), (q7, .inl (cA, 248, .inl (jA (fun _ => 0)))), (q8, .inl (cZ, 8, .inl (jA (fun _ => 0)))), (q9, .inl (cA, 64, .inl (jA (fun _ => 0))))] := hD
  refine lv_aload_n hx hb dXM_init_89 rfl (lv_at hl 0 rfl) ?_
  refine ji_bipush hx hb dXM_init_90 (by decide) ?_
  refine ji_newa (N := 8) hx hb (hts _ (jmem tw_43)) hK hP hD hS hA 0 rfl rfl (by decide) (by rw [hR]; exact Nat.le_of_ble_eq_true rfl) (by rw [hR]; exact Nat.le_of_ble_eq_true rfl) dXM_init_92 (fun q10 H hP hD hS => ?_)
  have hP : va_P (dC, dI) vwCl [(ma, .inr (5, [.int (jI 0), .int (jI 0), .ref q0, .int (jI 0), .int (jI 0), .ref q1, .ref q2, .ref q3, .ref q4, .ref q5, .ref q6, .ref q7, .ref q8, .ref q9, .null, .long (jL 0), .long (jL 0), .int (jI 0), .null])), (q0, .inl (cA, 400, .inl (jA (fun _ => 0)))), (q1, .inl (cZ, 62, .inl (jA (fun _ => 0)))), (q2, .inl (cA, 62, .inl (jA (fun _ => 0)))), (q3, .inl (cZ, 496, .inl (jA (fun _ => 0)))), (q4, .inl (cA, 496, .inl (jA (fun _ => 0)))), (q5, .inl (cA, 496, .inl (jA (fun _ => 0)))), (q6, .inl (cA, 62, .inl (jA (fun _ => 0)))), (q7, .inl (cA, 248, .inl (jA (fun _ => 0)))), (q8, .inl (cZ, 8, .inl (jA (fun _ => 0)))), (q9, .inl (cA, 64, .inl (jA (fun _ => 0)))), (q10, .inl (cA, 8, .inl (jA (fun _ => 0))))] H := hP
  have hD : va_D A [(ma, .inr (5, [.int (jI 0), .int (jI 0), .ref q0, .int (jI 0), .int (jI 0), .ref q1, .ref q2, .ref q3, .ref q4, .ref q5, .ref q6, .ref q7, .ref q8, .ref q9, .null, .long (jL 0), .long (jL 0), .int (jI 0), .null])), (q0, .inl (cA, 400, .inl (jA (fun _ => 0)))), (q1, .inl (cZ, 62, .inl (jA (fun _ => 0)))), (q2, .inl (cA, 62, .inl (jA (fun _ => 0)))), (q3, .inl (cZ, 496, .inl (jA (fun _ => 0)))), (q4, .inl (cA, 496, .inl (jA (fun _ => 0)))), (q5, .inl (cA, 496, .inl (jA (fun _ => 0)))), (q6, .inl (cA, 62, .inl (jA (fun _ => 0)))), (q7, .inl (cA, 248, .inl (jA (fun _ => 0)))), (q8, .inl (cZ, 8, .inl (jA (fun _ => 0)))), (q9, .inl (cA, 64, .inl (jA (fun _ => 0)))), (q10, .inl (cA, 8, .inl (jA (fun _ => 0))))] := hD
  refine va_putF (D := (dC, dI)) (ci := 5) (v := .ref q10) (ty := (.array .int)) (C := RXM) (T := TXM) (N := 19) hx hb hts (fun w h => jmem (inXM w h)) tyXM tyXM_ok nXM hown hK hP hD hS 0 rfl rfl 14 (by decide) (hts _ (jmem tw_642)) (fun _ h9 => h9) rfl hin rfl (by decide +kernel) rfl rfl (Nat.le_of_ble_eq_true rfl) dXM_init_94 (fun H locs hP hD hS => ?_)
  have hP : va_P (dC, dI) vwCl [(ma, .inr (5, [.int (jI 0), .int (jI 0), .ref q0, .int (jI 0), .int (jI 0), .ref q1, .ref q2, .ref q3, .ref q4, .ref q5, .ref q6, .ref q7, .ref q8, .ref q9, .ref q10, .long (jL 0), .long (jL 0), .int (jI 0), .null])), (q0, .inl (cA, 400, .inl (jA (fun _ => 0)))), (q1, .inl (cZ, 62, .inl (jA (fun _ => 0)))), (q2, .inl (cA, 62, .inl (jA (fun _ => 0)))), (q3, .inl (cZ, 496, .inl (jA (fun _ => 0)))), (q4, .inl (cA, 496, .inl (jA (fun _ => 0)))), (q5, .inl (cA, 496, .inl (jA (fun _ => 0)))), (q6, .inl (cA, 62, .inl (jA (fun _ => 0)))), (q7, .inl (cA, 248, .inl (jA (fun _ => 0)))), (q8, .inl (cZ, 8, .inl (jA (fun _ => 0)))), (q9, .inl (cA, 64, .inl (jA (fun _ => 0)))), (q10, .inl (cA, 8, .inl (jA (fun _ => 0))))] H := hP
  have hD : va_D A [(ma, .inr (5, [.int (jI 0), .int (jI 0), .ref q0, .int (jI 0), .int (jI 0), .ref q1, .ref q2, .ref q3, .ref q4, .ref q5, .ref q6, .ref q7, .ref q8, .ref q9, .ref q10, .long (jL 0), .long (jL 0), .int (jI 0), .null])), (q0, .inl (cA, 400, .inl (jA (fun _ => 0)))), (q1, .inl (cZ, 62, .inl (jA (fun _ => 0)))), (q2, .inl (cA, 62, .inl (jA (fun _ => 0)))), (q3, .inl (cZ, 496, .inl (jA (fun _ => 0)))), (q4, .inl (cA, 496, .inl (jA (fun _ => 0)))), (q5, .inl (cA, 496, .inl (jA (fun _ => 0)))), (q6, .inl (cA, 62, .inl (jA (fun _ => 0)))), (q7, .inl (cA, 248, .inl (jA (fun _ => 0)))), (q8, .inl (cZ, 8, .inl (jA (fun _ => 0)))), (q9, .inl (cA, 64, .inl (jA (fun _ => 0)))), (q10, .inl (cA, 8, .inl (jA (fun _ => 0))))] := hD
  refine lv_aload_n hx hb dXM_init_97 rfl (lv_at hl 0 rfl) ?_
  refine ji_sipush hx hb dXM_init_98 (by decide) ?_
  refine ji_newa (N := 300) hx hb (hts _ (jmem tw_43)) hK hP hD hS hA 0 rfl rfl (by decide) (by rw [hR]; exact Nat.le_of_ble_eq_true rfl) (by rw [hR]; exact Nat.le_of_ble_eq_true rfl) dXM_init_101 (fun q11 H hP hD hS => ?_)
  have hP : va_P (dC, dI) vwCl [(ma, .inr (5, [.int (jI 0), .int (jI 0), .ref q0, .int (jI 0), .int (jI 0), .ref q1, .ref q2, .ref q3, .ref q4, .ref q5, .ref q6, .ref q7, .ref q8, .ref q9, .ref q10, .long (jL 0), .long (jL 0), .int (jI 0), .null])), (q0, .inl (cA, 400, .inl (jA (fun _ => 0)))), (q1, .inl (cZ, 62, .inl (jA (fun _ => 0)))), (q2, .inl (cA, 62, .inl (jA (fun _ => 0)))), (q3, .inl (cZ, 496, .inl (jA (fun _ => 0)))), (q4, .inl (cA, 496, .inl (jA (fun _ => 0)))), (q5, .inl (cA, 496, .inl (jA (fun _ => 0)))), (q6, .inl (cA, 62, .inl (jA (fun _ => 0)))), (q7, .inl (cA, 248, .inl (jA (fun _ => 0)))), (q8, .inl (cZ, 8, .inl (jA (fun _ => 0)))), (q9, .inl (cA, 64, .inl (jA (fun _ => 0)))), (q10, .inl (cA, 8, .inl (jA (fun _ => 0)))), (q11, .inl (cA, 300, .inl (jA (fun _ => 0))))] H := hP
  have hD : va_D A [(ma, .inr (5, [.int (jI 0), .int (jI 0), .ref q0, .int (jI 0), .int (jI 0), .ref q1, .ref q2, .ref q3, .ref q4, .ref q5, .ref q6, .ref q7, .ref q8, .ref q9, .ref q10, .long (jL 0), .long (jL 0), .int (jI 0), .null])), (q0, .inl (cA, 400, .inl (jA (fun _ => 0)))), (q1, .inl (cZ, 62, .inl (jA (fun _ => 0)))), (q2, .inl (cA, 62, .inl (jA (fun _ => 0)))), (q3, .inl (cZ, 496, .inl (jA (fun _ => 0)))), (q4, .inl (cA, 496, .inl (jA (fun _ => 0)))), (q5, .inl (cA, 496, .inl (jA (fun _ => 0)))), (q6, .inl (cA, 62, .inl (jA (fun _ => 0)))), (q7, .inl (cA, 248, .inl (jA (fun _ => 0)))), (q8, .inl (cZ, 8, .inl (jA (fun _ => 0)))), (q9, .inl (cA, 64, .inl (jA (fun _ => 0)))), (q10, .inl (cA, 8, .inl (jA (fun _ => 0)))), (q11, .inl (cA, 300, .inl (jA (fun _ => 0))))] := hD
  refine va_putF (D := (dC, dI)) (ci := 5) (v := .ref q11) (ty := (.array .int)) (C := RXM) (T := TXM) (N := 19) hx hb hts (fun w h => jmem (inXM w h)) tyXM tyXM_ok nXM hown hK hP hD hS 0 rfl rfl 18 (by decide) (hts _ (jmem tw_646)) (fun _ h9 => h9) rfl hin rfl (by decide +kernel) rfl rfl (Nat.le_of_ble_eq_true rfl) dXM_init_103 (fun H locs hP hD hS => ?_)
  have hP : va_P (dC, dI) vwCl [(ma, .inr (5, [.int (jI 0), .int (jI 0), .ref q0, .int (jI 0), .int (jI 0), .ref q1, .ref q2, .ref q3, .ref q4, .ref q5, .ref q6, .ref q7, .ref q8, .ref q9, .ref q10, .long (jL 0), .long (jL 0), .int (jI 0), .ref q11])), (q0, .inl (cA, 400, .inl (jA (fun _ => 0)))), (q1, .inl (cZ, 62, .inl (jA (fun _ => 0)))), (q2, .inl (cA, 62, .inl (jA (fun _ => 0)))), (q3, .inl (cZ, 496, .inl (jA (fun _ => 0)))), (q4, .inl (cA, 496, .inl (jA (fun _ => 0)))), (q5, .inl (cA, 496, .inl (jA (fun _ => 0)))), (q6, .inl (cA, 62, .inl (jA (fun _ => 0)))), (q7, .inl (cA, 248, .inl (jA (fun _ => 0)))), (q8, .inl (cZ, 8, .inl (jA (fun _ => 0)))), (q9, .inl (cA, 64, .inl (jA (fun _ => 0)))), (q10, .inl (cA, 8, .inl (jA (fun _ => 0)))), (q11, .inl (cA, 300, .inl (jA (fun _ => 0))))] H := hP
  have hD : va_D A [(ma, .inr (5, [.int (jI 0), .int (jI 0), .ref q0, .int (jI 0), .int (jI 0), .ref q1, .ref q2, .ref q3, .ref q4, .ref q5, .ref q6, .ref q7, .ref q8, .ref q9, .ref q10, .long (jL 0), .long (jL 0), .int (jI 0), .ref q11])), (q0, .inl (cA, 400, .inl (jA (fun _ => 0)))), (q1, .inl (cZ, 62, .inl (jA (fun _ => 0)))), (q2, .inl (cA, 62, .inl (jA (fun _ => 0)))), (q3, .inl (cZ, 496, .inl (jA (fun _ => 0)))), (q4, .inl (cA, 496, .inl (jA (fun _ => 0)))), (q5, .inl (cA, 496, .inl (jA (fun _ => 0)))), (q6, .inl (cA, 62, .inl (jA (fun _ => 0)))), (q7, .inl (cA, 248, .inl (jA (fun _ => 0)))), (q8, .inl (cZ, 8, .inl (jA (fun _ => 0)))), (q9, .inl (cA, 64, .inl (jA (fun _ => 0)))), (q10, .inl (cA, 8, .inl (jA (fun _ => 0)))), (q11, .inl (cA, 300, .inl (jA (fun _ => 0))))] := hD
  refine ji_iconst hx hb dXM_init_106 ?_
  refine lv_istore_n (lv' := [(1, .int (jI 0)), (0, .ref ma)]) hx hb dXM_init_107 rfl hl (by decide) rfl (fun ls hl => ?_)
  have loop108 : ∀ (n9 : Nat) (k : Int) (w7 : Int → Int) , 248 - k < (n9 : Int) → (0 ≤ k ∧ k ≤ 248) → (∀ i, -1 ≤ w7 i ∧ w7 i ≤ 999999) → ∀ (H : Heap) (locs : List Loc), va_P (dC, dI) vwCl [(ma, .inr (5, [.int (jI 0), .int (jI 0), .ref q0, .int (jI 0), .int (jI 0), .ref q1, .ref q2, .ref q3, .ref q4, .ref q5, .ref q6, .ref q7, .ref q8, .ref q9, .ref q10, .long (jL 0), .long (jL 0), .int (jI 0), .ref q11])), (q0, .inl (cA, 400, .inl (jA (fun _ => 0)))), (q1, .inl (cZ, 62, .inl (jA (fun _ => 0)))), (q2, .inl (cA, 62, .inl (jA (fun _ => 0)))), (q3, .inl (cZ, 496, .inl (jA (fun _ => 0)))), (q4, .inl (cA, 496, .inl (jA (fun _ => 0)))), (q5, .inl (cA, 496, .inl (jA (fun _ => 0)))), (q6, .inl (cA, 62, .inl (jA (fun _ => 0)))), (q7, .inl (cA, 248, .inl (jA w7))), (q8, .inl (cZ, 8, .inl (jA (fun _ => 0)))), (q9, .inl (cA, 64, .inl (jA (fun _ => 0)))), (q10, .inl (cA, 8, .inl (jA (fun _ => 0)))), (q11, .inl (cA, 300, .inl (jA (fun _ => 0))))] H → va_D A [(ma, .inr (5, [.int (jI 0), .int (jI 0), .ref q0, .int (jI 0), .int (jI 0), .ref q1, .ref q2, .ref q3, .ref q4, .ref q5, .ref q6, .ref q7, .ref q8, .ref q9, .ref q10, .long (jL 0), .long (jL 0), .int (jI 0), .ref q11])), (q0, .inl (cA, 400, .inl (jA (fun _ => 0)))), (q1, .inl (cZ, 62, .inl (jA (fun _ => 0)))), (q2, .inl (cA, 62, .inl (jA (fun _ => 0)))), (q3, .inl (cZ, 496, .inl (jA (fun _ => 0)))), (q4, .inl (cA, 496, .inl (jA (fun _ => 0)))), (q5, .inl (cA, 496, .inl (jA (fun _ => 0)))), (q6, .inl (cA, 62, .inl (jA (fun _ => 0)))), (q7, .inl (cA, 248, .inl (jA w7))), (q8, .inl (cZ, 8, .inl (jA (fun _ => 0)))), (q9, .inl (cA, 64, .inl (jA (fun _ => 0)))), (q10, .inl (cA, 8, .inl (jA (fun _ => 0)))), (q11, .inl (cA, 300, .inl (jA (fun _ => 0))))] → va_S A s.heap H locs → ∀ ls : Array Slot, lv_has ls 2 [(1, .int (jI k)), (0, .ref ma)] → W p l e R s m ([.ref ma] : List Value).toArray below meth c H locs 12 2702 Q (F0 m 108 ls []) := by
    intro n9
    induction n9 with
    | zero =>
      intro k w7 hm hk hw7
      exact absurd hm (by omega)
    | succ n9 ih108 =>
      intro k w7 hm hk hw7 H locs hP hD hS ls hl
      refine lv_iload_n hx hb dXM_init_108 rfl (lv_at hl 0 rfl) ?_
      refine ji_sipush hx hb dXM_init_109 (by decide) ?_
      refine ji_icmp_ge (tgt := 128) hx hb dXM_init_112 (by decide) (by first | omega | decide) (by first | omega | decide) (fun c112_ => ?_) (fun c112_ => ?_)
      · refine W.widen (k := 12) (n := 2702) (Nat.le_of_ble_eq_true rfl) (Nat.le_of_ble_eq_true rfl) ?_
        have hP9 := hP.sub (ws' := [(ma, .inr (5, [.int (jI 0), .int (jI 0), .ref q0, .int (jI 0), .int (jI 0), .ref q1, .ref q2, .ref q3, .ref q4, .ref q5, .ref q6, .ref q7, .ref q8, .ref q9, .ref q10, .long (jL 0), .long (jL 0), .int (jI 0), .ref q11])), (q0, .inl (cA, 400, .inl (jA (fun _ => 0)))), (q1, .inl (cZ, 62, .inl (jA (fun _ => 0)))), (q2, .inl (cA, 62, .inl (jA (fun _ => 0)))), (q3, .inl (cZ, 496, .inl (jA (fun _ => 0)))), (q4, .inl (cA, 496, .inl (jA (fun _ => 0)))), (q5, .inl (cA, 496, .inl (jA (fun _ => 0)))), (q6, .inl (cA, 62, .inl (jA (fun _ => 0)))), (q7, .inl (cA, 248, .inl (jA w7))), (q8, .inl (cZ, 8, .inl (jA (fun _ => 0)))), (q9, .inl (cA, 64, .inl (jA (fun _ => 0)))), (q10, .inl (cA, 8, .inl (jA (fun _ => 0)))), (q11, .inl (cA, 300, .inl (jA (fun _ => 0))))]) [0, 1, 2, 3, 4, 5, 6, 7, 8, 9, 10, 11, 12] rfl
        have hD9 := hD.sub (ws' := [(ma, .inr (5, [.int (jI 0), .int (jI 0), .ref q0, .int (jI 0), .int (jI 0), .ref q1, .ref q2, .ref q3, .ref q4, .ref q5, .ref q6, .ref q7, .ref q8, .ref q9, .ref q10, .long (jL 0), .long (jL 0), .int (jI 0), .ref q11])), (q0, .inl (cA, 400, .inl (jA (fun _ => 0)))), (q1, .inl (cZ, 62, .inl (jA (fun _ => 0)))), (q2, .inl (cA, 62, .inl (jA (fun _ => 0)))), (q3, .inl (cZ, 496, .inl (jA (fun _ => 0)))), (q4, .inl (cA, 496, .inl (jA (fun _ => 0)))), (q5, .inl (cA, 496, .inl (jA (fun _ => 0)))), (q6, .inl (cA, 62, .inl (jA (fun _ => 0)))), (q7, .inl (cA, 248, .inl (jA w7))), (q8, .inl (cZ, 8, .inl (jA (fun _ => 0)))), (q9, .inl (cA, 64, .inl (jA (fun _ => 0)))), (q10, .inl (cA, 8, .inl (jA (fun _ => 0)))), (q11, .inl (cA, 300, .inl (jA (fun _ => 0))))]) [0, 1, 2, 3, 4, 5, 6, 7, 8, 9, 10, 11, 12] (by decide) rfl
        subst hAe
        subst hQ
        exact W.vret hx hb hr (fun t ht hW => ⟨⟨(q0, q1, q2, q3, q4, q5, q6, q7, q8, q9, q10, q11, w7), rfl, (show ∀ i, -1 ≤ w7 i ∧ w7 i ≤ 999999 from by first | assumption | omega | exact jset_b (by assumption) (by omega)), ⟨by rw [ht]; exact hP9, va_K.moved hW.alike hK, hD9⟩⟩, hS.F ht⟩) hS.2.2 dXM_init_128
      · refine lv_aload_n hx hb dXM_init_115 rfl (lv_at hl 1 rfl) ?_
        refine va_get (D := (dC, dI)) (ci := 5) (v := .ref q7) (C := RXM) (T := TXM) (N := 19) hx hb hts (fun w h => jmem (inXM w h)) hown hK hP 0 rfl rfl 11 (by decide) (hts _ (jmem tw_639)) (fun _ h9 => h9) rfl dXM_init_116 ?_
        refine lv_iload_n hx hb dXM_init_119 rfl (lv_at hl 0 rfl) ?_
        refine ji_iconst hx hb dXM_init_120 ?_
        refine ji_iast hx hb hK hP hD hS 8 0 rfl rfl ⟨by omega, by omega⟩ (by decide) dXM_init_121 (fun H locs hP hD hS => ?_)
        have hP : va_P (dC, dI) vwCl [(ma, .inr (5, [.int (jI 0), .int (jI 0), .ref q0, .int (jI 0), .int (jI 0), .ref q1, .ref q2, .ref q3, .ref q4, .ref q5, .ref q6, .ref q7, .ref q8, .ref q9, .ref q10, .long (jL 0), .long (jL 0), .int (jI 0), .ref q11])), (q0, .inl (cA, 400, .inl (jA (fun _ => 0)))), (q1, .inl (cZ, 62, .inl (jA (fun _ => 0)))), (q2, .inl (cA, 62, .inl (jA (fun _ => 0)))), (q3, .inl (cZ, 496, .inl (jA (fun _ => 0)))), (q4, .inl (cA, 496, .inl (jA (fun _ => 0)))), (q5, .inl (cA, 496, .inl (jA (fun _ => 0)))), (q6, .inl (cA, 62, .inl (jA (fun _ => 0)))), (q7, .inl (cA, 248, .inl (jA (jset w7 k (-1))))), (q8, .inl (cZ, 8, .inl (jA (fun _ => 0)))), (q9, .inl (cA, 64, .inl (jA (fun _ => 0)))), (q10, .inl (cA, 8, .inl (jA (fun _ => 0)))), (q11, .inl (cA, 300, .inl (jA (fun _ => 0))))] H := hP
        have hD : va_D A [(ma, .inr (5, [.int (jI 0), .int (jI 0), .ref q0, .int (jI 0), .int (jI 0), .ref q1, .ref q2, .ref q3, .ref q4, .ref q5, .ref q6, .ref q7, .ref q8, .ref q9, .ref q10, .long (jL 0), .long (jL 0), .int (jI 0), .ref q11])), (q0, .inl (cA, 400, .inl (jA (fun _ => 0)))), (q1, .inl (cZ, 62, .inl (jA (fun _ => 0)))), (q2, .inl (cA, 62, .inl (jA (fun _ => 0)))), (q3, .inl (cZ, 496, .inl (jA (fun _ => 0)))), (q4, .inl (cA, 496, .inl (jA (fun _ => 0)))), (q5, .inl (cA, 496, .inl (jA (fun _ => 0)))), (q6, .inl (cA, 62, .inl (jA (fun _ => 0)))), (q7, .inl (cA, 248, .inl (jA (jset w7 k (-1))))), (q8, .inl (cZ, 8, .inl (jA (fun _ => 0)))), (q9, .inl (cA, 64, .inl (jA (fun _ => 0)))), (q10, .inl (cA, 8, .inl (jA (fun _ => 0)))), (q11, .inl (cA, 300, .inl (jA (fun _ => 0))))] := hD
        refine ji_iinc (k := 0) (lv' := [(1, .int (jI (k + 1))), (0, .ref ma)]) hx hb dXM_init_122 hl rfl (by decide) rfl (fun ls hl => ?_)
        refine lv_goto (tgt := 108) hx hb dXM_init_125 (by decide) ?_
        exact ih108 (k + 1) (jset w7 k (-1)) (by omega) (by first | assumption | omega | exact jset_b (by assumption) (by omega)) (by first | assumption | omega | exact jset_b (by assumption) (by omega)) _ _ hP hD hS ls (lv_sub hl [0, 1] rfl)
  exact loop108 (Int.toNat (248 - 0) + 1) 0 (fun _ => 0) (by omega) (by first | assumption | omega | exact jset_b (by assumption) (by omega)) (fun _ => ⟨by decide, by decide⟩) _ _ hP hD hS ls (lv_sub hl [0, 1] rfl)

end
