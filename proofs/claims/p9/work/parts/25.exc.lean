/-! statics that hold a reference, and stay so -/
def zSt (O f d : String) (A : Nat → Prop) (U : State) (H : Heap) : Prop := ∃ (c : ClassId) (k : Class) (i : Nat) (fd : Field) (a : Nat) (cell : Cell) (v : Value), U.vm.findClass O = some c ∧ U.fieldFound? O f d = some (c, k, i, fd) ∧ fd.isStatic = true ∧ k.statics = some a ∧ H[a]? = some cell ∧ cell.vm.isStatics = true ∧ cell.cls = c ∧ fd.slot < cell.slots.size ∧ k.staticTypes[fd.slot]? = some fd.type ∧ cell.slots[fd.slot]? = some v ∧ (v = .null ∨ ∃ x, v = .ref x) ∧ ¬ A a
theorem zSt.lays {O f d : String} {A : Nat → Prop} {s : State} (h : zSt O f d A s s.heap) (args : Array Value) : (Cond.laysStatic O f d).before args s = true := by
  obtain ⟨c, k, i, fd, a, cell, v, hc, hf, hst, hsta, hcell, hiss, hcls, hlt, hty, -⟩ := h
  simp [Cond.before, Cond.holds, Cond.value, hc, hf, hst, hsta, hcell, hiss, hcls, hlt, hty]
theorem zSt.ref {O f d : String} {A : Nat → Prop} {s : State} (h : zSt O f d A s s.heap) (args : Array Value) : (Cond.isRef (.static O f d)).before args s = true := by
  obtain ⟨c, k, i, fd, a, cell, v, hc, hf, hst, hsta, hcell, hiss, hcls, hlt, hty, hv, hr, -⟩ := h
  have he : (Term.static O f d).eval args s none [] s = some v := by
    simp [Term.eval, State.fieldNamed?, hf, hst, hsta, hcell, hiss, hv]
  simp only [Cond.before, Cond.holds, Cond.value, he]
  rcases hr with e | ⟨x, e⟩ <;> simp [e]
theorem zSt.of {O f d : String} {A : Nat → Prop} {s : State} {args : Array Value} (hl : (Cond.laysStatic O f d).before args s = true) (hr : (Cond.isRef (.static O f d)).before args s = true) (hA : ∀ a : Nat, a < s.heap.size → ¬ A a) : zSt O f d A s s.heap := by
  obtain ⟨c, k, i, fd, a, cell, hc, hf, hst, hsta, hcell, hiss, hcls, hlt, hty⟩ := Cond.laysStatic_spec hl
  have hv : cell.slots[fd.slot]? = some cell.slots[fd.slot] := Array.getElem?_eq_getElem hlt
  have he : (Term.static O f d).eval args s none [] s = some cell.slots[fd.slot] := by
    simp [Term.eval, State.fieldNamed?, hf, hst, hsta, hcell, hiss, hv]
  refine ⟨c, k, i, fd, a, cell, _, hc, hf, hst, hsta, hcell, hiss, hcls, hlt, hty, hv, ?_, hA a (Array.getElem?_eq_some_iff.mp hcell).1⟩
  simp only [Cond.before, Cond.holds, Cond.value, he] at hr
  cases hw : cell.slots[fd.slot] with
  | null => exact Or.inl rfl
  | ref t => exact Or.inr ⟨t, rfl⟩
  | _ => simp [hw] at hr
theorem zSt.moved {O f d : String} {A : Nat → Prop} {u U : State} {H : Heap} (hvm : u.vm.Alike U.vm) (h : zSt O f d A u H) : zSt O f d A U H := by
  obtain ⟨c, k, i, fd, a, cell, v, hc, hf, hst, hsta, hcell, hiss, hcls, hlt, hty, hv⟩ := h
  obtain ⟨k', hi', he⟩ := State.fieldFound?_setVm hvm hf
  exact ⟨c, k', i, fd, a, cell, v, by rw [hvm.findClass]; exact hc, hi', hst, by rw [he]; exact hsta, hcell, hiss, hcls, hlt, by rw [he]; exact hty, hv⟩
theorem zSt.kept {O f d : String} {A : Nat → Prop} {U : State} {H H1 : Heap} (h : zSt O f d A U H) (hq : ∀ a : Nat, a < H.size → ¬ A a → H1[a]? = H[a]?) : zSt O f d A U H1 := by
  obtain ⟨c, k, i, fd, a, cell, v, hc, hf, hst, hsta, hcell, hiss, hcls, hlt, hty, hv, hr, hA⟩ := h
  exact ⟨c, k, i, fd, a, cell, v, hc, hf, hst, hsta, by rw [hq a (Array.getElem?_eq_some_iff.mp hcell).1 hA]; exact hcell, hiss, hcls, hlt, hty, hv, hr, hA⟩
/-! all that a throw rests on beside the good words -/
def jX (A : Nat → Prop) (U : State) : Prop := zSt Bundle.tN "UNASSIGNED_STACK" Bundle.steD A U U.heap ∧ zSt Bundle.tN "SUPPRESSED_SENTINEL" Bundle.listD A U U.heap ∧ va_Nw (Cond.declares (Bundle.initS "java/lang/RuntimeException")) U ∧ va_Nw (Cond.declares (Bundle.initS "java/lang/Exception")) U ∧ va_Nw (Cond.declares (Bundle.initS "java/lang/Throwable")) U ∧ va_Nw (Cond.castable "java/lang/IndexOutOfBoundsException" "java/lang/IndexOutOfBoundsException") U ∧ va_Nw (Cond.castable "java/lang/IllegalStateException" "java/lang/IllegalStateException") U ∧ va_Nw (Cond.castable "java/lang/IllegalArgumentException" "java/lang/IllegalArgumentException") U ∧ va_Nw (Cond.castable "java/lang/UnsupportedOperationException" "java/lang/UnsupportedOperationException") U ∧ (∃ a, vk_R RXG 51 "1 to 8 bytes" a U) ∧ (∃ a, vk_R RXG 62 "a tape has at most 400 bytes" a U) ∧ (∃ a, vk_R RXG 165 "no such grade" a U) ∧ (∃ a, vk_R RXG 168 "no such element, kind, end or part" a U) ∧ (∃ a, vk_R RXG 177 "the kind has no formula" a U) ∧ (∃ a, vk_R RXG 121 "a share is 0 to 100,000" a U) ∧ (∃ a, vk_R RXG 170 "below 0" a U)
theorem jX.warm {A : Nat → Prop} {s U : State} (hW : s.WarmedH U.vm) (hh : U.heap = s.heap) (hX : jX A s) : jX A U := by
  obtain ⟨h0, h1, h2, h3, h4, h5, h6, h7, h8, h9, h10, h11, h12, h13, h14, h15⟩ := hX
  exact ⟨by rw [hh]; exact h0.moved hW.alike, by rw [hh]; exact h1.moved hW.alike, va_Nw.warmD hW h2, va_Nw.warmD hW h3, va_Nw.warmD hW h4, va_Nw.warmC hW h5, va_Nw.warmC hW h6, va_Nw.warmC hW h7, va_Nw.warmC hW h8, h9.imp (fun _ h => vk_R.warm hW h), h10.imp (fun _ h => vk_R.warm hW h), h11.imp (fun _ h => vk_R.warm hW h), h12.imp (fun _ h => vk_R.warm hW h), h13.imp (fun _ h => vk_R.warm hW h), h14.imp (fun _ h => vk_R.warm hW h), h15.imp (fun _ h => vk_R.warm hW h)⟩
theorem jX.same {A : Nat → Prop} {u U : State} (hv : u.vm = U.vm) (hh : U.heap = u.heap) (hX : jX A u) : jX A U := by
  obtain ⟨h0, h1, h2, h3, h4, h5, h6, h7, h8, h9, h10, h11, h12, h13, h14, h15⟩ := hX
  exact ⟨by rw [hh]; exact h0.moved (by rw [hv]; exact Vm.Alike.refl U.vm), by rw [hh]; exact h1.moved (by rw [hv]; exact Vm.Alike.refl U.vm), va_Nw.same rfl hv h2, va_Nw.same rfl hv h3, va_Nw.same rfl hv h4, va_Nw.same rfl hv h5, va_Nw.same rfl hv h6, va_Nw.same rfl hv h7, va_Nw.same rfl hv h8, h9.imp (fun _ h => vk_R.same hv.symm h), h10.imp (fun _ h => vk_R.same hv.symm h), h11.imp (fun _ h => vk_R.same hv.symm h), h12.imp (fun _ h => vk_R.same hv.symm h), h13.imp (fun _ h => vk_R.same hv.symm h), h14.imp (fun _ h => vk_R.same hv.symm h), h15.imp (fun _ h => vk_R.same hv.symm h)⟩
theorem jX.s51 {A : Nat → Prop} {U : State} (hX : jX A U) : ∃ a, vk_R RXG 51 "1 to 8 bytes" a U := hX.2.2.2.2.2.2.2.2.2.1
theorem jX.s62 {A : Nat → Prop} {U : State} (hX : jX A U) : ∃ a, vk_R RXG 62 "a tape has at most 400 bytes" a U := hX.2.2.2.2.2.2.2.2.2.2.1
theorem jX.s165 {A : Nat → Prop} {U : State} (hX : jX A U) : ∃ a, vk_R RXG 165 "no such grade" a U := hX.2.2.2.2.2.2.2.2.2.2.2.1
theorem jX.s168 {A : Nat → Prop} {U : State} (hX : jX A U) : ∃ a, vk_R RXG 168 "no such element, kind, end or part" a U := hX.2.2.2.2.2.2.2.2.2.2.2.2.1
theorem jX.s177 {A : Nat → Prop} {U : State} (hX : jX A U) : ∃ a, vk_R RXG 177 "the kind has no formula" a U := hX.2.2.2.2.2.2.2.2.2.2.2.2.2.1
theorem jX.s121 {A : Nat → Prop} {U : State} (hX : jX A U) : ∃ a, vk_R RXG 121 "a share is 0 to 100,000" a U := hX.2.2.2.2.2.2.2.2.2.2.2.2.2.2.1
theorem jX.s170 {A : Nat → Prop} {U : State} (hX : jX A U) : ∃ a, vk_R RXG 170 "below 0" a U := hX.2.2.2.2.2.2.2.2.2.2.2.2.2.2.2
theorem xA_XIO : (Bundle.ownAtoms RXG 167 "java/lang/IndexOutOfBoundsException" ["java/lang/RuntimeException", "java/lang/Exception"]).all (fun w => (decide (w ∈ tables_1) && goodWord w) || decide (w ∈ ([.laysStatic Bundle.tN "UNASSIGNED_STACK" Bundle.steD, .laysStatic Bundle.tN "SUPPRESSED_SENTINEL" Bundle.listD, .isRef (.static Bundle.tN "UNASSIGNED_STACK" Bundle.steD), .isRef (.static Bundle.tN "SUPPRESSED_SENTINEL" Bundle.listD), .declares (Bundle.initS "java/lang/RuntimeException"), .declares (Bundle.initS "java/lang/Exception"), .declares (Bundle.initS "java/lang/Throwable"), .castable "java/lang/IndexOutOfBoundsException" "java/lang/IndexOutOfBoundsException"] : List Cond))) = true := by decide +kernel
theorem jX.atoms_XIO {A : Nat → Prop} {s : State} {args : Array Value} {c0 : Cond} (hts : ∀ w ∈ c0 :: TBL, w.before args s = true) (hX : jX A s) : ∀ w ∈ Bundle.ownAtoms RXG 167 "java/lang/IndexOutOfBoundsException" ["java/lang/RuntimeException", "java/lang/Exception"], w.before args s = true := by
  intro w hw
  have h1 := List.all_eq_true.mp xA_XIO w hw
  simp only [Bool.or_eq_true, Bool.and_eq_true, decide_eq_true_eq] at h1
  rcases h1 with h1 | h1
  · exact hts w (jmem (tmem (List.mem_append_right _ h1.1) h1.2))
  · simp only [List.mem_cons, List.not_mem_nil, or_false] at h1
    rcases h1 with rfl | rfl | rfl | rfl | rfl | rfl | rfl | rfl
    · exact (hX.1).lays args
    · exact (hX.2.1).lays args
    · exact (hX.1).ref args
    · exact (hX.2.1).ref args
    · exact va_Nw.use rfl (hX.2.2.1)
    · exact va_Nw.use rfl (hX.2.2.2.1)
    · exact va_Nw.use rfl (hX.2.2.2.2.1)
    · exact va_Nw.use rfl (hX.2.2.2.2.2.1)
theorem xA_XIS : (Bundle.ownAtoms RXG 179 "java/lang/IllegalStateException" ["java/lang/RuntimeException", "java/lang/Exception"]).all (fun w => (decide (w ∈ tables_1) && goodWord w) || decide (w ∈ ([.laysStatic Bundle.tN "UNASSIGNED_STACK" Bundle.steD, .laysStatic Bundle.tN "SUPPRESSED_SENTINEL" Bundle.listD, .isRef (.static Bundle.tN "UNASSIGNED_STACK" Bundle.steD), .isRef (.static Bundle.tN "SUPPRESSED_SENTINEL" Bundle.listD), .declares (Bundle.initS "java/lang/RuntimeException"), .declares (Bundle.initS "java/lang/Exception"), .declares (Bundle.initS "java/lang/Throwable"), .castable "java/lang/IllegalStateException" "java/lang/IllegalStateException"] : List Cond))) = true := by decide +kernel
theorem jX.atoms_XIS {A : Nat → Prop} {s : State} {args : Array Value} {c0 : Cond} (hts : ∀ w ∈ c0 :: TBL, w.before args s = true) (hX : jX A s) : ∀ w ∈ Bundle.ownAtoms RXG 179 "java/lang/IllegalStateException" ["java/lang/RuntimeException", "java/lang/Exception"], w.before args s = true := by
  intro w hw
  have h1 := List.all_eq_true.mp xA_XIS w hw
  simp only [Bool.or_eq_true, Bool.and_eq_true, decide_eq_true_eq] at h1
  rcases h1 with h1 | h1
  · exact hts w (jmem (tmem (List.mem_append_right _ h1.1) h1.2))
  · simp only [List.mem_cons, List.not_mem_nil, or_false] at h1
    rcases h1 with rfl | rfl | rfl | rfl | rfl | rfl | rfl | rfl
    · exact (hX.1).lays args
    · exact (hX.2.1).lays args
    · exact (hX.1).ref args
    · exact (hX.2.1).ref args
    · exact va_Nw.use rfl (hX.2.2.1)
    · exact va_Nw.use rfl (hX.2.2.2.1)
    · exact va_Nw.use rfl (hX.2.2.2.2.1)
    · exact va_Nw.use rfl (hX.2.2.2.2.2.2.1)
theorem xA_XIA : (Bundle.ownAtoms RXG 53 "java/lang/IllegalArgumentException" ["java/lang/RuntimeException", "java/lang/Exception"]).all (fun w => (decide (w ∈ tables_1) && goodWord w) || decide (w ∈ ([.laysStatic Bundle.tN "UNASSIGNED_STACK" Bundle.steD, .laysStatic Bundle.tN "SUPPRESSED_SENTINEL" Bundle.listD, .isRef (.static Bundle.tN "UNASSIGNED_STACK" Bundle.steD), .isRef (.static Bundle.tN "SUPPRESSED_SENTINEL" Bundle.listD), .declares (Bundle.initS "java/lang/RuntimeException"), .declares (Bundle.initS "java/lang/Exception"), .declares (Bundle.initS "java/lang/Throwable"), .castable "java/lang/IllegalArgumentException" "java/lang/IllegalArgumentException"] : List Cond))) = true := by decide +kernel
theorem jX.atoms_XIA {A : Nat → Prop} {s : State} {args : Array Value} {c0 : Cond} (hts : ∀ w ∈ c0 :: TBL, w.before args s = true) (hX : jX A s) : ∀ w ∈ Bundle.ownAtoms RXG 53 "java/lang/IllegalArgumentException" ["java/lang/RuntimeException", "java/lang/Exception"], w.before args s = true := by
  intro w hw
  have h1 := List.all_eq_true.mp xA_XIA w hw
  simp only [Bool.or_eq_true, Bool.and_eq_true, decide_eq_true_eq] at h1
  rcases h1 with h1 | h1
  · exact hts w (jmem (tmem (List.mem_append_right _ h1.1) h1.2))
  · simp only [List.mem_cons, List.not_mem_nil, or_false] at h1
    rcases h1 with rfl | rfl | rfl | rfl | rfl | rfl | rfl | rfl
    · exact (hX.1).lays args
    · exact (hX.2.1).lays args
    · exact (hX.1).ref args
    · exact (hX.2.1).ref args
    · exact va_Nw.use rfl (hX.2.2.1)
    · exact va_Nw.use rfl (hX.2.2.2.1)
    · exact va_Nw.use rfl (hX.2.2.2.2.1)
    · exact va_Nw.use rfl (hX.2.2.2.2.2.2.2.1)
theorem xA_XUO : (Bundle.ownAtoms RXG 64 "java/lang/UnsupportedOperationException" ["java/lang/RuntimeException", "java/lang/Exception"]).all (fun w => (decide (w ∈ tables_1) && goodWord w) || decide (w ∈ ([.laysStatic Bundle.tN "UNASSIGNED_STACK" Bundle.steD, .laysStatic Bundle.tN "SUPPRESSED_SENTINEL" Bundle.listD, .isRef (.static Bundle.tN "UNASSIGNED_STACK" Bundle.steD), .isRef (.static Bundle.tN "SUPPRESSED_SENTINEL" Bundle.listD), .declares (Bundle.initS "java/lang/RuntimeException"), .declares (Bundle.initS "java/lang/Exception"), .declares (Bundle.initS "java/lang/Throwable"), .castable "java/lang/UnsupportedOperationException" "java/lang/UnsupportedOperationException"] : List Cond))) = true := by decide +kernel
theorem jX.atoms_XUO {A : Nat → Prop} {s : State} {args : Array Value} {c0 : Cond} (hts : ∀ w ∈ c0 :: TBL, w.before args s = true) (hX : jX A s) : ∀ w ∈ Bundle.ownAtoms RXG 64 "java/lang/UnsupportedOperationException" ["java/lang/RuntimeException", "java/lang/Exception"], w.before args s = true := by
  intro w hw
  have h1 := List.all_eq_true.mp xA_XUO w hw
  simp only [Bool.or_eq_true, Bool.and_eq_true, decide_eq_true_eq] at h1
  rcases h1 with h1 | h1
  · exact hts w (jmem (tmem (List.mem_append_right _ h1.1) h1.2))
  · simp only [List.mem_cons, List.not_mem_nil, or_false] at h1
    rcases h1 with rfl | rfl | rfl | rfl | rfl | rfl | rfl | rfl
    · exact (hX.1).lays args
    · exact (hX.2.1).lays args
    · exact (hX.1).ref args
    · exact (hX.2.1).ref args
    · exact va_Nw.use rfl (hX.2.2.1)
    · exact va_Nw.use rfl (hX.2.2.2.1)
    · exact va_Nw.use rfl (hX.2.2.2.2.1)
    · exact va_Nw.use rfl (hX.2.2.2.2.2.2.2.2.1)
theorem tc_XIO : Cond.classLink RXG 163 "java/lang/IndexOutOfBoundsException" ∈ TBL := tm 417 (by decide +kernel) rfl
theorem ti_XIO : Cond.instantiable "java/lang/IndexOutOfBoundsException" 6 ∈ TBL := tm 418 (by decide +kernel) rfl
theorem tn_XIO : Cond.initialized "java/lang/IndexOutOfBoundsException" ∈ TBL := tm 14 (by decide +kernel) rfl
theorem tc_XIS : Cond.classLink RXG 175 "java/lang/IllegalStateException" ∈ TBL := tm 468 (by decide +kernel) rfl
theorem ti_XIS : Cond.instantiable "java/lang/IllegalStateException" 6 ∈ TBL := tm 469 (by decide +kernel) rfl
theorem tn_XIS : Cond.initialized "java/lang/IllegalStateException" ∈ TBL := tm 15 (by decide +kernel) rfl
theorem tc_XIA : Cond.classLink RXG 49 "java/lang/IllegalArgumentException" ∈ TBL := tm 310 (by decide +kernel) rfl
theorem ti_XIA : Cond.instantiable "java/lang/IllegalArgumentException" 6 ∈ TBL := tm 311 (by decide +kernel) rfl
theorem tn_XIA : Cond.initialized "java/lang/IllegalArgumentException" ∈ TBL := tm 10 (by decide +kernel) rfl
theorem tc_XUO : Cond.classLink RXG 60 "java/lang/UnsupportedOperationException" ∈ TBL := tm 383 (by decide +kernel) rfl
theorem ti_XUO : Cond.instantiable "java/lang/UnsupportedOperationException" 6 ∈ TBL := tm 384 (by decide +kernel) rfl
theorem tn_XUO : Cond.initialized "java/lang/UnsupportedOperationException" ∈ TBL := tm 11 (by decide +kernel) rfl
/-! what a thrown end is -/
def xThrown (cls : String) (st : State) (o : Outcome) (t : State) : Prop := ∃ (x : Addr) (ce : Cell), o = .threw x ∧ t.heap[x]? = some ce ∧ st.vm.findClass cls = some ce.cls ∧ ce.vm = .none ∧ st.heap.size ≤ x ∧ st.heap.size ≤ t.heap.size ∧ ∀ q : Nat, q < st.heap.size → t.heap[q]? = st.heap[q]?
def xCls (z : Int) : String := if z = 1 then "java/lang/IndexOutOfBoundsException" else if z = 2 then "java/lang/IllegalStateException" else if z = 3 then "java/lang/IllegalArgumentException" else "java/lang/UnsupportedOperationException"
/-- an end: z = 0: as Qr says; else an exception of the class z -/
def xQ (z : Int) (Qr : Array Value → State → Outcome → State → Prop) : Array Value → State → Outcome → State → Prop := fun a st o t => (z = 0 ∧ Qr a st o t) ∨ (z ≠ 0 ∧ xThrown (xCls z) st o t)
def vSv : Array Value → State → Outcome → State → Prop := fun _ st o t => o = .returned none ∧ t.heap = st.heap
