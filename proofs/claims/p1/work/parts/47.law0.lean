/-! the law of one call on a fresh object -/
theorem jlen {y : MethodName} {n : Nat} (h : (parseMethodDescriptor y.desc).map (fun d => d.parameters.length) = some n) : ∀ sig, parseMethodDescriptor y.desc = some sig → n = sig.parameters.length := by
  intro sig hs
  rw [hs] at h
  simpa using h.symm
def lawCx (p : Program) (l : Launch) (R : Room) (s : State) (m : MethodId) (meth : Method) (c : Code) (b L : Nat) (xs : Nat → Int32) (dC : Nat → ClassId) (dI : Nat → Nat → Nat) (cA cL cZ : ClassId) (A : Nat → Prop) : Prop := (p.tables.exec = Jvm.exec) ∧ (c.code = code) ∧ (meth.sig.returnType = ret) ∧ (c.maxLocals = 8) ∧ (s.vm.findClass RXL = some m.cls) ∧ (∀ w ∈ Cond.initialized RXL :: TBL, w.before #[Value.ref b] s = true) ∧ (va_X b L xs s s.heap) ∧ (b < s.heap.size) ∧ (meth.locks = false) ∧ (va_K (dC, dI) vwCl [(cA, .int), (cL, .long), (cZ, .boolean)] s) ∧ (jN s) ∧ (jX A s) ∧ (jC s) ∧ (R = room_1) ∧ (∀ q, s.heap.size ≤ q → A q) ∧ (¬ A b) ∧ (l.stackTraces = false)
def lawTail (p : Program) (l : Launch) (e : Env) (R : Room) (s : State) (m : MethodId) (below : List Frame) (meth : Method) (c : Code) (b : Nat) (A : Nat → Prop) (Q : State → Prop) : Prop := ∀ (H : Heap) (locs : List Loc), va_S A s.heap H locs → ∀ ls : Array Slot, lv_has ls 8 [(4, .int (jI 0)), (0, .ref b)] → W p l e R s m #[Value.ref b] below meth c H locs 47 4878 Q (F0 m 1037 ls [])
