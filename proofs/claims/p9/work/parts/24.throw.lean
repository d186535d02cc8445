/-! methods that return or throw -/
def yEnd (first t : State) (L : List Loc) (k n : Nat) : Prop := first.WarmedH t.vm ∧ first.sameButNew ({ t with vm := first.vm } : State) L k n
/-- what is made: so much where it returns, so much where it throws -/
def yN (o : Outcome) (a b : Nat) : Nat := match o with
  | .returned _ => a
  | .threw _ => b
/-- what a method's end is: an outcome of either kind -/
def YQ (below : List Frame) (Qc : Array Value → State → Outcome → State → Prop) (a : Array Value) (s : State) (mc ms kc ks : Nat) (free : Addr → Prop) : State → Prop := fun t =>
  ∃ o, t.status = .running ∧ Ended t below o ∧ Qc a s o t ∧ ∃ L, yEnd s t L (yN o mc kc) (yN o ms ks) ∧ ∀ q ∈ L, free q.base
/-- a contract of a method that returns or throws -/
def YMet (l : Launch) (y : MethodName) (ws : List Cond) (rm : Room) (Pc : Array Value → State → Prop) (Qc : Array Value → State → Outcome → State → Prop) (mc ms kc ks : Nat) (free : Addr → Prop) : Prop :=
  MetFree l y (headSpec ws rm) Pc (fun _ _ _ _ _ => True) (fun a st o t => Qc a st o t ∧ ∃ L, yEnd st t L (yN o mc kc) (yN o ms ks) ∧ ∀ q ∈ L, free q.base)
theorem yQ_of {below : List Frame} {Qc : Array Value → State → Outcome → State → Prop} {a : Array Value} {s : State} {mc ms kc ks : Nat} {free : Addr → Prop} {t : State} (h : MQ below Qc a s mc ms free t) : YQ below Qc a s mc ms kc ks free t := by
  obtain ⟨o, h1, h2, h3, L, ⟨⟨v, rfl⟩, h4⟩, h5⟩ := h
  exact ⟨_, h1, h2, h3, L, h4, h5⟩
theorem YMet.ofW {l : Launch} {y : MethodName} {ws ws' : List Cond} {rm : Room} {Pc : Array Value → State → Prop} {Qc : Array Value → State → Outcome → State → Prop} {mc ms kc ks : Nat} {free : Addr → Prop} {cc : ByteArray} {maxL : Nat} {ret : Option FieldType}
    (hy : plainName y.cls = true) (hw : ws = Cond.code y cc maxL ret :: ws')
    (body : ∀ p e s m args below meth c s₁ R Q, R = (headSpec ws rm).room → Q = YQ below Qc args s mc ms kc ks free → BodyLoose p l y (headSpec ws rm) cc maxL ret e s m args below meth c s₁ → c.maxLocals = maxL → c.exceptionTable.isEmpty = true → Pc args s →
      W p l e R s m args below meth c s.heap [] 0 0 Q (entryFrame m args maxL)) : YMet l y ws rm Pc Qc mc ms kc ks free := by
  refine MetFree.of_bodyS (code := cc) (maxLocals := maxL) (ret := ret) hy ?_ ?_
  · intro args s m h hn
    obtain ⟨meth, c, h1, h2, h3, h4, h5, h6, -, -⟩ := Cond.code_spec hn (atoms_spec (ws := ws) h _ (by rw [hw]; exact List.mem_cons_self))
    exact ⟨meth, c, h1, h2, h3, h4, h5, h6⟩
  · intro p e s m args below meth c s₁ B hml hP _
    have hh0 : s₁.heap = s.heap := by rw [B.state]; rfl
    have X := Stand.of_body B
    obtain ⟨meth', c', h1, h2, -, -, -, -, h7, -⟩ := Cond.code_spec B.named (atoms_spec (ws := ws) B.pre _ (by rw [hw]; exact List.mem_cons_self))
    have e1 : meth' = meth := Option.some.inj (h1.symm.trans B.method)
    subst e1
    have e2 : c' = c := Option.some.inj (h2.symm.trans X.code)
    subst e2
    obtain ⟨t, a1, o, b1, b2, b3⟩ := body p e s m args below meth' c' s₁ _ _ rfl rfl B hml h7 hP s₁ hh0 X
    exact ⟨t, o, a1, b1, b2, b3⟩
section YR
variable {p : Program} {l : Launch} {e : Env} {R : Room} {s : State} {m : MethodId} {args : Array Value} {below : List Frame} {meth : Method} {c : Code} {H : Heap} {locs : List Loc} {cells slots : Nat} {Q Q' : State → Prop} {g : JFrame}
theorem yW (h : ∀ t, Q t → Q' t) (k : W p l e R s m args below meth c H locs cells slots Q g) : W p l e R s m args below meth c H locs cells slots Q' g := fun T hT X => by
  obtain ⟨t, a, b⟩ := k T hT X
  exact ⟨t, a, h t b⟩
theorem yTab {c : Code} (h : c.exceptionTable.isEmpty = true) (pc : Nat) : ∀ x ∈ c.exceptionTable.toList, covers x pc = false := by
  intro x hx
  have : c.exceptionTable = #[] := Array.isEmpty_iff.mp h
  rw [this] at hx
  cases hx
variable {cc : ByteArray} {pc : Nat} {ls : Array Slot} {rest : List Value} {Qc : Array Value → State → Outcome → State → Prop} {free : Addr → Prop}
/-- the method throws what lies on its stack -/
theorem y_athrow (hx : p.tables.exec = Jvm.exec) (hb : c.code = cc) (htab : c.exceptionTable.isEmpty = true) {a : Addr} (hq : ∀ t : State, t.heap = H → s.WarmedH t.vm → Qc args s (.threw a) t) (hf : ∀ q ∈ locs, free q.base) {mc ms kc ks : Nat} (hkc : cells ≤ kc) (hks : slots ≤ ks) (hdg : decode cc pc = .ok (.athrow, 1)) (hlocks : meth.locks = false) :
    W p l e R s m args below meth c H locs cells slots (YQ below Qc args s mc ms kc ks free) (F0 m pc ls (.ref a :: rest)) := by
  intro T hT X
  obtain ⟨hsteps, hrun, hend, hW, hsame⟩ := X.leaveThrown a (g := F0 m pc ls rest) rfl rfl rfl (yTab htab _) hlocks
  refine ⟨_, ?_, .threw a, hrun, hend, hq _ hT hW, locs, ⟨hW, hsame.mono hkc hks⟩, hf⟩
  jvm_step X.here [X.here.top, hx, hb, hdg, athrow.wp_sem]
  exact hsteps
end YR
section YC
variable {p : Program} {l : Launch} {e : Env} {R : Room} {s : State} {m : MethodId} {args : Array Value} {below : List Frame} {meth : Method} {c : Code} {H : Heap} {locs : List Loc} {cells slots : Nat}
variable {y : MethodName} {bytes cc : ByteArray} {maxL nL mc ms kc ks n index len : Nat} {ret : Option FieldType} {ws : List Cond} {rm : Room} {Pc : Array Value → State → Prop} {Qc : Array Value → State → Outcome → State → Prop} {free : Addr → Prop} {Ts : List Cond} {own C : String} {b : Addr} {As rest : List Value} {g : JFrame}
/-- where a call has come to: behind the call, or with a throw over the caller's frame -/
def yTo (T : State) (g : JFrame) (len : Nat) : Outcome → State
  | .returned v => T.setTop { g with pc := g.pc + len, stack := v.toList ++ g.stack }
  | .threw x => (T.setTop g).pushFrame (.throwing x)
theorem yInto {U : State} (hM : YMet l y ws rm Pc Qc mc ms kc ks free) (hrc : rm.cells = kc) (hrs : rm.slots = ks) (hfr : rm.frames + 1 ≤ R.frames) (hlo : 8 + (maxL + 11) + rm.locals ≤ R.locals)
    (hws : ∀ w ∈ ws, ∀ a' U, s.WarmedH U.vm → w.before a' U = true) (hcode : Cond.code y bytes maxL ret ∈ ws) (hini : ∀ a' U, s.WarmedH U.vm → (Cond.initialized y.cls).before a' U = true) (hbl : FrameBlind Pc)
    (X : Stand p l e R s m args below meth c U locs cells slots) (hg : g.method = m) (hsize : g.locals.size = c.maxLocals) {ig : Instr} (hdg : decode c.code g.pc = .ok (ig, len)) (hW : 2 * g.monitorRoom + (g.stack.map fun v => v.category).sum ≤ 8) {mk : MethodId} (hn : U.methodNamed? y = some mk) {a : Array Value} (hP : Pc a U) (hf : cells + kc ≤ R.cells ∧ slots + ks ≤ R.slots) :
    ∃ (o : Outcome) (t T' : State) (L : List Loc), Stand p l e R s m args below meth c T' (locs ++ L) (cells + yN o mc kc) (slots + yN o ms ks) ∧ (∀ q ∈ L, free q.base) ∧ T'.heap = t.heap ∧ T'.vm = t.vm ∧ Qc a (U.calling g mk a) o t ∧ Steps p.tables e below (doInvoke e (U.setTop g) [] mk a).1 (yTo T' g len o) := by
  obtain ⟨methY, cY, hmY, hcY, -, hlY, -, -, -, -⟩ := Cond.code_spec hn (hws _ hcode a U X.warmed)
  obtain ⟨kY, hkY, -⟩ := className_of_methodNamed hn
  have hinitY : kY.init = .initialized := Cond.initialized_spec (findClass_of_methodNamed hn) hkY (hini a U X.warmed)
  have h : At U g.method c below := by rw [hg]; exact X.here
  have happ : (headSpec ws rm).appliesLoose y e.platform (U.calling g mk a) = true :=
    Spec.appliesLoose_calling (g := g) h hdg hn hkY hinitY (X.room_calling (g := g) (R' := (headSpec ws rm).room) hsize hmY hcY hfr (by rw [hlY]; show _ + _ + rm.locals ≤ _; omega) (by rw [show (headSpec ws rm).room.cells = kc from hrc]; exact hf.1) (by rw [show (headSpec ws rm).room.slots = ks from hrs]; exact hf.2)) (atoms_intro fun w hw => hws w hw _ _ X.warmed)
  obtain ⟨mid, hmid⟩ := h.above
  have hfr2 : (U.setTop g).frames = (.java g :: mid) ++ below := by rw [State.frames_setTop' g h.top, hmid]; rfl
  obtain ⟨o, s₂, hsteps, -, hend, hq, L, ⟨hW2, hsame⟩, hL⟩ := Steps.callFree hM p X.admits X.cas X.clock (acts := []) hfr2 happ (hbl _ _ _ _ hP) trivial
  rw [State.frames_setTop' g h.top, X.tail] at hend
  cases o with
  | returned v =>
    obtain ⟨T', X', -, hs2, e2⟩ := X.outOf hg hdg (mk := mk) (a := a) hend hW2 hsame
    refine ⟨.returned v, s₂, T', L, X', hL, ?_, ?_, hq, ?_⟩
    · rw [e2]; rfl
    · rw [e2]; rfl
    · show Steps p.tables e below _ (T'.setTop { g with pc := g.pc + len, stack := v.toList ++ g.stack })
      rw [← e2]; exact hsteps
  | threw x =>
    obtain ⟨T', X', -, hs2, e2⟩ := X.outOfThrown hg (mk := mk) (a := a) hend hW2 hsame
    refine ⟨.threw x, s₂, T', L, X', hL, ?_, ?_, hq, ?_⟩
    · rw [e2]; rfl
    · rw [e2]; rfl
    · show Steps p.tables e below _ ((T'.setTop g).pushFrame (.throwing x))
      rw [← e2]; exact hsteps
end YC
theorem yKept {s t : State} {k n : Nat} (h : s.sameButNew ({ t with vm := s.vm } : State) [] k n) : s.heap.size ≤ t.heap.size ∧ ∀ q : Nat, q < s.heap.size → t.heap[q]? = s.heap[q]? := by
  obtain ⟨-, h2, -, -, -, h6⟩ := h
  refine ⟨h2, fun q hq => ?_⟩
  have hc : s.heap[q]? = some s.heap[q] := Array.getElem?_eq_getElem hq
  obtain ⟨c', e1, e2, e3, e4⟩ := h6 q _ hc
  have e5 : c'.slots = (s.heap[q]).slots := Array.ext_getElem? (fun i => e4 i (List.not_mem_nil))
  have e6 : c' = s.heap[q] := by rw [e2, e5]
  rw [hc, ← e6]; exact e1
section YT
variable {p : Program} {l : Launch} {e : Env} {R : Room} {s : State} {m : MethodId} {args : Array Value} {below : List Frame} {meth : Method} {c : Code} {H : Heap} {cells slots : Nat} {cc : ByteArray} {pc : Nat} {ls : Array Slot} {rest : List Value} {Qc : Array Value → State → Outcome → State → Prop} {free : Addr → Prop}
/-- the constructor of an exception, and its throw -/
theorem y_ctorThrow (hx : p.tables.exec = Jvm.exec) (hb : c.code = cc) (htab : c.exceptionTable.isEmpty = true) (hlocks : meth.locks = false) (htr : l.stackTraces = false) {own cls : String} {names : List String} {ic : Nat} (hown : s.vm.findClass own = some m.cls) (hcls : Bundle.fit cls = true) (hnames : ∀ n ∈ names, Bundle.fit n = true) (h : ∀ a ∈ Bundle.ownAtoms own ic cls names, a.before args s = true)
    {a : Addr} {cX : ClassId} {kX : Class} (hfX : s.vm.findClass cls = some cX) (hkX : s.vm.classes[cX]? = some kX) (hcell : H[a]? = some (blank cX kX)) (hnew : s.heap.size ≤ a) {msg : Value} (hmsg : msg.isRef = true) (hls : ls.size = c.maxLocals) (hd6 : decode cc pc = .ok (.invokespecial ic, 3)) (hd9 : decode cc (pc + 3) = .ok (.athrow, 1))
    (hRf : names.length + 3 < R.frames) (hRl : ((Value.ref a :: rest).map fun v => v.category).sum + (13 * (names.length + 1) + 42) ≤ R.locals)
    (hq : ∀ (t : State) (ce : Cell), t.heap[a]? = some ce → s.vm.findClass cls = some ce.cls → ce.vm = .none → s.heap.size ≤ t.heap.size → (∀ q : Nat, q < s.heap.size → t.heap[q]? = s.heap[q]?) → s.WarmedH t.vm → Qc args s (.threw a) t) {mc ms kc ks : Nat} (hkc : cells ≤ kc) (hks : slots ≤ ks) :
    W p l e R s m args below meth c H [] cells slots (YQ below Qc args s mc ms kc ks free) (F0 m pc ls (msg :: .ref a :: .ref a :: rest)) := by
  intro T hT X
  have htr' : e.platform.stackTraces = false := by rw [X.admits.platform]; exact htr
  obtain ⟨U, st, hrun, hend, hW, hsame, ce, hce, K⟩ := X.ctorThrowS hx htr' hown hcls hnames h (fun x hx => by cases hx) hfX hkX (by rw [hT]; exact hcell) hnew hmsg (g := F0 m pc ls (msg :: .ref a :: .ref a :: rest)) rfl hls rfl rfl rfl (by rw [hb]; exact hd6) (by rw [hb]; exact hd9) (yTab htab _) hRf (by
    have h0 : (F0 m pc ls (msg :: .ref a :: .ref a :: rest)).monitorRoom = 0 := rfl
    rw [h0]; omega) hlocks
  obtain ⟨k1, k2⟩ := yKept hsame
  exact ⟨U, st, .threw a, hrun, hend, hq U ce hce K.cls K.vm k1 k2 hW, [], ⟨hW, hsame.mono hkc hks⟩, fun q h => by cases h⟩
/-- throw new E("..") -/
theorem y_throwNew (hx : p.tables.exec = Jvm.exec) (hb : c.code = cc) (htab : c.exceptionTable.isEmpty = true) (hlocks : meth.locks = false) (htr : l.stackTraces = false) {own cls tx : String} {names : List String} {ia ib ic sa : Nat} (hown : s.vm.findClass own = some m.cls) (hcls : Bundle.fit cls = true) (hnames : ∀ n ∈ names, Bundle.fit n = true) (h : ∀ a ∈ Bundle.ownAtoms own ic cls names, a.before args s = true)
    (hcl : (Cond.classLink own ia cls).before args s = true) (hin : (Cond.instantiable cls 6).before args s = true) (hini : (Cond.initialized cls).before args s = true) (hZ : vk_R own ib tx sa s) {cX : ClassId} (hfX : s.vm.findClass cls = some cX) (hH : s.heap.size ≤ H.size) (hls : ls.size = c.maxLocals)
    (hd0 : decode cc pc = .ok (.new ia, 3)) (hd3 : decode cc (pc + 3) = .ok (.dup, 1)) (hd4 : decode cc (pc + 4) = .ok (.ldc ib, 2)) (hd6 : decode cc (pc + 6) = .ok (.invokespecial ic, 3)) (hd9 : decode cc (pc + 9) = .ok (.athrow, 1))
    (hcells : cells + 1 ≤ R.cells) (hslots : slots + 6 ≤ R.slots) (hRf : names.length + 3 < R.frames) (hRl : (rest.map fun v => v.category).sum + (13 * (names.length + 1) + 43) ≤ R.locals)
    (hq : ∀ (t : State) (x : Addr) (ce : Cell), t.heap[x]? = some ce → s.vm.findClass cls = some ce.cls → ce.vm = .none → s.heap.size ≤ x → s.heap.size ≤ t.heap.size → (∀ q : Nat, q < s.heap.size → t.heap[q]? = s.heap[q]?) → s.WarmedH t.vm → Qc args s (.threw x) t) {mc ms kc ks : Nat} (hkc : cells + 1 ≤ kc) (hks : slots + 6 ≤ ks) :
    W p l e R s m args below meth c H [] cells slots (YQ below Qc args s mc ms kc ks free) (F0 m pc ls rest) := by
  refine W.newcK hx hb hown hcl hin hini rfl hd0 hcells hslots hfX rfl (fun H1 kC hkC e1 z1 o1 => ?_)
  refine lv_dup hx hb hd3 rfl ?_
  refine va_ldcS hx hb hown hZ hd4 ?_
  exact y_ctorThrow hx hb htab hlocks htr hown hcls hnames h hfX hkC e1 hH rfl hls hd6 hd9 hRf (by simp only [List.map_cons, List.sum_cons]; show 1 + _ + _ ≤ _; omega) (fun t ce h1 h2 h3 h4 h5 h6 => hq t _ ce h1 h2 h3 hH h4 h5 h6) hkc hks
end YT
section YV
variable {p : Program} {l : Launch} {e : Env} {R : Room} {s : State} {m : MethodId} {args : Array Value} {below : List Frame} {meth : Method} {c : Code} {H : Heap} {locs : List Loc} {cells slots : Nat} {Q : State → Prop}
variable {y : MethodName} {bytes cc : ByteArray} {maxL nL mc ms kc ks n index pc : Nat} {ret : Option FieldType} {ws : List Cond} {rm : Room} {Pc : Array Value → State → Prop} {Qc : Array Value → State → Outcome → State → Prop} {free : Addr → Prop} {Ts : List Cond} {own C : String} {b : Addr} {As rest : List Value} {g : JFrame} {ls : Array Slot} {st0 : List Value}
/-- a call that returns or throws -/
def yRun (p : Program) (l : Launch) (e : Env) (R : Room) (s : State) (m : MethodId) (args : Array Value) (below : List Frame) (meth : Method) (c : Code) (H : Heap) (locs : List Loc) (cells slots mc ms kc ks : Nat) (g : JFrame) (rest : List Value) (Qa : State → Outcome → State → Prop) (free : Addr → Prop) : Prop :=
  ∀ T : State, T.heap = H → Stand p l e R s m args below meth c T locs cells slots → ∃ (o : Outcome) (st₀ t T' : State) (L : List Loc), (st₀.heap = H ∧ s.WarmedH st₀.vm) ∧ Stand p l e R s m args below meth c T' (locs ++ L) (cells + yN o mc kc) (slots + yN o ms ks) ∧ (∀ q ∈ L, free q.base) ∧ T'.heap = t.heap ∧ T'.vm = t.vm ∧ Qa st₀ o t ∧
    ∀ target, Steps p.tables e below (yTo T' { g with stack := rest } 3 o) target → Steps p.tables e below (T.setTop g) target
theorem yRunV (S : CallFix p m c cc nL s args Ts own) (hM : YMet l y ws rm Pc Qc mc ms kc ks free) (cw : CallW R s args own C index y bytes maxL ret ws rm kc ks n) (hp : PreV s H C b Pc As)
    (hg : g.method = m) (hn : As.length = n) (hsize : g.locals.size = nL) (hstack : g.stack = As.reverse ++ .ref b :: rest) (hW : 2 * g.monitorRoom + (rest.map fun v => v.category).sum ≤ 8) (hdg : decode cc g.pc = .ok (.invokevirtual index, 3)) (hf : cells + kc ≤ R.cells ∧ slots + ks ≤ R.slots) :
    yRun p l e R s m args below meth c H locs cells slots mc ms kc ks g rest (Qc (Value.ref b :: As).toArray) free := by
  obtain ⟨⟨hrc, hrs, hfr, hlo, hws, hcw, hcode, hini, hy, hlen, hl⟩, hin, hse⟩ := cw
  obtain ⟨hx, hb, hml, ho, -⟩ := S
  obtain ⟨hbl, ⟨cellB, hcB, hoB, hclB⟩, hPc⟩ := hp
  intro T hT X
  obtain ⟨mk, methM, hnamed, hmethM, hstM, habM⟩ := Cond.instanceMethod_spec hin
  obtain ⟨methM', cM, hmethM', -, -, -, -, -, -, hsigM⟩ := Cond.code_spec hnamed hcode
  cases hmethM.symm.trans hmethM'
  obtain ⟨c2, r2, m2, q1, q2, q3, q4, kP, hkP, hkPi⟩ := Cond.selects_spec hse
  cases hclB.symm.trans q1
  cases (State.methodFound?_of_named hnamed hy).symm.trans q2
  cases hnamed.symm.trans q3
  have hselP : selectMethod e.platform s.vm cellB.cls mk = .method mk := by rw [Launch.admits_selectMethod X.admits]; exact q4
  obtain ⟨vm₁, X₁, hstep₁⟩ := X.invokevirtual hx ho hl hnamed hmethM hstM hkP hkPi hy (a := b) (cell := cellB) (by rw [hT]; exact hcB)
    (fun z h => by rw [h] at hoB; cases hoB) hselP hmethM habM hkP hkPi (g := g) hg (argsL := As) (rest := rest) (hn.trans (hlen _ hsigM)) hstack (by rw [hb]; exact hdg)
  obtain ⟨o, t, T', L, X', hL, e1, e2, hq, st⟩ := yInto (g := { g with stack := rest }) (len := 3) hM hrc hrs hfr hlo hws hcw (fun a' U hW => word_at hW (Or.inl (by first | rfl | simp [Cond.onTables, Cond.keeps, Cond.steady])) hini) hbl X₁ hg (hsize.trans hml.symm) (by rw [hb]; exact hdg) hW (X₁.named hnamed) (a := (Value.ref b :: As).toArray) (hPc (T.setVm vm₁) hT X₁.warmed) hf
  exact ⟨o, (T.setVm vm₁).calling { g with stack := rest } mk (Value.ref b :: As).toArray, t, T', L, ⟨hT, X₁.warmed⟩, X', hL, e1, e2, hq, fun target h => hstep₁ _ fun acts => by rw [doInvoke_state]; exact st.trans h⟩
theorem yRunS (S : CallFix p m c cc nL s args Ts own) (hM : YMet l y ws rm Pc Qc mc ms kc ks free) (cw : CallB R s args own index y bytes maxL ret ws rm kc ks n ∧ (Cond.static y).before args s = true) (hp : PreS s H Pc As)
    (hg : g.method = m) (hn : As.length = n) (hsize : g.locals.size = nL) (hstack : g.stack = As.reverse ++ rest) (hW : 2 * g.monitorRoom + (rest.map fun v => v.category).sum ≤ 8) (hdg : decode cc g.pc = .ok (.invokestatic index, 3)) (hf : cells + kc ≤ R.cells ∧ slots + ks ≤ R.slots) :
    yRun p l e R s m args below meth c H locs cells slots mc ms kc ks g rest (Qc As.toArray) free := by
  obtain ⟨⟨hrc, hrs, hfr, hlo, hws, hcw, hcode, hini, hy, hlen, hl⟩, hstt⟩ := cw
  obtain ⟨hx, hb, hml, ho, -⟩ := S
  intro T hT X
  obtain ⟨mk, hnamed⟩ := Cond.code_named hcode
  obtain ⟨methM, cM, hmethM, -, -, -, -, -, -, hsigM⟩ := Cond.code_spec hnamed hcode
  have hstatic : methM.isStatic = true := Cond.static_spec hnamed hmethM hstt
  obtain ⟨kP, hkP, -⟩ := className_of_methodNamed hnamed
  have hinitP : kP.init = .initialized := Cond.initialized_spec (findClass_of_methodNamed hnamed) hkP hini
  obtain ⟨vm₁, X₁, hstep₁⟩ := X.invokestatic hx ho hl hnamed hmethM hstatic hkP hinitP hy (g := g) hg (argsL := As) (rest := rest) (hn.trans (hlen _ hsigM)) hstack (by rw [hb]; exact hdg)
  obtain ⟨o, t, T', L, X', hL, e1, e2, hq, st⟩ := yInto (g := { g with stack := rest }) (len := 3) hM hrc hrs hfr hlo hws hcw (fun a' U hW => word_at hW (Or.inl (by first | rfl | simp [Cond.onTables, Cond.keeps, Cond.steady])) hini) hp.1 X₁ hg (hsize.trans hml.symm) (by rw [hb]; exact hdg) hW (X₁.named hnamed) (a := As.toArray) (hp.2 (T.setVm vm₁) hT X₁.warmed) hf
  exact ⟨o, (T.setVm vm₁).calling { g with stack := rest } mk As.toArray, t, T', L, ⟨hT, X₁.warmed⟩, X', hL, e1, e2, hq, fun target h => hstep₁ _ fun acts => by rw [doInvoke_state]; exact st.trans h⟩
/-- .. and what its caller makes of it: it goes on, or is left by the throw -/
theorem y_call {Qa : State → Outcome → State → Prop} {Qd : Array Value → State → Outcome → State → Prop} {free9 : Addr → Prop} {m9 s9 k9 n9 : Nat} (hr : yRun p l e R s m args below meth c H locs cells slots mc ms kc ks (F0 m pc ls st0) rest Qa free) (htab : c.exceptionTable.isEmpty = true) (hlocks : meth.locks = false)
    (kr : ∀ (v : Option Value) (st₀ t : State) (L : List Loc), st₀.heap = H → s.WarmedH st₀.vm → (∀ q ∈ L, free q.base) → s.WarmedH t.vm → Qa st₀ (.returned v) t → W p l e R s m args below meth c t.heap (locs ++ L) (cells + mc) (slots + ms) (YQ below Qd args s m9 s9 k9 n9 free9) (F0 m (pc + 3) ls (v.toList ++ rest)))
    (kt : ∀ (x : Addr) (st₀ t t2 : State) (L : List Loc), st₀.heap = H → s.WarmedH st₀.vm → (∀ q ∈ L, free q.base) → Qa st₀ (.threw x) t → t2.heap = t.heap → s.WarmedH t2.vm → Qd args s (.threw x) t2 ∧ (∀ q ∈ locs ++ L, free9 q.base) ∧ cells + kc ≤ k9 ∧ slots + ks ≤ n9) :
    W p l e R s m args below meth c H locs cells slots (YQ below Qd args s m9 s9 k9 n9 free9) (F0 m pc ls st0) := by
  intro T hT X
  obtain ⟨o, st₀, t, T', L, ⟨h0, hW0⟩, X', hL, e1, e2, hq, st⟩ := hr T hT X
  cases o with
  | returned v =>
    obtain ⟨u, a1, a2⟩ := kr v st₀ t L h0 hW0 hL (by rw [← e2]; exact X'.warmed) hq T' e1 X'
    exact ⟨u, st _ a1, a2⟩
  | threw x =>
    obtain ⟨hsteps, hrun, hend, hW, hsame⟩ := X'.leaveThrown x (g := F0 m pc ls rest) rfl rfl rfl (yTab htab _) hlocks
    obtain ⟨k1, k2, k3, k4⟩ := kt x st₀ t (T'.setFrames (.throwing x :: below)) L h0 hW0 hL hq e1 hW
    exact ⟨_, st _ hsteps, .threw x, hrun, hend, k1, locs ++ L, ⟨hW, hsame.mono k3 k4⟩, k2⟩
end YV
