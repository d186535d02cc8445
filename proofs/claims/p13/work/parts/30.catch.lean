section
/-! an exception is caught; the handler's class may be resolved there for the first time -/
def zFinds (e : Env) (s : State) (f : JFrame) (a : Addr) (h : Handler) (s' : State) : Prop := ∀ (Q : Handler → Pre) (E : CtlPost) (d : Bool) (acts : List Action), wp (findHandler f a) Q E e d acts s ↔ Q h d acts s'
def zGo (e : Env) (s : State) (f : JFrame) (a : Addr) (tb : List ExceptionTableEntry) (h : Handler) (s' : State) : Prop := ∀ (Q : Handler → Pre) (E : CtlPost) (d : Bool) (acts : List Action), wp (findHandler.go f a tb) Q E e d acts s ↔ Q h d acts s'
section ZG
variable {e : Env} {s : State} {f : JFrame} {a : Addr}
theorem zGo_step {x : ExceptionTableEntry} {t : List ExceptionTableEntry} {c : ClassId} {cell : Cell} {vm' : Vm} (hx : covers x f.pc = true) (h0 : x.catchType ≠ 0) (hg : (Jvm.resolveClass f.method.cls x.catchType).Gives e.toSetting s.vm (.ok c) vm') (hsz : vm'.classes.size ≤ s.vm.classes.size)
    (hcell : s.heap[a]? = some cell) (hobj : ∀ k, cell.vm ≠ .statics k) (hk : ∃ k, vm'.classes[cell.cls]? = some k) (hc : ∃ k, vm'.classes[c]? = some k) (Q : Handler → Pre) (E : CtlPost) (d : Bool) (acts : List Action) :
    wp (findHandler.go f a (x :: t)) Q E e d acts s ↔ if vm'.assignable cell.cls c = true then Q (.found x.handlerPc) d acts (s.setVm vm') else wp (findHandler.go f a t) Q E e d acts (s.setVm vm') := by
  simp only [covers] at hx
  obtain ⟨ha, ht⟩ := hg.op (op := VmOp.resolveClass f.method.cls x.catchType) rfl
  have hcell' : (s.setVm vm').heap[a]? = some cell := hcell
  have hk' : ∃ k, (s.setVm vm').vm.classes[cell.cls]? = some k := hk
  have hc' : ∃ k, (s.setVm vm').vm.classes[c]? = some k := hc
  cases hfit : vm'.assignable cell.cls c <;>
    simp [findHandler.go, hx, h0, ha, ht, hsz, hcell, hobj, hk, hc, hfit, VmOp.dirties, VmOp.acts]
theorem zGo_hit {x : ExceptionTableEntry} {t : List ExceptionTableEntry} {c : ClassId} {cell : Cell} {vm' : Vm} (hx : covers x f.pc = true) (h0 : x.catchType ≠ 0) (hg : (Jvm.resolveClass f.method.cls x.catchType).Gives e.toSetting s.vm (.ok c) vm') (hsz : vm'.classes.size ≤ s.vm.classes.size)
    (hcell : s.heap[a]? = some cell) (hobj : ∀ k, cell.vm ≠ .statics k) (hk : ∃ k, vm'.classes[cell.cls]? = some k) (hc : ∃ k, vm'.classes[c]? = some k) (hfit : vm'.assignable cell.cls c = true) : zGo e s f a (x :: t) (.found x.handlerPc) (s.setVm vm') := by
  intro Q E d acts
  rw [zGo_step hx h0 hg hsz hcell hobj hk hc, if_pos hfit]
theorem zGo_pass {x : ExceptionTableEntry} {t : List ExceptionTableEntry} {c : ClassId} {cell : Cell} {vm' : Vm} {h : Handler} {s' : State} (hx : covers x f.pc = true) (h0 : x.catchType ≠ 0) (hg : (Jvm.resolveClass f.method.cls x.catchType).Gives e.toSetting s.vm (.ok c) vm') (hsz : vm'.classes.size ≤ s.vm.classes.size)
    (hcell : s.heap[a]? = some cell) (hobj : ∀ k, cell.vm ≠ .statics k) (hk : ∃ k, vm'.classes[cell.cls]? = some k) (hc : ∃ k, vm'.classes[c]? = some k) (hfit : vm'.assignable cell.cls c = false) (hr : zGo e (s.setVm vm') f a t h s') : zGo e s f a (x :: t) h s' := by
  intro Q E d acts
  rw [zGo_step hx h0 hg hsz hcell hobj hk hc, if_neg (by rw [hfit]; decide)]
  exact hr Q E d acts
theorem zStep_catch {r : List Frame} {pc : Nat} {s' : State} (hfind : zFinds e s f a (.found pc) s') (hs : ∀ fs, s'.setFrames fs = s'.setFrames fs) : (stepThrowing e s a (.java f :: r)).Is (s'.setFrames (.java { f with pc := pc, stack := [.ref a] } :: r)) [] := by
  simp only [stepThrowing, searchFrame, vmDo]
  generalize hr : Sem.go _ e false [] s = res
  obtain ⟨as, rfl, ha⟩ := Sem.eq_ok_of hr (a := Handler.found pc) (s' := s') (acts' := []) (by simp [hfind _ _ _ _])
  exact ⟨rfl, ha⟩
end ZG
theorem zCaught {tb : Tables} {e : Env} {s target : State} {g : JFrame} {c : Code} {below : List Frame} {a : Addr} {vm' : Vm} (h : At s g.method c below) {pc : Nat} (hfind : zFinds e ((s.setTop g).pushFrame (.throwing a)) g a (.found pc) (((s.setTop g).pushFrame (.throwing a)).setVm vm'))
    (hrest : Steps tb e below ((s.setVm vm').setTop { g with pc := pc, stack := [.ref a] }) target) : Steps tb e below ((s.setTop g).pushFrame (.throwing a)) target := by
  obtain ⟨hgo, hw⟩ := h.throwing a
  refine Steps.head hgo hw ?_
  rw [stepThread_throwing (frames_entered h.top _), (zStep_catch (s := (s.setTop g).pushFrame (.throwing a)) hfind (fun _ => rfl)).1]
  obtain ⟨g₀, hg⟩ := Option.isSome_iff_exists.mp h.top
  obtain ⟨r, hr⟩ := State.topJava?_eq_some.mp hg
  have hr' : (s.setVm vm').frames = .java g₀ :: r := hr
  rw [State.setTop_of_frames _ hr'] at hrest
  have e1 : (((s.setTop g).pushFrame (.throwing a)).setVm vm').setFrames (.java { g with pc := pc, stack := [.ref a] } :: s.frames.tail) = (s.setVm vm').setFrames (.java { g with pc := pc, stack := [.ref a] } :: r) := by
    rw [State.pushFrame, State.setTop_of_frames _ hr, State.setFrames_setFrames, hr]
    show (((s.setVm vm').setFrames _).setFrames _) = _
    rw [State.setFrames_setFrames]; rfl
  rw [e1]
  exact hrest
section ZC
variable {p : Program} {l : Launch} {e : Env} {R : Room} {s : State} {m : MethodId} {args : Array Value} {below : List Frame} {meth : Method} {c : Code} {locs : List Loc} {cells slots : Nat}
/-- the find through the method's own table -/
theorem zFinds_of {T : State} (X : Stand p l e R s m args below meth c T locs cells slots) {g : JFrame} (hg : g.method = m) {a : Addr} {h : Handler} {s' : State} (hgo : zGo e ((T.setTop g).pushFrame (.throwing a)) g a c.exceptionTable.toList h s') : zFinds e ((T.setTop g).pushFrame (.throwing a)) g a h s' := by
  intro Q E d acts
  rw [Jvm.W.findHandler_eq (meth := meth) (code := c) (by rw [Stand.throwing_vm, hg]; exact X.method') X.code]
  exact hgo Q E d acts
/-- the first handler takes it -/
theorem zCatch1 {T : State} (X : Stand p l e R s m args below meth c T locs cells slots) {own : String} (hown : s.vm.findClass own = some m.cls) {x1 : ExceptionTableEntry} {tl : List ExceptionTableEntry} (htb : c.exceptionTable.toList = x1 :: tl) {g : JFrame} (hg : g.method = m) (hcov : covers x1 g.pc = true) (h0 : x1.catchType ≠ 0) {N C : String}
    (hlink : (Cond.classLink own x1.catchType N).before args s = true) (hcast : (Cond.castable C N).before args s = true) {a : Addr} {ce : Cell} (hce : T.heap[a]? = some ce) (hcls : s.vm.findClass C = some ce.cls) (hvm : ce.vm = .none) :
    ∃ vm', s.WarmedH vm' ∧ zFinds e ((T.setTop g).pushFrame (.throwing a)) g a (.found x1.handlerPc) (((T.setTop g).pushFrame (.throwing a)).setVm vm') := by
  have hpl : e.platform.magicAccessors = ({} : Platform).magicAccessors := by rw [X.admits.platform]
  obtain ⟨cN, hfN, hcl⟩ := Cond.classLink_spec hown hlink e.platform hpl
  obtain ⟨hg1, hW1, hr1⟩ := State.classEntry (e := e) X.warmed hcl
  obtain ⟨c0, t0, q1, q2, q3⟩ := Cond.castable_spec hcast
  cases hcls.symm.trans q1
  cases hfN.symm.trans q2
  obtain ⟨kX, hkX, -⟩ := Vm.findClass_spec q1
  obtain ⟨kN, hkN, -⟩ := Vm.findClass_spec q2
  obtain ⟨kX', hkX', -⟩ := hW1.alike.2.2 _ _ hkX
  obtain ⟨kN', hkN', -⟩ := hW1.alike.2.2 _ _ hkN
  refine ⟨_, hW1, zFinds_of X hg ?_⟩
  rw [htb]
  refine zGo_hit hcov h0 (c := cN) (cell := ce) (by rw [Stand.throwing_vm, hg]; exact hg1) ?_ (by rw [Stand.throwing_heap]; exact hce) (fun k hk => by rw [hvm] at hk; cases hk) ⟨kX', hkX'⟩ ⟨kN', hkN'⟩ (by rw [hW1.alike.assignable]; exact q3)
  rw [Stand.throwing_vm]
  no_record
/-- the first one doesn't, the second does -/
theorem zCatch2 {T : State} (X : Stand p l e R s m args below meth c T locs cells slots) {own : String} (hown : s.vm.findClass own = some m.cls) {x1 x2 : ExceptionTableEntry} {tl : List ExceptionTableEntry} (htb : c.exceptionTable.toList = x1 :: x2 :: tl) {g : JFrame} (hg : g.method = m) (hcov : covers x1 g.pc = true) (h0 : x1.catchType ≠ 0) (hcov2 : covers x2 g.pc = true) (h02 : x2.catchType ≠ 0) {N N2 C : String}
    (hlink : (Cond.classLink own x1.catchType N).before args s = true) (hno : va_Nc C N s) (hlink2 : (Cond.classLink own x2.catchType N2).before args s = true) (hcast : (Cond.castable C N2).before args s = true) {a : Addr} {ce : Cell} (hce : T.heap[a]? = some ce) (hcls : s.vm.findClass C = some ce.cls) (hvm : ce.vm = .none) :
    ∃ vm', s.WarmedH vm' ∧ zFinds e ((T.setTop g).pushFrame (.throwing a)) g a (.found x2.handlerPc) (((T.setTop g).pushFrame (.throwing a)).setVm vm') := by
  have hpl : e.platform.magicAccessors = ({} : Platform).magicAccessors := by rw [X.admits.platform]
  obtain ⟨cN, hfN, hcl⟩ := Cond.classLink_spec hown hlink e.platform hpl
  obtain ⟨hg1, hW1, hr1⟩ := State.classEntry (e := e) X.warmed hcl
  have hsz1 : (T.vm.noted m.cls x1.catchType (.cls cN)).classes.size ≤ T.vm.classes.size := by no_record
  generalize T.vm.noted m.cls x1.catchType (.cls cN) = vm1 at hg1 hW1 hr1 hsz1
  obtain ⟨cN2, hfN2, hcl2⟩ := Cond.classLink_spec hown hlink2 e.platform hpl
  obtain ⟨hg2, hW2, hr2⟩ := State.classEntry (e := e) (X.noted hW1).warmed hcl2
  have hsz2 : ((T.setVm vm1).vm.noted m.cls x2.catchType (.cls cN2)).classes.size ≤ (T.setVm vm1).vm.classes.size := by no_record
  generalize (T.setVm vm1).vm.noted m.cls x2.catchType (.cls cN2) = vm2 at hg2 hW2 hr2 hsz2
  obtain ⟨c1, t1, f1, f2, f3⟩ := hno
  obtain ⟨c0, t0, q1, q2, q3⟩ := Cond.castable_spec hcast
  cases hcls.symm.trans q1
  cases hfN2.symm.trans q2
  cases q1.symm.trans f1
  cases hfN.symm.trans f2
  obtain ⟨kX, hkX, -⟩ := Vm.findClass_spec q1
  obtain ⟨kN, hkN, -⟩ := Vm.findClass_spec f2
  obtain ⟨kN2, hkN2, -⟩ := Vm.findClass_spec q2
  obtain ⟨kX1, hkX1, -⟩ := hW1.alike.2.2 _ _ hkX
  obtain ⟨kN1, hkN1, -⟩ := hW1.alike.2.2 _ _ hkN
  obtain ⟨kX2, hkX2, -⟩ := hW2.alike.2.2 _ _ hkX
  obtain ⟨kN3, hkN3, -⟩ := hW2.alike.2.2 _ _ hkN2
  refine ⟨vm2, hW2, zFinds_of X hg ?_⟩
  rw [htb]
  refine zGo_pass hcov h0 (c := cN) (cell := ce) (vm' := vm1) (by rw [Stand.throwing_vm, hg]; exact hg1) (by rw [Stand.throwing_vm]; exact hsz1) (by rw [Stand.throwing_heap]; exact hce) (fun k hk => by rw [hvm] at hk; cases hk) ⟨kX1, hkX1⟩ ⟨kN1, hkN1⟩ (by rw [hW1.alike.assignable]; exact f3) ?_
  exact zGo_hit (s := ((T.setTop g).pushFrame (.throwing a)).setVm vm1) hcov2 h02 (c := cN2) (cell := ce) (vm' := vm2) (by rw [hg]; exact hg2) hsz2 (by show ((T.setTop g).pushFrame (.throwing a)).heap[a]? = _; rw [Stand.throwing_heap]; exact hce) (fun k hk => by rw [hvm] at hk; cases hk) ⟨kX2, hkX2⟩ ⟨kN3, hkN3⟩ (by rw [hW2.alike.assignable]; exact q3)
variable {H : Heap} {Q : State → Prop} {pc mc ms kc ks : Nat} {ls : Array Slot} {rest st0 : List Value} {free : Addr → Prop}
/-- a call within a try: it goes on behind the call, or at the handler -/
theorem y_try {Qa : State → Outcome → State → Prop} (hr : yRun p l e R s m args below meth c H locs cells slots mc ms kc ks (F0 m pc ls st0) rest Qa free)
    (kr : ∀ (v : Option Value) (st₀ t : State) (L : List Loc), st₀.heap = H → s.WarmedH st₀.vm → (∀ q ∈ L, free q.base) → s.WarmedH t.vm → Qa st₀ (.returned v) t → W p l e R s m args below meth c t.heap (locs ++ L) (cells + mc) (slots + ms) Q (F0 m (pc + 3) ls (v.toList ++ rest)))
    (kt : ∀ (x : Addr) (st₀ t : State) (L : List Loc), st₀.heap = H → s.WarmedH st₀.vm → (∀ q ∈ L, free q.base) → Qa st₀ (.threw x) t → ∃ hpc : Nat,
      (∀ T' : State, T'.heap = t.heap → Stand p l e R s m args below meth c T' (locs ++ L) (cells + kc) (slots + ks) → ∃ vm', s.WarmedH vm' ∧ zFinds e ((T'.setTop (F0 m pc ls rest)).pushFrame (.throwing x)) (F0 m pc ls rest) x (.found hpc) (((T'.setTop (F0 m pc ls rest)).pushFrame (.throwing x)).setVm vm')) ∧
      W p l e R s m args below meth c t.heap (locs ++ L) (cells + kc) (slots + ks) Q (F0 m hpc ls [.ref x])) :
    W p l e R s m args below meth c H locs cells slots Q (F0 m pc ls st0) := by
  intro T hT X
  obtain ⟨o, st₀, t, T', L, ⟨h0, hW0⟩, X', hL, e1, e2, hq, st⟩ := hr T hT X
  cases o with
  | returned v =>
    obtain ⟨u, a1, a2⟩ := kr v st₀ t L h0 hW0 hL (by rw [← e2]; exact X'.warmed) hq T' e1 X'
    exact ⟨u, st _ a1, a2⟩
  | threw x =>
    obtain ⟨hpc, hfind, hw⟩ := kt x st₀ t L h0 hW0 hL hq
    obtain ⟨vm', hW', hz⟩ := hfind T' e1 X'
    obtain ⟨u, a1, a2⟩ := hw (T'.setVm vm') e1 (X'.noted hW')
    exact ⟨u, st _ (zCaught (g := F0 m pc ls rest) X'.here hz a1), a2⟩
end ZC
end
section
/-! methods with handlers of their own: contract and call -/
theorem YMet.ofWH {l : Launch} {y : MethodName} {ws ws' : List Cond} {rm : Room} {Pc : Array Value → State → Prop} {Qc : Array Value → State → Outcome → State → Prop} {mc ms kc ks : Nat} {free : Addr → Prop} {cc : ByteArray} {maxL : Nat} {ret : Option FieldType} {hh : List (Nat × Nat × Nat × Nat)}
    (hy : plainName y.cls = true) (hw : ws = Cond.codeWith y cc maxL ret hh :: ws')
    (body : ∀ p e s m args below meth c s₁ R Q, R = (headSpec ws rm).room → Q = YQ below Qc args s mc ms kc ks free → BodyLoose p l y (headSpec ws rm) cc maxL ret e s m args below meth c s₁ → c.maxLocals = maxL → c.exceptionTable.toList.map (fun h => (h.startPc, h.endPc, h.handlerPc, h.catchType)) = hh → Pc args s →
      W p l e R s m args below meth c s.heap [] 0 0 Q (entryFrame m args maxL)) : YMet l y ws rm Pc Qc mc ms kc ks free := by
  refine MetFree.of_bodyS (code := cc) (maxLocals := maxL) (ret := ret) hy ?_ ?_
  · intro args s m h hn
    obtain ⟨m9, meth, c, hn9, h1, h2, h3, h4, -, h5, h6, -⟩ := Cond.codeWith_spec (atoms_spec (ws := ws) h _ (by rw [hw]; exact List.mem_cons_self))
    cases hn.symm.trans hn9
    exact ⟨meth, c, h1, h2, h3, h4, h5, h6⟩
  · intro p e s m args below meth c s₁ B hml hP _
    have hh0 : s₁.heap = s.heap := by rw [B.state]; rfl
    have X := Stand.of_body B
    obtain ⟨m9, meth', c', hn9, h1, h2, -, -, h7, -, -, -⟩ := Cond.codeWith_spec (atoms_spec (ws := ws) B.pre _ (by rw [hw]; exact List.mem_cons_self))
    cases B.named.symm.trans hn9
    have e1 : meth' = meth := Option.some.inj (h1.symm.trans B.method)
    subst e1
    have e2 : c' = c := Option.some.inj (h2.symm.trans X.code)
    subst e2
    obtain ⟨t, a1, o, b1, b2, b3⟩ := body p e s m args below meth' c' s₁ _ _ rfl rfl B hml h7 hP s₁ hh0 X
    exact ⟨t, o, a1, b1, b2, b3⟩
section YH
variable {p : Program} {l : Launch} {e : Env} {R : Room} {s : State} {m : MethodId} {args : Array Value} {below : List Frame} {meth : Method} {c : Code} {H : Heap} {locs : List Loc} {cells slots : Nat}
variable {y : MethodName} {bytes cc : ByteArray} {maxL nL mc ms kc ks n index len : Nat} {ret : Option FieldType} {ws : List Cond} {rm : Room} {Pc : Array Value → State → Prop} {Qc : Array Value → State → Outcome → State → Prop} {free : Addr → Prop} {Ts : List Cond} {own C : String} {b : Addr} {As rest : List Value} {g : JFrame} {hh : List (Nat × Nat × Nat × Nat)}
theorem yIntoH {U : State} (hM : YMet l y ws rm Pc Qc mc ms kc ks free) (hrc : rm.cells = kc) (hrs : rm.slots = ks) (hfr : rm.frames + 1 ≤ R.frames) (hlo : 8 + (maxL + 11) + rm.locals ≤ R.locals)
    (hws : ∀ w ∈ ws, ∀ a' U, s.WarmedH U.vm → w.before a' U = true) (hcode : Cond.codeWith y bytes maxL ret hh ∈ ws) (hini : ∀ a' U, s.WarmedH U.vm → (Cond.initialized y.cls).before a' U = true) (hbl : FrameBlind Pc)
    (X : Stand p l e R s m args below meth c U locs cells slots) (hg : g.method = m) (hsize : g.locals.size = c.maxLocals) {ig : Instr} (hdg : decode c.code g.pc = .ok (ig, len)) (hW : 2 * g.monitorRoom + (g.stack.map fun v => v.category).sum ≤ 8) {mk : MethodId} (hn : U.methodNamed? y = some mk) {a : Array Value} (hP : Pc a U) (hf : cells + kc ≤ R.cells ∧ slots + ks ≤ R.slots) :
    ∃ (o : Outcome) (t T' : State) (L : List Loc), Stand p l e R s m args below meth c T' (locs ++ L) (cells + yN o mc kc) (slots + yN o ms ks) ∧ (∀ q ∈ L, free q.base) ∧ T'.heap = t.heap ∧ T'.vm = t.vm ∧ Qc a (U.calling g mk a) o t ∧ Steps p.tables e below (doInvoke e (U.setTop g) [] mk a).1 (yTo T' g len o) := by
  obtain ⟨m9, methY, cY, hn9, hmY, hcY, -, hlY, -⟩ := Cond.codeWith_spec (hws _ hcode a U X.warmed)
  cases hn.symm.trans hn9
  obtain ⟨kY, hkY, -⟩ := className_of_methodNamed hn
  have hinitY : kY.init = .initialized := Cond.initialized_spec (findClass_of_methodNamed hn) hkY (hini a U X.warmed)
  have h : At U g.method c below := by rw [hg]; exact X.here
  have happ : (headSpec ws rm).appliesLoose y e.platform (U.calling g mk a) = true :=
    Spec.appliesLoose_calling (g := g) h hdg hn hkY hinitY (X.room_calling (g := g) (R' := (headSpec ws rm).room) hsize hmY hcY hfr (by rw [hlY]; show _ + _ + rm.locals ≤ _; omega) (by rw [show (headSpec ws rm).room.cells = kc from hrc]; exact hf.1) (by rw [show (headSpec ws rm).room.slots = ks from hrs]; exact hf.2)) (atoms_intro fun w hw => hws w hw _ _ X.warmed)
  obtain ⟨mid, hmid⟩ := h.above
  have hfr2 : (U.setTop g).frames = (.java g :: mid) ++ below := by rw [State.frames_setTop' g h.top, hmid]; rfl
  obtain ⟨o, s₂, hsteps, -, hend, hq, L, ⟨hW2, hsame⟩, hL⟩ := Steps.callFree hM p X.admits X.cas X.clock (acts := []) hfr2 happ (hbl _ _ _ _ hP) trivial
  rw [State.frames_setTop' g h.top, X.tail] at hend
  cases o with
  | returned v =>
    obtain ⟨T', X', -, hs2, e2⟩ := X.outOf hg hdg (mk := mk) (a := a) hend hW2 hsame
    refine ⟨.returned v, s₂, T', L, X', hL, ?_, ?_, hq, ?_⟩
    · rw [e2]; rfl
    · rw [e2]; rfl
    · show Steps p.tables e below _ (T'.setTop { g with pc := g.pc + len, stack := v.toList ++ g.stack })
      rw [← e2]; exact hsteps
  | threw x =>
    obtain ⟨T', X', -, hs2, e2⟩ := X.outOfThrown hg (mk := mk) (a := a) hend hW2 hsame
    refine ⟨.threw x, s₂, T', L, X', hL, ?_, ?_, hq, ?_⟩
    · rw [e2]; rfl
    · rw [e2]; rfl
    · show Steps p.tables e below _ ((T'.setTop g).pushFrame (.throwing x))
      rw [← e2]; exact hsteps
end YH
end
section
/-! long arrays by whole numbers; runs of static methods with handlers -/
def jAL (f : Int → Int) : Nat → Int64 := fun j => jL (f (j : Int))
section YS
variable {p : Program} {l : Launch} {e : Env} {R : Room} {s : State} {m : MethodId} {args : Array Value} {below : List Frame} {meth : Method} {c : Code} {H : Heap} {locs : List Loc} {cells slots : Nat} {Q : State → Prop}
variable {cc bytes : ByteArray} {pc nL maxL n index mc ms kc ks : Nat} {ls : Array Slot} {rest As : List Value} {D : va_G} {cl : List vw_C} {A : Nat → Prop} {a : Nat} {tys : List (ClassId × FieldType)} {ws : va_W} {H0 : Heap} {own : String} {y : MethodName} {ret : Option FieldType} {rm : Room} {Ts : List Cond} {Pc : Array Value → State → Prop} {Qc : Array Value → State → Outcome → State → Prop} {free : Addr → Prop} {g : JFrame} {hh : List (Nat × Nat × Nat × Nat)}
theorem ji_last (hx : p.tables.exec = Jvm.exec) (hb : c.code = cc) (hK : va_K D cl tys s) (hP : va_P D cl ws H) (hD : va_D A ws) (hS : va_S A H0 H locs) (q0 t0 : Nat) {cA : ClassId} {n : Nat} {f : Int → Int} (ha : ws[q0]? = some (a, .inl (cA, n, .inr (.inl (jAL f))))) (ht : tys[t0]? = some (cA, .long)) {i x : Int} (h0 : 0 ≤ i ∧ i < (n : Int)) (hn : n ≤ 2147483648) (hdg : decode cc pc = .ok (.lastore, 1))
    (kk : ∀ (H1 : Heap) (locs1 : List Loc), va_P D cl (ws.set q0 (a, .inl (cA, n, .inr (.inl (jAL (jset f i x)))))) H1 → va_D A (ws.set q0 (a, .inl (cA, n, .inr (.inl (jAL (jset f i x)))))) → va_S A H0 H1 locs1 → W p l e R s m args below meth c H1 locs1 cells slots Q (F0 m (pc + 1) ls rest)) : W p l e R s m args below meth c H locs cells slots Q (F0 m pc ls (.long (jL x) :: .int (jI i) :: .ref a :: rest)) := by
  have e1 : vp_updL (jAL f) (jI i).toNatClampNeg (jL x) = jAL (jset f i x) := by
    rw [jI_clamp h0.1 (by omega)]
    funext j
    show (if j = i.toNat then jL x else jL (f (j : Int))) = jL (if (j : Int) = i then x else f (j : Int))
    by_cases h : j = i.toNat
    · rw [if_pos h, if_pos (by omega)]
    · rw [if_neg h, if_neg (by omega)]
  refine va_last hx hb hK hP hD hS q0 t0 ha ht (jA_in h0.1 h0.2 hn) hdg ?_
  rw [e1]
  exact kk
theorem yRunSH (S : CallFix p m c cc nL s args Ts own) (hM : YMet l y (Cond.codeWith y bytes maxL ret hh :: TBL) rm Pc Qc mc ms kc ks free) (hT : GoodIn Ts (Cond.codeWith y bytes maxL ret hh :: TBL)) (ht : ∀ w ∈ Ts, w.before args s = true) (hl : (Cond.methodLink own index y).before args s = true) (hstt : (Cond.static y).before args s = true) (hini : (Cond.initialized y.cls).before args s = true) (hrc : rm.cells = kc) (hrs : rm.slots = ks) (hfr : rm.frames + 1 ≤ R.frames) (hlo : 8 + (maxL + 11) + rm.locals ≤ R.locals) (hy : y.cls ≠ "java/lang/invoke/MethodHandle" ∧ y.cls ≠ "java/lang/invoke/VarHandle") (hlen : ∀ sig, parseMethodDescriptor y.desc = some sig → n = sig.parameters.length) (hp : PreS s H Pc As)
    (hg : g.method = m) (hn : As.length = n) (hsize : g.locals.size = nL) (hstack : g.stack = As.reverse ++ rest) (hW : 2 * g.monitorRoom + (rest.map fun v => v.category).sum ≤ 8) (hdg : decode cc g.pc = .ok (.invokestatic index, 3)) (hf : cells + kc ≤ R.cells ∧ slots + ks ≤ R.slots) :
    yRun p l e R s m args below meth c H locs cells slots mc ms kc ks g rest (Qc As.toArray) free := by
  have hws : ∀ w ∈ Cond.codeWith y bytes maxL ret hh :: TBL, ∀ a' U, s.WarmedH U.vm → w.before a' U = true := fun w hw a' U hWU => word_at hWU (hT w hw).2 (ht w (hT w hw).1)
  obtain ⟨hx, hb, hml, ho, -⟩ := S
  intro T hT2 X
  obtain ⟨mk, methM, cM, hnamed, hmethM, -, -, -, -, -, -, hsigM⟩ := Cond.codeWith_spec (hws _ List.mem_cons_self args s (State.WarmedH.refl s))
  have hstatic : methM.isStatic = true := Cond.static_spec hnamed hmethM hstt
  obtain ⟨kP, hkP, -⟩ := className_of_methodNamed hnamed
  have hinitP : kP.init = .initialized := Cond.initialized_spec (findClass_of_methodNamed hnamed) hkP hini
  obtain ⟨vm₁, X₁, hstep₁⟩ := X.invokestatic hx ho hl hnamed hmethM hstatic hkP hinitP hy (g := g) hg (argsL := As) (rest := rest) (hn.trans (hlen _ hsigM)) hstack (by rw [hb]; exact hdg)
  obtain ⟨o, t, T', L, X', hL, e1, e2, hq, st⟩ := yIntoH (g := { g with stack := rest }) (len := 3) hM hrc hrs hfr hlo hws List.mem_cons_self (fun a' U hWU => word_at hWU (Or.inl (by first | rfl | simp [Cond.onTables, Cond.keeps, Cond.steady])) hini) hp.1 X₁ hg (hsize.trans hml.symm) (by rw [hb]; exact hdg) hW (X₁.named hnamed) (a := As.toArray) (hp.2 (T.setVm vm₁) hT2 X₁.warmed) hf
  exact ⟨o, (T.setVm vm₁).calling { g with stack := rest } mk As.toArray, t, T', L, ⟨hT2, X₁.warmed⟩, X', hL, e1, e2, hq, fun target h => hstep₁ _ fun acts => by rw [doInvoke_state]; exact st.trans h⟩
end YS
end
section
theorem f_XG_needBelow_e (zi : Int) (zb : Int) : (f_XG_needBelow zi zb) = 0 ∨ (f_XG_needBelow zi zb) = 1 := by
  rw [f_XG_needBelow_s]
  try simp only []
  (repeat' split) <;> first | omega | (dsimp only; omega)
theorem f_XG_needPlace_e (zi : Int) : (f_XG_needPlace zi) = 0 ∨ (f_XG_needPlace zi) = 1 := by
  rw [f_XG_needPlace_s]
  try simp only []
  (repeat' split) <;> first | omega | (dsimp only; omega)
theorem f_XG_needGrade_e (bg : Int) (bf : Int) (zi : Int) : (f_XG_needGrade bg bf zi) = 0 ∨ (f_XG_needGrade bg bf zi) = 1 := by
  rw [f_XG_needGrade_s]
  try simp only []
  (repeat' split) <;> first | omega | (dsimp only; omega)
theorem f_XG_needFormula_e (bg : Int) (bf : Int) (zk : Int) : (f_XG_needFormula bg bf zk) = 0 ∨ (f_XG_needFormula bg bf zk) = 2 := by
  rw [f_XG_needFormula_s]
  try simp only []
  (repeat' split) <;> first | omega | (dsimp only; omega)
theorem f_XG_sign_e (tn : Int) (tp : Int) (tw : Int) (tf : Int → Int) (zy : Int) (z1 : Int) : (f_XG_sign tn tp tw tf zy z1).1 = 0 ∨ (f_XG_sign tn tp tw tf zy z1).1 = 3 ∨ (f_XG_sign tn tp tw tf zy z1).1 = 4 := by
  rw [f_XG_sign_s]
  try simp only []
  (repeat' split) <;> first | omega | (dsimp only; omega)
theorem f_XG_span_e (bg : Int) (bf : Int) (fp : Int → Int) (fl : Int → Int) (fh : Int → Int) (z1 : Int) (z2 : Int) (z3 : Int) : (f_XG_span bg bf fp fl fh z1 z2 z3).1 = 0 ∨ (f_XG_span bg bf fp fl fh z1 z2 z3).1 = 1 := by
  have h0 := f_XG_needGrade_e bg bf z1
  have h1 := f_XG_needBelow_e z2 8
  have h2 := f_XG_needBelow_e z3 2
  rw [f_XG_span_s]
  try simp only []
  (repeat' split) <;> first | omega | (dsimp only; omega)
theorem f_XG_limit_e (bg : Int) (bf : Int) (fp : Int → Int) (fq : Int → Int) (z1 : Int) (z2 : Int) : (f_XG_limit bg bf fp fq z1 z2).1 = 0 ∨ (f_XG_limit bg bf fp fq z1 z2).1 = 1 := by
  have h0 := f_XG_needGrade_e bg bf z1
  have h1 := f_XG_needBelow_e z2 4
  rw [f_XG_limit_s]
  try simp only []
  (repeat' split) <;> first | omega | (dsimp only; omega)
theorem f_XG_equivalent_e (bg : Int) (bf : Int) (fp : Int → Int) (fl : Int → Int) (fh : Int → Int) (fd : Int → Int) (fe : Int → Int) (z1 : Int) (z2 : Int) (z3 : Int) (z4 : Int) : (f_XG_equivalent bg bf fp fl fh fd fe z1 z2 z3 z4).1 = 0 ∨ (f_XG_equivalent bg bf fp fl fh fd fe z1 z2 z3 z4).1 = 1 ∨ (f_XG_equivalent bg bf fp fl fh fd fe z1 z2 z3 z4).1 = 2 := by
  have h0 := f_XG_needGrade_e bg bf z1
  have h1 := f_XG_needBelow_e z2 4
  have h2 := f_XG_needBelow_e z3 2
  have h3 := f_XG_needBelow_e z4 2
  have h4 := f_XG_needFormula_e bg bf z2
  rw [f_XG_equivalent_s]
  try simp only []
  (repeat' split) <;> first | omega | (dsimp only; omega)
theorem f_XG_share_e (fs : Int → Int) (z1 : Int) (z2 : Int) : (f_XG_share fs z1 z2).1 = 0 ∨ (f_XG_share fs z1 z2).1 = 1 ∨ (f_XG_share fs z1 z2).1 = 3 := by
  have h0 := f_XG_needBelow_e z1 8
  rw [f_XG_share_s]
  try simp only []
  (repeat' split) <;> first | omega | (dsimp only; omega)
theorem f_XG_value_e (bg : Int) (bf : Int) (fd : Int → Int) (fs : Int → Int) (z1 : Int) (z2 : Int) : (f_XG_value bg bf fd fs z1 z2).1 = 0 ∨ (f_XG_value bg bf fd fs z1 z2).1 = 1 ∨ (f_XG_value bg bf fd fs z1 z2).1 = 2 := by
  have h0 := f_XG_needBelow_e z1 4
  have h1 := f_XG_needBelow_e z2 2
  have h2 := f_XG_needFormula_e bg bf z1
  rw [f_XG_value_s]
  try simp only []
  (repeat' split) <;> first | omega | (dsimp only; omega)
theorem f_XG_fits_L7_e (bg : Int) (bf : Int) (fp : Int → Int) (fl : Int → Int) (fh : Int → Int) (fq : Int → Int) (fd : Int → Int) (fs : Int → Int) (z1 : Int) : ∀ (n : Nat) (k : Int), (f_XG_fits_L7 bg bf fp fl fh fq fd fs z1 n k).1 = 0 := by
  intro n
  induction n with
  | zero => intro k; rw [f_XG_fits_L7_z]
  | succ n ih =>
    intro k
    rw [f_XG_fits_L7_s]
    try simp only []
    (repeat' split) <;> first | rfl | exact ih _
theorem f_XG_fits_e (bg : Int) (bf : Int) (fp : Int → Int) (fl : Int → Int) (fh : Int → Int) (fq : Int → Int) (fd : Int → Int) (fs : Int → Int) (z1 : Int) : (f_XG_fits bg bf fp fl fh fq fd fs z1).1 = 0 ∨ (f_XG_fits bg bf fp fl fh fq fd fs z1).1 = 1 := by
  have h0 := f_XG_needGrade_e bg bf z1
  have hL := f_XG_fits_L7_e bg bf fp fl fh fq fd fs z1
  rw [f_XG_fits_s]
  try simp only []
  (repeat' split) <;> first | omega | (dsimp only; omega) | (rw [hL]; omega) | (simp only [hL]; omega) | (left; exact hL _ _ _) | (left; exact hL _ _)
theorem f_XG_holds_L12_e (bg : Int) (bf : Int) (fp : Int → Int) (fl : Int → Int) (fh : Int → Int) (fq : Int → Int) (fd : Int → Int) (fe : Int → Int) (z1 : Int) (z2 : Int) : ∀ (n : Nat) (k : Int), (f_XG_holds_L12 bg bf fp fl fh fq fd fe z1 z2 n k).1 = 0 := by
  intro n
  induction n with
  | zero => intro k; rw [f_XG_holds_L12_z]
  | succ n ih =>
    intro k
    rw [f_XG_holds_L12_s]
    try simp only []
    (repeat' split) <;> first | rfl | exact ih _
theorem f_XG_holds_e (bg : Int) (bf : Int) (fp : Int → Int) (fl : Int → Int) (fh : Int → Int) (fq : Int → Int) (fd : Int → Int) (fe : Int → Int) (z1 : Int) (z2 : Int) : (f_XG_holds bg bf fp fl fh fq fd fe z1 z2).1 = 0 ∨ (f_XG_holds bg bf fp fl fh fq fd fe z1 z2).1 = 1 := by
  have h0 := f_XG_needGrade_e bg bf z1
  have h1 := f_XG_needGrade_e bg bf z2
  have hL := f_XG_holds_L12_e bg bf fp fl fh fq fd fe z1 z2
  rw [f_XG_holds_s]
  try simp only []
  (repeat' split) <;> first | omega | (dsimp only; omega) | (rw [hL]; omega) | (simp only [hL]; omega) | (left; exact hL _ _ _) | (left; exact hL _ _)
theorem f_XG_ring_L8_e (bg : Int) (bf : Int) (ft : Int → Int) (z1 : Int) : ∀ (n : Nat) (v k : Int), (f_XG_ring_L8 bg bf ft z1 n v k).1 = 0 := by
  intro n
  induction n with
  | zero => intro v k; rw [f_XG_ring_L8_z]
  | succ n ih =>
    intro v k
    rw [f_XG_ring_L8_s]
    try simp only []
    (repeat' split) <;> first | rfl | exact ih _ _
theorem f_XG_ring_e (bg : Int) (bf : Int) (ft : Int → Int) (z1 : Int) : (f_XG_ring bg bf ft z1).1 = 0 ∨ (f_XG_ring bg bf ft z1).1 = 1 := by
  have h0 := f_XG_needPlace_e z1
  have hL := f_XG_ring_L8_e bg bf ft z1
  rw [f_XG_ring_s]
  try simp only []
  (repeat' split) <;> first | omega | (dsimp only; omega) | (rw [hL]; omega) | (simp only [hL]; omega) | (left; exact hL _ _ _) | (left; exact hL _ _)
theorem f_XG_route_L24_e (bg : Int) (bf : Int) (fp : Int → Int) (fr : Int → Int) (z1 : Int) (z2 : Int) : ∀ (n : Nat) (v k : Int), (f_XG_route_L24 bg bf fp fr z1 z2 n v k).1 = 0 := by
  intro n
  induction n with
  | zero => intro v k; rw [f_XG_route_L24_z]
  | succ n ih =>
    intro v k
    rw [f_XG_route_L24_s]
    try simp only []
    (repeat' split) <;> first | rfl | exact ih _ _
theorem f_XG_route_e (bg : Int) (bf : Int) (fp : Int → Int) (fr : Int → Int) (z1 : Int) (z2 : Int) : (f_XG_route bg bf fp fr z1 z2).1 = 0 ∨ (f_XG_route bg bf fp fr z1 z2).1 = 1 := by
  have h0 := f_XG_needGrade_e bg bf z1
  have h1 := f_XG_needPlace_e z2
  have hL := f_XG_route_L24_e bg bf fp fr z1 z2
  rw [f_XG_route_s]
  try simp only []
  (repeat' split) <;> first | omega | (dsimp only; omega) | (rw [hL]; omega) | (simp only [hL]; omega) | (left; exact hL _ _ _) | (left; exact hL _ _)
theorem f_XG_difference_L20_e (bg : Int) (bf : Int) (fp : Int → Int) (fl : Int → Int) (fh : Int → Int) (z1 : Int) (z2 : Int) (z3 : Int) : ∀ (n : Nat) (v k : Int), (f_XG_difference_L20 bg bf fp fl fh z1 z2 z3 n v k).1 = 0 := by
  intro n
  induction n with
  | zero => intro v k; rw [f_XG_difference_L20_z]
  | succ n ih =>
    intro v k
    rw [f_XG_difference_L20_s]
    try simp only []
    (repeat' split) <;> first | rfl | exact ih _ _
theorem f_XG_difference_e (bg : Int) (bf : Int) (fp : Int → Int) (fl : Int → Int) (fh : Int → Int) (z1 : Int) (z2 : Int) (z3 : Int) : (f_XG_difference bg bf fp fl fh z1 z2 z3).1 = 0 ∨ (f_XG_difference bg bf fp fl fh z1 z2 z3).1 = 1 := by
  have h0 := f_XG_needGrade_e bg bf z1
  have h1 := f_XG_needGrade_e bg bf z2
  have h2 := f_XG_needPlace_e z3
  have hL := f_XG_difference_L20_e bg bf fp fl fh z1 z2 z3
  rw [f_XG_difference_s]
  try simp only []
  (repeat' split) <;> first | omega | (dsimp only; omega) | (rw [hL]; omega) | (simp only [hL]; omega) | (left; exact hL _ _ _) | (left; exact hL _ _)
theorem f_XG_write_e (bg : Int) (bf : Int) (ft : Int → Int) (fl : Int → Int) (fh : Int → Int) (fq : Int → Int) (fr : Int → Int) (pn : Int) (pf : Int → Int) (z1 : Int) : (f_XG_write bg bf ft fl fh fq fr pn pf z1).1 = 0 ∨ (f_XG_write bg bf ft fl fh fq fr pn pf z1).1 = 1 := by
  have h0 := f_XG_needGrade_e bg bf z1
  rw [f_XG_write_s]
  try simp only []
  (repeat' split) <;> first | omega | (dsimp only; omega)
theorem f_XG_at_e (pn : Int) (pf : Int → Int) (z1 : Int) : (f_XG_at pn pf z1).1 = 0 ∨ (f_XG_at pn pf z1).1 = 1 := by
  have h0 := f_XG_needPlace_e z1
  rw [f_XG_at_s]
  try simp only []
  (repeat' split) <;> first | omega | (dsimp only; omega)

end
section
/-! a call within a try over a world: it goes on, or a handler takes it -/
def jw (v : Int) : Int := (jI v).toInt
theorem jw_i (v : Int) : i32 (jw v) := ⟨by have := (jI v).le_toInt; unfold jw; simpa using this, by have := (jI v).toInt_lt; unfold jw; simpa using this⟩
theorem jI_jw (v : Int) : jI (jw v) = jI v := jI_ti _
def jC (U : State) : Prop := va_Nc "java/lang/UnsupportedOperationException" "java/lang/IllegalArgumentException" U ∧ va_Nc "java/lang/IllegalStateException" "java/lang/IndexOutOfBoundsException" U ∧ va_Nc "java/lang/IllegalArgumentException" "java/lang/IndexOutOfBoundsException" U
theorem jC.moved {u U : State} (hvm : u.vm.Alike U.vm) (h : jC u) : jC U := ⟨h.1.moved hvm, h.2.1.moved hvm, h.2.2.moved hvm⟩
def jBc (D : va_G) (tys : List (ClassId × FieldType)) (wc : va_W) (sz : Nat) : State → Prop := fun U => jBw D tys wc sz U ∧ jX (fun _ => False) U ∧ jC U
theorem jBc_blind {D : va_G} {tys : List (ClassId × FieldType)} {wc : va_W} {sz : Nat} {As : List Value} : FrameBlind (va_Pc As (jBc D tys wc sz)) := fun a U g mk q => ⟨q.1, (jBw_blind a U g mk ⟨q.1, q.2.1⟩).2, jX.same rfl rfl q.2.2.1, jC.moved (u := U) (Vm.Alike.refl U.vm) q.2.2.2⟩
theorem xCls_1 : xCls 1 = "java/lang/IndexOutOfBoundsException" := rfl
theorem xCls_2 : xCls 2 = "java/lang/IllegalStateException" := rfl
theorem xCls_3 : xCls 3 = "java/lang/IllegalArgumentException" := rfl
theorem xCls_4 : xCls 4 = "java/lang/UnsupportedOperationException" := rfl
theorem jX.c1 {A : Nat → Prop} {s : State} (hX : jX A s) {args : Array Value} : (Cond.castable "java/lang/IndexOutOfBoundsException" "java/lang/IndexOutOfBoundsException").before args s = true := va_Nw.use rfl hX.2.2.2.2.2.1
theorem jX.c2 {A : Nat → Prop} {s : State} (hX : jX A s) {args : Array Value} : (Cond.castable "java/lang/IllegalStateException" "java/lang/IllegalStateException").before args s = true := va_Nw.use rfl hX.2.2.2.2.2.2.1
theorem jX.c3 {A : Nat → Prop} {s : State} (hX : jX A s) {args : Array Value} : (Cond.castable "java/lang/IllegalArgumentException" "java/lang/IllegalArgumentException").before args s = true := va_Nw.use rfl hX.2.2.2.2.2.2.2.1
theorem jX.c4 {A : Nat → Prop} {s : State} (hX : jX A s) {args : Array Value} : (Cond.castable "java/lang/UnsupportedOperationException" "java/lang/UnsupportedOperationException").before args s = true := va_Nw.use rfl hX.2.2.2.2.2.2.2.2.1
theorem zTab1 {c : Code} {q : Nat × Nat × Nat × Nat} {hh : List (Nat × Nat × Nat × Nat)} (h : c.exceptionTable.toList.map (fun h => (h.startPc, h.endPc, h.handlerPc, h.catchType)) = q :: hh) : ∃ (x1 : ExceptionTableEntry) (tl : List ExceptionTableEntry), c.exceptionTable.toList = x1 :: tl ∧ x1.startPc = q.1 ∧ x1.endPc = q.2.1 ∧ x1.handlerPc = q.2.2.1 ∧ x1.catchType = q.2.2.2 ∧ tl.map (fun h => (h.startPc, h.endPc, h.handlerPc, h.catchType)) = hh := by
  obtain ⟨x1, tl, h1, h2, h3⟩ := List.map_eq_cons_iff.mp h
  subst h2
  exact ⟨x1, tl, h1, rfl, rfl, rfl, rfl, h3⟩
theorem zTab2 {tl0 : List ExceptionTableEntry} {q : Nat × Nat × Nat × Nat} {hh : List (Nat × Nat × Nat × Nat)} (h : tl0.map (fun h => (h.startPc, h.endPc, h.handlerPc, h.catchType)) = q :: hh) : ∃ (x1 : ExceptionTableEntry) (tl : List ExceptionTableEntry), tl0 = x1 :: tl ∧ x1.startPc = q.1 ∧ x1.endPc = q.2.1 ∧ x1.handlerPc = q.2.2.1 ∧ x1.catchType = q.2.2.2 := by
  obtain ⟨x1, tl, h1, h2, h3⟩ := List.map_eq_cons_iff.mp h
  subst h2
  exact ⟨x1, tl, h1, rfl, rfl, rfl, rfl⟩
section ZO
variable {p : Program} {l : Launch} {e : Env} {R : Room} {s : State} {m : MethodId} {args : Array Value} {below : List Frame} {meth : Method} {c : Code} {H H1 : Heap} {locs L : List Loc} {cells slots : Nat} {Q : State → Prop}
variable {cc bytes : ByteArray} {pc nL maxL n index : Nat} {ls : Array Slot} {rest st0 As : List Value} {D : va_G} {A : Nat → Prop} {b : Nat} {tys : List (ClassId × FieldType)} {ws wc wr : va_W} {own C N N2 : String} {y : MethodName} {ret : Option FieldType} {rm : Room} {Ts : List Cond} {z v9 : Int} {x : Addr} {ce : Cell} {a0 b0 hp ct a2 b2 hp2 ct2 : Nat} {hh : List (Nat × Nat × Nat × Nat)}
/-- what a caller of a method that throws gives for the throw: where its handler stands, and the walk from there -/
def zHnd (p : Program) (l : Launch) (e : Env) (R : Room) (s : State) (m : MethodId) (args : Array Value) (below : List Frame) (meth : Method) (c : Code) (H1 : Heap) (L : List Loc) (cells slots : Nat) (Q : State → Prop) (pc : Nat) (ls : Array Slot) (rest : List Value) (x : Addr) : Prop := ∃ hpc : Nat, (∀ T' : State, T'.heap = H1 → Stand p l e R s m args below meth c T' L cells slots → ∃ vm', s.WarmedH vm' ∧ zFinds e ((T'.setTop (F0 m pc ls rest)).pushFrame (.throwing x)) (F0 m pc ls rest) x (.found hpc) (((T'.setTop (F0 m pc ls rest)).pushFrame (.throwing x)).setVm vm')) ∧ W p l e R s m args below meth c H1 L cells slots Q (F0 m hpc ls [.ref x])
theorem zOn1 (htab : c.exceptionTable.toList.map (fun h => (h.startPc, h.endPc, h.handlerPc, h.catchType)) = (a0, b0, hp, ct) :: hh) (hown : s.vm.findClass own = some m.cls) (hcov : a0 ≤ pc ∧ pc < b0) (h0 : ct ≠ 0) (hlink : (Cond.classLink own ct N).before args s = true) (hcast : (Cond.castable C N).before args s = true) (hce : H1[x]? = some ce) (hcls : s.vm.findClass C = some ce.cls) (hvm : ce.vm = .none) (kk : W p l e R s m args below meth c H1 L cells slots Q (F0 m hp ls [.ref x])) : zHnd p l e R s m args below meth c H1 L cells slots Q pc ls rest x := by
  obtain ⟨x1, tl, h1, e1, e2, e3, e4, -⟩ := zTab1 htab
  refine ⟨hp, fun T' hT X => ?_, kk⟩
  obtain ⟨vm', hW, hz⟩ := zCatch1 X hown h1 (g := F0 m pc ls rest) rfl (by show (decide (x1.startPc ≤ pc) && decide (pc < x1.endPc)) = true; rw [e1, e2]; simp only [Bool.and_eq_true, decide_eq_true_eq]; exact hcov) (by rw [e4]; exact h0) (N := N) (C := C) (by rw [e4]; exact hlink) hcast (by rw [hT]; exact hce) hcls hvm
  rw [e3] at hz
  exact ⟨vm', hW, hz⟩
theorem zOn2 (htab : c.exceptionTable.toList.map (fun h => (h.startPc, h.endPc, h.handlerPc, h.catchType)) = (a0, b0, hp, ct) :: (a2, b2, hp2, ct2) :: hh) (hown : s.vm.findClass own = some m.cls) (hcov : a0 ≤ pc ∧ pc < b0) (h0 : ct ≠ 0) (hcov2 : a2 ≤ pc ∧ pc < b2) (h02 : ct2 ≠ 0) (hlink : (Cond.classLink own ct N).before args s = true) (hno : va_Nc C N s) (hlink2 : (Cond.classLink own ct2 N2).before args s = true) (hcast : (Cond.castable C N2).before args s = true) (hce : H1[x]? = some ce) (hcls : s.vm.findClass C = some ce.cls) (hvm : ce.vm = .none) (kk : W p l e R s m args below meth c H1 L cells slots Q (F0 m hp2 ls [.ref x])) : zHnd p l e R s m args below meth c H1 L cells slots Q pc ls rest x := by
  obtain ⟨x1, tl, h1, e1, e2, e3, e4, ht⟩ := zTab1 htab
  obtain ⟨x2, tl2, h2, f1, f2, f3, f4⟩ := zTab2 ht
  subst h2
  refine ⟨hp2, fun T' hT X => ?_, kk⟩
  obtain ⟨vm', hW, hz⟩ := zCatch2 X hown h1 (g := F0 m pc ls rest) rfl (by show (decide (x1.startPc ≤ pc) && decide (pc < x1.endPc)) = true; rw [e1, e2]; simp only [Bool.and_eq_true, decide_eq_true_eq]; exact hcov) (by rw [e4]; exact h0) (by show (decide (x2.startPc ≤ pc) && decide (pc < x2.endPc)) = true; rw [f1, f2]; simp only [Bool.and_eq_true, decide_eq_true_eq]; exact hcov2) (by rw [f4]; exact h02) (N := N) (N2 := N2) (C := C) (by rw [e4]; exact hlink) hno (by rw [f4]; exact hlink2) hcast (by rw [hT]; exact hce) hcls hvm
  rw [f3] at hz
  exact ⟨vm', hW, hz⟩
theorem ztRi (S : CallFix p m c cc nL s args Ts own) (hM : YMet l y (Cond.code y bytes maxL ret :: TBL) rm (va_Pc (.ref b :: As) (jBx D tys wc)) (xQ z (vp_Si (fun r => r = jI v9))) 0 0 1 6 (fun _ => False)) (cw : CallW R s args own C index y bytes maxL ret (Cond.code y bytes maxL ret :: TBL) rm 1 6 n) (hK : va_K D vwCl tys s) (hP : va_P D vwCl ws s.heap) (hN : jN s) (hX : jX (fun _ => False) s) (is : List Nat) (hs : is.filterMap (fun i => ws[i]?) = wc) (q0 ci : Nat) {q : vw_C} {fs : List Value} (hc : vwCl[ci]? = some q) (hC : q.1 = C) (he : ws[q0]? = some (b, .inr (ci, fs))) (hn : As.length = n) (hsize : ls.size = nL) (hstack : st0 = As.reverse ++ .ref b :: rest) (hW : (rest.map fun v => v.category).sum ≤ 8) (hdg : decode cc pc = .ok (.invokevirtual index, 3)) (hf : cells + 1 ≤ R.cells ∧ slots + 6 ≤ R.slots)
    (k0 : z = 0 → W p l e R s m args below meth c s.heap [] cells slots Q (F0 m (pc + 3) ls (.int (jI v9) :: rest)))
    (k1 : z ≠ 0 → ∀ (x : Addr) (ce : Cell) (H1 : Heap) (L : List Loc), va_P D vwCl ws H1 → va_S A s.heap H1 L → H1[x]? = some ce → s.vm.findClass (xCls z) = some ce.cls → ce.vm = .none → zHnd p l e R s m args below meth c H1 L (cells + 1) (slots + 6) Q pc ls rest x) : W p l e R s m args below meth c s.heap [] cells slots Q (F0 m pc ls st0) := by
  subst hC
  refine y_try (yRunV (As := As) (rest := rest) S hM cw ⟨jBx_blind, va_recv hK hP hc he, fun U hU hWm => ⟨rfl, ⟨by rw [hU]; exact hP.sub is hs, va_K.moved hWm.alike hK, jN.warm hWm hN⟩, jX.warm hWm hU hX⟩⟩ rfl hn hsize hstack (lv_room hW) hdg hf) ?_ ?_
  · intro v st₀ t L h0 hW0 hL hW1 hq
    cases yL hL
    rcases hq with ⟨hz, r, h1, h2, h3⟩ | ⟨-, x, ce, h1, -⟩
    · cases h1
      rw [h2, h3, h0]
      exact k0 hz
    · cases h1
  · intro x st₀ t L h0 hW0 hL hq
    cases yL hL
    rcases hq with ⟨hz, r, h1, -⟩ | ⟨hz, x', ce, h1, h2, h3, h4, h5, h6, h7⟩
    · cases h1
    · cases h1
      exact k1 hz x ce t.heap [] (hP.kept (fun k q hk => by rw [h7 _ (by rw [h0]; exact (hP k q hk).lt), h0])) ⟨by rw [← h0]; exact h6, fun q h _ => by rw [h7 q (by rw [h0]; exact h), h0], fun _ h => by cases h⟩ h2 (by rw [← hW0.alike.findClass]; exact h3) h4
theorem ztRl (S : CallFix p m c cc nL s args Ts own) (hM : YMet l y (Cond.code y bytes maxL ret :: TBL) rm (va_Pc (.ref b :: As) (jBx D tys wc)) (xQ z (vp_Sl (fun r => r = jL v9))) 0 0 1 6 (fun _ => False)) (cw : CallW R s args own C index y bytes maxL ret (Cond.code y bytes maxL ret :: TBL) rm 1 6 n) (hK : va_K D vwCl tys s) (hP : va_P D vwCl ws s.heap) (hN : jN s) (hX : jX (fun _ => False) s) (is : List Nat) (hs : is.filterMap (fun i => ws[i]?) = wc) (q0 ci : Nat) {q : vw_C} {fs : List Value} (hc : vwCl[ci]? = some q) (hC : q.1 = C) (he : ws[q0]? = some (b, .inr (ci, fs))) (hn : As.length = n) (hsize : ls.size = nL) (hstack : st0 = As.reverse ++ .ref b :: rest) (hW : (rest.map fun v => v.category).sum ≤ 8) (hdg : decode cc pc = .ok (.invokevirtual index, 3)) (hf : cells + 1 ≤ R.cells ∧ slots + 6 ≤ R.slots)
    (k0 : z = 0 → W p l e R s m args below meth c s.heap [] cells slots Q (F0 m (pc + 3) ls (.long (jL v9) :: rest)))
    (k1 : z ≠ 0 → ∀ (x : Addr) (ce : Cell) (H1 : Heap) (L : List Loc), va_P D vwCl ws H1 → va_S A s.heap H1 L → H1[x]? = some ce → s.vm.findClass (xCls z) = some ce.cls → ce.vm = .none → zHnd p l e R s m args below meth c H1 L (cells + 1) (slots + 6) Q pc ls rest x) : W p l e R s m args below meth c s.heap [] cells slots Q (F0 m pc ls st0) := by
  subst hC
  refine y_try (yRunV (As := As) (rest := rest) S hM cw ⟨jBx_blind, va_recv hK hP hc he, fun U hU hWm => ⟨rfl, ⟨by rw [hU]; exact hP.sub is hs, va_K.moved hWm.alike hK, jN.warm hWm hN⟩, jX.warm hWm hU hX⟩⟩ rfl hn hsize hstack (lv_room hW) hdg hf) ?_ ?_
  · intro v st₀ t L h0 hW0 hL hW1 hq
    cases yL hL
    rcases hq with ⟨hz, r, h1, h2, h3⟩ | ⟨-, x, ce, h1, -⟩
    · cases h1
      rw [h2, h3, h0]
      exact k0 hz
    · cases h1
  · intro x st₀ t L h0 hW0 hL hq
    cases yL hL
    rcases hq with ⟨hz, r, h1, -⟩ | ⟨hz, x', ce, h1, h2, h3, h4, h5, h6, h7⟩
    · cases h1
    · cases h1
      exact k1 hz x ce t.heap [] (hP.kept (fun k q hk => by rw [h7 _ (by rw [h0]; exact (hP k q hk).lt), h0])) ⟨by rw [← h0]; exact h6, fun q h _ => by rw [h7 q (by rw [h0]; exact h), h0], fun _ h => by cases h⟩ h2 (by rw [← hW0.alike.findClass]; exact h3) h4
theorem ztWi {U9 : Type} {post : Int32 → U9 → Prop} {w1 : U9 → va_W} (S : CallFix p m c cc nL s args Ts own) (hM : YMet l y (Cond.code y bytes maxL ret :: TBL) rm (va_Pc (.ref b :: As) (jBxw D tys wc s.heap.size)) (xQ z (va_Qi post (fun u t => jE D tys wc s.heap.size (w1 u) t) (va_A wc s.heap.size))) 0 0 1 6 (va_A wc s.heap.size)) (cw : CallW R s args own C index y bytes maxL ret (Cond.code y bytes maxL ret :: TBL) rm 1 6 n) (hK : va_K D vwCl tys s) (hP : va_P D vwCl ws s.heap) (hD : va_D A ws) (hA : ∀ q, s.heap.size ≤ q → A q) (hN : jN s) (hX : jX (fun _ => False) s) (isC isR : List Nat) (hCc : isC.map (fun i => ws[i]?) = wc.map some) (hRr : isR.map (fun i => ws[i]?) = wr.map some) (hnd : va_nd isR = true) (hnc : va_nd isC = true) (hdis : ∀ i ∈ isR, i ∉ isC) (q0 ci : Nat) {q : vw_C} {fs : List Value} (hc : vwCl[ci]? = some q) (hC : q.1 = C) (he : ws[q0]? = some (b, .inr (ci, fs))) (hn : As.length = n) (hsize : ls.size = nL) (hstack : st0 = As.reverse ++ .ref b :: rest) (hW : (rest.map fun v => v.category).sum ≤ 8) (hdg : decode cc pc = .ok (.invokevirtual index, 3)) (hf : cells + 1 ≤ R.cells ∧ slots + 6 ≤ R.slots)
    (k0 : z = 0 → ∀ (r : Int32) (u : U9) (H1 : Heap) (locs1 : List Loc), post r u → va_P D vwCl (wr ++ w1 u) H1 → va_D A (wr ++ w1 u) → va_S A s.heap H1 locs1 → W p l e R s m args below meth c H1 locs1 cells slots Q (F0 m (pc + 3) ls (.int r :: rest)))
    (k1 : z ≠ 0 → ∀ (x : Addr) (ce : Cell) (H1 : Heap) (L : List Loc), va_P D vwCl ws H1 → va_S A s.heap H1 L → H1[x]? = some ce → s.vm.findClass (xCls z) = some ce.cls → ce.vm = .none → zHnd p l e R s m args below meth c H1 L (cells + 1) (slots + 6) Q pc ls rest x) : W p l e R s m args below meth c s.heap [] cells slots Q (F0 m pc ls st0) := by
  subst hC
  have hPc := hP.sub isC (by
    have h9 := congrArg (fun l => l.filterMap id) hCc
    simpa [List.filterMap_map, Function.comp_def] using h9)
  have hDc : va_D A wc := hD.sub isC hnc hCc
  have hFc := va_free (wc := wc) hD (va_S.rf (H0 := s.heap)) hA isC hCc
  refine y_try (yRunV (As := As) (rest := rest) S hM cw ⟨jBxw_blind, va_recv hK hP hc he, fun U hU hWm => ⟨rfl, ⟨by rw [hU], by rw [hU]; exact hPc, va_K.moved hWm.alike hK, hDc.weaken (fun _ _ _ _ => trivial), jN.warm hWm hN⟩, jX.warm hWm hU hX⟩⟩ rfl hn hsize hstack (lv_room hW) hdg hf) ?_ ?_
  · intro v st₀ t L h0 hW0 hL hW1 hq
    rcases hq with ⟨hz, ⟨r, u, h1, hp1, hB⟩, hF1, hF2⟩ | ⟨-, x, ce, h1, -⟩
    · cases h1
      rw [h0] at hF1 hF2
      obtain ⟨hP1, hK1, hD1⟩ := hB
      obtain ⟨hP2, hD2⟩ := va_join hP hD isC isR hCc hRr hnd hdis hF2 hFc hP1 hD1
      exact k0 hz r u t.heap ([] ++ L) hp1 hP2 hD2 ⟨hF1, fun q h1 h2 => hF2 q h1 (fun z => h2 (hFc q z)), fun q hq => hFc _ (hL q hq)⟩
    · cases h1
  · intro x st₀ t L h0 hW0 hL hq
    rcases hq with ⟨hz, ⟨r, u, h1, hp1, hB⟩, -⟩ | ⟨hz, x', ce, h1, h2, h3, h4, h5, h6, h7⟩
    · cases h1
    · cases h1
      exact k1 hz x ce t.heap ([] ++ L) (hP.kept (fun k q hk => by rw [h7 _ (by rw [h0]; exact (hP k q hk).lt), h0])) ⟨by rw [← h0]; exact h6, fun q h _ => by rw [h7 q (by rw [h0]; exact h), h0], fun q hq => hFc _ (hL q hq)⟩ h2 (by rw [← hW0.alike.findClass]; exact h3) h4
theorem ztWl {U9 : Type} {post : Int64 → U9 → Prop} {w1 : U9 → va_W} (S : CallFix p m c cc nL s args Ts own) (hM : YMet l y (Cond.code y bytes maxL ret :: TBL) rm (va_Pc (.ref b :: As) (jBxw D tys wc s.heap.size)) (xQ z (va_Ql post (fun u t => jE D tys wc s.heap.size (w1 u) t) (va_A wc s.heap.size))) 0 0 1 6 (va_A wc s.heap.size)) (cw : CallW R s args own C index y bytes maxL ret (Cond.code y bytes maxL ret :: TBL) rm 1 6 n) (hK : va_K D vwCl tys s) (hP : va_P D vwCl ws s.heap) (hD : va_D A ws) (hA : ∀ q, s.heap.size ≤ q → A q) (hN : jN s) (hX : jX (fun _ => False) s) (isC isR : List Nat) (hCc : isC.map (fun i => ws[i]?) = wc.map some) (hRr : isR.map (fun i => ws[i]?) = wr.map some) (hnd : va_nd isR = true) (hnc : va_nd isC = true) (hdis : ∀ i ∈ isR, i ∉ isC) (q0 ci : Nat) {q : vw_C} {fs : List Value} (hc : vwCl[ci]? = some q) (hC : q.1 = C) (he : ws[q0]? = some (b, .inr (ci, fs))) (hn : As.length = n) (hsize : ls.size = nL) (hstack : st0 = As.reverse ++ .ref b :: rest) (hW : (rest.map fun v => v.category).sum ≤ 8) (hdg : decode cc pc = .ok (.invokevirtual index, 3)) (hf : cells + 1 ≤ R.cells ∧ slots + 6 ≤ R.slots)
    (k0 : z = 0 → ∀ (r : Int64) (u : U9) (H1 : Heap) (locs1 : List Loc), post r u → va_P D vwCl (wr ++ w1 u) H1 → va_D A (wr ++ w1 u) → va_S A s.heap H1 locs1 → W p l e R s m args below meth c H1 locs1 cells slots Q (F0 m (pc + 3) ls (.long r :: rest)))
    (k1 : z ≠ 0 → ∀ (x : Addr) (ce : Cell) (H1 : Heap) (L : List Loc), va_P D vwCl ws H1 → va_S A s.heap H1 L → H1[x]? = some ce → s.vm.findClass (xCls z) = some ce.cls → ce.vm = .none → zHnd p l e R s m args below meth c H1 L (cells + 1) (slots + 6) Q pc ls rest x) : W p l e R s m args below meth c s.heap [] cells slots Q (F0 m pc ls st0) := by
  subst hC
  have hPc := hP.sub isC (by
    have h9 := congrArg (fun l => l.filterMap id) hCc
    simpa [List.filterMap_map, Function.comp_def] using h9)
  have hDc : va_D A wc := hD.sub isC hnc hCc
  have hFc := va_free (wc := wc) hD (va_S.rf (H0 := s.heap)) hA isC hCc
  refine y_try (yRunV (As := As) (rest := rest) S hM cw ⟨jBxw_blind, va_recv hK hP hc he, fun U hU hWm => ⟨rfl, ⟨by rw [hU], by rw [hU]; exact hPc, va_K.moved hWm.alike hK, hDc.weaken (fun _ _ _ _ => trivial), jN.warm hWm hN⟩, jX.warm hWm hU hX⟩⟩ rfl hn hsize hstack (lv_room hW) hdg hf) ?_ ?_
  · intro v st₀ t L h0 hW0 hL hW1 hq
    rcases hq with ⟨hz, ⟨r, u, h1, hp1, hB⟩, hF1, hF2⟩ | ⟨-, x, ce, h1, -⟩
    · cases h1
      rw [h0] at hF1 hF2
      obtain ⟨hP1, hK1, hD1⟩ := hB
      obtain ⟨hP2, hD2⟩ := va_join hP hD isC isR hCc hRr hnd hdis hF2 hFc hP1 hD1
      exact k0 hz r u t.heap ([] ++ L) hp1 hP2 hD2 ⟨hF1, fun q h1 h2 => hF2 q h1 (fun z => h2 (hFc q z)), fun q hq => hFc _ (hL q hq)⟩
    · cases h1
  · intro x st₀ t L h0 hW0 hL hq
    rcases hq with ⟨hz, ⟨r, u, h1, hp1, hB⟩, -⟩ | ⟨hz, x', ce, h1, h2, h3, h4, h5, h6, h7⟩
    · cases h1
    · cases h1
      exact k1 hz x ce t.heap ([] ++ L) (hP.kept (fun k q hk => by rw [h7 _ (by rw [h0]; exact (hP k q hk).lt), h0])) ⟨by rw [← h0]; exact h6, fun q h _ => by rw [h7 q (by rw [h0]; exact h), h0], fun q hq => hFc _ (hL q hq)⟩ h2 (by rw [← hW0.alike.findClass]; exact h3) h4
theorem ztWv {U9 : Type} {post : U9 → Prop} {w1 : U9 → va_W} (S : CallFix p m c cc nL s args Ts own) (hM : YMet l y (Cond.code y bytes maxL ret :: TBL) rm (va_Pc (.ref b :: As) (jBxw D tys wc s.heap.size)) (xQ z (va_Qv post (fun u t => jE D tys wc s.heap.size (w1 u) t) (va_A wc s.heap.size))) 0 0 1 6 (va_A wc s.heap.size)) (cw : CallW R s args own C index y bytes maxL ret (Cond.code y bytes maxL ret :: TBL) rm 1 6 n) (hK : va_K D vwCl tys s) (hP : va_P D vwCl ws s.heap) (hD : va_D A ws) (hA : ∀ q, s.heap.size ≤ q → A q) (hN : jN s) (hX : jX (fun _ => False) s) (isC isR : List Nat) (hCc : isC.map (fun i => ws[i]?) = wc.map some) (hRr : isR.map (fun i => ws[i]?) = wr.map some) (hnd : va_nd isR = true) (hnc : va_nd isC = true) (hdis : ∀ i ∈ isR, i ∉ isC) (q0 ci : Nat) {q : vw_C} {fs : List Value} (hc : vwCl[ci]? = some q) (hC : q.1 = C) (he : ws[q0]? = some (b, .inr (ci, fs))) (hn : As.length = n) (hsize : ls.size = nL) (hstack : st0 = As.reverse ++ .ref b :: rest) (hW : (rest.map fun v => v.category).sum ≤ 8) (hdg : decode cc pc = .ok (.invokevirtual index, 3)) (hf : cells + 1 ≤ R.cells ∧ slots + 6 ≤ R.slots)
    (k0 : z = 0 → ∀ (u : U9) (H1 : Heap) (locs1 : List Loc), post u → va_P D vwCl (wr ++ w1 u) H1 → va_D A (wr ++ w1 u) → va_S A s.heap H1 locs1 → W p l e R s m args below meth c H1 locs1 cells slots Q (F0 m (pc + 3) ls (rest)))
    (k1 : z ≠ 0 → ∀ (x : Addr) (ce : Cell) (H1 : Heap) (L : List Loc), va_P D vwCl ws H1 → va_S A s.heap H1 L → H1[x]? = some ce → s.vm.findClass (xCls z) = some ce.cls → ce.vm = .none → zHnd p l e R s m args below meth c H1 L (cells + 1) (slots + 6) Q pc ls rest x) : W p l e R s m args below meth c s.heap [] cells slots Q (F0 m pc ls st0) := by
  subst hC
  have hPc := hP.sub isC (by
    have h9 := congrArg (fun l => l.filterMap id) hCc
    simpa [List.filterMap_map, Function.comp_def] using h9)
  have hDc : va_D A wc := hD.sub isC hnc hCc
  have hFc := va_free (wc := wc) hD (va_S.rf (H0 := s.heap)) hA isC hCc
  refine y_try (yRunV (As := As) (rest := rest) S hM cw ⟨jBxw_blind, va_recv hK hP hc he, fun U hU hWm => ⟨rfl, ⟨by rw [hU], by rw [hU]; exact hPc, va_K.moved hWm.alike hK, hDc.weaken (fun _ _ _ _ => trivial), jN.warm hWm hN⟩, jX.warm hWm hU hX⟩⟩ rfl hn hsize hstack (lv_room hW) hdg hf) ?_ ?_
  · intro v st₀ t L h0 hW0 hL hW1 hq
    rcases hq with ⟨hz, ⟨u, h1, hp1, hB⟩, hF1, hF2⟩ | ⟨-, x, ce, h1, -⟩
    · cases h1
      rw [h0] at hF1 hF2
      obtain ⟨hP1, hK1, hD1⟩ := hB
      obtain ⟨hP2, hD2⟩ := va_join hP hD isC isR hCc hRr hnd hdis hF2 hFc hP1 hD1
      exact k0 hz u t.heap ([] ++ L) hp1 hP2 hD2 ⟨hF1, fun q h1 h2 => hF2 q h1 (fun z => h2 (hFc q z)), fun q hq => hFc _ (hL q hq)⟩
    · cases h1
  · intro x st₀ t L h0 hW0 hL hq
    rcases hq with ⟨hz, ⟨u, h1, hp1, hB⟩, -⟩ | ⟨hz, x', ce, h1, h2, h3, h4, h5, h6, h7⟩
    · cases h1
    · cases h1
      exact k1 hz x ce t.heap ([] ++ L) (hP.kept (fun k q hk => by rw [h7 _ (by rw [h0]; exact (hP k q hk).lt), h0])) ⟨by rw [← h0]; exact h6, fun q h _ => by rw [h7 q (by rw [h0]; exact h), h0], fun q hq => hFc _ (hL q hq)⟩ h2 (by rw [← hW0.alike.findClass]; exact h3) h4
end ZO
end
section
noncomputable def g_XL_sign (tn : Int) (tp : Int) (tw : Int) (tf : Int → Int) (zy : Int) (z1 : Int) (fo : Int → Int) : Int × (Int → Int) × Int × (Int → Int) :=
  if (f_XG_sign tn tp tw tf zy z1).1 = 0 then
    (0, jset fo 0 (jw ((f_XG_sign tn tp tw tf zy z1).2.1)), (f_XG_sign tn tp tw tf zy z1).2.2.1, (f_XG_sign tn tp tw tf zy z1).2.2.2)
  else
    if (f_XG_sign tn tp tw tf zy z1).1 = 3 then
      (1, fo, tn, tf)
    else
      (2, fo, tn, tf)
noncomputable def f_XL_sign : Int → Int → Int → (Int → Int) → Int → Int → (Int → Int) → Int × (Int → Int) × Int × (Int → Int) := jopq g_XL_sign
theorem f_XL_sign_q : f_XL_sign = g_XL_sign := jopq_eq _
theorem f_XL_sign_s (tn : Int) (tp : Int) (tw : Int) (tf : Int → Int) (zy : Int) (z1 : Int) (fo : Int → Int) : f_XL_sign tn tp tw tf zy z1 fo = (
    if (f_XG_sign tn tp tw tf zy z1).1 = 0 then
      (0, jset fo 0 (jw ((f_XG_sign tn tp tw tf zy z1).2.1)), (f_XG_sign tn tp tw tf zy z1).2.2.1, (f_XG_sign tn tp tw tf zy z1).2.2.2)
    else
      if (f_XG_sign tn tp tw tf zy z1).1 = 3 then
        (1, fo, tn, tf)
      else
        (2, fo, tn, tf)
  : Int × (Int → Int) × Int × (Int → Int)) := by rw [f_XL_sign_q]; rfl
set_option maxHeartbeats 4000000 in
set_option maxRecDepth 100000 in
theorem c_XL_sign (l : Launch) (hst : l.stackTraces = false) (dC : Nat → ClassId) (dI : Nat → Nat → Nat) (cA cL : ClassId) (sz : Nat) (ga : Nat) (ta : Nat) (rda : Nat) (pa : Nat) (sa : Nat) (ea : Nat) (ba : Nat) (da : Nat) (ts : Nat) (tn : Int) (tp : Int) (tw : Int) (tf : Int → Int) (zy : Int) (z1 : Int) (oa : Nat) (fo : Int → Int) (hn : 0 ≤ tn ∧ tn ≤ 400) (hf : ∀ i, 0 ≤ tf i ∧ tf i < 256) (hi_z1 : i32 z1) : YMet l yXL_sign (Cond.codeWith yXL_sign cXL_sign 6 (some .int) [(0, 11, 14, 13), (0, 11, 18, 15)] :: TBL) ({ frames := 7, cells := 1, slots := 6, locals := 105 } : Room) (va_Pc [.ref ga, .long (jL zy), .int (jI z1), .ref oa] (jBc (dC, dI) [(cA, .int), (cL, .long)] [(ga, .inr (4, [.ref ta, .ref rda, .ref pa, .ref sa, .ref ea, .ref ba, .ref da])), (ta, .inr (3, [.ref ts, .int (jI tn), .int (jI tp), .int (jI tw)])), (ts, .inl (cA, 400, .inl (jA tf))), (oa, .inl (cL, 1, .inr (.inl (jAL fo))))] sz)) (va_Qi (fun (r : Int32) (u : Int × (Int → Int) × Int × (Int → Int)) => r = jI u.1 ∧ u = f_XL_sign tn tp tw tf zy z1 fo ∧ (0 ≤ u.2.2.1 ∧ u.2.2.1 ≤ 400) ∧ (∀ i, 0 ≤ u.2.2.2 i ∧ u.2.2.2 i < 256)) (fun u t => jE (dC, dI) [(cA, .int), (cL, .long)] [(ga, .inr (4, [.ref ta, .ref rda, .ref pa, .ref sa, .ref ea, .ref ba, .ref da])), (ta, .inr (3, [.ref ts, .int (jI tn), .int (jI tp), .int (jI tw)])), (ts, .inl (cA, 400, .inl (jA tf))), (oa, .inl (cL, 1, .inr (.inl (jAL fo))))] sz [(ga, .inr (4, [.ref ta, .ref rda, .ref pa, .ref sa, .ref ea, .ref ba, .ref da])), (ta, .inr (3, [.ref ts, .int (jI u.2.2.1), .int (jI tp), .int (jI tw)])), (ts, .inl (cA, 400, .inl (jA u.2.2.2))), (oa, .inl (cL, 1, .inr (.inl (jAL u.2.1))))] t) (va_A [(ga, .inr (4, [.ref ta, .ref rda, .ref pa, .ref sa, .ref ea, .ref ba, .ref da])), (ta, .inr (3, [.ref ts, .int (jI tn), .int (jI tp), .int (jI tw)])), (ts, .inl (cA, 400, .inl (jA tf))), (oa, .inl (cL, 1, .inr (.inl (jAL fo))))] sz)) 1 6 1 6 (va_A [(ga, .inr (4, [.ref ta, .ref rda, .ref pa, .ref sa, .ref ea, .ref ba, .ref da])), (ta, .inr (3, [.ref ts, .int (jI tn), .int (jI tp), .int (jI tw)])), (ts, .inl (cA, 400, .inl (jA tf))), (oa, .inl (cL, 1, .inr (.inl (jAL fo))))] sz) := by
  refine YMet.ofWH (cc := cXL_sign) (maxL := 6) (ret := some .int) (hh := [(0, 11, 14, 13), (0, 11, 18, 15)]) (by decide) rfl ?_
  intro p e s m args below meth c s₁ R Q hR hQ B hml htab hv
  obtain ⟨rfl, ⟨hsz, hP, hK, hD0, hN⟩, hX, hC⟩ := hv
  have hx := B.exec
  have hb := B.bytes
  have hr := B.returns
  have hts := atoms_spec (ws := Cond.codeWith yXL_sign cXL_sign 6 (some .int) [(0, 11, 14, 13), (0, 11, 18, 15)] :: TBL) B.pre
  have hown : s.vm.findClass RXL = some m.cls := findClass_of_methodNamed B.named
  have hlocks := B.notSynchronized
  subst hsz
  obtain ⟨A, hAe⟩ : ∃ A, A = va_A [(ga, .inr (4, [.ref ta, .ref rda, .ref pa, .ref sa, .ref ea, .ref ba, .ref da])), (ta, .inr (3, [.ref ts, .int (jI tn), .int (jI tp), .int (jI tw)])), (ts, .inl (cA, 400, .inl (jA tf))), (oa, .inl (cL, 1, .inr (.inl (jAL fo))))] s.heap.size := ⟨_, rfl⟩
  have hD : va_D A [(ga, .inr (4, [.ref ta, .ref rda, .ref pa, .ref sa, .ref ea, .ref ba, .ref da])), (ta, .inr (3, [.ref ts, .int (jI tn), .int (jI tp), .int (jI tw)])), (ts, .inl (cA, 400, .inl (jA tf))), (oa, .inl (cL, 1, .inr (.inl (jAL fo))))] := by rw [hAe]; exact hD0.self
  have hA : ∀ q : Nat, s.heap.size ≤ q → A q := fun q h => by rw [hAe]; exact Or.inr h
  have hS : va_S A s.heap s.heap [] := va_S.rf
  have hP : va_P (dC, dI) vwCl [(ga, .inr (4, [.ref ta, .ref rda, .ref pa, .ref sa, .ref ea, .ref ba, .ref da])), (ta, .inr (3, [.ref ts, .int (jI tn), .int (jI tp), .int (jI tw)])), (ts, .inl (cA, 400, .inl (jA tf))), (oa, .inl (cL, 1, .inr (.inl (jAL fo))))] s.heap := hP
  have hl := lv_entry ([.ref ga, .long (jL zy), .int (jI z1), .ref oa]) (n := 6) (Nat.le_of_ble_eq_true rfl)
  rw [lg_entry_eq]
  generalize (lg_sl ([.ref ga, .long (jL zy), .int (jI z1), .ref oa]) ++ List.replicate (6 - (lg_sl ([.ref ga, .long (jL zy), .int (jI z1), .ref oa])).length) Slot.unset).toArray = ls at hl ⊢
  have hl : lv_has ls 6 [(0, .ref ga), (1, .long (jL zy)), (3, .int (jI z1)), (4, .ref oa)] := hl
  refine lv_aload hx hb dXL_sign_0 (lv_at hl 3 rfl) ?_
  refine ji_iconst hx hb dXL_sign_2 ?_
  refine lv_aload_n hx hb dXL_sign_3 rfl (lv_at hl 0 rfl) ?_
  refine lv_lload_n hx hb dXL_sign_4 rfl (lv_at hl 1 rfl) ?_
  refine lv_iload_n hx hb dXL_sign_5 rfl (lv_at hl 2 rfl) ?_
  refine ztWi (A := A) (wr := [(oa, .inl (cL, 1, .inr (.inl (jAL fo))))]) (rest := [.int (jI 0), .ref oa]) ⟨hx, hb, hml, hown, hts⟩ (c_XG_sign l hst dC dI cA _ ga ta rda pa sa ea ba da ts tn tp tw tf zy z1 hn hf hi_z1) (cwV 2 hts (jG_V tw_306 tw_307 tw_308 tw_1 tw_309) rfl rfl rfl (by decide +kernel) (by rw [hR]; exact ⟨Nat.le_of_ble_eq_true rfl, Nat.le_of_ble_eq_true rfl⟩)) (va_K.sub hK [0] rfl) hP hD hA hN hX [0, 1, 2] [3] rfl rfl (by decide) (by decide) (by decide) 0 4 rfl rfl rfl rfl hl.1 rfl (Nat.le_of_ble_eq_true rfl) dXL_sign_6 (by rw [hR]; exact ⟨Nat.le_of_ble_eq_true rfl, Nat.le_of_ble_eq_true rfl⟩) (fun hz r9 u9 H locs hp9 hP hD hS => ?_) (fun hz x ce H1 L hP hS hce hcl hvm => ?_)
  · obtain ⟨er, hu, f0, f1⟩ := hp9
    subst er
    subst hu
    have hP : va_P (dC, dI) vwCl [(oa, .inl (cL, 1, .inr (.inl (jAL fo)))), (ga, .inr (4, [.ref ta, .ref rda, .ref pa, .ref sa, .ref ea, .ref ba, .ref da])), (ta, .inr (3, [.ref ts, .int (jI ((f_XG_sign tn tp tw tf zy z1).2.2.1)), .int (jI tp), .int (jI tw)])), (ts, .inl (cA, 400, .inl (jA ((f_XG_sign tn tp tw tf zy z1).2.2.2))))] H := hP
    have hD : va_D A [(oa, .inl (cL, 1, .inr (.inl (jAL fo)))), (ga, .inr (4, [.ref ta, .ref rda, .ref pa, .ref sa, .ref ea, .ref ba, .ref da])), (ta, .inr (3, [.ref ts, .int (jI ((f_XG_sign tn tp tw tf zy z1).2.2.1)), .int (jI tp), .int (jI tw)])), (ts, .inl (cA, 400, .inl (jA ((f_XG_sign tn tp tw tf zy z1).2.2.2))))] := hD
    refine ji_re (y := jw ((f_XG_sign tn tp tw tf zy z1).2.1)) (jI_jw _).symm ?_
    refine ji_i2l hx hb dXL_sign_9 (jw_i _) ?_
    refine ji_last hx hb hK hP hD hS 0 1 rfl rfl ⟨by decide, by decide⟩ (by decide) dXL_sign_10 (fun H locs hP hD hS => ?_)
    have hP : va_P (dC, dI) vwCl [(oa, .inl (cL, 1, .inr (.inl (jAL (jset fo 0 (jw ((f_XG_sign tn tp tw tf zy z1).2.1))))))), (ga, .inr (4, [.ref ta, .ref rda, .ref pa, .ref sa, .ref ea, .ref ba, .ref da])), (ta, .inr (3, [.ref ts, .int (jI ((f_XG_sign tn tp tw tf zy z1).2.2.1)), .int (jI tp), .int (jI tw)])), (ts, .inl (cA, 400, .inl (jA ((f_XG_sign tn tp tw tf zy z1).2.2.2))))] H := hP
    have hD : va_D A [(oa, .inl (cL, 1, .inr (.inl (jAL (jset fo 0 (jw ((f_XG_sign tn tp tw tf zy z1).2.1))))))), (ga, .inr (4, [.ref ta, .ref rda, .ref pa, .ref sa, .ref ea, .ref ba, .ref da])), (ta, .inr (3, [.ref ts, .int (jI ((f_XG_sign tn tp tw tf zy z1).2.2.1)), .int (jI tp), .int (jI tw)])), (ts, .inl (cA, 400, .inl (jA ((f_XG_sign tn tp tw tf zy z1).2.2.2))))] := hD
    refine lv_goto (tgt := 22) hx hb dXL_sign_11 (by decide) ?_
    refine ji_iconst hx hb dXL_sign_22 ?_
    refine W.widen (k := 1) (n := 6) (Nat.le_of_ble_eq_true rfl) (Nat.le_of_ble_eq_true rfl) ?_
    have hP9 := hP.sub (ws' := [(ga, .inr (4, [.ref ta, .ref rda, .ref pa, .ref sa, .ref ea, .ref ba, .ref da])), (ta, .inr (3, [.ref ts, .int (jI ((f_XG_sign tn tp tw tf zy z1).2.2.1)), .int (jI tp), .int (jI tw)])), (ts, .inl (cA, 400, .inl (jA ((f_XG_sign tn tp tw tf zy z1).2.2.2)))), (oa, .inl (cL, 1, .inr (.inl (jAL (jset fo 0 (jw ((f_XG_sign tn tp tw tf zy z1).2.1)))))))]) [1, 2, 3, 0] rfl
    have hD9 := hD.sub (ws' := [(ga, .inr (4, [.ref ta, .ref rda, .ref pa, .ref sa, .ref ea, .ref ba, .ref da])), (ta, .inr (3, [.ref ts, .int (jI ((f_XG_sign tn tp tw tf zy z1).2.2.1)), .int (jI tp), .int (jI tw)])), (ts, .inl (cA, 400, .inl (jA ((f_XG_sign tn tp tw tf zy z1).2.2.2)))), (oa, .inl (cL, 1, .inr (.inl (jAL (jset fo 0 (jw ((f_XG_sign tn tp tw tf zy z1).2.1)))))))]) [1, 2, 3, 0] (by decide) rfl
    subst hAe
    subst hQ
    refine yW (fun _ h => yQ_of h) ?_
    exact W.iret (v := jI 0) hx hb hr (fun t ht hW => ⟨⟨_, (0, jset fo 0 (jw ((f_XG_sign tn tp tw tf zy z1).2.1)), (f_XG_sign tn tp tw tf zy z1).2.2.1, (f_XG_sign tn tp tw tf zy z1).2.2.2), rfl, ⟨rfl, by rw [f_XL_sign_s, if_pos hz], by first | assumption | omega, by first | assumption | omega⟩, ⟨by rw [ht]; exact hP9, va_K.moved hW.alike hK, hD9⟩⟩, hS.F ht⟩) hS.2.2 dXL_sign_23
  · rcases f_XG_sign_e tn tp tw tf zy z1 with h9 | h9 | h9
    · exact absurd h9 hz
    · rw [h9, xCls_3] at hcl
      refine zOn1 htab hown ⟨by decide, by decide⟩ (by decide) (hts _ (jmem tw_304)) hX.c3 hce hcl hvm ?_
      refine lv_astore (lv' := [(5, .ref x), (0, .ref ga), (1, .long (jL zy)), (3, .int (jI z1)), (4, .ref oa)]) hx hb dXL_sign_14 hl (by decide) rfl (fun ls hl => ?_)
      refine ji_iconst hx hb dXL_sign_16 ?_
      refine W.widen (k := 1) (n := 6) (Nat.le_of_ble_eq_true rfl) (Nat.le_of_ble_eq_true rfl) ?_
      have hP9 := hP.sub (ws' := [(ga, .inr (4, [.ref ta, .ref rda, .ref pa, .ref sa, .ref ea, .ref ba, .ref da])), (ta, .inr (3, [.ref ts, .int (jI tn), .int (jI tp), .int (jI tw)])), (ts, .inl (cA, 400, .inl (jA tf))), (oa, .inl (cL, 1, .inr (.inl (jAL fo))))]) [0, 1, 2, 3] rfl
      have hD9 := hD.sub (ws' := [(ga, .inr (4, [.ref ta, .ref rda, .ref pa, .ref sa, .ref ea, .ref ba, .ref da])), (ta, .inr (3, [.ref ts, .int (jI tn), .int (jI tp), .int (jI tw)])), (ts, .inl (cA, 400, .inl (jA tf))), (oa, .inl (cL, 1, .inr (.inl (jAL fo))))]) [0, 1, 2, 3] (by decide) rfl
      subst hAe
      subst hQ
      refine yW (fun _ h => yQ_of h) ?_
      exact W.iret (v := jI 1) hx hb hr (fun t ht hW => ⟨⟨_, (1, fo, tn, tf), rfl, ⟨rfl, by rw [f_XL_sign_s, if_neg hz, if_pos h9], by first | assumption | omega, by first | assumption | omega⟩, ⟨by rw [ht]; exact hP9, va_K.moved hW.alike hK, hD9⟩⟩, hS.F ht⟩) hS.2.2 dXL_sign_17
    · rw [h9, xCls_4] at hcl
      refine zOn2 htab hown ⟨by decide, by decide⟩ (by decide) ⟨by decide, by decide⟩ (by decide) (hts _ (jmem tw_304)) hC.1 (hts _ (jmem tw_305)) hX.c4 hce hcl hvm ?_
      refine lv_astore (lv' := [(5, .ref x), (0, .ref ga), (1, .long (jL zy)), (3, .int (jI z1)), (4, .ref oa)]) hx hb dXL_sign_18 hl (by decide) rfl (fun ls hl => ?_)
      refine ji_iconst hx hb dXL_sign_20 ?_
      refine W.widen (k := 1) (n := 6) (Nat.le_of_ble_eq_true rfl) (Nat.le_of_ble_eq_true rfl) ?_
      have hP9 := hP.sub (ws' := [(ga, .inr (4, [.ref ta, .ref rda, .ref pa, .ref sa, .ref ea, .ref ba, .ref da])), (ta, .inr (3, [.ref ts, .int (jI tn), .int (jI tp), .int (jI tw)])), (ts, .inl (cA, 400, .inl (jA tf))), (oa, .inl (cL, 1, .inr (.inl (jAL fo))))]) [0, 1, 2, 3] rfl
      have hD9 := hD.sub (ws' := [(ga, .inr (4, [.ref ta, .ref rda, .ref pa, .ref sa, .ref ea, .ref ba, .ref da])), (ta, .inr (3, [.ref ts, .int (jI tn), .int (jI tp), .int (jI tw)])), (ts, .inl (cA, 400, .inl (jA tf))), (oa, .inl (cL, 1, .inr (.inl (jAL fo))))]) [0, 1, 2, 3] (by decide) rfl
      subst hAe
      subst hQ
      refine yW (fun _ h => yQ_of h) ?_
      exact W.iret (v := jI 2) hx hb hr (fun t ht hW => ⟨⟨_, (2, fo, tn, tf), rfl, ⟨rfl, by rw [f_XL_sign_s, if_neg hz, if_neg (by rw [h9]; decide)], by first | assumption | omega, by first | assumption | omega⟩, ⟨by rw [ht]; exact hP9, va_K.moved hW.alike hK, hD9⟩⟩, hS.F ht⟩) hS.2.2 dXL_sign_21
noncomputable def g_XL_span (bg : Int) (bf : Int) (fp : Int → Int) (fl : Int → Int) (fh : Int → Int) (z1 : Int) (z2 : Int) (z3 : Int) (fo : Int → Int) : Int × (Int → Int) :=
  if (f_XG_span bg bf fp fl fh z1 z2 z3).1 = 0 then
    (0, jset fo 0 (jw ((f_XG_span bg bf fp fl fh z1 z2 z3).2)))
  else
    (1, fo)
noncomputable def f_XL_span : Int → Int → (Int → Int) → (Int → Int) → (Int → Int) → Int → Int → Int → (Int → Int) → Int × (Int → Int) := jopq g_XL_span
theorem f_XL_span_q : f_XL_span = g_XL_span := jopq_eq _
theorem f_XL_span_s (bg : Int) (bf : Int) (fp : Int → Int) (fl : Int → Int) (fh : Int → Int) (z1 : Int) (z2 : Int) (z3 : Int) (fo : Int → Int) : f_XL_span bg bf fp fl fh z1 z2 z3 fo = (
    if (f_XG_span bg bf fp fl fh z1 z2 z3).1 = 0 then
      (0, jset fo 0 (jw ((f_XG_span bg bf fp fl fh z1 z2 z3).2)))
    else
      (1, fo)
  : Int × (Int → Int)) := by rw [f_XL_span_q]; rfl
set_option maxHeartbeats 4000000 in
set_option maxRecDepth 100000 in
theorem c_XL_span (l : Launch) (hst : l.stackTraces = false) (dC : Nat → ClassId) (dI : Nat → Nat → Nat) (cA cL : ClassId) (sz : Nat) (ga : Nat) (ta : Nat) (rda : Nat) (pa : Nat) (sa : Nat) (ea : Nat) (ba : Nat) (da : Nat) (bt : Nat) (bp : Nat) (bl : Nat) (bh : Nat) (bq : Nat) (br : Nat) (bd : Nat) (bg : Int) (bf : Int) (fp : Int → Int) (fl : Int → Int) (fh : Int → Int) (z1 : Int) (z2 : Int) (z3 : Int) (oa : Nat) (fo : Int → Int) (hbp : ∀ i, 0 ≤ fp i ∧ fp i ≤ 30) (hbl : ∀ i, 0 ≤ fl i ∧ fl i ≤ 100000) (hbh : ∀ i, -1 ≤ fh i ∧ fh i ≤ 100000) (hbg : 0 ≤ bg ∧ bg < 2147483648) (hi_z1 : i32 z1) (hi_z2 : i32 z2) (hi_z3 : i32 z3) : YMet l yXL_span (Cond.codeWith yXL_span cXL_span 6 (some .int) [(0, 12, 15, 21)] :: TBL) ({ frames := 8, cells := 1, slots := 6, locals := 126 } : Room) (va_Pc [.ref ga, .int (jI z1), .int (jI z2), .int (jI z3), .ref oa] (jBc (dC, dI) [(cA, .int), (cL, .long)] [(ga, .inr (4, [.ref ta, .ref rda, .ref pa, .ref sa, .ref ea, .ref ba, .ref da])), (ba, .inr (0, [.ref bt, .ref bp, .ref bl, .ref bh, .ref bq, .ref br, .ref bd, .int (jI bg), .int (jI bf)])), (bp, .inl (cA, 31, .inl (jA fp))), (bl, .inl (cA, 248, .inl (jA fl))), (bh, .inl (cA, 248, .inl (jA fh))), (oa, .inl (cL, 1, .inr (.inl (jAL fo))))] sz)) (va_Qi (fun (r : Int32) (u : Int × (Int → Int)) => r = jI u.1 ∧ u = f_XL_span bg bf fp fl fh z1 z2 z3 fo) (fun u t => jE (dC, dI) [(cA, .int), (cL, .long)] [(ga, .inr (4, [.ref ta, .ref rda, .ref pa, .ref sa, .ref ea, .ref ba, .ref da])), (ba, .inr (0, [.ref bt, .ref bp, .ref bl, .ref bh, .ref bq, .ref br, .ref bd, .int (jI bg), .int (jI bf)])), (bp, .inl (cA, 31, .inl (jA fp))), (bl, .inl (cA, 248, .inl (jA fl))), (bh, .inl (cA, 248, .inl (jA fh))), (oa, .inl (cL, 1, .inr (.inl (jAL fo))))] sz [(ga, .inr (4, [.ref ta, .ref rda, .ref pa, .ref sa, .ref ea, .ref ba, .ref da])), (ba, .inr (0, [.ref bt, .ref bp, .ref bl, .ref bh, .ref bq, .ref br, .ref bd, .int (jI bg), .int (jI bf)])), (bp, .inl (cA, 31, .inl (jA fp))), (bl, .inl (cA, 248, .inl (jA fl))), (bh, .inl (cA, 248, .inl (jA fh))), (oa, .inl (cL, 1, .inr (.inl (jAL u.2))))] t) (va_A [(ga, .inr (4, [.ref ta, .ref rda, .ref pa, .ref sa, .ref ea, .ref ba, .ref da])), (ba, .inr (0, [.ref bt, .ref bp, .ref bl, .ref bh, .ref bq, .ref br, .ref bd, .int (jI bg), .int (jI bf)])), (bp, .inl (cA, 31, .inl (jA fp))), (bl, .inl (cA, 248, .inl (jA fl))), (bh, .inl (cA, 248, .inl (jA fh))), (oa, .inl (cL, 1, .inr (.inl (jAL fo))))] sz)) 1 6 1 6 (va_A [(ga, .inr (4, [.ref ta, .ref rda, .ref pa, .ref sa, .ref ea, .ref ba, .ref da])), (ba, .inr (0, [.ref bt, .ref bp, .ref bl, .ref bh, .ref bq, .ref br, .ref bd, .int (jI bg), .int (jI bf)])), (bp, .inl (cA, 31, .inl (jA fp))), (bl, .inl (cA, 248, .inl (jA fl))), (bh, .inl (cA, 248, .inl (jA fh))), (oa, .inl (cL, 1, .inr (.inl (jAL fo))))] sz) := by
  refine YMet.ofWH (cc := cXL_span) (maxL := 6) (ret := some .int) (hh := [(0, 12, 15, 21)]) (by decide) rfl ?_
  intro p e s m args below meth c s₁ R Q hR hQ B hml htab hv
  obtain ⟨rfl, ⟨hsz, hP, hK, hD0, hN⟩, hX, hC⟩ := hv
  have hx := B.exec
  have hb := B.bytes
  have hr := B.returns
  have hts := atoms_spec (ws := Cond.codeWith yXL_span cXL_span 6 (some .int) [(0, 12, 15, 21)] :: TBL) B.pre
  have hown : s.vm.findClass RXL = some m.cls := findClass_of_methodNamed B.named
  have hlocks := B.notSynchronized
  subst hsz
  obtain ⟨A, hAe⟩ : ∃ A, A = va_A [(ga, .inr (4, [.ref ta, .ref rda, .ref pa, .ref sa, .ref ea, .ref ba, .ref da])), (ba, .inr (0, [.ref bt, .ref bp, .ref bl, .ref bh, .ref bq, .ref br, .ref bd, .int (jI bg), .int (jI bf)])), (bp, .inl (cA, 31, .inl (jA fp))), (bl, .inl (cA, 248, .inl (jA fl))), (bh, .inl (cA, 248, .inl (jA fh))), (oa, .inl (cL, 1, .inr (.inl (jAL fo))))] s.heap.size := ⟨_, rfl⟩
  have hD : va_D A [(ga, .inr (4, [.ref ta, .ref rda, .ref pa, .ref sa, .ref ea, .ref ba, .ref da])), (ba, .inr (0, [.ref bt, .ref bp, .ref bl, .ref bh, .ref bq, .ref br, .ref bd, .int (jI bg), .int (jI bf)])), (bp, .inl (cA, 31, .inl (jA fp))), (bl, .inl (cA, 248, .inl (jA fl))), (bh, .inl (cA, 248, .inl (jA fh))), (oa, .inl (cL, 1, .inr (.inl (jAL fo))))] := by rw [hAe]; exact hD0.self
  have hA : ∀ q : Nat, s.heap.size ≤ q → A q := fun q h => by rw [hAe]; exact Or.inr h
  have hS : va_S A s.heap s.heap [] := va_S.rf
  have hP : va_P (dC, dI) vwCl [(ga, .inr (4, [.ref ta, .ref rda, .ref pa, .ref sa, .ref ea, .ref ba, .ref da])), (ba, .inr (0, [.ref bt, .ref bp, .ref bl, .ref bh, .ref bq, .ref br, .ref bd, .int (jI bg), .int (jI bf)])), (bp, .inl (cA, 31, .inl (jA fp))), (bl, .inl (cA, 248, .inl (jA fl))), (bh, .inl (cA, 248, .inl (jA fh))), (oa, .inl (cL, 1, .inr (.inl (jAL fo))))] s.heap := hP
  have hl := lv_entry ([.ref ga, .int (jI z1), .int (jI z2), .int (jI z3), .ref oa]) (n := 6) (Nat.le_of_ble_eq_true rfl)
  rw [lg_entry_eq]
  generalize (lg_sl ([.ref ga, .int (jI z1), .int (jI z2), .int (jI z3), .ref oa]) ++ List.replicate (6 - (lg_sl ([.ref ga, .int (jI z1), .int (jI z2), .int (jI z3), .ref oa])).length) Slot.unset).toArray = ls at hl ⊢
  have hl : lv_has ls 6 [(0, .ref ga), (1, .int (jI z1)), (2, .int (jI z2)), (3, .int (jI z3)), (4, .ref oa)] := hl
  refine lv_aload hx hb dXL_span_0 (lv_at hl 4 rfl) ?_
  refine ji_iconst hx hb dXL_span_2 ?_
  refine lv_aload_n hx hb dXL_span_3 rfl (lv_at hl 0 rfl) ?_
  refine lv_iload_n hx hb dXL_span_4 rfl (lv_at hl 1 rfl) ?_
  refine lv_iload_n hx hb dXL_span_5 rfl (lv_at hl 2 rfl) ?_
  refine lv_iload_n hx hb dXL_span_6 rfl (lv_at hl 3 rfl) ?_
  refine ztRi (A := A) (rest := [.int (jI 0), .ref oa]) ⟨hx, hb, hml, hown, hts⟩ (c_XG_span l hst dC dI cA ga ta rda pa sa ea ba da bt bp bl bh bq br bd bg bf fp fl fh z1 z2 z3 hbp hbl hbh hbg hi_z1 hi_z2 hi_z3) (cwV 3 hts (jG_V tw_408 tw_409 tw_410 tw_1 tw_411) rfl rfl rfl (by decide +kernel) (by rw [hR]; exact ⟨Nat.le_of_ble_eq_true rfl, Nat.le_of_ble_eq_true rfl⟩)) (va_K.sub hK [0] rfl) hP hN hX [0, 1, 2, 3, 4] rfl 0 4 rfl rfl rfl rfl hl.1 rfl (Nat.le_of_ble_eq_true rfl) dXL_span_7 (by rw [hR]; exact ⟨Nat.le_of_ble_eq_true rfl, Nat.le_of_ble_eq_true rfl⟩) (fun hz => ?_) (fun hz x ce H1 L hP hS hce hcl hvm => ?_)
  · refine ji_re (y := jw ((f_XG_span bg bf fp fl fh z1 z2 z3).2)) (jI_jw _).symm ?_
    refine ji_i2l hx hb dXL_span_10 (jw_i _) ?_
    refine ji_last hx hb hK hP hD hS 5 1 rfl rfl ⟨by decide, by decide⟩ (by decide) dXL_span_11 (fun H locs hP hD hS => ?_)
    have hP : va_P (dC, dI) vwCl [(ga, .inr (4, [.ref ta, .ref rda, .ref pa, .ref sa, .ref ea, .ref ba, .ref da])), (ba, .inr (0, [.ref bt, .ref bp, .ref bl, .ref bh, .ref bq, .ref br, .ref bd, .int (jI bg), .int (jI bf)])), (bp, .inl (cA, 31, .inl (jA fp))), (bl, .inl (cA, 248, .inl (jA fl))), (bh, .inl (cA, 248, .inl (jA fh))), (oa, .inl (cL, 1, .inr (.inl (jAL (jset fo 0 (jw ((f_XG_span bg bf fp fl fh z1 z2 z3).2)))))))] H := hP
    have hD : va_D A [(ga, .inr (4, [.ref ta, .ref rda, .ref pa, .ref sa, .ref ea, .ref ba, .ref da])), (ba, .inr (0, [.ref bt, .ref bp, .ref bl, .ref bh, .ref bq, .ref br, .ref bd, .int (jI bg), .int (jI bf)])), (bp, .inl (cA, 31, .inl (jA fp))), (bl, .inl (cA, 248, .inl (jA fl))), (bh, .inl (cA, 248, .inl (jA fh))), (oa, .inl (cL, 1, .inr (.inl (jAL (jset fo 0 (jw ((f_XG_span bg bf fp fl fh z1 z2 z3).2)))))))] := hD
    refine lv_goto (tgt := 19) hx hb dXL_span_12 (by decide) ?_
    refine ji_iconst hx hb dXL_span_19 ?_
    refine W.widen (k := 1) (n := 6) (Nat.le_of_ble_eq_true rfl) (Nat.le_of_ble_eq_true rfl) ?_
    have hP9 := hP.sub (ws' := [(ga, .inr (4, [.ref ta, .ref rda, .ref pa, .ref sa, .ref ea, .ref ba, .ref da])), (ba, .inr (0, [.ref bt, .ref bp, .ref bl, .ref bh, .ref bq, .ref br, .ref bd, .int (jI bg), .int (jI bf)])), (bp, .inl (cA, 31, .inl (jA fp))), (bl, .inl (cA, 248, .inl (jA fl))), (bh, .inl (cA, 248, .inl (jA fh))), (oa, .inl (cL, 1, .inr (.inl (jAL (jset fo 0 (jw ((f_XG_span bg bf fp fl fh z1 z2 z3).2)))))))]) [0, 1, 2, 3, 4, 5] rfl
    have hD9 := hD.sub (ws' := [(ga, .inr (4, [.ref ta, .ref rda, .ref pa, .ref sa, .ref ea, .ref ba, .ref da])), (ba, .inr (0, [.ref bt, .ref bp, .ref bl, .ref bh, .ref bq, .ref br, .ref bd, .int (jI bg), .int (jI bf)])), (bp, .inl (cA, 31, .inl (jA fp))), (bl, .inl (cA, 248, .inl (jA fl))), (bh, .inl (cA, 248, .inl (jA fh))), (oa, .inl (cL, 1, .inr (.inl (jAL (jset fo 0 (jw ((f_XG_span bg bf fp fl fh z1 z2 z3).2)))))))]) [0, 1, 2, 3, 4, 5] (by decide) rfl
    subst hAe
    subst hQ
    refine yW (fun _ h => yQ_of h) ?_
    exact W.iret (v := jI 0) hx hb hr (fun t ht hW => ⟨⟨_, (0, jset fo 0 (jw ((f_XG_span bg bf fp fl fh z1 z2 z3).2))), rfl, ⟨rfl, by rw [f_XL_span_s, if_pos hz]⟩, ⟨by rw [ht]; exact hP9, va_K.moved hW.alike hK, hD9⟩⟩, hS.F ht⟩) hS.2.2 dXL_span_20
  · rcases f_XG_span_e bg bf fp fl fh z1 z2 z3 with h9 | h9
    · exact absurd h9 hz
    · rw [h9, xCls_1] at hcl
      refine zOn1 htab hown ⟨by decide, by decide⟩ (by decide) (hts _ (jmem tw_407)) hX.c1 hce hcl hvm ?_
      refine lv_astore (lv' := [(5, .ref x), (0, .ref ga), (1, .int (jI z1)), (2, .int (jI z2)), (3, .int (jI z3)), (4, .ref oa)]) hx hb dXL_span_15 hl (by decide) rfl (fun ls hl => ?_)
      refine ji_iconst hx hb dXL_span_17 ?_
      refine W.widen (k := 1) (n := 6) (Nat.le_of_ble_eq_true rfl) (Nat.le_of_ble_eq_true rfl) ?_
      have hP9 := hP.sub (ws' := [(ga, .inr (4, [.ref ta, .ref rda, .ref pa, .ref sa, .ref ea, .ref ba, .ref da])), (ba, .inr (0, [.ref bt, .ref bp, .ref bl, .ref bh, .ref bq, .ref br, .ref bd, .int (jI bg), .int (jI bf)])), (bp, .inl (cA, 31, .inl (jA fp))), (bl, .inl (cA, 248, .inl (jA fl))), (bh, .inl (cA, 248, .inl (jA fh))), (oa, .inl (cL, 1, .inr (.inl (jAL fo))))]) [0, 1, 2, 3, 4, 5] rfl
      have hD9 := hD.sub (ws' := [(ga, .inr (4, [.ref ta, .ref rda, .ref pa, .ref sa, .ref ea, .ref ba, .ref da])), (ba, .inr (0, [.ref bt, .ref bp, .ref bl, .ref bh, .ref bq, .ref br, .ref bd, .int (jI bg), .int (jI bf)])), (bp, .inl (cA, 31, .inl (jA fp))), (bl, .inl (cA, 248, .inl (jA fl))), (bh, .inl (cA, 248, .inl (jA fh))), (oa, .inl (cL, 1, .inr (.inl (jAL fo))))]) [0, 1, 2, 3, 4, 5] (by decide) rfl
      subst hAe
      subst hQ
      refine yW (fun _ h => yQ_of h) ?_
      exact W.iret (v := jI 1) hx hb hr (fun t ht hW => ⟨⟨_, (1, fo), rfl, ⟨rfl, by rw [f_XL_span_s, if_neg hz]⟩, ⟨by rw [ht]; exact hP9, va_K.moved hW.alike hK, hD9⟩⟩, hS.F ht⟩) hS.2.2 dXL_span_18
noncomputable def g_XL_limit (bg : Int) (bf : Int) (fp : Int → Int) (fq : Int → Int) (z1 : Int) (z2 : Int) (fo : Int → Int) : Int × (Int → Int) :=
  if (f_XG_limit bg bf fp fq z1 z2).1 = 0 then
    (0, jset fo 0 (jw ((f_XG_limit bg bf fp fq z1 z2).2)))
  else
    (1, fo)
noncomputable def f_XL_limit : Int → Int → (Int → Int) → (Int → Int) → Int → Int → (Int → Int) → Int × (Int → Int) := jopq g_XL_limit
theorem f_XL_limit_q : f_XL_limit = g_XL_limit := jopq_eq _
theorem f_XL_limit_s (bg : Int) (bf : Int) (fp : Int → Int) (fq : Int → Int) (z1 : Int) (z2 : Int) (fo : Int → Int) : f_XL_limit bg bf fp fq z1 z2 fo = (
    if (f_XG_limit bg bf fp fq z1 z2).1 = 0 then
      (0, jset fo 0 (jw ((f_XG_limit bg bf fp fq z1 z2).2)))
    else
      (1, fo)
  : Int × (Int → Int)) := by rw [f_XL_limit_q]; rfl
set_option maxHeartbeats 4000000 in
set_option maxRecDepth 100000 in
theorem c_XL_limit (l : Launch) (hst : l.stackTraces = false) (dC : Nat → ClassId) (dI : Nat → Nat → Nat) (cA cL : ClassId) (sz : Nat) (ga : Nat) (ta : Nat) (rda : Nat) (pa : Nat) (sa : Nat) (ea : Nat) (ba : Nat) (da : Nat) (bt : Nat) (bp : Nat) (bl : Nat) (bh : Nat) (bq : Nat) (br : Nat) (bd : Nat) (bg : Int) (bf : Int) (fp : Int → Int) (fq : Int → Int) (z1 : Int) (z2 : Int) (oa : Nat) (fo : Int → Int) (hbp : ∀ i, 0 ≤ fp i ∧ fp i ≤ 30) (hbq : ∀ i, -1 ≤ fq i ∧ fq i ≤ 999999) (hbg : 0 ≤ bg ∧ bg < 2147483648) (hi_z1 : i32 z1) (hi_z2 : i32 z2) : YMet l yXL_limit (Cond.codeWith yXL_limit cXL_limit 5 (some .int) [(0, 10, 13, 21)] :: TBL) ({ frames := 8, cells := 1, slots := 6, locals := 125 } : Room) (va_Pc [.ref ga, .int (jI z1), .int (jI z2), .ref oa] (jBc (dC, dI) [(cA, .int), (cL, .long)] [(ga, .inr (4, [.ref ta, .ref rda, .ref pa, .ref sa, .ref ea, .ref ba, .ref da])), (ba, .inr (0, [.ref bt, .ref bp, .ref bl, .ref bh, .ref bq, .ref br, .ref bd, .int (jI bg), .int (jI bf)])), (bp, .inl (cA, 31, .inl (jA fp))), (bq, .inl (cA, 124, .inl (jA fq))), (oa, .inl (cL, 1, .inr (.inl (jAL fo))))] sz)) (va_Qi (fun (r : Int32) (u : Int × (Int → Int)) => r = jI u.1 ∧ u = f_XL_limit bg bf fp fq z1 z2 fo) (fun u t => jE (dC, dI) [(cA, .int), (cL, .long)] [(ga, .inr (4, [.ref ta, .ref rda, .ref pa, .ref sa, .ref ea, .ref ba, .ref da])), (ba, .inr (0, [.ref bt, .ref bp, .ref bl, .ref bh, .ref bq, .ref br, .ref bd, .int (jI bg), .int (jI bf)])), (bp, .inl (cA, 31, .inl (jA fp))), (bq, .inl (cA, 124, .inl (jA fq))), (oa, .inl (cL, 1, .inr (.inl (jAL fo))))] sz [(ga, .inr (4, [.ref ta, .ref rda, .ref pa, .ref sa, .ref ea, .ref ba, .ref da])), (ba, .inr (0, [.ref bt, .ref bp, .ref bl, .ref bh, .ref bq, .ref br, .ref bd, .int (jI bg), .int (jI bf)])), (bp, .inl (cA, 31, .inl (jA fp))), (bq, .inl (cA, 124, .inl (jA fq))), (oa, .inl (cL, 1, .inr (.inl (jAL u.2))))] t) (va_A [(ga, .inr (4, [.ref ta, .ref rda, .ref pa, .ref sa, .ref ea, .ref ba, .ref da])), (ba, .inr (0, [.ref bt, .ref bp, .ref bl, .ref bh, .ref bq, .ref br, .ref bd, .int (jI bg), .int (jI bf)])), (bp, .inl (cA, 31, .inl (jA fp))), (bq, .inl (cA, 124, .inl (jA fq))), (oa, .inl (cL, 1, .inr (.inl (jAL fo))))] sz)) 1 6 1 6 (va_A [(ga, .inr (4, [.ref ta, .ref rda, .ref pa, .ref sa, .ref ea, .ref ba, .ref da])), (ba, .inr (0, [.ref bt, .ref bp, .ref bl, .ref bh, .ref bq, .ref br, .ref bd, .int (jI bg), .int (jI bf)])), (bp, .inl (cA, 31, .inl (jA fp))), (bq, .inl (cA, 124, .inl (jA fq))), (oa, .inl (cL, 1, .inr (.inl (jAL fo))))] sz) := by
  refine YMet.ofWH (cc := cXL_limit) (maxL := 5) (ret := some .int) (hh := [(0, 10, 13, 21)]) (by decide) rfl ?_
  intro p e s m args below meth c s₁ R Q hR hQ B hml htab hv
  obtain ⟨rfl, ⟨hsz, hP, hK, hD0, hN⟩, hX, hC⟩ := hv
  have hx := B.exec
  have hb := B.bytes
  have hr := B.returns
  have hts := atoms_spec (ws := Cond.codeWith yXL_limit cXL_limit 5 (some .int) [(0, 10, 13, 21)] :: TBL) B.pre
  have hown : s.vm.findClass RXL = some m.cls := findClass_of_methodNamed B.named
  have hlocks := B.notSynchronized
  subst hsz
  obtain ⟨A, hAe⟩ : ∃ A, A = va_A [(ga, .inr (4, [.ref ta, .ref rda, .ref pa, .ref sa, .ref ea, .ref ba, .ref da])), (ba, .inr (0, [.ref bt, .ref bp, .ref bl, .ref bh, .ref bq, .ref br, .ref bd, .int (jI bg), .int (jI bf)])), (bp, .inl (cA, 31, .inl (jA fp))), (bq, .inl (cA, 124, .inl (jA fq))), (oa, .inl (cL, 1, .inr (.inl (jAL fo))))] s.heap.size := ⟨_, rfl⟩
  have hD : va_D A [(ga, .inr (4, [.ref ta, .ref rda, .ref pa, .ref sa, .ref ea, .ref ba, .ref da])), (ba, .inr (0, [.ref bt, .ref bp, .ref bl, .ref bh, .ref bq, .ref br, .ref bd, .int (jI bg), .int (jI bf)])), (bp, .inl (cA, 31, .inl (jA fp))), (bq, .inl (cA, 124, .inl (jA fq))), (oa, .inl (cL, 1, .inr (.inl (jAL fo))))] := by rw [hAe]; exact hD0.self
  have hA : ∀ q : Nat, s.heap.size ≤ q → A q := fun q h => by rw [hAe]; exact Or.inr h
  have hS : va_S A s.heap s.heap [] := va_S.rf
  have hP : va_P (dC, dI) vwCl [(ga, .inr (4, [.ref ta, .ref rda, .ref pa, .ref sa, .ref ea, .ref ba, .ref da])), (ba, .inr (0, [.ref bt, .ref bp, .ref bl, .ref bh, .ref bq, .ref br, .ref bd, .int (jI bg), .int (jI bf)])), (bp, .inl (cA, 31, .inl (jA fp))), (bq, .inl (cA, 124, .inl (jA fq))), (oa, .inl (cL, 1, .inr (.inl (jAL fo))))] s.heap := hP
  have hl := lv_entry ([.ref ga, .int (jI z1), .int (jI z2), .ref oa]) (n := 5) (Nat.le_of_ble_eq_true rfl)
  rw [lg_entry_eq]
  generalize (lg_sl ([.ref ga, .int (jI z1), .int (jI z2), .ref oa]) ++ List.replicate (5 - (lg_sl ([.ref ga, .int (jI z1), .int (jI z2), .ref oa])).length) Slot.unset).toArray = ls at hl ⊢
  have hl : lv_has ls 5 [(0, .ref ga), (1, .int (jI z1)), (2, .int (jI z2)), (3, .ref oa)] := hl
  refine lv_aload_n hx hb dXL_limit_0 rfl (lv_at hl 3 rfl) ?_
  refine ji_iconst hx hb dXL_limit_1 ?_
  refine lv_aload_n hx hb dXL_limit_2 rfl (lv_at hl 0 rfl) ?_
  refine lv_iload_n hx hb dXL_limit_3 rfl (lv_at hl 1 rfl) ?_
  refine lv_iload_n hx hb dXL_limit_4 rfl (lv_at hl 2 rfl) ?_
  refine ztRi (A := A) (rest := [.int (jI 0), .ref oa]) ⟨hx, hb, hml, hown, hts⟩ (c_XG_limit l hst dC dI cA ga ta rda pa sa ea ba da bt bp bl bh bq br bd bg bf fp fq z1 z2 hbp hbq hbg hi_z1 hi_z2) (cwV 2 hts (jG_V tw_446 tw_447 tw_448 tw_1 tw_449) rfl rfl rfl (by decide +kernel) (by rw [hR]; exact ⟨Nat.le_of_ble_eq_true rfl, Nat.le_of_ble_eq_true rfl⟩)) (va_K.sub hK [0] rfl) hP hN hX [0, 1, 2, 3] rfl 0 4 rfl rfl rfl rfl hl.1 rfl (Nat.le_of_ble_eq_true rfl) dXL_limit_5 (by rw [hR]; exact ⟨Nat.le_of_ble_eq_true rfl, Nat.le_of_ble_eq_true rfl⟩) (fun hz => ?_) (fun hz x ce H1 L hP hS hce hcl hvm => ?_)
  · refine ji_re (y := jw ((f_XG_limit bg bf fp fq z1 z2).2)) (jI_jw _).symm ?_
    refine ji_i2l hx hb dXL_limit_8 (jw_i _) ?_
    refine ji_last hx hb hK hP hD hS 4 1 rfl rfl ⟨by decide, by decide⟩ (by decide) dXL_limit_9 (fun H locs hP hD hS => ?_)
    have hP : va_P (dC, dI) vwCl [(ga, .inr (4, [.ref ta, .ref rda, .ref pa, .ref sa, .ref ea, .ref ba, .ref da])), (ba, .inr (0, [.ref bt, .ref bp, .ref bl, .ref bh, .ref bq, .ref br, .ref bd, .int (jI bg), .int (jI bf)])), (bp, .inl (cA, 31, .inl (jA fp))), (bq, .inl (cA, 124, .inl (jA fq))), (oa, .inl (cL, 1, .inr (.inl (jAL (jset fo 0 (jw ((f_XG_limit bg bf fp fq z1 z2).2)))))))] H := hP
    have hD : va_D A [(ga, .inr (4, [.ref ta, .ref rda, .ref pa, .ref sa, .ref ea, .ref ba, .ref da])), (ba, .inr (0, [.ref bt, .ref bp, .ref bl, .ref bh, .ref bq, .ref br, .ref bd, .int (jI bg), .int (jI bf)])), (bp, .inl (cA, 31, .inl (jA fp))), (bq, .inl (cA, 124, .inl (jA fq))), (oa, .inl (cL, 1, .inr (.inl (jAL (jset fo 0 (jw ((f_XG_limit bg bf fp fq z1 z2).2)))))))] := hD
    refine lv_goto (tgt := 17) hx hb dXL_limit_10 (by decide) ?_
    refine ji_iconst hx hb dXL_limit_17 ?_
    refine W.widen (k := 1) (n := 6) (Nat.le_of_ble_eq_true rfl) (Nat.le_of_ble_eq_true rfl) ?_
    have hP9 := hP.sub (ws' := [(ga, .inr (4, [.ref ta, .ref rda, .ref pa, .ref sa, .ref ea, .ref ba, .ref da])), (ba, .inr (0, [.ref bt, .ref bp, .ref bl, .ref bh, .ref bq, .ref br, .ref bd, .int (jI bg), .int (jI bf)])), (bp, .inl (cA, 31, .inl (jA fp))), (bq, .inl (cA, 124, .inl (jA fq))), (oa, .inl (cL, 1, .inr (.inl (jAL (jset fo 0 (jw ((f_XG_limit bg bf fp fq z1 z2).2)))))))]) [0, 1, 2, 3, 4] rfl
    have hD9 := hD.sub (ws' := [(ga, .inr (4, [.ref ta, .ref rda, .ref pa, .ref sa, .ref ea, .ref ba, .ref da])), (ba, .inr (0, [.ref bt, .ref bp, .ref bl, .ref bh, .ref bq, .ref br, .ref bd, .int (jI bg), .int (jI bf)])), (bp, .inl (cA, 31, .inl (jA fp))), (bq, .inl (cA, 124, .inl (jA fq))), (oa, .inl (cL, 1, .inr (.inl (jAL (jset fo 0 (jw ((f_XG_limit bg bf fp fq z1 z2).2)))))))]) [0, 1, 2, 3, 4] (by decide) rfl
    subst hAe
    subst hQ
    refine yW (fun _ h => yQ_of h) ?_
    exact W.iret (v := jI 0) hx hb hr (fun t ht hW => ⟨⟨_, (0, jset fo 0 (jw ((f_XG_limit bg bf fp fq z1 z2).2))), rfl, ⟨rfl, by rw [f_XL_limit_s, if_pos hz]⟩, ⟨by rw [ht]; exact hP9, va_K.moved hW.alike hK, hD9⟩⟩, hS.F ht⟩) hS.2.2 dXL_limit_18
  · rcases f_XG_limit_e bg bf fp fq z1 z2 with h9 | h9
    · exact absurd h9 hz
    · rw [h9, xCls_1] at hcl
      refine zOn1 htab hown ⟨by decide, by decide⟩ (by decide) (hts _ (jmem tw_407)) hX.c1 hce hcl hvm ?_
      refine lv_astore (lv' := [(4, .ref x), (0, .ref ga), (1, .int (jI z1)), (2, .int (jI z2)), (3, .ref oa)]) hx hb dXL_limit_13 hl (by decide) rfl (fun ls hl => ?_)
      refine ji_iconst hx hb dXL_limit_15 ?_
      refine W.widen (k := 1) (n := 6) (Nat.le_of_ble_eq_true rfl) (Nat.le_of_ble_eq_true rfl) ?_
      have hP9 := hP.sub (ws' := [(ga, .inr (4, [.ref ta, .ref rda, .ref pa, .ref sa, .ref ea, .ref ba, .ref da])), (ba, .inr (0, [.ref bt, .ref bp, .ref bl, .ref bh, .ref bq, .ref br, .ref bd, .int (jI bg), .int (jI bf)])), (bp, .inl (cA, 31, .inl (jA fp))), (bq, .inl (cA, 124, .inl (jA fq))), (oa, .inl (cL, 1, .inr (.inl (jAL fo))))]) [0, 1, 2, 3, 4] rfl
      have hD9 := hD.sub (ws' := [(ga, .inr (4, [.ref ta, .ref rda, .ref pa, .ref sa, .ref ea, .ref ba, .ref da])), (ba, .inr (0, [.ref bt, .ref bp, .ref bl, .ref bh, .ref bq, .ref br, .ref bd, .int (jI bg), .int (jI bf)])), (bp, .inl (cA, 31, .inl (jA fp))), (bq, .inl (cA, 124, .inl (jA fq))), (oa, .inl (cL, 1, .inr (.inl (jAL fo))))]) [0, 1, 2, 3, 4] (by decide) rfl
      subst hAe
      subst hQ
      refine yW (fun _ h => yQ_of h) ?_
      exact W.iret (v := jI 1) hx hb hr (fun t ht hW => ⟨⟨_, (1, fo), rfl, ⟨rfl, by rw [f_XL_limit_s, if_neg hz]⟩, ⟨by rw [ht]; exact hP9, va_K.moved hW.alike hK, hD9⟩⟩, hS.F ht⟩) hS.2.2 dXL_limit_16
noncomputable def g_XL_equivalent (bg : Int) (bf : Int) (fp : Int → Int) (fl : Int → Int) (fh : Int → Int) (fd : Int → Int) (fe : Int → Int) (z1 : Int) (z2 : Int) (z3 : Int) (z4 : Int) (fo : Int → Int) : Int × (Int → Int) × (Int → Int) :=
  if (f_XG_equivalent bg bf fp fl fh fd fe z1 z2 z3 z4).1 = 0 then
    (0, jset fo 0 ((f_XG_equivalent bg bf fp fl fh fd fe z1 z2 z3 z4).2.1), (f_XG_equivalent bg bf fp fl fh fd fe z1 z2 z3 z4).2.2)
  else
    if (f_XG_equivalent bg bf fp fl fh fd fe z1 z2 z3 z4).1 = 1 then
      (1, fo, fe)
    else
      (2, fo, fe)
noncomputable def f_XL_equivalent : Int → Int → (Int → Int) → (Int → Int) → (Int → Int) → (Int → Int) → (Int → Int) → Int → Int → Int → Int → (Int → Int) → Int × (Int → Int) × (Int → Int) := jopq g_XL_equivalent
theorem f_XL_equivalent_q : f_XL_equivalent = g_XL_equivalent := jopq_eq _
theorem f_XL_equivalent_s (bg : Int) (bf : Int) (fp : Int → Int) (fl : Int → Int) (fh : Int → Int) (fd : Int → Int) (fe : Int → Int) (z1 : Int) (z2 : Int) (z3 : Int) (z4 : Int) (fo : Int → Int) : f_XL_equivalent bg bf fp fl fh fd fe z1 z2 z3 z4 fo = (
    if (f_XG_equivalent bg bf fp fl fh fd fe z1 z2 z3 z4).1 = 0 then
      (0, jset fo 0 ((f_XG_equivalent bg bf fp fl fh fd fe z1 z2 z3 z4).2.1), (f_XG_equivalent bg bf fp fl fh fd fe z1 z2 z3 z4).2.2)
    else
      if (f_XG_equivalent bg bf fp fl fh fd fe z1 z2 z3 z4).1 = 1 then
        (1, fo, fe)
      else
        (2, fo, fe)
  : Int × (Int → Int) × (Int → Int)) := by rw [f_XL_equivalent_q]; rfl
set_option maxHeartbeats 4000000 in
set_option maxRecDepth 100000 in
theorem c_XL_equivalent (l : Launch) (hst : l.stackTraces = false) (dC : Nat → ClassId) (dI : Nat → Nat → Nat) (cA cL : ClassId) (sz : Nat) (ga : Nat) (ta : Nat) (rda : Nat) (pa : Nat) (sa : Nat) (ea : Nat) (ba : Nat) (da : Nat) (bt : Nat) (bp : Nat) (bl : Nat) (bh : Nat) (bq : Nat) (br : Nat) (bd : Nat) (bg : Int) (bf : Int) (fp : Int → Int) (fl : Int → Int) (fh : Int → Int) (fd : Int → Int) (fe : Int → Int) (z1 : Int) (z2 : Int) (z3 : Int) (z4 : Int) (oa : Nat) (fo : Int → Int) (hbp : ∀ i, 0 ≤ fp i ∧ fp i ≤ 30) (hbl : ∀ i, 0 ≤ fl i ∧ fl i ≤ 100000) (hbh : ∀ i, -1 ≤ fh i ∧ fh i ≤ 100000) (hbd : ∀ i, 0 ≤ fd i ∧ fd i ≤ 20) (hbg : 0 ≤ bg ∧ bg < 2147483648) (hbf : 0 ≤ bf ∧ bf < 2147483648) (hfe0 : ∀ i, -1 ≤ fe i ∧ fe i ≤ 100000) (hi_z1 : i32 z1) (hi_z2 : i32 z2) (hi_z3 : i32 z3) (hi_z4 : i32 z4) : YMet l yXL_equivalent (Cond.codeWith yXL_equivalent cXL_equivalent 7 (some .int) [(0, 13, 16, 21), (0, 13, 20, 31)] :: TBL) ({ frames := 8, cells := 1, slots := 6, locals := 127 } : Room) (va_Pc [.ref ga, .int (jI z1), .int (jI z2), .int (jI z3), .int (jI z4), .ref oa] (jBc (dC, dI) [(cA, .int), (cL, .long)] [(ga, .inr (4, [.ref ta, .ref rda, .ref pa, .ref sa, .ref ea, .ref ba, .ref da])), (ba, .inr (0, [.ref bt, .ref bp, .ref bl, .ref bh, .ref bq, .ref br, .ref bd, .int (jI bg), .int (jI bf)])), (bp, .inl (cA, 31, .inl (jA fp))), (bl, .inl (cA, 248, .inl (jA fl))), (bh, .inl (cA, 248, .inl (jA fh))), (bd, .inl (cA, 32, .inl (jA fd))), (ea, .inl (cA, 8, .inl (jA fe))), (oa, .inl (cL, 1, .inr (.inl (jAL fo))))] sz)) (va_Qi (fun (r : Int32) (u : Int × (Int → Int) × (Int → Int)) => r = jI u.1 ∧ u = f_XL_equivalent bg bf fp fl fh fd fe z1 z2 z3 z4 fo ∧ (∀ i, -1 ≤ u.2.2 i ∧ u.2.2 i ≤ 100000)) (fun u t => jE (dC, dI) [(cA, .int), (cL, .long)] [(ga, .inr (4, [.ref ta, .ref rda, .ref pa, .ref sa, .ref ea, .ref ba, .ref da])), (ba, .inr (0, [.ref bt, .ref bp, .ref bl, .ref bh, .ref bq, .ref br, .ref bd, .int (jI bg), .int (jI bf)])), (bp, .inl (cA, 31, .inl (jA fp))), (bl, .inl (cA, 248, .inl (jA fl))), (bh, .inl (cA, 248, .inl (jA fh))), (bd, .inl (cA, 32, .inl (jA fd))), (ea, .inl (cA, 8, .inl (jA fe))), (oa, .inl (cL, 1, .inr (.inl (jAL fo))))] sz [(ga, .inr (4, [.ref ta, .ref rda, .ref pa, .ref sa, .ref ea, .ref ba, .ref da])), (ba, .inr (0, [.ref bt, .ref bp, .ref bl, .ref bh, .ref bq, .ref br, .ref bd, .int (jI bg), .int (jI bf)])), (bp, .inl (cA, 31, .inl (jA fp))), (bl, .inl (cA, 248, .inl (jA fl))), (bh, .inl (cA, 248, .inl (jA fh))), (bd, .inl (cA, 32, .inl (jA fd))), (ea, .inl (cA, 8, .inl (jA u.2.2))), (oa, .inl (cL, 1, .inr (.inl (jAL u.2.1))))] t) (va_A [(ga, .inr (4, [.ref ta, .ref rda, .ref pa, .ref sa, .ref ea, .ref ba, .ref da])), (ba, .inr (0, [.ref bt, .ref bp, .ref bl, .ref bh, .ref bq, .ref br, .ref bd, .int (jI bg), .int (jI bf)])), (bp, .inl (cA, 31, .inl (jA fp))), (bl, .inl (cA, 248, .inl (jA fl))), (bh, .inl (cA, 248, .inl (jA fh))), (bd, .inl (cA, 32, .inl (jA fd))), (ea, .inl (cA, 8, .inl (jA fe))), (oa, .inl (cL, 1, .inr (.inl (jAL fo))))] sz)) 1 6 1 6 (va_A [(ga, .inr (4, [.ref ta, .ref rda, .ref pa, .ref sa, .ref ea, .ref ba, .ref da])), (ba, .inr (0, [.ref bt, .ref bp, .ref bl, .ref bh, .ref bq, .ref br, .ref bd, .int (jI bg), .int (jI bf)])), (bp, .inl (cA, 31, .inl (jA fp))), (bl, .inl (cA, 248, .inl (jA fl))), (bh, .inl (cA, 248, .inl (jA fh))), (bd, .inl (cA, 32, .inl (jA fd))), (ea, .inl (cA, 8, .inl (jA fe))), (oa, .inl (cL, 1, .inr (.inl (jAL fo))))] sz) := by
  refine YMet.ofWH (cc := cXL_equivalent) (maxL := 7) (ret := some .int) (hh := [(0, 13, 16, 21), (0, 13, 20, 31)]) (by decide) rfl ?_
  intro p e s m args below meth c s₁ R Q hR hQ B hml htab hv
  obtain ⟨rfl, ⟨hsz, hP, hK, hD0, hN⟩, hX, hC⟩ := hv
  have hx := B.exec
  have hb := B.bytes
  have hr := B.returns
  have hts := atoms_spec (ws := Cond.codeWith yXL_equivalent cXL_equivalent 7 (some .int) [(0, 13, 16, 21), (0, 13, 20, 31)] :: TBL) B.pre
  have hown : s.vm.findClass RXL = some m.cls := findClass_of_methodNamed B.named
  have hlocks := B.notSynchronized
  subst hsz
  obtain ⟨A, hAe⟩ : ∃ A, A = va_A [(ga, .inr (4, [.ref ta, .ref rda, .ref pa, .ref sa, .ref ea, .ref ba, .ref da])), (ba, .inr (0, [.ref bt, .ref bp, .ref bl, .ref bh, .ref bq, .ref br, .ref bd, .int (jI bg), .int (jI bf)])), (bp, .inl (cA, 31, .inl (jA fp))), (bl, .inl (cA, 248, .inl (jA fl))), (bh, .inl (cA, 248, .inl (jA fh))), (bd, .inl (cA, 32, .inl (jA fd))), (ea, .inl (cA, 8, .inl (jA fe))), (oa, .inl (cL, 1, .inr (.inl (jAL fo))))] s.heap.size := ⟨_, rfl⟩
  have hD : va_D A [(ga, .inr (4, [.ref ta, .ref rda, .ref pa, .ref sa, .ref ea, .ref ba, .ref da])), (ba, .inr (0, [.ref bt, .ref bp, .ref bl, .ref bh, .ref bq, .ref br, .ref bd, .int (jI bg), .int (jI bf)])), (bp, .inl (cA, 31, .inl (jA fp))), (bl, .inl (cA, 248, .inl (jA fl))), (bh, .inl (cA, 248, .inl (jA fh))), (bd, .inl (cA, 32, .inl (jA fd))), (ea, .inl (cA, 8, .inl (jA fe))), (oa, .inl (cL, 1, .inr (.inl (jAL fo))))] := by rw [hAe]; exact hD0.self
  have hA : ∀ q : Nat, s.heap.size ≤ q → A q := fun q h => by rw [hAe]; exact Or.inr h
  have hS : va_S A s.heap s.heap [] := va_S.rf
  have hP : va_P (dC, dI) vwCl [(ga, .inr (4, [.ref ta, .ref rda, .ref pa, .ref sa, .ref ea, .ref ba, .ref da])), (ba, .inr (0, [.ref bt, .ref bp, .ref bl, .ref bh, .ref bq, .ref br, .ref bd, .int (jI bg), .int (jI bf)])), (bp, .inl (cA, 31, .inl (jA fp))), (bl, .inl (cA, 248, .inl (jA fl))), (bh, .inl (cA, 248, .inl (jA fh))), (bd, .inl (cA, 32, .inl (jA fd))), (ea, .inl (cA, 8, .inl (jA fe))), (oa, .inl (cL, 1, .inr (.inl (jAL fo))))] s.heap := hP
  have hl := lv_entry ([.ref ga, .int (jI z1), .int (jI z2), .int (jI z3), .int (jI z4), .ref oa]) (n := 7) (Nat.le_of_ble_eq_true rfl)
  rw [lg_entry_eq]
  generalize (lg_sl ([.ref ga, .int (jI z1), .int (jI z2), .int (jI z3), .int (jI z4), .ref oa]) ++ List.replicate (7 - (lg_sl ([.ref ga, .int (jI z1), .int (jI z2), .int (jI z3), .int (jI z4), .ref oa])).length) Slot.unset).toArray = ls at hl ⊢
  have hl : lv_has ls 7 [(0, .ref ga), (1, .int (jI z1)), (2, .int (jI z2)), (3, .int (jI z3)), (4, .int (jI z4)), (5, .ref oa)] := hl
  refine lv_aload hx hb dXL_equivalent_0 (lv_at hl 5 rfl) ?_
  refine ji_iconst hx hb dXL_equivalent_2 ?_
  refine lv_aload_n hx hb dXL_equivalent_3 rfl (lv_at hl 0 rfl) ?_
  refine lv_iload_n hx hb dXL_equivalent_4 rfl (lv_at hl 1 rfl) ?_
  refine lv_iload_n hx hb dXL_equivalent_5 rfl (lv_at hl 2 rfl) ?_
  refine lv_iload_n hx hb dXL_equivalent_6 rfl (lv_at hl 3 rfl) ?_
  refine lv_iload hx hb dXL_equivalent_7 (lv_at hl 4 rfl) ?_
  refine ztWl (A := A) (wr := [(oa, .inl (cL, 1, .inr (.inl (jAL fo))))]) (rest := [.int (jI 0), .ref oa]) ⟨hx, hb, hml, hown, hts⟩ (c_XG_equivalent l hst dC dI cA _ ga ta rda pa sa ea ba da bt bp bl bh bq br bd bg bf fp fl fh fd fe z1 z2 z3 z4 hbp hbl hbh hbd hbg hbf hfe0 hi_z1 hi_z2 hi_z3 hi_z4) (cwV 4 hts (jG_V tw_459 tw_460 tw_461 tw_1 tw_462) rfl rfl rfl (by decide +kernel) (by rw [hR]; exact ⟨Nat.le_of_ble_eq_true rfl, Nat.le_of_ble_eq_true rfl⟩)) (va_K.sub hK [0] rfl) hP hD hA hN hX [0, 1, 2, 3, 4, 5, 6] [7] rfl rfl (by decide) (by decide) (by decide) 0 4 rfl rfl rfl rfl hl.1 rfl (Nat.le_of_ble_eq_true rfl) dXL_equivalent_9 (by rw [hR]; exact ⟨Nat.le_of_ble_eq_true rfl, Nat.le_of_ble_eq_true rfl⟩) (fun hz r9 u9 H locs hp9 hP hD hS => ?_) (fun hz x ce H1 L hP hS hce hcl hvm => ?_)
  · obtain ⟨er, hu, f0⟩ := hp9
    subst er
    subst hu
    have hP : va_P (dC, dI) vwCl [(oa, .inl (cL, 1, .inr (.inl (jAL fo)))), (ga, .inr (4, [.ref ta, .ref rda, .ref pa, .ref sa, .ref ea, .ref ba, .ref da])), (ba, .inr (0, [.ref bt, .ref bp, .ref bl, .ref bh, .ref bq, .ref br, .ref bd, .int (jI bg), .int (jI bf)])), (bp, .inl (cA, 31, .inl (jA fp))), (bl, .inl (cA, 248, .inl (jA fl))), (bh, .inl (cA, 248, .inl (jA fh))), (bd, .inl (cA, 32, .inl (jA fd))), (ea, .inl (cA, 8, .inl (jA ((f_XG_equivalent bg bf fp fl fh fd fe z1 z2 z3 z4).2.2))))] H := hP
    have hD : va_D A [(oa, .inl (cL, 1, .inr (.inl (jAL fo)))), (ga, .inr (4, [.ref ta, .ref rda, .ref pa, .ref sa, .ref ea, .ref ba, .ref da])), (ba, .inr (0, [.ref bt, .ref bp, .ref bl, .ref bh, .ref bq, .ref br, .ref bd, .int (jI bg), .int (jI bf)])), (bp, .inl (cA, 31, .inl (jA fp))), (bl, .inl (cA, 248, .inl (jA fl))), (bh, .inl (cA, 248, .inl (jA fh))), (bd, .inl (cA, 32, .inl (jA fd))), (ea, .inl (cA, 8, .inl (jA ((f_XG_equivalent bg bf fp fl fh fd fe z1 z2 z3 z4).2.2))))] := hD
    refine ji_last hx hb hK hP hD hS 0 1 rfl rfl ⟨by decide, by decide⟩ (by decide) dXL_equivalent_12 (fun H locs hP hD hS => ?_)
    have hP : va_P (dC, dI) vwCl [(oa, .inl (cL, 1, .inr (.inl (jAL (jset fo 0 ((f_XG_equivalent bg bf fp fl fh fd fe z1 z2 z3 z4).2.1)))))), (ga, .inr (4, [.ref ta, .ref rda, .ref pa, .ref sa, .ref ea, .ref ba, .ref da])), (ba, .inr (0, [.ref bt, .ref bp, .ref bl, .ref bh, .ref bq, .ref br, .ref bd, .int (jI bg), .int (jI bf)])), (bp, .inl (cA, 31, .inl (jA fp))), (bl, .inl (cA, 248, .inl (jA fl))), (bh, .inl (cA, 248, .inl (jA fh))), (bd, .inl (cA, 32, .inl (jA fd))), (ea, .inl (cA, 8, .inl (jA ((f_XG_equivalent bg bf fp fl fh fd fe z1 z2 z3 z4).2.2))))] H := hP
    have hD : va_D A [(oa, .inl (cL, 1, .inr (.inl (jAL (jset fo 0 ((f_XG_equivalent bg bf fp fl fh fd fe z1 z2 z3 z4).2.1)))))), (ga, .inr (4, [.ref ta, .ref rda, .ref pa, .ref sa, .ref ea, .ref ba, .ref da])), (ba, .inr (0, [.ref bt, .ref bp, .ref bl, .ref bh, .ref bq, .ref br, .ref bd, .int (jI bg), .int (jI bf)])), (bp, .inl (cA, 31, .inl (jA fp))), (bl, .inl (cA, 248, .inl (jA fl))), (bh, .inl (cA, 248, .inl (jA fh))), (bd, .inl (cA, 32, .inl (jA fd))), (ea, .inl (cA, 8, .inl (jA ((f_XG_equivalent bg bf fp fl fh fd fe z1 z2 z3 z4).2.2))))] := hD
    refine lv_goto (tgt := 24) hx hb dXL_equivalent_13 (by decide) ?_
    refine ji_iconst hx hb dXL_equivalent_24 ?_
    refine W.widen (k := 1) (n := 6) (Nat.le_of_ble_eq_true rfl) (Nat.le_of_ble_eq_true rfl) ?_
    have hP9 := hP.sub (ws' := [(ga, .inr (4, [.ref ta, .ref rda, .ref pa, .ref sa, .ref ea, .ref ba, .ref da])), (ba, .inr (0, [.ref bt, .ref bp, .ref bl, .ref bh, .ref bq, .ref br, .ref bd, .int (jI bg), .int (jI bf)])), (bp, .inl (cA, 31, .inl (jA fp))), (bl, .inl (cA, 248, .inl (jA fl))), (bh, .inl (cA, 248, .inl (jA fh))), (bd, .inl (cA, 32, .inl (jA fd))), (ea, .inl (cA, 8, .inl (jA ((f_XG_equivalent bg bf fp fl fh fd fe z1 z2 z3 z4).2.2)))), (oa, .inl (cL, 1, .inr (.inl (jAL (jset fo 0 ((f_XG_equivalent bg bf fp fl fh fd fe z1 z2 z3 z4).2.1))))))]) [1, 2, 3, 4, 5, 6, 7, 0] rfl
    have hD9 := hD.sub (ws' := [(ga, .inr (4, [.ref ta, .ref rda, .ref pa, .ref sa, .ref ea, .ref ba, .ref da])), (ba, .inr (0, [.ref bt, .ref bp, .ref bl, .ref bh, .ref bq, .ref br, .ref bd, .int (jI bg), .int (jI bf)])), (bp, .inl (cA, 31, .inl (jA fp))), (bl, .inl (cA, 248, .inl (jA fl))), (bh, .inl (cA, 248, .inl (jA fh))), (bd, .inl (cA, 32, .inl (jA fd))), (ea, .inl (cA, 8, .inl (jA ((f_XG_equivalent bg bf fp fl fh fd fe z1 z2 z3 z4).2.2)))), (oa, .inl (cL, 1, .inr (.inl (jAL (jset fo 0 ((f_XG_equivalent bg bf fp fl fh fd fe z1 z2 z3 z4).2.1))))))]) [1, 2, 3, 4, 5, 6, 7, 0] (by decide) rfl
    subst hAe
    subst hQ
    refine yW (fun _ h => yQ_of h) ?_
    exact W.iret (v := jI 0) hx hb hr (fun t ht hW => ⟨⟨_, (0, jset fo 0 ((f_XG_equivalent bg bf fp fl fh fd fe z1 z2 z3 z4).2.1), (f_XG_equivalent bg bf fp fl fh fd fe z1 z2 z3 z4).2.2), rfl, ⟨rfl, by rw [f_XL_equivalent_s, if_pos hz], by first | assumption | omega⟩, ⟨by rw [ht]; exact hP9, va_K.moved hW.alike hK, hD9⟩⟩, hS.F ht⟩) hS.2.2 dXL_equivalent_25
  · rcases f_XG_equivalent_e bg bf fp fl fh fd fe z1 z2 z3 z4 with h9 | h9 | h9
    · exact absurd h9 hz
    · rw [h9, xCls_1] at hcl
      refine zOn1 htab hown ⟨by decide, by decide⟩ (by decide) (hts _ (jmem tw_407)) hX.c1 hce hcl hvm ?_
      refine lv_astore (lv' := [(6, .ref x), (0, .ref ga), (1, .int (jI z1)), (2, .int (jI z2)), (3, .int (jI z3)), (4, .int (jI z4)), (5, .ref oa)]) hx hb dXL_equivalent_16 hl (by decide) rfl (fun ls hl => ?_)
      refine ji_iconst hx hb dXL_equivalent_18 ?_
      refine W.widen (k := 1) (n := 6) (Nat.le_of_ble_eq_true rfl) (Nat.le_of_ble_eq_true rfl) ?_
      have hP9 := hP.sub (ws' := [(ga, .inr (4, [.ref ta, .ref rda, .ref pa, .ref sa, .ref ea, .ref ba, .ref da])), (ba, .inr (0, [.ref bt, .ref bp, .ref bl, .ref bh, .ref bq, .ref br, .ref bd, .int (jI bg), .int (jI bf)])), (bp, .inl (cA, 31, .inl (jA fp))), (bl, .inl (cA, 248, .inl (jA fl))), (bh, .inl (cA, 248, .inl (jA fh))), (bd, .inl (cA, 32, .inl (jA fd))), (ea, .inl (cA, 8, .inl (jA fe))), (oa, .inl (cL, 1, .inr (.inl (jAL fo))))]) [0, 1, 2, 3, 4, 5, 6, 7] rfl
      have hD9 := hD.sub (ws' := [(ga, .inr (4, [.ref ta, .ref rda, .ref pa, .ref sa, .ref ea, .ref ba, .ref da])), (ba, .inr (0, [.ref bt, .ref bp, .ref bl, .ref bh, .ref bq, .ref br, .ref bd, .int (jI bg), .int (jI bf)])), (bp, .inl (cA, 31, .inl (jA fp))), (bl, .inl (cA, 248, .inl (jA fl))), (bh, .inl (cA, 248, .inl (jA fh))), (bd, .inl (cA, 32, .inl (jA fd))), (ea, .inl (cA, 8, .inl (jA fe))), (oa, .inl (cL, 1, .inr (.inl (jAL fo))))]) [0, 1, 2, 3, 4, 5, 6, 7] (by decide) rfl
      subst hAe
      subst hQ
      refine yW (fun _ h => yQ_of h) ?_
      exact W.iret (v := jI 1) hx hb hr (fun t ht hW => ⟨⟨_, (1, fo, fe), rfl, ⟨rfl, by rw [f_XL_equivalent_s, if_neg hz, if_pos h9], by first | assumption | omega⟩, ⟨by rw [ht]; exact hP9, va_K.moved hW.alike hK, hD9⟩⟩, hS.F ht⟩) hS.2.2 dXL_equivalent_19
    · rw [h9, xCls_2] at hcl
      refine zOn2 htab hown ⟨by decide, by decide⟩ (by decide) ⟨by decide, by decide⟩ (by decide) (hts _ (jmem tw_407)) hC.2.1 (hts _ (jmem tw_458)) hX.c2 hce hcl hvm ?_
      refine lv_astore (lv' := [(6, .ref x), (0, .ref ga), (1, .int (jI z1)), (2, .int (jI z2)), (3, .int (jI z3)), (4, .int (jI z4)), (5, .ref oa)]) hx hb dXL_equivalent_20 hl (by decide) rfl (fun ls hl => ?_)
      refine ji_iconst hx hb dXL_equivalent_22 ?_
      refine W.widen (k := 1) (n := 6) (Nat.le_of_ble_eq_true rfl) (Nat.le_of_ble_eq_true rfl) ?_
      have hP9 := hP.sub (ws' := [(ga, .inr (4, [.ref ta, .ref rda, .ref pa, .ref sa, .ref ea, .ref ba, .ref da])), (ba, .inr (0, [.ref bt, .ref bp, .ref bl, .ref bh, .ref bq, .ref br, .ref bd, .int (jI bg), .int (jI bf)])), (bp, .inl (cA, 31, .inl (jA fp))), (bl, .inl (cA, 248, .inl (jA fl))), (bh, .inl (cA, 248, .inl (jA fh))), (bd, .inl (cA, 32, .inl (jA fd))), (ea, .inl (cA, 8, .inl (jA fe))), (oa, .inl (cL, 1, .inr (.inl (jAL fo))))]) [0, 1, 2, 3, 4, 5, 6, 7] rfl
      have hD9 := hD.sub (ws' := [(ga, .inr (4, [.ref ta, .ref rda, .ref pa, .ref sa, .ref ea, .ref ba, .ref da])), (ba, .inr (0, [.ref bt, .ref bp, .ref bl, .ref bh, .ref bq, .ref br, .ref bd, .int (jI bg), .int (jI bf)])), (bp, .inl (cA, 31, .inl (jA fp))), (bl, .inl (cA, 248, .inl (jA fl))), (bh, .inl (cA, 248, .inl (jA fh))), (bd, .inl (cA, 32, .inl (jA fd))), (ea, .inl (cA, 8, .inl (jA fe))), (oa, .inl (cL, 1, .inr (.inl (jAL fo))))]) [0, 1, 2, 3, 4, 5, 6, 7] (by decide) rfl
      subst hAe
      subst hQ
      refine yW (fun _ h => yQ_of h) ?_
      exact W.iret (v := jI 2) hx hb hr (fun t ht hW => ⟨⟨_, (2, fo, fe), rfl, ⟨rfl, by rw [f_XL_equivalent_s, if_neg hz, if_neg (by rw [h9]; decide)], by first | assumption | omega⟩, ⟨by rw [ht]; exact hP9, va_K.moved hW.alike hK, hD9⟩⟩, hS.F ht⟩) hS.2.2 dXL_equivalent_23
noncomputable def g_XL_share (fs : Int → Int) (z1 : Int) (z2 : Int) : Int × (Int → Int) :=
  if (f_XG_share fs z1 z2).1 = 0 then
    (0, (f_XG_share fs z1 z2).2)
  else
    if (f_XG_share fs z1 z2).1 = 1 then
      (1, fs)
    else
      (2, fs)
noncomputable def f_XL_share : (Int → Int) → Int → Int → Int × (Int → Int) := jopq g_XL_share
theorem f_XL_share_q : f_XL_share = g_XL_share := jopq_eq _
theorem f_XL_share_s (fs : Int → Int) (z1 : Int) (z2 : Int) : f_XL_share fs z1 z2 = (
    if (f_XG_share fs z1 z2).1 = 0 then
      (0, (f_XG_share fs z1 z2).2)
    else
      if (f_XG_share fs z1 z2).1 = 1 then
        (1, fs)
      else
        (2, fs)
  : Int × (Int → Int)) := by rw [f_XL_share_q]; rfl
set_option maxHeartbeats 4000000 in
set_option maxRecDepth 100000 in
theorem c_XL_share (l : Launch) (hst : l.stackTraces = false) (dC : Nat → ClassId) (dI : Nat → Nat → Nat) (cA cL : ClassId) (sz : Nat) (ga : Nat) (ta : Nat) (rda : Nat) (pa : Nat) (sa : Nat) (ea : Nat) (ba : Nat) (da : Nat) (fs : Int → Int) (z1 : Int) (z2 : Int) (hfs0 : ∀ i, -1 ≤ fs i ∧ fs i ≤ 100000) (hi_z1 : i32 z1) (hi_z2 : i32 z2) : YMet l yXL_share (Cond.codeWith yXL_share cXL_share 4 (some .int) [(0, 6, 9, 21), (0, 6, 12, 13)] :: TBL) ({ frames := 8, cells := 1, slots := 6, locals := 125 } : Room) (va_Pc [.ref ga, .int (jI z1), .int (jI z2)] (jBc (dC, dI) [(cA, .int), (cL, .long)] [(ga, .inr (4, [.ref ta, .ref rda, .ref pa, .ref sa, .ref ea, .ref ba, .ref da])), (sa, .inl (cA, 8, .inl (jA fs)))] sz)) (va_Qi (fun (r : Int32) (u : Int × (Int → Int)) => r = jI u.1 ∧ u = f_XL_share fs z1 z2 ∧ (∀ i, -1 ≤ u.2 i ∧ u.2 i ≤ 100000)) (fun u t => jE (dC, dI) [(cA, .int), (cL, .long)] [(ga, .inr (4, [.ref ta, .ref rda, .ref pa, .ref sa, .ref ea, .ref ba, .ref da])), (sa, .inl (cA, 8, .inl (jA fs)))] sz [(ga, .inr (4, [.ref ta, .ref rda, .ref pa, .ref sa, .ref ea, .ref ba, .ref da])), (sa, .inl (cA, 8, .inl (jA u.2)))] t) (va_A [(ga, .inr (4, [.ref ta, .ref rda, .ref pa, .ref sa, .ref ea, .ref ba, .ref da])), (sa, .inl (cA, 8, .inl (jA fs)))] sz)) 1 6 1 6 (va_A [(ga, .inr (4, [.ref ta, .ref rda, .ref pa, .ref sa, .ref ea, .ref ba, .ref da])), (sa, .inl (cA, 8, .inl (jA fs)))] sz) := by
  refine YMet.ofWH (cc := cXL_share) (maxL := 4) (ret := some .int) (hh := [(0, 6, 9, 21), (0, 6, 12, 13)]) (by decide) rfl ?_
  intro p e s m args below meth c s₁ R Q hR hQ B hml htab hv
  obtain ⟨rfl, ⟨hsz, hP, hK, hD0, hN⟩, hX, hC⟩ := hv
  have hx := B.exec
  have hb := B.bytes
  have hr := B.returns
  have hts := atoms_spec (ws := Cond.codeWith yXL_share cXL_share 4 (some .int) [(0, 6, 9, 21), (0, 6, 12, 13)] :: TBL) B.pre
  have hown : s.vm.findClass RXL = some m.cls := findClass_of_methodNamed B.named
  have hlocks := B.notSynchronized
  subst hsz
  obtain ⟨A, hAe⟩ : ∃ A, A = va_A [(ga, .inr (4, [.ref ta, .ref rda, .ref pa, .ref sa, .ref ea, .ref ba, .ref da])), (sa, .inl (cA, 8, .inl (jA fs)))] s.heap.size := ⟨_, rfl⟩
  have hD : va_D A [(ga, .inr (4, [.ref ta, .ref rda, .ref pa, .ref sa, .ref ea, .ref ba, .ref da])), (sa, .inl (cA, 8, .inl (jA fs)))] := by rw [hAe]; exact hD0.self
  have hA : ∀ q : Nat, s.heap.size ≤ q → A q := fun q h => by rw [hAe]; exact Or.inr h
  have hS : va_S A s.heap s.heap [] := va_S.rf
  have hP : va_P (dC, dI) vwCl [(ga, .inr (4, [.ref ta, .ref rda, .ref pa, .ref sa, .ref ea, .ref ba, .ref da])), (sa, .inl (cA, 8, .inl (jA fs)))] s.heap := hP
  have hl := lv_entry ([.ref ga, .int (jI z1), .int (jI z2)]) (n := 4) (Nat.le_of_ble_eq_true rfl)
  rw [lg_entry_eq]
  generalize (lg_sl ([.ref ga, .int (jI z1), .int (jI z2)]) ++ List.replicate (4 - (lg_sl ([.ref ga, .int (jI z1), .int (jI z2)])).length) Slot.unset).toArray = ls at hl ⊢
  have hl : lv_has ls 4 [(0, .ref ga), (1, .int (jI z1)), (2, .int (jI z2))] := hl
  refine lv_aload_n hx hb dXL_share_0 rfl (lv_at hl 0 rfl) ?_
  refine lv_iload_n hx hb dXL_share_1 rfl (lv_at hl 1 rfl) ?_
  refine lv_iload_n hx hb dXL_share_2 rfl (lv_at hl 2 rfl) ?_
  refine ztWv (A := A) (wr := []) (rest := []) ⟨hx, hb, hml, hown, hts⟩ (c_XG_share l hst dC dI cA _ ga ta rda pa sa ea ba da fs z1 z2 hfs0 hi_z1 hi_z2) (cwV 2 hts (jG_V tw_505 tw_506 tw_507 tw_1 tw_508) rfl rfl rfl (by decide +kernel) (by rw [hR]; exact ⟨Nat.le_of_ble_eq_true rfl, Nat.le_of_ble_eq_true rfl⟩)) (va_K.sub hK [0] rfl) hP hD hA hN hX [0, 1] [] rfl rfl (by decide) (by decide) (by decide) 0 4 rfl rfl rfl rfl hl.1 rfl (Nat.le_of_ble_eq_true rfl) dXL_share_3 (by rw [hR]; exact ⟨Nat.le_of_ble_eq_true rfl, Nat.le_of_ble_eq_true rfl⟩) (fun hz u9 H locs hp9 hP hD hS => ?_) (fun hz x ce H1 L hP hS hce hcl hvm => ?_)
  · obtain ⟨hu, f0⟩ := hp9
    subst hu
    have hP : va_P (dC, dI) vwCl [(ga, .inr (4, [.ref ta, .ref rda, .ref pa, .ref sa, .ref ea, .ref ba, .ref da])), (sa, .inl (cA, 8, .inl (jA ((f_XG_share fs z1 z2).2))))] H := hP
    have hD : va_D A [(ga, .inr (4, [.ref ta, .ref rda, .ref pa, .ref sa, .ref ea, .ref ba, .ref da])), (sa, .inl (cA, 8, .inl (jA ((f_XG_share fs z1 z2).2))))] := hD
    refine lv_goto (tgt := 15) hx hb dXL_share_6 (by decide) ?_
    refine ji_iconst hx hb dXL_share_15 ?_
    refine W.widen (k := 1) (n := 6) (Nat.le_of_ble_eq_true rfl) (Nat.le_of_ble_eq_true rfl) ?_
    have hP9 := hP.sub (ws' := [(ga, .inr (4, [.ref ta, .ref rda, .ref pa, .ref sa, .ref ea, .ref ba, .ref da])), (sa, .inl (cA, 8, .inl (jA ((f_XG_share fs z1 z2).2))))]) [0, 1] rfl
    have hD9 := hD.sub (ws' := [(ga, .inr (4, [.ref ta, .ref rda, .ref pa, .ref sa, .ref ea, .ref ba, .ref da])), (sa, .inl (cA, 8, .inl (jA ((f_XG_share fs z1 z2).2))))]) [0, 1] (by decide) rfl
    subst hAe
    subst hQ
    refine yW (fun _ h => yQ_of h) ?_
    exact W.iret (v := jI 0) hx hb hr (fun t ht hW => ⟨⟨_, (0, (f_XG_share fs z1 z2).2), rfl, ⟨rfl, by rw [f_XL_share_s, if_pos hz], by first | assumption | omega⟩, ⟨by rw [ht]; exact hP9, va_K.moved hW.alike hK, hD9⟩⟩, hS.F ht⟩) hS.2.2 dXL_share_16
  · rcases f_XG_share_e fs z1 z2 with h9 | h9 | h9
    · exact absurd h9 hz
    · rw [h9, xCls_1] at hcl
      refine zOn1 htab hown ⟨by decide, by decide⟩ (by decide) (hts _ (jmem tw_407)) hX.c1 hce hcl hvm ?_
      refine lv_astore_n (lv' := [(3, .ref x), (0, .ref ga), (1, .int (jI z1)), (2, .int (jI z2))]) hx hb dXL_share_9 rfl hl (by decide) rfl (fun ls hl => ?_)
      refine ji_iconst hx hb dXL_share_10 ?_
      refine W.widen (k := 1) (n := 6) (Nat.le_of_ble_eq_true rfl) (Nat.le_of_ble_eq_true rfl) ?_
      have hP9 := hP.sub (ws' := [(ga, .inr (4, [.ref ta, .ref rda, .ref pa, .ref sa, .ref ea, .ref ba, .ref da])), (sa, .inl (cA, 8, .inl (jA fs)))]) [0, 1] rfl
      have hD9 := hD.sub (ws' := [(ga, .inr (4, [.ref ta, .ref rda, .ref pa, .ref sa, .ref ea, .ref ba, .ref da])), (sa, .inl (cA, 8, .inl (jA fs)))]) [0, 1] (by decide) rfl
      subst hAe
      subst hQ
      refine yW (fun _ h => yQ_of h) ?_
      exact W.iret (v := jI 1) hx hb hr (fun t ht hW => ⟨⟨_, (1, fs), rfl, ⟨rfl, by rw [f_XL_share_s, if_neg hz, if_pos h9], by first | assumption | omega⟩, ⟨by rw [ht]; exact hP9, va_K.moved hW.alike hK, hD9⟩⟩, hS.F ht⟩) hS.2.2 dXL_share_11
    · rw [h9, xCls_3] at hcl
      refine zOn2 htab hown ⟨by decide, by decide⟩ (by decide) ⟨by decide, by decide⟩ (by decide) (hts _ (jmem tw_407)) hC.2.2 (hts _ (jmem tw_304)) hX.c3 hce hcl hvm ?_
      refine lv_astore_n (lv' := [(3, .ref x), (0, .ref ga), (1, .int (jI z1)), (2, .int (jI z2))]) hx hb dXL_share_12 rfl hl (by decide) rfl (fun ls hl => ?_)
      refine ji_iconst hx hb dXL_share_13 ?_
      refine W.widen (k := 1) (n := 6) (Nat.le_of_ble_eq_true rfl) (Nat.le_of_ble_eq_true rfl) ?_
      have hP9 := hP.sub (ws' := [(ga, .inr (4, [.ref ta, .ref rda, .ref pa, .ref sa, .ref ea, .ref ba, .ref da])), (sa, .inl (cA, 8, .inl (jA fs)))]) [0, 1] rfl
      have hD9 := hD.sub (ws' := [(ga, .inr (4, [.ref ta, .ref rda, .ref pa, .ref sa, .ref ea, .ref ba, .ref da])), (sa, .inl (cA, 8, .inl (jA fs)))]) [0, 1] (by decide) rfl
      subst hAe
      subst hQ
      refine yW (fun _ h => yQ_of h) ?_
      exact W.iret (v := jI 2) hx hb hr (fun t ht hW => ⟨⟨_, (2, fs), rfl, ⟨rfl, by rw [f_XL_share_s, if_neg hz, if_neg (by rw [h9]; decide)], by first | assumption | omega⟩, ⟨by rw [ht]; exact hP9, va_K.moved hW.alike hK, hD9⟩⟩, hS.F ht⟩) hS.2.2 dXL_share_14
noncomputable def g_XL_value (bg : Int) (bf : Int) (fd : Int → Int) (fs : Int → Int) (z1 : Int) (z2 : Int) (fo : Int → Int) : Int × (Int → Int) :=
  if (f_XG_value bg bf fd fs z1 z2).1 = 0 then
    (0, jset fo 0 ((f_XG_value bg bf fd fs z1 z2).2))
  else
    if (f_XG_value bg bf fd fs z1 z2).1 = 1 then
      (1, fo)
    else
      (2, fo)
noncomputable def f_XL_value : Int → Int → (Int → Int) → (Int → Int) → Int → Int → (Int → Int) → Int × (Int → Int) := jopq g_XL_value
theorem f_XL_value_q : f_XL_value = g_XL_value := jopq_eq _
theorem f_XL_value_s (bg : Int) (bf : Int) (fd : Int → Int) (fs : Int → Int) (z1 : Int) (z2 : Int) (fo : Int → Int) : f_XL_value bg bf fd fs z1 z2 fo = (
    if (f_XG_value bg bf fd fs z1 z2).1 = 0 then
      (0, jset fo 0 ((f_XG_value bg bf fd fs z1 z2).2))
    else
      if (f_XG_value bg bf fd fs z1 z2).1 = 1 then
        (1, fo)
      else
        (2, fo)
  : Int × (Int → Int)) := by rw [f_XL_value_q]; rfl
set_option maxHeartbeats 4000000 in
set_option maxRecDepth 100000 in
theorem c_XL_value (l : Launch) (hst : l.stackTraces = false) (dC : Nat → ClassId) (dI : Nat → Nat → Nat) (cA cL : ClassId) (sz : Nat) (ga : Nat) (ta : Nat) (rda : Nat) (pa : Nat) (sa : Nat) (ea : Nat) (ba : Nat) (da : Nat) (bt : Nat) (bp : Nat) (bl : Nat) (bh : Nat) (bq : Nat) (br : Nat) (bd : Nat) (bg : Int) (bf : Int) (fd : Int → Int) (fs : Int → Int) (z1 : Int) (z2 : Int) (oa : Nat) (fo : Int → Int) (hbd : ∀ i, 0 ≤ fd i ∧ fd i ≤ 20) (hbf : 0 ≤ bf ∧ bf < 2147483648) (hfs0 : ∀ i, -1 ≤ fs i ∧ fs i ≤ 100000) (hi_z1 : i32 z1) (hi_z2 : i32 z2) : YMet l yXL_value (Cond.codeWith yXL_value cXL_value 5 (some .int) [(0, 9, 12, 21), (0, 9, 16, 31)] :: TBL) ({ frames := 8, cells := 1, slots := 6, locals := 125 } : Room) (va_Pc [.ref ga, .int (jI z1), .int (jI z2), .ref oa] (jBc (dC, dI) [(cA, .int), (cL, .long)] [(ga, .inr (4, [.ref ta, .ref rda, .ref pa, .ref sa, .ref ea, .ref ba, .ref da])), (ba, .inr (0, [.ref bt, .ref bp, .ref bl, .ref bh, .ref bq, .ref br, .ref bd, .int (jI bg), .int (jI bf)])), (bd, .inl (cA, 32, .inl (jA fd))), (sa, .inl (cA, 8, .inl (jA fs))), (oa, .inl (cL, 1, .inr (.inl (jAL fo))))] sz)) (va_Qi (fun (r : Int32) (u : Int × (Int → Int)) => r = jI u.1 ∧ u = f_XL_value bg bf fd fs z1 z2 fo) (fun u t => jE (dC, dI) [(cA, .int), (cL, .long)] [(ga, .inr (4, [.ref ta, .ref rda, .ref pa, .ref sa, .ref ea, .ref ba, .ref da])), (ba, .inr (0, [.ref bt, .ref bp, .ref bl, .ref bh, .ref bq, .ref br, .ref bd, .int (jI bg), .int (jI bf)])), (bd, .inl (cA, 32, .inl (jA fd))), (sa, .inl (cA, 8, .inl (jA fs))), (oa, .inl (cL, 1, .inr (.inl (jAL fo))))] sz [(ga, .inr (4, [.ref ta, .ref rda, .ref pa, .ref sa, .ref ea, .ref ba, .ref da])), (ba, .inr (0, [.ref bt, .ref bp, .ref bl, .ref bh, .ref bq, .ref br, .ref bd, .int (jI bg), .int (jI bf)])), (bd, .inl (cA, 32, .inl (jA fd))), (sa, .inl (cA, 8, .inl (jA fs))), (oa, .inl (cL, 1, .inr (.inl (jAL u.2))))] t) (va_A [(ga, .inr (4, [.ref ta, .ref rda, .ref pa, .ref sa, .ref ea, .ref ba, .ref da])), (ba, .inr (0, [.ref bt, .ref bp, .ref bl, .ref bh, .ref bq, .ref br, .ref bd, .int (jI bg), .int (jI bf)])), (bd, .inl (cA, 32, .inl (jA fd))), (sa, .inl (cA, 8, .inl (jA fs))), (oa, .inl (cL, 1, .inr (.inl (jAL fo))))] sz)) 1 6 1 6 (va_A [(ga, .inr (4, [.ref ta, .ref rda, .ref pa, .ref sa, .ref ea, .ref ba, .ref da])), (ba, .inr (0, [.ref bt, .ref bp, .ref bl, .ref bh, .ref bq, .ref br, .ref bd, .int (jI bg), .int (jI bf)])), (bd, .inl (cA, 32, .inl (jA fd))), (sa, .inl (cA, 8, .inl (jA fs))), (oa, .inl (cL, 1, .inr (.inl (jAL fo))))] sz) := by
  refine YMet.ofWH (cc := cXL_value) (maxL := 5) (ret := some .int) (hh := [(0, 9, 12, 21), (0, 9, 16, 31)]) (by decide) rfl ?_
  intro p e s m args below meth c s₁ R Q hR hQ B hml htab hv
  obtain ⟨rfl, ⟨hsz, hP, hK, hD0, hN⟩, hX, hC⟩ := hv
  have hx := B.exec
  have hb := B.bytes
  have hr := B.returns
  have hts := atoms_spec (ws := Cond.codeWith yXL_value cXL_value 5 (some .int) [(0, 9, 12, 21), (0, 9, 16, 31)] :: TBL) B.pre
  have hown : s.vm.findClass RXL = some m.cls := findClass_of_methodNamed B.named
  have hlocks := B.notSynchronized
  subst hsz
  obtain ⟨A, hAe⟩ : ∃ A, A = va_A [(ga, .inr (4, [.ref ta, .ref rda, .ref pa, .ref sa, .ref ea, .ref ba, .ref da])), (ba, .inr (0, [.ref bt, .ref bp, .ref bl, .ref bh, .ref bq, .ref br, .ref bd, .int (jI bg), .int (jI bf)])), (bd, .inl (cA, 32, .inl (jA fd))), (sa, .inl (cA, 8, .inl (jA fs))), (oa, .inl (cL, 1, .inr (.inl (jAL fo))))] s.heap.size := ⟨_, rfl⟩
  have hD : va_D A [(ga, .inr (4, [.ref ta, .ref rda, .ref pa, .ref sa, .ref ea, .ref ba, .ref da])), (ba, .inr (0, [.ref bt, .ref bp, .ref bl, .ref bh, .ref bq, .ref br, .ref bd, .int (jI bg), .int (jI bf)])), (bd, .inl (cA, 32, .inl (jA fd))), (sa, .inl (cA, 8, .inl (jA fs))), (oa, .inl (cL, 1, .inr (.inl (jAL fo))))] := by rw [hAe]; exact hD0.self
  have hA : ∀ q : Nat, s.heap.size ≤ q → A q := fun q h => by rw [hAe]; exact Or.inr h
  have hS : va_S A s.heap s.heap [] := va_S.rf
  have hP : va_P (dC, dI) vwCl [(ga, .inr (4, [.ref ta, .ref rda, .ref pa, .ref sa, .ref ea, .ref ba, .ref da])), (ba, .inr (0, [.ref bt, .ref bp, .ref bl, .ref bh, .ref bq, .ref br, .ref bd, .int (jI bg), .int (jI bf)])), (bd, .inl (cA, 32, .inl (jA fd))), (sa, .inl (cA, 8, .inl (jA fs))), (oa, .inl (cL, 1, .inr (.inl (jAL fo))))] s.heap := hP
  have hl := lv_entry ([.ref ga, .int (jI z1), .int (jI z2), .ref oa]) (n := 5) (Nat.le_of_ble_eq_true rfl)
  rw [lg_entry_eq]
  generalize (lg_sl ([.ref ga, .int (jI z1), .int (jI z2), .ref oa]) ++ List.replicate (5 - (lg_sl ([.ref ga, .int (jI z1), .int (jI z2), .ref oa])).length) Slot.unset).toArray = ls at hl ⊢
  have hl : lv_has ls 5 [(0, .ref ga), (1, .int (jI z1)), (2, .int (jI z2)), (3, .ref oa)] := hl
  refine lv_aload_n hx hb dXL_value_0 rfl (lv_at hl 3 rfl) ?_
  refine ji_iconst hx hb dXL_value_1 ?_
  refine lv_aload_n hx hb dXL_value_2 rfl (lv_at hl 0 rfl) ?_
  refine lv_iload_n hx hb dXL_value_3 rfl (lv_at hl 1 rfl) ?_
  refine lv_iload_n hx hb dXL_value_4 rfl (lv_at hl 2 rfl) ?_
  refine ztRl (A := A) (rest := [.int (jI 0), .ref oa]) ⟨hx, hb, hml, hown, hts⟩ (c_XG_value l hst dC dI cA ga ta rda pa sa ea ba da bt bp bl bh bq br bd bg bf fd fs z1 z2 hbd hbf hfs0 hi_z1 hi_z2) (cwV 2 hts (jG_V tw_514 tw_515 tw_516 tw_1 tw_517) rfl rfl rfl (by decide +kernel) (by rw [hR]; exact ⟨Nat.le_of_ble_eq_true rfl, Nat.le_of_ble_eq_true rfl⟩)) (va_K.sub hK [0] rfl) hP hN hX [0, 1, 2, 3] rfl 0 4 rfl rfl rfl rfl hl.1 rfl (Nat.le_of_ble_eq_true rfl) dXL_value_5 (by rw [hR]; exact ⟨Nat.le_of_ble_eq_true rfl, Nat.le_of_ble_eq_true rfl⟩) (fun hz => ?_) (fun hz x ce H1 L hP hS hce hcl hvm => ?_)
  · refine ji_last hx hb hK hP hD hS 4 1 rfl rfl ⟨by decide, by decide⟩ (by decide) dXL_value_8 (fun H locs hP hD hS => ?_)
    have hP : va_P (dC, dI) vwCl [(ga, .inr (4, [.ref ta, .ref rda, .ref pa, .ref sa, .ref ea, .ref ba, .ref da])), (ba, .inr (0, [.ref bt, .ref bp, .ref bl, .ref bh, .ref bq, .ref br, .ref bd, .int (jI bg), .int (jI bf)])), (bd, .inl (cA, 32, .inl (jA fd))), (sa, .inl (cA, 8, .inl (jA fs))), (oa, .inl (cL, 1, .inr (.inl (jAL (jset fo 0 ((f_XG_value bg bf fd fs z1 z2).2))))))] H := hP
    have hD : va_D A [(ga, .inr (4, [.ref ta, .ref rda, .ref pa, .ref sa, .ref ea, .ref ba, .ref da])), (ba, .inr (0, [.ref bt, .ref bp, .ref bl, .ref bh, .ref bq, .ref br, .ref bd, .int (jI bg), .int (jI bf)])), (bd, .inl (cA, 32, .inl (jA fd))), (sa, .inl (cA, 8, .inl (jA fs))), (oa, .inl (cL, 1, .inr (.inl (jAL (jset fo 0 ((f_XG_value bg bf fd fs z1 z2).2))))))] := hD
    refine lv_goto (tgt := 20) hx hb dXL_value_9 (by decide) ?_
    refine ji_iconst hx hb dXL_value_20 ?_
    refine W.widen (k := 1) (n := 6) (Nat.le_of_ble_eq_true rfl) (Nat.le_of_ble_eq_true rfl) ?_
    have hP9 := hP.sub (ws' := [(ga, .inr (4, [.ref ta, .ref rda, .ref pa, .ref sa, .ref ea, .ref ba, .ref da])), (ba, .inr (0, [.ref bt, .ref bp, .ref bl, .ref bh, .ref bq, .ref br, .ref bd, .int (jI bg), .int (jI bf)])), (bd, .inl (cA, 32, .inl (jA fd))), (sa, .inl (cA, 8, .inl (jA fs))), (oa, .inl (cL, 1, .inr (.inl (jAL (jset fo 0 ((f_XG_value bg bf fd fs z1 z2).2))))))]) [0, 1, 2, 3, 4] rfl
    have hD9 := hD.sub (ws' := [(ga, .inr (4, [.ref ta, .ref rda, .ref pa, .ref sa, .ref ea, .ref ba, .ref da])), (ba, .inr (0, [.ref bt, .ref bp, .ref bl, .ref bh, .ref bq, .ref br, .ref bd, .int (jI bg), .int (jI bf)])), (bd, .inl (cA, 32, .inl (jA fd))), (sa, .inl (cA, 8, .inl (jA fs))), (oa, .inl (cL, 1, .inr (.inl (jAL (jset fo 0 ((f_XG_value bg bf fd fs z1 z2).2))))))]) [0, 1, 2, 3, 4] (by decide) rfl
    subst hAe
    subst hQ
    refine yW (fun _ h => yQ_of h) ?_
    exact W.iret (v := jI 0) hx hb hr (fun t ht hW => ⟨⟨_, (0, jset fo 0 ((f_XG_value bg bf fd fs z1 z2).2)), rfl, ⟨rfl, by rw [f_XL_value_s, if_pos hz]⟩, ⟨by rw [ht]; exact hP9, va_K.moved hW.alike hK, hD9⟩⟩, hS.F ht⟩) hS.2.2 dXL_value_21
  · rcases f_XG_value_e bg bf fd fs z1 z2 with h9 | h9 | h9
    · exact absurd h9 hz
    · rw [h9, xCls_1] at hcl
      refine zOn1 htab hown ⟨by decide, by decide⟩ (by decide) (hts _ (jmem tw_407)) hX.c1 hce hcl hvm ?_
      refine lv_astore (lv' := [(4, .ref x), (0, .ref ga), (1, .int (jI z1)), (2, .int (jI z2)), (3, .ref oa)]) hx hb dXL_value_12 hl (by decide) rfl (fun ls hl => ?_)
      refine ji_iconst hx hb dXL_value_14 ?_
      refine W.widen (k := 1) (n := 6) (Nat.le_of_ble_eq_true rfl) (Nat.le_of_ble_eq_true rfl) ?_
      have hP9 := hP.sub (ws' := [(ga, .inr (4, [.ref ta, .ref rda, .ref pa, .ref sa, .ref ea, .ref ba, .ref da])), (ba, .inr (0, [.ref bt, .ref bp, .ref bl, .ref bh, .ref bq, .ref br, .ref bd, .int (jI bg), .int (jI bf)])), (bd, .inl (cA, 32, .inl (jA fd))), (sa, .inl (cA, 8, .inl (jA fs))), (oa, .inl (cL, 1, .inr (.inl (jAL fo))))]) [0, 1, 2, 3, 4] rfl
      have hD9 := hD.sub (ws' := [(ga, .inr (4, [.ref ta, .ref rda, .ref pa, .ref sa, .ref ea, .ref ba, .ref da])), (ba, .inr (0, [.ref bt, .ref bp, .ref bl, .ref bh, .ref bq, .ref br, .ref bd, .int (jI bg), .int (jI bf)])), (bd, .inl (cA, 32, .inl (jA fd))), (sa, .inl (cA, 8, .inl (jA fs))), (oa, .inl (cL, 1, .inr (.inl (jAL fo))))]) [0, 1, 2, 3, 4] (by decide) rfl
      subst hAe
      subst hQ
      refine yW (fun _ h => yQ_of h) ?_
      exact W.iret (v := jI 1) hx hb hr (fun t ht hW => ⟨⟨_, (1, fo), rfl, ⟨rfl, by rw [f_XL_value_s, if_neg hz, if_pos h9]⟩, ⟨by rw [ht]; exact hP9, va_K.moved hW.alike hK, hD9⟩⟩, hS.F ht⟩) hS.2.2 dXL_value_15
    · rw [h9, xCls_2] at hcl
      refine zOn2 htab hown ⟨by decide, by decide⟩ (by decide) ⟨by decide, by decide⟩ (by decide) (hts _ (jmem tw_407)) hC.2.1 (hts _ (jmem tw_458)) hX.c2 hce hcl hvm ?_
      refine lv_astore (lv' := [(4, .ref x), (0, .ref ga), (1, .int (jI z1)), (2, .int (jI z2)), (3, .ref oa)]) hx hb dXL_value_16 hl (by decide) rfl (fun ls hl => ?_)
      refine ji_iconst hx hb dXL_value_18 ?_
      refine W.widen (k := 1) (n := 6) (Nat.le_of_ble_eq_true rfl) (Nat.le_of_ble_eq_true rfl) ?_
      have hP9 := hP.sub (ws' := [(ga, .inr (4, [.ref ta, .ref rda, .ref pa, .ref sa, .ref ea, .ref ba, .ref da])), (ba, .inr (0, [.ref bt, .ref bp, .ref bl, .ref bh, .ref bq, .ref br, .ref bd, .int (jI bg), .int (jI bf)])), (bd, .inl (cA, 32, .inl (jA fd))), (sa, .inl (cA, 8, .inl (jA fs))), (oa, .inl (cL, 1, .inr (.inl (jAL fo))))]) [0, 1, 2, 3, 4] rfl
      have hD9 := hD.sub (ws' := [(ga, .inr (4, [.ref ta, .ref rda, .ref pa, .ref sa, .ref ea, .ref ba, .ref da])), (ba, .inr (0, [.ref bt, .ref bp, .ref bl, .ref bh, .ref bq, .ref br, .ref bd, .int (jI bg), .int (jI bf)])), (bd, .inl (cA, 32, .inl (jA fd))), (sa, .inl (cA, 8, .inl (jA fs))), (oa, .inl (cL, 1, .inr (.inl (jAL fo))))]) [0, 1, 2, 3, 4] (by decide) rfl
      subst hAe
      subst hQ
      refine yW (fun _ h => yQ_of h) ?_
      exact W.iret (v := jI 2) hx hb hr (fun t ht hW => ⟨⟨_, (2, fo), rfl, ⟨rfl, by rw [f_XL_value_s, if_neg hz, if_neg (by rw [h9]; decide)]⟩, ⟨by rw [ht]; exact hP9, va_K.moved hW.alike hK, hD9⟩⟩, hS.F ht⟩) hS.2.2 dXL_value_19
noncomputable def g_XL_fits (bg : Int) (bf : Int) (fp : Int → Int) (fl : Int → Int) (fh : Int → Int) (fq : Int → Int) (fd : Int → Int) (fs : Int → Int) (z1 : Int) (fo : Int → Int) : Int × (Int → Int) :=
  if (f_XG_fits bg bf fp fl fh fq fd fs z1).1 = 0 then
    (0, jset fo 0 (jw ((f_XG_fits bg bf fp fl fh fq fd fs z1).2)))
  else
    (1, fo)
noncomputable def f_XL_fits : Int → Int → (Int → Int) → (Int → Int) → (Int → Int) → (Int → Int) → (Int → Int) → (Int → Int) → Int → (Int → Int) → Int × (Int → Int) := jopq g_XL_fits
theorem f_XL_fits_q : f_XL_fits = g_XL_fits := jopq_eq _
theorem f_XL_fits_s (bg : Int) (bf : Int) (fp : Int → Int) (fl : Int → Int) (fh : Int → Int) (fq : Int → Int) (fd : Int → Int) (fs : Int → Int) (z1 : Int) (fo : Int → Int) : f_XL_fits bg bf fp fl fh fq fd fs z1 fo = (
    if (f_XG_fits bg bf fp fl fh fq fd fs z1).1 = 0 then
      (0, jset fo 0 (jw ((f_XG_fits bg bf fp fl fh fq fd fs z1).2)))
    else
      (1, fo)
  : Int × (Int → Int)) := by rw [f_XL_fits_q]; rfl
set_option maxHeartbeats 4000000 in
set_option maxRecDepth 100000 in
theorem c_XL_fits (l : Launch) (hst : l.stackTraces = false) (dC : Nat → ClassId) (dI : Nat → Nat → Nat) (cA cL : ClassId) (sz : Nat) (ga : Nat) (ta : Nat) (rda : Nat) (pa : Nat) (sa : Nat) (ea : Nat) (ba : Nat) (da : Nat) (bt : Nat) (bp : Nat) (bl : Nat) (bh : Nat) (bq : Nat) (br : Nat) (bd : Nat) (bg : Int) (bf : Int) (fp : Int → Int) (fl : Int → Int) (fh : Int → Int) (fq : Int → Int) (fd : Int → Int) (fs : Int → Int) (z1 : Int) (oa : Nat) (fo : Int → Int) (hbp : ∀ i, 0 ≤ fp i ∧ fp i ≤ 30) (hbl : ∀ i, 0 ≤ fl i ∧ fl i ≤ 100000) (hbh : ∀ i, -1 ≤ fh i ∧ fh i ≤ 100000) (hbq : ∀ i, -1 ≤ fq i ∧ fq i ≤ 999999) (hbd : ∀ i, 0 ≤ fd i ∧ fd i ≤ 20) (hbg : 0 ≤ bg ∧ bg < 2147483648) (hbf : 0 ≤ bf ∧ bf < 2147483648) (hfs0 : ∀ i, -1 ≤ fs i ∧ fs i ≤ 100000) (hi_z1 : i32 z1) : YMet l yXL_fits (Cond.codeWith yXL_fits cXL_fits 4 (some .int) [(0, 9, 12, 21)] :: TBL) ({ frames := 8, cells := 1, slots := 6, locals := 126 } : Room) (va_Pc [.ref ga, .int (jI z1), .ref oa] (jBc (dC, dI) [(cA, .int), (cL, .long)] [(ga, .inr (4, [.ref ta, .ref rda, .ref pa, .ref sa, .ref ea, .ref ba, .ref da])), (ba, .inr (0, [.ref bt, .ref bp, .ref bl, .ref bh, .ref bq, .ref br, .ref bd, .int (jI bg), .int (jI bf)])), (bp, .inl (cA, 31, .inl (jA fp))), (bl, .inl (cA, 248, .inl (jA fl))), (bh, .inl (cA, 248, .inl (jA fh))), (bq, .inl (cA, 124, .inl (jA fq))), (bd, .inl (cA, 32, .inl (jA fd))), (sa, .inl (cA, 8, .inl (jA fs))), (oa, .inl (cL, 1, .inr (.inl (jAL fo))))] sz)) (va_Qi (fun (r : Int32) (u : Int × (Int → Int)) => r = jI u.1 ∧ u = f_XL_fits bg bf fp fl fh fq fd fs z1 fo) (fun u t => jE (dC, dI) [(cA, .int), (cL, .long)] [(ga, .inr (4, [.ref ta, .ref rda, .ref pa, .ref sa, .ref ea, .ref ba, .ref da])), (ba, .inr (0, [.ref bt, .ref bp, .ref bl, .ref bh, .ref bq, .ref br, .ref bd, .int (jI bg), .int (jI bf)])), (bp, .inl (cA, 31, .inl (jA fp))), (bl, .inl (cA, 248, .inl (jA fl))), (bh, .inl (cA, 248, .inl (jA fh))), (bq, .inl (cA, 124, .inl (jA fq))), (bd, .inl (cA, 32, .inl (jA fd))), (sa, .inl (cA, 8, .inl (jA fs))), (oa, .inl (cL, 1, .inr (.inl (jAL fo))))] sz [(ga, .inr (4, [.ref ta, .ref rda, .ref pa, .ref sa, .ref ea, .ref ba, .ref da])), (ba, .inr (0, [.ref bt, .ref bp, .ref bl, .ref bh, .ref bq, .ref br, .ref bd, .int (jI bg), .int (jI bf)])), (bp, .inl (cA, 31, .inl (jA fp))), (bl, .inl (cA, 248, .inl (jA fl))), (bh, .inl (cA, 248, .inl (jA fh))), (bq, .inl (cA, 124, .inl (jA fq))), (bd, .inl (cA, 32, .inl (jA fd))), (sa, .inl (cA, 8, .inl (jA fs))), (oa, .inl (cL, 1, .inr (.inl (jAL u.2))))] t) (va_A [(ga, .inr (4, [.ref ta, .ref rda, .ref pa, .ref sa, .ref ea, .ref ba, .ref da])), (ba, .inr (0, [.ref bt, .ref bp, .ref bl, .ref bh, .ref bq, .ref br, .ref bd, .int (jI bg), .int (jI bf)])), (bp, .inl (cA, 31, .inl (jA fp))), (bl, .inl (cA, 248, .inl (jA fl))), (bh, .inl (cA, 248, .inl (jA fh))), (bq, .inl (cA, 124, .inl (jA fq))), (bd, .inl (cA, 32, .inl (jA fd))), (sa, .inl (cA, 8, .inl (jA fs))), (oa, .inl (cL, 1, .inr (.inl (jAL fo))))] sz)) 1 6 1 6 (va_A [(ga, .inr (4, [.ref ta, .ref rda, .ref pa, .ref sa, .ref ea, .ref ba, .ref da])), (ba, .inr (0, [.ref bt, .ref bp, .ref bl, .ref bh, .ref bq, .ref br, .ref bd, .int (jI bg), .int (jI bf)])), (bp, .inl (cA, 31, .inl (jA fp))), (bl, .inl (cA, 248, .inl (jA fl))), (bh, .inl (cA, 248, .inl (jA fh))), (bq, .inl (cA, 124, .inl (jA fq))), (bd, .inl (cA, 32, .inl (jA fd))), (sa, .inl (cA, 8, .inl (jA fs))), (oa, .inl (cL, 1, .inr (.inl (jAL fo))))] sz) := by
  refine YMet.ofWH (cc := cXL_fits) (maxL := 4) (ret := some .int) (hh := [(0, 9, 12, 21)]) (by decide) rfl ?_
  intro p e s m args below meth c s₁ R Q hR hQ B hml htab hv
  obtain ⟨rfl, ⟨hsz, hP, hK, hD0, hN⟩, hX, hC⟩ := hv
  have hx := B.exec
  have hb := B.bytes
  have hr := B.returns
  have hts := atoms_spec (ws := Cond.codeWith yXL_fits cXL_fits 4 (some .int) [(0, 9, 12, 21)] :: TBL) B.pre
  have hown : s.vm.findClass RXL = some m.cls := findClass_of_methodNamed B.named
  have hlocks := B.notSynchronized
  subst hsz
  obtain ⟨A, hAe⟩ : ∃ A, A = va_A [(ga, .inr (4, [.ref ta, .ref rda, .ref pa, .ref sa, .ref ea, .ref ba, .ref da])), (ba, .inr (0, [.ref bt, .ref bp, .ref bl, .ref bh, .ref bq, .ref br, .ref bd, .int (jI bg), .int (jI bf)])), (bp, .inl (cA, 31, .inl (jA fp))), (bl, .inl (cA, 248, .inl (jA fl))), (bh, .inl (cA, 248, .inl (jA fh))), (bq, .inl (cA, 124, .inl (jA fq))), (bd, .inl (cA, 32, .inl (jA fd))), (sa, .inl (cA, 8, .inl (jA fs))), (oa, .inl (cL, 1, .inr (.inl (jAL fo))))] s.heap.size := ⟨_, rfl⟩
  have hD : va_D A [(ga, .inr (4, [.ref ta, .ref rda, .ref pa, .ref sa, .ref ea, .ref ba, .ref da])), (ba, .inr (0, [.ref bt, .ref bp, .ref bl, .ref bh, .ref bq, .ref br, .ref bd, .int (jI bg), .int (jI bf)])), (bp, .inl (cA, 31, .inl (jA fp))), (bl, .inl (cA, 248, .inl (jA fl))), (bh, .inl (cA, 248, .inl (jA fh))), (bq, .inl (cA, 124, .inl (jA fq))), (bd, .inl (cA, 32, .inl (jA fd))), (sa, .inl (cA, 8, .inl (jA fs))), (oa, .inl (cL, 1, .inr (.inl (jAL fo))))] := by rw [hAe]; exact hD0.self
  have hA : ∀ q : Nat, s.heap.size ≤ q → A q := fun q h => by rw [hAe]; exact Or.inr h
  have hS : va_S A s.heap s.heap [] := va_S.rf
  have hP : va_P (dC, dI) vwCl [(ga, .inr (4, [.ref ta, .ref rda, .ref pa, .ref sa, .ref ea, .ref ba, .ref da])), (ba, .inr (0, [.ref bt, .ref bp, .ref bl, .ref bh, .ref bq, .ref br, .ref bd, .int (jI bg), .int (jI bf)])), (bp, .inl (cA, 31, .inl (jA fp))), (bl, .inl (cA, 248, .inl (jA fl))), (bh, .inl (cA, 248, .inl (jA fh))), (bq, .inl (cA, 124, .inl (jA fq))), (bd, .inl (cA, 32, .inl (jA fd))), (sa, .inl (cA, 8, .inl (jA fs))), (oa, .inl (cL, 1, .inr (.inl (jAL fo))))] s.heap := hP
  have hl := lv_entry ([.ref ga, .int (jI z1), .ref oa]) (n := 4) (Nat.le_of_ble_eq_true rfl)
  rw [lg_entry_eq]
  generalize (lg_sl ([.ref ga, .int (jI z1), .ref oa]) ++ List.replicate (4 - (lg_sl ([.ref ga, .int (jI z1), .ref oa])).length) Slot.unset).toArray = ls at hl ⊢
  have hl : lv_has ls 4 [(0, .ref ga), (1, .int (jI z1)), (2, .ref oa)] := hl
  refine lv_aload_n hx hb dXL_fits_0 rfl (lv_at hl 2 rfl) ?_
  refine ji_iconst hx hb dXL_fits_1 ?_
  refine lv_aload_n hx hb dXL_fits_2 rfl (lv_at hl 0 rfl) ?_
  refine lv_iload_n hx hb dXL_fits_3 rfl (lv_at hl 1 rfl) ?_
  refine ztRi (A := A) (rest := [.int (jI 0), .ref oa]) ⟨hx, hb, hml, hown, hts⟩ (c_XG_fits l hst dC dI cA ga ta rda pa sa ea ba da bt bp bl bh bq br bd bg bf fp fl fh fq fd fs z1 hbp hbl hbh hbq hbd hbg hbf hfs0 hi_z1) (cwV 1 hts (jG_V tw_521 tw_522 tw_523 tw_1 tw_524) rfl rfl rfl (by decide +kernel) (by rw [hR]; exact ⟨Nat.le_of_ble_eq_true rfl, Nat.le_of_ble_eq_true rfl⟩)) (va_K.sub hK [0] rfl) hP hN hX [0, 1, 2, 3, 4, 5, 6, 7] rfl 0 4 rfl rfl rfl rfl hl.1 rfl (Nat.le_of_ble_eq_true rfl) dXL_fits_4 (by rw [hR]; exact ⟨Nat.le_of_ble_eq_true rfl, Nat.le_of_ble_eq_true rfl⟩) (fun hz => ?_) (fun hz x ce H1 L hP hS hce hcl hvm => ?_)
  · refine ji_re (y := jw ((f_XG_fits bg bf fp fl fh fq fd fs z1).2)) (jI_jw _).symm ?_
    refine ji_i2l hx hb dXL_fits_7 (jw_i _) ?_
    refine ji_last hx hb hK hP hD hS 8 1 rfl rfl ⟨by decide, by decide⟩ (by decide) dXL_fits_8 (fun H locs hP hD hS => ?_)
    have hP : va_P (dC, dI) vwCl [(ga, .inr (4, [.ref ta, .ref rda, .ref pa, .ref sa, .ref ea, .ref ba, .ref da])), (ba, .inr (0, [.ref bt, .ref bp, .ref bl, .ref bh, .ref bq, .ref br, .ref bd, .int (jI bg), .int (jI bf)])), (bp, .inl (cA, 31, .inl (jA fp))), (bl, .inl (cA, 248, .inl (jA fl))), (bh, .inl (cA, 248, .inl (jA fh))), (bq, .inl (cA, 124, .inl (jA fq))), (bd, .inl (cA, 32, .inl (jA fd))), (sa, .inl (cA, 8, .inl (jA fs))), (oa, .inl (cL, 1, .inr (.inl (jAL (jset fo 0 (jw ((f_XG_fits bg bf fp fl fh fq fd fs z1).2)))))))] H := hP
    have hD : va_D A [(ga, .inr (4, [.ref ta, .ref rda, .ref pa, .ref sa, .ref ea, .ref ba, .ref da])), (ba, .inr (0, [.ref bt, .ref bp, .ref bl, .ref bh, .ref bq, .ref br, .ref bd, .int (jI bg), .int (jI bf)])), (bp, .inl (cA, 31, .inl (jA fp))), (bl, .inl (cA, 248, .inl (jA fl))), (bh, .inl (cA, 248, .inl (jA fh))), (bq, .inl (cA, 124, .inl (jA fq))), (bd, .inl (cA, 32, .inl (jA fd))), (sa, .inl (cA, 8, .inl (jA fs))), (oa, .inl (cL, 1, .inr (.inl (jAL (jset fo 0 (jw ((f_XG_fits bg bf fp fl fh fq fd fs z1).2)))))))] := hD
    refine lv_goto (tgt := 15) hx hb dXL_fits_9 (by decide) ?_
    refine ji_iconst hx hb dXL_fits_15 ?_
    refine W.widen (k := 1) (n := 6) (Nat.le_of_ble_eq_true rfl) (Nat.le_of_ble_eq_true rfl) ?_
    have hP9 := hP.sub (ws' := [(ga, .inr (4, [.ref ta, .ref rda, .ref pa, .ref sa, .ref ea, .ref ba, .ref da])), (ba, .inr (0, [.ref bt, .ref bp, .ref bl, .ref bh, .ref bq, .ref br, .ref bd, .int (jI bg), .int (jI bf)])), (bp, .inl (cA, 31, .inl (jA fp))), (bl, .inl (cA, 248, .inl (jA fl))), (bh, .inl (cA, 248, .inl (jA fh))), (bq, .inl (cA, 124, .inl (jA fq))), (bd, .inl (cA, 32, .inl (jA fd))), (sa, .inl (cA, 8, .inl (jA fs))), (oa, .inl (cL, 1, .inr (.inl (jAL (jset fo 0 (jw ((f_XG_fits bg bf fp fl fh fq fd fs z1).2)))))))]) [0, 1, 2, 3, 4, 5, 6, 7, 8] rfl
    have hD9 := hD.sub (ws' := [(ga, .inr (4, [.ref ta, .ref rda, .ref pa, .ref sa, .ref ea, .ref ba, .ref da])), (ba, .inr (0, [.ref bt, .ref bp, .ref bl, .ref bh, .ref bq, .ref br, .ref bd, .int (jI bg), .int (jI bf)])), (bp, .inl (cA, 31, .inl (jA fp))), (bl, .inl (cA, 248, .inl (jA fl))), (bh, .inl (cA, 248, .inl (jA fh))), (bq, .inl (cA, 124, .inl (jA fq))), (bd, .inl (cA, 32, .inl (jA fd))), (sa, .inl (cA, 8, .inl (jA fs))), (oa, .inl (cL, 1, .inr (.inl (jAL (jset fo 0 (jw ((f_XG_fits bg bf fp fl fh fq fd fs z1).2)))))))]) [0, 1, 2, 3, 4, 5, 6, 7, 8] (by decide) rfl
    subst hAe
    subst hQ
    refine yW (fun _ h => yQ_of h) ?_
    exact W.iret (v := jI 0) hx hb hr (fun t ht hW => ⟨⟨_, (0, jset fo 0 (jw ((f_XG_fits bg bf fp fl fh fq fd fs z1).2))), rfl, ⟨rfl, by rw [f_XL_fits_s, if_pos hz]⟩, ⟨by rw [ht]; exact hP9, va_K.moved hW.alike hK, hD9⟩⟩, hS.F ht⟩) hS.2.2 dXL_fits_16
  · rcases f_XG_fits_e bg bf fp fl fh fq fd fs z1 with h9 | h9
    · exact absurd h9 hz
    · rw [h9, xCls_1] at hcl
      refine zOn1 htab hown ⟨by decide, by decide⟩ (by decide) (hts _ (jmem tw_407)) hX.c1 hce hcl hvm ?_
      refine lv_astore_n (lv' := [(3, .ref x), (0, .ref ga), (1, .int (jI z1)), (2, .ref oa)]) hx hb dXL_fits_12 rfl hl (by decide) rfl (fun ls hl => ?_)
      refine ji_iconst hx hb dXL_fits_13 ?_
      refine W.widen (k := 1) (n := 6) (Nat.le_of_ble_eq_true rfl) (Nat.le_of_ble_eq_true rfl) ?_
      have hP9 := hP.sub (ws' := [(ga, .inr (4, [.ref ta, .ref rda, .ref pa, .ref sa, .ref ea, .ref ba, .ref da])), (ba, .inr (0, [.ref bt, .ref bp, .ref bl, .ref bh, .ref bq, .ref br, .ref bd, .int (jI bg), .int (jI bf)])), (bp, .inl (cA, 31, .inl (jA fp))), (bl, .inl (cA, 248, .inl (jA fl))), (bh, .inl (cA, 248, .inl (jA fh))), (bq, .inl (cA, 124, .inl (jA fq))), (bd, .inl (cA, 32, .inl (jA fd))), (sa, .inl (cA, 8, .inl (jA fs))), (oa, .inl (cL, 1, .inr (.inl (jAL fo))))]) [0, 1, 2, 3, 4, 5, 6, 7, 8] rfl
      have hD9 := hD.sub (ws' := [(ga, .inr (4, [.ref ta, .ref rda, .ref pa, .ref sa, .ref ea, .ref ba, .ref da])), (ba, .inr (0, [.ref bt, .ref bp, .ref bl, .ref bh, .ref bq, .ref br, .ref bd, .int (jI bg), .int (jI bf)])), (bp, .inl (cA, 31, .inl (jA fp))), (bl, .inl (cA, 248, .inl (jA fl))), (bh, .inl (cA, 248, .inl (jA fh))), (bq, .inl (cA, 124, .inl (jA fq))), (bd, .inl (cA, 32, .inl (jA fd))), (sa, .inl (cA, 8, .inl (jA fs))), (oa, .inl (cL, 1, .inr (.inl (jAL fo))))]) [0, 1, 2, 3, 4, 5, 6, 7, 8] (by decide) rfl
      subst hAe
      subst hQ
      refine yW (fun _ h => yQ_of h) ?_
      exact W.iret (v := jI 1) hx hb hr (fun t ht hW => ⟨⟨_, (1, fo), rfl, ⟨rfl, by rw [f_XL_fits_s, if_neg hz]⟩, ⟨by rw [ht]; exact hP9, va_K.moved hW.alike hK, hD9⟩⟩, hS.F ht⟩) hS.2.2 dXL_fits_14

end
section
noncomputable def g_XL_holds (bg : Int) (bf : Int) (fp : Int → Int) (fl : Int → Int) (fh : Int → Int) (fq : Int → Int) (fd : Int → Int) (fe : Int → Int) (z1 : Int) (z2 : Int) (fo : Int → Int) : Int × (Int → Int) × (Int → Int) :=
  if (f_XG_holds bg bf fp fl fh fq fd fe z1 z2).1 = 0 then
    if jw ((f_XG_holds bg bf fp fl fh fq fd fe z1 z2).2.1) = 0 then (0, jset fo 0 0, (f_XG_holds bg bf fp fl fh fq fd fe z1 z2).2.2) else (0, jset fo 0 1, (f_XG_holds bg bf fp fl fh fq fd fe z1 z2).2.2)
  else
    (1, fo, fe)
noncomputable def f_XL_holds : Int → Int → (Int → Int) → (Int → Int) → (Int → Int) → (Int → Int) → (Int → Int) → (Int → Int) → Int → Int → (Int → Int) → Int × (Int → Int) × (Int → Int) := jopq g_XL_holds
theorem f_XL_holds_q : f_XL_holds = g_XL_holds := jopq_eq _
theorem f_XL_holds_s (bg : Int) (bf : Int) (fp : Int → Int) (fl : Int → Int) (fh : Int → Int) (fq : Int → Int) (fd : Int → Int) (fe : Int → Int) (z1 : Int) (z2 : Int) (fo : Int → Int) : f_XL_holds bg bf fp fl fh fq fd fe z1 z2 fo = (
    if (f_XG_holds bg bf fp fl fh fq fd fe z1 z2).1 = 0 then
      if jw ((f_XG_holds bg bf fp fl fh fq fd fe z1 z2).2.1) = 0 then (0, jset fo 0 0, (f_XG_holds bg bf fp fl fh fq fd fe z1 z2).2.2) else (0, jset fo 0 1, (f_XG_holds bg bf fp fl fh fq fd fe z1 z2).2.2)
    else
      (1, fo, fe)
  : Int × (Int → Int) × (Int → Int)) := by rw [f_XL_holds_q]; rfl
set_option maxHeartbeats 4000000 in
set_option maxRecDepth 100000 in
theorem c_XL_holds (l : Launch) (hst : l.stackTraces = false) (dC : Nat → ClassId) (dI : Nat → Nat → Nat) (cA cL : ClassId) (sz : Nat) (ga : Nat) (ta : Nat) (rda : Nat) (pa : Nat) (sa : Nat) (ea : Nat) (ba : Nat) (da : Nat) (bt : Nat) (bp : Nat) (bl : Nat) (bh : Nat) (bq : Nat) (br : Nat) (bd : Nat) (bg : Int) (bf : Int) (fp : Int → Int) (fl : Int → Int) (fh : Int → Int) (fq : Int → Int) (fd : Int → Int) (fe : Int → Int) (z1 : Int) (z2 : Int) (oa : Nat) (fo : Int → Int) (hbp : ∀ i, 0 ≤ fp i ∧ fp i ≤ 30) (hbl : ∀ i, 0 ≤ fl i ∧ fl i ≤ 100000) (hbh : ∀ i, -1 ≤ fh i ∧ fh i ≤ 100000) (hbq : ∀ i, -1 ≤ fq i ∧ fq i ≤ 999999) (hbd : ∀ i, 0 ≤ fd i ∧ fd i ≤ 20) (hbg : 0 ≤ bg ∧ bg < 2147483648) (hbf : 0 ≤ bf ∧ bf < 2147483648) (hfe0 : ∀ i, -1 ≤ fe i ∧ fe i ≤ 100000) (hi_z1 : i32 z1) (hi_z2 : i32 z2) : YMet l yXL_holds (Cond.codeWith yXL_holds cXL_holds 5 (some .int) [(0, 17, 20, 21)] :: TBL) ({ frames := 8, cells := 1, slots := 6, locals := 126 } : Room) (va_Pc [.ref ga, .int (jI z1), .int (jI z2), .ref oa] (jBc (dC, dI) [(cA, .int), (cL, .long)] [(ga, .inr (4, [.ref ta, .ref rda, .ref pa, .ref sa, .ref ea, .ref ba, .ref da])), (ba, .inr (0, [.ref bt, .ref bp, .ref bl, .ref bh, .ref bq, .ref br, .ref bd, .int (jI bg), .int (jI bf)])), (bp, .inl (cA, 31, .inl (jA fp))), (bl, .inl (cA, 248, .inl (jA fl))), (bh, .inl (cA, 248, .inl (jA fh))), (bq, .inl (cA, 124, .inl (jA fq))), (bd, .inl (cA, 32, .inl (jA fd))), (ea, .inl (cA, 8, .inl (jA fe))), (oa, .inl (cL, 1, .inr (.inl (jAL fo))))] sz)) (va_Qi (fun (r : Int32) (u : Int × (Int → Int) × (Int → Int)) => r = jI u.1 ∧ u = f_XL_holds bg bf fp fl fh fq fd fe z1 z2 fo ∧ (∀ i, -1 ≤ u.2.2 i ∧ u.2.2 i ≤ 100000)) (fun u t => jE (dC, dI) [(cA, .int), (cL, .long)] [(ga, .inr (4, [.ref ta, .ref rda, .ref pa, .ref sa, .ref ea, .ref ba, .ref da])), (ba, .inr (0, [.ref bt, .ref bp, .ref bl, .ref bh, .ref bq, .ref br, .ref bd, .int (jI bg), .int (jI bf)])), (bp, .inl (cA, 31, .inl (jA fp))), (bl, .inl (cA, 248, .inl (jA fl))), (bh, .inl (cA, 248, .inl (jA fh))), (bq, .inl (cA, 124, .inl (jA fq))), (bd, .inl (cA, 32, .inl (jA fd))), (ea, .inl (cA, 8, .inl (jA fe))), (oa, .inl (cL, 1, .inr (.inl (jAL fo))))] sz [(ga, .inr (4, [.ref ta, .ref rda, .ref pa, .ref sa, .ref ea, .ref ba, .ref da])), (ba, .inr (0, [.ref bt, .ref bp, .ref bl, .ref bh, .ref bq, .ref br, .ref bd, .int (jI bg), .int (jI bf)])), (bp, .inl (cA, 31, .inl (jA fp))), (bl, .inl (cA, 248, .inl (jA fl))), (bh, .inl (cA, 248, .inl (jA fh))), (bq, .inl (cA, 124, .inl (jA fq))), (bd, .inl (cA, 32, .inl (jA fd))), (ea, .inl (cA, 8, .inl (jA u.2.2))), (oa, .inl (cL, 1, .inr (.inl (jAL u.2.1))))] t) (va_A [(ga, .inr (4, [.ref ta, .ref rda, .ref pa, .ref sa, .ref ea, .ref ba, .ref da])), (ba, .inr (0, [.ref bt, .ref bp, .ref bl, .ref bh, .ref bq, .ref br, .ref bd, .int (jI bg), .int (jI bf)])), (bp, .inl (cA, 31, .inl (jA fp))), (bl, .inl (cA, 248, .inl (jA fl))), (bh, .inl (cA, 248, .inl (jA fh))), (bq, .inl (cA, 124, .inl (jA fq))), (bd, .inl (cA, 32, .inl (jA fd))), (ea, .inl (cA, 8, .inl (jA fe))), (oa, .inl (cL, 1, .inr (.inl (jAL fo))))] sz)) 1 6 1 6 (va_A [(ga, .inr (4, [.ref ta, .ref rda, .ref pa, .ref sa, .ref ea, .ref ba, .ref da])), (ba, .inr (0, [.ref bt, .ref bp, .ref bl, .ref bh, .ref bq, .ref br, .ref bd, .int (jI bg), .int (jI bf)])), (bp, .inl (cA, 31, .inl (jA fp))), (bl, .inl (cA, 248, .inl (jA fl))), (bh, .inl (cA, 248, .inl (jA fh))), (bq, .inl (cA, 124, .inl (jA fq))), (bd, .inl (cA, 32, .inl (jA fd))), (ea, .inl (cA, 8, .inl (jA fe))), (oa, .inl (cL, 1, .inr (.inl (jAL fo))))] sz) := by
  refine YMet.ofWH (cc := cXL_holds) (maxL := 5) (ret := some .int) (hh := [(0, 17, 20, 21)]) (by decide) rfl ?_
  intro p e s m args below meth c s₁ R Q hR hQ B hml htab hv
  obtain ⟨rfl, ⟨hsz, hP, hK, hD0, hN⟩, hX, hC⟩ := hv
  have hx := B.exec
  have hb := B.bytes
  have hr := B.returns
  have hts := atoms_spec (ws := Cond.codeWith yXL_holds cXL_holds 5 (some .int) [(0, 17, 20, 21)] :: TBL) B.pre
  have hown : s.vm.findClass RXL = some m.cls := findClass_of_methodNamed B.named
  have hlocks := B.notSynchronized
  subst hsz
  obtain ⟨A, hAe⟩ : ∃ A, A = va_A [(ga, .inr (4, [.ref ta, .ref rda, .ref pa, .ref sa, .ref ea, .ref ba, .ref da])), (ba, .inr (0, [.ref bt, .ref bp, .ref bl, .ref bh, .ref bq, .ref br, .ref bd, .int (jI bg), .int (jI bf)])), (bp, .inl (cA, 31, .inl (jA fp))), (bl, .inl (cA, 248, .inl (jA fl))), (bh, .inl (cA, 248, .inl (jA fh))), (bq, .inl (cA, 124, .inl (jA fq))), (bd, .inl (cA, 32, .inl (jA fd))), (ea, .inl (cA, 8, .inl (jA fe))), (oa, .inl (cL, 1, .inr (.inl (jAL fo))))] s.heap.size := ⟨_, rfl⟩
  have hD : va_D A [(ga, .inr (4, [.ref ta, .ref rda, .ref pa, .ref sa, .ref ea, .ref ba, .ref da])), (ba, .inr (0, [.ref bt, .ref bp, .ref bl, .ref bh, .ref bq, .ref br, .ref bd, .int (jI bg), .int (jI bf)])), (bp, .inl (cA, 31, .inl (jA fp))), (bl, .inl (cA, 248, .inl (jA fl))), (bh, .inl (cA, 248, .inl (jA fh))), (bq, .inl (cA, 124, .inl (jA fq))), (bd, .inl (cA, 32, .inl (jA fd))), (ea, .inl (cA, 8, .inl (jA fe))), (oa, .inl (cL, 1, .inr (.inl (jAL fo))))] := by rw [hAe]; exact hD0.self
  have hA : ∀ q : Nat, s.heap.size ≤ q → A q := fun q h => by rw [hAe]; exact Or.inr h
  have hS : va_S A s.heap s.heap [] := va_S.rf
  have hP : va_P (dC, dI) vwCl [(ga, .inr (4, [.ref ta, .ref rda, .ref pa, .ref sa, .ref ea, .ref ba, .ref da])), (ba, .inr (0, [.ref bt, .ref bp, .ref bl, .ref bh, .ref bq, .ref br, .ref bd, .int (jI bg), .int (jI bf)])), (bp, .inl (cA, 31, .inl (jA fp))), (bl, .inl (cA, 248, .inl (jA fl))), (bh, .inl (cA, 248, .inl (jA fh))), (bq, .inl (cA, 124, .inl (jA fq))), (bd, .inl (cA, 32, .inl (jA fd))), (ea, .inl (cA, 8, .inl (jA fe))), (oa, .inl (cL, 1, .inr (.inl (jAL fo))))] s.heap := hP
  have hl := lv_entry ([.ref ga, .int (jI z1), .int (jI z2), .ref oa]) (n := 5) (Nat.le_of_ble_eq_true rfl)
  rw [lg_entry_eq]
  generalize (lg_sl ([.ref ga, .int (jI z1), .int (jI z2), .ref oa]) ++ List.replicate (5 - (lg_sl ([.ref ga, .int (jI z1), .int (jI z2), .ref oa])).length) Slot.unset).toArray = ls at hl ⊢
  have hl : lv_has ls 5 [(0, .ref ga), (1, .int (jI z1)), (2, .int (jI z2)), (3, .ref oa)] := hl
  refine lv_aload_n hx hb dXL_holds_0 rfl (lv_at hl 3 rfl) ?_
  refine ji_iconst hx hb dXL_holds_1 ?_
  refine lv_aload_n hx hb dXL_holds_2 rfl (lv_at hl 0 rfl) ?_
  refine lv_iload_n hx hb dXL_holds_3 rfl (lv_at hl 1 rfl) ?_
  refine lv_iload_n hx hb dXL_holds_4 rfl (lv_at hl 2 rfl) ?_
  refine ztWi (A := A) (wr := [(oa, .inl (cL, 1, .inr (.inl (jAL fo))))]) (rest := [.int (jI 0), .ref oa]) ⟨hx, hb, hml, hown, hts⟩ (c_XG_holds l hst dC dI cA _ ga ta rda pa sa ea ba da bt bp bl bh bq br bd bg bf fp fl fh fq fd fe z1 z2 hbp hbl hbh hbq hbd hbg hbf hfe0 hi_z1 hi_z2) (cwV 2 hts (jG_V tw_535 tw_536 tw_537 tw_1 tw_538) rfl rfl rfl (by decide +kernel) (by rw [hR]; exact ⟨Nat.le_of_ble_eq_true rfl, Nat.le_of_ble_eq_true rfl⟩)) (va_K.sub hK [0] rfl) hP hD hA hN hX [0, 1, 2, 3, 4, 5, 6, 7] [8] rfl rfl (by decide) (by decide) (by decide) 0 4 rfl rfl rfl rfl hl.1 rfl (Nat.le_of_ble_eq_true rfl) dXL_holds_5 (by rw [hR]; exact ⟨Nat.le_of_ble_eq_true rfl, Nat.le_of_ble_eq_true rfl⟩) (fun hz r9 u9 H locs hp9 hP hD hS => ?_) (fun hz x ce H1 L hP hS hce hcl hvm => ?_)
  · obtain ⟨er, hu, f0⟩ := hp9
    subst er
    subst hu
    have hP : va_P (dC, dI) vwCl [(oa, .inl (cL, 1, .inr (.inl (jAL fo)))), (ga, .inr (4, [.ref ta, .ref rda, .ref pa, .ref sa, .ref ea, .ref ba, .ref da])), (ba, .inr (0, [.ref bt, .ref bp, .ref bl, .ref bh, .ref bq, .ref br, .ref bd, .int (jI bg), .int (jI bf)])), (bp, .inl (cA, 31, .inl (jA fp))), (bl, .inl (cA, 248, .inl (jA fl))), (bh, .inl (cA, 248, .inl (jA fh))), (bq, .inl (cA, 124, .inl (jA fq))), (bd, .inl (cA, 32, .inl (jA fd))), (ea, .inl (cA, 8, .inl (jA ((f_XG_holds bg bf fp fl fh fq fd fe z1 z2).2.2))))] H := hP
    have hD : va_D A [(oa, .inl (cL, 1, .inr (.inl (jAL fo)))), (ga, .inr (4, [.ref ta, .ref rda, .ref pa, .ref sa, .ref ea, .ref ba, .ref da])), (ba, .inr (0, [.ref bt, .ref bp, .ref bl, .ref bh, .ref bq, .ref br, .ref bd, .int (jI bg), .int (jI bf)])), (bp, .inl (cA, 31, .inl (jA fp))), (bl, .inl (cA, 248, .inl (jA fl))), (bh, .inl (cA, 248, .inl (jA fh))), (bq, .inl (cA, 124, .inl (jA fq))), (bd, .inl (cA, 32, .inl (jA fd))), (ea, .inl (cA, 8, .inl (jA ((f_XG_holds bg bf fp fl fh fq fd fe z1 z2).2.2))))] := hD
    refine ji_re (y := jw ((f_XG_holds bg bf fp fl fh fq fd fe z1 z2).2.1)) (jI_jw _).symm ?_
    refine ji_if_eq (tgt := 15) hx hb dXL_holds_8 (by decide) (jw_i _) (fun h9 => ?_) (fun h9 => ?_)
    · refine ji_lconst (z := 0) hx hb dXL_holds_15 rfl ?_
      refine ji_last hx hb hK hP hD hS 0 1 rfl rfl ⟨by decide, by decide⟩ (by decide) dXL_holds_16 (fun H locs hP hD hS => ?_)
      have hP : va_P (dC, dI) vwCl [(oa, .inl (cL, 1, .inr (.inl (jAL (jset fo 0 0))))), (ga, .inr (4, [.ref ta, .ref rda, .ref pa, .ref sa, .ref ea, .ref ba, .ref da])), (ba, .inr (0, [.ref bt, .ref bp, .ref bl, .ref bh, .ref bq, .ref br, .ref bd, .int (jI bg), .int (jI bf)])), (bp, .inl (cA, 31, .inl (jA fp))), (bl, .inl (cA, 248, .inl (jA fl))), (bh, .inl (cA, 248, .inl (jA fh))), (bq, .inl (cA, 124, .inl (jA fq))), (bd, .inl (cA, 32, .inl (jA fd))), (ea, .inl (cA, 8, .inl (jA ((f_XG_holds bg bf fp fl fh fq fd fe z1 z2).2.2))))] H := hP
      have hD : va_D A [(oa, .inl (cL, 1, .inr (.inl (jAL (jset fo 0 0))))), (ga, .inr (4, [.ref ta, .ref rda, .ref pa, .ref sa, .ref ea, .ref ba, .ref da])), (ba, .inr (0, [.ref bt, .ref bp, .ref bl, .ref bh, .ref bq, .ref br, .ref bd, .int (jI bg), .int (jI bf)])), (bp, .inl (cA, 31, .inl (jA fp))), (bl, .inl (cA, 248, .inl (jA fl))), (bh, .inl (cA, 248, .inl (jA fh))), (bq, .inl (cA, 124, .inl (jA fq))), (bd, .inl (cA, 32, .inl (jA fd))), (ea, .inl (cA, 8, .inl (jA ((f_XG_holds bg bf fp fl fh fq fd fe z1 z2).2.2))))] := hD
      refine lv_goto (tgt := 24) hx hb dXL_holds_17 (by decide) ?_
      refine ji_iconst hx hb dXL_holds_24 ?_
      refine W.widen (k := 1) (n := 6) (Nat.le_of_ble_eq_true rfl) (Nat.le_of_ble_eq_true rfl) ?_
      have hP9 := hP.sub (ws' := [(ga, .inr (4, [.ref ta, .ref rda, .ref pa, .ref sa, .ref ea, .ref ba, .ref da])), (ba, .inr (0, [.ref bt, .ref bp, .ref bl, .ref bh, .ref bq, .ref br, .ref bd, .int (jI bg), .int (jI bf)])), (bp, .inl (cA, 31, .inl (jA fp))), (bl, .inl (cA, 248, .inl (jA fl))), (bh, .inl (cA, 248, .inl (jA fh))), (bq, .inl (cA, 124, .inl (jA fq))), (bd, .inl (cA, 32, .inl (jA fd))), (ea, .inl (cA, 8, .inl (jA ((f_XG_holds bg bf fp fl fh fq fd fe z1 z2).2.2)))), (oa, .inl (cL, 1, .inr (.inl (jAL (jset fo 0 0)))))]) [1, 2, 3, 4, 5, 6, 7, 8, 0] rfl
      have hD9 := hD.sub (ws' := [(ga, .inr (4, [.ref ta, .ref rda, .ref pa, .ref sa, .ref ea, .ref ba, .ref da])), (ba, .inr (0, [.ref bt, .ref bp, .ref bl, .ref bh, .ref bq, .ref br, .ref bd, .int (jI bg), .int (jI bf)])), (bp, .inl (cA, 31, .inl (jA fp))), (bl, .inl (cA, 248, .inl (jA fl))), (bh, .inl (cA, 248, .inl (jA fh))), (bq, .inl (cA, 124, .inl (jA fq))), (bd, .inl (cA, 32, .inl (jA fd))), (ea, .inl (cA, 8, .inl (jA ((f_XG_holds bg bf fp fl fh fq fd fe z1 z2).2.2)))), (oa, .inl (cL, 1, .inr (.inl (jAL (jset fo 0 0)))))]) [1, 2, 3, 4, 5, 6, 7, 8, 0] (by decide) rfl
      subst hAe
      subst hQ
      refine yW (fun _ h => yQ_of h) ?_
      exact W.iret (v := jI 0) hx hb hr (fun t ht hW => ⟨⟨_, (0, jset fo 0 0, (f_XG_holds bg bf fp fl fh fq fd fe z1 z2).2.2), rfl, ⟨rfl, by rw [f_XL_holds_s, if_pos hz, if_pos h9], by first | assumption | omega⟩, ⟨by rw [ht]; exact hP9, va_K.moved hW.alike hK, hD9⟩⟩, hS.F ht⟩) hS.2.2 dXL_holds_25
    · refine ji_lconst (z := 1) hx hb dXL_holds_11 rfl ?_
      refine lv_goto (tgt := 16) hx hb dXL_holds_12 (by decide) ?_
      refine ji_last hx hb hK hP hD hS 0 1 rfl rfl ⟨by decide, by decide⟩ (by decide) dXL_holds_16 (fun H locs hP hD hS => ?_)
      have hP : va_P (dC, dI) vwCl [(oa, .inl (cL, 1, .inr (.inl (jAL (jset fo 0 1))))), (ga, .inr (4, [.ref ta, .ref rda, .ref pa, .ref sa, .ref ea, .ref ba, .ref da])), (ba, .inr (0, [.ref bt, .ref bp, .ref bl, .ref bh, .ref bq, .ref br, .ref bd, .int (jI bg), .int (jI bf)])), (bp, .inl (cA, 31, .inl (jA fp))), (bl, .inl (cA, 248, .inl (jA fl))), (bh, .inl (cA, 248, .inl (jA fh))), (bq, .inl (cA, 124, .inl (jA fq))), (bd, .inl (cA, 32, .inl (jA fd))), (ea, .inl (cA, 8, .inl (jA ((f_XG_holds bg bf fp fl fh fq fd fe z1 z2).2.2))))] H := hP
      have hD : va_D A [(oa, .inl (cL, 1, .inr (.inl (jAL (jset fo 0 1))))), (ga, .inr (4, [.ref ta, .ref rda, .ref pa, .ref sa, .ref ea, .ref ba, .ref da])), (ba, .inr (0, [.ref bt, .ref bp, .ref bl, .ref bh, .ref bq, .ref br, .ref bd, .int (jI bg), .int (jI bf)])), (bp, .inl (cA, 31, .inl (jA fp))), (bl, .inl (cA, 248, .inl (jA fl))), (bh, .inl (cA, 248, .inl (jA fh))), (bq, .inl (cA, 124, .inl (jA fq))), (bd, .inl (cA, 32, .inl (jA fd))), (ea, .inl (cA, 8, .inl (jA ((f_XG_holds bg bf fp fl fh fq fd fe z1 z2).2.2))))] := hD
      refine lv_goto (tgt := 24) hx hb dXL_holds_17 (by decide) ?_
      refine ji_iconst hx hb dXL_holds_24 ?_
      refine W.widen (k := 1) (n := 6) (Nat.le_of_ble_eq_true rfl) (Nat.le_of_ble_eq_true rfl) ?_
      have hP9 := hP.sub (ws' := [(ga, .inr (4, [.ref ta, .ref rda, .ref pa, .ref sa, .ref ea, .ref ba, .ref da])), (ba, .inr (0, [.ref bt, .ref bp, .ref bl, .ref bh, .ref bq, .ref br, .ref bd, .int (jI bg), .int (jI bf)])), (bp, .inl (cA, 31, .inl (jA fp))), (bl, .inl (cA, 248, .inl (jA fl))), (bh, .inl (cA, 248, .inl (jA fh))), (bq, .inl (cA, 124, .inl (jA fq))), (bd, .inl (cA, 32, .inl (jA fd))), (ea, .inl (cA, 8, .inl (jA ((f_XG_holds bg bf fp fl fh fq fd fe z1 z2).2.2)))), (oa, .inl (cL, 1, .inr (.inl (jAL (jset fo 0 1)))))]) [1, 2, 3, 4, 5, 6, 7, 8, 0] rfl
      have hD9 := hD.sub (ws' := [(ga, .inr (4, [.ref ta, .ref rda, .ref pa, .ref sa, .ref ea, .ref ba, .ref da])), (ba, .inr (0, [.ref bt, .ref bp, .ref bl, .ref bh, .ref bq, .ref br, .ref bd, .int (jI bg), .int (jI bf)])), (bp, .inl (cA, 31, .inl (jA fp))), (bl, .inl (cA, 248, .inl (jA fl))), (bh, .inl (cA, 248, .inl (jA fh))), (bq, .inl (cA, 124, .inl (jA fq))), (bd, .inl (cA, 32, .inl (jA fd))), (ea, .inl (cA, 8, .inl (jA ((f_XG_holds bg bf fp fl fh fq fd fe z1 z2).2.2)))), (oa, .inl (cL, 1, .inr (.inl (jAL (jset fo 0 1)))))]) [1, 2, 3, 4, 5, 6, 7, 8, 0] (by decide) rfl
      subst hAe
      subst hQ
      refine yW (fun _ h => yQ_of h) ?_
      exact W.iret (v := jI 0) hx hb hr (fun t ht hW => ⟨⟨_, (0, jset fo 0 1, (f_XG_holds bg bf fp fl fh fq fd fe z1 z2).2.2), rfl, ⟨rfl, by rw [f_XL_holds_s, if_pos hz, if_neg h9], by first | assumption | omega⟩, ⟨by rw [ht]; exact hP9, va_K.moved hW.alike hK, hD9⟩⟩, hS.F ht⟩) hS.2.2 dXL_holds_25
  · rcases f_XG_holds_e bg bf fp fl fh fq fd fe z1 z2 with h9 | h9
    · exact absurd h9 hz
    · rw [h9, xCls_1] at hcl
      refine zOn1 htab hown ⟨by decide, by decide⟩ (by decide) (hts _ (jmem tw_407)) hX.c1 hce hcl hvm ?_
      refine lv_astore (lv' := [(4, .ref x), (0, .ref ga), (1, .int (jI z1)), (2, .int (jI z2)), (3, .ref oa)]) hx hb dXL_holds_20 hl (by decide) rfl (fun ls hl => ?_)
      refine ji_iconst hx hb dXL_holds_22 ?_
      refine W.widen (k := 1) (n := 6) (Nat.le_of_ble_eq_true rfl) (Nat.le_of_ble_eq_true rfl) ?_
      have hP9 := hP.sub (ws' := [(ga, .inr (4, [.ref ta, .ref rda, .ref pa, .ref sa, .ref ea, .ref ba, .ref da])), (ba, .inr (0, [.ref bt, .ref bp, .ref bl, .ref bh, .ref bq, .ref br, .ref bd, .int (jI bg), .int (jI bf)])), (bp, .inl (cA, 31, .inl (jA fp))), (bl, .inl (cA, 248, .inl (jA fl))), (bh, .inl (cA, 248, .inl (jA fh))), (bq, .inl (cA, 124, .inl (jA fq))), (bd, .inl (cA, 32, .inl (jA fd))), (ea, .inl (cA, 8, .inl (jA fe))), (oa, .inl (cL, 1, .inr (.inl (jAL fo))))]) [0, 1, 2, 3, 4, 5, 6, 7, 8] rfl
      have hD9 := hD.sub (ws' := [(ga, .inr (4, [.ref ta, .ref rda, .ref pa, .ref sa, .ref ea, .ref ba, .ref da])), (ba, .inr (0, [.ref bt, .ref bp, .ref bl, .ref bh, .ref bq, .ref br, .ref bd, .int (jI bg), .int (jI bf)])), (bp, .inl (cA, 31, .inl (jA fp))), (bl, .inl (cA, 248, .inl (jA fl))), (bh, .inl (cA, 248, .inl (jA fh))), (bq, .inl (cA, 124, .inl (jA fq))), (bd, .inl (cA, 32, .inl (jA fd))), (ea, .inl (cA, 8, .inl (jA fe))), (oa, .inl (cL, 1, .inr (.inl (jAL fo))))]) [0, 1, 2, 3, 4, 5, 6, 7, 8] (by decide) rfl
      subst hAe
      subst hQ
      refine yW (fun _ h => yQ_of h) ?_
      exact W.iret (v := jI 1) hx hb hr (fun t ht hW => ⟨⟨_, (1, fo, fe), rfl, ⟨rfl, by rw [f_XL_holds_s, if_neg hz], by first | assumption | omega⟩, ⟨by rw [ht]; exact hP9, va_K.moved hW.alike hK, hD9⟩⟩, hS.F ht⟩) hS.2.2 dXL_holds_23
noncomputable def g_XL_ring (bg : Int) (bf : Int) (ft : Int → Int) (z1 : Int) (fo : Int → Int) : Int × (Int → Int) :=
  if (f_XG_ring bg bf ft z1).1 = 0 then
    (0, jset fo 0 (jw ((f_XG_ring bg bf ft z1).2)))
  else
    (1, fo)
noncomputable def f_XL_ring : Int → Int → (Int → Int) → Int → (Int → Int) → Int × (Int → Int) := jopq g_XL_ring
theorem f_XL_ring_q : f_XL_ring = g_XL_ring := jopq_eq _
theorem f_XL_ring_s (bg : Int) (bf : Int) (ft : Int → Int) (z1 : Int) (fo : Int → Int) : f_XL_ring bg bf ft z1 fo = (
    if (f_XG_ring bg bf ft z1).1 = 0 then
      (0, jset fo 0 (jw ((f_XG_ring bg bf ft z1).2)))
    else
      (1, fo)
  : Int × (Int → Int)) := by rw [f_XL_ring_q]; rfl
set_option maxHeartbeats 4000000 in
set_option maxRecDepth 100000 in
theorem c_XL_ring (l : Launch) (hst : l.stackTraces = false) (dC : Nat → ClassId) (dI : Nat → Nat → Nat) (cA cL : ClassId) (sz : Nat) (ga : Nat) (ta : Nat) (rda : Nat) (pa : Nat) (sa : Nat) (ea : Nat) (ba : Nat) (da : Nat) (bt : Nat) (bp : Nat) (bl : Nat) (bh : Nat) (bq : Nat) (br : Nat) (bd : Nat) (bg : Int) (bf : Int) (ft : Int → Int) (z1 : Int) (oa : Nat) (fo : Int → Int) (hbt : ∀ i, 0 ≤ ft i ∧ ft i ≤ 30) (hi_z1 : i32 z1) : YMet l yXL_ring (Cond.codeWith yXL_ring cXL_ring 4 (some .int) [(0, 9, 12, 21)] :: TBL) ({ frames := 8, cells := 1, slots := 6, locals := 125 } : Room) (va_Pc [.ref ga, .int (jI z1), .ref oa] (jBc (dC, dI) [(cA, .int), (cL, .long)] [(ga, .inr (4, [.ref ta, .ref rda, .ref pa, .ref sa, .ref ea, .ref ba, .ref da])), (ba, .inr (0, [.ref bt, .ref bp, .ref bl, .ref bh, .ref bq, .ref br, .ref bd, .int (jI bg), .int (jI bf)])), (bt, .inl (cA, 31, .inl (jA ft))), (oa, .inl (cL, 1, .inr (.inl (jAL fo))))] sz)) (va_Qi (fun (r : Int32) (u : Int × (Int → Int)) => r = jI u.1 ∧ u = f_XL_ring bg bf ft z1 fo) (fun u t => jE (dC, dI) [(cA, .int), (cL, .long)] [(ga, .inr (4, [.ref ta, .ref rda, .ref pa, .ref sa, .ref ea, .ref ba, .ref da])), (ba, .inr (0, [.ref bt, .ref bp, .ref bl, .ref bh, .ref bq, .ref br, .ref bd, .int (jI bg), .int (jI bf)])), (bt, .inl (cA, 31, .inl (jA ft))), (oa, .inl (cL, 1, .inr (.inl (jAL fo))))] sz [(ga, .inr (4, [.ref ta, .ref rda, .ref pa, .ref sa, .ref ea, .ref ba, .ref da])), (ba, .inr (0, [.ref bt, .ref bp, .ref bl, .ref bh, .ref bq, .ref br, .ref bd, .int (jI bg), .int (jI bf)])), (bt, .inl (cA, 31, .inl (jA ft))), (oa, .inl (cL, 1, .inr (.inl (jAL u.2))))] t) (va_A [(ga, .inr (4, [.ref ta, .ref rda, .ref pa, .ref sa, .ref ea, .ref ba, .ref da])), (ba, .inr (0, [.ref bt, .ref bp, .ref bl, .ref bh, .ref bq, .ref br, .ref bd, .int (jI bg), .int (jI bf)])), (bt, .inl (cA, 31, .inl (jA ft))), (oa, .inl (cL, 1, .inr (.inl (jAL fo))))] sz)) 1 6 1 6 (va_A [(ga, .inr (4, [.ref ta, .ref rda, .ref pa, .ref sa, .ref ea, .ref ba, .ref da])), (ba, .inr (0, [.ref bt, .ref bp, .ref bl, .ref bh, .ref bq, .ref br, .ref bd, .int (jI bg), .int (jI bf)])), (bt, .inl (cA, 31, .inl (jA ft))), (oa, .inl (cL, 1, .inr (.inl (jAL fo))))] sz) := by
  refine YMet.ofWH (cc := cXL_ring) (maxL := 4) (ret := some .int) (hh := [(0, 9, 12, 21)]) (by decide) rfl ?_
  intro p e s m args below meth c s₁ R Q hR hQ B hml htab hv
  obtain ⟨rfl, ⟨hsz, hP, hK, hD0, hN⟩, hX, hC⟩ := hv
  have hx := B.exec
  have hb := B.bytes
  have hr := B.returns
  have hts := atoms_spec (ws := Cond.codeWith yXL_ring cXL_ring 4 (some .int) [(0, 9, 12, 21)] :: TBL) B.pre
  have hown : s.vm.findClass RXL = some m.cls := findClass_of_methodNamed B.named
  have hlocks := B.notSynchronized
  subst hsz
  obtain ⟨A, hAe⟩ : ∃ A, A = va_A [(ga, .inr (4, [.ref ta, .ref rda, .ref pa, .ref sa, .ref ea, .ref ba, .ref da])), (ba, .inr (0, [.ref bt, .ref bp, .ref bl, .ref bh, .ref bq, .ref br, .ref bd, .int (jI bg), .int (jI bf)])), (bt, .inl (cA, 31, .inl (jA ft))), (oa, .inl (cL, 1, .inr (.inl (jAL fo))))] s.heap.size := ⟨_, rfl⟩
  have hD : va_D A [(ga, .inr (4, [.ref ta, .ref rda, .ref pa, .ref sa, .ref ea, .ref ba, .ref da])), (ba, .inr (0, [.ref bt, .ref bp, .ref bl, .ref bh, .ref bq, .ref br, .ref bd, .int (jI bg), .int (jI bf)])), (bt, .inl (cA, 31, .inl (jA ft))), (oa, .inl (cL, 1, .inr (.inl (jAL fo))))] := by rw [hAe]; exact hD0.self
  have hA : ∀ q : Nat, s.heap.size ≤ q → A q := fun q h => by rw [hAe]; exact Or.inr h
  have hS : va_S A s.heap s.heap [] := va_S.rf
  have hP : va_P (dC, dI) vwCl [(ga, .inr (4, [.ref ta, .ref rda, .ref pa, .ref sa, .ref ea, .ref ba, .ref da])), (ba, .inr (0, [.ref bt, .ref bp, .ref bl, .ref bh, .ref bq, .ref br, .ref bd, .int (jI bg), .int (jI bf)])), (bt, .inl (cA, 31, .inl (jA ft))), (oa, .inl (cL, 1, .inr (.inl (jAL fo))))] s.heap := hP
  have hl := lv_entry ([.ref ga, .int (jI z1), .ref oa]) (n := 4) (Nat.le_of_ble_eq_true rfl)
  rw [lg_entry_eq]
  generalize (lg_sl ([.ref ga, .int (jI z1), .ref oa]) ++ List.replicate (4 - (lg_sl ([.ref ga, .int (jI z1), .ref oa])).length) Slot.unset).toArray = ls at hl ⊢
  have hl : lv_has ls 4 [(0, .ref ga), (1, .int (jI z1)), (2, .ref oa)] := hl
  refine lv_aload_n hx hb dXL_ring_0 rfl (lv_at hl 2 rfl) ?_
  refine ji_iconst hx hb dXL_ring_1 ?_
  refine lv_aload_n hx hb dXL_ring_2 rfl (lv_at hl 0 rfl) ?_
  refine lv_iload_n hx hb dXL_ring_3 rfl (lv_at hl 1 rfl) ?_
  refine ztRi (A := A) (rest := [.int (jI 0), .ref oa]) ⟨hx, hb, hml, hown, hts⟩ (c_XG_ring l hst dC dI cA ga ta rda pa sa ea ba da bt bp bl bh bq br bd bg bf ft z1 hbt hi_z1) (cwV 1 hts (jG_V tw_542 tw_543 tw_544 tw_1 tw_545) rfl rfl rfl (by decide +kernel) (by rw [hR]; exact ⟨Nat.le_of_ble_eq_true rfl, Nat.le_of_ble_eq_true rfl⟩)) (va_K.sub hK [0] rfl) hP hN hX [0, 1, 2] rfl 0 4 rfl rfl rfl rfl hl.1 rfl (Nat.le_of_ble_eq_true rfl) dXL_ring_4 (by rw [hR]; exact ⟨Nat.le_of_ble_eq_true rfl, Nat.le_of_ble_eq_true rfl⟩) (fun hz => ?_) (fun hz x ce H1 L hP hS hce hcl hvm => ?_)
  · refine ji_re (y := jw ((f_XG_ring bg bf ft z1).2)) (jI_jw _).symm ?_
    refine ji_i2l hx hb dXL_ring_7 (jw_i _) ?_
    refine ji_last hx hb hK hP hD hS 3 1 rfl rfl ⟨by decide, by decide⟩ (by decide) dXL_ring_8 (fun H locs hP hD hS => ?_)
    have hP : va_P (dC, dI) vwCl [(ga, .inr (4, [.ref ta, .ref rda, .ref pa, .ref sa, .ref ea, .ref ba, .ref da])), (ba, .inr (0, [.ref bt, .ref bp, .ref bl, .ref bh, .ref bq, .ref br, .ref bd, .int (jI bg), .int (jI bf)])), (bt, .inl (cA, 31, .inl (jA ft))), (oa, .inl (cL, 1, .inr (.inl (jAL (jset fo 0 (jw ((f_XG_ring bg bf ft z1).2)))))))] H := hP
    have hD : va_D A [(ga, .inr (4, [.ref ta, .ref rda, .ref pa, .ref sa, .ref ea, .ref ba, .ref da])), (ba, .inr (0, [.ref bt, .ref bp, .ref bl, .ref bh, .ref bq, .ref br, .ref bd, .int (jI bg), .int (jI bf)])), (bt, .inl (cA, 31, .inl (jA ft))), (oa, .inl (cL, 1, .inr (.inl (jAL (jset fo 0 (jw ((f_XG_ring bg bf ft z1).2)))))))] := hD
    refine lv_goto (tgt := 15) hx hb dXL_ring_9 (by decide) ?_
    refine ji_iconst hx hb dXL_ring_15 ?_
    refine W.widen (k := 1) (n := 6) (Nat.le_of_ble_eq_true rfl) (Nat.le_of_ble_eq_true rfl) ?_
    have hP9 := hP.sub (ws' := [(ga, .inr (4, [.ref ta, .ref rda, .ref pa, .ref sa, .ref ea, .ref ba, .ref da])), (ba, .inr (0, [.ref bt, .ref bp, .ref bl, .ref bh, .ref bq, .ref br, .ref bd, .int (jI bg), .int (jI bf)])), (bt, .inl (cA, 31, .inl (jA ft))), (oa, .inl (cL, 1, .inr (.inl (jAL (jset fo 0 (jw ((f_XG_ring bg bf ft z1).2)))))))]) [0, 1, 2, 3] rfl
    have hD9 := hD.sub (ws' := [(ga, .inr (4, [.ref ta, .ref rda, .ref pa, .ref sa, .ref ea, .ref ba, .ref da])), (ba, .inr (0, [.ref bt, .ref bp, .ref bl, .ref bh, .ref bq, .ref br, .ref bd, .int (jI bg), .int (jI bf)])), (bt, .inl (cA, 31, .inl (jA ft))), (oa, .inl (cL, 1, .inr (.inl (jAL (jset fo 0 (jw ((f_XG_ring bg bf ft z1).2)))))))]) [0, 1, 2, 3] (by decide) rfl
    subst hAe
    subst hQ
    refine yW (fun _ h => yQ_of h) ?_
    exact W.iret (v := jI 0) hx hb hr (fun t ht hW => ⟨⟨_, (0, jset fo 0 (jw ((f_XG_ring bg bf ft z1).2))), rfl, ⟨rfl, by rw [f_XL_ring_s, if_pos hz]⟩, ⟨by rw [ht]; exact hP9, va_K.moved hW.alike hK, hD9⟩⟩, hS.F ht⟩) hS.2.2 dXL_ring_16
  · rcases f_XG_ring_e bg bf ft z1 with h9 | h9
    · exact absurd h9 hz
    · rw [h9, xCls_1] at hcl
      refine zOn1 htab hown ⟨by decide, by decide⟩ (by decide) (hts _ (jmem tw_407)) hX.c1 hce hcl hvm ?_
      refine lv_astore_n (lv' := [(3, .ref x), (0, .ref ga), (1, .int (jI z1)), (2, .ref oa)]) hx hb dXL_ring_12 rfl hl (by decide) rfl (fun ls hl => ?_)
      refine ji_iconst hx hb dXL_ring_13 ?_
      refine W.widen (k := 1) (n := 6) (Nat.le_of_ble_eq_true rfl) (Nat.le_of_ble_eq_true rfl) ?_
      have hP9 := hP.sub (ws' := [(ga, .inr (4, [.ref ta, .ref rda, .ref pa, .ref sa, .ref ea, .ref ba, .ref da])), (ba, .inr (0, [.ref bt, .ref bp, .ref bl, .ref bh, .ref bq, .ref br, .ref bd, .int (jI bg), .int (jI bf)])), (bt, .inl (cA, 31, .inl (jA ft))), (oa, .inl (cL, 1, .inr (.inl (jAL fo))))]) [0, 1, 2, 3] rfl
      have hD9 := hD.sub (ws' := [(ga, .inr (4, [.ref ta, .ref rda, .ref pa, .ref sa, .ref ea, .ref ba, .ref da])), (ba, .inr (0, [.ref bt, .ref bp, .ref bl, .ref bh, .ref bq, .ref br, .ref bd, .int (jI bg), .int (jI bf)])), (bt, .inl (cA, 31, .inl (jA ft))), (oa, .inl (cL, 1, .inr (.inl (jAL fo))))]) [0, 1, 2, 3] (by decide) rfl
      subst hAe
      subst hQ
      refine yW (fun _ h => yQ_of h) ?_
      exact W.iret (v := jI 1) hx hb hr (fun t ht hW => ⟨⟨_, (1, fo), rfl, ⟨rfl, by rw [f_XL_ring_s, if_neg hz]⟩, ⟨by rw [ht]; exact hP9, va_K.moved hW.alike hK, hD9⟩⟩, hS.F ht⟩) hS.2.2 dXL_ring_14
noncomputable def g_XL_route (bg : Int) (bf : Int) (fp : Int → Int) (fr : Int → Int) (z1 : Int) (z2 : Int) (fo : Int → Int) : Int × (Int → Int) :=
  if (f_XG_route bg bf fp fr z1 z2).1 = 0 then
    (0, jset fo 0 (jw ((f_XG_route bg bf fp fr z1 z2).2)))
  else
    (1, fo)
noncomputable def f_XL_route : Int → Int → (Int → Int) → (Int → Int) → Int → Int → (Int → Int) → Int × (Int → Int) := jopq g_XL_route
theorem f_XL_route_q : f_XL_route = g_XL_route := jopq_eq _
theorem f_XL_route_s (bg : Int) (bf : Int) (fp : Int → Int) (fr : Int → Int) (z1 : Int) (z2 : Int) (fo : Int → Int) : f_XL_route bg bf fp fr z1 z2 fo = (
    if (f_XG_route bg bf fp fr z1 z2).1 = 0 then
      (0, jset fo 0 (jw ((f_XG_route bg bf fp fr z1 z2).2)))
    else
      (1, fo)
  : Int × (Int → Int)) := by rw [f_XL_route_q]; rfl
set_option maxHeartbeats 4000000 in
set_option maxRecDepth 100000 in
theorem c_XL_route (l : Launch) (hst : l.stackTraces = false) (dC : Nat → ClassId) (dI : Nat → Nat → Nat) (cA cL : ClassId) (sz : Nat) (ga : Nat) (ta : Nat) (rda : Nat) (pa : Nat) (sa : Nat) (ea : Nat) (ba : Nat) (da : Nat) (bt : Nat) (bp : Nat) (bl : Nat) (bh : Nat) (bq : Nat) (br : Nat) (bd : Nat) (bg : Int) (bf : Int) (fp : Int → Int) (fr : Int → Int) (z1 : Int) (z2 : Int) (oa : Nat) (fo : Int → Int) (hbp : ∀ i, 0 ≤ fp i ∧ fp i ≤ 30) (hbr : ∀ i, 0 ≤ fr i ∧ fr i < 2147483648) (hbg : 0 ≤ bg ∧ bg < 2147483648) (hi_z1 : i32 z1) (hi_z2 : i32 z2) : YMet l yXL_route (Cond.codeWith yXL_route cXL_route 5 (some .int) [(0, 10, 13, 21)] :: TBL) ({ frames := 8, cells := 1, slots := 6, locals := 128 } : Room) (va_Pc [.ref ga, .int (jI z1), .int (jI z2), .ref oa] (jBc (dC, dI) [(cA, .int), (cL, .long)] [(ga, .inr (4, [.ref ta, .ref rda, .ref pa, .ref sa, .ref ea, .ref ba, .ref da])), (ba, .inr (0, [.ref bt, .ref bp, .ref bl, .ref bh, .ref bq, .ref br, .ref bd, .int (jI bg), .int (jI bf)])), (bp, .inl (cA, 31, .inl (jA fp))), (br, .inl (cA, 31, .inl (jA fr))), (oa, .inl (cL, 1, .inr (.inl (jAL fo))))] sz)) (va_Qi (fun (r : Int32) (u : Int × (Int → Int)) => r = jI u.1 ∧ u = f_XL_route bg bf fp fr z1 z2 fo) (fun u t => jE (dC, dI) [(cA, .int), (cL, .long)] [(ga, .inr (4, [.ref ta, .ref rda, .ref pa, .ref sa, .ref ea, .ref ba, .ref da])), (ba, .inr (0, [.ref bt, .ref bp, .ref bl, .ref bh, .ref bq, .ref br, .ref bd, .int (jI bg), .int (jI bf)])), (bp, .inl (cA, 31, .inl (jA fp))), (br, .inl (cA, 31, .inl (jA fr))), (oa, .inl (cL, 1, .inr (.inl (jAL fo))))] sz [(ga, .inr (4, [.ref ta, .ref rda, .ref pa, .ref sa, .ref ea, .ref ba, .ref da])), (ba, .inr (0, [.ref bt, .ref bp, .ref bl, .ref bh, .ref bq, .ref br, .ref bd, .int (jI bg), .int (jI bf)])), (bp, .inl (cA, 31, .inl (jA fp))), (br, .inl (cA, 31, .inl (jA fr))), (oa, .inl (cL, 1, .inr (.inl (jAL u.2))))] t) (va_A [(ga, .inr (4, [.ref ta, .ref rda, .ref pa, .ref sa, .ref ea, .ref ba, .ref da])), (ba, .inr (0, [.ref bt, .ref bp, .ref bl, .ref bh, .ref bq, .ref br, .ref bd, .int (jI bg), .int (jI bf)])), (bp, .inl (cA, 31, .inl (jA fp))), (br, .inl (cA, 31, .inl (jA fr))), (oa, .inl (cL, 1, .inr (.inl (jAL fo))))] sz)) 1 6 1 6 (va_A [(ga, .inr (4, [.ref ta, .ref rda, .ref pa, .ref sa, .ref ea, .ref ba, .ref da])), (ba, .inr (0, [.ref bt, .ref bp, .ref bl, .ref bh, .ref bq, .ref br, .ref bd, .int (jI bg), .int (jI bf)])), (bp, .inl (cA, 31, .inl (jA fp))), (br, .inl (cA, 31, .inl (jA fr))), (oa, .inl (cL, 1, .inr (.inl (jAL fo))))] sz) := by
  refine YMet.ofWH (cc := cXL_route) (maxL := 5) (ret := some .int) (hh := [(0, 10, 13, 21)]) (by decide) rfl ?_
  intro p e s m args below meth c s₁ R Q hR hQ B hml htab hv
  obtain ⟨rfl, ⟨hsz, hP, hK, hD0, hN⟩, hX, hC⟩ := hv
  have hx := B.exec
  have hb := B.bytes
  have hr := B.returns
  have hts := atoms_spec (ws := Cond.codeWith yXL_route cXL_route 5 (some .int) [(0, 10, 13, 21)] :: TBL) B.pre
  have hown : s.vm.findClass RXL = some m.cls := findClass_of_methodNamed B.named
  have hlocks := B.notSynchronized
  subst hsz
  obtain ⟨A, hAe⟩ : ∃ A, A = va_A [(ga, .inr (4, [.ref ta, .ref rda, .ref pa, .ref sa, .ref ea, .ref ba, .ref da])), (ba, .inr (0, [.ref bt, .ref bp, .ref bl, .ref bh, .ref bq, .ref br, .ref bd, .int (jI bg), .int (jI bf)])), (bp, .inl (cA, 31, .inl (jA fp))), (br, .inl (cA, 31, .inl (jA fr))), (oa, .inl (cL, 1, .inr (.inl (jAL fo))))] s.heap.size := ⟨_, rfl⟩
  have hD : va_D A [(ga, .inr (4, [.ref ta, .ref rda, .ref pa, .ref sa, .ref ea, .ref ba, .ref da])), (ba, .inr (0, [.ref bt, .ref bp, .ref bl, .ref bh, .ref bq, .ref br, .ref bd, .int (jI bg), .int (jI bf)])), (bp, .inl (cA, 31, .inl (jA fp))), (br, .inl (cA, 31, .inl (jA fr))), (oa, .inl (cL, 1, .inr (.inl (jAL fo))))] := by rw [hAe]; exact hD0.self
  have hA : ∀ q : Nat, s.heap.size ≤ q → A q := fun q h => by rw [hAe]; exact Or.inr h
  have hS : va_S A s.heap s.heap [] := va_S.rf
  have hP : va_P (dC, dI) vwCl [(ga, .inr (4, [.ref ta, .ref rda, .ref pa, .ref sa, .ref ea, .ref ba, .ref da])), (ba, .inr (0, [.ref bt, .ref bp, .ref bl, .ref bh, .ref bq, .ref br, .ref bd, .int (jI bg), .int (jI bf)])), (bp, .inl (cA, 31, .inl (jA fp))), (br, .inl (cA, 31, .inl (jA fr))), (oa, .inl (cL, 1, .inr (.inl (jAL fo))))] s.heap := hP
  have hl := lv_entry ([.ref ga, .int (jI z1), .int (jI z2), .ref oa]) (n := 5) (Nat.le_of_ble_eq_true rfl)
  rw [lg_entry_eq]
  generalize (lg_sl ([.ref ga, .int (jI z1), .int (jI z2), .ref oa]) ++ List.replicate (5 - (lg_sl ([.ref ga, .int (jI z1), .int (jI z2), .ref oa])).length) Slot.unset).toArray = ls at hl ⊢
  have hl : lv_has ls 5 [(0, .ref ga), (1, .int (jI z1)), (2, .int (jI z2)), (3, .ref oa)] := hl
  refine lv_aload_n hx hb dXL_route_0 rfl (lv_at hl 3 rfl) ?_
  refine ji_iconst hx hb dXL_route_1 ?_
  refine lv_aload_n hx hb dXL_route_2 rfl (lv_at hl 0 rfl) ?_
  refine lv_iload_n hx hb dXL_route_3 rfl (lv_at hl 1 rfl) ?_
  refine lv_iload_n hx hb dXL_route_4 rfl (lv_at hl 2 rfl) ?_
  refine ztRi (A := A) (rest := [.int (jI 0), .ref oa]) ⟨hx, hb, hml, hown, hts⟩ (c_XG_route l hst dC dI cA ga ta rda pa sa ea ba da bt bp bl bh bq br bd bg bf fp fr z1 z2 hbp hbr hbg hi_z1 hi_z2) (cwV 2 hts (jG_V tw_554 tw_555 tw_556 tw_1 tw_557) rfl rfl rfl (by decide +kernel) (by rw [hR]; exact ⟨Nat.le_of_ble_eq_true rfl, Nat.le_of_ble_eq_true rfl⟩)) (va_K.sub hK [0] rfl) hP hN hX [0, 1, 2, 3] rfl 0 4 rfl rfl rfl rfl hl.1 rfl (Nat.le_of_ble_eq_true rfl) dXL_route_5 (by rw [hR]; exact ⟨Nat.le_of_ble_eq_true rfl, Nat.le_of_ble_eq_true rfl⟩) (fun hz => ?_) (fun hz x ce H1 L hP hS hce hcl hvm => ?_)
  · refine ji_re (y := jw ((f_XG_route bg bf fp fr z1 z2).2)) (jI_jw _).symm ?_
    refine ji_i2l hx hb dXL_route_8 (jw_i _) ?_
    refine ji_last hx hb hK hP hD hS 4 1 rfl rfl ⟨by decide, by decide⟩ (by decide) dXL_route_9 (fun H locs hP hD hS => ?_)
    have hP : va_P (dC, dI) vwCl [(ga, .inr (4, [.ref ta, .ref rda, .ref pa, .ref sa, .ref ea, .ref ba, .ref da])), (ba, .inr (0, [.ref bt, .ref bp, .ref bl, .ref bh, .ref bq, .ref br, .ref bd, .int (jI bg), .int (jI bf)])), (bp, .inl (cA, 31, .inl (jA fp))), (br, .inl (cA, 31, .inl (jA fr))), (oa, .inl (cL, 1, .inr (.inl (jAL (jset fo 0 (jw ((f_XG_route bg bf fp fr z1 z2).2)))))))] H := hP
    have hD : va_D A [(ga, .inr (4, [.ref ta, .ref rda, .ref pa, .ref sa, .ref ea, .ref ba, .ref da])), (ba, .inr (0, [.ref bt, .ref bp, .ref bl, .ref bh, .ref bq, .ref br, .ref bd, .int (jI bg), .int (jI bf)])), (bp, .inl (cA, 31, .inl (jA fp))), (br, .inl (cA, 31, .inl (jA fr))), (oa, .inl (cL, 1, .inr (.inl (jAL (jset fo 0 (jw ((f_XG_route bg bf fp fr z1 z2).2)))))))] := hD
    refine lv_goto (tgt := 17) hx hb dXL_route_10 (by decide) ?_
    refine ji_iconst hx hb dXL_route_17 ?_
    refine W.widen (k := 1) (n := 6) (Nat.le_of_ble_eq_true rfl) (Nat.le_of_ble_eq_true rfl) ?_
    have hP9 := hP.sub (ws' := [(ga, .inr (4, [.ref ta, .ref rda, .ref pa, .ref sa, .ref ea, .ref ba, .ref da])), (ba, .inr (0, [.ref bt, .ref bp, .ref bl, .ref bh, .ref bq, .ref br, .ref bd, .int (jI bg), .int (jI bf)])), (bp, .inl (cA, 31, .inl (jA fp))), (br, .inl (cA, 31, .inl (jA fr))), (oa, .inl (cL, 1, .inr (.inl (jAL (jset fo 0 (jw ((f_XG_route bg bf fp fr z1 z2).2)))))))]) [0, 1, 2, 3, 4] rfl
    have hD9 := hD.sub (ws' := [(ga, .inr (4, [.ref ta, .ref rda, .ref pa, .ref sa, .ref ea, .ref ba, .ref da])), (ba, .inr (0, [.ref bt, .ref bp, .ref bl, .ref bh, .ref bq, .ref br, .ref bd, .int (jI bg), .int (jI bf)])), (bp, .inl (cA, 31, .inl (jA fp))), (br, .inl (cA, 31, .inl (jA fr))), (oa, .inl (cL, 1, .inr (.inl (jAL (jset fo 0 (jw ((f_XG_route bg bf fp fr z1 z2).2)))))))]) [0, 1, 2, 3, 4] (by decide) rfl
    subst hAe
    subst hQ
    refine yW (fun _ h => yQ_of h) ?_
    exact W.iret (v := jI 0) hx hb hr (fun t ht hW => ⟨⟨_, (0, jset fo 0 (jw ((f_XG_route bg bf fp fr z1 z2).2))), rfl, ⟨rfl, by rw [f_XL_route_s, if_pos hz]⟩, ⟨by rw [ht]; exact hP9, va_K.moved hW.alike hK, hD9⟩⟩, hS.F ht⟩) hS.2.2 dXL_route_18
  · rcases f_XG_route_e bg bf fp fr z1 z2 with h9 | h9
    · exact absurd h9 hz
    · rw [h9, xCls_1] at hcl
      refine zOn1 htab hown ⟨by decide, by decide⟩ (by decide) (hts _ (jmem tw_407)) hX.c1 hce hcl hvm ?_
      refine lv_astore (lv' := [(4, .ref x), (0, .ref ga), (1, .int (jI z1)), (2, .int (jI z2)), (3, .ref oa)]) hx hb dXL_route_13 hl (by decide) rfl (fun ls hl => ?_)
      refine ji_iconst hx hb dXL_route_15 ?_
      refine W.widen (k := 1) (n := 6) (Nat.le_of_ble_eq_true rfl) (Nat.le_of_ble_eq_true rfl) ?_
      have hP9 := hP.sub (ws' := [(ga, .inr (4, [.ref ta, .ref rda, .ref pa, .ref sa, .ref ea, .ref ba, .ref da])), (ba, .inr (0, [.ref bt, .ref bp, .ref bl, .ref bh, .ref bq, .ref br, .ref bd, .int (jI bg), .int (jI bf)])), (bp, .inl (cA, 31, .inl (jA fp))), (br, .inl (cA, 31, .inl (jA fr))), (oa, .inl (cL, 1, .inr (.inl (jAL fo))))]) [0, 1, 2, 3, 4] rfl
      have hD9 := hD.sub (ws' := [(ga, .inr (4, [.ref ta, .ref rda, .ref pa, .ref sa, .ref ea, .ref ba, .ref da])), (ba, .inr (0, [.ref bt, .ref bp, .ref bl, .ref bh, .ref bq, .ref br, .ref bd, .int (jI bg), .int (jI bf)])), (bp, .inl (cA, 31, .inl (jA fp))), (br, .inl (cA, 31, .inl (jA fr))), (oa, .inl (cL, 1, .inr (.inl (jAL fo))))]) [0, 1, 2, 3, 4] (by decide) rfl
      subst hAe
      subst hQ
      refine yW (fun _ h => yQ_of h) ?_
      exact W.iret (v := jI 1) hx hb hr (fun t ht hW => ⟨⟨_, (1, fo), rfl, ⟨rfl, by rw [f_XL_route_s, if_neg hz]⟩, ⟨by rw [ht]; exact hP9, va_K.moved hW.alike hK, hD9⟩⟩, hS.F ht⟩) hS.2.2 dXL_route_16
noncomputable def g_XL_difference (bg : Int) (bf : Int) (fp : Int → Int) (fl : Int → Int) (fh : Int → Int) (z1 : Int) (z2 : Int) (z3 : Int) (fo : Int → Int) : Int × (Int → Int) :=
  if (f_XG_difference bg bf fp fl fh z1 z2 z3).1 = 0 then
    (0, jset fo 0 (jw ((f_XG_difference bg bf fp fl fh z1 z2 z3).2)))
  else
    (1, fo)
noncomputable def f_XL_difference : Int → Int → (Int → Int) → (Int → Int) → (Int → Int) → Int → Int → Int → (Int → Int) → Int × (Int → Int) := jopq g_XL_difference
theorem f_XL_difference_q : f_XL_difference = g_XL_difference := jopq_eq _
theorem f_XL_difference_s (bg : Int) (bf : Int) (fp : Int → Int) (fl : Int → Int) (fh : Int → Int) (z1 : Int) (z2 : Int) (z3 : Int) (fo : Int → Int) : f_XL_difference bg bf fp fl fh z1 z2 z3 fo = (
    if (f_XG_difference bg bf fp fl fh z1 z2 z3).1 = 0 then
      (0, jset fo 0 (jw ((f_XG_difference bg bf fp fl fh z1 z2 z3).2)))
    else
      (1, fo)
  : Int × (Int → Int)) := by rw [f_XL_difference_q]; rfl
set_option maxHeartbeats 4000000 in
set_option maxRecDepth 100000 in
theorem c_XL_difference (l : Launch) (hst : l.stackTraces = false) (dC : Nat → ClassId) (dI : Nat → Nat → Nat) (cA cL : ClassId) (sz : Nat) (ga : Nat) (ta : Nat) (rda : Nat) (pa : Nat) (sa : Nat) (ea : Nat) (ba : Nat) (da : Nat) (bt : Nat) (bp : Nat) (bl : Nat) (bh : Nat) (bq : Nat) (br : Nat) (bd : Nat) (bg : Int) (bf : Int) (fp : Int → Int) (fl : Int → Int) (fh : Int → Int) (z1 : Int) (z2 : Int) (z3 : Int) (oa : Nat) (fo : Int → Int) (hbp : ∀ i, 0 ≤ fp i ∧ fp i ≤ 30) (hbl : ∀ i, 0 ≤ fl i ∧ fl i ≤ 100000) (hbh : ∀ i, -1 ≤ fh i ∧ fh i ≤ 100000) (hbg : 0 ≤ bg ∧ bg < 2147483648) (hi_z1 : i32 z1) (hi_z2 : i32 z2) (hi_z3 : i32 z3) : YMet l yXL_difference (Cond.codeWith yXL_difference cXL_difference 6 (some .int) [(0, 12, 15, 21)] :: TBL) ({ frames := 8, cells := 1, slots := 6, locals := 128 } : Room) (va_Pc [.ref ga, .int (jI z1), .int (jI z2), .int (jI z3), .ref oa] (jBc (dC, dI) [(cA, .int), (cL, .long)] [(ga, .inr (4, [.ref ta, .ref rda, .ref pa, .ref sa, .ref ea, .ref ba, .ref da])), (ba, .inr (0, [.ref bt, .ref bp, .ref bl, .ref bh, .ref bq, .ref br, .ref bd, .int (jI bg), .int (jI bf)])), (bp, .inl (cA, 31, .inl (jA fp))), (bl, .inl (cA, 248, .inl (jA fl))), (bh, .inl (cA, 248, .inl (jA fh))), (oa, .inl (cL, 1, .inr (.inl (jAL fo))))] sz)) (va_Qi (fun (r : Int32) (u : Int × (Int → Int)) => r = jI u.1 ∧ u = f_XL_difference bg bf fp fl fh z1 z2 z3 fo) (fun u t => jE (dC, dI) [(cA, .int), (cL, .long)] [(ga, .inr (4, [.ref ta, .ref rda, .ref pa, .ref sa, .ref ea, .ref ba, .ref da])), (ba, .inr (0, [.ref bt, .ref bp, .ref bl, .ref bh, .ref bq, .ref br, .ref bd, .int (jI bg), .int (jI bf)])), (bp, .inl (cA, 31, .inl (jA fp))), (bl, .inl (cA, 248, .inl (jA fl))), (bh, .inl (cA, 248, .inl (jA fh))), (oa, .inl (cL, 1, .inr (.inl (jAL fo))))] sz [(ga, .inr (4, [.ref ta, .ref rda, .ref pa, .ref sa, .ref ea, .ref ba, .ref da])), (ba, .inr (0, [.ref bt, .ref bp, .ref bl, .ref bh, .ref bq, .ref br, .ref bd, .int (jI bg), .int (jI bf)])), (bp, .inl (cA, 31, .inl (jA fp))), (bl, .inl (cA, 248, .inl (jA fl))), (bh, .inl (cA, 248, .inl (jA fh))), (oa, .inl (cL, 1, .inr (.inl (jAL u.2))))] t) (va_A [(ga, .inr (4, [.ref ta, .ref rda, .ref pa, .ref sa, .ref ea, .ref ba, .ref da])), (ba, .inr (0, [.ref bt, .ref bp, .ref bl, .ref bh, .ref bq, .ref br, .ref bd, .int (jI bg), .int (jI bf)])), (bp, .inl (cA, 31, .inl (jA fp))), (bl, .inl (cA, 248, .inl (jA fl))), (bh, .inl (cA, 248, .inl (jA fh))), (oa, .inl (cL, 1, .inr (.inl (jAL fo))))] sz)) 1 6 1 6 (va_A [(ga, .inr (4, [.ref ta, .ref rda, .ref pa, .ref sa, .ref ea, .ref ba, .ref da])), (ba, .inr (0, [.ref bt, .ref bp, .ref bl, .ref bh, .ref bq, .ref br, .ref bd, .int (jI bg), .int (jI bf)])), (bp, .inl (cA, 31, .inl (jA fp))), (bl, .inl (cA, 248, .inl (jA fl))), (bh, .inl (cA, 248, .inl (jA fh))), (oa, .inl (cL, 1, .inr (.inl (jAL fo))))] sz) := by
  refine YMet.ofWH (cc := cXL_difference) (maxL := 6) (ret := some .int) (hh := [(0, 12, 15, 21)]) (by decide) rfl ?_
  intro p e s m args below meth c s₁ R Q hR hQ B hml htab hv
  obtain ⟨rfl, ⟨hsz, hP, hK, hD0, hN⟩, hX, hC⟩ := hv
  have hx := B.exec
  have hb := B.bytes
  have hr := B.returns
  have hts := atoms_spec (ws := Cond.codeWith yXL_difference cXL_difference 6 (some .int) [(0, 12, 15, 21)] :: TBL) B.pre
  have hown : s.vm.findClass RXL = some m.cls := findClass_of_methodNamed B.named
  have hlocks := B.notSynchronized
  subst hsz
  obtain ⟨A, hAe⟩ : ∃ A, A = va_A [(ga, .inr (4, [.ref ta, .ref rda, .ref pa, .ref sa, .ref ea, .ref ba, .ref da])), (ba, .inr (0, [.ref bt, .ref bp, .ref bl, .ref bh, .ref bq, .ref br, .ref bd, .int (jI bg), .int (jI bf)])), (bp, .inl (cA, 31, .inl (jA fp))), (bl, .inl (cA, 248, .inl (jA fl))), (bh, .inl (cA, 248, .inl (jA fh))), (oa, .inl (cL, 1, .inr (.inl (jAL fo))))] s.heap.size := ⟨_, rfl⟩
  have hD : va_D A [(ga, .inr (4, [.ref ta, .ref rda, .ref pa, .ref sa, .ref ea, .ref ba, .ref da])), (ba, .inr (0, [.ref bt, .ref bp, .ref bl, .ref bh, .ref bq, .ref br, .ref bd, .int (jI bg), .int (jI bf)])), (bp, .inl (cA, 31, .inl (jA fp))), (bl, .inl (cA, 248, .inl (jA fl))), (bh, .inl (cA, 248, .inl (jA fh))), (oa, .inl (cL, 1, .inr (.inl (jAL fo))))] := by rw [hAe]; exact hD0.self
  have hA : ∀ q : Nat, s.heap.size ≤ q → A q := fun q h => by rw [hAe]; exact Or.inr h
  have hS : va_S A s.heap s.heap [] := va_S.rf
  have hP : va_P (dC, dI) vwCl [(ga, .inr (4, [.ref ta, .ref rda, .ref pa, .ref sa, .ref ea, .ref ba, .ref da])), (ba, .inr (0, [.ref bt, .ref bp, .ref bl, .ref bh, .ref bq, .ref br, .ref bd, .int (jI bg), .int (jI bf)])), (bp, .inl (cA, 31, .inl (jA fp))), (bl, .inl (cA, 248, .inl (jA fl))), (bh, .inl (cA, 248, .inl (jA fh))), (oa, .inl (cL, 1, .inr (.inl (jAL fo))))] s.heap := hP
  have hl := lv_entry ([.ref ga, .int (jI z1), .int (jI z2), .int (jI z3), .ref oa]) (n := 6) (Nat.le_of_ble_eq_true rfl)
  rw [lg_entry_eq]
  generalize (lg_sl ([.ref ga, .int (jI z1), .int (jI z2), .int (jI z3), .ref oa]) ++ List.replicate (6 - (lg_sl ([.ref ga, .int (jI z1), .int (jI z2), .int (jI z3), .ref oa])).length) Slot.unset).toArray = ls at hl ⊢
  have hl : lv_has ls 6 [(0, .ref ga), (1, .int (jI z1)), (2, .int (jI z2)), (3, .int (jI z3)), (4, .ref oa)] := hl
  refine lv_aload hx hb dXL_difference_0 (lv_at hl 4 rfl) ?_
  refine ji_iconst hx hb dXL_difference_2 ?_
  refine lv_aload_n hx hb dXL_difference_3 rfl (lv_at hl 0 rfl) ?_
  refine lv_iload_n hx hb dXL_difference_4 rfl (lv_at hl 1 rfl) ?_
  refine lv_iload_n hx hb dXL_difference_5 rfl (lv_at hl 2 rfl) ?_
  refine lv_iload_n hx hb dXL_difference_6 rfl (lv_at hl 3 rfl) ?_
  refine ztRi (A := A) (rest := [.int (jI 0), .ref oa]) ⟨hx, hb, hml, hown, hts⟩ (c_XG_difference l hst dC dI cA ga ta rda pa sa ea ba da bt bp bl bh bq br bd bg bf fp fl fh z1 z2 z3 hbp hbl hbh hbg hi_z1 hi_z2 hi_z3) (cwV 3 hts (jG_V tw_566 tw_567 tw_568 tw_1 tw_569) rfl rfl rfl (by decide +kernel) (by rw [hR]; exact ⟨Nat.le_of_ble_eq_true rfl, Nat.le_of_ble_eq_true rfl⟩)) (va_K.sub hK [0] rfl) hP hN hX [0, 1, 2, 3, 4] rfl 0 4 rfl rfl rfl rfl hl.1 rfl (Nat.le_of_ble_eq_true rfl) dXL_difference_7 (by rw [hR]; exact ⟨Nat.le_of_ble_eq_true rfl, Nat.le_of_ble_eq_true rfl⟩) (fun hz => ?_) (fun hz x ce H1 L hP hS hce hcl hvm => ?_)
  · refine ji_re (y := jw ((f_XG_difference bg bf fp fl fh z1 z2 z3).2)) (jI_jw _).symm ?_
    refine ji_i2l hx hb dXL_difference_10 (jw_i _) ?_
    refine ji_last hx hb hK hP hD hS 5 1 rfl rfl ⟨by decide, by decide⟩ (by decide) dXL_difference_11 (fun H locs hP hD hS => ?_)
    have hP : va_P (dC, dI) vwCl [(ga, .inr (4, [.ref ta, .ref rda, .ref pa, .ref sa, .ref ea, .ref ba, .ref da])), (ba, .inr (0, [.ref bt, .ref bp, .ref bl, .ref bh, .ref bq, .ref br, .ref bd, .int (jI bg), .int (jI bf)])), (bp, .inl (cA, 31, .inl (jA fp))), (bl, .inl (cA, 248, .inl (jA fl))), (bh, .inl (cA, 248, .inl (jA fh))), (oa, .inl (cL, 1, .inr (.inl (jAL (jset fo 0 (jw ((f_XG_difference bg bf fp fl fh z1 z2 z3).2)))))))] H := hP
    have hD : va_D A [(ga, .inr (4, [.ref ta, .ref rda, .ref pa, .ref sa, .ref ea, .ref ba, .ref da])), (ba, .inr (0, [.ref bt, .ref bp, .ref bl, .ref bh, .ref bq, .ref br, .ref bd, .int (jI bg), .int (jI bf)])), (bp, .inl (cA, 31, .inl (jA fp))), (bl, .inl (cA, 248, .inl (jA fl))), (bh, .inl (cA, 248, .inl (jA fh))), (oa, .inl (cL, 1, .inr (.inl (jAL (jset fo 0 (jw ((f_XG_difference bg bf fp fl fh z1 z2 z3).2)))))))] := hD
    refine lv_goto (tgt := 19) hx hb dXL_difference_12 (by decide) ?_
    refine ji_iconst hx hb dXL_difference_19 ?_
    refine W.widen (k := 1) (n := 6) (Nat.le_of_ble_eq_true rfl) (Nat.le_of_ble_eq_true rfl) ?_
    have hP9 := hP.sub (ws' := [(ga, .inr (4, [.ref ta, .ref rda, .ref pa, .ref sa, .ref ea, .ref ba, .ref da])), (ba, .inr (0, [.ref bt, .ref bp, .ref bl, .ref bh, .ref bq, .ref br, .ref bd, .int (jI bg), .int (jI bf)])), (bp, .inl (cA, 31, .inl (jA fp))), (bl, .inl (cA, 248, .inl (jA fl))), (bh, .inl (cA, 248, .inl (jA fh))), (oa, .inl (cL, 1, .inr (.inl (jAL (jset fo 0 (jw ((f_XG_difference bg bf fp fl fh z1 z2 z3).2)))))))]) [0, 1, 2, 3, 4, 5] rfl
    have hD9 := hD.sub (ws' := [(ga, .inr (4, [.ref ta, .ref rda, .ref pa, .ref sa, .ref ea, .ref ba, .ref da])), (ba, .inr (0, [.ref bt, .ref bp, .ref bl, .ref bh, .ref bq, .ref br, .ref bd, .int (jI bg), .int (jI bf)])), (bp, .inl (cA, 31, .inl (jA fp))), (bl, .inl (cA, 248, .inl (jA fl))), (bh, .inl (cA, 248, .inl (jA fh))), (oa, .inl (cL, 1, .inr (.inl (jAL (jset fo 0 (jw ((f_XG_difference bg bf fp fl fh z1 z2 z3).2)))))))]) [0, 1, 2, 3, 4, 5] (by decide) rfl
    subst hAe
    subst hQ
    refine yW (fun _ h => yQ_of h) ?_
    exact W.iret (v := jI 0) hx hb hr (fun t ht hW => ⟨⟨_, (0, jset fo 0 (jw ((f_XG_difference bg bf fp fl fh z1 z2 z3).2))), rfl, ⟨rfl, by rw [f_XL_difference_s, if_pos hz]⟩, ⟨by rw [ht]; exact hP9, va_K.moved hW.alike hK, hD9⟩⟩, hS.F ht⟩) hS.2.2 dXL_difference_20
  · rcases f_XG_difference_e bg bf fp fl fh z1 z2 z3 with h9 | h9
    · exact absurd h9 hz
    · rw [h9, xCls_1] at hcl
      refine zOn1 htab hown ⟨by decide, by decide⟩ (by decide) (hts _ (jmem tw_407)) hX.c1 hce hcl hvm ?_
      refine lv_astore (lv' := [(5, .ref x), (0, .ref ga), (1, .int (jI z1)), (2, .int (jI z2)), (3, .int (jI z3)), (4, .ref oa)]) hx hb dXL_difference_15 hl (by decide) rfl (fun ls hl => ?_)
      refine ji_iconst hx hb dXL_difference_17 ?_
      refine W.widen (k := 1) (n := 6) (Nat.le_of_ble_eq_true rfl) (Nat.le_of_ble_eq_true rfl) ?_
      have hP9 := hP.sub (ws' := [(ga, .inr (4, [.ref ta, .ref rda, .ref pa, .ref sa, .ref ea, .ref ba, .ref da])), (ba, .inr (0, [.ref bt, .ref bp, .ref bl, .ref bh, .ref bq, .ref br, .ref bd, .int (jI bg), .int (jI bf)])), (bp, .inl (cA, 31, .inl (jA fp))), (bl, .inl (cA, 248, .inl (jA fl))), (bh, .inl (cA, 248, .inl (jA fh))), (oa, .inl (cL, 1, .inr (.inl (jAL fo))))]) [0, 1, 2, 3, 4, 5] rfl
      have hD9 := hD.sub (ws' := [(ga, .inr (4, [.ref ta, .ref rda, .ref pa, .ref sa, .ref ea, .ref ba, .ref da])), (ba, .inr (0, [.ref bt, .ref bp, .ref bl, .ref bh, .ref bq, .ref br, .ref bd, .int (jI bg), .int (jI bf)])), (bp, .inl (cA, 31, .inl (jA fp))), (bl, .inl (cA, 248, .inl (jA fl))), (bh, .inl (cA, 248, .inl (jA fh))), (oa, .inl (cL, 1, .inr (.inl (jAL fo))))]) [0, 1, 2, 3, 4, 5] (by decide) rfl
      subst hAe
      subst hQ
      refine yW (fun _ h => yQ_of h) ?_
      exact W.iret (v := jI 1) hx hb hr (fun t ht hW => ⟨⟨_, (1, fo), rfl, ⟨rfl, by rw [f_XL_difference_s, if_neg hz]⟩, ⟨by rw [ht]; exact hP9, va_K.moved hW.alike hK, hD9⟩⟩, hS.F ht⟩) hS.2.2 dXL_difference_18
noncomputable def g_XL_write (bg : Int) (bf : Int) (ft : Int → Int) (fl : Int → Int) (fh : Int → Int) (fq : Int → Int) (fr : Int → Int) (pn : Int) (pf : Int → Int) (z1 : Int) (fo : Int → Int) : Int × (Int → Int) × Int × (Int → Int) :=
  if (f_XG_write bg bf ft fl fh fq fr pn pf z1).1 = 0 then
    (0, jset fo 0 (jw ((f_XG_write bg bf ft fl fh fq fr pn pf z1).2.1)), (f_XG_write bg bf ft fl fh fq fr pn pf z1).2.2.1, (f_XG_write bg bf ft fl fh fq fr pn pf z1).2.2.2)
  else
    (1, fo, pn, pf)
noncomputable def f_XL_write : Int → Int → (Int → Int) → (Int → Int) → (Int → Int) → (Int → Int) → (Int → Int) → Int → (Int → Int) → Int → (Int → Int) → Int × (Int → Int) × Int × (Int → Int) := jopq g_XL_write
theorem f_XL_write_q : f_XL_write = g_XL_write := jopq_eq _
theorem f_XL_write_s (bg : Int) (bf : Int) (ft : Int → Int) (fl : Int → Int) (fh : Int → Int) (fq : Int → Int) (fr : Int → Int) (pn : Int) (pf : Int → Int) (z1 : Int) (fo : Int → Int) : f_XL_write bg bf ft fl fh fq fr pn pf z1 fo = (
    if (f_XG_write bg bf ft fl fh fq fr pn pf z1).1 = 0 then
      (0, jset fo 0 (jw ((f_XG_write bg bf ft fl fh fq fr pn pf z1).2.1)), (f_XG_write bg bf ft fl fh fq fr pn pf z1).2.2.1, (f_XG_write bg bf ft fl fh fq fr pn pf z1).2.2.2)
    else
      (1, fo, pn, pf)
  : Int × (Int → Int) × Int × (Int → Int)) := by rw [f_XL_write_q]; rfl
set_option maxHeartbeats 4000000 in
set_option maxRecDepth 100000 in
theorem c_XL_write (l : Launch) (hst : l.stackTraces = false) (dC : Nat → ClassId) (dI : Nat → Nat → Nat) (cA cL : ClassId) (sz : Nat) (ga : Nat) (ta : Nat) (rda : Nat) (pa : Nat) (sa : Nat) (ea : Nat) (ba : Nat) (da : Nat) (bt : Nat) (bp : Nat) (bl : Nat) (bh : Nat) (bq : Nat) (br : Nat) (bd : Nat) (bg : Int) (bf : Int) (ft : Int → Int) (fl : Int → Int) (fh : Int → Int) (fq : Int → Int) (fr : Int → Int) (ps : Nat) (pn : Int) (pf : Int → Int) (z1 : Int) (oa : Nat) (fo : Int → Int) (hbt : ∀ i, 0 ≤ ft i ∧ ft i ≤ 30) (hbl : ∀ i, 0 ≤ fl i ∧ fl i ≤ 100000) (hbh : ∀ i, -1 ≤ fh i ∧ fh i ≤ 100000) (hbq : ∀ i, -1 ≤ fq i ∧ fq i ≤ 999999) (hbr : ∀ i, 0 ≤ fr i ∧ fr i < 2147483648) (hbg : 0 ≤ bg ∧ bg < 2147483648) (hpn : 0 ≤ pn ∧ pn ≤ 160) (hi_z1 : i32 z1) : YMet l yXL_write (Cond.codeWith yXL_write cXL_write 4 (some .int) [(0, 9, 12, 21)] :: TBL) ({ frames := 8, cells := 1, slots := 6, locals := 124 } : Room) (va_Pc [.ref ga, .int (jI z1), .ref oa] (jBc (dC, dI) [(cA, .int), (cL, .long)] [(ga, .inr (4, [.ref ta, .ref rda, .ref pa, .ref sa, .ref ea, .ref ba, .ref da])), (ba, .inr (0, [.ref bt, .ref bp, .ref bl, .ref bh, .ref bq, .ref br, .ref bd, .int (jI bg), .int (jI bf)])), (bt, .inl (cA, 31, .inl (jA ft))), (bl, .inl (cA, 248, .inl (jA fl))), (bh, .inl (cA, 248, .inl (jA fh))), (bq, .inl (cA, 124, .inl (jA fq))), (br, .inl (cA, 31, .inl (jA fr))), (pa, .inr (1, [.ref ps, .int (jI pn)])), (ps, .inl (cA, 160, .inl (jA pf))), (oa, .inl (cL, 1, .inr (.inl (jAL fo))))] sz)) (va_Qi (fun (r : Int32) (u : Int × (Int → Int) × Int × (Int → Int)) => r = jI u.1 ∧ u = f_XL_write bg bf ft fl fh fq fr pn pf z1 fo ∧ (0 ≤ u.2.2.1 ∧ u.2.2.1 ≤ 160)) (fun u t => jE (dC, dI) [(cA, .int), (cL, .long)] [(ga, .inr (4, [.ref ta, .ref rda, .ref pa, .ref sa, .ref ea, .ref ba, .ref da])), (ba, .inr (0, [.ref bt, .ref bp, .ref bl, .ref bh, .ref bq, .ref br, .ref bd, .int (jI bg), .int (jI bf)])), (bt, .inl (cA, 31, .inl (jA ft))), (bl, .inl (cA, 248, .inl (jA fl))), (bh, .inl (cA, 248, .inl (jA fh))), (bq, .inl (cA, 124, .inl (jA fq))), (br, .inl (cA, 31, .inl (jA fr))), (pa, .inr (1, [.ref ps, .int (jI pn)])), (ps, .inl (cA, 160, .inl (jA pf))), (oa, .inl (cL, 1, .inr (.inl (jAL fo))))] sz [(ga, .inr (4, [.ref ta, .ref rda, .ref pa, .ref sa, .ref ea, .ref ba, .ref da])), (ba, .inr (0, [.ref bt, .ref bp, .ref bl, .ref bh, .ref bq, .ref br, .ref bd, .int (jI bg), .int (jI bf)])), (bt, .inl (cA, 31, .inl (jA ft))), (bl, .inl (cA, 248, .inl (jA fl))), (bh, .inl (cA, 248, .inl (jA fh))), (bq, .inl (cA, 124, .inl (jA fq))), (br, .inl (cA, 31, .inl (jA fr))), (pa, .inr (1, [.ref ps, .int (jI u.2.2.1)])), (ps, .inl (cA, 160, .inl (jA u.2.2.2))), (oa, .inl (cL, 1, .inr (.inl (jAL u.2.1))))] t) (va_A [(ga, .inr (4, [.ref ta, .ref rda, .ref pa, .ref sa, .ref ea, .ref ba, .ref da])), (ba, .inr (0, [.ref bt, .ref bp, .ref bl, .ref bh, .ref bq, .ref br, .ref bd, .int (jI bg), .int (jI bf)])), (bt, .inl (cA, 31, .inl (jA ft))), (bl, .inl (cA, 248, .inl (jA fl))), (bh, .inl (cA, 248, .inl (jA fh))), (bq, .inl (cA, 124, .inl (jA fq))), (br, .inl (cA, 31, .inl (jA fr))), (pa, .inr (1, [.ref ps, .int (jI pn)])), (ps, .inl (cA, 160, .inl (jA pf))), (oa, .inl (cL, 1, .inr (.inl (jAL fo))))] sz)) 1 6 1 6 (va_A [(ga, .inr (4, [.ref ta, .ref rda, .ref pa, .ref sa, .ref ea, .ref ba, .ref da])), (ba, .inr (0, [.ref bt, .ref bp, .ref bl, .ref bh, .ref bq, .ref br, .ref bd, .int (jI bg), .int (jI bf)])), (bt, .inl (cA, 31, .inl (jA ft))), (bl, .inl (cA, 248, .inl (jA fl))), (bh, .inl (cA, 248, .inl (jA fh))), (bq, .inl (cA, 124, .inl (jA fq))), (br, .inl (cA, 31, .inl (jA fr))), (pa, .inr (1, [.ref ps, .int (jI pn)])), (ps, .inl (cA, 160, .inl (jA pf))), (oa, .inl (cL, 1, .inr (.inl (jAL fo))))] sz) := by
  refine YMet.ofWH (cc := cXL_write) (maxL := 4) (ret := some .int) (hh := [(0, 9, 12, 21)]) (by decide) rfl ?_
  intro p e s m args below meth c s₁ R Q hR hQ B hml htab hv
  obtain ⟨rfl, ⟨hsz, hP, hK, hD0, hN⟩, hX, hC⟩ := hv
  have hx := B.exec
  have hb := B.bytes
  have hr := B.returns
  have hts := atoms_spec (ws := Cond.codeWith yXL_write cXL_write 4 (some .int) [(0, 9, 12, 21)] :: TBL) B.pre
  have hown : s.vm.findClass RXL = some m.cls := findClass_of_methodNamed B.named
  have hlocks := B.notSynchronized
  subst hsz
  obtain ⟨A, hAe⟩ : ∃ A, A = va_A [(ga, .inr (4, [.ref ta, .ref rda, .ref pa, .ref sa, .ref ea, .ref ba, .ref da])), (ba, .inr (0, [.ref bt, .ref bp, .ref bl, .ref bh, .ref bq, .ref br, .ref bd, .int (jI bg), .int (jI bf)])), (bt, .inl (cA, 31, .inl (jA ft))), (bl, .inl (cA, 248, .inl (jA fl))), (bh, .inl (cA, 248, .inl (jA fh))), (bq, .inl (cA, 124, .inl (jA fq))), (br, .inl (cA, 31, .inl (jA fr))), (pa, .inr (1, [.ref ps, .int (jI pn)])), (ps, .inl (cA, 160, .inl (jA pf))), (oa, .inl (cL, 1, .inr (.inl (jAL fo))))] s.heap.size := ⟨_, rfl⟩
  have hD : va_D A [(ga, .inr (4, [.ref ta, .ref rda, .ref pa, .ref sa, .ref ea, .ref ba, .ref da])), (ba, .inr (0, [.ref bt, .ref bp, .ref bl, .ref bh, .ref bq, .ref br, .ref bd, .int (jI bg), .int (jI bf)])), (bt, .inl (cA, 31, .inl (jA ft))), (bl, .inl (cA, 248, .inl (jA fl))), (bh, .inl (cA, 248, .inl (jA fh))), (bq, .inl (cA, 124, .inl (jA fq))), (br, .inl (cA, 31, .inl (jA fr))), (pa, .inr (1, [.ref ps, .int (jI pn)])), (ps, .inl (cA, 160, .inl (jA pf))), (oa, .inl (cL, 1, .inr (.inl (jAL fo))))] := by rw [hAe]; exact hD0.self
  have hA : ∀ q : Nat, s.heap.size ≤ q → A q := fun q h => by rw [hAe]; exact Or.inr h
  have hS : va_S A s.heap s.heap [] := va_S.rf
  have hP : va_P (dC, dI) vwCl [(ga, .inr (4, [.ref ta, .ref rda, .ref pa, .ref sa, .ref ea, .ref ba, .ref da])), (ba, .inr (0, [.ref bt, .ref bp, .ref bl, .ref bh, .ref bq, .ref br, .ref bd, .int (jI bg), .int (jI bf)])), (bt, .inl (cA, 31, .inl (jA ft))), (bl, .inl (cA, 248, .inl (jA fl))), (bh, .inl (cA, 248, .inl (jA fh))), (bq, .inl (cA, 124, .inl (jA fq))), (br, .inl (cA, 31, .inl (jA fr))), (pa, .inr (1, [.ref ps, .int (jI pn)])), (ps, .inl (cA, 160, .inl (jA pf))), (oa, .inl (cL, 1, .inr (.inl (jAL fo))))] s.heap := hP
  have hl := lv_entry ([.ref ga, .int (jI z1), .ref oa]) (n := 4) (Nat.le_of_ble_eq_true rfl)
  rw [lg_entry_eq]
  generalize (lg_sl ([.ref ga, .int (jI z1), .ref oa]) ++ List.replicate (4 - (lg_sl ([.ref ga, .int (jI z1), .ref oa])).length) Slot.unset).toArray = ls at hl ⊢
  have hl : lv_has ls 4 [(0, .ref ga), (1, .int (jI z1)), (2, .ref oa)] := hl
  refine lv_aload_n hx hb dXL_write_0 rfl (lv_at hl 2 rfl) ?_
  refine ji_iconst hx hb dXL_write_1 ?_
  refine lv_aload_n hx hb dXL_write_2 rfl (lv_at hl 0 rfl) ?_
  refine lv_iload_n hx hb dXL_write_3 rfl (lv_at hl 1 rfl) ?_
  refine ztWi (A := A) (wr := [(oa, .inl (cL, 1, .inr (.inl (jAL fo))))]) (rest := [.int (jI 0), .ref oa]) ⟨hx, hb, hml, hown, hts⟩ (c_XG_write l hst dC dI cA _ ga ta rda pa sa ea ba da bt bp bl bh bq br bd bg bf ft fl fh fq fr ps pn pf z1 hbt hbl hbh hbq hbr hbg hpn hi_z1) (cwV 1 hts (jG_V tw_573 tw_574 tw_575 tw_1 tw_576) rfl rfl rfl (by decide +kernel) (by rw [hR]; exact ⟨Nat.le_of_ble_eq_true rfl, Nat.le_of_ble_eq_true rfl⟩)) (va_K.sub hK [0] rfl) hP hD hA hN hX [0, 1, 2, 3, 4, 5, 6, 7, 8] [9] rfl rfl (by decide) (by decide) (by decide) 0 4 rfl rfl rfl rfl hl.1 rfl (Nat.le_of_ble_eq_true rfl) dXL_write_4 (by rw [hR]; exact ⟨Nat.le_of_ble_eq_true rfl, Nat.le_of_ble_eq_true rfl⟩) (fun hz r9 u9 H locs hp9 hP hD hS => ?_) (fun hz x ce H1 L hP hS hce hcl hvm => ?_)
  · obtain ⟨er, hu, f0⟩ := hp9
    subst er
    subst hu
    have hP : va_P (dC, dI) vwCl [(oa, .inl (cL, 1, .inr (.inl (jAL fo)))), (ga, .inr (4, [.ref ta, .ref rda, .ref pa, .ref sa, .ref ea, .ref ba, .ref da])), (ba, .inr (0, [.ref bt, .ref bp, .ref bl, .ref bh, .ref bq, .ref br, .ref bd, .int (jI bg), .int (jI bf)])), (bt, .inl (cA, 31, .inl (jA ft))), (bl, .inl (cA, 248, .inl (jA fl))), (bh, .inl (cA, 248, .inl (jA fh))), (bq, .inl (cA, 124, .inl (jA fq))), (br, .inl (cA, 31, .inl (jA fr))), (pa, .inr (1, [.ref ps, .int (jI ((f_XG_write bg bf ft fl fh fq fr pn pf z1).2.2.1))])), (ps, .inl (cA, 160, .inl (jA ((f_XG_write bg bf ft fl fh fq fr pn pf z1).2.2.2))))] H := hP
    have hD : va_D A [(oa, .inl (cL, 1, .inr (.inl (jAL fo)))), (ga, .inr (4, [.ref ta, .ref rda, .ref pa, .ref sa, .ref ea, .ref ba, .ref da])), (ba, .inr (0, [.ref bt, .ref bp, .ref bl, .ref bh, .ref bq, .ref br, .ref bd, .int (jI bg), .int (jI bf)])), (bt, .inl (cA, 31, .inl (jA ft))), (bl, .inl (cA, 248, .inl (jA fl))), (bh, .inl (cA, 248, .inl (jA fh))), (bq, .inl (cA, 124, .inl (jA fq))), (br, .inl (cA, 31, .inl (jA fr))), (pa, .inr (1, [.ref ps, .int (jI ((f_XG_write bg bf ft fl fh fq fr pn pf z1).2.2.1))])), (ps, .inl (cA, 160, .inl (jA ((f_XG_write bg bf ft fl fh fq fr pn pf z1).2.2.2))))] := hD
    refine ji_re (y := jw ((f_XG_write bg bf ft fl fh fq fr pn pf z1).2.1)) (jI_jw _).symm ?_
    refine ji_i2l hx hb dXL_write_7 (jw_i _) ?_
    refine ji_last hx hb hK hP hD hS 0 1 rfl rfl ⟨by decide, by decide⟩ (by decide) dXL_write_8 (fun H locs hP hD hS => ?_)
    have hP : va_P (dC, dI) vwCl [(oa, .inl (cL, 1, .inr (.inl (jAL (jset fo 0 (jw ((f_XG_write bg bf ft fl fh fq fr pn pf z1).2.1))))))), (ga, .inr (4, [.ref ta, .ref rda, .ref pa, .ref sa, .ref ea, .ref ba, .ref da])), (ba, .inr (0, [.ref bt, .ref bp, .ref bl, .ref bh, .ref bq, .ref br, .ref bd, .int (jI bg), .int (jI bf)])), (bt, .inl (cA, 31, .inl (jA ft))), (bl, .inl (cA, 248, .inl (jA fl))), (bh, .inl (cA, 248, .inl (jA fh))), (bq, .inl (cA, 124, .inl (jA fq))), (br, .inl (cA, 31, .inl (jA fr))), (pa, .inr (1, [.ref ps, .int (jI ((f_XG_write bg bf ft fl fh fq fr pn pf z1).2.2.1))])), (ps, .inl (cA, 160, .inl (jA ((f_XG_write bg bf ft fl fh fq fr pn pf z1).2.2.2))))] H := hP
    have hD : va_D A [(oa, .inl (cL, 1, .inr (.inl (jAL (jset fo 0 (jw ((f_XG_write bg bf ft fl fh fq fr pn pf z1).2.1))))))), (ga, .inr (4, [.ref ta, .ref rda, .ref pa, .ref sa, .ref ea, .ref ba, .ref da])), (ba, .inr (0, [.ref bt, .ref bp, .ref bl, .ref bh, .ref bq, .ref br, .ref bd, .int (jI bg), .int (jI bf)])), (bt, .inl (cA, 31, .inl (jA ft))), (bl, .inl (cA, 248, .inl (jA fl))), (bh, .inl (cA, 248, .inl (jA fh))), (bq, .inl (cA, 124, .inl (jA fq))), (br, .inl (cA, 31, .inl (jA fr))), (pa, .inr (1, [.ref ps, .int (jI ((f_XG_write bg bf ft fl fh fq fr pn pf z1).2.2.1))])), (ps, .inl (cA, 160, .inl (jA ((f_XG_write bg bf ft fl fh fq fr pn pf z1).2.2.2))))] := hD
    refine lv_goto (tgt := 15) hx hb dXL_write_9 (by decide) ?_
    refine ji_iconst hx hb dXL_write_15 ?_
    refine W.widen (k := 1) (n := 6) (Nat.le_of_ble_eq_true rfl) (Nat.le_of_ble_eq_true rfl) ?_
    have hP9 := hP.sub (ws' := [(ga, .inr (4, [.ref ta, .ref rda, .ref pa, .ref sa, .ref ea, .ref ba, .ref da])), (ba, .inr (0, [.ref bt, .ref bp, .ref bl, .ref bh, .ref bq, .ref br, .ref bd, .int (jI bg), .int (jI bf)])), (bt, .inl (cA, 31, .inl (jA ft))), (bl, .inl (cA, 248, .inl (jA fl))), (bh, .inl (cA, 248, .inl (jA fh))), (bq, .inl (cA, 124, .inl (jA fq))), (br, .inl (cA, 31, .inl (jA fr))), (pa, .inr (1, [.ref ps, .int (jI ((f_XG_write bg bf ft fl fh fq fr pn pf z1).2.2.1))])), (ps, .inl (cA, 160, .inl (jA ((f_XG_write bg bf ft fl fh fq fr pn pf z1).2.2.2)))), (oa, .inl (cL, 1, .inr (.inl (jAL (jset fo 0 (jw ((f_XG_write bg bf ft fl fh fq fr pn pf z1).2.1)))))))]) [1, 2, 3, 4, 5, 6, 7, 8, 9, 0] rfl
    have hD9 := hD.sub (ws' := [(ga, .inr (4, [.ref ta, .ref rda, .ref pa, .ref sa, .ref ea, .ref ba, .ref da])), (ba, .inr (0, [.ref bt, .ref bp, .ref bl, .ref bh, .ref bq, .ref br, .ref bd, .int (jI bg), .int (jI bf)])), (bt, .inl (cA, 31, .inl (jA ft))), (bl, .inl (cA, 248, .inl (jA fl))), (bh, .inl (cA, 248, .inl (jA fh))), (bq, .inl (cA, 124, .inl (jA fq))), (br, .inl (cA, 31, .inl (jA fr))), (pa, .inr (1, [.ref ps, .int (jI ((f_XG_write bg bf ft fl fh fq fr pn pf z1).2.2.1))])), (ps, .inl (cA, 160, .inl (jA ((f_XG_write bg bf ft fl fh fq fr pn pf z1).2.2.2)))), (oa, .inl (cL, 1, .inr (.inl (jAL (jset fo 0 (jw ((f_XG_write bg bf ft fl fh fq fr pn pf z1).2.1)))))))]) [1, 2, 3, 4, 5, 6, 7, 8, 9, 0] (by decide) rfl
    subst hAe
    subst hQ
    refine yW (fun _ h => yQ_of h) ?_
    exact W.iret (v := jI 0) hx hb hr (fun t ht hW => ⟨⟨_, (0, jset fo 0 (jw ((f_XG_write bg bf ft fl fh fq fr pn pf z1).2.1)), (f_XG_write bg bf ft fl fh fq fr pn pf z1).2.2.1, (f_XG_write bg bf ft fl fh fq fr pn pf z1).2.2.2), rfl, ⟨rfl, by rw [f_XL_write_s, if_pos hz], by first | assumption | omega⟩, ⟨by rw [ht]; exact hP9, va_K.moved hW.alike hK, hD9⟩⟩, hS.F ht⟩) hS.2.2 dXL_write_16
  · rcases f_XG_write_e bg bf ft fl fh fq fr pn pf z1 with h9 | h9
    · exact absurd h9 hz
    · rw [h9, xCls_1] at hcl
      refine zOn1 htab hown ⟨by decide, by decide⟩ (by decide) (hts _ (jmem tw_407)) hX.c1 hce hcl hvm ?_
      refine lv_astore_n (lv' := [(3, .ref x), (0, .ref ga), (1, .int (jI z1)), (2, .ref oa)]) hx hb dXL_write_12 rfl hl (by decide) rfl (fun ls hl => ?_)
      refine ji_iconst hx hb dXL_write_13 ?_
      refine W.widen (k := 1) (n := 6) (Nat.le_of_ble_eq_true rfl) (Nat.le_of_ble_eq_true rfl) ?_
      have hP9 := hP.sub (ws' := [(ga, .inr (4, [.ref ta, .ref rda, .ref pa, .ref sa, .ref ea, .ref ba, .ref da])), (ba, .inr (0, [.ref bt, .ref bp, .ref bl, .ref bh, .ref bq, .ref br, .ref bd, .int (jI bg), .int (jI bf)])), (bt, .inl (cA, 31, .inl (jA ft))), (bl, .inl (cA, 248, .inl (jA fl))), (bh, .inl (cA, 248, .inl (jA fh))), (bq, .inl (cA, 124, .inl (jA fq))), (br, .inl (cA, 31, .inl (jA fr))), (pa, .inr (1, [.ref ps, .int (jI pn)])), (ps, .inl (cA, 160, .inl (jA pf))), (oa, .inl (cL, 1, .inr (.inl (jAL fo))))]) [0, 1, 2, 3, 4, 5, 6, 7, 8, 9] rfl
      have hD9 := hD.sub (ws' := [(ga, .inr (4, [.ref ta, .ref rda, .ref pa, .ref sa, .ref ea, .ref ba, .ref da])), (ba, .inr (0, [.ref bt, .ref bp, .ref bl, .ref bh, .ref bq, .ref br, .ref bd, .int (jI bg), .int (jI bf)])), (bt, .inl (cA, 31, .inl (jA ft))), (bl, .inl (cA, 248, .inl (jA fl))), (bh, .inl (cA, 248, .inl (jA fh))), (bq, .inl (cA, 124, .inl (jA fq))), (br, .inl (cA, 31, .inl (jA fr))), (pa, .inr (1, [.ref ps, .int (jI pn)])), (ps, .inl (cA, 160, .inl (jA pf))), (oa, .inl (cL, 1, .inr (.inl (jAL fo))))]) [0, 1, 2, 3, 4, 5, 6, 7, 8, 9] (by decide) rfl
      subst hAe
      subst hQ
      refine yW (fun _ h => yQ_of h) ?_
      exact W.iret (v := jI 1) hx hb hr (fun t ht hW => ⟨⟨_, (1, fo, pn, pf), rfl, ⟨rfl, by rw [f_XL_write_s, if_neg hz], by first | assumption | omega⟩, ⟨by rw [ht]; exact hP9, va_K.moved hW.alike hK, hD9⟩⟩, hS.F ht⟩) hS.2.2 dXL_write_14
noncomputable def g_XL_at (pn : Int) (pf : Int → Int) (z1 : Int) (fo : Int → Int) : Int × (Int → Int) :=
  if (f_XG_at pn pf z1).1 = 0 then
    (0, jset fo 0 (jw ((f_XG_at pn pf z1).2)))
  else
    (1, fo)
noncomputable def f_XL_at : Int → (Int → Int) → Int → (Int → Int) → Int × (Int → Int) := jopq g_XL_at
theorem f_XL_at_q : f_XL_at = g_XL_at := jopq_eq _
theorem f_XL_at_s (pn : Int) (pf : Int → Int) (z1 : Int) (fo : Int → Int) : f_XL_at pn pf z1 fo = (
    if (f_XG_at pn pf z1).1 = 0 then
      (0, jset fo 0 (jw ((f_XG_at pn pf z1).2)))
    else
      (1, fo)
  : Int × (Int → Int)) := by rw [f_XL_at_q]; rfl
set_option maxHeartbeats 4000000 in
set_option maxRecDepth 100000 in
theorem c_XL_at (l : Launch) (hst : l.stackTraces = false) (dC : Nat → ClassId) (dI : Nat → Nat → Nat) (cA cL : ClassId) (sz : Nat) (ga : Nat) (ta : Nat) (rda : Nat) (pa : Nat) (sa : Nat) (ea : Nat) (ba : Nat) (da : Nat) (ps : Nat) (pn : Int) (pf : Int → Int) (z1 : Int) (oa : Nat) (fo : Int → Int) (hpn : 0 ≤ pn ∧ pn ≤ 160) (hi_z1 : i32 z1) : YMet l yXL_at (Cond.codeWith yXL_at cXL_at 4 (some .int) [(0, 9, 12, 21)] :: TBL) ({ frames := 8, cells := 1, slots := 6, locals := 123 } : Room) (va_Pc [.ref ga, .int (jI z1), .ref oa] (jBc (dC, dI) [(cA, .int), (cL, .long)] [(ga, .inr (4, [.ref ta, .ref rda, .ref pa, .ref sa, .ref ea, .ref ba, .ref da])), (pa, .inr (1, [.ref ps, .int (jI pn)])), (ps, .inl (cA, 160, .inl (jA pf))), (oa, .inl (cL, 1, .inr (.inl (jAL fo))))] sz)) (va_Qi (fun (r : Int32) (u : Int × (Int → Int)) => r = jI u.1 ∧ u = f_XL_at pn pf z1 fo) (fun u t => jE (dC, dI) [(cA, .int), (cL, .long)] [(ga, .inr (4, [.ref ta, .ref rda, .ref pa, .ref sa, .ref ea, .ref ba, .ref da])), (pa, .inr (1, [.ref ps, .int (jI pn)])), (ps, .inl (cA, 160, .inl (jA pf))), (oa, .inl (cL, 1, .inr (.inl (jAL fo))))] sz [(ga, .inr (4, [.ref ta, .ref rda, .ref pa, .ref sa, .ref ea, .ref ba, .ref da])), (pa, .inr (1, [.ref ps, .int (jI pn)])), (ps, .inl (cA, 160, .inl (jA pf))), (oa, .inl (cL, 1, .inr (.inl (jAL u.2))))] t) (va_A [(ga, .inr (4, [.ref ta, .ref rda, .ref pa, .ref sa, .ref ea, .ref ba, .ref da])), (pa, .inr (1, [.ref ps, .int (jI pn)])), (ps, .inl (cA, 160, .inl (jA pf))), (oa, .inl (cL, 1, .inr (.inl (jAL fo))))] sz)) 1 6 1 6 (va_A [(ga, .inr (4, [.ref ta, .ref rda, .ref pa, .ref sa, .ref ea, .ref ba, .ref da])), (pa, .inr (1, [.ref ps, .int (jI pn)])), (ps, .inl (cA, 160, .inl (jA pf))), (oa, .inl (cL, 1, .inr (.inl (jAL fo))))] sz) := by
  refine YMet.ofWH (cc := cXL_at) (maxL := 4) (ret := some .int) (hh := [(0, 9, 12, 21)]) (by decide) rfl ?_
  intro p e s m args below meth c s₁ R Q hR hQ B hml htab hv
  obtain ⟨rfl, ⟨hsz, hP, hK, hD0, hN⟩, hX, hC⟩ := hv
  have hx := B.exec
  have hb := B.bytes
  have hr := B.returns
  have hts := atoms_spec (ws := Cond.codeWith yXL_at cXL_at 4 (some .int) [(0, 9, 12, 21)] :: TBL) B.pre
  have hown : s.vm.findClass RXL = some m.cls := findClass_of_methodNamed B.named
  have hlocks := B.notSynchronized
  subst hsz
  obtain ⟨A, hAe⟩ : ∃ A, A = va_A [(ga, .inr (4, [.ref ta, .ref rda, .ref pa, .ref sa, .ref ea, .ref ba, .ref da])), (pa, .inr (1, [.ref ps, .int (jI pn)])), (ps, .inl (cA, 160, .inl (jA pf))), (oa, .inl (cL, 1, .inr (.inl (jAL fo))))] s.heap.size := ⟨_, rfl⟩
  have hD : va_D A [(ga, .inr (4, [.ref ta, .ref rda, .ref pa, .ref sa, .ref ea, .ref ba, .ref da])), (pa, .inr (1, [.ref ps, .int (jI pn)])), (ps, .inl (cA, 160, .inl (jA pf))), (oa, .inl (cL, 1, .inr (.inl (jAL fo))))] := by rw [hAe]; exact hD0.self
  have hA : ∀ q : Nat, s.heap.size ≤ q → A q := fun q h => by rw [hAe]; exact Or.inr h
  have hS : va_S A s.heap s.heap [] := va_S.rf
  have hP : va_P (dC, dI) vwCl [(ga, .inr (4, [.ref ta, .ref rda, .ref pa, .ref sa, .ref ea, .ref ba, .ref da])), (pa, .inr (1, [.ref ps, .int (jI pn)])), (ps, .inl (cA, 160, .inl (jA pf))), (oa, .inl (cL, 1, .inr (.inl (jAL fo))))] s.heap := hP
  have hl := lv_entry ([.ref ga, .int (jI z1), .ref oa]) (n := 4) (Nat.le_of_ble_eq_true rfl)
  rw [lg_entry_eq]
  generalize (lg_sl ([.ref ga, .int (jI z1), .ref oa]) ++ List.replicate (4 - (lg_sl ([.ref ga, .int (jI z1), .ref oa])).length) Slot.unset).toArray = ls at hl ⊢
  have hl : lv_has ls 4 [(0, .ref ga), (1, .int (jI z1)), (2, .ref oa)] := hl
  refine lv_aload_n hx hb dXL_at_0 rfl (lv_at hl 2 rfl) ?_
  refine ji_iconst hx hb dXL_at_1 ?_
  refine lv_aload_n hx hb dXL_at_2 rfl (lv_at hl 0 rfl) ?_
  refine lv_iload_n hx hb dXL_at_3 rfl (lv_at hl 1 rfl) ?_
  refine ztRi (A := A) (rest := [.int (jI 0), .ref oa]) ⟨hx, hb, hml, hown, hts⟩ (c_XG_at l hst dC dI cA ga ta rda pa sa ea ba da ps pn pf z1 hpn hi_z1) (cwV 1 hts (jG_V tw_614 tw_615 tw_616 tw_1 tw_617) rfl rfl rfl (by decide +kernel) (by rw [hR]; exact ⟨Nat.le_of_ble_eq_true rfl, Nat.le_of_ble_eq_true rfl⟩)) (va_K.sub hK [0] rfl) hP hN hX [0, 1, 2] rfl 0 4 rfl rfl rfl rfl hl.1 rfl (Nat.le_of_ble_eq_true rfl) dXL_at_4 (by rw [hR]; exact ⟨Nat.le_of_ble_eq_true rfl, Nat.le_of_ble_eq_true rfl⟩) (fun hz => ?_) (fun hz x ce H1 L hP hS hce hcl hvm => ?_)
  · refine ji_re (y := jw ((f_XG_at pn pf z1).2)) (jI_jw _).symm ?_
    refine ji_i2l hx hb dXL_at_7 (jw_i _) ?_
    refine ji_last hx hb hK hP hD hS 3 1 rfl rfl ⟨by decide, by decide⟩ (by decide) dXL_at_8 (fun H locs hP hD hS => ?_)
    have hP : va_P (dC, dI) vwCl [(ga, .inr (4, [.ref ta, .ref rda, .ref pa, .ref sa, .ref ea, .ref ba, .ref da])), (pa, .inr (1, [.ref ps, .int (jI pn)])), (ps, .inl (cA, 160, .inl (jA pf))), (oa, .inl (cL, 1, .inr (.inl (jAL (jset fo 0 (jw ((f_XG_at pn pf z1).2)))))))] H := hP
    have hD : va_D A [(ga, .inr (4, [.ref ta, .ref rda, .ref pa, .ref sa, .ref ea, .ref ba, .ref da])), (pa, .inr (1, [.ref ps, .int (jI pn)])), (ps, .inl (cA, 160, .inl (jA pf))), (oa, .inl (cL, 1, .inr (.inl (jAL (jset fo 0 (jw ((f_XG_at pn pf z1).2)))))))] := hD
    refine lv_goto (tgt := 15) hx hb dXL_at_9 (by decide) ?_
    refine ji_iconst hx hb dXL_at_15 ?_
    refine W.widen (k := 1) (n := 6) (Nat.le_of_ble_eq_true rfl) (Nat.le_of_ble_eq_true rfl) ?_
    have hP9 := hP.sub (ws' := [(ga, .inr (4, [.ref ta, .ref rda, .ref pa, .ref sa, .ref ea, .ref ba, .ref da])), (pa, .inr (1, [.ref ps, .int (jI pn)])), (ps, .inl (cA, 160, .inl (jA pf))), (oa, .inl (cL, 1, .inr (.inl (jAL (jset fo 0 (jw ((f_XG_at pn pf z1).2)))))))]) [0, 1, 2, 3] rfl
    have hD9 := hD.sub (ws' := [(ga, .inr (4, [.ref ta, .ref rda, .ref pa, .ref sa, .ref ea, .ref ba, .ref da])), (pa, .inr (1, [.ref ps, .int (jI pn)])), (ps, .inl (cA, 160, .inl (jA pf))), (oa, .inl (cL, 1, .inr (.inl (jAL (jset fo 0 (jw ((f_XG_at pn pf z1).2)))))))]) [0, 1, 2, 3] (by decide) rfl
    subst hAe
    subst hQ
    refine yW (fun _ h => yQ_of h) ?_
    exact W.iret (v := jI 0) hx hb hr (fun t ht hW => ⟨⟨_, (0, jset fo 0 (jw ((f_XG_at pn pf z1).2))), rfl, ⟨rfl, by rw [f_XL_at_s, if_pos hz]⟩, ⟨by rw [ht]; exact hP9, va_K.moved hW.alike hK, hD9⟩⟩, hS.F ht⟩) hS.2.2 dXL_at_16
  · rcases f_XG_at_e pn pf z1 with h9 | h9
    · exact absurd h9 hz
    · rw [h9, xCls_1] at hcl
      refine zOn1 htab hown ⟨by decide, by decide⟩ (by decide) (hts _ (jmem tw_407)) hX.c1 hce hcl hvm ?_
      refine lv_astore_n (lv' := [(3, .ref x), (0, .ref ga), (1, .int (jI z1)), (2, .ref oa)]) hx hb dXL_at_12 rfl hl (by decide) rfl (fun ls hl => ?_)
      refine ji_iconst hx hb dXL_at_13 ?_
      refine W.widen (k := 1) (n := 6) (Nat.le_of_ble_eq_true rfl) (Nat.le_of_ble_eq_true rfl) ?_
      have hP9 := hP.sub (ws' := [(ga, .inr (4, [.ref ta, .ref rda, .ref pa, .ref sa, .ref ea, .ref ba, .ref da])), (pa, .inr (1, [.ref ps, .int (jI pn)])), (ps, .inl (cA, 160, .inl (jA pf))), (oa, .inl (cL, 1, .inr (.inl (jAL fo))))]) [0, 1, 2, 3] rfl
      have hD9 := hD.sub (ws' := [(ga, .inr (4, [.ref ta, .ref rda, .ref pa, .ref sa, .ref ea, .ref ba, .ref da])), (pa, .inr (1, [.ref ps, .int (jI pn)])), (ps, .inl (cA, 160, .inl (jA pf))), (oa, .inl (cL, 1, .inr (.inl (jAL fo))))]) [0, 1, 2, 3] (by decide) rfl
      subst hAe
      subst hQ
      refine yW (fun _ h => yQ_of h) ?_
      exact W.iret (v := jI 1) hx hb hr (fun t ht hW => ⟨⟨_, (1, fo), rfl, ⟨rfl, by rw [f_XL_at_s, if_neg hz]⟩, ⟨by rw [ht]; exact hP9, va_K.moved hW.alike hK, hD9⟩⟩, hS.F ht⟩) hS.2.2 dXL_at_14

end
