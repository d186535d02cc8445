/-! an exception is caught; the handler's class may be resolved there for the first time -/
def zFinds (e : Env) (s : State) (f : JFrame) (a : Addr) (h : Handler) (s' : State) : Prop := ∀ (Q : Handler → Pre) (E : CtlPost) (d : Bool) (acts : List Action), wp (findHandler f a) Q E e d acts s ↔ Q h d acts s'
def zGo (e : Env) (s : State) (f : JFrame) (a : Addr) (tb : List ExceptionTableEntry) (h : Handler) (s' : State) : Prop := ∀ (Q : Handler → Pre) (E : CtlPost) (d : Bool) (acts : List Action), wp (findHandler.go f a tb) Q E e d acts s ↔ Q h d acts s'
section ZG
variable {e : Env} {s : State} {f : JFrame} {a : Addr}
theorem zGo_step {x : ExceptionTableEntry} {t : List ExceptionTableEntry} {c : ClassId} {cell : Cell} {vm' : Vm} (hx : covers x f.pc = true) (h0 : x.catchType ≠ 0) (hg : (Jvm.resolveClass f.method.cls x.catchType).Gives e.toSetting s.vm (.ok c) vm') (hsz : vm'.classes.size ≤ s.vm.classes.size)
    (hcell : s.heap[a]? = some cell) (hobj : ∀ k, cell.vm ≠ .statics k) (hk : ∃ k, vm'.classes[cell.cls]? = some k) (hc : ∃ k, vm'.classes[c]? = some k) (Q : Handler → Pre) (E : CtlPost) (d : Bool) (acts : List Action) :
    wp (findHandler.go f a (x :: t)) Q E e d acts s ↔ if vm'.assignable cell.cls c = true then Q (.found x.handlerPc) d acts (s.setVm vm') else wp (findHandler.go f a t) Q E e d acts (s.setVm vm') := by
  simp only [covers] at hx
  obtain ⟨ha, ht⟩ := hg.op (op := VmOp.resolveClass f.method.cls x.catchType) rfl
  have hcell' : (s.setVm vm').heap[a]? = some cell := hcell
  have hk' : ∃ k, (s.setVm vm').vm.classes[cell.cls]? = some k := hk
  have hc' : ∃ k, (s.setVm vm').vm.classes[c]? = some k := hc
  cases hfit : vm'.assignable cell.cls c <;>
    simp [findHandler.go, hx, h0, ha, ht, hsz, hcell, hobj, hk, hc, hfit, VmOp.dirties, VmOp.acts]
theorem zGo_hit {x : ExceptionTableEntry} {t : List ExceptionTableEntry} {c : ClassId} {cell : Cell} {vm' : Vm} (hx : covers x f.pc = true) (h0 : x.catchType ≠ 0) (hg : (Jvm.resolveClass f.method.cls x.catchType).Gives e.toSetting s.vm (.ok c) vm') (hsz : vm'.classes.size ≤ s.vm.classes.size)
    (hcell : s.heap[a]? = some cell) (hobj : ∀ k, cell.vm ≠ .statics k) (hk : ∃ k, vm'.classes[cell.cls]? = some k) (hc : ∃ k, vm'.classes[c]? = some k) (hfit : vm'.assignable cell.cls c = true) : zGo e s f a (x :: t) (.found x.handlerPc) (s.setVm vm') := by
  intro Q E d acts
  rw [zGo_step hx h0 hg hsz hcell hobj hk hc, if_pos hfit]
theorem zGo_pass {x : ExceptionTableEntry} {t : List ExceptionTableEntry} {c : ClassId} {cell : Cell} {vm' : Vm} {h : Handler} {s' : State} (hx : covers x f.pc = true) (h0 : x.catchType ≠ 0) (hg : (Jvm.resolveClass f.method.cls x.catchType).Gives e.toSetting s.vm (.ok c) vm') (hsz : vm'.classes.size ≤ s.vm.classes.size)
    (hcell : s.heap[a]? = some cell) (hobj : ∀ k, cell.vm ≠ .statics k) (hk : ∃ k, vm'.classes[cell.cls]? = some k) (hc : ∃ k, vm'.classes[c]? = some k) (hfit : vm'.assignable cell.cls c = false) (hr : zGo e (s.setVm vm') f a t h s') : zGo e s f a (x :: t) h s' := by
  intro Q E d acts
  rw [zGo_step hx h0 hg hsz hcell hobj hk hc, if_neg (by rw [hfit]; decide)]
  exact hr Q E d acts
theorem zStep_catch {r : List Frame} {pc : Nat} {s' : State} (hfind : zFinds e s f a (.found pc) s') (hs : ∀ fs, s'.setFrames fs = s'.setFrames fs) : (stepThrowing e s a (.java f :: r)).Is (s'.setFrames (.java { f with pc := pc, stack := [.ref a] } :: r)) [] := by
  simp only [stepThrowing, searchFrame, vmDo]
  generalize hr : Sem.go _ e false [] s = res
  obtain ⟨as, rfl, ha⟩ := Sem.eq_ok_of hr (a := Handler.found pc) (s' := s') (acts' := []) (by simp [hfind _ _ _ _])
  exact ⟨rfl, ha⟩
end ZG
theorem zCaught {tb : Tables} {e : Env} {s target : State} {g : JFrame} {c : Code} {below : List Frame} {a : Addr} {vm' : Vm} (h : At s g.method c below) {pc : Nat} (hfind : zFinds e ((s.setTop g).pushFrame (.throwing a)) g a (.found pc) (((s.setTop g).pushFrame (.throwing a)).setVm vm'))
    (hrest : Steps tb e below ((s.setVm vm').setTop { g with pc := pc, stack := [.ref a] }) target) : Steps tb e below ((s.setTop g).pushFrame (.throwing a)) target := by
  obtain ⟨hgo, hw⟩ := h.throwing a
  refine Steps.head hgo hw ?_
  rw [stepThread_throwing (frames_entered h.top _), (zStep_catch (s := (s.setTop g).pushFrame (.throwing a)) hfind (fun _ => rfl)).1]
  obtain ⟨g₀, hg⟩ := Option.isSome_iff_exists.mp h.top
  obtain ⟨r, hr⟩ := State.topJava?_eq_some.mp hg
  have hr' : (s.setVm vm').frames = .java g₀ :: r := hr
  rw [State.setTop_of_frames _ hr'] at hrest
  have e1 : (((s.setTop g).pushFrame (.throwing a)).setVm vm').setFrames (.java { g with pc := pc, stack := [.ref a] } :: s.frames.tail) = (s.setVm vm').setFrames (.java { g with pc := pc, stack := [.ref a] } :: r) := by
    rw [State.pushFrame, State.setTop_of_frames _ hr, State.setFrames_setFrames, hr]
    show (((s.setVm vm').setFrames _).setFrames _) = _
    rw [State.setFrames_setFrames]; rfl
  rw [e1]
  exact hrest
section ZC
variable {p : Program} {l : Launch} {e : Env} {R : Room} {s : State} {m : MethodId} {args : Array Value} {below : List Frame} {meth : Method} {c : Code} {locs : List Loc} {cells slots : Nat}
/-- the find through the method's own table -/
theorem zFinds_of {T : State} (X : Stand p l e R s m args below meth c T locs cells slots) {g : JFrame} (hg : g.method = m) {a : Addr} {h : Handler} {s' : State} (hgo : zGo e ((T.setTop g).pushFrame (.throwing a)) g a c.exceptionTable.toList h s') : zFinds e ((T.setTop g).pushFrame (.throwing a)) g a h s' := by
  intro Q E d acts
  rw [Jvm.W.findHandler_eq (meth := meth) (code := c) (by rw [Stand.throwing_vm, hg]; exact X.method') X.code]
  exact hgo Q E d acts
/-- the first handler takes it -/
theorem zCatch1 {T : State} (X : Stand p l e R s m args below meth c T locs cells slots) {own : String} (hown : s.vm.findClass own = some m.cls) {x1 : ExceptionTableEntry} {tl : List ExceptionTableEntry} (htb : c.exceptionTable.toList = x1 :: tl) {g : JFrame} (hg : g.method = m) (hcov : covers x1 g.pc = true) (h0 : x1.catchType ≠ 0) {N C : String}
    (hlink : (Cond.classLink own x1.catchType N).before args s = true) (hcast : (Cond.castable C N).before args s = true) {a : Addr} {ce : Cell} (hce : T.heap[a]? = some ce) (hcls : s.vm.findClass C = some ce.cls) (hvm : ce.vm = .none) :
    ∃ vm', s.WarmedH vm' ∧ zFinds e ((T.setTop g).pushFrame (.throwing a)) g a (.found x1.handlerPc) (((T.setTop g).pushFrame (.throwing a)).setVm vm') := by
  have hpl : e.platform.magicAccessors = ({} : Platform).magicAccessors := by rw [X.admits.platform]
  obtain ⟨cN, hfN, hcl⟩ := Cond.classLink_spec hown hlink e.platform hpl
  obtain ⟨hg1, hW1, hr1⟩ := State.classEntry (e := e) X.warmed hcl
  obtain ⟨c0, t0, q1, q2, q3⟩ := Cond.castable_spec hcast
  cases hcls.symm.trans q1
  cases hfN.symm.trans q2
  obtain ⟨kX, hkX, -⟩ := Vm.findClass_spec q1
  obtain ⟨kN, hkN, -⟩ := Vm.findClass_spec q2
  obtain ⟨kX', hkX', -⟩ := hW1.alike.2.2 _ _ hkX
  obtain ⟨kN', hkN', -⟩ := hW1.alike.2.2 _ _ hkN
  refine ⟨_, hW1, zFinds_of X hg ?_⟩
  rw [htb]
  refine zGo_hit hcov h0 (c := cN) (cell := ce) (by rw [Stand.throwing_vm, hg]; exact hg1) ?_ (by rw [Stand.throwing_heap]; exact hce) (fun k hk => by rw [hvm] at hk; cases hk) ⟨kX', hkX'⟩ ⟨kN', hkN'⟩ (by rw [hW1.alike.assignable]; exact q3)
  rw [Stand.throwing_vm]
  no_record
/-- the first one doesn't, the second does -/
theorem zCatch2 {T : State} (X : Stand p l e R s m args below meth c T locs cells slots) {own : String} (hown : s.vm.findClass own = some m.cls) {x1 x2 : ExceptionTableEntry} {tl : List ExceptionTableEntry} (htb : c.exceptionTable.toList = x1 :: x2 :: tl) {g : JFrame} (hg : g.method = m) (hcov : covers x1 g.pc = true) (h0 : x1.catchType ≠ 0) (hcov2 : covers x2 g.pc = true) (h02 : x2.catchType ≠ 0) {N N2 C : String}
    (hlink : (Cond.classLink own x1.catchType N).before args s = true) (hno : va_Nc C N s) (hlink2 : (Cond.classLink own x2.catchType N2).before args s = true) (hcast : (Cond.castable C N2).before args s = true) {a : Addr} {ce : Cell} (hce : T.heap[a]? = some ce) (hcls : s.vm.findClass C = some ce.cls) (hvm : ce.vm = .none) :
    ∃ vm', s.WarmedH vm' ∧ zFinds e ((T.setTop g).pushFrame (.throwing a)) g a (.found x2.handlerPc) (((T.setTop g).pushFrame (.throwing a)).setVm vm') := by
  have hpl : e.platform.magicAccessors = ({} : Platform).magicAccessors := by rw [X.admits.platform]
  obtain ⟨cN, hfN, hcl⟩ := Cond.classLink_spec hown hlink e.platform hpl
  obtain ⟨hg1, hW1, hr1⟩ := State.classEntry (e := e) X.warmed hcl
  have hsz1 : (T.vm.noted m.cls x1.catchType (.cls cN)).classes.size ≤ T.vm.classes.size := by no_record
  generalize T.vm.noted m.cls x1.catchType (.cls cN) = vm1 at hg1 hW1 hr1 hsz1
  obtain ⟨cN2, hfN2, hcl2⟩ := Cond.classLink_spec hown hlink2 e.platform hpl
  obtain ⟨hg2, hW2, hr2⟩ := State.classEntry (e := e) (X.noted hW1).warmed hcl2
  have hsz2 : ((T.setVm vm1).vm.noted m.cls x2.catchType (.cls cN2)).classes.size ≤ (T.setVm vm1).vm.classes.size := by no_record
  generalize (T.setVm vm1).vm.noted m.cls x2.catchType (.cls cN2) = vm2 at hg2 hW2 hr2 hsz2
  obtain ⟨c1, t1, f1, f2, f3⟩ := hno
  obtain ⟨c0, t0, q1, q2, q3⟩ := Cond.castable_spec hcast
  cases hcls.symm.trans q1
  cases hfN2.symm.trans q2
  cases q1.symm.trans f1
  cases hfN.symm.trans f2
  obtain ⟨kX, hkX, -⟩ := Vm.findClass_spec q1
  obtain ⟨kN, hkN, -⟩ := Vm.findClass_spec f2
  obtain ⟨kN2, hkN2, -⟩ := Vm.findClass_spec q2
  obtain ⟨kX1, hkX1, -⟩ := hW1.alike.2.2 _ _ hkX
  obtain ⟨kN1, hkN1, -⟩ := hW1.alike.2.2 _ _ hkN
  obtain ⟨kX2, hkX2, -⟩ := hW2.alike.2.2 _ _ hkX
  obtain ⟨kN3, hkN3, -⟩ := hW2.alike.2.2 _ _ hkN2
  refine ⟨vm2, hW2, zFinds_of X hg ?_⟩
  rw [htb]
  refine zGo_pass hcov h0 (c := cN) (cell := ce) (vm' := vm1) (by rw [Stand.throwing_vm, hg]; exact hg1) (by rw [Stand.throwing_vm]; exact hsz1) (by rw [Stand.throwing_heap]; exact hce) (fun k hk => by rw [hvm] at hk; cases hk) ⟨kX1, hkX1⟩ ⟨kN1, hkN1⟩ (by rw [hW1.alike.assignable]; exact f3) ?_
  exact zGo_hit (s := ((T.setTop g).pushFrame (.throwing a)).setVm vm1) hcov2 h02 (c := cN2) (cell := ce) (vm' := vm2) (by rw [hg]; exact hg2) hsz2 (by show ((T.setTop g).pushFrame (.throwing a)).heap[a]? = _; rw [Stand.throwing_heap]; exact hce) (fun k hk => by rw [hvm] at hk; cases hk) ⟨kX2, hkX2⟩ ⟨kN3, hkN3⟩ (by rw [hW2.alike.assignable]; exact q3)
variable {H : Heap} {Q : State → Prop} {pc mc ms kc ks : Nat} {ls : Array Slot} {rest st0 : List Value} {free : Addr → Prop}
/-- a call within a try: it goes on behind the call, or at the handler -/
theorem y_try {Qa : State → Outcome → State → Prop} (hr : yRun p l e R s m args below meth c H locs cells slots mc ms kc ks (F0 m pc ls st0) rest Qa free)
    (kr : ∀ (v : Option Value) (st₀ t : State) (L : List Loc), st₀.heap = H → s.WarmedH st₀.vm → (∀ q ∈ L, free q.base) → s.WarmedH t.vm → Qa st₀ (.returned v) t → W p l e R s m args below meth c t.heap (locs ++ L) (cells + mc) (slots + ms) Q (F0 m (pc + 3) ls (v.toList ++ rest)))
    (kt : ∀ (x : Addr) (st₀ t : State) (L : List Loc), st₀.heap = H → s.WarmedH st₀.vm → (∀ q ∈ L, free q.base) → Qa st₀ (.threw x) t → ∃ hpc : Nat,
      (∀ T' : State, T'.heap = t.heap → Stand p l e R s m args below meth c T' (locs ++ L) (cells + kc) (slots + ks) → ∃ vm', s.WarmedH vm' ∧ zFinds e ((T'.setTop (F0 m pc ls rest)).pushFrame (.throwing x)) (F0 m pc ls rest) x (.found hpc) (((T'.setTop (F0 m pc ls rest)).pushFrame (.throwing x)).setVm vm')) ∧
      W p l e R s m args below meth c t.heap (locs ++ L) (cells + kc) (slots + ks) Q (F0 m hpc ls [.ref x])) :
    W p l e R s m args below meth c H locs cells slots Q (F0 m pc ls st0) := by
  intro T hT X
  obtain ⟨o, st₀, t, T', L, ⟨h0, hW0⟩, X', hL, e1, e2, hq, st⟩ := hr T hT X
  cases o with
  | returned v =>
    obtain ⟨u, a1, a2⟩ := kr v st₀ t L h0 hW0 hL (by rw [← e2]; exact X'.warmed) hq T' e1 X'
    exact ⟨u, st _ a1, a2⟩
  | threw x =>
    obtain ⟨hpc, hfind, hw⟩ := kt x st₀ t L h0 hW0 hL hq
    obtain ⟨vm', hW', hz⟩ := hfind T' e1 X'
    obtain ⟨u, a1, a2⟩ := hw (T'.setVm vm') e1 (X'.noted hW')
    exact ⟨u, st _ (zCaught (g := F0 m pc ls rest) X'.here hz a1), a2⟩
end ZC
