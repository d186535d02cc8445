/-! an exception is caught; the handler's class may be resolved there for the first time -/
def zFinds (e : Env) (s : State) (f : JFrame) (a : Addr) (h : Handler) (s' : State) : Prop := ∀ (Q : Handler → Pre) (E : CtlPost) (d : Bool) (acts : List Action), wp (findHandler f a) Q E e d acts s ↔ Q h d acts s'
def zGo (e : Env) (s : State) (f : JFrame) (a : Addr) (tb : List ExceptionTableEntry) (h : Handler) (s' : State) : Prop := ∀ (Q : Handler → Pre) (E : CtlPost) (d : Bool) (acts : List Action), wp (findHandler.go f a tb) Q E e d acts s ↔ Q h d acts s'
section ZG
variable {e : Env} {s : State} {f : JFrame} {a : Addr}
theorem zGo_step {x : ExceptionTableEntry} {t : List ExceptionTableEntry} {c : ClassId} {cell : Cell} {vm' : Vm} (hx : covers x f.pc = true) (h0 : x.catchType ≠ 0) (hg : (Jvm.resolveClass f.method.cls x.catchType).Gives e.toSetting s.vm (.ok c) vm') (hsz : vm'.classes.size ≤ s.vm.classes.size)
    (hcell : s.heap[a]? = some cell) (hobj : ∀ k, cell.vm ≠ .statics k) (hk : ∃ k, vm'.classes[cell.cls]? = some k) (hc : ∃ k, vm'.classes[c]? = some k) (Q : Handler → Pre) (E : CtlPost) (d : Bool) (acts : List Action) :
    wp (findHandler.go f a (x :: t)) Q E e d acts s ↔ if vm'.assignable cell.cls c = true then Q (.found x.handlerPc) d acts (s.setVm vm') else wp (findHandler.go f a t) Q E e d acts (s.setVm vm') := by
  simp only [covers] at hx
  obtain ⟨ha, ht⟩ := hg.op (op := VmOp.resolveClass f.method.cls x.catchType) rfl
  have hcell' : (s.setVm vm').heap[a]? = some cell := hcell
  have hk' : ∃ k, (s.setVm vm').vm.classes[cell.cls]? = some k := hk
  have hc' : ∃ k, (s.setVm vm').vm.classes[c]? = some k := hc
  cases hfit : vm'.assignable cell.cls c <;>
    simp [findHandler.go, hx, h0, ha, ht, hsz, hcell, hobj, hk, hc, hfit, VmOp.dirties, VmOp.acts]
theorem zGo_hit {x : ExceptionTableEntry} {t : List ExceptionTableEntry} {c : ClassId} {cell : Cell} {vm' : Vm} (hx : covers x f.pc = true) (h0 : x.catchType ≠ 0) (hg : (Jvm.resolveClass f.method.cls x.catchType).Gives e.toSetting s.vm (.ok c) vm') (hsz : vm'.classes.size ≤ s.vm.classes.size)
    (hcell : s.heap[a]? = some cell) (hobj : ∀ k, cell.vm ≠ .statics k) (hk : ∃ k, vm'.classes[cell.cls]? = some k) (hc : ∃ k, vm'.classes[c]? = some k) (hfit : vm'.assignable cell.cls c = true) : zGo e s f a (x :: t) (.found x.handlerPc) (s.setVm vm') := by
  intro Q E d acts
  rw [zGo_step hx h0 hg hsz hcell hobj hk hc, if_pos hfit]
theorem zGo_pass {x : ExceptionTableEntry} {t : List ExceptionTableEntry} {c : ClassId} {cell : Cell} {vm' : Vm} {h : Handler} {s' : State} (hx : covers x f.pc = true) (h0 : x.catchType ≠ 0) (hg : (Jvm.resolveClass f.method.cls x.catchType).Gives e.toSetting s.vm (.ok c) vm') (hsz : vm'.classes.size ≤ s.vm.classes.size)
    (hcell : s.heap[a]? = some cell) (hobj : ∀ k, cell.vm ≠ .statics k) (hk : ∃ k, vm'.classes[cell.cls]? = some k) (hc : ∃ k, vm'.classes[c]? = some k) (hfit : vm'.assignable cell.cls c = false) (hr : zGo e (s.setVm vm') f a t h s') : zGo e s f a (x :: t) h s' := by
  intro Q E d acts
  rw [zGo_step hx h0 hg hsz hcell hobj hk hc, if_neg (by rw [hfit]; decide)]
  exact hr Q E d acts
theorem zStep_catch {r : List Frame} {pc : Nat} {s' : State} (hfind : zFinds e s f a (.found pc) s') (hs : ∀ fs, s'.setFrames fs = s'.setFrames fs) : (stepThrowing e s a (.java f :: r)).Is (s'.setFrames (.java { f with pc := pc, stack := [.ref a] } :: r)) [] := by
  simp only [stepThrowing, searchFrame, vmDo]
  generalize hr : Sem.go _ e false [] s = res
  obtain ⟨as, rfl, ha⟩ := Sem.eq_ok_of hr (a := Handler.found pc) (s' := s') (acts' := []) (by simp [hfind _ _ _ _])
  exact ⟨rfl, ha⟩
end ZG
theorem zCaught {tb : Tables} {e : Env} {s target : State} {g : JFrame} {c : Code} {below : List Frame} {a : Addr} {vm' : Vm} (h : At s g.method c below) {pc : Nat} (hfind : zFinds e ((s.setTop g).pushFrame (.throwing a)) g a (.found pc) (((s.setTop g).pushFrame (.throwing a)).setVm vm'))
    (hrest : Steps tb e below ((s.setVm vm').setTop { g with pc := pc, stack := [.ref a] }) target) : Steps tb e below ((s.setTop g).pushFrame (.throwing a)) target := by
  obtain ⟨hgo, hw⟩ := h.throwing a
  refine Steps.head hgo hw ?_
  rw [stepThread_throwing (frames_entered h.top _), (zStep_catch (s := (s.setTop g).pushFrame (.throwing a)) hfind (fun _ => rfl)).1]
  obtain ⟨g₀, hg⟩ := Option.isSome_iff_exists.mp h.top
  obtain ⟨r, hr⟩ := State.topJava?_eq_some.mp hg
  have hr' : (s.setVm vm').frames = .java g₀ :: r := hr
  rw [State.setTop_of_frames _ hr'] at hrest
  have e1 : (((s.setTop g).pushFrame (.throwing a)).setVm vm').setFrames (.java { g with pc := pc, stack := [.ref a] } :: s.frames.tail) = (s.setVm vm').setFrames (.java { g with pc := pc, stack := [.ref a] } :: r) := by
    rw [State.pushFrame, State.setTop_of_frames _ hr, State.setFrames_setFrames, hr]
    show (((s.setVm vm').setFrames _).setFrames _) = _
    rw [State.setFrames_setFrames]; rfl
  rw [e1]
  exact hrest
section ZC
variable {p : Program} {l : Launch} {e : Env} {R : Room} {s : State} {m : MethodId} {args : Array Value} {below : List Frame} {meth : Method} {c : Code} {locs : List Loc} {cells slots : Nat}
/-- the find through the method's own table -/
theorem zFinds_of {T : State} (X : Stand p l e R s m args below meth c T locs cells slots) {g : JFrame} (hg : g.method = m) {a : Addr} {h : Handler} {s' : State} (hgo : zGo e ((T.setTop g).pushFrame (.throwing a)) g a c.exceptionTable.toList h s') : zFinds e ((T.setTop g).pushFrame (.throwing a)) g a h s' := by
  intro Q E d acts
  rw [Jvm.W.findHandler_eq (meth := meth) (code := c) (by rw [Stand.throwing_vm, hg]; exact X.method') X.code]
  exact hgo Q E d acts
/-- the first handler takes it -/
theorem zCatch1 {T : State} (X : Stand p l e R s m args below meth c T locs cells slots) {own : String} (hown : s.vm.findClass own = some m.cls) {x1 : ExceptionTableEntry} {tl : List ExceptionTableEntry} (htb : c.exceptionTable.toList = x1 :: tl) {g : JFrame} (hg : g.method = m) (hcov : covers x1 g.pc = true) (h0 : x1.catchType ≠ 0) {N C : String}
    (hlink : (Cond.classLink own x1.catchType N).before args s = true) (hcast : (Cond.castable C N).before args s = true) {a : Addr} {ce : Cell} (hce : T.heap[a]? = some ce) (hcls : s.vm.findClass C = some ce.cls) (hvm : ce.vm = .none) :
    ∃ vm', s.WarmedH vm' ∧ zFinds e ((T.setTop g).pushFrame (.throwing a)) g a (.found x1.handlerPc) (((T.setTop g).pushFrame (.throwing a)).setVm vm') := by
  have hpl : e.platform.magicAccessors = ({} : Platform).magicAccessors := by rw [X.admits.platform]
  obtain ⟨cN, hfN, hcl⟩ := Cond.classLink_spec hown hlink e.platform hpl
  obtain ⟨hg1, hW1, hr1⟩ := State.classEntry (e := e) X.warmed hcl
  obtain ⟨c0, t0, q1, q2, q3⟩ := Cond.castable_spec hcast
  cases hcls.symm.trans q1
  cases hfN.symm.trans q2
  obtain ⟨kX, hkX, -⟩ := Vm.findClass_spec q1
  obtain ⟨kN, hkN, -⟩ := Vm.findClass_spec q2
  obtain ⟨kX', hkX', -⟩ := hW1.alike.2.2 _ _ hkX
  obtain ⟨kN', hkN', -⟩ := hW1.alike.2.2 _ _ hkN
  refine ⟨_, hW1, zFinds_of X hg ?_⟩
  rw [htb]
  refine zGo_hit hcov h0 (c := cN) (cell := ce) (by rw [Stand.throwing_vm, hg]; exact hg1) ?_ (by rw [Stand.throwing_heap]; exact hce) (fun k hk => by rw [hvm] at hk; cases hk) ⟨kX', hkX'⟩ ⟨kN', hkN'⟩ (by rw [hW1.alike.assignable]; exact q3)
  rw [Stand.throwing_vm]
  no_record
end ZC
