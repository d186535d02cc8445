/-! long arrays by whole numbers; runs of static methods with handlers -/
def jAL (f : Int → Int) : Nat → Int64 := fun j => jL (f (j : Int))
section YS
variable {p : Program} {l : Launch} {e : Env} {R : Room} {s : State} {m : MethodId} {args : Array Value} {below : List Frame} {meth : Method} {c : Code} {H : Heap} {locs : List Loc} {cells slots : Nat} {Q : State → Prop}
variable {cc bytes : ByteArray} {pc nL maxL n index mc ms kc ks : Nat} {ls : Array Slot} {rest As : List Value} {D : va_G} {cl : List vw_C} {A : Nat → Prop} {a : Nat} {tys : List (ClassId × FieldType)} {ws : va_W} {H0 : Heap} {own : String} {y : MethodName} {ret : Option FieldType} {rm : Room} {Ts : List Cond} {Pc : Array Value → State → Prop} {Qc : Array Value → State → Outcome → State → Prop} {free : Addr → Prop} {g : JFrame} {hh : List (Nat × Nat × Nat × Nat)}
theorem ji_last (hx : p.tables.exec = Jvm.exec) (hb : c.code = cc) (hK : va_K D cl tys s) (hP : va_P D cl ws H) (hD : va_D A ws) (hS : va_S A H0 H locs) (q0 t0 : Nat) {cA : ClassId} {n : Nat} {f : Int → Int} (ha : ws[q0]? = some (a, .inl (cA, n, .inr (.inl (jAL f))))) (ht : tys[t0]? = some (cA, .long)) {i x : Int} (h0 : 0 ≤ i ∧ i < (n : Int)) (hn : n ≤ 2147483648) (hdg : decode cc pc = .ok (.lastore, 1))
    (kk : ∀ (H1 : Heap) (locs1 : List Loc), va_P D cl (ws.set q0 (a, .inl (cA, n, .inr (.inl (jAL (jset f i x)))))) H1 → va_D A (ws.set q0 (a, .inl (cA, n, .inr (.inl (jAL (jset f i x)))))) → va_S A H0 H1 locs1 → W p l e R s m args below meth c H1 locs1 cells slots Q (F0 m (pc + 1) ls rest)) : W p l e R s m args below meth c H locs cells slots Q (F0 m pc ls (.long (jL x) :: .int (jI i) :: .ref a :: rest)) := by
  have e1 : vp_updL (jAL f) (jI i).toNatClampNeg (jL x) = jAL (jset f i x) := by
    rw [jI_clamp h0.1 (by omega)]
    funext j
    show (if j = i.toNat then jL x else jL (f (j : Int))) = jL (if (j : Int) = i then x else f (j : Int))
    by_cases h : j = i.toNat
    · rw [if_pos h, if_pos (by omega)]
    · rw [if_neg h, if_neg (by omega)]
  refine va_last hx hb hK hP hD hS q0 t0 ha ht (jA_in h0.1 h0.2 hn) hdg ?_
  rw [e1]
  exact kk
theorem yRunSH (S : CallFix p m c cc nL s args Ts own) (hM : YMet l y (Cond.codeWith y bytes maxL ret hh :: TBL) rm Pc Qc mc ms kc ks free) (hT : GoodIn Ts (Cond.codeWith y bytes maxL ret hh :: TBL)) (ht : ∀ w ∈ Ts, w.before args s = true) (hl : (Cond.methodLink own index y).before args s = true) (hstt : (Cond.static y).before args s = true) (hini : (Cond.initialized y.cls).before args s = true) (hrc : rm.cells = kc) (hrs : rm.slots = ks) (hfr : rm.frames + 1 ≤ R.frames) (hlo : 8 + (maxL + 11) + rm.locals ≤ R.locals) (hy : y.cls ≠ "java/lang/invoke/MethodHandle" ∧ y.cls ≠ "java/lang/invoke/VarHandle") (hlen : ∀ sig, parseMethodDescriptor y.desc = some sig → n = sig.parameters.length) (hp : PreS s H Pc As)
    (hg : g.method = m) (hn : As.length = n) (hsize : g.locals.size = nL) (hstack : g.stack = As.reverse ++ rest) (hW : 2 * g.monitorRoom + (rest.map fun v => v.category).sum ≤ 8) (hdg : decode cc g.pc = .ok (.invokestatic index, 3)) (hf : cells + kc ≤ R.cells ∧ slots + ks ≤ R.slots) :
    yRun p l e R s m args below meth c H locs cells slots mc ms kc ks g rest (Qc As.toArray) free := by
  have hws : ∀ w ∈ Cond.codeWith y bytes maxL ret hh :: TBL, ∀ a' U, s.WarmedH U.vm → w.before a' U = true := fun w hw a' U hWU => word_at hWU (hT w hw).2 (ht w (hT w hw).1)
  obtain ⟨hx, hb, hml, ho, -⟩ := S
  intro T hT2 X
  obtain ⟨mk, methM, cM, hnamed, hmethM, -, -, -, -, -, -, hsigM⟩ := Cond.codeWith_spec (hws _ List.mem_cons_self args s (State.WarmedH.refl s))
  have hstatic : methM.isStatic = true := Cond.static_spec hnamed hmethM hstt
  obtain ⟨kP, hkP, -⟩ := className_of_methodNamed hnamed
  have hinitP : kP.init = .initialized := Cond.initialized_spec (findClass_of_methodNamed hnamed) hkP hini
  obtain ⟨vm₁, X₁, hstep₁⟩ := X.invokestatic hx ho hl hnamed hmethM hstatic hkP hinitP hy (g := g) hg (argsL := As) (rest := rest) (hn.trans (hlen _ hsigM)) hstack (by rw [hb]; exact hdg)
  obtain ⟨o, t, T', L, X', hL, e1, e2, hq, st⟩ := yIntoH (g := { g with stack := rest }) (len := 3) hM hrc hrs hfr hlo hws List.mem_cons_self (fun a' U hWU => word_at hWU (Or.inl (by first | rfl | simp [Cond.onTables, Cond.keeps, Cond.steady])) hini) hp.1 X₁ hg (hsize.trans hml.symm) (by rw [hb]; exact hdg) hW (X₁.named hnamed) (a := As.toArray) (hp.2 (T.setVm vm₁) hT2 X₁.warmed) hf
  exact ⟨o, (T.setVm vm₁).calling { g with stack := rest } mk As.toArray, t, T', L, ⟨hT2, X₁.warmed⟩, X', hL, e1, e2, hq, fun target h => hstep₁ _ fun acts => by rw [doInvoke_state]; exact st.trans h⟩
end YS
