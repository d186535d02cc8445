/-! a call within a try over a world: it goes on, or a handler takes it -/
def jw (v : Int) : Int := (jI v).toInt
theorem jw_i (v : Int) : i32 (jw v) := ⟨by have := (jI v).le_toInt; unfold jw; simpa using this, by have := (jI v).toInt_lt; unfold jw; simpa using this⟩
theorem jI_jw (v : Int) : jI (jw v) = jI v := jI_ti _
def jC (U : State) : Prop := va_Nc "java/lang/UnsupportedOperationException" "java/lang/IllegalArgumentException" U ∧ va_Nc "java/lang/IllegalStateException" "java/lang/IndexOutOfBoundsException" U ∧ va_Nc "java/lang/IllegalArgumentException" "java/lang/IndexOutOfBoundsException" U
theorem jC.moved {u U : State} (hvm : u.vm.Alike U.vm) (h : jC u) : jC U := ⟨h.1.moved hvm, h.2.1.moved hvm, h.2.2.moved hvm⟩
def jBc (D : va_G) (tys : List (ClassId × FieldType)) (wc : va_W) (sz : Nat) : State → Prop := fun U => jBw D tys wc sz U ∧ jX (fun _ => False) U ∧ jC U
theorem jBc_blind {D : va_G} {tys : List (ClassId × FieldType)} {wc : va_W} {sz : Nat} {As : List Value} : FrameBlind (va_Pc As (jBc D tys wc sz)) := fun a U g mk q => ⟨q.1, (jBw_blind a U g mk ⟨q.1, q.2.1⟩).2, jX.same rfl rfl q.2.2.1, jC.moved (u := U) (Vm.Alike.refl U.vm) q.2.2.2⟩
theorem xCls_1 : xCls 1 = "java/lang/IndexOutOfBoundsException" := rfl
theorem xCls_2 : xCls 2 = "java/lang/IllegalStateException" := rfl
theorem xCls_3 : xCls 3 = "java/lang/IllegalArgumentException" := rfl
theorem xCls_4 : xCls 4 = "java/lang/UnsupportedOperationException" := rfl
theorem jX.c1 {A : Nat → Prop} {s : State} (hX : jX A s) {args : Array Value} : (Cond.castable "java/lang/IndexOutOfBoundsException" "java/lang/IndexOutOfBoundsException").before args s = true := va_Nw.use rfl hX.2.2.2.2.2.1
theorem jX.c2 {A : Nat → Prop} {s : State} (hX : jX A s) {args : Array Value} : (Cond.castable "java/lang/IllegalStateException" "java/lang/IllegalStateException").before args s = true := va_Nw.use rfl hX.2.2.2.2.2.2.1
theorem jX.c3 {A : Nat → Prop} {s : State} (hX : jX A s) {args : Array Value} : (Cond.castable "java/lang/IllegalArgumentException" "java/lang/IllegalArgumentException").before args s = true := va_Nw.use rfl hX.2.2.2.2.2.2.2.1
theorem jX.c4 {A : Nat → Prop} {s : State} (hX : jX A s) {args : Array Value} : (Cond.castable "java/lang/UnsupportedOperationException" "java/lang/UnsupportedOperationException").before args s = true := va_Nw.use rfl hX.2.2.2.2.2.2.2.2.1
theorem zTab1 {c : Code} {q : Nat × Nat × Nat × Nat} {hh : List (Nat × Nat × Nat × Nat)} (h : c.exceptionTable.toList.map (fun h => (h.startPc, h.endPc, h.handlerPc, h.catchType)) = q :: hh) : ∃ (x1 : ExceptionTableEntry) (tl : List ExceptionTableEntry), c.exceptionTable.toList = x1 :: tl ∧ x1.startPc = q.1 ∧ x1.endPc = q.2.1 ∧ x1.handlerPc = q.2.2.1 ∧ x1.catchType = q.2.2.2 ∧ tl.map (fun h => (h.startPc, h.endPc, h.handlerPc, h.catchType)) = hh := by
  obtain ⟨x1, tl, h1, h2, h3⟩ := List.map_eq_cons_iff.mp h
  subst h2
  exact ⟨x1, tl, h1, rfl, rfl, rfl, rfl, h3⟩
theorem zTab2 {tl0 : List ExceptionTableEntry} {q : Nat × Nat × Nat × Nat} {hh : List (Nat × Nat × Nat × Nat)} (h : tl0.map (fun h => (h.startPc, h.endPc, h.handlerPc, h.catchType)) = q :: hh) : ∃ (x1 : ExceptionTableEntry) (tl : List ExceptionTableEntry), tl0 = x1 :: tl ∧ x1.startPc = q.1 ∧ x1.endPc = q.2.1 ∧ x1.handlerPc = q.2.2.1 ∧ x1.catchType = q.2.2.2 := by
  obtain ⟨x1, tl, h1, h2, h3⟩ := List.map_eq_cons_iff.mp h
  subst h2
  exact ⟨x1, tl, h1, rfl, rfl, rfl, rfl⟩
section ZO
variable {p : Program} {l : Launch} {e : Env} {R : Room} {s : State} {m : MethodId} {args : Array Value} {below : List Frame} {meth : Method} {c : Code} {H H1 : Heap} {locs L : List Loc} {cells slots : Nat} {Q : State → Prop}
variable {cc bytes : ByteArray} {pc nL maxL n index : Nat} {ls : Array Slot} {rest st0 As : List Value} {D : va_G} {A : Nat → Prop} {b : Nat} {tys : List (ClassId × FieldType)} {ws wc wr : va_W} {own C N N2 : String} {y : MethodName} {ret : Option FieldType} {rm : Room} {Ts : List Cond} {z v9 : Int} {x : Addr} {ce : Cell} {a0 b0 hp ct a2 b2 hp2 ct2 : Nat} {hh : List (Nat × Nat × Nat × Nat)}
/-- what a caller of a method that throws gives for the throw: where its handler stands, and the walk from there -/
def zHnd (p : Program) (l : Launch) (e : Env) (R : Room) (s : State) (m : MethodId) (args : Array Value) (below : List Frame) (meth : Method) (c : Code) (H1 : Heap) (L : List Loc) (cells slots : Nat) (Q : State → Prop) (pc : Nat) (ls : Array Slot) (rest : List Value) (x : Addr) : Prop := ∃ hpc : Nat, (∀ T' : State, T'.heap = H1 → Stand p l e R s m args below meth c T' L cells slots → ∃ vm', s.WarmedH vm' ∧ zFinds e ((T'.setTop (F0 m pc ls rest)).pushFrame (.throwing x)) (F0 m pc ls rest) x (.found hpc) (((T'.setTop (F0 m pc ls rest)).pushFrame (.throwing x)).setVm vm')) ∧ W p l e R s m args below meth c H1 L cells slots Q (F0 m hpc ls [.ref x])
theorem zOn1 (htab : c.exceptionTable.toList.map (fun h => (h.startPc, h.endPc, h.handlerPc, h.catchType)) = (a0, b0, hp, ct) :: hh) (hown : s.vm.findClass own = some m.cls) (hcov : a0 ≤ pc ∧ pc < b0) (h0 : ct ≠ 0) (hlink : (Cond.classLink own ct N).before args s = true) (hcast : (Cond.castable C N).before args s = true) (hce : H1[x]? = some ce) (hcls : s.vm.findClass C = some ce.cls) (hvm : ce.vm = .none) (kk : W p l e R s m args below meth c H1 L cells slots Q (F0 m hp ls [.ref x])) : zHnd p l e R s m args below meth c H1 L cells slots Q pc ls rest x := by
  obtain ⟨x1, tl, h1, e1, e2, e3, e4, -⟩ := zTab1 htab
  refine ⟨hp, fun T' hT X => ?_, kk⟩
  obtain ⟨vm', hW, hz⟩ := zCatch1 X hown h1 (g := F0 m pc ls rest) rfl (by show (decide (x1.startPc ≤ pc) && decide (pc < x1.endPc)) = true; rw [e1, e2]; simp only [Bool.and_eq_true, decide_eq_true_eq]; exact hcov) (by rw [e4]; exact h0) (N := N) (C := C) (by rw [e4]; exact hlink) hcast (by rw [hT]; exact hce) hcls hvm
  rw [e3] at hz
  exact ⟨vm', hW, hz⟩
theorem zOn2 (htab : c.exceptionTable.toList.map (fun h => (h.startPc, h.endPc, h.handlerPc, h.catchType)) = (a0, b0, hp, ct) :: (a2, b2, hp2, ct2) :: hh) (hown : s.vm.findClass own = some m.cls) (hcov : a0 ≤ pc ∧ pc < b0) (h0 : ct ≠ 0) (hcov2 : a2 ≤ pc ∧ pc < b2) (h02 : ct2 ≠ 0) (hlink : (Cond.classLink own ct N).before args s = true) (hno : va_Nc C N s) (hlink2 : (Cond.classLink own ct2 N2).before args s = true) (hcast : (Cond.castable C N2).before args s = true) (hce : H1[x]? = some ce) (hcls : s.vm.findClass C = some ce.cls) (hvm : ce.vm = .none) (kk : W p l e R s m args below meth c H1 L cells slots Q (F0 m hp2 ls [.ref x])) : zHnd p l e R s m args below meth c H1 L cells slots Q pc ls rest x := by
  obtain ⟨x1, tl, h1, e1, e2, e3, e4, ht⟩ := zTab1 htab
  obtain ⟨x2, tl2, h2, f1, f2, f3, f4⟩ := zTab2 ht
  subst h2
  refine ⟨hp2, fun T' hT X => ?_, kk⟩
  obtain ⟨vm', hW, hz⟩ := zCatch2 X hown h1 (g := F0 m pc ls rest) rfl (by show (decide (x1.startPc ≤ pc) && decide (pc < x1.endPc)) = true; rw [e1, e2]; simp only [Bool.and_eq_true, decide_eq_true_eq]; exact hcov) (by rw [e4]; exact h0) (by show (decide (x2.startPc ≤ pc) && decide (pc < x2.endPc)) = true; rw [f1, f2]; simp only [Bool.and_eq_true, decide_eq_true_eq]; exact hcov2) (by rw [f4]; exact h02) (N := N) (N2 := N2) (C := C) (by rw [e4]; exact hlink) hno (by rw [f4]; exact hlink2) hcast (by rw [hT]; exact hce) hcls hvm
  rw [f3] at hz
  exact ⟨vm', hW, hz⟩
theorem ztRi (S : CallFix p m c cc nL s args Ts own) (hM : YMet l y (Cond.code y bytes maxL ret :: TBL) rm (va_Pc (.ref b :: As) (jBx D tys wc)) (xQ z (vp_Si (fun r => r = jI v9))) 0 0 1 6 (fun _ => False)) (cw : CallW R s args own C index y bytes maxL ret (Cond.code y bytes maxL ret :: TBL) rm 1 6 n) (hK : va_K D vwCl tys s) (hP : va_P D vwCl ws s.heap) (hN : jN s) (hX : jX (fun _ => False) s) (is : List Nat) (hs : is.filterMap (fun i => ws[i]?) = wc) (q0 ci : Nat) {q : vw_C} {fs : List Value} (hc : vwCl[ci]? = some q) (hC : q.1 = C) (he : ws[q0]? = some (b, .inr (ci, fs))) (hn : As.length = n) (hsize : ls.size = nL) (hstack : st0 = As.reverse ++ .ref b :: rest) (hW : (rest.map fun v => v.category).sum ≤ 8) (hdg : decode cc pc = .ok (.invokevirtual index, 3)) (hf : cells + 1 ≤ R.cells ∧ slots + 6 ≤ R.slots)
    (k0 : z = 0 → W p l e R s m args below meth c s.heap [] cells slots Q (F0 m (pc + 3) ls (.int (jI v9) :: rest)))
    (k1 : z ≠ 0 → ∀ (x : Addr) (ce : Cell) (H1 : Heap) (L : List Loc), va_P D vwCl ws H1 → va_S A s.heap H1 L → H1[x]? = some ce → s.vm.findClass (xCls z) = some ce.cls → ce.vm = .none → zHnd p l e R s m args below meth c H1 L (cells + 1) (slots + 6) Q pc ls rest x) : W p l e R s m args below meth c s.heap [] cells slots Q (F0 m pc ls st0) := by
  subst hC
  refine y_try (yRunV (As := As) (rest := rest) S hM cw ⟨jBx_blind, va_recv hK hP hc he, fun U hU hWm => ⟨rfl, ⟨by rw [hU]; exact hP.sub is hs, va_K.moved hWm.alike hK, jN.warm hWm hN⟩, jX.warm hWm hU hX⟩⟩ rfl hn hsize hstack (lv_room hW) hdg hf) ?_ ?_
  · intro v st₀ t L h0 hW0 hL hW1 hq
    cases yL hL
    rcases hq with ⟨hz, r, h1, h2, h3⟩ | ⟨-, x, ce, h1, -⟩
    · cases h1
      rw [h2, h3, h0]
      exact k0 hz
    · cases h1
  · intro x st₀ t L h0 hW0 hL hq
    cases yL hL
    rcases hq with ⟨hz, r, h1, -⟩ | ⟨hz, x', ce, h1, h2, h3, h4, h5, h6, h7⟩
    · cases h1
    · cases h1
      exact k1 hz x ce t.heap [] (hP.kept (fun k q hk => by rw [h7 _ (by rw [h0]; exact (hP k q hk).lt), h0])) ⟨by rw [← h0]; exact h6, fun q h _ => by rw [h7 q (by rw [h0]; exact h), h0], fun _ h => by cases h⟩ h2 (by rw [← hW0.alike.findClass]; exact h3) h4
theorem ztRl (S : CallFix p m c cc nL s args Ts own) (hM : YMet l y (Cond.code y bytes maxL ret :: TBL) rm (va_Pc (.ref b :: As) (jBx D tys wc)) (xQ z (vp_Sl (fun r => r = jL v9))) 0 0 1 6 (fun _ => False)) (cw : CallW R s args own C index y bytes maxL ret (Cond.code y bytes maxL ret :: TBL) rm 1 6 n) (hK : va_K D vwCl tys s) (hP : va_P D vwCl ws s.heap) (hN : jN s) (hX : jX (fun _ => False) s) (is : List Nat) (hs : is.filterMap (fun i => ws[i]?) = wc) (q0 ci : Nat) {q : vw_C} {fs : List Value} (hc : vwCl[ci]? = some q) (hC : q.1 = C) (he : ws[q0]? = some (b, .inr (ci, fs))) (hn : As.length = n) (hsize : ls.size = nL) (hstack : st0 = As.reverse ++ .ref b :: rest) (hW : (rest.map fun v => v.category).sum ≤ 8) (hdg : decode cc pc = .ok (.invokevirtual index, 3)) (hf : cells + 1 ≤ R.cells ∧ slots + 6 ≤ R.slots)
    (k0 : z = 0 → W p l e R s m args below meth c s.heap [] cells slots Q (F0 m (pc + 3) ls (.long (jL v9) :: rest)))
    (k1 : z ≠ 0 → ∀ (x : Addr) (ce : Cell) (H1 : Heap) (L : List Loc), va_P D vwCl ws H1 → va_S A s.heap H1 L → H1[x]? = some ce → s.vm.findClass (xCls z) = some ce.cls → ce.vm = .none → zHnd p l e R s m args below meth c H1 L (cells + 1) (slots + 6) Q pc ls rest x) : W p l e R s m args below meth c s.heap [] cells slots Q (F0 m pc ls st0) := by
  subst hC
  refine y_try (yRunV (As := As) (rest := rest) S hM cw ⟨jBx_blind, va_recv hK hP hc he, fun U hU hWm => ⟨rfl, ⟨by rw [hU]; exact hP.sub is hs, va_K.moved hWm.alike hK, jN.warm hWm hN⟩, jX.warm hWm hU hX⟩⟩ rfl hn hsize hstack (lv_room hW) hdg hf) ?_ ?_
  · intro v st₀ t L h0 hW0 hL hW1 hq
    cases yL hL
    rcases hq with ⟨hz, r, h1, h2, h3⟩ | ⟨-, x, ce, h1, -⟩
    · cases h1
      rw [h2, h3, h0]
      exact k0 hz
    · cases h1
  · intro x st₀ t L h0 hW0 hL hq
    cases yL hL
    rcases hq with ⟨hz, r, h1, -⟩ | ⟨hz, x', ce, h1, h2, h3, h4, h5, h6, h7⟩
    · cases h1
    · cases h1
      exact k1 hz x ce t.heap [] (hP.kept (fun k q hk => by rw [h7 _ (by rw [h0]; exact (hP k q hk).lt), h0])) ⟨by rw [← h0]; exact h6, fun q h _ => by rw [h7 q (by rw [h0]; exact h), h0], fun _ h => by cases h⟩ h2 (by rw [← hW0.alike.findClass]; exact h3) h4
theorem ztWi {U9 : Type} {post : Int32 → U9 → Prop} {w1 : U9 → va_W} (S : CallFix p m c cc nL s args Ts own) (hM : YMet l y (Cond.code y bytes maxL ret :: TBL) rm (va_Pc (.ref b :: As) (jBxw D tys wc s.heap.size)) (xQ z (va_Qi post (fun u t => jE D tys wc s.heap.size (w1 u) t) (va_A wc s.heap.size))) 0 0 1 6 (va_A wc s.heap.size)) (cw : CallW R s args own C index y bytes maxL ret (Cond.code y bytes maxL ret :: TBL) rm 1 6 n) (hK : va_K D vwCl tys s) (hP : va_P D vwCl ws s.heap) (hD : va_D A ws) (hA : ∀ q, s.heap.size ≤ q → A q) (hN : jN s) (hX : jX (fun _ => False) s) (isC isR : List Nat) (hCc : isC.map (fun i => ws[i]?) = wc.map some) (hRr : isR.map (fun i => ws[i]?) = wr.map some) (hnd : va_nd isR = true) (hnc : va_nd isC = true) (hdis : ∀ i ∈ isR, i ∉ isC) (q0 ci : Nat) {q : vw_C} {fs : List Value} (hc : vwCl[ci]? = some q) (hC : q.1 = C) (he : ws[q0]? = some (b, .inr (ci, fs))) (hn : As.length = n) (hsize : ls.size = nL) (hstack : st0 = As.reverse ++ .ref b :: rest) (hW : (rest.map fun v => v.category).sum ≤ 8) (hdg : decode cc pc = .ok (.invokevirtual index, 3)) (hf : cells + 1 ≤ R.cells ∧ slots + 6 ≤ R.slots)
    (k0 : z = 0 → ∀ (r : Int32) (u : U9) (H1 : Heap) (locs1 : List Loc), post r u → va_P D vwCl (wr ++ w1 u) H1 → va_D A (wr ++ w1 u) → va_S A s.heap H1 locs1 → W p l e R s m args below meth c H1 locs1 cells slots Q (F0 m (pc + 3) ls (.int r :: rest)))
    (k1 : z ≠ 0 → ∀ (x : Addr) (ce : Cell) (H1 : Heap) (L : List Loc), va_P D vwCl ws H1 → va_S A s.heap H1 L → H1[x]? = some ce → s.vm.findClass (xCls z) = some ce.cls → ce.vm = .none → zHnd p l e R s m args below meth c H1 L (cells + 1) (slots + 6) Q pc ls rest x) : W p l e R s m args below meth c s.heap [] cells slots Q (F0 m pc ls st0) := by
  subst hC
  have hPc := hP.sub isC (by
    have h9 := congrArg (fun l => l.filterMap id) hCc
    simpa [List.filterMap_map, Function.comp_def] using h9)
  have hDc : va_D A wc := hD.sub isC hnc hCc
  have hFc := va_free (wc := wc) hD (va_S.rf (H0 := s.heap)) hA isC hCc
  refine y_try (yRunV (As := As) (rest := rest) S hM cw ⟨jBxw_blind, va_recv hK hP hc he, fun U hU hWm => ⟨rfl, ⟨by rw [hU], by rw [hU]; exact hPc, va_K.moved hWm.alike hK, hDc.weaken (fun _ _ _ _ => trivial), jN.warm hWm hN⟩, jX.warm hWm hU hX⟩⟩ rfl hn hsize hstack (lv_room hW) hdg hf) ?_ ?_
  · intro v st₀ t L h0 hW0 hL hW1 hq
    rcases hq with ⟨hz, ⟨r, u, h1, hp1, hB⟩, hF1, hF2⟩ | ⟨-, x, ce, h1, -⟩
    · cases h1
      rw [h0] at hF1 hF2
      obtain ⟨hP1, hK1, hD1⟩ := hB
      obtain ⟨hP2, hD2⟩ := va_join hP hD isC isR hCc hRr hnd hdis hF2 hFc hP1 hD1
      exact k0 hz r u t.heap ([] ++ L) hp1 hP2 hD2 ⟨hF1, fun q h1 h2 => hF2 q h1 (fun z => h2 (hFc q z)), fun q hq => hFc _ (hL q hq)⟩
    · cases h1
  · intro x st₀ t L h0 hW0 hL hq
    rcases hq with ⟨hz, ⟨r, u, h1, hp1, hB⟩, -⟩ | ⟨hz, x', ce, h1, h2, h3, h4, h5, h6, h7⟩
    · cases h1
    · cases h1
      exact k1 hz x ce t.heap ([] ++ L) (hP.kept (fun k q hk => by rw [h7 _ (by rw [h0]; exact (hP k q hk).lt), h0])) ⟨by rw [← h0]; exact h6, fun q h _ => by rw [h7 q (by rw [h0]; exact h), h0], fun q hq => hFc _ (hL q hq)⟩ h2 (by rw [← hW0.alike.findClass]; exact h3) h4
theorem ztWl {U9 : Type} {post : Int64 → U9 → Prop} {w1 : U9 → va_W} (S : CallFix p m c cc nL s args Ts own) (hM : YMet l y (Cond.code y bytes maxL ret :: TBL) rm (va_Pc (.ref b :: As) (jBxw D tys wc s.heap.size)) (xQ z (va_Ql post (fun u t => jE D tys wc s.heap.size (w1 u) t) (va_A wc s.heap.size))) 0 0 1 6 (va_A wc s.heap.size)) (cw : CallW R s args own C index y bytes maxL ret (Cond.code y bytes maxL ret :: TBL) rm 1 6 n) (hK : va_K D vwCl tys s) (hP : va_P D vwCl ws s.heap) (hD : va_D A ws) (hA : ∀ q, s.heap.size ≤ q → A q) (hN : jN s) (hX : jX (fun _ => False) s) (isC isR : List Nat) (hCc : isC.map (fun i => ws[i]?) = wc.map some) (hRr : isR.map (fun i => ws[i]?) = wr.map some) (hnd : va_nd isR = true) (hnc : va_nd isC = true) (hdis : ∀ i ∈ isR, i ∉ isC) (q0 ci : Nat) {q : vw_C} {fs : List Value} (hc : vwCl[ci]? = some q) (hC : q.1 = C) (he : ws[q0]? = some (b, .inr (ci, fs))) (hn : As.length = n) (hsize : ls.size = nL) (hstack : st0 = As.reverse ++ .ref b :: rest) (hW : (rest.map fun v => v.category).sum ≤ 8) (hdg : decode cc pc = .ok (.invokevirtual index, 3)) (hf : cells + 1 ≤ R.cells ∧ slots + 6 ≤ R.slots)
    (k0 : z = 0 → ∀ (r : Int64) (u : U9) (H1 : Heap) (locs1 : List Loc), post r u → va_P D vwCl (wr ++ w1 u) H1 → va_D A (wr ++ w1 u) → va_S A s.heap H1 locs1 → W p l e R s m args below meth c H1 locs1 cells slots Q (F0 m (pc + 3) ls (.long r :: rest)))
    (k1 : z ≠ 0 → ∀ (x : Addr) (ce : Cell) (H1 : Heap) (L : List Loc), va_P D vwCl ws H1 → va_S A s.heap H1 L → H1[x]? = some ce → s.vm.findClass (xCls z) = some ce.cls → ce.vm = .none → zHnd p l e R s m args below meth c H1 L (cells + 1) (slots + 6) Q pc ls rest x) : W p l e R s m args below meth c s.heap [] cells slots Q (F0 m pc ls st0) := by
  subst hC
  have hPc := hP.sub isC (by
    have h9 := congrArg (fun l => l.filterMap id) hCc
    simpa [List.filterMap_map, Function.comp_def] using h9)
  have hDc : va_D A wc := hD.sub isC hnc hCc
  have hFc := va_free (wc := wc) hD (va_S.rf (H0 := s.heap)) hA isC hCc
  refine y_try (yRunV (As := As) (rest := rest) S hM cw ⟨jBxw_blind, va_recv hK hP hc he, fun U hU hWm => ⟨rfl, ⟨by rw [hU], by rw [hU]; exact hPc, va_K.moved hWm.alike hK, hDc.weaken (fun _ _ _ _ => trivial), jN.warm hWm hN⟩, jX.warm hWm hU hX⟩⟩ rfl hn hsize hstack (lv_room hW) hdg hf) ?_ ?_
  · intro v st₀ t L h0 hW0 hL hW1 hq
    rcases hq with ⟨hz, ⟨r, u, h1, hp1, hB⟩, hF1, hF2⟩ | ⟨-, x, ce, h1, -⟩
    · cases h1
      rw [h0] at hF1 hF2
      obtain ⟨hP1, hK1, hD1⟩ := hB
      obtain ⟨hP2, hD2⟩ := va_join hP hD isC isR hCc hRr hnd hdis hF2 hFc hP1 hD1
      exact k0 hz r u t.heap ([] ++ L) hp1 hP2 hD2 ⟨hF1, fun q h1 h2 => hF2 q h1 (fun z => h2 (hFc q z)), fun q hq => hFc _ (hL q hq)⟩
    · cases h1
  · intro x st₀ t L h0 hW0 hL hq
    rcases hq with ⟨hz, ⟨r, u, h1, hp1, hB⟩, -⟩ | ⟨hz, x', ce, h1, h2, h3, h4, h5, h6, h7⟩
    · cases h1
    · cases h1
      exact k1 hz x ce t.heap ([] ++ L) (hP.kept (fun k q hk => by rw [h7 _ (by rw [h0]; exact (hP k q hk).lt), h0])) ⟨by rw [← h0]; exact h6, fun q h _ => by rw [h7 q (by rw [h0]; exact h), h0], fun q hq => hFc _ (hL q hq)⟩ h2 (by rw [← hW0.alike.findClass]; exact h3) h4
theorem ztWv {U9 : Type} {post : U9 → Prop} {w1 : U9 → va_W} (S : CallFix p m c cc nL s args Ts own) (hM : YMet l y (Cond.code y bytes maxL ret :: TBL) rm (va_Pc (.ref b :: As) (jBxw D tys wc s.heap.size)) (xQ z (va_Qv post (fun u t => jE D tys wc s.heap.size (w1 u) t) (va_A wc s.heap.size))) 0 0 1 6 (va_A wc s.heap.size)) (cw : CallW R s args own C index y bytes maxL ret (Cond.code y bytes maxL ret :: TBL) rm 1 6 n) (hK : va_K D vwCl tys s) (hP : va_P D vwCl ws s.heap) (hD : va_D A ws) (hA : ∀ q, s.heap.size ≤ q → A q) (hN : jN s) (hX : jX (fun _ => False) s) (isC isR : List Nat) (hCc : isC.map (fun i => ws[i]?) = wc.map some) (hRr : isR.map (fun i => ws[i]?) = wr.map some) (hnd : va_nd isR = true) (hnc : va_nd isC = true) (hdis : ∀ i ∈ isR, i ∉ isC) (q0 ci : Nat) {q : vw_C} {fs : List Value} (hc : vwCl[ci]? = some q) (hC : q.1 = C) (he : ws[q0]? = some (b, .inr (ci, fs))) (hn : As.length = n) (hsize : ls.size = nL) (hstack : st0 = As.reverse ++ .ref b :: rest) (hW : (rest.map fun v => v.category).sum ≤ 8) (hdg : decode cc pc = .ok (.invokevirtual index, 3)) (hf : cells + 1 ≤ R.cells ∧ slots + 6 ≤ R.slots)
    (k0 : z = 0 → ∀ (u : U9) (H1 : Heap) (locs1 : List Loc), post u → va_P D vwCl (wr ++ w1 u) H1 → va_D A (wr ++ w1 u) → va_S A s.heap H1 locs1 → W p l e R s m args below meth c H1 locs1 cells slots Q (F0 m (pc + 3) ls (rest)))
    (k1 : z ≠ 0 → ∀ (x : Addr) (ce : Cell) (H1 : Heap) (L : List Loc), va_P D vwCl ws H1 → va_S A s.heap H1 L → H1[x]? = some ce → s.vm.findClass (xCls z) = some ce.cls → ce.vm = .none → zHnd p l e R s m args below meth c H1 L (cells + 1) (slots + 6) Q pc ls rest x) : W p l e R s m args below meth c s.heap [] cells slots Q (F0 m pc ls st0) := by
  subst hC
  have hPc := hP.sub isC (by
    have h9 := congrArg (fun l => l.filterMap id) hCc
    simpa [List.filterMap_map, Function.comp_def] using h9)
  have hDc : va_D A wc := hD.sub isC hnc hCc
  have hFc := va_free (wc := wc) hD (va_S.rf (H0 := s.heap)) hA isC hCc
  refine y_try (yRunV (As := As) (rest := rest) S hM cw ⟨jBxw_blind, va_recv hK hP hc he, fun U hU hWm => ⟨rfl, ⟨by rw [hU], by rw [hU]; exact hPc, va_K.moved hWm.alike hK, hDc.weaken (fun _ _ _ _ => trivial), jN.warm hWm hN⟩, jX.warm hWm hU hX⟩⟩ rfl hn hsize hstack (lv_room hW) hdg hf) ?_ ?_
  · intro v st₀ t L h0 hW0 hL hW1 hq
    rcases hq with ⟨hz, ⟨u, h1, hp1, hB⟩, hF1, hF2⟩ | ⟨-, x, ce, h1, -⟩
    · cases h1
      rw [h0] at hF1 hF2
      obtain ⟨hP1, hK1, hD1⟩ := hB
      obtain ⟨hP2, hD2⟩ := va_join hP hD isC isR hCc hRr hnd hdis hF2 hFc hP1 hD1
      exact k0 hz u t.heap ([] ++ L) hp1 hP2 hD2 ⟨hF1, fun q h1 h2 => hF2 q h1 (fun z => h2 (hFc q z)), fun q hq => hFc _ (hL q hq)⟩
    · cases h1
  · intro x st₀ t L h0 hW0 hL hq
    rcases hq with ⟨hz, ⟨u, h1, hp1, hB⟩, -⟩ | ⟨hz, x', ce, h1, h2, h3, h4, h5, h6, h7⟩
    · cases h1
    · cases h1
      exact k1 hz x ce t.heap ([] ++ L) (hP.kept (fun k q hk => by rw [h7 _ (by rw [h0]; exact (hP k q hk).lt), h0])) ⟨by rw [← h0]; exact h6, fun q h _ => by rw [h7 q (by rw [h0]; exact h), h0], fun q hq => hFc _ (hL q hq)⟩ h2 (by rw [← hW0.alike.findClass]; exact h3) h4
end ZO
