/-- a world that a method may read: its cells, the classes, the nest's words -/
def jB (D : va_G) (tys : List (ClassId × FieldType)) (wc : va_W) : State → Prop := fun U => va_P D vwCl wc U.heap ∧ va_K D vwCl tys U ∧ jN U
/-- .. that it may write, with a heap of sz cells -/
def jBw (D : va_G) (tys : List (ClassId × FieldType)) (wc : va_W) (sz : Nat) : State → Prop := fun U => U.heap.size = sz ∧ va_P D vwCl wc U.heap ∧ va_K D vwCl tys U ∧ va_D (fun _ => True) wc ∧ jN U
/-- the world behind a method that writes -/
def jE (D : va_G) (tys : List (ClassId × FieldType)) (wc : va_W) (sz : Nat) (w1 : va_W) (t : State) : Prop := va_P D vwCl w1 t.heap ∧ va_K D vwCl tys t ∧ va_D (va_A wc sz) w1
theorem jB_blind {D : va_G} {tys : List (ClassId × FieldType)} {wc : va_W} {As : List Value} : FrameBlind (va_Pc As (jB D tys wc)) := fun a U g mk q => ⟨q.1, q.2.1, va_K.moved (u := U) (U := U.calling g mk a) (Vm.Alike.refl U.vm) q.2.2.1, jN.same rfl q.2.2.2⟩
theorem jBw_blind {D : va_G} {tys : List (ClassId × FieldType)} {wc : va_W} {sz : Nat} {As : List Value} : FrameBlind (va_Pc As (jBw D tys wc sz)) := fun a U g mk q => ⟨q.1, q.2.1, q.2.2.1, va_K.moved (u := U) (U := U.calling g mk a) (Vm.Alike.refl U.vm) q.2.2.2.1, q.2.2.2.2.1, jN.same rfl q.2.2.2.2.2⟩
/-- words among TBL are words among a method's -/
theorem jmem {c0 w : Cond} (h : w ∈ TBL) : w ∈ c0 :: TBL := List.mem_cons_of_mem _ h
theorem jgood {w : Cond} (h : w ∈ TBL) : (w.onTables && w.keeps) = true ∨ ∃ ty, w = .arrayClass ty := good_of_word (TBL_good w h)
theorem jG {c0 : Cond} {ws : List Cond} (h : ∀ w ∈ ws, w ∈ TBL) : GoodIn (c0 :: TBL) ws := fun w hw => ⟨jmem (h w hw), jgood (h w hw)⟩
theorem jG_c {y : MethodName} {b : ByteArray} {n : Nat} {r : Option FieldType} (h : Cond.code y b n r ∈ TBL) : ∀ w ∈ Cond.code y b n r :: TBL, w ∈ TBL := fun w hw => (List.mem_cons.mp hw).elim (fun e => by rw [e]; exact h) id
theorem jG_V {c0 : Cond} {own C : String} {i n : Nat} {y : MethodName} {b : ByteArray} {r : Option FieldType} (h1 : Cond.methodLink own i y ∈ TBL) (h2 : Cond.instanceMethod y ∈ TBL) (h3 : Cond.selects C y y ∈ TBL) (h4 : Cond.initialized C ∈ TBL) (h5 : Cond.code y b n r ∈ TBL) : GoodIn (c0 :: TBL) (wsV own i C y (Cond.code y b n r :: TBL)) := jG (fun w hw => by
  rcases List.mem_append.mp hw with h | h
  · simp only [List.mem_cons, List.not_mem_nil, or_false] at h
    rcases h with rfl | rfl | rfl | rfl <;> assumption
  · exact jG_c h5 w h)
theorem jG_S {c0 : Cond} {own : String} {i n : Nat} {y : MethodName} {b : ByteArray} {r : Option FieldType} (h1 : Cond.methodLink own i y ∈ TBL) (h2 : Cond.static y ∈ TBL) (h4 : Cond.initialized own ∈ TBL) (h5 : Cond.code y b n r ∈ TBL) : GoodIn (c0 :: TBL) (wsS own i y (Cond.code y b n r :: TBL)) := jG (fun w hw => by
  rcases List.mem_append.mp hw with h | h
  · simp only [List.mem_cons, List.not_mem_nil, or_false] at h
    rcases h with rfl | rfl | rfl <;> assumption
  · exact jG_c h5 w h)
theorem jG_T {c0 : Cond} {own : String} {i n : Nat} {y : MethodName} {b : ByteArray} {r : Option FieldType} (h1 : Cond.methodLink own i y ∈ TBL) (h2 : Cond.static y ∈ TBL) (h4 : Cond.initialized y.cls ∈ TBL) (h5 : Cond.code y b n r ∈ TBL) : GoodIn (c0 :: TBL) (va_wsS own i y (Cond.code y b n r :: TBL)) := jG (fun w hw => by
  rcases List.mem_append.mp hw with h | h
  · simp only [List.mem_cons, List.not_mem_nil, or_false] at h
    rcases h with rfl | rfl | rfl <;> assumption
  · exact jG_c h5 w h)

section JC
variable {p : Program} {l : Launch} {e : Env} {R : Room} {s : State} {m : MethodId} {args : Array Value} {below : List Frame} {meth : Method} {c : Code} {H : Heap} {locs : List Loc} {cells slots : Nat} {Q : State → Prop}
variable {cc bytes : ByteArray} {pc nL maxL n index : Nat} {ls : Array Slot} {rest st0 As : List Value} {D : va_G} {A : Nat → Prop} {b : Nat} {tys : List (ClassId × FieldType)} {ws wc wr : va_W} {H0 : Heap} {own C host : String} {y : MethodName} {ret : Option FieldType} {rm : Room} {Ts : List Cond} {z : Int} {a : Array Value}
theorem jRun {mc ms : Nat} {g : JFrame} {Qa : State → Outcome → State → Prop} {free : Addr → Prop} (h : va_Run p l e R s m args below meth c H locs cells slots mc ms g rest Qa free) : CallRun p l e R s m args below meth c H locs cells slots mc ms g rest Qa free := fun T hT X => by
  obtain ⟨v, st₀, t, T', L, h0, X', hL, e1, e2, hq, st⟩ := h T hT X
  exact ⟨v, st₀, t, T', L, h0, X', hL, e1, hq, st⟩
theorem jrVi (S : CallFix p m c cc nL s args Ts own) (hM : Met l y (Cond.code y bytes maxL ret :: TBL) rm (va_Pc (.ref b :: As) (jB D tys wc)) (vp_Si (fun r => r = jI z)) 0 0 (fun _ => False)) (cw : CallW R s args own C index y bytes maxL ret (Cond.code y bytes maxL ret :: TBL) rm 0 0 n) (hK : va_K D vwCl tys s) (hP : va_P D vwCl ws H) (hN : jN s) (is : List Nat) (hs : is.filterMap (fun i => ws[i]?) = wc) (q0 ci : Nat) {q : vw_C} {fs : List Value} (hc : vwCl[ci]? = some q) (hC : q.1 = C) (he : ws[q0]? = some (b, .inr (ci, fs))) (hn : As.length = n) (hsize : ls.size = nL) (hstack : st0 = As.reverse ++ .ref b :: rest) (hW : (rest.map fun v => v.category).sum ≤ 8) (hdg : decode cc pc = .ok (.invokevirtual index, 3)) (hf : cells ≤ R.cells ∧ slots ≤ R.slots) (kk : W p l e R s m args below meth c H locs cells slots Q (F0 m (pc + 3) ls (.int (jI z) :: rest))) : W p l e R s m args below meth c H locs cells slots Q (F0 m pc ls st0) := by
  subst hC
  exact vp_callSi (jRun (va_runV S hM cw ⟨jB_blind, va_recv hK hP hc he, fun U hU hWm => ⟨rfl, by rw [hU]; exact hP.sub is hs, va_K.moved hWm.alike hK, jN.warm hWm hN⟩⟩ rfl hn hsize hstack (lv_room hW) hdg hf)) (fun r er => by rw [er]; exact kk)
theorem jrSi (S : CallFix p m c cc nL s args Ts own) (hM : Met l y (Cond.code y bytes maxL ret :: TBL) rm (va_Pc (As) (jB D tys wc)) (vp_Si (fun r => r = jI z)) 0 0 (fun _ => False)) (cw : CallB R s args own index y bytes maxL ret (Cond.code y bytes maxL ret :: TBL) rm 0 0 n ∧ (Cond.static y).before args s = true) (hK : va_K D vwCl tys s) (hP : va_P D vwCl ws H) (hN : jN s) (is : List Nat) (hs : is.filterMap (fun i => ws[i]?) = wc) (hn : As.length = n) (hsize : ls.size = nL) (hstack : st0 = As.reverse ++ rest) (hW : (rest.map fun v => v.category).sum ≤ 8) (hdg : decode cc pc = .ok (.invokestatic index, 3)) (hf : cells ≤ R.cells ∧ slots ≤ R.slots) (kk : W p l e R s m args below meth c H locs cells slots Q (F0 m (pc + 3) ls (.int (jI z) :: rest))) : W p l e R s m args below meth c H locs cells slots Q (F0 m pc ls st0) := vp_callSi (jRun (va_runS S hM cw ⟨jB_blind, fun U hU hWm => ⟨rfl, by rw [hU]; exact hP.sub is hs, va_K.moved hWm.alike hK, jN.warm hWm hN⟩⟩ rfl hn hsize hstack (lv_room hW) hdg hf)) (fun r er => by rw [er]; exact kk)
theorem jrNi (S : CallFix p m c cc nL s args Ts own) (hM : Met l y (Cond.code y bytes maxL ret :: TBL) rm (va_Pc (As) (jB D tys wc)) (vp_Si (fun r => r = jI z)) 0 0 (fun _ => False)) (cw : va_CN R s args own index y host bytes maxL ret (Cond.code y bytes maxL ret :: TBL) rm 0 0 n ∧ (Cond.static y).before args s = true ∧ True) (hK : va_K D vwCl tys s) (hP : va_P D vwCl ws H) (hN : jN s) (is : List Nat) (hs : is.filterMap (fun i => ws[i]?) = wc) (hn : As.length = n) (hsize : ls.size = nL) (hstack : st0 = As.reverse ++ rest) (hW : (rest.map fun v => v.category).sum ≤ 8) (hdg : decode cc pc = .ok (.invokestatic index, 3)) (hf : cells ≤ R.cells ∧ slots ≤ R.slots) (kk : W p l e R s m args below meth c H locs cells slots Q (F0 m (pc + 3) ls (.int (jI z) :: rest))) : W p l e R s m args below meth c H locs cells slots Q (F0 m pc ls st0) := vp_callSi (jRun (va_runSN S hM cw ⟨jB_blind, fun U hU hWm => ⟨rfl, by rw [hU]; exact hP.sub is hs, va_K.moved hWm.alike hK, jN.warm hWm hN⟩⟩ rfl hn hsize hstack (lv_room hW) hdg hf)) (fun r er => by rw [er]; exact kk)
theorem jrVl (S : CallFix p m c cc nL s args Ts own) (hM : Met l y (Cond.code y bytes maxL ret :: TBL) rm (va_Pc (.ref b :: As) (jB D tys wc)) (vp_Sl (fun r => r = jL z)) 0 0 (fun _ => False)) (cw : CallW R s args own C index y bytes maxL ret (Cond.code y bytes maxL ret :: TBL) rm 0 0 n) (hK : va_K D vwCl tys s) (hP : va_P D vwCl ws H) (hN : jN s) (is : List Nat) (hs : is.filterMap (fun i => ws[i]?) = wc) (q0 ci : Nat) {q : vw_C} {fs : List Value} (hc : vwCl[ci]? = some q) (hC : q.1 = C) (he : ws[q0]? = some (b, .inr (ci, fs))) (hn : As.length = n) (hsize : ls.size = nL) (hstack : st0 = As.reverse ++ .ref b :: rest) (hW : (rest.map fun v => v.category).sum ≤ 8) (hdg : decode cc pc = .ok (.invokevirtual index, 3)) (hf : cells ≤ R.cells ∧ slots ≤ R.slots) (kk : W p l e R s m args below meth c H locs cells slots Q (F0 m (pc + 3) ls (.long (jL z) :: rest))) : W p l e R s m args below meth c H locs cells slots Q (F0 m pc ls st0) := by
  subst hC
  exact vp_callSl (jRun (va_runV S hM cw ⟨jB_blind, va_recv hK hP hc he, fun U hU hWm => ⟨rfl, by rw [hU]; exact hP.sub is hs, va_K.moved hWm.alike hK, jN.warm hWm hN⟩⟩ rfl hn hsize hstack (lv_room hW) hdg hf)) (fun r er => by rw [er]; exact kk)
theorem jrSl (S : CallFix p m c cc nL s args Ts own) (hM : Met l y (Cond.code y bytes maxL ret :: TBL) rm (va_Pc (As) (jB D tys wc)) (vp_Sl (fun r => r = jL z)) 0 0 (fun _ => False)) (cw : CallB R s args own index y bytes maxL ret (Cond.code y bytes maxL ret :: TBL) rm 0 0 n ∧ (Cond.static y).before args s = true) (hK : va_K D vwCl tys s) (hP : va_P D vwCl ws H) (hN : jN s) (is : List Nat) (hs : is.filterMap (fun i => ws[i]?) = wc) (hn : As.length = n) (hsize : ls.size = nL) (hstack : st0 = As.reverse ++ rest) (hW : (rest.map fun v => v.category).sum ≤ 8) (hdg : decode cc pc = .ok (.invokestatic index, 3)) (hf : cells ≤ R.cells ∧ slots ≤ R.slots) (kk : W p l e R s m args below meth c H locs cells slots Q (F0 m (pc + 3) ls (.long (jL z) :: rest))) : W p l e R s m args below meth c H locs cells slots Q (F0 m pc ls st0) := vp_callSl (jRun (va_runS S hM cw ⟨jB_blind, fun U hU hWm => ⟨rfl, by rw [hU]; exact hP.sub is hs, va_K.moved hWm.alike hK, jN.warm hWm hN⟩⟩ rfl hn hsize hstack (lv_room hW) hdg hf)) (fun r er => by rw [er]; exact kk)
theorem jwVi {U9 : Type} {post : Int32 → U9 → Prop} {w1 : U9 → va_W} (S : CallFix p m c cc nL s args Ts own) (hM : Met l y (Cond.code y bytes maxL ret :: TBL) rm (va_Pc (.ref b :: As) (jBw D tys wc H.size)) (va_Qi post (fun u t => jE D tys wc H.size (w1 u) t) (va_A wc H.size)) 0 0 (va_A wc H.size)) (cw : CallW R s args own C index y bytes maxL ret (Cond.code y bytes maxL ret :: TBL) rm 0 0 n) (hK : va_K D vwCl tys s) (hP : va_P D vwCl ws H) (hD : va_D A ws) (hS : va_S A H0 H locs) (hA : ∀ q, H0.size ≤ q → A q) (hN : jN s) (isC isR : List Nat) (hC : isC.map (fun i => ws[i]?) = wc.map some) (hRr : isR.map (fun i => ws[i]?) = wr.map some) (hnd : va_nd isR = true) (hnc : va_nd isC = true) (hdis : ∀ i ∈ isR, i ∉ isC) (q0 ci : Nat) {q : vw_C} {fs : List Value} (hc : vwCl[ci]? = some q) (hCc : q.1 = C) (he : ws[q0]? = some (b, .inr (ci, fs))) (hn : As.length = n) (hsize : ls.size = nL) (hstack : st0 = As.reverse ++ .ref b :: rest) (hW : (rest.map fun v => v.category).sum ≤ 8) (hdg : decode cc pc = .ok (.invokevirtual index, 3)) (hf : cells ≤ R.cells ∧ slots ≤ R.slots) (kk : ∀ (r : Int32) (u : U9) (H1 : Heap) (locs1 : List Loc), post r u → va_P D vwCl (wr ++ w1 u) H1 → va_D A (wr ++ w1 u) → va_S A H0 H1 locs1 → W p l e R s m args below meth c H1 locs1 cells slots Q (F0 m (pc + 3) ls (.int r :: rest))) : W p l e R s m args below meth c H locs cells slots Q (F0 m pc ls st0) := by
  have hPc := hP.sub isC (by
    have h9 := congrArg (fun l => l.filterMap id) hC
    simpa [List.filterMap_map, Function.comp_def] using h9)
  have hDc : va_D A wc := hD.sub isC hnc hC
  have hFc := va_free (wc := wc) hD hS hA isC hC
  refine va_calli (va_runV S hM cw ⟨jBw_blind, (by subst hCc; exact va_recv hK hP hc he), fun U hU hWm => ⟨rfl, by rw [hU], by rw [hU]; exact hPc, va_K.moved hWm.alike hK, hDc.weaken (fun _ _ _ _ => trivial), jN.warm hWm hN⟩⟩ rfl hn hsize hstack (lv_room hW) hdg hf) hS (fun q _ h => hFc q h) hFc (fun r u t H1 locs1 ht hvm hw hB hz1 hk1 hS1 => ?_)
  obtain ⟨hP1, hK1, hD1⟩ := hB
  rw [ht] at hP1
  obtain ⟨hP2, hD2⟩ := va_join hP hD isC isR hC hRr hnd hdis hk1 hFc hP1 hD1
  exact kk r u H1 locs1 hw hP2 hD2 hS1
theorem jwVl {U9 : Type} {post : Int64 → U9 → Prop} {w1 : U9 → va_W} (S : CallFix p m c cc nL s args Ts own) (hM : Met l y (Cond.code y bytes maxL ret :: TBL) rm (va_Pc (.ref b :: As) (jBw D tys wc H.size)) (va_Ql post (fun u t => jE D tys wc H.size (w1 u) t) (va_A wc H.size)) 0 0 (va_A wc H.size)) (cw : CallW R s args own C index y bytes maxL ret (Cond.code y bytes maxL ret :: TBL) rm 0 0 n) (hK : va_K D vwCl tys s) (hP : va_P D vwCl ws H) (hD : va_D A ws) (hS : va_S A H0 H locs) (hA : ∀ q, H0.size ≤ q → A q) (hN : jN s) (isC isR : List Nat) (hC : isC.map (fun i => ws[i]?) = wc.map some) (hRr : isR.map (fun i => ws[i]?) = wr.map some) (hnd : va_nd isR = true) (hnc : va_nd isC = true) (hdis : ∀ i ∈ isR, i ∉ isC) (q0 ci : Nat) {q : vw_C} {fs : List Value} (hc : vwCl[ci]? = some q) (hCc : q.1 = C) (he : ws[q0]? = some (b, .inr (ci, fs))) (hn : As.length = n) (hsize : ls.size = nL) (hstack : st0 = As.reverse ++ .ref b :: rest) (hW : (rest.map fun v => v.category).sum ≤ 8) (hdg : decode cc pc = .ok (.invokevirtual index, 3)) (hf : cells ≤ R.cells ∧ slots ≤ R.slots) (kk : ∀ (r : Int64) (u : U9) (H1 : Heap) (locs1 : List Loc), post r u → va_P D vwCl (wr ++ w1 u) H1 → va_D A (wr ++ w1 u) → va_S A H0 H1 locs1 → W p l e R s m args below meth c H1 locs1 cells slots Q (F0 m (pc + 3) ls (.long r :: rest))) : W p l e R s m args below meth c H locs cells slots Q (F0 m pc ls st0) := by
  have hPc := hP.sub isC (by
    have h9 := congrArg (fun l => l.filterMap id) hC
    simpa [List.filterMap_map, Function.comp_def] using h9)
  have hDc : va_D A wc := hD.sub isC hnc hC
  have hFc := va_free (wc := wc) hD hS hA isC hC
  refine va_calll (va_runV S hM cw ⟨jBw_blind, (by subst hCc; exact va_recv hK hP hc he), fun U hU hWm => ⟨rfl, by rw [hU], by rw [hU]; exact hPc, va_K.moved hWm.alike hK, hDc.weaken (fun _ _ _ _ => trivial), jN.warm hWm hN⟩⟩ rfl hn hsize hstack (lv_room hW) hdg hf) hS (fun q _ h => hFc q h) hFc (fun r u t H1 locs1 ht hvm hw hB hz1 hk1 hS1 => ?_)
  obtain ⟨hP1, hK1, hD1⟩ := hB
  rw [ht] at hP1
  obtain ⟨hP2, hD2⟩ := va_join hP hD isC isR hC hRr hnd hdis hk1 hFc hP1 hD1
  exact kk r u H1 locs1 hw hP2 hD2 hS1
theorem jwVv {U9 : Type} {post : U9 → Prop} {w1 : U9 → va_W} (S : CallFix p m c cc nL s args Ts own) (hM : Met l y (Cond.code y bytes maxL ret :: TBL) rm (va_Pc (.ref b :: As) (jBw D tys wc H.size)) (va_Qv post (fun u t => jE D tys wc H.size (w1 u) t) (va_A wc H.size)) 0 0 (va_A wc H.size)) (cw : CallW R s args own C index y bytes maxL ret (Cond.code y bytes maxL ret :: TBL) rm 0 0 n) (hK : va_K D vwCl tys s) (hP : va_P D vwCl ws H) (hD : va_D A ws) (hS : va_S A H0 H locs) (hA : ∀ q, H0.size ≤ q → A q) (hN : jN s) (isC isR : List Nat) (hC : isC.map (fun i => ws[i]?) = wc.map some) (hRr : isR.map (fun i => ws[i]?) = wr.map some) (hnd : va_nd isR = true) (hnc : va_nd isC = true) (hdis : ∀ i ∈ isR, i ∉ isC) (q0 ci : Nat) {q : vw_C} {fs : List Value} (hc : vwCl[ci]? = some q) (hCc : q.1 = C) (he : ws[q0]? = some (b, .inr (ci, fs))) (hn : As.length = n) (hsize : ls.size = nL) (hstack : st0 = As.reverse ++ .ref b :: rest) (hW : (rest.map fun v => v.category).sum ≤ 8) (hdg : decode cc pc = .ok (.invokevirtual index, 3)) (hf : cells ≤ R.cells ∧ slots ≤ R.slots) (kk : ∀ (u : U9) (H1 : Heap) (locs1 : List Loc), post u → va_P D vwCl (wr ++ w1 u) H1 → va_D A (wr ++ w1 u) → va_S A H0 H1 locs1 → W p l e R s m args below meth c H1 locs1 cells slots Q (F0 m (pc + 3) ls (rest))) : W p l e R s m args below meth c H locs cells slots Q (F0 m pc ls st0) := by
  have hPc := hP.sub isC (by
    have h9 := congrArg (fun l => l.filterMap id) hC
    simpa [List.filterMap_map, Function.comp_def] using h9)
  have hDc : va_D A wc := hD.sub isC hnc hC
  have hFc := va_free (wc := wc) hD hS hA isC hC
  refine va_callv (va_runV S hM cw ⟨jBw_blind, (by subst hCc; exact va_recv hK hP hc he), fun U hU hWm => ⟨rfl, by rw [hU], by rw [hU]; exact hPc, va_K.moved hWm.alike hK, hDc.weaken (fun _ _ _ _ => trivial), jN.warm hWm hN⟩⟩ rfl hn hsize hstack (lv_room hW) hdg hf) hS (fun q _ h => hFc q h) hFc (fun u t H1 locs1 ht hvm hw hB hz1 hk1 hS1 => ?_)
  obtain ⟨hP1, hK1, hD1⟩ := hB
  rw [ht] at hP1
  obtain ⟨hP2, hD2⟩ := va_join hP hD isC isR hC hRr hnd hdis hk1 hFc hP1 hD1
  exact kk u H1 locs1 hw hP2 hD2 hS1
theorem jwSv {U9 : Type} {post : U9 → Prop} {w1 : U9 → va_W} (S : CallFix p m c cc nL s args Ts own) (hM : Met l y (Cond.code y bytes maxL ret :: TBL) rm (va_Pc (As) (jBw D tys wc H.size)) (va_Qv post (fun u t => jE D tys wc H.size (w1 u) t) (va_A wc H.size)) 0 0 (va_A wc H.size)) (cw : CallB R s args own index y bytes maxL ret (Cond.code y bytes maxL ret :: TBL) rm 0 0 n ∧ (Cond.static y).before args s = true) (hK : va_K D vwCl tys s) (hP : va_P D vwCl ws H) (hD : va_D A ws) (hS : va_S A H0 H locs) (hA : ∀ q, H0.size ≤ q → A q) (hN : jN s) (isC isR : List Nat) (hC : isC.map (fun i => ws[i]?) = wc.map some) (hRr : isR.map (fun i => ws[i]?) = wr.map some) (hnd : va_nd isR = true) (hnc : va_nd isC = true) (hdis : ∀ i ∈ isR, i ∉ isC) (hn : As.length = n) (hsize : ls.size = nL) (hstack : st0 = As.reverse ++ rest) (hW : (rest.map fun v => v.category).sum ≤ 8) (hdg : decode cc pc = .ok (.invokestatic index, 3)) (hf : cells ≤ R.cells ∧ slots ≤ R.slots) (kk : ∀ (u : U9) (H1 : Heap) (locs1 : List Loc), post u → va_P D vwCl (wr ++ w1 u) H1 → va_D A (wr ++ w1 u) → va_S A H0 H1 locs1 → W p l e R s m args below meth c H1 locs1 cells slots Q (F0 m (pc + 3) ls (rest))) : W p l e R s m args below meth c H locs cells slots Q (F0 m pc ls st0) := by
  have hPc := hP.sub isC (by
    have h9 := congrArg (fun l => l.filterMap id) hC
    simpa [List.filterMap_map, Function.comp_def] using h9)
  have hDc : va_D A wc := hD.sub isC hnc hC
  have hFc := va_free (wc := wc) hD hS hA isC hC
  refine va_callv (va_runS S hM cw ⟨jBw_blind, fun U hU hWm => ⟨rfl, by rw [hU], by rw [hU]; exact hPc, va_K.moved hWm.alike hK, hDc.weaken (fun _ _ _ _ => trivial), jN.warm hWm hN⟩⟩ rfl hn hsize hstack (lv_room hW) hdg hf) hS (fun q _ h => hFc q h) hFc (fun u t H1 locs1 ht hvm hw hB hz1 hk1 hS1 => ?_)
  obtain ⟨hP1, hK1, hD1⟩ := hB
  rw [ht] at hP1
  obtain ⟨hP2, hD2⟩ := va_join hP hD isC isR hC hRr hnd hdis hk1 hFc hP1 hD1
  exact kk u H1 locs1 hw hP2 hD2 hS1
end JC
/-- a contract out of its walk, the room and the end by names -/
theorem jMet {l : Launch} {y : MethodName} {ws ws' : List Cond} {rm : Room} {Pc : Array Value → State → Prop} {Qc : Array Value → State → Outcome → State → Prop} {mc ms : Nat} {free : Addr → Prop} {cc : ByteArray} {maxL : Nat} {ret : Option FieldType}
    (hy : plainName y.cls = true) (hw : ws = Cond.code y cc maxL ret :: ws')
    (body : ∀ p e s m args below meth c s₁ R Q, R = (headSpec ws rm).room → Q = MQ below Qc args s mc ms free → BodyLoose p l y (headSpec ws rm) cc maxL ret e s m args below meth c s₁ → c.maxLocals = maxL → Pc args s →
      W p l e R s m args below meth c s.heap [] 0 0 Q (entryFrame m args maxL)) : Met l y ws rm Pc Qc mc ms free :=
  Met.ofW hy hw (fun p e s m args below meth c s₁ B hml hP => body p e s m args below meth c s₁ _ _ rfl rfl B hml hP)

