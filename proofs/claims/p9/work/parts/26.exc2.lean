/-! a world that a method may read, or refuse with an exception -/
def jBx (D : va_G) (tys : List (ClassId × FieldType)) (wc : va_W) : State → Prop := fun U => jB D tys wc U ∧ jX (fun _ => False) U
theorem jBx_blind {D : va_G} {tys : List (ClassId × FieldType)} {wc : va_W} {As : List Value} : FrameBlind (va_Pc As (jBx D tys wc)) := fun a U g mk q => ⟨q.1, (jB_blind a U g mk ⟨q.1, q.2.1⟩).2, jX.same rfl rfl q.2.2⟩
def jBxw (D : va_G) (tys : List (ClassId × FieldType)) (wc : va_W) (sz : Nat) : State → Prop := fun U => jBw D tys wc sz U ∧ jX (fun _ => False) U
theorem jBxw_blind {D : va_G} {tys : List (ClassId × FieldType)} {wc : va_W} {sz : Nat} {As : List Value} : FrameBlind (va_Pc As (jBxw D tys wc sz)) := fun a U g mk q => ⟨q.1, (jBw_blind a U g mk ⟨q.1, q.2.1⟩).2, jX.same rfl rfl q.2.2⟩
theorem xThrown.at {cls : String} {st s t t2 : State} {o : Outcome} (h : xThrown cls st o t) (hW : s.WarmedH st.vm) (hh : st.heap = s.heap) (ht : t2.heap = t.heap) : xThrown cls s o t2 := by
  obtain ⟨x, ce, h1, h2, h3, h4, h5, h6, h7⟩ := h
  exact ⟨x, ce, h1, by rw [ht]; exact h2, by rw [← hW.alike.findClass]; exact h3, h4, by rw [← hh]; exact h5, by rw [ht, ← hh]; exact h6, by rw [ht, ← hh]; exact h7⟩
section YX
variable {p : Program} {l : Launch} {e : Env} {R : Room} {s : State} {m : MethodId} {args : Array Value} {below : List Frame} {meth : Method} {c : Code} {H : Heap} {cells slots : Nat}
variable {cc bytes : ByteArray} {pc nL maxL n index : Nat} {ls : Array Slot} {rest st0 As : List Value} {D : va_G} {b : Nat} {tys : List (ClassId × FieldType)} {ws wc : va_W} {own C : String} {y : MethodName} {ret : Option FieldType} {rm : Room} {Ts : List Cond} {z : Int} {Qd : Array Value → State → Outcome → State → Prop} {free9 : Addr → Prop} {m9 s9 k9 n9 : Nat}
theorem yL {L : List Loc} (h : ∀ q ∈ L, False) : L = [] := by
  cases L with
  | nil => rfl
  | cons a t => exact absurd (h a (List.mem_cons_self ..)) id
theorem yrGo {a9 : Array Value} (hr : yRun p l e R s m args below meth c H [] cells slots 0 0 1 6 (F0 m pc ls st0) rest (xQ z vSv a9) (fun _ => False)) (htab : c.exceptionTable.isEmpty = true) (hlocks : meth.locks = false) (hH : H = s.heap)
    (k0 : z = 0 → W p l e R s m args below meth c H [] cells slots (YQ below Qd args s m9 s9 k9 n9 free9) (F0 m (pc + 3) ls rest)) (kt : z ≠ 0 → ∀ (o : Outcome) (t : State), xThrown (xCls z) s o t → Qd args s o t) (hk : cells + 1 ≤ k9) (hks : slots + 6 ≤ n9) : W p l e R s m args below meth c H [] cells slots (YQ below Qd args s m9 s9 k9 n9 free9) (F0 m pc ls st0) := by
  refine y_call hr htab hlocks ?_ ?_
  · intro v st₀ t L h0 hW0 hL hW hq
    cases yL hL
    rcases hq with ⟨hz, h1, h2⟩ | ⟨-, x, ce, h1, -⟩
    · cases h1
      rw [h2, h0]
      exact k0 hz
    · cases h1
  · intro x st₀ t t2 L h0 hW0 hL hq ht hW
    cases yL hL
    rcases hq with ⟨hz, h1, h2⟩ | ⟨hz, h1⟩
    · cases h1
    · exact ⟨kt hz _ _ (h1.at hW0 (h0.trans hH) ht), (fun q h => by cases h), hk, hks⟩
theorem yrS (S : CallFix p m c cc nL s args Ts own) (hM : YMet l y (Cond.code y bytes maxL ret :: TBL) rm (va_Pc As (jBx D tys wc)) (xQ z vSv) 0 0 1 6 (fun _ => False)) (cw : CallB R s args own index y bytes maxL ret (Cond.code y bytes maxL ret :: TBL) rm 1 6 n ∧ (Cond.static y).before args s = true) (hK : va_K D vwCl tys s) (hP : va_P D vwCl ws H) (hN : jN s) (hX : jX (fun _ => False) s) (is : List Nat) (hs : is.filterMap (fun i => ws[i]?) = wc) (hn : As.length = n) (hsize : ls.size = nL) (hstack : st0 = As.reverse ++ rest) (hW : (rest.map fun v => v.category).sum ≤ 8) (hdg : decode cc pc = .ok (.invokestatic index, 3)) (hf : cells + 1 ≤ R.cells ∧ slots + 6 ≤ R.slots) (htab : c.exceptionTable.isEmpty = true) (hlocks : meth.locks = false) (hH : H = s.heap)
    (k0 : z = 0 → W p l e R s m args below meth c H [] cells slots (YQ below Qd args s m9 s9 k9 n9 free9) (F0 m (pc + 3) ls rest)) (kt : z ≠ 0 → ∀ (o : Outcome) (t : State), xThrown (xCls z) s o t → Qd args s o t) (hk : cells + 1 ≤ k9) (hks : slots + 6 ≤ n9) : W p l e R s m args below meth c H [] cells slots (YQ below Qd args s m9 s9 k9 n9 free9) (F0 m pc ls st0) :=
  yrGo (yRunS (As := As) (rest := rest) S hM cw ⟨jBx_blind, fun U hU hWm => ⟨rfl, ⟨by rw [hU]; exact hP.sub is hs, va_K.moved hWm.alike hK, jN.warm hWm hN⟩, jX.warm hWm (hU.trans hH) hX⟩⟩ rfl hn hsize hstack (lv_room hW) hdg hf) htab hlocks hH k0 kt hk hks
theorem yrV (S : CallFix p m c cc nL s args Ts own) (hM : YMet l y (Cond.code y bytes maxL ret :: TBL) rm (va_Pc (.ref b :: As) (jBx D tys wc)) (xQ z vSv) 0 0 1 6 (fun _ => False)) (cw : CallW R s args own C index y bytes maxL ret (Cond.code y bytes maxL ret :: TBL) rm 1 6 n) (hK : va_K D vwCl tys s) (hP : va_P D vwCl ws H) (hN : jN s) (hX : jX (fun _ => False) s) (is : List Nat) (hs : is.filterMap (fun i => ws[i]?) = wc) (q0 ci : Nat) {q : vw_C} {fs : List Value} (hc : vwCl[ci]? = some q) (hC : q.1 = C) (he : ws[q0]? = some (b, .inr (ci, fs))) (hn : As.length = n) (hsize : ls.size = nL) (hstack : st0 = As.reverse ++ .ref b :: rest) (hW : (rest.map fun v => v.category).sum ≤ 8) (hdg : decode cc pc = .ok (.invokevirtual index, 3)) (hf : cells + 1 ≤ R.cells ∧ slots + 6 ≤ R.slots) (htab : c.exceptionTable.isEmpty = true) (hlocks : meth.locks = false) (hH : H = s.heap)
    (k0 : z = 0 → W p l e R s m args below meth c H [] cells slots (YQ below Qd args s m9 s9 k9 n9 free9) (F0 m (pc + 3) ls rest)) (kt : z ≠ 0 → ∀ (o : Outcome) (t : State), xThrown (xCls z) s o t → Qd args s o t) (hk : cells + 1 ≤ k9) (hks : slots + 6 ≤ n9) : W p l e R s m args below meth c H [] cells slots (YQ below Qd args s m9 s9 k9 n9 free9) (F0 m pc ls st0) := by
  subst hC
  exact yrGo (yRunV (As := As) (rest := rest) S hM cw ⟨jBx_blind, va_recv hK hP hc he, fun U hU hWm => ⟨rfl, ⟨by rw [hU]; exact hP.sub is hs, va_K.moved hWm.alike hK, jN.warm hWm hN⟩, jX.warm hWm (hU.trans hH) hX⟩⟩ rfl hn hsize hstack (lv_room hW) hdg hf) htab hlocks hH k0 kt hk hks
end YX
