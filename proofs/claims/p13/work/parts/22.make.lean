section
/-! making: arrays of ints, constructors -/
theorem jzero : jI 0 = 0 := by decide
section JM
variable {p : Program} {l : Launch} {e : Env} {R : Room} {s : State} {m : MethodId} {args : Array Value} {below : List Frame} {meth : Method} {c : Code} {H : Heap} {locs : List Loc} {cells slots : Nat} {Q : State → Prop}
variable {cc bytes : ByteArray} {pc nL maxL n index mc ms : Nat} {ls : Array Slot} {rest st0 As : List Value} {D : va_G} {cl : List vw_C} {A : Nat → Prop} {b : Nat} {tys : List (ClassId × FieldType)} {ws wc wr : va_W} {H0 : Heap} {own host : String} {y : MethodName} {rm : Room} {Ts : List Cond}
theorem ji_newa (hx : p.tables.exec = Jvm.exec) (hb : c.code = cc) (harr : (Cond.arrayClass .int).before args s = true) (hK : va_K D cl tys s) (hP : va_P D cl ws H) (hD : va_D A ws) (hS : va_S A H0 H locs) (hA : ∀ q, H0.size ≤ q → A q) (t0 : Nat) {cA : ClassId} (ht : tys[t0]? = some (cA, .int)) {N : Nat} {z : Int} (hz : z = (N : Int)) (hN : N ≤ 1000) (hcells : cells + 1 ≤ R.cells) (hslots : slots + N ≤ R.slots) (hdg : decode cc pc = .ok (.newarray .int, 2))
    (kk : ∀ (q : Nat) (H1 : Heap), va_P D cl (ws ++ [(q, .inl (cA, N, .inl (jA (fun _ => 0))))]) H1 → va_D A (ws ++ [(q, .inl (cA, N, .inl (jA (fun _ => 0))))]) → va_S A H0 H1 locs → W p l e R s m args below meth c H1 locs (cells + 1) (slots + N) Q (F0 m (pc + 2) ls (.ref q :: rest))) : W p l e R s m args below meth c H locs cells slots Q (F0 m pc ls (.int (jI z) :: rest)) := by
  subst hz
  refine va_newa (atype := .int) (a0 := (N, .inl (jA (fun _ => 0)))) (ty := .int) (N' := N) hx hb harr rfl hK hP hD hS hA (fun cA => ?_) ?_ ?_ ?_ hcells hslots hdg (fun q cA' H1 hK1 hP1 hD1 hS1 => ?_)
  · show arrV cA N (fun j => Value.int (jI 0)) = arrV cA N (fun _ => Value.int 0)
    rw [jzero]
  · have h0 := jI_lt (a := (N : Int)) (b := 0) (by omega) (by decide)
    rw [jzero] at h0
    intro h
    have := h0.mp h
    omega
  · rw [jI_clamp (by omega) (by omega)]; exact Int.toNat_natCast N
  · have h4 : componentBytes .int = 4 := rfl
    rw [h4]; omega
  · have h1 := (hK1.2 tys.length (cA', .int) (by simp)).2
    have h2 := (hK.2 t0 (cA, .int) ht).2
    have h3 : some cA' = some cA := (show s.vm.findClass ("[" ++ FieldType.int.toString) = some cA' from h1).symm.trans h2
    cases h3
    exact kk q H1 hP1 hD1 hS1
theorem jcI {U9 : Type} {post : U9 → Prop} {w1 : U9 → va_W} (S : CallFix p m c cc nL s args Ts own) (hM : Met l y (Cond.code y bytes maxL none :: TBL) rm (va_Pc (.ref b :: As) (jBw D tys wc H.size)) (va_Qv post (fun u t => jE D tys wc H.size (w1 u) t) (va_A wc H.size)) mc ms (va_A wc H.size)) (cw : CallB R s args own index y bytes maxL none (Cond.code y bytes maxL none :: TBL) rm mc ms n ∧ y.name = "<init>" ∧ (Cond.instanceMethod y).before args s = true) (hK : va_K D vwCl tys s) (hP : va_P D vwCl ws H) (hD : va_D A ws) (hS : va_S A H0 H locs) (hA : ∀ q, H0.size ≤ q → A q) (hN : jN s) (isC isR : List Nat) (hC : isC.map (fun i => ws[i]?) = wc.map some) (hRr : isR.map (fun i => ws[i]?) = wr.map some) (hnd : va_nd isR = true) (hnc : va_nd isC = true) (hdis : ∀ i ∈ isR, i ∉ isC) (hn : As.length = n) (hsize : ls.size = nL) (hstack : st0 = As.reverse ++ .ref b :: rest) (hW : (rest.map fun v => v.category).sum ≤ 8) (hdg : decode cc pc = .ok (.invokespecial index, 3)) (hf : cells + mc ≤ R.cells ∧ slots + ms ≤ R.slots)
    (kk : ∀ (u : U9) (H1 : Heap) (locs1 : List Loc), post u → va_P D vwCl (wr ++ w1 u) H1 → va_D A (wr ++ w1 u) → va_S A H0 H1 locs1 → W p l e R s m args below meth c H1 locs1 (cells + mc) (slots + ms) Q (F0 m (pc + 3) ls rest)) : W p l e R s m args below meth c H locs cells slots Q (F0 m pc ls st0) := by
  have hPc := hP.sub isC (by
    have h9 := congrArg (fun l => l.filterMap id) hC
    simpa [List.filterMap_map, Function.comp_def] using h9)
  have hDc : va_D A wc := hD.sub isC hnc hC
  have hFc := va_free (wc := wc) hD hS hA isC hC
  refine va_callv (va_runI S hM cw ⟨jBw_blind, fun U hU hWm => ⟨rfl, by rw [hU], by rw [hU]; exact hPc, va_K.moved hWm.alike hK, hDc.weaken (fun _ _ _ _ => trivial), jN.warm hWm hN⟩⟩ rfl hn hsize hstack (lv_room hW) hdg hf) hS (fun q _ h => hFc q h) hFc (fun u t H1 locs1 ht hvm hw hB hz1 hk1 hS1 => ?_)
  obtain ⟨hP1, hK1, hD1⟩ := hB
  rw [ht] at hP1
  obtain ⟨hP2, hD2⟩ := va_join hP hD isC isR hC hRr hnd hdis hk1 hFc hP1 hD1
  exact kk u H1 locs1 hw hP2 hD2 hS1
theorem jcIN {U9 : Type} {post : U9 → Prop} {w1 : U9 → va_W} (S : CallFix p m c cc nL s args Ts own) (hM : Met l y (Cond.code y bytes maxL none :: TBL) rm (va_Pc (.ref b :: As) (jBw D tys wc H.size)) (va_Qv post (fun u t => jE D tys wc H.size (w1 u) t) (va_A wc H.size)) mc ms (va_A wc H.size)) (cw : va_CN R s args own index y host bytes maxL none (Cond.code y bytes maxL none :: TBL) rm mc ms n ∧ y.name = "<init>" ∧ (Cond.instanceMethod y).before args s = true) (hK : va_K D vwCl tys s) (hP : va_P D vwCl ws H) (hD : va_D A ws) (hS : va_S A H0 H locs) (hA : ∀ q, H0.size ≤ q → A q) (hN : jN s) (isC isR : List Nat) (hC : isC.map (fun i => ws[i]?) = wc.map some) (hRr : isR.map (fun i => ws[i]?) = wr.map some) (hnd : va_nd isR = true) (hnc : va_nd isC = true) (hdis : ∀ i ∈ isR, i ∉ isC) (hn : As.length = n) (hsize : ls.size = nL) (hstack : st0 = As.reverse ++ .ref b :: rest) (hW : (rest.map fun v => v.category).sum ≤ 8) (hdg : decode cc pc = .ok (.invokespecial index, 3)) (hf : cells + mc ≤ R.cells ∧ slots + ms ≤ R.slots)
    (kk : ∀ (u : U9) (H1 : Heap) (locs1 : List Loc), post u → va_P D vwCl (wr ++ w1 u) H1 → va_D A (wr ++ w1 u) → va_S A H0 H1 locs1 → W p l e R s m args below meth c H1 locs1 (cells + mc) (slots + ms) Q (F0 m (pc + 3) ls rest)) : W p l e R s m args below meth c H locs cells slots Q (F0 m pc ls st0) := by
  have hPc := hP.sub isC (by
    have h9 := congrArg (fun l => l.filterMap id) hC
    simpa [List.filterMap_map, Function.comp_def] using h9)
  have hDc : va_D A wc := hD.sub isC hnc hC
  have hFc := va_free (wc := wc) hD hS hA isC hC
  refine va_callv (va_runIN S hM cw ⟨jBw_blind, fun U hU hWm => ⟨rfl, by rw [hU], by rw [hU]; exact hPc, va_K.moved hWm.alike hK, hDc.weaken (fun _ _ _ _ => trivial), jN.warm hWm hN⟩⟩ rfl hn hsize hstack (lv_room hW) hdg hf) hS (fun q _ h => hFc q h) hFc (fun u t H1 locs1 ht hvm hw hB hz1 hk1 hS1 => ?_)
  obtain ⟨hP1, hK1, hD1⟩ := hB
  rw [ht] at hP1
  obtain ⟨hP2, hD2⟩ := va_join hP hD isC isR hC hRr hnd hdis hk1 hFc hP1 hD1
  exact kk u H1 locs1 hw hP2 hD2 hS1
end JM
set_option maxHeartbeats 4000000 in
set_option maxRecDepth 100000 in
theorem c_XT_init (l : Launch) (dC : Nat → ClassId) (dI : Nat → Nat → Nat) (cA : ClassId) (sz : Nat) (ta : Nat) : Met l yXT_init (Cond.code yXT_init cXT_init 1 none :: TBL) ({ frames := 1, cells := 1, slots := 400, locals := 12 } : Room) (va_Pc [.ref ta] (jBw (dC, dI) [(cA, .int)] [(ta, .inr (3, [.null, .int (jI 0), .int (jI 0), .int (jI 0)]))] sz)) (va_Qv (fun (u : Nat) => True) (fun u t => jE (dC, dI) [(cA, .int)] [(ta, .inr (3, [.null, .int (jI 0), .int (jI 0), .int (jI 0)]))] sz [(ta, .inr (3, [.ref u, .int (jI 0), .int (jI 0), .int (jI 0)])), (u, .inl (cA, 400, .inl (jA (fun _ => 0))))] t) (va_A [(ta, .inr (3, [.null, .int (jI 0), .int (jI 0), .int (jI 0)]))] sz)) 1 400 (va_A [(ta, .inr (3, [.null, .int (jI 0), .int (jI 0), .int (jI 0)]))] sz) := by
  refine jMet (cc := cXT_init) (maxL := 1) (ret := none) (by decide) rfl ?_
  intro p e s m args below meth c s₁ R Q hR hQ B hml hv
  obtain ⟨rfl, hsz, hP, hK, hD0, hN⟩ := hv
  have hx := B.exec
  have hb := B.bytes
  have hr := B.returns
  have hts := atoms_spec (ws := Cond.code yXT_init cXT_init 1 none :: TBL) B.pre
  have hown : s.vm.findClass RXT = some m.cls := findClass_of_methodNamed B.named
  have hlocks := B.notSynchronized
  have hin : meth.name = "<init>" := (name_of_methodNamed B.named B.method).1
  subst hsz
  obtain ⟨A, hAe⟩ : ∃ A, A = va_A [(ta, .inr (3, [.null, .int (jI 0), .int (jI 0), .int (jI 0)]))] s.heap.size := ⟨_, rfl⟩
  have hD : va_D A [(ta, .inr (3, [.null, .int (jI 0), .int (jI 0), .int (jI 0)]))] := by rw [hAe]; exact hD0.self
  have hA : ∀ q : Nat, s.heap.size ≤ q → A q := fun q h => by rw [hAe]; exact Or.inr h
  have hS : va_S A s.heap s.heap [] := va_S.rf
  have hP : va_P (dC, dI) vwCl [(ta, .inr (3, [.null, .int (jI 0), .int (jI 0), .int (jI 0)]))] s.heap := hP
  have hl := lv_entry ([.ref ta]) (n := 1) (Nat.le_of_ble_eq_true rfl)
  rw [lg_entry_eq]
  generalize (lg_sl ([.ref ta]) ++ List.replicate (1 - (lg_sl ([.ref ta])).length) Slot.unset).toArray = ls at hl ⊢
  have hl : lv_has ls 1 [(0, .ref ta)] := hl
  refine lv_aload_n hx hb dXT_init_0 rfl (lv_at hl 0 rfl) ?_
  refine W.objInit hx hb hown (hts _ (jmem tw_29)) (hts _ (jmem tw_22)) (hts _ (jmem tw_23)) rfl (by rw [hml]; exact hl.1) rfl dXT_init_1 (by rw [hR]; exact Nat.le_of_ble_eq_true rfl) (by rw [hR]; exact Nat.le_of_ble_eq_true rfl) ?_
  refine lv_aload_n hx hb dXT_init_4 rfl (lv_at hl 0 rfl) ?_
  refine ji_sipush hx hb dXT_init_5 (by decide) ?_
  refine ji_newa (N := 400) hx hb (hts _ (jmem tw_43)) hK hP hD hS hA 0 rfl rfl (by decide) (by rw [hR]; exact Nat.le_of_ble_eq_true rfl) (by rw [hR]; exact Nat.le_of_ble_eq_true rfl) dXT_init_8 (fun q H hP hD hS => ?_)
  have hP : va_P (dC, dI) vwCl [(ta, .inr (3, [.null, .int (jI 0), .int (jI 0), .int (jI 0)])), (q, .inl (cA, 400, .inl (jA (fun _ => 0))))] H := hP
  have hD : va_D A [(ta, .inr (3, [.null, .int (jI 0), .int (jI 0), .int (jI 0)])), (q, .inl (cA, 400, .inl (jA (fun _ => 0))))] := hD
  refine va_putF (D := (dC, dI)) (ci := 3) (v := .ref q) (ty := (.array .int)) (C := RXT) (T := TXT) (N := 4) hx hb hts (fun w h => jmem (inXT w h)) tyXT tyXT_ok nXT hown hK hP hD hS 0 rfl rfl 0 (by decide) (hts _ (jmem tw_30)) (fun _ h9 => h9) rfl hin rfl (by decide +kernel) rfl rfl (Nat.le_of_ble_eq_true rfl) dXT_init_10 (fun H locs hP hD hS => ?_)
  have hP : va_P (dC, dI) vwCl [(ta, .inr (3, [.ref q, .int (jI 0), .int (jI 0), .int (jI 0)])), (q, .inl (cA, 400, .inl (jA (fun _ => 0))))] H := hP
  have hD : va_D A [(ta, .inr (3, [.ref q, .int (jI 0), .int (jI 0), .int (jI 0)])), (q, .inl (cA, 400, .inl (jA (fun _ => 0))))] := hD
  refine lv_aload_n hx hb dXT_init_13 rfl (lv_at hl 0 rfl) ?_
  refine ji_iconst hx hb dXT_init_14 ?_
  refine va_put (D := (dC, dI)) (ci := 3) (v := .int (jI 0)) (ty := (.int)) (C := RXT) (T := TXT) (N := 4) hx hb hts (fun w h => jmem (inXT w h)) tyXT tyXT_ok nXT hown hK hP hD hS 0 rfl rfl 1 (by decide) (hts _ (jmem tw_31)) (fun _ h9 => h9) rfl (by decide +kernel) rfl rfl (Nat.le_of_ble_eq_true rfl) dXT_init_15 (fun H locs hP hD hS => ?_)
  have hP : va_P (dC, dI) vwCl [(ta, .inr (3, [.ref q, .int (jI 0), .int (jI 0), .int (jI 0)])), (q, .inl (cA, 400, .inl (jA (fun _ => 0))))] H := hP
  have hD : va_D A [(ta, .inr (3, [.ref q, .int (jI 0), .int (jI 0), .int (jI 0)])), (q, .inl (cA, 400, .inl (jA (fun _ => 0))))] := hD
  refine lv_aload_n hx hb dXT_init_18 rfl (lv_at hl 0 rfl) ?_
  refine ji_iconst hx hb dXT_init_19 ?_
  refine va_put (D := (dC, dI)) (ci := 3) (v := .int (jI 0)) (ty := (.int)) (C := RXT) (T := TXT) (N := 4) hx hb hts (fun w h => jmem (inXT w h)) tyXT tyXT_ok nXT hown hK hP hD hS 0 rfl rfl 2 (by decide) (hts _ (jmem tw_32)) (fun _ h9 => h9) rfl (by decide +kernel) rfl rfl (Nat.le_of_ble_eq_true rfl) dXT_init_20 (fun H locs hP hD hS => ?_)
  have hP : va_P (dC, dI) vwCl [(ta, .inr (3, [.ref q, .int (jI 0), .int (jI 0), .int (jI 0)])), (q, .inl (cA, 400, .inl (jA (fun _ => 0))))] H := hP
  have hD : va_D A [(ta, .inr (3, [.ref q, .int (jI 0), .int (jI 0), .int (jI 0)])), (q, .inl (cA, 400, .inl (jA (fun _ => 0))))] := hD
  refine lv_aload_n hx hb dXT_init_23 rfl (lv_at hl 0 rfl) ?_
  refine ji_iconst hx hb dXT_init_24 ?_
  refine va_put (D := (dC, dI)) (ci := 3) (v := .int (jI 0)) (ty := (.int)) (C := RXT) (T := TXT) (N := 4) hx hb hts (fun w h => jmem (inXT w h)) tyXT tyXT_ok nXT hown hK hP hD hS 0 rfl rfl 3 (by decide) (hts _ (jmem tw_33)) (fun _ h9 => h9) rfl (by decide +kernel) rfl rfl (Nat.le_of_ble_eq_true rfl) dXT_init_25 (fun H locs hP hD hS => ?_)
  have hP : va_P (dC, dI) vwCl [(ta, .inr (3, [.ref q, .int (jI 0), .int (jI 0), .int (jI 0)])), (q, .inl (cA, 400, .inl (jA (fun _ => 0))))] H := hP
  have hD : va_D A [(ta, .inr (3, [.ref q, .int (jI 0), .int (jI 0), .int (jI 0)])), (q, .inl (cA, 400, .inl (jA (fun _ => 0))))] := hD
  refine W.widen (k := 1) (n := 400) (Nat.le_of_ble_eq_true rfl) (Nat.le_of_ble_eq_true rfl) ?_
  have hP9 := hP.sub (ws' := [(ta, .inr (3, [.ref q, .int (jI 0), .int (jI 0), .int (jI 0)])), (q, .inl (cA, 400, .inl (jA (fun _ => 0))))]) [0, 1] rfl
  have hD9 := hD.sub (ws' := [(ta, .inr (3, [.ref q, .int (jI 0), .int (jI 0), .int (jI 0)])), (q, .inl (cA, 400, .inl (jA (fun _ => 0))))]) [0, 1] (by decide) rfl
  subst hAe
  subst hQ
  exact W.vret hx hb hr (fun t ht hW => ⟨⟨q, rfl, trivial, ⟨by rw [ht]; exact hP9, va_K.moved hW.alike hK, hD9⟩⟩, hS.F ht⟩) hS.2.2 dXT_init_28
set_option maxHeartbeats 4000000 in
set_option maxRecDepth 100000 in
theorem c_XP_init (l : Launch) (dC : Nat → ClassId) (dI : Nat → Nat → Nat) (cA : ClassId) (sz : Nat) (pa : Nat) : Met l yXP_init (Cond.code yXP_init cXP_init 1 none :: TBL) ({ frames := 1, cells := 1, slots := 160, locals := 12 } : Room) (va_Pc [.ref pa] (jBw (dC, dI) [(cA, .int)] [(pa, .inr (1, [.null, .int (jI 0)]))] sz)) (va_Qv (fun (u : Nat) => True) (fun u t => jE (dC, dI) [(cA, .int)] [(pa, .inr (1, [.null, .int (jI 0)]))] sz [(pa, .inr (1, [.ref u, .int (jI 0)])), (u, .inl (cA, 160, .inl (jA (fun _ => 0))))] t) (va_A [(pa, .inr (1, [.null, .int (jI 0)]))] sz)) 1 160 (va_A [(pa, .inr (1, [.null, .int (jI 0)]))] sz) := by
  refine jMet (cc := cXP_init) (maxL := 1) (ret := none) (by decide) rfl ?_
  intro p e s m args below meth c s₁ R Q hR hQ B hml hv
  obtain ⟨rfl, hsz, hP, hK, hD0, hN⟩ := hv
  have hx := B.exec
  have hb := B.bytes
  have hr := B.returns
  have hts := atoms_spec (ws := Cond.code yXP_init cXP_init 1 none :: TBL) B.pre
  have hown : s.vm.findClass RXP = some m.cls := findClass_of_methodNamed B.named
  have hlocks := B.notSynchronized
  have hin : meth.name = "<init>" := (name_of_methodNamed B.named B.method).1
  subst hsz
  obtain ⟨A, hAe⟩ : ∃ A, A = va_A [(pa, .inr (1, [.null, .int (jI 0)]))] s.heap.size := ⟨_, rfl⟩
  have hD : va_D A [(pa, .inr (1, [.null, .int (jI 0)]))] := by rw [hAe]; exact hD0.self
  have hA : ∀ q : Nat, s.heap.size ≤ q → A q := fun q h => by rw [hAe]; exact Or.inr h
  have hS : va_S A s.heap s.heap [] := va_S.rf
  have hP : va_P (dC, dI) vwCl [(pa, .inr (1, [.null, .int (jI 0)]))] s.heap := hP
  have hl := lv_entry ([.ref pa]) (n := 1) (Nat.le_of_ble_eq_true rfl)
  rw [lg_entry_eq]
  generalize (lg_sl ([.ref pa]) ++ List.replicate (1 - (lg_sl ([.ref pa])).length) Slot.unset).toArray = ls at hl ⊢
  have hl : lv_has ls 1 [(0, .ref pa)] := hl
  refine lv_aload_n hx hb dXP_init_0 rfl (lv_at hl 0 rfl) ?_
  refine W.objInit hx hb hown (hts _ (jmem tw_59)) (hts _ (jmem tw_22)) (hts _ (jmem tw_23)) rfl (by rw [hml]; exact hl.1) rfl dXP_init_1 (by rw [hR]; exact Nat.le_of_ble_eq_true rfl) (by rw [hR]; exact Nat.le_of_ble_eq_true rfl) ?_
  refine lv_aload_n hx hb dXP_init_4 rfl (lv_at hl 0 rfl) ?_
  refine ji_sipush hx hb dXP_init_5 (by decide) ?_
  refine ji_newa (N := 160) hx hb (hts _ (jmem tw_43)) hK hP hD hS hA 0 rfl rfl (by decide) (by rw [hR]; exact Nat.le_of_ble_eq_true rfl) (by rw [hR]; exact Nat.le_of_ble_eq_true rfl) dXP_init_8 (fun q H hP hD hS => ?_)
  have hP : va_P (dC, dI) vwCl [(pa, .inr (1, [.null, .int (jI 0)])), (q, .inl (cA, 160, .inl (jA (fun _ => 0))))] H := hP
  have hD : va_D A [(pa, .inr (1, [.null, .int (jI 0)])), (q, .inl (cA, 160, .inl (jA (fun _ => 0))))] := hD
  refine va_putF (D := (dC, dI)) (ci := 1) (v := .ref q) (ty := (.array .int)) (C := RXP) (T := TXP) (N := 2) hx hb hts (fun w h => jmem (inXP w h)) tyXP tyXP_ok nXP hown hK hP hD hS 0 rfl rfl 0 (by decide) (hts _ (jmem tw_60)) (fun _ h9 => h9) rfl hin rfl (by decide +kernel) rfl rfl (Nat.le_of_ble_eq_true rfl) dXP_init_10 (fun H locs hP hD hS => ?_)
  have hP : va_P (dC, dI) vwCl [(pa, .inr (1, [.ref q, .int (jI 0)])), (q, .inl (cA, 160, .inl (jA (fun _ => 0))))] H := hP
  have hD : va_D A [(pa, .inr (1, [.ref q, .int (jI 0)])), (q, .inl (cA, 160, .inl (jA (fun _ => 0))))] := hD
  refine lv_aload_n hx hb dXP_init_13 rfl (lv_at hl 0 rfl) ?_
  refine ji_iconst hx hb dXP_init_14 ?_
  refine va_put (D := (dC, dI)) (ci := 1) (v := .int (jI 0)) (ty := (.int)) (C := RXP) (T := TXP) (N := 2) hx hb hts (fun w h => jmem (inXP w h)) tyXP tyXP_ok nXP hown hK hP hD hS 0 rfl rfl 1 (by decide) (hts _ (jmem tw_61)) (fun _ h9 => h9) rfl (by decide +kernel) rfl rfl (Nat.le_of_ble_eq_true rfl) dXP_init_15 (fun H locs hP hD hS => ?_)
  have hP : va_P (dC, dI) vwCl [(pa, .inr (1, [.ref q, .int (jI 0)])), (q, .inl (cA, 160, .inl (jA (fun _ => 0))))] H := hP
  have hD : va_D A [(pa, .inr (1, [.ref q, .int (jI 0)])), (q, .inl (cA, 160, .inl (jA (fun _ => 0))))] := hD
  refine W.widen (k := 1) (n := 160) (Nat.le_of_ble_eq_true rfl) (Nat.le_of_ble_eq_true rfl) ?_
  have hP9 := hP.sub (ws' := [(pa, .inr (1, [.ref q, .int (jI 0)])), (q, .inl (cA, 160, .inl (jA (fun _ => 0))))]) [0, 1] rfl
  have hD9 := hD.sub (ws' := [(pa, .inr (1, [.ref q, .int (jI 0)])), (q, .inl (cA, 160, .inl (jA (fun _ => 0))))]) [0, 1] (by decide) rfl
  subst hAe
  subst hQ
  exact W.vret hx hb hr (fun t ht hW => ⟨⟨q, rfl, trivial, ⟨by rw [ht]; exact hP9, va_K.moved hW.alike hK, hD9⟩⟩, hS.F ht⟩) hS.2.2 dXP_init_18
set_option maxHeartbeats 4000000 in
set_option maxRecDepth 100000 in
theorem c_XB_init (l : Launch) (dC : Nat → ClassId) (dI : Nat → Nat → Nat) (cA : ClassId) (sz : Nat) (ba : Nat) : Met l yXB_init (Cond.code yXB_init cXB_init 1 none :: TBL) ({ frames := 1, cells := 7, slots := 745, locals := 12 } : Room) (va_Pc [.ref ba] (jBw (dC, dI) [(cA, .int)] [(ba, .inr (0, [.null, .null, .null, .null, .null, .null, .null, .int (jI 0), .int (jI 0)]))] sz)) (va_Qv (fun (u : Nat × Nat × Nat × Nat × Nat × Nat × Nat) => True) (fun u t => jE (dC, dI) [(cA, .int)] [(ba, .inr (0, [.null, .null, .null, .null, .null, .null, .null, .int (jI 0), .int (jI 0)]))] sz [(ba, .inr (0, [.ref u.1, .ref u.2.1, .ref u.2.2.1, .ref u.2.2.2.1, .ref u.2.2.2.2.1, .ref u.2.2.2.2.2.1, .ref u.2.2.2.2.2.2, .int (jI 0), .int (jI 0)])), (u.1, .inl (cA, 31, .inl (jA (fun _ => 0)))), (u.2.1, .inl (cA, 31, .inl (jA (fun _ => 0)))), (u.2.2.1, .inl (cA, 248, .inl (jA (fun _ => 0)))), (u.2.2.2.1, .inl (cA, 248, .inl (jA (fun _ => 0)))), (u.2.2.2.2.1, .inl (cA, 124, .inl (jA (fun _ => 0)))), (u.2.2.2.2.2.1, .inl (cA, 31, .inl (jA (fun _ => 0)))), (u.2.2.2.2.2.2, .inl (cA, 32, .inl (jA (fun _ => 0))))] t) (va_A [(ba, .inr (0, [.null, .null, .null, .null, .null, .null, .null, .int (jI 0), .int (jI 0)]))] sz)) 7 745 (va_A [(ba, .inr (0, [.null, .null, .null, .null, .null, .null, .null, .int (jI 0), .int (jI 0)]))] sz) := by
  refine jMet (cc := cXB_init) (maxL := 1) (ret := none) (by decide) rfl ?_
  intro p e s m args below meth c s₁ R Q hR hQ B hml hv
  obtain ⟨rfl, hsz, hP, hK, hD0, hN⟩ := hv
  have hx := B.exec
  have hb := B.bytes
  have hr := B.returns
  have hts := atoms_spec (ws := Cond.code yXB_init cXB_init 1 none :: TBL) B.pre
  have hown : s.vm.findClass RXB = some m.cls := findClass_of_methodNamed B.named
  have hlocks := B.notSynchronized
  have hin : meth.name = "<init>" := (name_of_methodNamed B.named B.method).1
  subst hsz
  obtain ⟨A, hAe⟩ : ∃ A, A = va_A [(ba, .inr (0, [.null, .null, .null, .null, .null, .null, .null, .int (jI 0), .int (jI 0)]))] s.heap.size := ⟨_, rfl⟩
  have hD : va_D A [(ba, .inr (0, [.null, .null, .null, .null, .null, .null, .null, .int (jI 0), .int (jI 0)]))] := by rw [hAe]; exact hD0.self
  have hA : ∀ q : Nat, s.heap.size ≤ q → A q := fun q h => by rw [hAe]; exact Or.inr h
  have hS : va_S A s.heap s.heap [] := va_S.rf
  have hP : va_P (dC, dI) vwCl [(ba, .inr (0, [.null, .null, .null, .null, .null, .null, .null, .int (jI 0), .int (jI 0)]))] s.heap := hP
  have hl := lv_entry ([.ref ba]) (n := 1) (Nat.le_of_ble_eq_true rfl)
  rw [lg_entry_eq]
  generalize (lg_sl ([.ref ba]) ++ List.replicate (1 - (lg_sl ([.ref ba])).length) Slot.unset).toArray = ls at hl ⊢
  have hl : lv_has ls 1 [(0, .ref ba)] := hl
  refine lv_aload_n hx hb dXB_init_0 rfl (lv_at hl 0 rfl) ?_
  refine W.objInit hx hb hown (hts _ (jmem tw_72)) (hts _ (jmem tw_22)) (hts _ (jmem tw_23)) rfl (by rw [hml]; exact hl.1) rfl dXB_init_1 (by rw [hR]; exact Nat.le_of_ble_eq_true rfl) (by rw [hR]; exact Nat.le_of_ble_eq_true rfl) ?_
  refine lv_aload_n hx hb dXB_init_4 rfl (lv_at hl 0 rfl) ?_
  refine ji_bipush hx hb dXB_init_5 (by decide) ?_
  refine ji_newa (N := 31) hx hb (hts _ (jmem tw_43)) hK hP hD hS hA 0 rfl rfl (by decide) (by rw [hR]; exact Nat.le_of_ble_eq_true rfl) (by rw [hR]; exact Nat.le_of_ble_eq_true rfl) dXB_init_7 (fun q H hP hD hS => ?_)
  have hP : va_P (dC, dI) vwCl [(ba, .inr (0, [.null, .null, .null, .null, .null, .null, .null, .int (jI 0), .int (jI 0)])), (q, .inl (cA, 31, .inl (jA (fun _ => 0))))] H := hP
  have hD : va_D A [(ba, .inr (0, [.null, .null, .null, .null, .null, .null, .null, .int (jI 0), .int (jI 0)])), (q, .inl (cA, 31, .inl (jA (fun _ => 0))))] := hD
  refine va_putF (D := (dC, dI)) (ci := 0) (v := .ref q) (ty := (.array .int)) (C := RXB) (T := TXB) (N := 9) hx hb hts (fun w h => jmem (inXB w h)) tyXB tyXB_ok nXB hown hK hP hD hS 0 rfl rfl 0 (by decide) (hts _ (jmem tw_73)) (fun _ h9 => h9) rfl hin rfl (by decide +kernel) rfl rfl (Nat.le_of_ble_eq_true rfl) dXB_init_9 (fun H locs hP hD hS => ?_)
  have hP : va_P (dC, dI) vwCl [(ba, .inr (0, [.ref q, .null, .null, .null, .null, .null, .null, .int (jI 0), .int (jI 0)])), (q, .inl (cA, 31, .inl (jA (fun _ => 0))))] H := hP
  have hD : va_D A [(ba, .inr (0, [.ref q, .null, .null, .null, .null, .null, .null, .int (jI 0), .int (jI 0)])), (q, .inl (cA, 31, .inl (jA (fun _ => 0))))] := hD
  refine lv_aload_n hx hb dXB_init_12 rfl (lv_at hl 0 rfl) ?_
  refine ji_bipush hx hb dXB_init_13 (by decide) ?_
  refine ji_newa (N := 31) hx hb (hts _ (jmem tw_43)) hK hP hD hS hA 0 rfl rfl (by decide) (by rw [hR]; exact Nat.le_of_ble_eq_true rfl) (by rw [hR]; exact Nat.le_of_ble_eq_true rfl) dXB_init_15 (fun q1 H hP hD hS => ?_)
  have hP : va_P (dC, dI) vwCl [(ba, .inr (0, [.ref q, .null, .null, .null, .null, .null, .null, .int (jI 0), .int (jI 0)])), (q, .inl (cA, 31, .inl (jA (fun _ => 0)))), (q1, .inl (cA, 31, .inl (jA (fun _ => 0))))] H := hP
  have hD : va_D A [(ba, .inr (0, [.ref q, .null, .null, .null, .null, .null, .null, .int (jI 0), .int (jI 0)])), (q, .inl (cA, 31, .inl (jA (fun _ => 0)))), (q1, .inl (cA, 31, .inl (jA (fun _ => 0))))] := hD
  refine va_putF (D := (dC, dI)) (ci := 0) (v := .ref q1) (ty := (.array .int)) (C := RXB) (T := TXB) (N := 9) hx hb hts (fun w h => jmem (inXB w h)) tyXB tyXB_ok nXB hown hK hP hD hS 0 rfl rfl 1 (by decide) (hts _ (jmem tw_74)) (fun _ h9 => h9) rfl hin rfl (by decide +kernel) rfl rfl (Nat.le_of_ble_eq_true rfl) dXB_init_17 (fun H locs hP hD hS => ?_)
  have hP : va_P (dC, dI) vwCl [(ba, .inr (0, [.ref q, .ref q1, .null, .null, .null, .null, .null, .int (jI 0), .int (jI 0)])), (q, .inl (cA, 31, .inl (jA (fun _ => 0)))), (q1, .inl (cA, 31, .inl (jA (fun _ => 0))))] H := hP
  have hD : va_D A [(ba, .inr (0, [.ref q, .ref q1, .null, .null, .null, .null, .null, .int (jI 0), .int (jI 0)])), (q, .inl (cA, 31, .inl (jA (fun _ => 0)))), (q1, .inl (cA, 31, .inl (jA (fun _ => 0))))] := hD
  refine lv_aload_n hx hb dXB_init_20 rfl (lv_at hl 0 rfl) ?_
  refine ji_sipush hx hb dXB_init_21 (by decide) ?_
  refine ji_newa (N := 248) hx hb (hts _ (jmem tw_43)) hK hP hD hS hA 0 rfl rfl (by decide) (by rw [hR]; exact Nat.le_of_ble_eq_true rfl) (by rw [hR]; exact Nat.le_of_ble_eq_true rfl) dXB_init_24 (fun q2 H hP hD hS => ?_)
  have hP : va_P (dC, dI) vwCl [(ba, .inr (0, [.ref q, .ref q1, .null, .null, .null, .null, .null, .int (jI 0), .int (jI 0)])), (q, .inl (cA, 31, .inl (jA (fun _ => 0)))), (q1, .inl (cA, 31, .inl (jA (fun _ => 0)))), (q2, .inl (cA, 248, .inl (jA (fun _ => 0))))] H := hP
  have hD : va_D A [(ba, .inr (0, [.ref q, .ref q1, .null, .null, .null, .null, .null, .int (jI 0), .int (jI 0)])), (q, .inl (cA, 31, .inl (jA (fun _ => 0)))), (q1, .inl (cA, 31, .inl (jA (fun _ => 0)))), (q2, .inl (cA, 248, .inl (jA (fun _ => 0))))] := hD
  refine va_putF (D := (dC, dI)) (ci := 0) (v := .ref q2) (ty := (.array .int)) (C := RXB) (T := TXB) (N := 9) hx hb hts (fun w h => jmem (inXB w h)) tyXB tyXB_ok nXB hown hK hP hD hS 0 rfl rfl 2 (by decide) (hts _ (jmem tw_75)) (fun _ h9 => h9) rfl hin rfl (by decide +kernel) rfl rfl (Nat.le_of_ble_eq_true rfl) dXB_init_26 (fun H locs hP hD hS => ?_)
  have hP : va_P (dC, dI) vwCl [(ba, .inr (0, [.ref q, .ref q1, .ref q2, .null, .null, .null, .null, .int (jI 0), .int (jI 0)])), (q, .inl (cA, 31, .inl (jA (fun _ => 0)))), (q1, .inl (cA, 31, .inl (jA (fun _ => 0)))), (q2, .inl (cA, 248, .inl (jA (fun _ => 0))))] H := hP
  have hD : va_D A [(ba, .inr (0, [.ref q, .ref q1, .ref q2, .null, .null, .null, .null, .int (jI 0), .int (jI 0)])), (q, .inl (cA, 31, .inl (jA (fun _ => 0)))), (q1, .inl (cA, 31, .inl (jA (fun _ => 0)))), (q2, .inl (cA, 248, .inl (jA (fun _ => 0))))] := hD
  refine lv_aload_n hx hb dXB_init_29 rfl (lv_at hl 0 rfl) ?_
  refine ji_sipush hx hb dXB_init_30 (by decide) ?_
  refine ji_newa (N := 248) hx hb (hts _ (jmem tw_43)) hK hP hD hS hA 0 rfl rfl (by decide) (by rw [hR]; exact Nat.le_of_ble_eq_true rfl) (by rw [hR]; exact Nat.le_of_ble_eq_true rfl) dXB_init_33 (fun q3 H hP hD hS => ?_)
  have hP : va_P (dC, dI) vwCl [(ba, .inr (0, [.ref q, .ref q1, .ref q2, .null, .null, .null, .null, .int (jI 0), .int (jI 0)])), (q, .inl (cA, 31, .inl (jA (fun _ => 0)))), (q1, .inl (cA, 31, .inl (jA (fun _ => 0)))), (q2, .inl (cA, 248, .inl (jA (fun _ => 0)))), (q3, .inl (cA, 248, .inl (jA (fun _ => 0))))] H := hP
  have hD : va_D A [(ba, .inr (0, [.ref q, .ref q1, .ref q2, .null, .null, .null, .null, .int (jI 0), .int (jI 0)])), (q, .inl (cA, 31, .inl (jA (fun _ => 0)))), (q1, .inl (cA, 31, .inl (jA (fun _ => 0)))), (q2, .inl (cA, 248, .inl (jA (fun _ => 0)))), (q3, .inl (cA, 248, .inl (jA (fun _ => 0))))] := hD
  refine va_putF (D := (dC, dI)) (ci := 0) (v := .ref q3) (ty := (.array .int)) (C := RXB) (T := TXB) (N := 9) hx hb hts (fun w h => jmem (inXB w h)) tyXB tyXB_ok nXB hown hK hP hD hS 0 rfl rfl 3 (by decide) (hts _ (jmem tw_76)) (fun _ h9 => h9) rfl hin rfl (by decide +kernel) rfl rfl (Nat.le_of_ble_eq_true rfl) dXB_init_35 (fun H locs hP hD hS => ?_)
  have hP : va_P (dC, dI) vwCl [(ba, .inr (0, [.ref q, .ref q1, .ref q2, .ref q3, .null, .null, .null, .int (jI 0), .int (jI 0)])), (q, .inl (cA, 31, .inl (jA (fun _ => 0)))), (q1, .inl (cA, 31, .inl (jA (fun _ => 0)))), (q2, .inl (cA, 248, .inl (jA (fun _ => 0)))), (q3, .inl (cA, 248, .inl (jA (fun _ => 0))))] H := hP
  have hD : va_D A [(ba, .inr (0, [.ref q, .ref q1, .ref q2, .ref q3, .null, .null, .null, .int (jI 0), .int (jI 0)])), (q, .inl (cA, 31, .inl (jA (fun _ => 0)))), (q1, .inl (cA, 31, .inl (jA (fun _ => 0)))), (q2, .inl (cA, 248, .inl (jA (fun _ => 0)))), (q3, .inl (cA, 248, .inl (jA (fun _ => 0))))] := hD
  refine lv_aload_n hx hb dXB_init_38 rfl (lv_at hl 0 rfl) ?_
  refine ji_bipush hx hb dXB_init_39 (by decide) ?_
  refine ji_newa (N := 124) hx hb (hts _ (jmem tw_43)) hK hP hD hS hA 0 rfl rfl (by decide) (by rw [hR]; exact Nat.le_of_ble_eq_true rfl) (by rw [hR]; exact Nat.le_of_ble_eq_true rfl) dXB_init_41 (fun q4 H hP hD hS => ?_)
  have hP : va_P (dC, dI) vwCl [(ba, .inr (0, [.ref q, .ref q1, .ref q2, .ref q3, .null, .null, .null, .int (jI 0), .int (jI 0)])), (q, .inl (cA, 31, .inl (jA (fun _ => 0)))), (q1, .inl (cA, 31, .inl (jA (fun _ => 0)))), (q2, .inl (cA, 248, .inl (jA (fun _ => 0)))), (q3, .inl (cA, 248, .inl (jA (fun _ => 0)))), (q4, .inl (cA, 124, .inl (jA (fun _ => 0))))] H := hP
  have hD : va_D A [(ba, .inr (0, [.ref q, .ref q1, .ref q2, .ref q3, .null, .null, .null, .int (jI 0), .int (jI 0)])), (q, .inl (cA, 31, .inl (jA (fun _ => 0)))), (q1, .inl (cA, 31, .inl (jA (fun _ => 0)))), (q2, .inl (cA, 248, .inl (jA (fun _ => 0)))), (q3, .inl (cA, 248, .inl (jA (fun _ => 0)))), (q4, .inl (cA, 124, .inl (jA (fun _ => 0))))] := hD
  refine va_putF (D := (dC, dI)) (ci := 0) (v := .ref q4) (ty := (.array .int)) (C := RXB) (T := TXB) (N := 9) hx hb hts (fun w h => jmem (inXB w h)) tyXB tyXB_ok nXB hown hK hP hD hS 0 rfl rfl 4 (by decide) (hts _ (jmem tw_77)) (fun _ h9 => h9) rfl hin rfl (by decide +kernel) rfl rfl (Nat.le_of_ble_eq_true rfl) dXB_init_43 (fun H locs hP hD hS => ?_)
  have hP : va_P (dC, dI) vwCl [(ba, .inr (0, [.ref q, .ref q1, .ref q2, .ref q3, .ref q4, .null, .null, .int (jI 0), .int (jI 0)])), (q, .inl (cA, 31, .inl (jA (fun _ => 0)))), (q1, .inl (cA, 31, .inl (jA (fun _ => 0)))), (q2, .inl (cA, 248, .inl (jA (fun _ => 0)))), (q3, .inl (cA, 248, .inl (jA (fun _ => 0)))), (q4, .inl (cA, 124, .inl (jA (fun _ => 0))))] H := hP
  have hD : va_D A [(ba, .inr (0, [.ref q, .ref q1, .ref q2, .ref q3, .ref q4, .null, .null, .int (jI 0), .int (jI 0)])), (q, .inl (cA, 31, .inl (jA (fun _ => 0)))), (q1, .inl (cA, 31, .inl (jA (fun _ => 0)))), (q2, .inl (cA, 248, .inl (jA (fun _ => 0)))), (q3, .inl (cA, 248, .inl (jA (fun _ => 0)))), (q4, .inl (cA, 124, .inl (jA (fun _ => 0))))] := hD
  refine lv_aload_n hx hb dXB_init_46 rfl (lv_at hl 0 rfl) ?_
  refine ji_bipush hx hb dXB_init_47 (by decide) ?_
  refine ji_newa (N := 31) hx hb (hts _ (jmem tw_43)) hK hP hD hS hA 0 rfl rfl (by decide) (by rw [hR]; exact Nat.le_of_ble_eq_true rfl) (by rw [hR]; exact Nat.le_of_ble_eq_true rfl) dXB_init_49 (fun q5 H hP hD hS => ?_)
  have hP : va_P (dC, dI) vwCl [(ba, .inr (0, [.ref q, .ref q1, .ref q2, .ref q3, .ref q4, .null, .null, .int (jI 0), .int (jI 0)])), (q, .inl (cA, 31, .inl (jA (fun _ => 0)))), (q1, .inl (cA, 31, .inl (jA (fun _ => 0)))), (q2, .inl (cA, 248, .inl (jA (fun _ => 0)))), (q3, .inl (cA, 248, .inl (jA (fun _ => 0)))), (q4, .inl (cA, 124, .inl (jA (fun _ => 0)))), (q5, .inl (cA, 31, .inl (jA (fun _ => 0))))] H := hP
  have hD : va_D A [(ba, .inr (0, [.ref q, .ref q1, .ref q2, .ref q3, .ref q4, .null, .null, .int (jI 0), .int (jI 0)])), (q, .inl (cA, 31, .inl (jA (fun _ => 0)))), (q1, .inl (cA, 31, .inl (jA (fun _ => 0)))), (q2, .inl (cA, 248, .inl (jA (fun _ => 0)))), (q3, .inl (cA, 248, .inl (jA (fun _ => 0)))), (q4, .inl (cA, 124, .inl (jA (fun _ => 0)))), (q5, .inl (cA, 31, .inl (jA (fun _ => 0))))] := hD
  refine va_putF (D := (dC, dI)) (ci := 0) (v := .ref q5) (ty := (.array .int)) (C := RXB) (T := TXB) (N := 9) hx hb hts (fun w h => jmem (inXB w h)) tyXB tyXB_ok nXB hown hK hP hD hS 0 rfl rfl 5 (by decide) (hts _ (jmem tw_78)) (fun _ h9 => h9) rfl hin rfl (by decide +kernel) rfl rfl (Nat.le_of_ble_eq_true rfl) dXB_init_51 (fun H locs hP hD hS => ?_)
  have hP : va_P (dC, dI) vwCl [(ba, .inr (0, [.ref q, .ref q1, .ref q2, .ref q3, .ref q4, .ref q5, .null, .int (jI 0), .int (jI 0)])), (q, .inl (cA, 31, .inl (jA (fun _ => 0)))), (q1, .inl (cA, 31, .inl (jA (fun _ => 0)))), (q2, .inl (cA, 248, .inl (jA (fun _ => 0)))), (q3, .inl (cA, 248, .inl (jA (fun _ => 0)))), (q4, .inl (cA, 124, .inl (jA (fun _ => 0)))), (q5, .inl (cA, 31, .inl (jA (fun _ => 0))))] H := hP
  have hD : va_D A [(ba, .inr (0, [.ref q, .ref q1, .ref q2, .ref q3, .ref q4, .ref q5, .null, .int (jI 0), .int (jI 0)])), (q, .inl (cA, 31, .inl (jA (fun _ => 0)))), (q1, .inl (cA, 31, .inl (jA (fun _ => 0)))), (q2, .inl (cA, 248, .inl (jA (fun _ => 0)))), (q3, .inl (cA, 248, .inl (jA (fun _ => 0)))), (q4, .inl (cA, 124, .inl (jA (fun _ => 0)))), (q5, .inl (cA, 31, .inl (jA (fun _ => 0))))] := hD
  refine lv_aload_n hx hb dXB_init_54 rfl (lv_at hl 0 rfl) ?_
  refine ji_bipush hx hb dXB_init_55 (by decide) ?_
  refine ji_newa (N := 32) hx hb (hts _ (jmem tw_43)) hK hP hD hS hA 0 rfl rfl (by decide) (by rw [hR]; exact Nat.le_of_ble_eq_true rfl) (by rw [hR]; exact Nat.le_of_ble_eq_true rfl) dXB_init_57 (fun q6 H hP hD hS => ?_)
  have hP : va_P (dC, dI) vwCl [(ba, .inr (0, [.ref q, .ref q1, .ref q2, .ref q3, .ref q4, .ref q5, .null, .int (jI 0), .int (jI 0)])), (q, .inl (cA, 31, .inl (jA (fun _ => 0)))), (q1, .inl (cA, 31, .inl (jA (fun _ => 0)))), (q2, .inl (cA, 248, .inl (jA (fun _ => 0)))), (q3, .inl (cA, 248, .inl (jA (fun _ => 0)))), (q4, .inl (cA, 124, .inl (jA (fun _ => 0)))), (q5, .inl (cA, 31, .inl (jA (fun _ => 0)))), (q6, .inl (cA, 32, .inl (jA (fun _ => 0))))] H := hP
  have hD : va_D A [(ba, .inr (0, [.ref q, .ref q1, .ref q2, .ref q3, .ref q4, .ref q5, .null, .int (jI 0), .int (jI 0)])), (q, .inl (cA, 31, .inl (jA (fun _ => 0)))), (q1, .inl (cA, 31, .inl (jA (fun _ => 0)))), (q2, .inl (cA, 248, .inl (jA (fun _ => 0)))), (q3, .inl (cA, 248, .inl (jA (fun _ => 0)))), (q4, .inl (cA, 124, .inl (jA (fun _ => 0)))), (q5, .inl (cA, 31, .inl (jA (fun _ => 0)))), (q6, .inl (cA, 32, .inl (jA (fun _ => 0))))] := hD
  refine va_putF (D := (dC, dI)) (ci := 0) (v := .ref q6) (ty := (.array .int)) (C := RXB) (T := TXB) (N := 9) hx hb hts (fun w h => jmem (inXB w h)) tyXB tyXB_ok nXB hown hK hP hD hS 0 rfl rfl 6 (by decide) (hts _ (jmem tw_79)) (fun _ h9 => h9) rfl hin rfl (by decide +kernel) rfl rfl (Nat.le_of_ble_eq_true rfl) dXB_init_59 (fun H locs hP hD hS => ?_)
  have hP : va_P (dC, dI) vwCl [(ba, .inr (0, [.ref q, .ref q1, .ref q2, .ref q3, .ref q4, .ref q5, .ref q6, .int (jI 0), .int (jI 0)])), (q, .inl (cA, 31, .inl (jA (fun _ => 0)))), (q1, .inl (cA, 31, .inl (jA (fun _ => 0)))), (q2, .inl (cA, 248, .inl (jA (fun _ => 0)))), (q3, .inl (cA, 248, .inl (jA (fun _ => 0)))), (q4, .inl (cA, 124, .inl (jA (fun _ => 0)))), (q5, .inl (cA, 31, .inl (jA (fun _ => 0)))), (q6, .inl (cA, 32, .inl (jA (fun _ => 0))))] H := hP
  have hD : va_D A [(ba, .inr (0, [.ref q, .ref q1, .ref q2, .ref q3, .ref q4, .ref q5, .ref q6, .int (jI 0), .int (jI 0)])), (q, .inl (cA, 31, .inl (jA (fun _ => 0)))), (q1, .inl (cA, 31, .inl (jA (fun _ => 0)))), (q2, .inl (cA, 248, .inl (jA (fun _ => 0)))), (q3, .inl (cA, 248, .inl (jA (fun _ => 0)))), (q4, .inl (cA, 124, .inl (jA (fun _ => 0)))), (q5, .inl (cA, 31, .inl (jA (fun _ => 0)))), (q6, .inl (cA, 32, .inl (jA (fun _ => 0))))] := hD
  refine lv_aload_n hx hb dXB_init_62 rfl (lv_at hl 0 rfl) ?_
  refine ji_iconst hx hb dXB_init_63 ?_
  refine va_put (D := (dC, dI)) (ci := 0) (v := .int (jI 0)) (ty := (.int)) (C := RXB) (T := TXB) (N := 9) hx hb hts (fun w h => jmem (inXB w h)) tyXB tyXB_ok nXB hown hK hP hD hS 0 rfl rfl 7 (by decide) (hts _ (jmem tw_80)) (fun _ h9 => h9) rfl (by decide +kernel) rfl rfl (Nat.le_of_ble_eq_true rfl) dXB_init_64 (fun H locs hP hD hS => ?_)
  have hP : va_P (dC, dI) vwCl [(ba, .inr (0, [.ref q, .ref q1, .ref q2, .ref q3, .ref q4, .ref q5, .ref q6, .int (jI 0), .int (jI 0)])), (q, .inl (cA, 31, .inl (jA (fun _ => 0)))), (q1, .inl (cA, 31, .inl (jA (fun _ => 0)))), (q2, .inl (cA, 248, .inl (jA (fun _ => 0)))), (q3, .inl (cA, 248, .inl (jA (fun _ => 0)))), (q4, .inl (cA, 124, .inl (jA (fun _ => 0)))), (q5, .inl (cA, 31, .inl (jA (fun _ => 0)))), (q6, .inl (cA, 32, .inl (jA (fun _ => 0))))] H := hP
  have hD : va_D A [(ba, .inr (0, [.ref q, .ref q1, .ref q2, .ref q3, .ref q4, .ref q5, .ref q6, .int (jI 0), .int (jI 0)])), (q, .inl (cA, 31, .inl (jA (fun _ => 0)))), (q1, .inl (cA, 31, .inl (jA (fun _ => 0)))), (q2, .inl (cA, 248, .inl (jA (fun _ => 0)))), (q3, .inl (cA, 248, .inl (jA (fun _ => 0)))), (q4, .inl (cA, 124, .inl (jA (fun _ => 0)))), (q5, .inl (cA, 31, .inl (jA (fun _ => 0)))), (q6, .inl (cA, 32, .inl (jA (fun _ => 0))))] := hD
  refine lv_aload_n hx hb dXB_init_67 rfl (lv_at hl 0 rfl) ?_
  refine ji_iconst hx hb dXB_init_68 ?_
  refine va_put (D := (dC, dI)) (ci := 0) (v := .int (jI 0)) (ty := (.int)) (C := RXB) (T := TXB) (N := 9) hx hb hts (fun w h => jmem (inXB w h)) tyXB tyXB_ok nXB hown hK hP hD hS 0 rfl rfl 8 (by decide) (hts _ (jmem tw_81)) (fun _ h9 => h9) rfl (by decide +kernel) rfl rfl (Nat.le_of_ble_eq_true rfl) dXB_init_69 (fun H locs hP hD hS => ?_)
  have hP : va_P (dC, dI) vwCl [(ba, .inr (0, [.ref q, .ref q1, .ref q2, .ref q3, .ref q4, .ref q5, .ref q6, .int (jI 0), .int (jI 0)])), (q, .inl (cA, 31, .inl (jA (fun _ => 0)))), (q1, .inl (cA, 31, .inl (jA (fun _ => 0)))), (q2, .inl (cA, 248, .inl (jA (fun _ => 0)))), (q3, .inl (cA, 248, .inl (jA (fun _ => 0)))), (q4, .inl (cA, 124, .inl (jA (fun _ => 0)))), (q5, .inl (cA, 31, .inl (jA (fun _ => 0)))), (q6, .inl (cA, 32, .inl (jA (fun _ => 0))))] H := hP
  have hD : va_D A [(ba, .inr (0, [.ref q, .ref q1, .ref q2, .ref q3, .ref q4, .ref q5, .ref q6, .int (jI 0), .int (jI 0)])), (q, .inl (cA, 31, .inl (jA (fun _ => 0)))), (q1, .inl (cA, 31, .inl (jA (fun _ => 0)))), (q2, .inl (cA, 248, .inl (jA (fun _ => 0)))), (q3, .inl (cA, 248, .inl (jA (fun _ => 0)))), (q4, .inl (cA, 124, .inl (jA (fun _ => 0)))), (q5, .inl (cA, 31, .inl (jA (fun _ => 0)))), (q6, .inl (cA, 32, .inl (jA (fun _ => 0))))] := hD
  refine W.widen (k := 7) (n := 745) (Nat.le_of_ble_eq_true rfl) (Nat.le_of_ble_eq_true rfl) ?_
  have hP9 := hP.sub (ws' := [(ba, .inr (0, [.ref q, .ref q1, .ref q2, .ref q3, .ref q4, .ref q5, .ref q6, .int (jI 0), .int (jI 0)])), (q, .inl (cA, 31, .inl (jA (fun _ => 0)))), (q1, .inl (cA, 31, .inl (jA (fun _ => 0)))), (q2, .inl (cA, 248, .inl (jA (fun _ => 0)))), (q3, .inl (cA, 248, .inl (jA (fun _ => 0)))), (q4, .inl (cA, 124, .inl (jA (fun _ => 0)))), (q5, .inl (cA, 31, .inl (jA (fun _ => 0)))), (q6, .inl (cA, 32, .inl (jA (fun _ => 0))))]) [0, 1, 2, 3, 4, 5, 6, 7] rfl
  have hD9 := hD.sub (ws' := [(ba, .inr (0, [.ref q, .ref q1, .ref q2, .ref q3, .ref q4, .ref q5, .ref q6, .int (jI 0), .int (jI 0)])), (q, .inl (cA, 31, .inl (jA (fun _ => 0)))), (q1, .inl (cA, 31, .inl (jA (fun _ => 0)))), (q2, .inl (cA, 248, .inl (jA (fun _ => 0)))), (q3, .inl (cA, 248, .inl (jA (fun _ => 0)))), (q4, .inl (cA, 124, .inl (jA (fun _ => 0)))), (q5, .inl (cA, 31, .inl (jA (fun _ => 0)))), (q6, .inl (cA, 32, .inl (jA (fun _ => 0))))]) [0, 1, 2, 3, 4, 5, 6, 7] (by decide) rfl
  subst hAe
  subst hQ
  exact W.vret hx hb hr (fun t ht hW => ⟨⟨(q, q1, q2, q3, q4, q5, q6), rfl, trivial, ⟨by rw [ht]; exact hP9, va_K.moved hW.alike hK, hD9⟩⟩, hS.F ht⟩) hS.2.2 dXB_init_72
set_option maxHeartbeats 4000000 in
set_option maxRecDepth 100000 in
theorem c_XR_init (l : Launch) (dC : Nat → ClassId) (dI : Nat → Nat → Nat) (cA : ClassId) (sz : Nat) (rda : Nat) (ta : Nat) : Met l yXR_init (Cond.code yXR_init cXR_init 2 none :: TBL) ({ frames := 1, cells := 0, slots := 0, locals := 12 } : Room) (va_Pc [.ref rda, .ref ta] (jBw (dC, dI) [(cA, .int)] [(rda, .inr (2, [.null]))] sz)) (va_Qv (fun (u : Unit) => True) (fun u t => jE (dC, dI) [(cA, .int)] [(rda, .inr (2, [.null]))] sz [(rda, .inr (2, [.ref ta]))] t) (va_A [(rda, .inr (2, [.null]))] sz)) 0 0 (va_A [(rda, .inr (2, [.null]))] sz) := by
  refine jMet (cc := cXR_init) (maxL := 2) (ret := none) (by decide) rfl ?_
  intro p e s m args below meth c s₁ R Q hR hQ B hml hv
  obtain ⟨rfl, hsz, hP, hK, hD0, hN⟩ := hv
  have hx := B.exec
  have hb := B.bytes
  have hr := B.returns
  have hts := atoms_spec (ws := Cond.code yXR_init cXR_init 2 none :: TBL) B.pre
  have hown : s.vm.findClass RXR = some m.cls := findClass_of_methodNamed B.named
  have hlocks := B.notSynchronized
  have hin : meth.name = "<init>" := (name_of_methodNamed B.named B.method).1
  subst hsz
  obtain ⟨A, hAe⟩ : ∃ A, A = va_A [(rda, .inr (2, [.null]))] s.heap.size := ⟨_, rfl⟩
  have hD : va_D A [(rda, .inr (2, [.null]))] := by rw [hAe]; exact hD0.self
  have hA : ∀ q : Nat, s.heap.size ≤ q → A q := fun q h => by rw [hAe]; exact Or.inr h
  have hS : va_S A s.heap s.heap [] := va_S.rf
  have hP : va_P (dC, dI) vwCl [(rda, .inr (2, [.null]))] s.heap := hP
  have hl := lv_entry ([.ref rda, .ref ta]) (n := 2) (Nat.le_of_ble_eq_true rfl)
  rw [lg_entry_eq]
  generalize (lg_sl ([.ref rda, .ref ta]) ++ List.replicate (2 - (lg_sl ([.ref rda, .ref ta])).length) Slot.unset).toArray = ls at hl ⊢
  have hl : lv_has ls 2 [(0, .ref rda), (1, .ref ta)] := hl
  refine lv_aload_n hx hb dXR_init_0 rfl (lv_at hl 0 rfl) ?_
  refine W.objInit hx hb hown (hts _ (jmem tw_49)) (hts _ (jmem tw_22)) (hts _ (jmem tw_23)) rfl (by rw [hml]; exact hl.1) rfl dXR_init_1 (by rw [hR]; exact Nat.le_of_ble_eq_true rfl) (by rw [hR]; exact Nat.le_of_ble_eq_true rfl) ?_
  refine lv_aload_n hx hb dXR_init_4 rfl (lv_at hl 0 rfl) ?_
  refine lv_aload_n hx hb dXR_init_5 rfl (lv_at hl 1 rfl) ?_
  refine va_putF (D := (dC, dI)) (ci := 2) (v := .ref ta) (ty := (.object "GradeTexts$Tape")) (C := RXR) (T := TXR) (N := 1) hx hb hts (fun w h => jmem (inXR w h)) tyXR tyXR_ok nXR hown hK hP hD hS 0 rfl rfl 0 (by decide) (hts _ (jmem tw_50)) (fun _ h9 => h9) rfl hin rfl (by decide +kernel) rfl rfl (Nat.le_of_ble_eq_true rfl) dXR_init_6 (fun H locs hP hD hS => ?_)
  have hP : va_P (dC, dI) vwCl [(rda, .inr (2, [.ref ta]))] H := hP
  have hD : va_D A [(rda, .inr (2, [.ref ta]))] := hD
  refine W.widen (k := 0) (n := 0) (Nat.le_of_ble_eq_true rfl) (Nat.le_of_ble_eq_true rfl) ?_
  have hP9 := hP.sub (ws' := [(rda, .inr (2, [.ref ta]))]) [0] rfl
  have hD9 := hD.sub (ws' := [(rda, .inr (2, [.ref ta]))]) [0] (by decide) rfl
  subst hAe
  subst hQ
  exact W.vret hx hb hr (fun t ht hW => ⟨⟨(), rfl, trivial, ⟨by rw [ht]; exact hP9, va_K.moved hW.alike hK, hD9⟩⟩, hS.F ht⟩) hS.2.2 dXR_init_9

end
section
set_option maxHeartbeats 4000000 in
set_option maxRecDepth 100000 in
theorem c_XG_init (l : Launch) (dC : Nat → ClassId) (dI : Nat → Nat → Nat) (cA : ClassId) (sz : Nat) (ga : Nat) : Met l yXG_init (Cond.code yXG_init cXG_init 1 none :: TBL) ({ frames := 2, cells := 23, slots := 2091, locals := 33 } : Room) (va_Pc [.ref ga] (jBw (dC, dI) [(cA, .int)] [(ga, .inr (4, [.null, .null, .null, .null, .null, .null, .null]))] sz)) (va_Qv (fun (u : Nat × Nat × Nat × Nat × Nat × Nat × Nat × Nat × Nat × Nat × Nat × Nat × Nat × Nat × Nat × Nat × Nat × Nat × Nat × Nat × Nat × Nat × Nat) => True) (fun u t => jE (dC, dI) [(cA, .int)] [(ga, .inr (4, [.null, .null, .null, .null, .null, .null, .null]))] sz [(ga, .inr (4, [.ref u.1, .ref u.2.2.1, .ref u.2.2.2.1, .ref u.2.2.2.2.2.1, .ref u.2.2.2.2.2.2.1, .ref u.2.2.2.2.2.2.2.1, .ref u.2.2.2.2.2.2.2.2.2.2.2.2.2.2.2.1])), (u.1, .inr (3, [.ref u.2.1, .int (jI 0), .int (jI 0), .int (jI 0)])), (u.2.1, .inl (cA, 400, .inl (jA (fun _ => 0)))), (u.2.2.1, .inr (2, [.ref u.1])), (u.2.2.2.1, .inr (1, [.ref u.2.2.2.2.1, .int (jI 0)])), (u.2.2.2.2.1, .inl (cA, 160, .inl (jA (fun _ => 0)))), (u.2.2.2.2.2.1, .inl (cA, 8, .inl (jA (fun _ => 0)))), (u.2.2.2.2.2.2.1, .inl (cA, 8, .inl (jA (fun _ => 0)))), (u.2.2.2.2.2.2.2.1, .inr (0, [.ref u.2.2.2.2.2.2.2.2.1, .ref u.2.2.2.2.2.2.2.2.2.1, .ref u.2.2.2.2.2.2.2.2.2.2.1, .ref u.2.2.2.2.2.2.2.2.2.2.2.1, .ref u.2.2.2.2.2.2.2.2.2.2.2.2.1, .ref u.2.2.2.2.2.2.2.2.2.2.2.2.2.1, .ref u.2.2.2.2.2.2.2.2.2.2.2.2.2.2.1, .int (jI 0), .int (jI 0)])), (u.2.2.2.2.2.2.2.2.1, .inl (cA, 31, .inl (jA (fun _ => 0)))), (u.2.2.2.2.2.2.2.2.2.1, .inl (cA, 31, .inl (jA (fun _ => 0)))), (u.2.2.2.2.2.2.2.2.2.2.1, .inl (cA, 248, .inl (jA (fun _ => 0)))), (u.2.2.2.2.2.2.2.2.2.2.2.1, .inl (cA, 248, .inl (jA (fun _ => 0)))), (u.2.2.2.2.2.2.2.2.2.2.2.2.1, .inl (cA, 124, .inl (jA (fun _ => 0)))), (u.2.2.2.2.2.2.2.2.2.2.2.2.2.1, .inl (cA, 31, .inl (jA (fun _ => 0)))), (u.2.2.2.2.2.2.2.2.2.2.2.2.2.2.1, .inl (cA, 32, .inl (jA (fun _ => 0)))), (u.2.2.2.2.2.2.2.2.2.2.2.2.2.2.2.1, .inr (0, [.ref u.2.2.2.2.2.2.2.2.2.2.2.2.2.2.2.2.1, .ref u.2.2.2.2.2.2.2.2.2.2.2.2.2.2.2.2.2.1, .ref u.2.2.2.2.2.2.2.2.2.2.2.2.2.2.2.2.2.2.1, .ref u.2.2.2.2.2.2.2.2.2.2.2.2.2.2.2.2.2.2.2.1, .ref u.2.2.2.2.2.2.2.2.2.2.2.2.2.2.2.2.2.2.2.2.1, .ref u.2.2.2.2.2.2.2.2.2.2.2.2.2.2.2.2.2.2.2.2.2.1, .ref u.2.2.2.2.2.2.2.2.2.2.2.2.2.2.2.2.2.2.2.2.2.2, .int (jI 0), .int (jI 0)])), (u.2.2.2.2.2.2.2.2.2.2.2.2.2.2.2.2.1, .inl (cA, 31, .inl (jA (fun _ => 0)))), (u.2.2.2.2.2.2.2.2.2.2.2.2.2.2.2.2.2.1, .inl (cA, 31, .inl (jA (fun _ => 0)))), (u.2.2.2.2.2.2.2.2.2.2.2.2.2.2.2.2.2.2.1, .inl (cA, 248, .inl (jA (fun _ => 0)))), (u.2.2.2.2.2.2.2.2.2.2.2.2.2.2.2.2.2.2.2.1, .inl (cA, 248, .inl (jA (fun _ => 0)))), (u.2.2.2.2.2.2.2.2.2.2.2.2.2.2.2.2.2.2.2.2.1, .inl (cA, 124, .inl (jA (fun _ => 0)))), (u.2.2.2.2.2.2.2.2.2.2.2.2.2.2.2.2.2.2.2.2.2.1, .inl (cA, 31, .inl (jA (fun _ => 0)))), (u.2.2.2.2.2.2.2.2.2.2.2.2.2.2.2.2.2.2.2.2.2.2, .inl (cA, 32, .inl (jA (fun _ => 0))))] t) (va_A [(ga, .inr (4, [.null, .null, .null, .null, .null, .null, .null]))] sz)) 23 2091 (va_A [(ga, .inr (4, [.null, .null, .null, .null, .null, .null, .null]))] sz) := by
  refine jMet (cc := cXG_init) (maxL := 1) (ret := none) (by decide) rfl ?_
  intro p e s m args below meth c s₁ R Q hR hQ B hml hv
  obtain ⟨rfl, hsz, hP, hK, hD0, hN⟩ := hv
  have hx := B.exec
  have hb := B.bytes
  have hr := B.returns
  have hts := atoms_spec (ws := Cond.code yXG_init cXG_init 1 none :: TBL) B.pre
  have hown : s.vm.findClass RXG = some m.cls := findClass_of_methodNamed B.named
  have hlocks := B.notSynchronized
  have hin : meth.name = "<init>" := (name_of_methodNamed B.named B.method).1
  subst hsz
  obtain ⟨A, hAe⟩ : ∃ A, A = va_A [(ga, .inr (4, [.null, .null, .null, .null, .null, .null, .null]))] s.heap.size := ⟨_, rfl⟩
  have hD : va_D A [(ga, .inr (4, [.null, .null, .null, .null, .null, .null, .null]))] := by rw [hAe]; exact hD0.self
  have hA : ∀ q : Nat, s.heap.size ≤ q → A q := fun q h => by rw [hAe]; exact Or.inr h
  have hS : va_S A s.heap s.heap [] := va_S.rf
  have hP : va_P (dC, dI) vwCl [(ga, .inr (4, [.null, .null, .null, .null, .null, .null, .null]))] s.heap := hP
  have hl := lv_entry ([.ref ga]) (n := 1) (Nat.le_of_ble_eq_true rfl)
  rw [lg_entry_eq]
  generalize (lg_sl ([.ref ga]) ++ List.replicate (1 - (lg_sl ([.ref ga])).length) Slot.unset).toArray = ls at hl ⊢
  have hl : lv_has ls 1 [(0, .ref ga)] := hl
  refine lv_aload_n hx hb dXG_init_0 rfl (lv_at hl 0 rfl) ?_
  refine W.objInit hx hb hown (hts _ (jmem tw_21)) (hts _ (jmem tw_22)) (hts _ (jmem tw_23)) rfl (by rw [hml]; exact hl.1) rfl dXG_init_1 (by rw [hR]; exact Nat.le_of_ble_eq_true rfl) (by rw [hR]; exact Nat.le_of_ble_eq_true rfl) ?_
  refine lv_aload_n hx hb dXG_init_4 rfl (lv_at hl 0 rfl) ?_
  refine va_new (D := (dC, dI)) (ci := 3) (fs := [.null, .int (jI 0), .int (jI 0), .int (jI 0)]) (C := RXT) (T := TXT) (N := 4) hx hb hts (fun w h => jmem (inXT w h)) tyXT tyXT_ok hown (hts _ (jmem tw_24)) (hts _ (jmem tw_25)) (hts _ (jmem tw_2)) hK hP hD hS hA rfl (fun j hj => by rcases (show j = 0 ∨ j = 1 ∨ j = 2 ∨ j = 3 by omega) with rfl | rfl | rfl | rfl <;> first | rfl | decide) (by rw [hR]; exact Nat.le_of_ble_eq_true rfl) (by rw [hR]; exact Nat.le_of_ble_eq_true rfl) dXG_init_5 (fun q H hP hD hS => ?_)
  have hP : va_P (dC, dI) vwCl [(ga, .inr (4, [.null, .null, .null, .null, .null, .null, .null])), (q, .inr (3, [.null, .int (jI 0), .int (jI 0), .int (jI 0)]))] H := hP
  have hD : va_D A [(ga, .inr (4, [.null, .null, .null, .null, .null, .null, .null])), (q, .inr (3, [.null, .int (jI 0), .int (jI 0), .int (jI 0)]))] := hD
  refine lv_dup hx hb dXG_init_8 rfl ?_
  refine jcIN (As := []) (rest := [.ref q, .ref ga]) (wr := [(ga, .inr (4, [.null, .null, .null, .null, .null, .null, .null]))]) ⟨hx, hb, hml, hown, hts⟩ (c_XT_init l dC dI cA _ q) ⟨va_cnB 0 hts (jG (jG_c tw_28)) rfl rfl rfl (jN.n26 hN) (hts _ (jmem tw_2)) (by decide +kernel) (by rw [hR]; exact ⟨Nat.le_of_ble_eq_true rfl, Nat.le_of_ble_eq_true rfl⟩), rfl, hts _ (jmem tw_27)⟩ hK hP hD hS hA hN [1] [0] rfl rfl (by decide) (by decide) (by decide) rfl hl.1 rfl (Nat.le_of_ble_eq_true rfl) dXG_init_9 (by rw [hR]; exact ⟨Nat.le_of_ble_eq_true rfl, Nat.le_of_ble_eq_true rfl⟩) (fun u H locs _ hP hD hS => ?_)
  have hP : va_P (dC, dI) vwCl [(ga, .inr (4, [.null, .null, .null, .null, .null, .null, .null])), (q, .inr (3, [.ref u, .int (jI 0), .int (jI 0), .int (jI 0)])), (u, .inl (cA, 400, .inl (jA (fun _ => 0))))] H := hP
  have hD : va_D A [(ga, .inr (4, [.null, .null, .null, .null, .null, .null, .null])), (q, .inr (3, [.ref u, .int (jI 0), .int (jI 0), .int (jI 0)])), (u, .inl (cA, 400, .inl (jA (fun _ => 0))))] := hD
  refine va_putF (D := (dC, dI)) (ci := 4) (v := .ref q) (ty := (.object "GradeTexts$Tape")) (C := RXG) (T := TXG) (N := 7) hx hb hts (fun w h => jmem (inXG w h)) tyXG tyXG_ok nXG hown hK hP hD hS 0 rfl rfl 0 (by decide) (hts _ (jmem tw_101)) (fun _ h9 => h9) rfl hin rfl (by decide +kernel) rfl rfl (Nat.le_of_ble_eq_true rfl) dXG_init_12 (fun H locs hP hD hS => ?_)
  have hP : va_P (dC, dI) vwCl [(ga, .inr (4, [.ref q, .null, .null, .null, .null, .null, .null])), (q, .inr (3, [.ref u, .int (jI 0), .int (jI 0), .int (jI 0)])), (u, .inl (cA, 400, .inl (jA (fun _ => 0))))] H := hP
  have hD : va_D A [(ga, .inr (4, [.ref q, .null, .null, .null, .null, .null, .null])), (q, .inr (3, [.ref u, .int (jI 0), .int (jI 0), .int (jI 0)])), (u, .inl (cA, 400, .inl (jA (fun _ => 0))))] := hD
  refine lv_aload_n hx hb dXG_init_15 rfl (lv_at hl 0 rfl) ?_
  refine va_new (D := (dC, dI)) (ci := 2) (fs := [.null]) (C := RXR) (T := TXR) (N := 1) hx hb hts (fun w h => jmem (inXR w h)) tyXR tyXR_ok hown (hts _ (jmem tw_44)) (hts _ (jmem tw_45)) (hts _ (jmem tw_3)) hK hP hD hS hA rfl (fun j hj => by rcases (show j = 0 by omega) with rfl <;> first | rfl | decide) (by rw [hR]; exact Nat.le_of_ble_eq_true rfl) (by rw [hR]; exact Nat.le_of_ble_eq_true rfl) dXG_init_16 (fun q1 H hP hD hS => ?_)
  have hP : va_P (dC, dI) vwCl [(ga, .inr (4, [.ref q, .null, .null, .null, .null, .null, .null])), (q, .inr (3, [.ref u, .int (jI 0), .int (jI 0), .int (jI 0)])), (u, .inl (cA, 400, .inl (jA (fun _ => 0)))), (q1, .inr (2, [.null]))] H := hP
  have hD : va_D A [(ga, .inr (4, [.ref q, .null, .null, .null, .null, .null, .null])), (q, .inr (3, [.ref u, .int (jI 0), .int (jI 0), .int (jI 0)])), (u, .inl (cA, 400, .inl (jA (fun _ => 0)))), (q1, .inr (2, [.null]))] := hD
  refine lv_dup hx hb dXG_init_19 rfl ?_
  refine lv_aload_n hx hb dXG_init_20 rfl (lv_at hl 0 rfl) ?_
  refine va_get (D := (dC, dI)) (ci := 4) (v := .ref q) (C := RXG) (T := TXG) (N := 7) hx hb hts (fun w h => jmem (inXG w h)) hown hK hP 0 rfl rfl 0 (by decide) (hts _ (jmem tw_101)) (fun _ h9 => h9) rfl dXG_init_21 ?_
  refine jcI (As := [.ref q]) (rest := [.ref q1, .ref ga]) (wr := [(ga, .inr (4, [.ref q, .null, .null, .null, .null, .null, .null])), (q, .inr (3, [.ref u, .int (jI 0), .int (jI 0), .int (jI 0)])), (u, .inl (cA, 400, .inl (jA (fun _ => 0))))]) ⟨hx, hb, hml, hown, hts⟩ (c_XR_init l dC dI cA _ q1 q) (cwI 1 hts (jG (jG_c tw_48)) rfl rfl rfl (hts _ (jmem tw_3)) (hts _ (jmem tw_46)) (hts _ (jmem tw_47)) rfl (by decide +kernel) (by rw [hR]; exact ⟨Nat.le_of_ble_eq_true rfl, Nat.le_of_ble_eq_true rfl⟩)) hK hP hD hS hA hN [3] [0, 1, 2] rfl rfl (by decide) (by decide) (by decide) rfl hl.1 rfl (Nat.le_of_ble_eq_true rfl) dXG_init_24 (by rw [hR]; exact ⟨Nat.le_of_ble_eq_true rfl, Nat.le_of_ble_eq_true rfl⟩) (fun u2 H locs _ hP hD hS => ?_)
  have hP : va_P (dC, dI) vwCl [(ga, .inr (4, [.ref q, .null, .null, .null, .null, .null, .null])), (q, .inr (3, [.ref u, .int (jI 0), .int (jI 0), .int (jI 0)])), (u, .inl (cA, 400, .inl (jA (fun _ => 0)))), (q1, .inr (2, [.ref q]))] H := hP
  have hD : va_D A [(ga, .inr (4, [.ref q, .null, .null, .null, .null, .null, .null])), (q, .inr (3, [.ref u, .int (jI 0), .int (jI 0), .int (jI 0)])), (u, .inl (cA, 400, .inl (jA (fun _ => 0)))), (q1, .inr (2, [.ref q]))] := hD
  refine va_putF (D := (dC, dI)) (ci := 4) (v := .ref q1) (ty := (.object "GradeTexts$Reader")) (C := RXG) (T := TXG) (N := 7) hx hb hts (fun w h => jmem (inXG w h)) tyXG tyXG_ok nXG hown hK hP hD hS 0 rfl rfl 1 (by decide) (hts _ (jmem tw_102)) (fun _ h9 => h9) rfl hin rfl (by decide +kernel) rfl rfl (Nat.le_of_ble_eq_true rfl) dXG_init_27 (fun H locs hP hD hS => ?_)
  have hP : va_P (dC, dI) vwCl [(ga, .inr (4, [.ref q, .ref q1, .null, .null, .null, .null, .null])), (q, .inr (3, [.ref u, .int (jI 0), .int (jI 0), .int (jI 0)])), (u, .inl (cA, 400, .inl (jA (fun _ => 0)))), (q1, .inr (2, [.ref q]))] H := hP
  have hD : va_D A [(ga, .inr (4, [.ref q, .ref q1, .null, .null, .null, .null, .null])), (q, .inr (3, [.ref u, .int (jI 0), .int (jI 0), .int (jI 0)])), (u, .inl (cA, 400, .inl (jA (fun _ => 0)))), (q1, .inr (2, [.ref q]))] := hD
  refine lv_aload_n hx hb dXG_init_30 rfl (lv_at hl 0 rfl) ?_
  refine va_new (D := (dC, dI)) (ci := 1) (fs := [.null, .int (jI 0)]) (C := RXP) (T := TXP) (N := 2) hx hb hts (fun w h => jmem (inXP w h)) tyXP tyXP_ok hown (hts _ (jmem tw_54)) (hts _ (jmem tw_55)) (hts _ (jmem tw_4)) hK hP hD hS hA rfl (fun j hj => by rcases (show j = 0 ∨ j = 1 by omega) with rfl | rfl <;> first | rfl | decide) (by rw [hR]; exact Nat.le_of_ble_eq_true rfl) (by rw [hR]; exact Nat.le_of_ble_eq_true rfl) dXG_init_31 (fun q3 H hP hD hS => ?_)
  have hP : va_P (dC, dI) vwCl [(ga, .inr (4, [.ref q, .ref q1, .null, .null, .null, .null, .null])), (q, .inr (3, [.ref u, .int (jI 0), .int (jI 0), .int (jI 0)])), (u, .inl (cA, 400, .inl (jA (fun _ => 0)))), (q1, .inr (2, [.ref q])), (q3, .inr (1, [.null, .int (jI 0)]))] H := hP
  have hD : va_D A [(ga, .inr (4, [.ref q, .ref q1, .null, .null, .null, .null, .null])), (q, .inr (3, [.ref u, .int (jI 0), .int (jI 0), .int (jI 0)])), (u, .inl (cA, 400, .inl (jA (fun _ => 0)))), (q1, .inr (2, [.ref q])), (q3, .inr (1, [.null, .int (jI 0)]))] := hD
  refine lv_dup hx hb dXG_init_34 rfl ?_
  refine jcIN (As := []) (rest := [.ref q3, .ref ga]) (wr := [(ga, .inr (4, [.ref q, .ref q1, .null, .null, .null, .null, .null])), (q, .inr (3, [.ref u, .int (jI 0), .int (jI 0), .int (jI 0)])), (u, .inl (cA, 400, .inl (jA (fun _ => 0)))), (q1, .inr (2, [.ref q]))]) ⟨hx, hb, hml, hown, hts⟩ (c_XP_init l dC dI cA _ q3) ⟨va_cnB 0 hts (jG (jG_c tw_58)) rfl rfl rfl (jN.n56 hN) (hts _ (jmem tw_4)) (by decide +kernel) (by rw [hR]; exact ⟨Nat.le_of_ble_eq_true rfl, Nat.le_of_ble_eq_true rfl⟩), rfl, hts _ (jmem tw_57)⟩ hK hP hD hS hA hN [4] [0, 1, 2, 3] rfl rfl (by decide) (by decide) (by decide) rfl hl.1 rfl (Nat.le_of_ble_eq_true rfl) dXG_init_35 (by rw [hR]; exact ⟨Nat.le_of_ble_eq_true rfl, Nat.le_of_ble_eq_true rfl⟩) (fun u4 H locs _ hP hD hS => ?_)
  have hP : va_P (dC, dI) vwCl [(ga, .inr (4, [.ref q, .ref q1, .null, .null, .null, .null, .null])), (q, .inr (3, [.ref u, .int (jI 0), .int (jI 0), .int (jI 0)])), (u, .inl (cA, 400, .inl (jA (fun _ => 0)))), (q1, .inr (2, [.ref q])), (q3, .inr (1, [.ref u4, .int (jI 0)])), (u4, .inl (cA, 160, .inl (jA (fun _ => 0))))] H := hP
  have hD : va_D A [(ga, .inr (4, [.ref q, .ref q1, .null, .null, .null, .null, .null])), (q, .inr (3, [.ref u, .int (jI 0), .int (jI 0), .int (jI 0)])), (u, .inl (cA, 400, .inl (jA (fun _ => 0)))), (q1, .inr (2, [.ref q])), (q3, .inr (1, [.ref u4, .int (jI 0)])), (u4, .inl (cA, 160, .inl (jA (fun _ => 0))))] := hD
  refine va_putF (D := (dC, dI)) (ci := 4) (v := .ref q3) (ty := (.object "GradeTexts$Page")) (C := RXG) (T := TXG) (N := 7) hx hb hts (fun w h => jmem (inXG w h)) tyXG tyXG_ok nXG hown hK hP hD hS 0 rfl rfl 2 (by decide) (hts _ (jmem tw_103)) (fun _ h9 => h9) rfl hin rfl (by decide +kernel) rfl rfl (Nat.le_of_ble_eq_true rfl) dXG_init_38 (fun H locs hP hD hS => ?_)
  have hP : va_P (dC, dI) vwCl [(ga, .inr (4, [.ref q, .ref q1, .ref q3, .null, .null, .null, .null])), (q, .inr (3, [.ref u, .int (jI 0), .int (jI 0), .int (jI 0)])), (u, .inl (cA, 400, .inl (jA (fun _ => 0)))), (q1, .inr (2, [.ref q])), (q3, .inr (1, [.ref u4, .int (jI 0)])), (u4, .inl (cA, 160, .inl (jA (fun _ => 0))))] H := hP
  have hD : va_D A [(ga, .inr (4, [.ref q, .ref q1, .ref q3, .null, .null, .null, .null])), (q, .inr (3, [.ref u, .int (jI 0), .int (jI 0), .int (jI 0)])), (u, .inl (cA, 400, .inl (jA (fun _ => 0)))), (q1, .inr (2, [.ref q])), (q3, .inr (1, [.ref u4, .int (jI 0)])), (u4, .inl (cA, 160, .inl (jA (fun _ => 0))))] := hD
  refine lv_aload_n hx hb dXG_init_41 rfl (lv_at hl 0 rfl) ?_
  refine ji_bipush hx hb dXG_init_42 (by decide) ?_
  refine ji_newa (N := 8) hx hb (hts _ (jmem tw_43)) hK hP hD hS hA 0 rfl rfl (by decide) (by rw [hR]; exact Nat.le_of_ble_eq_true rfl) (by rw [hR]; exact Nat.le_of_ble_eq_true rfl) dXG_init_44 (fun q5 H hP hD hS => ?_)
  have hP : va_P (dC, dI) vwCl [(ga, .inr (4, [.ref q, .ref q1, .ref q3, .null, .null, .null, .null])), (q, .inr (3, [.ref u, .int (jI 0), .int (jI 0), .int (jI 0)])), (u, .inl (cA, 400, .inl (jA (fun _ => 0)))), (q1, .inr (2, [.ref q])), (q3, .inr (1, [.ref u4, .int (jI 0)])), (u4, .inl (cA, 160, .inl (jA (fun _ => 0)))), (q5, .inl (cA, 8, .inl (jA (fun _ => 0))))] H := hP
  have hD : va_D A [(ga, .inr (4, [.ref q, .ref q1, .ref q3, .null, .null, .null, .null])), (q, .inr (3, [.ref u, .int (jI 0), .int (jI 0), .int (jI 0)])), (u, .inl (cA, 400, .inl (jA (fun _ => 0)))), (q1, .inr (2, [.ref q])), (q3, .inr (1, [.ref u4, .int (jI 0)])), (u4, .inl (cA, 160, .inl (jA (fun _ => 0)))), (q5, .inl (cA, 8, .inl (jA (fun _ => 0))))] := hD
  refine va_putF (D := (dC, dI)) (ci := 4) (v := .ref q5) (ty := (.array .int)) (C := RXG) (T := TXG) (N := 7) hx hb hts (fun w h => jmem (inXG w h)) tyXG tyXG_ok nXG hown hK hP hD hS 0 rfl rfl 3 (by decide) (hts _ (jmem tw_104)) (fun _ h9 => h9) rfl hin rfl (by decide +kernel) rfl rfl (Nat.le_of_ble_eq_true rfl) dXG_init_46 (fun H locs hP hD hS => ?_)
  have hP : va_P (dC, dI) vwCl [(ga, .inr (4, [.ref q, .ref q1, .ref q3, .ref q5, .null, .null, .null])), (q, .inr (3, [.ref u, .int (jI 0), .int (jI 0), .int (jI 0)])), (u, .inl (cA, 400, .inl (jA (fun _ => 0)))), (q1, .inr (2, [.ref q])), (q3, .inr (1, [.ref u4, .int (jI 0)])), (u4, .inl (cA, 160, .inl (jA (fun _ => 0)))), (q5, .inl (cA, 8, .inl (jA (fun _ => 0))))] H := hP
  have hD : va_D A [(ga, .inr (4, [.ref q, .ref q1, .ref q3, .ref q5, .null, .null, .null])), (q, .inr (3, [.ref u, .int (jI 0), .int (jI 0), .int (jI 0)])), (u, .inl (cA, 400, .inl (jA (fun _ => 0)))), (q1, .inr (2, [.ref q])), (q3, .inr (1, [.ref u4, .int (jI 0)])), (u4, .inl (cA, 160, .inl (jA (fun _ => 0)))), (q5, .inl (cA, 8, .inl (jA (fun _ => 0))))] := hD
  refine lv_aload_n hx hb dXG_init_49 rfl (lv_at hl 0 rfl) ?_
  refine ji_bipush hx hb dXG_init_50 (by decide) ?_
  refine ji_newa (N := 8) hx hb (hts _ (jmem tw_43)) hK hP hD hS hA 0 rfl rfl (by decide) (by rw [hR]; exact Nat.le_of_ble_eq_true rfl) (by rw [hR]; exact Nat.le_of_ble_eq_true rfl) dXG_init_52 (fun q6 H hP hD hS => ?_)
  have hP : va_P (dC, dI) vwCl [(ga, .inr (4, [.ref q, .ref q1, .ref q3, .ref q5, .null, .null, .null])), (q, .inr (3, [.ref u, .int (jI 0), .int (jI 0), .int (jI 0)])), (u, .inl (cA, 400, .inl (jA (fun _ => 0)))), (q1, .inr (2, [.ref q])), (q3, .inr (1, [.ref u4, .int (jI 0)])), (u4, .inl (cA, 160, .inl (jA (fun _ => 0)))), (q5, .inl (cA, 8, .inl (jA (fun _ => 0)))), (q6, .inl (cA, 8, .inl (jA (fun _ => 0))))] H := hP
  have hD : va_D A [(ga, .inr (4, [.ref q, .ref q1, .ref q3, .ref q5, .null, .null, .null])), (q, .inr (3, [.ref u, .int (jI 0), .int (jI 0), .int (jI 0)])), (u, .inl (cA, 400, .inl (jA (fun _ => 0)))), (q1, .inr (2, [.ref q])), (q3, .inr (1, [.ref u4, .int (jI 0)])), (u4, .inl (cA, 160, .inl (jA (fun _ => 0)))), (q5, .inl (cA, 8, .inl (jA (fun _ => 0)))), (q6, .inl (cA, 8, .inl (jA (fun _ => 0))))] := hD
  refine va_putF (D := (dC, dI)) (ci := 4) (v := .ref q6) (ty := (.array .int)) (C := RXG) (T := TXG) (N := 7) hx hb hts (fun w h => jmem (inXG w h)) tyXG tyXG_ok nXG hown hK hP hD hS 0 rfl rfl 4 (by decide) (hts _ (jmem tw_105)) (fun _ h9 => h9) rfl hin rfl (by decide +kernel) rfl rfl (Nat.le_of_ble_eq_true rfl) dXG_init_54 (fun H locs hP hD hS => ?_)
  have hP : va_P (dC, dI) vwCl [(ga, .inr (4, [.ref q, .ref q1, .ref q3, .ref q5, .ref q6, .null, .null])), (q, .inr (3, [.ref u, .int (jI 0), .int (jI 0), .int (jI 0)])), (u, .inl (cA, 400, .inl (jA (fun _ => 0)))), (q1, .inr (2, [.ref q])), (q3, .inr (1, [.ref u4, .int (jI 0)])), (u4, .inl (cA, 160, .inl (jA (fun _ => 0)))), (q5, .inl (cA, 8, .inl (jA (fun _ => 0)))), (q6, .inl (cA, 8, .inl (jA (fun _ => 0))))] H := hP
  have hD : va_D A [(ga, .inr (4, [.ref q, .ref q1, .ref q3, .ref q5, .ref q6, .null, .null])), (q, .inr (3, [.ref u, .int (jI 0), .int (jI 0), .int (jI 0)])), (u, .inl (cA, 400, .inl (jA (fun _ => 0)))), (q1, .inr (2, [.ref q])), (q3, .inr (1, [.ref u4, .int (jI 0)])), (u4, .inl (cA, 160, .inl (jA (fun _ => 0)))), (q5, .inl (cA, 8, .inl (jA (fun _ => 0)))), (q6, .inl (cA, 8, .inl (jA (fun _ => 0))))] := hD
  refine lv_aload_n hx hb dXG_init_57 rfl (lv_at hl 0 rfl) ?_
  refine va_new (D := (dC, dI)) (ci := 0) (fs := [.null, .null, .null, .null, .null, .null, .null, .int (jI 0), .int (jI 0)]) (C := RXB) (T := TXB) (N := 9) hx hb hts (fun w h => jmem (inXB w h)) tyXB tyXB_ok hown (hts _ (jmem tw_67)) (hts _ (jmem tw_68)) (hts _ (jmem tw_5)) hK hP hD hS hA rfl (fun j hj => by rcases (show j = 0 ∨ j = 1 ∨ j = 2 ∨ j = 3 ∨ j = 4 ∨ j = 5 ∨ j = 6 ∨ j = 7 ∨ j = 8 by omega) with rfl | rfl | rfl | rfl | rfl | rfl | rfl | rfl | rfl <;> first | rfl | decide) (by rw [hR]; exact Nat.le_of_ble_eq_true rfl) (by rw [hR]; exact Nat.le_of_ble_eq_true rfl) dXG_init_58 (fun q7 H hP hD hS => ?_)
  have hP : va_P (dC, dI) vwCl [(ga, .inr (4, [.ref q, .ref q1, .ref q3, .ref q5, .ref q6, .null, .null])), (q, .inr (3, [.ref u, .int (jI 0), .int (jI 0), .int (jI 0)])), (u, .inl (cA, 400, .inl (jA (fun _ => 0)))), (q1, .inr (2, [.ref q])), (q3, .inr (1, [.ref u4, .int (jI 0)])), (u4, .inl (cA, 160, .inl (jA (fun _ => 0)))), (q5, .inl (cA, 8, .inl (jA (fun _ => 0)))), (q6, .inl (cA, 8, .inl (jA (fun _ => 0)))), (q7, .inr (0, [.null, .null, .null, .null, .null, .null, .null, .int (jI 0), .int (jI 0)]))] H := hP
  have hD : va_D A [(ga, .inr (4, [.ref q, .ref q1, .ref q3, .ref q5, .ref q6, .null, .null])), (q, .inr (3, [.ref u, .int (jI 0), .int (jI 0), .int (jI 0)])), (u, .inl (cA, 400, .inl (jA (fun _ => 0)))), (q1, .inr (2, [.ref q])), (q3, .inr (1, [.ref u4, .int (jI 0)])), (u4, .inl (cA, 160, .inl (jA (fun _ => 0)))), (q5, .inl (cA, 8, .inl (jA (fun _ => 0)))), (q6, .inl (cA, 8, .inl (jA (fun _ => 0)))), (q7, .inr (0, [.null, .null, .null, .null, .null, .null, .null, .int (jI 0), .int (jI 0)]))] := hD
  refine lv_dup hx hb dXG_init_61 rfl ?_
  refine jcIN (As := []) (rest := [.ref q7, .ref ga]) (wr := [(ga, .inr (4, [.ref q, .ref q1, .ref q3, .ref q5, .ref q6, .null, .null])), (q, .inr (3, [.ref u, .int (jI 0), .int (jI 0), .int (jI 0)])), (u, .inl (cA, 400, .inl (jA (fun _ => 0)))), (q1, .inr (2, [.ref q])), (q3, .inr (1, [.ref u4, .int (jI 0)])), (u4, .inl (cA, 160, .inl (jA (fun _ => 0)))), (q5, .inl (cA, 8, .inl (jA (fun _ => 0)))), (q6, .inl (cA, 8, .inl (jA (fun _ => 0))))]) ⟨hx, hb, hml, hown, hts⟩ (c_XB_init l dC dI cA _ q7) ⟨va_cnB 0 hts (jG (jG_c tw_71)) rfl rfl rfl (jN.n69 hN) (hts _ (jmem tw_5)) (by decide +kernel) (by rw [hR]; exact ⟨Nat.le_of_ble_eq_true rfl, Nat.le_of_ble_eq_true rfl⟩), rfl, hts _ (jmem tw_70)⟩ hK hP hD hS hA hN [8] [0, 1, 2, 3, 4, 5, 6, 7] rfl rfl (by decide) (by decide) (by decide) rfl hl.1 rfl (Nat.le_of_ble_eq_true rfl) dXG_init_62 (by rw [hR]; exact ⟨Nat.le_of_ble_eq_true rfl, Nat.le_of_ble_eq_true rfl⟩) (fun u8 H locs _ hP hD hS => ?_)
  obtain ⟨bt, bp, bl, bh, bq, br, bd⟩ := u8
  have hP : va_P (dC, dI) vwCl [(ga, .inr (4, [.ref q, .ref q1, .ref q3, .ref q5, .ref q6, .null, .null])), (q, .inr (3, [.ref u, .int (jI 0), .int (jI 0), .int (jI 0)])), (u, .inl (cA, 400, .inl (jA (fun _ => 0)))), (q1, .inr (2, [.ref q])), (q3, .inr (1, [.ref u4, .int (jI 0)])), (u4, .inl (cA, 160, .inl (jA (fun _ => 0)))), (q5, .inl (cA, 8, .inl (jA (fun _ => 0)))), (q6, .inl (cA, 8, .inl (jA (fun _ => 0)))), (q7, .inr (0, [.ref bt, .ref bp, .ref bl, .ref bh, .ref bq, .ref br, .ref bd, .int (jI 0), .int (jI 0)])), (bt, .inl (cA, 31, .inl (jA (fun _ => 0)))), (bp, .inl (cA, 31, .inl (jA (fun _ => 0)))), (bl, .inl (cA, 248, .inl (jA (fun _ => 0)))), (bh, .inl (cA, 248, .inl (jA (fun _ => 0)))), (bq, .inl (cA, 124, .inl (jA (fun _ => 0)))), (br, .inl (cA, 31, .inl (jA (fun _ => 0)))), (bd, .inl (cA, 32, .inl (jA (fun _ => 0))))] H := hP
  have hD : va_D A [(ga, .inr (4, [.ref q, .ref q1, .ref q3, .ref q5, .ref q6, .null, .null])), (q, .inr (3, [.ref u, .int (jI 0), .int (jI 0), .int (jI 0)])), (u, .inl (cA, 400, .inl (jA (fun _ => 0)))), (q1, .inr (2, [.ref q])), (q3, .inr (1, [.ref u4, .int (jI 0)])), (u4, .inl (cA, 160, .inl (jA (fun _ => 0)))), (q5, .inl (cA, 8, .inl (jA (fun _ => 0)))), (q6, .inl (cA, 8, .inl (jA (fun _ => 0)))), (q7, .inr (0, [.ref bt, .ref bp, .ref bl, .ref bh, .ref bq, .ref br, .ref bd, .int (jI 0), .int (jI 0)])), (bt, .inl (cA, 31, .inl (jA (fun _ => 0)))), (bp, .inl (cA, 31, .inl (jA (fun _ => 0)))), (bl, .inl (cA, 248, .inl (jA (fun _ => 0)))), (bh, .inl (cA, 248, .inl (jA (fun _ => 0)))), (bq, .inl (cA, 124, .inl (jA (fun _ => 0)))), (br, .inl (cA, 31, .inl (jA (fun _ => 0)))), (bd, .inl (cA, 32, .inl (jA (fun _ => 0))))] := hD
  refine va_put (D := (dC, dI)) (ci := 4) (v := .ref q7) (ty := (.object "GradeTexts$Book")) (C := RXG) (T := TXG) (N := 7) hx hb hts (fun w h => jmem (inXG w h)) tyXG tyXG_ok nXG hown hK hP hD hS 0 rfl rfl 5 (by decide) (hts _ (jmem tw_106)) (fun _ h9 => h9) rfl (by decide +kernel) rfl rfl (Nat.le_of_ble_eq_true rfl) dXG_init_65 (fun H locs hP hD hS => ?_)
  have hP : va_P (dC, dI) vwCl [(ga, .inr (4, [.ref q, .ref q1, .ref q3, .ref q5, .ref q6, .ref q7, .null])), (q, .inr (3, [.ref u, .int (jI 0), .int (jI 0), .int (jI 0)])), (u, .inl (cA, 400, .inl (jA (fun _ => 0)))), (q1, .inr (2, [.ref q])), (q3, .inr (1, [.ref u4, .int (jI 0)])), (u4, .inl (cA, 160, .inl (jA (fun _ => 0)))), (q5, .inl (cA, 8, .inl (jA (fun _ => 0)))), (q6, .inl (cA, 8, .inl (jA (fun _ => 0)))), (q7, .inr (0, [.ref bt, .ref bp, .ref bl, .ref bh, .ref bq, .ref br, .ref bd, .int (jI 0), .int (jI 0)])), (bt, .inl (cA, 31, .inl (jA (fun _ => 0)))), (bp, .inl (cA, 31, .inl (jA (fun _ => 0)))), (bl, .inl (cA, 248, .inl (jA (fun _ => 0)))), (bh, .inl (cA, 248, .inl (jA (fun _ => 0)))), (bq, .inl (cA, 124, .inl (jA (fun _ => 0)))), (br, .inl (cA, 31, .inl (jA (fun _ => 0)))), (bd, .inl (cA, 32, .inl (jA (fun _ => 0))))] H := hP
  have hD : va_D A [(ga, .inr (4, [.ref q, .ref q1, .ref q3, .ref q5, .ref q6, .ref q7, .null])), (q, .inr (3, [.ref u, .int (jI 0), .int (jI 0), .int (jI 0)])), (u, .inl (cA, 400, .inl (jA (fun _ => 0)))), (q1, .inr (2, [.ref q])), (q3, .inr (1, [.ref u4, .int (jI 0)])), (u4, .inl (cA, 160, .inl (jA (fun _ => 0)))), (q5, .inl (cA, 8, .inl (jA (fun _ => 0)))), (q6, .inl (cA, 8, .inl (jA (fun _ => 0)))), (q7, .inr (0, [.ref bt, .ref bp, .ref bl, .ref bh, .ref bq, .ref br, .ref bd, .int (jI 0), .int (jI 0)])), (bt, .inl (cA, 31, .inl (jA (fun _ => 0)))), (bp, .inl (cA, 31, .inl (jA (fun _ => 0)))), (bl, .inl (cA, 248, .inl (jA (fun _ => 0)))), (bh, .inl (cA, 248, .inl (jA (fun _ => 0)))), (bq, .inl (cA, 124, .inl (jA (fun _ => 0)))), (br, .inl (cA, 31, .inl (jA (fun _ => 0)))), (bd, .inl (cA, 32, .inl (jA (fun _ => 0))))] := hD
  refine lv_aload_n hx hb dXG_init_68 rfl (lv_at hl 0 rfl) ?_
  refine va_new (D := (dC, dI)) (ci := 0) (fs := [.null, .null, .null, .null, .null, .null, .null, .int (jI 0), .int (jI 0)]) (C := RXB) (T := TXB) (N := 9) hx hb hts (fun w h => jmem (inXB w h)) tyXB tyXB_ok hown (hts _ (jmem tw_67)) (hts _ (jmem tw_68)) (hts _ (jmem tw_5)) hK hP hD hS hA rfl (fun j hj => by rcases (show j = 0 ∨ j = 1 ∨ j = 2 ∨ j = 3 ∨ j = 4 ∨ j = 5 ∨ j = 6 ∨ j = 7 ∨ j = 8 by omega) with rfl | rfl | rfl | rfl | rfl | rfl | rfl | rfl | rfl <;> first | rfl | decide) (by rw [hR]; exact Nat.le_of_ble_eq_true rfl) (by rw [hR]; exact Nat.le_of_ble_eq_true rfl) dXG_init_69 (fun q9 H hP hD hS => ?_)
  have hP : va_P (dC, dI) vwCl [(ga, .inr (4, [.ref q, .ref q1, .ref q3, .ref q5, .ref q6, .ref q7, .null])), (q, .inr (3, [.ref u, .int (jI 0), .int (jI 0), .int (jI 0)])), (u, .inl (cA, 400, .inl (jA (fun _ => 0)))), (q1, .inr (2, [.ref q])), (q3, .inr (1, [.ref u4, .int (jI 0)])), (u4, .inl (cA, 160, .inl (jA (fun _ => 0)))), (q5, .inl (cA, 8, .inl (jA (fun _ => 0)))), (q6, .inl (cA, 8, .inl (jA (fun _ => 0)))), (q7, .inr (0, [.ref bt, .ref bp, .ref bl, .ref bh, .ref bq, .ref br, .ref bd, .int (jI 0), .int (jI 0)])), (bt, .inl (cA, 31, .inl (jA (fun _ => 0)))), (bp, .inl (cA, 31, .inl (jA (fun _ => 0)))), (bl, .inl (cA, 248, .inl (jA (fun _ => 0)))), (bh, .inl (cA, 248, .inl (jA (fun _ => 0)))), (bq, .inl (cA, 124, .inl (jA (fun _ => 0)))), (br, .inl (cA, 31, .inl (jA (fun _ => 0)))), (bd, .inl (cA, 32, .inl (jA (fun _ => 0)))), (q9, .inr (0, [.null, .null, .null, .null, .null, .null, .null, .int (jI 0), .int (jI 0)]))] H := hP
  have hD : va_D A [(ga, .inr (4, [.ref q, .ref q1, .ref q3, .ref q5, .ref q6, .ref q7, .null])), (q, .inr (3, [.ref u, .int (jI 0), .int (jI 0), .int (jI 0)])), (u, .inl (cA, 400, .inl (jA (fun _ => 0)))), (q1, .inr (2, [.ref q])), (q3, .inr (1, [.ref u4, .int (jI 0)])), (u4, .inl (cA, 160, .inl (jA (fun _ => 0)))), (q5, .inl (cA, 8, .inl (jA (fun _ => 0)))), (q6, .inl (cA, 8, .inl (jA (fun _ => 0)))), (q7, .inr (0, [.ref bt, .ref bp, .ref bl, .ref bh, .ref bq, .ref br, .ref bd, .int (jI 0), .int (jI 0)])), (bt, .inl (cA, 31, .inl (jA (fun _ => 0)))), (bp, .inl (cA, 31, .inl (jA (fun _ => 0)))), (bl, .inl (cA, 248, .inl (jA (fun _ => 0)))), (bh, .inl (cA, 248, .inl (jA (fun _ => 0)))), (bq, .inl (cA, 124, .inl (jA (fun _ => 0)))), (br, .inl (cA, 31, .inl (jA (fun _ => 0)))), (bd, .inl (cA, 32, .inl (jA (fun _ => 0)))), (q9, .inr (0, [.null, .null, .null, .null, .null, .null, .null, .int (jI 0), .int (jI 0)]))] := hD
  refine lv_dup hx hb dXG_init_72 rfl ?_
  refine jcIN (As := []) (rest := [.ref q9, .ref ga]) (wr := [(ga, .inr (4, [.ref q, .ref q1, .ref q3, .ref q5, .ref q6, .ref q7, .null])), (q, .inr (3, [.ref u, .int (jI 0), .int (jI 0), .int (jI 0)])), (u, .inl (cA, 400, .inl (jA (fun _ => 0)))), (q1, .inr (2, [.ref q])), (q3, .inr (1, [.ref u4, .int (jI 0)])), (u4, .inl (cA, 160, .inl (jA (fun _ => 0)))), (q5, .inl (cA, 8, .inl (jA (fun _ => 0)))), (q6, .inl (cA, 8, .inl (jA (fun _ => 0)))), (q7, .inr (0, [.ref bt, .ref bp, .ref bl, .ref bh, .ref bq, .ref br, .ref bd, .int (jI 0), .int (jI 0)])), (bt, .inl (cA, 31, .inl (jA (fun _ => 0)))), (bp, .inl (cA, 31, .inl (jA (fun _ => 0)))), (bl, .inl (cA, 248, .inl (jA (fun _ => 0)))), (bh, .inl (cA, 248, .inl (jA (fun _ => 0)))), (bq, .inl (cA, 124, .inl (jA (fun _ => 0)))), (br, .inl (cA, 31, .inl (jA (fun _ => 0)))), (bd, .inl (cA, 32, .inl (jA (fun _ => 0))))]) ⟨hx, hb, hml, hown, hts⟩ (c_XB_init l dC dI cA _ q9) ⟨va_cnB 0 hts (jG (jG_c tw_71)) rfl rfl rfl (jN.n69 hN) (hts _ (jmem tw_5)) (by decide +kernel) (by rw [hR]; exact ⟨Nat.le_of_ble_eq_true rfl, Nat.le_of_ble_eq_true rfl⟩), rfl, hts _ (jmem tw_70)⟩ hK hP hD hS hA hN [16] [0, 1, 2, 3, 4, 5, 6, 7, 8, 9, 10, 11, 12, 13, 14, 15] rfl rfl (by decide) (by decide) (by decide) rfl hl.1 rfl (Nat.le_of_ble_eq_true rfl) dXG_init_73 (by rw [hR]; exact ⟨Nat.le_of_ble_eq_true rfl, Nat.le_of_ble_eq_true rfl⟩) (fun u17 H locs _ hP hD hS => ?_)
  obtain ⟨bt10, bp11, bl12, bh13, bq14, br15, bd16⟩ := u17
  have hP : va_P (dC, dI) vwCl [(ga, .inr (4, [.ref q, .ref q1, .ref q3, .ref q5, .ref q6, .ref q7, .null])), (q, .inr (3, [.ref u, .int (jI 0), .int (jI 0), .int (jI 0)])), (u, .inl (cA, 400, .inl (jA (fun _ => 0)))), (q1, .inr (2, [.ref q])), (q3, .inr (1, [.ref u4, .int (jI 0)])), (u4, .inl (cA, 160, .inl (jA (fun _ => 0)))), (q5, .inl (cA, 8, .inl (jA (fun _ => 0)))), (q6, .inl (cA, 8, .inl (jA (fun _ => 0)))), (q7, .inr (0, [.ref bt, .ref bp, .ref bl, .ref bh, .ref bq, .ref br, .ref bd, .int (jI 0), .int (jI 0)])), (bt, .inl (cA, 31, .inl (jA (fun _ => 0)))), (bp, .inl (cA, 31, .inl (jA (fun _ => 0)))), (bl, .inl (cA, 248, .inl (jA (fun _ => 0)))), (bh, .inl (cA, 248, .inl (jA (fun _ => 0)))), (bq, .inl (cA, 124, .inl (jA (fun _ => 0)))), (br, .inl (cA, 31, .inl (jA (fun _ => 0)))), (bd, .inl (cA, 32, .inl (jA (fun _ => 0)))), (q9, .inr (0, [.ref bt10, .ref bp11, .ref bl12, .ref bh13, .ref bq14, .ref br15, .ref bd16, .int (jI 0), .int (jI 0)])), (bt10, .inl (cA, 31, .inl (jA (fun _ => 0)))), (bp11, .inl (cA, 31, .inl (jA (fun _ => 0)))), (bl12, .inl (cA, 248, .inl (jA (fun _ => 0)))), (bh13, .inl (cA, 248, .inl (jA (fun _ => 0)))), (bq14, .inl (cA, 124, .inl (jA (fun _ => 0)))), (br15, .inl (cA, 31, .inl (jA (fun _ => 0)))), (bd16, .inl (cA, 32, .inl (jA (fun _ => 0))))] H := hP
  have hD : va_D A [(ga, .inr (4, [.ref q, .ref q1, .ref q3, .ref q5, .ref q6, .ref q7, .null])), (q, .inr (3, [.ref u, .int (jI 0), .int (jI 0), .int (jI 0)])), (u, .inl (cA, 400, .inl (jA (fun _ => 0)))), (q1, .inr (2, [.ref q])), (q3, .inr (1, [.ref u4, .int (jI 0)])), (u4, .inl (cA, 160, .inl (jA (fun _ => 0)))), (q5, .inl (cA, 8, .inl (jA (fun _ => 0)))), (q6, .inl (cA, 8, .inl (jA (fun _ => 0)))), (q7, .inr (0, [.ref bt, .ref bp, .ref bl, .ref bh, .ref bq, .ref br, .ref bd, .int (jI 0), .int (jI 0)])), (bt, .inl (cA, 31, .inl (jA (fun _ => 0)))), (bp, .inl (cA, 31, .inl (jA (fun _ => 0)))), (bl, .inl (cA, 248, .inl (jA (fun _ => 0)))), (bh, .inl (cA, 248, .inl (jA (fun _ => 0)))), (bq, .inl (cA, 124, .inl (jA (fun _ => 0)))), (br, .inl (cA, 31, .inl (jA (fun _ => 0)))), (bd, .inl (cA, 32, .inl (jA (fun _ => 0)))), (q9, .inr (0, [.ref bt10, .ref bp11, .ref bl12, .ref bh13, .ref bq14, .ref br15, .ref bd16, .int (jI 0), .int (jI 0)])), (bt10, .inl (cA, 31, .inl (jA (fun _ => 0)))), (bp11, .inl (cA, 31, .inl (jA (fun _ => 0)))), (bl12, .inl (cA, 248, .inl (jA (fun _ => 0)))), (bh13, .inl (cA, 248, .inl (jA (fun _ => 0)))), (bq14, .inl (cA, 124, .inl (jA (fun _ => 0)))), (br15, .inl (cA, 31, .inl (jA (fun _ => 0)))), (bd16, .inl (cA, 32, .inl (jA (fun _ => 0))))] := hD
  refine va_put (D := (dC, dI)) (ci := 4) (v := .ref q9) (ty := (.object "GradeTexts$Book")) (C := RXG) (T := TXG) (N := 7) hx hb hts (fun w h => jmem (inXG w h)) tyXG tyXG_ok nXG hown hK hP hD hS 0 rfl rfl 6 (by decide) (hts _ (jmem tw_107)) (fun _ h9 => h9) rfl (by decide +kernel) rfl rfl (Nat.le_of_ble_eq_true rfl) dXG_init_76 (fun H locs hP hD hS => ?_)
  have hP : va_P (dC, dI) vwCl [(ga, .inr (4, [.ref q, .ref q1, .ref q3, .ref q5, .ref q6, .ref q7, .ref q9])), (q, .inr (3, [.ref u, .int (jI 0), .int (jI 0), .int (jI 0)])), (u, .inl (cA, 400, .inl (jA (fun _ => 0)))), (q1, .inr (2, [.ref q])), (q3, .inr (1, [.ref u4, .int (jI 0)])), (u4, .inl (cA, 160, .inl (jA (fun _ => 0)))), (q5, .inl (cA, 8, .inl (jA (fun _ => 0)))), (q6, .inl (cA, 8, .inl (jA (fun _ => 0)))), (q7, .inr (0, [.ref bt, .ref bp, .ref bl, .ref bh, .ref bq, .ref br, .ref bd, .int (jI 0), .int (jI 0)])), (bt, .inl (cA, 31, .inl (jA (fun _ => 0)))), (bp, .inl (cA, 31, .inl (jA (fun _ => 0)))), (bl, .inl (cA, 248, .inl (jA (fun _ => 0)))), (bh, .inl (cA, 248, .inl (jA (fun _ => 0)))), (bq, .inl (cA, 124, .inl (jA (fun _ => 0)))), (br, .inl (cA, 31, .inl (jA (fun _ => 0)))), (bd, .inl (cA, 32, .inl (jA (fun _ => 0)))), (q9, .inr (0, [.ref bt10, .ref bp11, .ref bl12, .ref bh13, .ref bq14, .ref br15, .ref bd16, .int (jI 0), .int (jI 0)])), (bt10, .inl (cA, 31, .inl (jA (fun _ => 0)))), (bp11, .inl (cA, 31, .inl (jA (fun _ => 0)))), (bl12, .inl (cA, 248, .inl (jA (fun _ => 0)))), (bh13, .inl (cA, 248, .inl (jA (fun _ => 0)))), (bq14, .inl (cA, 124, .inl (jA (fun _ => 0)))), (br15, .inl (cA, 31, .inl (jA (fun _ => 0)))), (bd16, .inl (cA, 32, .inl (jA (fun _ => 0))))] H := hP
  have hD : va_D A [(ga, .inr (4, [.ref q, .ref q1, .ref q3, .ref q5, .ref q6, .ref q7, .ref q9])), (q, .inr (3, [.ref u, .int (jI 0), .int (jI 0), .int (jI 0)])), (u, .inl (cA, 400, .inl (jA (fun _ => 0)))), (q1, .inr (2, [.ref q])), (q3, .inr (1, [.ref u4, .int (jI 0)])), (u4, .inl (cA, 160, .inl (jA (fun _ => 0)))), (q5, .inl (cA, 8, .inl (jA (fun _ => 0)))), (q6, .inl (cA, 8, .inl (jA (fun _ => 0)))), (q7, .inr (0, [.ref bt, .ref bp, .ref bl, .ref bh, .ref bq, .ref br, .ref bd, .int (jI 0), .int (jI 0)])), (bt, .inl (cA, 31, .inl (jA (fun _ => 0)))), (bp, .inl (cA, 31, .inl (jA (fun _ => 0)))), (bl, .inl (cA, 248, .inl (jA (fun _ => 0)))), (bh, .inl (cA, 248, .inl (jA (fun _ => 0)))), (bq, .inl (cA, 124, .inl (jA (fun _ => 0)))), (br, .inl (cA, 31, .inl (jA (fun _ => 0)))), (bd, .inl (cA, 32, .inl (jA (fun _ => 0)))), (q9, .inr (0, [.ref bt10, .ref bp11, .ref bl12, .ref bh13, .ref bq14, .ref br15, .ref bd16, .int (jI 0), .int (jI 0)])), (bt10, .inl (cA, 31, .inl (jA (fun _ => 0)))), (bp11, .inl (cA, 31, .inl (jA (fun _ => 0)))), (bl12, .inl (cA, 248, .inl (jA (fun _ => 0)))), (bh13, .inl (cA, 248, .inl (jA (fun _ => 0)))), (bq14, .inl (cA, 124, .inl (jA (fun _ => 0)))), (br15, .inl (cA, 31, .inl (jA (fun _ => 0)))), (bd16, .inl (cA, 32, .inl (jA (fun _ => 0))))] := hD
  refine W.widen (k := 23) (n := 2091) (Nat.le_of_ble_eq_true rfl) (Nat.le_of_ble_eq_true rfl) ?_
  have hP9 := hP.sub (ws' := [(ga, .inr (4, [.ref q, .ref q1, .ref q3, .ref q5, .ref q6, .ref q7, .ref q9])), (q, .inr (3, [.ref u, .int (jI 0), .int (jI 0), .int (jI 0)])), (u, .inl (cA, 400, .inl (jA (fun _ => 0)))), (q1, .inr (2, [.ref q])), (q3, .inr (1, [.ref u4, .int (jI 0)])), (u4, .inl (cA, 160, .inl (jA (fun _ => 0)))), (q5, .inl (cA, 8, .inl (jA (fun _ => 0)))), (q6, .inl (cA, 8, .inl (jA (fun _ => 0)))), (q7, .inr (0, [.ref bt, .ref bp, .ref bl, .ref bh, .ref bq, .ref br, .ref bd, .int (jI 0), .int (jI 0)])), (bt, .inl (cA, 31, .inl (jA (fun _ => 0)))), (bp, .inl (cA, 31, .inl (jA (fun _ => 0)))), (bl, .inl (cA, 248, .inl (jA (fun _ => 0)))), (bh, .inl (cA, 248, .inl (jA (fun _ => 0)))), (bq, .inl (cA, 124, .inl (jA (fun _ => 0)))), (br, .inl (cA, 31, .inl (jA (fun _ => 0)))), (bd, .inl (cA, 32, .inl (jA (fun _ => 0)))), (q9, .inr (0, [.ref bt10, .ref bp11, .ref bl12, .ref bh13, .ref bq14, .ref br15, .ref bd16, .int (jI 0), .int (jI 0)])), (bt10, .inl (cA, 31, .inl (jA (fun _ => 0)))), (bp11, .inl (cA, 31, .inl (jA (fun _ => 0)))), (bl12, .inl (cA, 248, .inl (jA (fun _ => 0)))), (bh13, .inl (cA, 248, .inl (jA (fun _ => 0)))), (bq14, .inl (cA, 124, .inl (jA (fun _ => 0)))), (br15, .inl (cA, 31, .inl (jA (fun _ => 0)))), (bd16, .inl (cA, 32, .inl (jA (fun _ => 0))))]) [0, 1, 2, 3, 4, 5, 6, 7, 8, 9, 10, 11, 12, 13, 14, 15, 16, 17, 18, 19, 20, 21, 22, 23] rfl
  have hD9 := hD.sub (ws' := [(ga, .inr (4, [.ref q, .ref q1, .ref q3, .ref q5, .ref q6, .ref q7, .ref q9])), (q, .inr (3, [.ref u, .int (jI 0), .int (jI 0), .int (jI 0)])), (u, .inl (cA, 400, .inl (jA (fun _ => 0)))), (q1, .inr (2, [.ref q])), (q3, .inr (1, [.ref u4, .int (jI 0)])), (u4, .inl (cA, 160, .inl (jA (fun _ => 0)))), (q5, .inl (cA, 8, .inl (jA (fun _ => 0)))), (q6, .inl (cA, 8, .inl (jA (fun _ => 0)))), (q7, .inr (0, [.ref bt, .ref bp, .ref bl, .ref bh, .ref bq, .ref br, .ref bd, .int (jI 0), .int (jI 0)])), (bt, .inl (cA, 31, .inl (jA (fun _ => 0)))), (bp, .inl (cA, 31, .inl (jA (fun _ => 0)))), (bl, .inl (cA, 248, .inl (jA (fun _ => 0)))), (bh, .inl (cA, 248, .inl (jA (fun _ => 0)))), (bq, .inl (cA, 124, .inl (jA (fun _ => 0)))), (br, .inl (cA, 31, .inl (jA (fun _ => 0)))), (bd, .inl (cA, 32, .inl (jA (fun _ => 0)))), (q9, .inr (0, [.ref bt10, .ref bp11, .ref bl12, .ref bh13, .ref bq14, .ref br15, .ref bd16, .int (jI 0), .int (jI 0)])), (bt10, .inl (cA, 31, .inl (jA (fun _ => 0)))), (bp11, .inl (cA, 31, .inl (jA (fun _ => 0)))), (bl12, .inl (cA, 248, .inl (jA (fun _ => 0)))), (bh13, .inl (cA, 248, .inl (jA (fun _ => 0)))), (bq14, .inl (cA, 124, .inl (jA (fun _ => 0)))), (br15, .inl (cA, 31, .inl (jA (fun _ => 0)))), (bd16, .inl (cA, 32, .inl (jA (fun _ => 0))))]) [0, 1, 2, 3, 4, 5, 6, 7, 8, 9, 10, 11, 12, 13, 14, 15, 16, 17, 18, 19, 20, 21, 22, 23] (by decide) rfl
  subst hAe
  subst hQ
  exact W.vret hx hb hr (fun t ht hW => ⟨⟨(q, u, q1, q3, u4, q5, q6, q7, bt, bp, bl, bh, bq, br, bd, q9, bt10, bp11, bl12, bh13, bq14, br15, bd16), rfl, trivial, ⟨by rw [ht]; exact hP9, va_K.moved hW.alike hK, hD9⟩⟩, hS.F ht⟩) hS.2.2 dXG_init_79

end
section
/-! methods that return or throw -/
def yEnd (first t : State) (L : List Loc) (k n : Nat) : Prop := first.WarmedH t.vm ∧ first.sameButNew ({ t with vm := first.vm } : State) L k n
/-- what is made: so much where it returns, so much where it throws -/
def yN (o : Outcome) (a b : Nat) : Nat := match o with
  | .returned _ => a
  | .threw _ => b
/-- what a method's end is: an outcome of either kind -/
def YQ (below : List Frame) (Qc : Array Value → State → Outcome → State → Prop) (a : Array Value) (s : State) (mc ms kc ks : Nat) (free : Addr → Prop) : State → Prop := fun t =>
  ∃ o, t.status = .running ∧ Ended t below o ∧ Qc a s o t ∧ ∃ L, yEnd s t L (yN o mc kc) (yN o ms ks) ∧ ∀ q ∈ L, free q.base
/-- a contract of a method that returns or throws -/
def YMet (l : Launch) (y : MethodName) (ws : List Cond) (rm : Room) (Pc : Array Value → State → Prop) (Qc : Array Value → State → Outcome → State → Prop) (mc ms kc ks : Nat) (free : Addr → Prop) : Prop :=
  MetFree l y (headSpec ws rm) Pc (fun _ _ _ _ _ => True) (fun a st o t => Qc a st o t ∧ ∃ L, yEnd st t L (yN o mc kc) (yN o ms ks) ∧ ∀ q ∈ L, free q.base)
theorem yQ_of {below : List Frame} {Qc : Array Value → State → Outcome → State → Prop} {a : Array Value} {s : State} {mc ms kc ks : Nat} {free : Addr → Prop} {t : State} (h : MQ below Qc a s mc ms free t) : YQ below Qc a s mc ms kc ks free t := by
  obtain ⟨o, h1, h2, h3, L, ⟨⟨v, rfl⟩, h4⟩, h5⟩ := h
  exact ⟨_, h1, h2, h3, L, h4, h5⟩
theorem YMet.ofW {l : Launch} {y : MethodName} {ws ws' : List Cond} {rm : Room} {Pc : Array Value → State → Prop} {Qc : Array Value → State → Outcome → State → Prop} {mc ms kc ks : Nat} {free : Addr → Prop} {cc : ByteArray} {maxL : Nat} {ret : Option FieldType}
    (hy : plainName y.cls = true) (hw : ws = Cond.code y cc maxL ret :: ws')
    (body : ∀ p e s m args below meth c s₁ R Q, R = (headSpec ws rm).room → Q = YQ below Qc args s mc ms kc ks free → BodyLoose p l y (headSpec ws rm) cc maxL ret e s m args below meth c s₁ → c.maxLocals = maxL → c.exceptionTable.isEmpty = true → Pc args s →
      W p l e R s m args below meth c s.heap [] 0 0 Q (entryFrame m args maxL)) : YMet l y ws rm Pc Qc mc ms kc ks free := by
  refine MetFree.of_bodyS (code := cc) (maxLocals := maxL) (ret := ret) hy ?_ ?_
  · intro args s m h hn
    obtain ⟨meth, c, h1, h2, h3, h4, h5, h6, -, -⟩ := Cond.code_spec hn (atoms_spec (ws := ws) h _ (by rw [hw]; exact List.mem_cons_self))
    exact ⟨meth, c, h1, h2, h3, h4, h5, h6⟩
  · intro p e s m args below meth c s₁ B hml hP _
    have hh0 : s₁.heap = s.heap := by rw [B.state]; rfl
    have X := Stand.of_body B
    obtain ⟨meth', c', h1, h2, -, -, -, -, h7, -⟩ := Cond.code_spec B.named (atoms_spec (ws := ws) B.pre _ (by rw [hw]; exact List.mem_cons_self))
    have e1 : meth' = meth := Option.some.inj (h1.symm.trans B.method)
    subst e1
    have e2 : c' = c := Option.some.inj (h2.symm.trans X.code)
    subst e2
    obtain ⟨t, a1, o, b1, b2, b3⟩ := body p e s m args below meth' c' s₁ _ _ rfl rfl B hml h7 hP s₁ hh0 X
    exact ⟨t, o, a1, b1, b2, b3⟩
section YR
variable {p : Program} {l : Launch} {e : Env} {R : Room} {s : State} {m : MethodId} {args : Array Value} {below : List Frame} {meth : Method} {c : Code} {H : Heap} {locs : List Loc} {cells slots : Nat} {Q Q' : State → Prop} {g : JFrame}
theorem yW (h : ∀ t, Q t → Q' t) (k : W p l e R s m args below meth c H locs cells slots Q g) : W p l e R s m args below meth c H locs cells slots Q' g := fun T hT X => by
  obtain ⟨t, a, b⟩ := k T hT X
  exact ⟨t, a, h t b⟩
theorem yTab {c : Code} (h : c.exceptionTable.isEmpty = true) (pc : Nat) : ∀ x ∈ c.exceptionTable.toList, covers x pc = false := by
  intro x hx
  have : c.exceptionTable = #[] := Array.isEmpty_iff.mp h
  rw [this] at hx
  cases hx
variable {cc : ByteArray} {pc : Nat} {ls : Array Slot} {rest : List Value} {Qc : Array Value → State → Outcome → State → Prop} {free : Addr → Prop}
end YR
section YC
variable {p : Program} {l : Launch} {e : Env} {R : Room} {s : State} {m : MethodId} {args : Array Value} {below : List Frame} {meth : Method} {c : Code} {H : Heap} {locs : List Loc} {cells slots : Nat}
variable {y : MethodName} {bytes cc : ByteArray} {maxL nL mc ms kc ks n index len : Nat} {ret : Option FieldType} {ws : List Cond} {rm : Room} {Pc : Array Value → State → Prop} {Qc : Array Value → State → Outcome → State → Prop} {free : Addr → Prop} {Ts : List Cond} {own C : String} {b : Addr} {As rest : List Value} {g : JFrame}
/-- where a call has come to: behind the call, or with a throw over the caller's frame -/
def yTo (T : State) (g : JFrame) (len : Nat) : Outcome → State
  | .returned v => T.setTop { g with pc := g.pc + len, stack := v.toList ++ g.stack }
  | .threw x => (T.setTop g).pushFrame (.throwing x)
theorem yInto {U : State} (hM : YMet l y ws rm Pc Qc mc ms kc ks free) (hrc : rm.cells = kc) (hrs : rm.slots = ks) (hfr : rm.frames + 1 ≤ R.frames) (hlo : 8 + (maxL + 11) + rm.locals ≤ R.locals)
    (hws : ∀ w ∈ ws, ∀ a' U, s.WarmedH U.vm → w.before a' U = true) (hcode : Cond.code y bytes maxL ret ∈ ws) (hini : ∀ a' U, s.WarmedH U.vm → (Cond.initialized y.cls).before a' U = true) (hbl : FrameBlind Pc)
    (X : Stand p l e R s m args below meth c U locs cells slots) (hg : g.method = m) (hsize : g.locals.size = c.maxLocals) {ig : Instr} (hdg : decode c.code g.pc = .ok (ig, len)) (hW : 2 * g.monitorRoom + (g.stack.map fun v => v.category).sum ≤ 8) {mk : MethodId} (hn : U.methodNamed? y = some mk) {a : Array Value} (hP : Pc a U) (hf : cells + kc ≤ R.cells ∧ slots + ks ≤ R.slots) :
    ∃ (o : Outcome) (t T' : State) (L : List Loc), Stand p l e R s m args below meth c T' (locs ++ L) (cells + yN o mc kc) (slots + yN o ms ks) ∧ (∀ q ∈ L, free q.base) ∧ T'.heap = t.heap ∧ T'.vm = t.vm ∧ Qc a (U.calling g mk a) o t ∧ Steps p.tables e below (doInvoke e (U.setTop g) [] mk a).1 (yTo T' g len o) := by
  obtain ⟨methY, cY, hmY, hcY, -, hlY, -, -, -, -⟩ := Cond.code_spec hn (hws _ hcode a U X.warmed)
  obtain ⟨kY, hkY, -⟩ := className_of_methodNamed hn
  have hinitY : kY.init = .initialized := Cond.initialized_spec (findClass_of_methodNamed hn) hkY (hini a U X.warmed)
  have h : At U g.method c below := by rw [hg]; exact X.here
  have happ : (headSpec ws rm).appliesLoose y e.platform (U.calling g mk a) = true :=
    Spec.appliesLoose_calling (g := g) h hdg hn hkY hinitY (X.room_calling (g := g) (R' := (headSpec ws rm).room) hsize hmY hcY hfr (by rw [hlY]; show _ + _ + rm.locals ≤ _; omega) (by rw [show (headSpec ws rm).room.cells = kc from hrc]; exact hf.1) (by rw [show (headSpec ws rm).room.slots = ks from hrs]; exact hf.2)) (atoms_intro fun w hw => hws w hw _ _ X.warmed)
  obtain ⟨mid, hmid⟩ := h.above
  have hfr2 : (U.setTop g).frames = (.java g :: mid) ++ below := by rw [State.frames_setTop' g h.top, hmid]; rfl
  obtain ⟨o, s₂, hsteps, -, hend, hq, L, ⟨hW2, hsame⟩, hL⟩ := Steps.callFree hM p X.admits X.cas X.clock (acts := []) hfr2 happ (hbl _ _ _ _ hP) trivial
  rw [State.frames_setTop' g h.top, X.tail] at hend
  cases o with
  | returned v =>
    obtain ⟨T', X', -, hs2, e2⟩ := X.outOf hg hdg (mk := mk) (a := a) hend hW2 hsame
    refine ⟨.returned v, s₂, T', L, X', hL, ?_, ?_, hq, ?_⟩
    · rw [e2]; rfl
    · rw [e2]; rfl
    · show Steps p.tables e below _ (T'.setTop { g with pc := g.pc + len, stack := v.toList ++ g.stack })
      rw [← e2]; exact hsteps
  | threw x =>
    obtain ⟨T', X', -, hs2, e2⟩ := X.outOfThrown hg (mk := mk) (a := a) hend hW2 hsame
    refine ⟨.threw x, s₂, T', L, X', hL, ?_, ?_, hq, ?_⟩
    · rw [e2]; rfl
    · rw [e2]; rfl
    · show Steps p.tables e below _ ((T'.setTop g).pushFrame (.throwing x))
      rw [← e2]; exact hsteps
end YC
theorem yKept {s t : State} {k n : Nat} (h : s.sameButNew ({ t with vm := s.vm } : State) [] k n) : s.heap.size ≤ t.heap.size ∧ ∀ q : Nat, q < s.heap.size → t.heap[q]? = s.heap[q]? := by
  obtain ⟨-, h2, -, -, -, h6⟩ := h
  refine ⟨h2, fun q hq => ?_⟩
  have hc : s.heap[q]? = some s.heap[q] := Array.getElem?_eq_getElem hq
  obtain ⟨c', e1, e2, e3, e4⟩ := h6 q _ hc
  have e5 : c'.slots = (s.heap[q]).slots := Array.ext_getElem? (fun i => e4 i (List.not_mem_nil))
  have e6 : c' = s.heap[q] := by rw [e2, e5]
  rw [hc, ← e6]; exact e1
section YT
variable {p : Program} {l : Launch} {e : Env} {R : Room} {s : State} {m : MethodId} {args : Array Value} {below : List Frame} {meth : Method} {c : Code} {H : Heap} {cells slots : Nat} {cc : ByteArray} {pc : Nat} {ls : Array Slot} {rest : List Value} {Qc : Array Value → State → Outcome → State → Prop} {free : Addr → Prop}
/-- the constructor of an exception, and its throw -/
theorem y_ctorThrow (hx : p.tables.exec = Jvm.exec) (hb : c.code = cc) (htab : c.exceptionTable.isEmpty = true) (hlocks : meth.locks = false) (htr : l.stackTraces = false) {own cls : String} {names : List String} {ic : Nat} (hown : s.vm.findClass own = some m.cls) (hcls : Bundle.fit cls = true) (hnames : ∀ n ∈ names, Bundle.fit n = true) (h : ∀ a ∈ Bundle.ownAtoms own ic cls names, a.before args s = true)
    {a : Addr} {cX : ClassId} {kX : Class} (hfX : s.vm.findClass cls = some cX) (hkX : s.vm.classes[cX]? = some kX) (hcell : H[a]? = some (blank cX kX)) (hnew : s.heap.size ≤ a) {msg : Value} (hmsg : msg.isRef = true) (hls : ls.size = c.maxLocals) (hd6 : decode cc pc = .ok (.invokespecial ic, 3)) (hd9 : decode cc (pc + 3) = .ok (.athrow, 1))
    (hRf : names.length + 3 < R.frames) (hRl : ((Value.ref a :: rest).map fun v => v.category).sum + (13 * (names.length + 1) + 42) ≤ R.locals)
    (hq : ∀ (t : State) (ce : Cell), t.heap[a]? = some ce → s.vm.findClass cls = some ce.cls → ce.vm = .none → s.heap.size ≤ t.heap.size → (∀ q : Nat, q < s.heap.size → t.heap[q]? = s.heap[q]?) → s.WarmedH t.vm → Qc args s (.threw a) t) {mc ms kc ks : Nat} (hkc : cells ≤ kc) (hks : slots ≤ ks) :
    W p l e R s m args below meth c H [] cells slots (YQ below Qc args s mc ms kc ks free) (F0 m pc ls (msg :: .ref a :: .ref a :: rest)) := by
  intro T hT X
  have htr' : e.platform.stackTraces = false := by rw [X.admits.platform]; exact htr
  obtain ⟨U, st, hrun, hend, hW, hsame, ce, hce, K⟩ := X.ctorThrowS hx htr' hown hcls hnames h (fun x hx => by cases hx) hfX hkX (by rw [hT]; exact hcell) hnew hmsg (g := F0 m pc ls (msg :: .ref a :: .ref a :: rest)) rfl hls rfl rfl rfl (by rw [hb]; exact hd6) (by rw [hb]; exact hd9) (yTab htab _) hRf (by
    have h0 : (F0 m pc ls (msg :: .ref a :: .ref a :: rest)).monitorRoom = 0 := rfl
    rw [h0]; omega) hlocks
  obtain ⟨k1, k2⟩ := yKept hsame
  exact ⟨U, st, .threw a, hrun, hend, hq U ce hce K.cls K.vm k1 k2 hW, [], ⟨hW, hsame.mono hkc hks⟩, fun q h => by cases h⟩
/-- throw new E("..") -/
theorem y_throwNew (hx : p.tables.exec = Jvm.exec) (hb : c.code = cc) (htab : c.exceptionTable.isEmpty = true) (hlocks : meth.locks = false) (htr : l.stackTraces = false) {own cls tx : String} {names : List String} {ia ib ic sa : Nat} (hown : s.vm.findClass own = some m.cls) (hcls : Bundle.fit cls = true) (hnames : ∀ n ∈ names, Bundle.fit n = true) (h : ∀ a ∈ Bundle.ownAtoms own ic cls names, a.before args s = true)
    (hcl : (Cond.classLink own ia cls).before args s = true) (hin : (Cond.instantiable cls 6).before args s = true) (hini : (Cond.initialized cls).before args s = true) (hZ : vk_R own ib tx sa s) {cX : ClassId} (hfX : s.vm.findClass cls = some cX) (hH : s.heap.size ≤ H.size) (hls : ls.size = c.maxLocals)
    (hd0 : decode cc pc = .ok (.new ia, 3)) (hd3 : decode cc (pc + 3) = .ok (.dup, 1)) (hd4 : decode cc (pc + 4) = .ok (.ldc ib, 2)) (hd6 : decode cc (pc + 6) = .ok (.invokespecial ic, 3)) (hd9 : decode cc (pc + 9) = .ok (.athrow, 1))
    (hcells : cells + 1 ≤ R.cells) (hslots : slots + 6 ≤ R.slots) (hRf : names.length + 3 < R.frames) (hRl : (rest.map fun v => v.category).sum + (13 * (names.length + 1) + 43) ≤ R.locals)
    (hq : ∀ (t : State) (x : Addr) (ce : Cell), t.heap[x]? = some ce → s.vm.findClass cls = some ce.cls → ce.vm = .none → s.heap.size ≤ x → s.heap.size ≤ t.heap.size → (∀ q : Nat, q < s.heap.size → t.heap[q]? = s.heap[q]?) → s.WarmedH t.vm → Qc args s (.threw x) t) {mc ms kc ks : Nat} (hkc : cells + 1 ≤ kc) (hks : slots + 6 ≤ ks) :
    W p l e R s m args below meth c H [] cells slots (YQ below Qc args s mc ms kc ks free) (F0 m pc ls rest) := by
  refine W.newcK hx hb hown hcl hin hini rfl hd0 hcells hslots hfX rfl (fun H1 kC hkC e1 z1 o1 => ?_)
  refine lv_dup hx hb hd3 rfl ?_
  refine va_ldcS hx hb hown hZ hd4 ?_
  exact y_ctorThrow hx hb htab hlocks htr hown hcls hnames h hfX hkC e1 hH rfl hls hd6 hd9 hRf (by simp only [List.map_cons, List.sum_cons]; show 1 + _ + _ ≤ _; omega) (fun t ce h1 h2 h3 h4 h5 h6 => hq t _ ce h1 h2 h3 hH h4 h5 h6) hkc hks
end YT
section YV
variable {p : Program} {l : Launch} {e : Env} {R : Room} {s : State} {m : MethodId} {args : Array Value} {below : List Frame} {meth : Method} {c : Code} {H : Heap} {locs : List Loc} {cells slots : Nat} {Q : State → Prop}
variable {y : MethodName} {bytes cc : ByteArray} {maxL nL mc ms kc ks n index pc : Nat} {ret : Option FieldType} {ws : List Cond} {rm : Room} {Pc : Array Value → State → Prop} {Qc : Array Value → State → Outcome → State → Prop} {free : Addr → Prop} {Ts : List Cond} {own C : String} {b : Addr} {As rest : List Value} {g : JFrame} {ls : Array Slot} {st0 : List Value}
/-- a call that returns or throws -/
def yRun (p : Program) (l : Launch) (e : Env) (R : Room) (s : State) (m : MethodId) (args : Array Value) (below : List Frame) (meth : Method) (c : Code) (H : Heap) (locs : List Loc) (cells slots mc ms kc ks : Nat) (g : JFrame) (rest : List Value) (Qa : State → Outcome → State → Prop) (free : Addr → Prop) : Prop :=
  ∀ T : State, T.heap = H → Stand p l e R s m args below meth c T locs cells slots → ∃ (o : Outcome) (st₀ t T' : State) (L : List Loc), (st₀.heap = H ∧ s.WarmedH st₀.vm) ∧ Stand p l e R s m args below meth c T' (locs ++ L) (cells + yN o mc kc) (slots + yN o ms ks) ∧ (∀ q ∈ L, free q.base) ∧ T'.heap = t.heap ∧ T'.vm = t.vm ∧ Qa st₀ o t ∧
    ∀ target, Steps p.tables e below (yTo T' { g with stack := rest } 3 o) target → Steps p.tables e below (T.setTop g) target
theorem yRunV (S : CallFix p m c cc nL s args Ts own) (hM : YMet l y ws rm Pc Qc mc ms kc ks free) (cw : CallW R s args own C index y bytes maxL ret ws rm kc ks n) (hp : PreV s H C b Pc As)
    (hg : g.method = m) (hn : As.length = n) (hsize : g.locals.size = nL) (hstack : g.stack = As.reverse ++ .ref b :: rest) (hW : 2 * g.monitorRoom + (rest.map fun v => v.category).sum ≤ 8) (hdg : decode cc g.pc = .ok (.invokevirtual index, 3)) (hf : cells + kc ≤ R.cells ∧ slots + ks ≤ R.slots) :
    yRun p l e R s m args below meth c H locs cells slots mc ms kc ks g rest (Qc (Value.ref b :: As).toArray) free := by
  obtain ⟨⟨hrc, hrs, hfr, hlo, hws, hcw, hcode, hini, hy, hlen, hl⟩, hin, hse⟩ := cw
  obtain ⟨hx, hb, hml, ho, -⟩ := S
  obtain ⟨hbl, ⟨cellB, hcB, hoB, hclB⟩, hPc⟩ := hp
  intro T hT X
  obtain ⟨mk, methM, hnamed, hmethM, hstM, habM⟩ := Cond.instanceMethod_spec hin
  obtain ⟨methM', cM, hmethM', -, -, -, -, -, -, hsigM⟩ := Cond.code_spec hnamed hcode
  cases hmethM.symm.trans hmethM'
  obtain ⟨c2, r2, m2, q1, q2, q3, q4, kP, hkP, hkPi⟩ := Cond.selects_spec hse
  cases hclB.symm.trans q1
  cases (State.methodFound?_of_named hnamed hy).symm.trans q2
  cases hnamed.symm.trans q3
  have hselP : selectMethod e.platform s.vm cellB.cls mk = .method mk := by rw [Launch.admits_selectMethod X.admits]; exact q4
  obtain ⟨vm₁, X₁, hstep₁⟩ := X.invokevirtual hx ho hl hnamed hmethM hstM hkP hkPi hy (a := b) (cell := cellB) (by rw [hT]; exact hcB)
    (fun z h => by rw [h] at hoB; cases hoB) hselP hmethM habM hkP hkPi (g := g) hg (argsL := As) (rest := rest) (hn.trans (hlen _ hsigM)) hstack (by rw [hb]; exact hdg)
  obtain ⟨o, t, T', L, X', hL, e1, e2, hq, st⟩ := yInto (g := { g with stack := rest }) (len := 3) hM hrc hrs hfr hlo hws hcw (fun a' U hW => word_at hW (Or.inl (by first | rfl | simp [Cond.onTables, Cond.keeps, Cond.steady])) hini) hbl X₁ hg (hsize.trans hml.symm) (by rw [hb]; exact hdg) hW (X₁.named hnamed) (a := (Value.ref b :: As).toArray) (hPc (T.setVm vm₁) hT X₁.warmed) hf
  exact ⟨o, (T.setVm vm₁).calling { g with stack := rest } mk (Value.ref b :: As).toArray, t, T', L, ⟨hT, X₁.warmed⟩, X', hL, e1, e2, hq, fun target h => hstep₁ _ fun acts => by rw [doInvoke_state]; exact st.trans h⟩
theorem yRunS (S : CallFix p m c cc nL s args Ts own) (hM : YMet l y ws rm Pc Qc mc ms kc ks free) (cw : CallB R s args own index y bytes maxL ret ws rm kc ks n ∧ (Cond.static y).before args s = true) (hp : PreS s H Pc As)
    (hg : g.method = m) (hn : As.length = n) (hsize : g.locals.size = nL) (hstack : g.stack = As.reverse ++ rest) (hW : 2 * g.monitorRoom + (rest.map fun v => v.category).sum ≤ 8) (hdg : decode cc g.pc = .ok (.invokestatic index, 3)) (hf : cells + kc ≤ R.cells ∧ slots + ks ≤ R.slots) :
    yRun p l e R s m args below meth c H locs cells slots mc ms kc ks g rest (Qc As.toArray) free := by
  obtain ⟨⟨hrc, hrs, hfr, hlo, hws, hcw, hcode, hini, hy, hlen, hl⟩, hstt⟩ := cw
  obtain ⟨hx, hb, hml, ho, -⟩ := S
  intro T hT X
  obtain ⟨mk, hnamed⟩ := Cond.code_named hcode
  obtain ⟨methM, cM, hmethM, -, -, -, -, -, -, hsigM⟩ := Cond.code_spec hnamed hcode
  have hstatic : methM.isStatic = true := Cond.static_spec hnamed hmethM hstt
  obtain ⟨kP, hkP, -⟩ := className_of_methodNamed hnamed
  have hinitP : kP.init = .initialized := Cond.initialized_spec (findClass_of_methodNamed hnamed) hkP hini
  obtain ⟨vm₁, X₁, hstep₁⟩ := X.invokestatic hx ho hl hnamed hmethM hstatic hkP hinitP hy (g := g) hg (argsL := As) (rest := rest) (hn.trans (hlen _ hsigM)) hstack (by rw [hb]; exact hdg)
  obtain ⟨o, t, T', L, X', hL, e1, e2, hq, st⟩ := yInto (g := { g with stack := rest }) (len := 3) hM hrc hrs hfr hlo hws hcw (fun a' U hW => word_at hW (Or.inl (by first | rfl | simp [Cond.onTables, Cond.keeps, Cond.steady])) hini) hp.1 X₁ hg (hsize.trans hml.symm) (by rw [hb]; exact hdg) hW (X₁.named hnamed) (a := As.toArray) (hp.2 (T.setVm vm₁) hT X₁.warmed) hf
  exact ⟨o, (T.setVm vm₁).calling { g with stack := rest } mk As.toArray, t, T', L, ⟨hT, X₁.warmed⟩, X', hL, e1, e2, hq, fun target h => hstep₁ _ fun acts => by rw [doInvoke_state]; exact st.trans h⟩
/-- .. and what its caller makes of it: it goes on, or is left by the throw -/
theorem y_call {Qa : State → Outcome → State → Prop} {Qd : Array Value → State → Outcome → State → Prop} {free9 : Addr → Prop} {m9 s9 k9 n9 : Nat} (hr : yRun p l e R s m args below meth c H locs cells slots mc ms kc ks (F0 m pc ls st0) rest Qa free) (htab : c.exceptionTable.isEmpty = true) (hlocks : meth.locks = false)
    (kr : ∀ (v : Option Value) (st₀ t : State) (L : List Loc), st₀.heap = H → s.WarmedH st₀.vm → (∀ q ∈ L, free q.base) → s.WarmedH t.vm → Qa st₀ (.returned v) t → W p l e R s m args below meth c t.heap (locs ++ L) (cells + mc) (slots + ms) (YQ below Qd args s m9 s9 k9 n9 free9) (F0 m (pc + 3) ls (v.toList ++ rest)))
    (kt : ∀ (x : Addr) (st₀ t t2 : State) (L : List Loc), st₀.heap = H → s.WarmedH st₀.vm → (∀ q ∈ L, free q.base) → Qa st₀ (.threw x) t → t2.heap = t.heap → s.WarmedH t2.vm → Qd args s (.threw x) t2 ∧ (∀ q ∈ locs ++ L, free9 q.base) ∧ cells + kc ≤ k9 ∧ slots + ks ≤ n9) :
    W p l e R s m args below meth c H locs cells slots (YQ below Qd args s m9 s9 k9 n9 free9) (F0 m pc ls st0) := by
  intro T hT X
  obtain ⟨o, st₀, t, T', L, ⟨h0, hW0⟩, X', hL, e1, e2, hq, st⟩ := hr T hT X
  cases o with
  | returned v =>
    obtain ⟨u, a1, a2⟩ := kr v st₀ t L h0 hW0 hL (by rw [← e2]; exact X'.warmed) hq T' e1 X'
    exact ⟨u, st _ a1, a2⟩
  | threw x =>
    obtain ⟨hsteps, hrun, hend, hW, hsame⟩ := X'.leaveThrown x (g := F0 m pc ls rest) rfl rfl rfl (yTab htab _) hlocks
    obtain ⟨k1, k2, k3, k4⟩ := kt x st₀ t (T'.setFrames (.throwing x :: below)) L h0 hW0 hL hq e1 hW
    exact ⟨_, st _ hsteps, .threw x, hrun, hend, k1, locs ++ L, ⟨hW, hsame.mono k3 k4⟩, k2⟩
end YV
end
section
/-! statics that hold a reference, and stay so -/
def zSt (O f d : String) (A : Nat → Prop) (U : State) (H : Heap) : Prop := ∃ (c : ClassId) (k : Class) (i : Nat) (fd : Field) (a : Nat) (cell : Cell) (v : Value), U.vm.findClass O = some c ∧ U.fieldFound? O f d = some (c, k, i, fd) ∧ fd.isStatic = true ∧ k.statics = some a ∧ H[a]? = some cell ∧ cell.vm.isStatics = true ∧ cell.cls = c ∧ fd.slot < cell.slots.size ∧ k.staticTypes[fd.slot]? = some fd.type ∧ cell.slots[fd.slot]? = some v ∧ (v = .null ∨ ∃ x, v = .ref x) ∧ ¬ A a
theorem zSt.lays {O f d : String} {A : Nat → Prop} {s : State} (h : zSt O f d A s s.heap) (args : Array Value) : (Cond.laysStatic O f d).before args s = true := by
  obtain ⟨c, k, i, fd, a, cell, v, hc, hf, hst, hsta, hcell, hiss, hcls, hlt, hty, -⟩ := h
  simp [Cond.before, Cond.holds, Cond.value, hc, hf, hst, hsta, hcell, hiss, hcls, hlt, hty]
theorem zSt.ref {O f d : String} {A : Nat → Prop} {s : State} (h : zSt O f d A s s.heap) (args : Array Value) : (Cond.isRef (.static O f d)).before args s = true := by
  obtain ⟨c, k, i, fd, a, cell, v, hc, hf, hst, hsta, hcell, hiss, hcls, hlt, hty, hv, hr, -⟩ := h
  have he : (Term.static O f d).eval args s none [] s = some v := by
    simp [Term.eval, State.fieldNamed?, hf, hst, hsta, hcell, hiss, hv]
  simp only [Cond.before, Cond.holds, Cond.value, he]
  rcases hr with e | ⟨x, e⟩ <;> simp [e]
theorem zSt.of {O f d : String} {A : Nat → Prop} {s : State} {args : Array Value} (hl : (Cond.laysStatic O f d).before args s = true) (hr : (Cond.isRef (.static O f d)).before args s = true) (hA : ∀ a : Nat, a < s.heap.size → ¬ A a) : zSt O f d A s s.heap := by
  obtain ⟨c, k, i, fd, a, cell, hc, hf, hst, hsta, hcell, hiss, hcls, hlt, hty⟩ := Cond.laysStatic_spec hl
  have hv : cell.slots[fd.slot]? = some cell.slots[fd.slot] := Array.getElem?_eq_getElem hlt
  have he : (Term.static O f d).eval args s none [] s = some cell.slots[fd.slot] := by
    simp [Term.eval, State.fieldNamed?, hf, hst, hsta, hcell, hiss, hv]
  refine ⟨c, k, i, fd, a, cell, _, hc, hf, hst, hsta, hcell, hiss, hcls, hlt, hty, hv, ?_, hA a (Array.getElem?_eq_some_iff.mp hcell).1⟩
  simp only [Cond.before, Cond.holds, Cond.value, he] at hr
  cases hw : cell.slots[fd.slot] with
  | null => exact Or.inl rfl
  | ref t => exact Or.inr ⟨t, rfl⟩
  | _ => simp [hw] at hr
theorem zSt.moved {O f d : String} {A : Nat → Prop} {u U : State} {H : Heap} (hvm : u.vm.Alike U.vm) (h : zSt O f d A u H) : zSt O f d A U H := by
  obtain ⟨c, k, i, fd, a, cell, v, hc, hf, hst, hsta, hcell, hiss, hcls, hlt, hty, hv⟩ := h
  obtain ⟨k', hi', he⟩ := State.fieldFound?_setVm hvm hf
  exact ⟨c, k', i, fd, a, cell, v, by rw [hvm.findClass]; exact hc, hi', hst, by rw [he]; exact hsta, hcell, hiss, hcls, hlt, by rw [he]; exact hty, hv⟩
theorem zSt.kept {O f d : String} {A : Nat → Prop} {U : State} {H H1 : Heap} (h : zSt O f d A U H) (hq : ∀ a : Nat, a < H.size → ¬ A a → H1[a]? = H[a]?) : zSt O f d A U H1 := by
  obtain ⟨c, k, i, fd, a, cell, v, hc, hf, hst, hsta, hcell, hiss, hcls, hlt, hty, hv, hr, hA⟩ := h
  exact ⟨c, k, i, fd, a, cell, v, hc, hf, hst, hsta, by rw [hq a (Array.getElem?_eq_some_iff.mp hcell).1 hA]; exact hcell, hiss, hcls, hlt, hty, hv, hr, hA⟩
/-! all that a throw rests on beside the good words -/
def jX (A : Nat → Prop) (U : State) : Prop := zSt Bundle.tN "UNASSIGNED_STACK" Bundle.steD A U U.heap ∧ zSt Bundle.tN "SUPPRESSED_SENTINEL" Bundle.listD A U U.heap ∧ va_Nw (Cond.declares (Bundle.initS "java/lang/RuntimeException")) U ∧ va_Nw (Cond.declares (Bundle.initS "java/lang/Exception")) U ∧ va_Nw (Cond.declares (Bundle.initS "java/lang/Throwable")) U ∧ va_Nw (Cond.castable "java/lang/IndexOutOfBoundsException" "java/lang/IndexOutOfBoundsException") U ∧ va_Nw (Cond.castable "java/lang/IllegalStateException" "java/lang/IllegalStateException") U ∧ va_Nw (Cond.castable "java/lang/IllegalArgumentException" "java/lang/IllegalArgumentException") U ∧ va_Nw (Cond.castable "java/lang/UnsupportedOperationException" "java/lang/UnsupportedOperationException") U ∧ (∃ a, vk_R RXG 51 "1 to 8 bytes" a U) ∧ (∃ a, vk_R RXG 62 "a tape has at most 400 bytes" a U) ∧ (∃ a, vk_R RXG 165 "no such grade" a U) ∧ (∃ a, vk_R RXG 168 "no such element, kind, end or part" a U) ∧ (∃ a, vk_R RXG 177 "the kind has no formula" a U) ∧ (∃ a, vk_R RXG 121 "a share is 0 to 100,000" a U) ∧ (∃ a, vk_R RXG 170 "below 0" a U)
theorem jX.warm {A : Nat → Prop} {s U : State} (hW : s.WarmedH U.vm) (hh : U.heap = s.heap) (hX : jX A s) : jX A U := by
  obtain ⟨h0, h1, h2, h3, h4, h5, h6, h7, h8, h9, h10, h11, h12, h13, h14, h15⟩ := hX
  exact ⟨by rw [hh]; exact h0.moved hW.alike, by rw [hh]; exact h1.moved hW.alike, va_Nw.warmD hW h2, va_Nw.warmD hW h3, va_Nw.warmD hW h4, va_Nw.warmC hW h5, va_Nw.warmC hW h6, va_Nw.warmC hW h7, va_Nw.warmC hW h8, h9.imp (fun _ h => vk_R.warm hW h), h10.imp (fun _ h => vk_R.warm hW h), h11.imp (fun _ h => vk_R.warm hW h), h12.imp (fun _ h => vk_R.warm hW h), h13.imp (fun _ h => vk_R.warm hW h), h14.imp (fun _ h => vk_R.warm hW h), h15.imp (fun _ h => vk_R.warm hW h)⟩
theorem jX.same {A : Nat → Prop} {u U : State} (hv : u.vm = U.vm) (hh : U.heap = u.heap) (hX : jX A u) : jX A U := by
  obtain ⟨h0, h1, h2, h3, h4, h5, h6, h7, h8, h9, h10, h11, h12, h13, h14, h15⟩ := hX
  exact ⟨by rw [hh]; exact h0.moved (by rw [hv]; exact Vm.Alike.refl U.vm), by rw [hh]; exact h1.moved (by rw [hv]; exact Vm.Alike.refl U.vm), va_Nw.same rfl hv h2, va_Nw.same rfl hv h3, va_Nw.same rfl hv h4, va_Nw.same rfl hv h5, va_Nw.same rfl hv h6, va_Nw.same rfl hv h7, va_Nw.same rfl hv h8, h9.imp (fun _ h => vk_R.same hv.symm h), h10.imp (fun _ h => vk_R.same hv.symm h), h11.imp (fun _ h => vk_R.same hv.symm h), h12.imp (fun _ h => vk_R.same hv.symm h), h13.imp (fun _ h => vk_R.same hv.symm h), h14.imp (fun _ h => vk_R.same hv.symm h), h15.imp (fun _ h => vk_R.same hv.symm h)⟩
theorem jX.s51 {A : Nat → Prop} {U : State} (hX : jX A U) : ∃ a, vk_R RXG 51 "1 to 8 bytes" a U := hX.2.2.2.2.2.2.2.2.2.1
theorem jX.s62 {A : Nat → Prop} {U : State} (hX : jX A U) : ∃ a, vk_R RXG 62 "a tape has at most 400 bytes" a U := hX.2.2.2.2.2.2.2.2.2.2.1
theorem jX.s165 {A : Nat → Prop} {U : State} (hX : jX A U) : ∃ a, vk_R RXG 165 "no such grade" a U := hX.2.2.2.2.2.2.2.2.2.2.2.1
theorem jX.s168 {A : Nat → Prop} {U : State} (hX : jX A U) : ∃ a, vk_R RXG 168 "no such element, kind, end or part" a U := hX.2.2.2.2.2.2.2.2.2.2.2.2.1
theorem jX.s177 {A : Nat → Prop} {U : State} (hX : jX A U) : ∃ a, vk_R RXG 177 "the kind has no formula" a U := hX.2.2.2.2.2.2.2.2.2.2.2.2.2.1
theorem jX.s121 {A : Nat → Prop} {U : State} (hX : jX A U) : ∃ a, vk_R RXG 121 "a share is 0 to 100,000" a U := hX.2.2.2.2.2.2.2.2.2.2.2.2.2.2.1
theorem jX.s170 {A : Nat → Prop} {U : State} (hX : jX A U) : ∃ a, vk_R RXG 170 "below 0" a U := hX.2.2.2.2.2.2.2.2.2.2.2.2.2.2.2
theorem xA_XIO : (Bundle.ownAtoms RXG 167 "java/lang/IndexOutOfBoundsException" ["java/lang/RuntimeException", "java/lang/Exception"]).all (fun w => (decide (w ∈ tables_1) && goodWord w) || decide (w ∈ ([.laysStatic Bundle.tN "UNASSIGNED_STACK" Bundle.steD, .laysStatic Bundle.tN "SUPPRESSED_SENTINEL" Bundle.listD, .isRef (.static Bundle.tN "UNASSIGNED_STACK" Bundle.steD), .isRef (.static Bundle.tN "SUPPRESSED_SENTINEL" Bundle.listD), .declares (Bundle.initS "java/lang/RuntimeException"), .declares (Bundle.initS "java/lang/Exception"), .declares (Bundle.initS "java/lang/Throwable"), .castable "java/lang/IndexOutOfBoundsException" "java/lang/IndexOutOfBoundsException"] : List Cond))) = true := by decide +kernel
theorem jX.atoms_XIO {A : Nat → Prop} {s : State} {args : Array Value} {c0 : Cond} (hts : ∀ w ∈ c0 :: TBL, w.before args s = true) (hX : jX A s) : ∀ w ∈ Bundle.ownAtoms RXG 167 "java/lang/IndexOutOfBoundsException" ["java/lang/RuntimeException", "java/lang/Exception"], w.before args s = true := by
  intro w hw
  have h1 := List.all_eq_true.mp xA_XIO w hw
  simp only [Bool.or_eq_true, Bool.and_eq_true, decide_eq_true_eq] at h1
  rcases h1 with h1 | h1
  · exact hts w (jmem (tmem (List.mem_append_right _ h1.1) h1.2))
  · simp only [List.mem_cons, List.not_mem_nil, or_false] at h1
    rcases h1 with rfl | rfl | rfl | rfl | rfl | rfl | rfl | rfl
    · exact (hX.1).lays args
    · exact (hX.2.1).lays args
    · exact (hX.1).ref args
    · exact (hX.2.1).ref args
    · exact va_Nw.use rfl (hX.2.2.1)
    · exact va_Nw.use rfl (hX.2.2.2.1)
    · exact va_Nw.use rfl (hX.2.2.2.2.1)
    · exact va_Nw.use rfl (hX.2.2.2.2.2.1)
theorem xA_XIS : (Bundle.ownAtoms RXG 179 "java/lang/IllegalStateException" ["java/lang/RuntimeException", "java/lang/Exception"]).all (fun w => (decide (w ∈ tables_1) && goodWord w) || decide (w ∈ ([.laysStatic Bundle.tN "UNASSIGNED_STACK" Bundle.steD, .laysStatic Bundle.tN "SUPPRESSED_SENTINEL" Bundle.listD, .isRef (.static Bundle.tN "UNASSIGNED_STACK" Bundle.steD), .isRef (.static Bundle.tN "SUPPRESSED_SENTINEL" Bundle.listD), .declares (Bundle.initS "java/lang/RuntimeException"), .declares (Bundle.initS "java/lang/Exception"), .declares (Bundle.initS "java/lang/Throwable"), .castable "java/lang/IllegalStateException" "java/lang/IllegalStateException"] : List Cond))) = true := by decide +kernel
theorem jX.atoms_XIS {A : Nat → Prop} {s : State} {args : Array Value} {c0 : Cond} (hts : ∀ w ∈ c0 :: TBL, w.before args s = true) (hX : jX A s) : ∀ w ∈ Bundle.ownAtoms RXG 179 "java/lang/IllegalStateException" ["java/lang/RuntimeException", "java/lang/Exception"], w.before args s = true := by
  intro w hw
  have h1 := List.all_eq_true.mp xA_XIS w hw
  simp only [Bool.or_eq_true, Bool.and_eq_true, decide_eq_true_eq] at h1
  rcases h1 with h1 | h1
  · exact hts w (jmem (tmem (List.mem_append_right _ h1.1) h1.2))
  · simp only [List.mem_cons, List.not_mem_nil, or_false] at h1
    rcases h1 with rfl | rfl | rfl | rfl | rfl | rfl | rfl | rfl
    · exact (hX.1).lays args
    · exact (hX.2.1).lays args
    · exact (hX.1).ref args
    · exact (hX.2.1).ref args
    · exact va_Nw.use rfl (hX.2.2.1)
    · exact va_Nw.use rfl (hX.2.2.2.1)
    · exact va_Nw.use rfl (hX.2.2.2.2.1)
    · exact va_Nw.use rfl (hX.2.2.2.2.2.2.1)
theorem xA_XIA : (Bundle.ownAtoms RXG 53 "java/lang/IllegalArgumentException" ["java/lang/RuntimeException", "java/lang/Exception"]).all (fun w => (decide (w ∈ tables_1) && goodWord w) || decide (w ∈ ([.laysStatic Bundle.tN "UNASSIGNED_STACK" Bundle.steD, .laysStatic Bundle.tN "SUPPRESSED_SENTINEL" Bundle.listD, .isRef (.static Bundle.tN "UNASSIGNED_STACK" Bundle.steD), .isRef (.static Bundle.tN "SUPPRESSED_SENTINEL" Bundle.listD), .declares (Bundle.initS "java/lang/RuntimeException"), .declares (Bundle.initS "java/lang/Exception"), .declares (Bundle.initS "java/lang/Throwable"), .castable "java/lang/IllegalArgumentException" "java/lang/IllegalArgumentException"] : List Cond))) = true := by decide +kernel
theorem jX.atoms_XIA {A : Nat → Prop} {s : State} {args : Array Value} {c0 : Cond} (hts : ∀ w ∈ c0 :: TBL, w.before args s = true) (hX : jX A s) : ∀ w ∈ Bundle.ownAtoms RXG 53 "java/lang/IllegalArgumentException" ["java/lang/RuntimeException", "java/lang/Exception"], w.before args s = true := by
  intro w hw
  have h1 := List.all_eq_true.mp xA_XIA w hw
  simp only [Bool.or_eq_true, Bool.and_eq_true, decide_eq_true_eq] at h1
  rcases h1 with h1 | h1
  · exact hts w (jmem (tmem (List.mem_append_right _ h1.1) h1.2))
  · simp only [List.mem_cons, List.not_mem_nil, or_false] at h1
    rcases h1 with rfl | rfl | rfl | rfl | rfl | rfl | rfl | rfl
    · exact (hX.1).lays args
    · exact (hX.2.1).lays args
    · exact (hX.1).ref args
    · exact (hX.2.1).ref args
    · exact va_Nw.use rfl (hX.2.2.1)
    · exact va_Nw.use rfl (hX.2.2.2.1)
    · exact va_Nw.use rfl (hX.2.2.2.2.1)
    · exact va_Nw.use rfl (hX.2.2.2.2.2.2.2.1)
theorem xA_XUO : (Bundle.ownAtoms RXG 64 "java/lang/UnsupportedOperationException" ["java/lang/RuntimeException", "java/lang/Exception"]).all (fun w => (decide (w ∈ tables_1) && goodWord w) || decide (w ∈ ([.laysStatic Bundle.tN "UNASSIGNED_STACK" Bundle.steD, .laysStatic Bundle.tN "SUPPRESSED_SENTINEL" Bundle.listD, .isRef (.static Bundle.tN "UNASSIGNED_STACK" Bundle.steD), .isRef (.static Bundle.tN "SUPPRESSED_SENTINEL" Bundle.listD), .declares (Bundle.initS "java/lang/RuntimeException"), .declares (Bundle.initS "java/lang/Exception"), .declares (Bundle.initS "java/lang/Throwable"), .castable "java/lang/UnsupportedOperationException" "java/lang/UnsupportedOperationException"] : List Cond))) = true := by decide +kernel
theorem jX.atoms_XUO {A : Nat → Prop} {s : State} {args : Array Value} {c0 : Cond} (hts : ∀ w ∈ c0 :: TBL, w.before args s = true) (hX : jX A s) : ∀ w ∈ Bundle.ownAtoms RXG 64 "java/lang/UnsupportedOperationException" ["java/lang/RuntimeException", "java/lang/Exception"], w.before args s = true := by
  intro w hw
  have h1 := List.all_eq_true.mp xA_XUO w hw
  simp only [Bool.or_eq_true, Bool.and_eq_true, decide_eq_true_eq] at h1
  rcases h1 with h1 | h1
  · exact hts w (jmem (tmem (List.mem_append_right _ h1.1) h1.2))
  · simp only [List.mem_cons, List.not_mem_nil, or_false] at h1
    rcases h1 with rfl | rfl | rfl | rfl | rfl | rfl | rfl | rfl
    · exact (hX.1).lays args
    · exact (hX.2.1).lays args
    · exact (hX.1).ref args
    · exact (hX.2.1).ref args
    · exact va_Nw.use rfl (hX.2.2.1)
    · exact va_Nw.use rfl (hX.2.2.2.1)
    · exact va_Nw.use rfl (hX.2.2.2.2.1)
    · exact va_Nw.use rfl (hX.2.2.2.2.2.2.2.2.1)
theorem tc_XIO : Cond.classLink RXG 163 "java/lang/IndexOutOfBoundsException" ∈ TBL := tm 417 (by decide +kernel) rfl
theorem ti_XIO : Cond.instantiable "java/lang/IndexOutOfBoundsException" 6 ∈ TBL := tm 418 (by decide +kernel) rfl
theorem tn_XIO : Cond.initialized "java/lang/IndexOutOfBoundsException" ∈ TBL := tm 14 (by decide +kernel) rfl
theorem tc_XIS : Cond.classLink RXG 175 "java/lang/IllegalStateException" ∈ TBL := tm 468 (by decide +kernel) rfl
theorem ti_XIS : Cond.instantiable "java/lang/IllegalStateException" 6 ∈ TBL := tm 469 (by decide +kernel) rfl
theorem tn_XIS : Cond.initialized "java/lang/IllegalStateException" ∈ TBL := tm 15 (by decide +kernel) rfl
theorem tc_XIA : Cond.classLink RXG 49 "java/lang/IllegalArgumentException" ∈ TBL := tm 310 (by decide +kernel) rfl
theorem ti_XIA : Cond.instantiable "java/lang/IllegalArgumentException" 6 ∈ TBL := tm 311 (by decide +kernel) rfl
theorem tn_XIA : Cond.initialized "java/lang/IllegalArgumentException" ∈ TBL := tm 10 (by decide +kernel) rfl
theorem tc_XUO : Cond.classLink RXG 60 "java/lang/UnsupportedOperationException" ∈ TBL := tm 383 (by decide +kernel) rfl
theorem ti_XUO : Cond.instantiable "java/lang/UnsupportedOperationException" 6 ∈ TBL := tm 384 (by decide +kernel) rfl
theorem tn_XUO : Cond.initialized "java/lang/UnsupportedOperationException" ∈ TBL := tm 11 (by decide +kernel) rfl
/-! what a thrown end is -/
def xThrown (cls : String) (st : State) (o : Outcome) (t : State) : Prop := ∃ (x : Addr) (ce : Cell), o = .threw x ∧ t.heap[x]? = some ce ∧ st.vm.findClass cls = some ce.cls ∧ ce.vm = .none ∧ st.heap.size ≤ x ∧ st.heap.size ≤ t.heap.size ∧ ∀ q : Nat, q < st.heap.size → t.heap[q]? = st.heap[q]?
def xCls (z : Int) : String := if z = 1 then "java/lang/IndexOutOfBoundsException" else if z = 2 then "java/lang/IllegalStateException" else if z = 3 then "java/lang/IllegalArgumentException" else "java/lang/UnsupportedOperationException"
/-- an end: z = 0: as Qr says; else an exception of the class z -/
def xQ (z : Int) (Qr : Array Value → State → Outcome → State → Prop) : Array Value → State → Outcome → State → Prop := fun a st o t => (z = 0 ∧ Qr a st o t) ∨ (z ≠ 0 ∧ xThrown (xCls z) st o t)
def vSv : Array Value → State → Outcome → State → Prop := fun _ st o t => o = .returned none ∧ t.heap = st.heap

end
section
/-! a world that a method may read, or refuse with an exception -/
def jBx (D : va_G) (tys : List (ClassId × FieldType)) (wc : va_W) : State → Prop := fun U => jB D tys wc U ∧ jX (fun _ => False) U
theorem jBx_blind {D : va_G} {tys : List (ClassId × FieldType)} {wc : va_W} {As : List Value} : FrameBlind (va_Pc As (jBx D tys wc)) := fun a U g mk q => ⟨q.1, (jB_blind a U g mk ⟨q.1, q.2.1⟩).2, jX.same rfl rfl q.2.2⟩
def jBxw (D : va_G) (tys : List (ClassId × FieldType)) (wc : va_W) (sz : Nat) : State → Prop := fun U => jBw D tys wc sz U ∧ jX (fun _ => False) U
theorem jBxw_blind {D : va_G} {tys : List (ClassId × FieldType)} {wc : va_W} {sz : Nat} {As : List Value} : FrameBlind (va_Pc As (jBxw D tys wc sz)) := fun a U g mk q => ⟨q.1, (jBw_blind a U g mk ⟨q.1, q.2.1⟩).2, jX.same rfl rfl q.2.2⟩
theorem xThrown.at {cls : String} {st s t t2 : State} {o : Outcome} (h : xThrown cls st o t) (hW : s.WarmedH st.vm) (hh : st.heap = s.heap) (ht : t2.heap = t.heap) : xThrown cls s o t2 := by
  obtain ⟨x, ce, h1, h2, h3, h4, h5, h6, h7⟩ := h
  exact ⟨x, ce, h1, by rw [ht]; exact h2, by rw [← hW.alike.findClass]; exact h3, h4, by rw [← hh]; exact h5, by rw [ht, ← hh]; exact h6, by rw [ht, ← hh]; exact h7⟩
section YX
variable {p : Program} {l : Launch} {e : Env} {R : Room} {s : State} {m : MethodId} {args : Array Value} {below : List Frame} {meth : Method} {c : Code} {H : Heap} {cells slots : Nat}
variable {cc bytes : ByteArray} {pc nL maxL n index : Nat} {ls : Array Slot} {rest st0 As : List Value} {D : va_G} {b : Nat} {tys : List (ClassId × FieldType)} {ws wc : va_W} {own C : String} {y : MethodName} {ret : Option FieldType} {rm : Room} {Ts : List Cond} {z : Int} {Qd : Array Value → State → Outcome → State → Prop} {free9 : Addr → Prop} {m9 s9 k9 n9 : Nat}
theorem yL {L : List Loc} (h : ∀ q ∈ L, False) : L = [] := by
  cases L with
  | nil => rfl
  | cons a t => exact absurd (h a (List.mem_cons_self ..)) id
theorem yrGo {a9 : Array Value} (hr : yRun p l e R s m args below meth c H [] cells slots 0 0 1 6 (F0 m pc ls st0) rest (xQ z vSv a9) (fun _ => False)) (htab : c.exceptionTable.isEmpty = true) (hlocks : meth.locks = false) (hH : H = s.heap)
    (k0 : z = 0 → W p l e R s m args below meth c H [] cells slots (YQ below Qd args s m9 s9 k9 n9 free9) (F0 m (pc + 3) ls rest)) (kt : z ≠ 0 → ∀ (o : Outcome) (t : State), xThrown (xCls z) s o t → Qd args s o t) (hk : cells + 1 ≤ k9) (hks : slots + 6 ≤ n9) : W p l e R s m args below meth c H [] cells slots (YQ below Qd args s m9 s9 k9 n9 free9) (F0 m pc ls st0) := by
  refine y_call hr htab hlocks ?_ ?_
  · intro v st₀ t L h0 hW0 hL hW hq
    cases yL hL
    rcases hq with ⟨hz, h1, h2⟩ | ⟨-, x, ce, h1, -⟩
    · cases h1
      rw [h2, h0]
      exact k0 hz
    · cases h1
  · intro x st₀ t t2 L h0 hW0 hL hq ht hW
    cases yL hL
    rcases hq with ⟨hz, h1, h2⟩ | ⟨hz, h1⟩
    · cases h1
    · exact ⟨kt hz _ _ (h1.at hW0 (h0.trans hH) ht), (fun q h => by cases h), hk, hks⟩
theorem yrS (S : CallFix p m c cc nL s args Ts own) (hM : YMet l y (Cond.code y bytes maxL ret :: TBL) rm (va_Pc As (jBx D tys wc)) (xQ z vSv) 0 0 1 6 (fun _ => False)) (cw : CallB R s args own index y bytes maxL ret (Cond.code y bytes maxL ret :: TBL) rm 1 6 n ∧ (Cond.static y).before args s = true) (hK : va_K D vwCl tys s) (hP : va_P D vwCl ws H) (hN : jN s) (hX : jX (fun _ => False) s) (is : List Nat) (hs : is.filterMap (fun i => ws[i]?) = wc) (hn : As.length = n) (hsize : ls.size = nL) (hstack : st0 = As.reverse ++ rest) (hW : (rest.map fun v => v.category).sum ≤ 8) (hdg : decode cc pc = .ok (.invokestatic index, 3)) (hf : cells + 1 ≤ R.cells ∧ slots + 6 ≤ R.slots) (htab : c.exceptionTable.isEmpty = true) (hlocks : meth.locks = false) (hH : H = s.heap)
    (k0 : z = 0 → W p l e R s m args below meth c H [] cells slots (YQ below Qd args s m9 s9 k9 n9 free9) (F0 m (pc + 3) ls rest)) (kt : z ≠ 0 → ∀ (o : Outcome) (t : State), xThrown (xCls z) s o t → Qd args s o t) (hk : cells + 1 ≤ k9) (hks : slots + 6 ≤ n9) : W p l e R s m args below meth c H [] cells slots (YQ below Qd args s m9 s9 k9 n9 free9) (F0 m pc ls st0) :=
  yrGo (yRunS (As := As) (rest := rest) S hM cw ⟨jBx_blind, fun U hU hWm => ⟨rfl, ⟨by rw [hU]; exact hP.sub is hs, va_K.moved hWm.alike hK, jN.warm hWm hN⟩, jX.warm hWm (hU.trans hH) hX⟩⟩ rfl hn hsize hstack (lv_room hW) hdg hf) htab hlocks hH k0 kt hk hks
theorem yrV (S : CallFix p m c cc nL s args Ts own) (hM : YMet l y (Cond.code y bytes maxL ret :: TBL) rm (va_Pc (.ref b :: As) (jBx D tys wc)) (xQ z vSv) 0 0 1 6 (fun _ => False)) (cw : CallW R s args own C index y bytes maxL ret (Cond.code y bytes maxL ret :: TBL) rm 1 6 n) (hK : va_K D vwCl tys s) (hP : va_P D vwCl ws H) (hN : jN s) (hX : jX (fun _ => False) s) (is : List Nat) (hs : is.filterMap (fun i => ws[i]?) = wc) (q0 ci : Nat) {q : vw_C} {fs : List Value} (hc : vwCl[ci]? = some q) (hC : q.1 = C) (he : ws[q0]? = some (b, .inr (ci, fs))) (hn : As.length = n) (hsize : ls.size = nL) (hstack : st0 = As.reverse ++ .ref b :: rest) (hW : (rest.map fun v => v.category).sum ≤ 8) (hdg : decode cc pc = .ok (.invokevirtual index, 3)) (hf : cells + 1 ≤ R.cells ∧ slots + 6 ≤ R.slots) (htab : c.exceptionTable.isEmpty = true) (hlocks : meth.locks = false) (hH : H = s.heap)
    (k0 : z = 0 → W p l e R s m args below meth c H [] cells slots (YQ below Qd args s m9 s9 k9 n9 free9) (F0 m (pc + 3) ls rest)) (kt : z ≠ 0 → ∀ (o : Outcome) (t : State), xThrown (xCls z) s o t → Qd args s o t) (hk : cells + 1 ≤ k9) (hks : slots + 6 ≤ n9) : W p l e R s m args below meth c H [] cells slots (YQ below Qd args s m9 s9 k9 n9 free9) (F0 m pc ls st0) := by
  subst hC
  exact yrGo (yRunV (As := As) (rest := rest) S hM cw ⟨jBx_blind, va_recv hK hP hc he, fun U hU hWm => ⟨rfl, ⟨by rw [hU]; exact hP.sub is hs, va_K.moved hWm.alike hK, jN.warm hWm hN⟩, jX.warm hWm (hU.trans hH) hX⟩⟩ rfl hn hsize hstack (lv_room hW) hdg hf) htab hlocks hH k0 kt hk hks
end YX
end
section
noncomputable def g_XG_needBelow (zi : Int) (zb : Int) : Int :=
  if zi < 0 then
    1
  else
    if zi < zb then
      0
    else
      1
noncomputable def f_XG_needBelow : Int → Int → Int := jopq g_XG_needBelow
theorem f_XG_needBelow_q : f_XG_needBelow = g_XG_needBelow := jopq_eq _
theorem f_XG_needBelow_s (zi : Int) (zb : Int) : f_XG_needBelow zi zb = (
    if zi < 0 then
      1
    else
      if zi < zb then
        0
      else
        1
  : Int) := by rw [f_XG_needBelow_q]; rfl
theorem f_XG_needBelow_b (zi : Int) (zb : Int) (h1 : i32 zi) (h2 : i32 zb) : (f_XG_needBelow zi zb) = 0 → 0 ≤ zi ∧ zi < zb := by rw [f_XG_needBelow_s]; (repeat' split) <;> omega
set_option maxHeartbeats 4000000 in
set_option maxRecDepth 100000 in
theorem c_XG_needBelow (l : Launch) (hst : l.stackTraces = false) (dC : Nat → ClassId) (dI : Nat → Nat → Nat) (cA : ClassId) (zi : Int) (zb : Int) (h1 : i32 zi) (h2 : i32 zb) : YMet l yXG_needBelow (Cond.code yXG_needBelow cXG_needBelow 2 none :: TBL) ({ frames := 6, cells := 1, slots := 6, locals := 82 } : Room) (va_Pc [.int (jI zi), .int (jI zb)] (jBx (dC, dI) [(cA, .int)] [])) (xQ (f_XG_needBelow zi zb) vSv) 0 0 1 6 (fun _ => False) := by
  refine YMet.ofW (cc := cXG_needBelow) (maxL := 2) (ret := none) (by decide) rfl ?_
  intro p e s m args below meth c s₁ R Q hR hQ B hml htab hv
  obtain ⟨rfl, ⟨hP, hK, hN⟩, hX⟩ := hv
  have hx := B.exec
  have hb := B.bytes
  have hr := B.returns
  have hts := atoms_spec (ws := Cond.code yXG_needBelow cXG_needBelow 2 none :: TBL) B.pre
  have hown : s.vm.findClass RXG = some m.cls := findClass_of_methodNamed B.named
  have hlocks := B.notSynchronized
  have hP : va_P (dC, dI) vwCl [] s.heap := hP
  have hl := lv_entry ([.int (jI zi), .int (jI zb)]) (n := 2) (Nat.le_of_ble_eq_true rfl)
  rw [lg_entry_eq]
  generalize (lg_sl ([.int (jI zi), .int (jI zb)]) ++ List.replicate (2 - (lg_sl ([.int (jI zi), .int (jI zb)])).length) Slot.unset).toArray = ls at hl ⊢
  have hl : lv_has ls 2 [(0, .int (jI zi)), (1, .int (jI zb))] := hl
  refine lv_iload_n hx hb dXG_needBelow_0 rfl (lv_at hl 0 rfl) ?_
  refine ji_if_lt (tgt := 9) hx hb dXG_needBelow_1 (by decide) (by omega) (fun c1_ => ?_) (fun c1_ => ?_)
  · have hz9 : 1 = f_XG_needBelow zi zb := Eq.trans (by rw [f_XG_needBelow_s]; rw [if_pos c1_]; try rfl) rfl
    obtain ⟨sa9, hsa9⟩ := hX.s168
    obtain ⟨cX9, kX9, hfX9, -⟩ := Cond.instantiable_spec (hts _ (jmem ti_XIO))
    subst hQ
    exact y_throwNew hx hb htab hlocks hst hown (by decide +kernel) (by decide +kernel) (hX.atoms_XIO hts) (hts _ (jmem tc_XIO)) (hts _ (jmem ti_XIO)) (hts _ (jmem tn_XIO)) hsa9 hfX9 (Nat.le_refl _) (hl.1.trans hml.symm) dXG_needBelow_9 dXG_needBelow_12 dXG_needBelow_13 dXG_needBelow_15 dXG_needBelow_18 (by rw [hR]; exact Nat.le_of_ble_eq_true rfl) (by rw [hR]; exact Nat.le_of_ble_eq_true rfl) (by rw [hR]; exact Nat.le_of_ble_eq_true rfl) (by rw [hR]; exact Nat.le_of_ble_eq_true rfl) (fun t x ce h1 h2 h3 h4 h5 h6 h7 => Or.inr ⟨by rw [← hz9]; decide, by rw [← hz9]; exact ⟨x, ce, rfl, h1, h2, h3, h4, h5, h6⟩⟩) (Nat.le_of_ble_eq_true rfl) (Nat.le_of_ble_eq_true rfl)
  · refine lv_iload_n hx hb dXG_needBelow_4 rfl (lv_at hl 0 rfl) ?_
    refine lv_iload_n hx hb dXG_needBelow_5 rfl (lv_at hl 1 rfl) ?_
    refine ji_icmp_lt (tgt := 19) hx hb dXG_needBelow_6 (by decide) (by omega) (by omega) (fun c6_ => ?_) (fun c6_ => ?_)
    · have hz9 : 0 = f_XG_needBelow zi zb := Eq.trans (by rw [f_XG_needBelow_s]; rw [if_neg (Int.not_lt.mpr c1_), if_pos c6_]; try rfl) rfl
      subst hQ
      refine yW (fun _ h => yQ_of h) ?_
      exact W.vret hx hb hr (fun t ht hW => Or.inl ⟨hz9.symm, rfl, ht⟩) (fun _ h => nomatch h) dXG_needBelow_19
    · have hz9 : 1 = f_XG_needBelow zi zb := Eq.trans (by rw [f_XG_needBelow_s]; rw [if_neg (Int.not_lt.mpr c1_), if_neg (Int.not_lt.mpr c6_)]; try rfl) rfl
      obtain ⟨sa9, hsa9⟩ := hX.s168
      obtain ⟨cX9, kX9, hfX9, -⟩ := Cond.instantiable_spec (hts _ (jmem ti_XIO))
      subst hQ
      exact y_throwNew hx hb htab hlocks hst hown (by decide +kernel) (by decide +kernel) (hX.atoms_XIO hts) (hts _ (jmem tc_XIO)) (hts _ (jmem ti_XIO)) (hts _ (jmem tn_XIO)) hsa9 hfX9 (Nat.le_refl _) (hl.1.trans hml.symm) dXG_needBelow_9 dXG_needBelow_12 dXG_needBelow_13 dXG_needBelow_15 dXG_needBelow_18 (by rw [hR]; exact Nat.le_of_ble_eq_true rfl) (by rw [hR]; exact Nat.le_of_ble_eq_true rfl) (by rw [hR]; exact Nat.le_of_ble_eq_true rfl) (by rw [hR]; exact Nat.le_of_ble_eq_true rfl) (fun t x ce h1 h2 h3 h4 h5 h6 h7 => Or.inr ⟨by rw [← hz9]; decide, by rw [← hz9]; exact ⟨x, ce, rfl, h1, h2, h3, h4, h5, h6⟩⟩) (Nat.le_of_ble_eq_true rfl) (Nat.le_of_ble_eq_true rfl)
noncomputable def g_XG_needPlace (zi : Int) : Int :=
  if zi < 0 then
    1
  else
    0
noncomputable def f_XG_needPlace : Int → Int := jopq g_XG_needPlace
theorem f_XG_needPlace_q : f_XG_needPlace = g_XG_needPlace := jopq_eq _
theorem f_XG_needPlace_s (zi : Int) : f_XG_needPlace zi = (
    if zi < 0 then
      1
    else
      0
  : Int) := by rw [f_XG_needPlace_q]; rfl
theorem f_XG_needPlace_b (zi : Int) (h1 : i32 zi) : (f_XG_needPlace zi) = 0 → 0 ≤ zi := by rw [f_XG_needPlace_s]; (repeat' split) <;> omega
set_option maxHeartbeats 4000000 in
set_option maxRecDepth 100000 in
theorem c_XG_needPlace (l : Launch) (hst : l.stackTraces = false) (dC : Nat → ClassId) (dI : Nat → Nat → Nat) (cA : ClassId) (zi : Int) (h1 : i32 zi) : YMet l yXG_needPlace (Cond.code yXG_needPlace cXG_needPlace 1 none :: TBL) ({ frames := 6, cells := 1, slots := 6, locals := 82 } : Room) (va_Pc [.int (jI zi)] (jBx (dC, dI) [(cA, .int)] [])) (xQ (f_XG_needPlace zi) vSv) 0 0 1 6 (fun _ => False) := by
  refine YMet.ofW (cc := cXG_needPlace) (maxL := 1) (ret := none) (by decide) rfl ?_
  intro p e s m args below meth c s₁ R Q hR hQ B hml htab hv
  obtain ⟨rfl, ⟨hP, hK, hN⟩, hX⟩ := hv
  have hx := B.exec
  have hb := B.bytes
  have hr := B.returns
  have hts := atoms_spec (ws := Cond.code yXG_needPlace cXG_needPlace 1 none :: TBL) B.pre
  have hown : s.vm.findClass RXG = some m.cls := findClass_of_methodNamed B.named
  have hlocks := B.notSynchronized
  have hP : va_P (dC, dI) vwCl [] s.heap := hP
  have hl := lv_entry ([.int (jI zi)]) (n := 1) (Nat.le_of_ble_eq_true rfl)
  rw [lg_entry_eq]
  generalize (lg_sl ([.int (jI zi)]) ++ List.replicate (1 - (lg_sl ([.int (jI zi)])).length) Slot.unset).toArray = ls at hl ⊢
  have hl : lv_has ls 1 [(0, .int (jI zi))] := hl
  refine lv_iload_n hx hb dXG_needPlace_0 rfl (lv_at hl 0 rfl) ?_
  refine ji_if_ge (tgt := 14) hx hb dXG_needPlace_1 (by decide) (by omega) (fun c1_ => ?_) (fun c1_ => ?_)
  · have hz9 : 0 = f_XG_needPlace zi := Eq.trans (by rw [f_XG_needPlace_s]; rw [if_neg (Int.not_lt.mpr c1_)]; try rfl) rfl
    subst hQ
    refine yW (fun _ h => yQ_of h) ?_
    exact W.vret hx hb hr (fun t ht hW => Or.inl ⟨hz9.symm, rfl, ht⟩) (fun _ h => nomatch h) dXG_needPlace_14
  · have hz9 : 1 = f_XG_needPlace zi := Eq.trans (by rw [f_XG_needPlace_s]; rw [if_pos c1_]; try rfl) rfl
    obtain ⟨sa9, hsa9⟩ := hX.s170
    obtain ⟨cX9, kX9, hfX9, -⟩ := Cond.instantiable_spec (hts _ (jmem ti_XIO))
    subst hQ
    exact y_throwNew hx hb htab hlocks hst hown (by decide +kernel) (by decide +kernel) (hX.atoms_XIO hts) (hts _ (jmem tc_XIO)) (hts _ (jmem ti_XIO)) (hts _ (jmem tn_XIO)) hsa9 hfX9 (Nat.le_refl _) (hl.1.trans hml.symm) dXG_needPlace_4 dXG_needPlace_7 dXG_needPlace_8 dXG_needPlace_10 dXG_needPlace_13 (by rw [hR]; exact Nat.le_of_ble_eq_true rfl) (by rw [hR]; exact Nat.le_of_ble_eq_true rfl) (by rw [hR]; exact Nat.le_of_ble_eq_true rfl) (by rw [hR]; exact Nat.le_of_ble_eq_true rfl) (fun t x ce h1 h2 h3 h4 h5 h6 h7 => Or.inr ⟨by rw [← hz9]; decide, by rw [← hz9]; exact ⟨x, ce, rfl, h1, h2, h3, h4, h5, h6⟩⟩) (Nat.le_of_ble_eq_true rfl) (Nat.le_of_ble_eq_true rfl)
noncomputable def g_XG_needGrade (bg : Int) (bf : Int) (zi : Int) : Int :=
  if (f_XB_knows bg bf zi) = 0 then
    1
  else
    0
noncomputable def f_XG_needGrade : Int → Int → Int → Int := jopq g_XG_needGrade
theorem f_XG_needGrade_q : f_XG_needGrade = g_XG_needGrade := jopq_eq _
theorem f_XG_needGrade_s (bg : Int) (bf : Int) (zi : Int) : f_XG_needGrade bg bf zi = (
    if (f_XB_knows bg bf zi) = 0 then
      1
    else
      0
  : Int) := by rw [f_XG_needGrade_q]; rfl
theorem f_XG_needGrade_b (bg : Int) (bf : Int) (zi : Int) (hbg : 0 ≤ bg ∧ bg < 2147483648) (h1 : i32 zi) : (f_XG_needGrade bg bf zi) = 0 → 1 ≤ zi ∧ zi ≤ 30 := by have := f_XB_knows_c bg bf zi hbg h1; rw [f_XG_needGrade_s]; (repeat' split) <;> omega
set_option maxHeartbeats 4000000 in
set_option maxRecDepth 100000 in
theorem c_XG_needGrade (l : Launch) (hst : l.stackTraces = false) (dC : Nat → ClassId) (dI : Nat → Nat → Nat) (cA : ClassId) (ga : Nat) (ta : Nat) (rda : Nat) (pa : Nat) (sa : Nat) (ea : Nat) (da : Nat) (ba : Nat) (bt : Nat) (bp : Nat) (bl : Nat) (bh : Nat) (bq : Nat) (br : Nat) (bd : Nat) (bg : Int) (bf : Int) (zi : Int) (hbg : 0 ≤ bg ∧ bg < 2147483648) (h1 : i32 zi) : YMet l yXG_needGrade (Cond.code yXG_needGrade cXG_needGrade 2 none :: TBL) ({ frames := 6, cells := 1, slots := 6, locals := 82 } : Room) (va_Pc [.ref ga, .int (jI zi)] (jBx (dC, dI) [(cA, .int)] [(ga, .inr (4, [.ref ta, .ref rda, .ref pa, .ref sa, .ref ea, .ref ba, .ref da])), (ba, .inr (0, [.ref bt, .ref bp, .ref bl, .ref bh, .ref bq, .ref br, .ref bd, .int (jI bg), .int (jI bf)]))])) (xQ (f_XG_needGrade bg bf zi) vSv) 0 0 1 6 (fun _ => False) := by
  refine YMet.ofW (cc := cXG_needGrade) (maxL := 2) (ret := none) (by decide) rfl ?_
  intro p e s m args below meth c s₁ R Q hR hQ B hml htab hv
  obtain ⟨rfl, ⟨hP, hK, hN⟩, hX⟩ := hv
  have hx := B.exec
  have hb := B.bytes
  have hr := B.returns
  have hts := atoms_spec (ws := Cond.code yXG_needGrade cXG_needGrade 2 none :: TBL) B.pre
  have hown : s.vm.findClass RXG = some m.cls := findClass_of_methodNamed B.named
  have hlocks := B.notSynchronized
  have hP : va_P (dC, dI) vwCl [(ga, .inr (4, [.ref ta, .ref rda, .ref pa, .ref sa, .ref ea, .ref ba, .ref da])), (ba, .inr (0, [.ref bt, .ref bp, .ref bl, .ref bh, .ref bq, .ref br, .ref bd, .int (jI bg), .int (jI bf)]))] s.heap := hP
  have hl := lv_entry ([.ref ga, .int (jI zi)]) (n := 2) (Nat.le_of_ble_eq_true rfl)
  rw [lg_entry_eq]
  generalize (lg_sl ([.ref ga, .int (jI zi)]) ++ List.replicate (2 - (lg_sl ([.ref ga, .int (jI zi)])).length) Slot.unset).toArray = ls at hl ⊢
  have hl : lv_has ls 2 [(0, .ref ga), (1, .int (jI zi))] := hl
  refine lv_aload_n hx hb dXG_needGrade_0 rfl (lv_at hl 0 rfl) ?_
  refine va_get (D := (dC, dI)) (ci := 4) (v := .ref ba) (C := RXG) (T := TXG) (N := 7) hx hb hts (fun w h => jmem (inXG w h)) hown hK hP 0 rfl rfl 5 (by decide) (hts _ (jmem tw_106)) (fun _ h9 => h9) rfl dXG_needGrade_1 ?_
  refine lv_iload_n hx hb dXG_needGrade_4 rfl (lv_at hl 1 rfl) ?_
  refine jrVi (rest := []) ⟨hx, hb, hml, hown, hts⟩ (c_XB_knows l dC dI cA ba bt bp bl bh bq br bd bg bf zi (by first | assumption | omega) (by first | assumption | omega)) (cwV 1 hts (jG_V tw_416 tw_216 tw_217 tw_5 tw_218) rfl rfl rfl (by decide +kernel) (by rw [hR]; exact ⟨Nat.le_of_ble_eq_true rfl, Nat.le_of_ble_eq_true rfl⟩)) hK hP hN [1] rfl 1 0 rfl rfl rfl rfl hl.1 rfl (Nat.le_of_ble_eq_true rfl) dXG_needGrade_5 (by rw [hR]; exact ⟨Nat.le_of_ble_eq_true rfl, Nat.le_of_ble_eq_true rfl⟩) ?_
  have f := f_XB_knows_b bg bf zi (by first | assumption | omega) (by first | assumption | omega)
  have f1 := f_XB_knows_c bg bf zi (by first | assumption | omega) (by first | assumption | omega)
  refine ji_if_ne (tgt := 21) hx hb dXG_needGrade_8 (by decide) (by omega) (fun c8_ => ?_) (fun c8_ => ?_)
  · have hz9 : 0 = f_XG_needGrade bg bf zi := Eq.trans (by rw [f_XG_needGrade_s]; rw [if_neg c8_]; try rfl) rfl
    subst hQ
    refine yW (fun _ h => yQ_of h) ?_
    exact W.vret hx hb hr (fun t ht hW => Or.inl ⟨hz9.symm, rfl, ht⟩) (fun _ h => nomatch h) dXG_needGrade_21
  · have hz9 : 1 = f_XG_needGrade bg bf zi := Eq.trans (by rw [f_XG_needGrade_s]; rw [if_pos c8_]; try rfl) rfl
    obtain ⟨sa9, hsa9⟩ := hX.s165
    obtain ⟨cX9, kX9, hfX9, -⟩ := Cond.instantiable_spec (hts _ (jmem ti_XIO))
    subst hQ
    exact y_throwNew hx hb htab hlocks hst hown (by decide +kernel) (by decide +kernel) (hX.atoms_XIO hts) (hts _ (jmem tc_XIO)) (hts _ (jmem ti_XIO)) (hts _ (jmem tn_XIO)) hsa9 hfX9 (Nat.le_refl _) (hl.1.trans hml.symm) dXG_needGrade_11 dXG_needGrade_14 dXG_needGrade_15 dXG_needGrade_17 dXG_needGrade_20 (by rw [hR]; exact Nat.le_of_ble_eq_true rfl) (by rw [hR]; exact Nat.le_of_ble_eq_true rfl) (by rw [hR]; exact Nat.le_of_ble_eq_true rfl) (by rw [hR]; exact Nat.le_of_ble_eq_true rfl) (fun t x ce h1 h2 h3 h4 h5 h6 h7 => Or.inr ⟨by rw [← hz9]; decide, by rw [← hz9]; exact ⟨x, ce, rfl, h1, h2, h3, h4, h5, h6⟩⟩) (Nat.le_of_ble_eq_true rfl) (Nat.le_of_ble_eq_true rfl)
noncomputable def g_XG_needFormula (bg : Int) (bf : Int) (zk : Int) : Int :=
  if (f_XB_hasFormula bg bf zk) = 0 then
    2
  else
    0
noncomputable def f_XG_needFormula : Int → Int → Int → Int := jopq g_XG_needFormula
theorem f_XG_needFormula_q : f_XG_needFormula = g_XG_needFormula := jopq_eq _
theorem f_XG_needFormula_s (bg : Int) (bf : Int) (zk : Int) : f_XG_needFormula bg bf zk = (
    if (f_XB_hasFormula bg bf zk) = 0 then
      2
    else
      0
  : Int) := by rw [f_XG_needFormula_q]; rfl
set_option maxHeartbeats 4000000 in
set_option maxRecDepth 100000 in
theorem c_XG_needFormula (l : Launch) (hst : l.stackTraces = false) (dC : Nat → ClassId) (dI : Nat → Nat → Nat) (cA : ClassId) (ga : Nat) (ta : Nat) (rda : Nat) (pa : Nat) (sa : Nat) (ea : Nat) (da : Nat) (ba : Nat) (bt : Nat) (bp : Nat) (bl : Nat) (bh : Nat) (bq : Nat) (br : Nat) (bd : Nat) (bg : Int) (bf : Int) (zk : Int) (hbf : 0 ≤ bf ∧ bf < 2147483648) (hzk : 0 ≤ zk ∧ zk < 4) : YMet l yXG_needFormula (Cond.code yXG_needFormula cXG_needFormula 2 none :: TBL) ({ frames := 6, cells := 1, slots := 6, locals := 82 } : Room) (va_Pc [.ref ga, .int (jI zk)] (jBx (dC, dI) [(cA, .int)] [(ga, .inr (4, [.ref ta, .ref rda, .ref pa, .ref sa, .ref ea, .ref ba, .ref da])), (ba, .inr (0, [.ref bt, .ref bp, .ref bl, .ref bh, .ref bq, .ref br, .ref bd, .int (jI bg), .int (jI bf)]))])) (xQ (f_XG_needFormula bg bf zk) vSv) 0 0 1 6 (fun _ => False) := by
  refine YMet.ofW (cc := cXG_needFormula) (maxL := 2) (ret := none) (by decide) rfl ?_
  intro p e s m args below meth c s₁ R Q hR hQ B hml htab hv
  obtain ⟨rfl, ⟨hP, hK, hN⟩, hX⟩ := hv
  have hx := B.exec
  have hb := B.bytes
  have hr := B.returns
  have hts := atoms_spec (ws := Cond.code yXG_needFormula cXG_needFormula 2 none :: TBL) B.pre
  have hown : s.vm.findClass RXG = some m.cls := findClass_of_methodNamed B.named
  have hlocks := B.notSynchronized
  have hP : va_P (dC, dI) vwCl [(ga, .inr (4, [.ref ta, .ref rda, .ref pa, .ref sa, .ref ea, .ref ba, .ref da])), (ba, .inr (0, [.ref bt, .ref bp, .ref bl, .ref bh, .ref bq, .ref br, .ref bd, .int (jI bg), .int (jI bf)]))] s.heap := hP
  have hl := lv_entry ([.ref ga, .int (jI zk)]) (n := 2) (Nat.le_of_ble_eq_true rfl)
  rw [lg_entry_eq]
  generalize (lg_sl ([.ref ga, .int (jI zk)]) ++ List.replicate (2 - (lg_sl ([.ref ga, .int (jI zk)])).length) Slot.unset).toArray = ls at hl ⊢
  have hl : lv_has ls 2 [(0, .ref ga), (1, .int (jI zk))] := hl
  refine lv_aload_n hx hb dXG_needFormula_0 rfl (lv_at hl 0 rfl) ?_
  refine va_get (D := (dC, dI)) (ci := 4) (v := .ref ba) (C := RXG) (T := TXG) (N := 7) hx hb hts (fun w h => jmem (inXG w h)) hown hK hP 0 rfl rfl 5 (by decide) (hts _ (jmem tw_106)) (fun _ h9 => h9) rfl dXG_needFormula_1 ?_
  refine lv_iload_n hx hb dXG_needFormula_4 rfl (lv_at hl 1 rfl) ?_
  refine jrVi (rest := []) ⟨hx, hb, hml, hown, hts⟩ (c_XB_hasFormula l dC dI cA ba bt bp bl bh bq br bd bg bf zk (by first | assumption | omega) (by first | assumption | omega)) (cwV 1 hts (jG_V tw_467 tw_168 tw_169 tw_5 tw_170) rfl rfl rfl (by decide +kernel) (by rw [hR]; exact ⟨Nat.le_of_ble_eq_true rfl, Nat.le_of_ble_eq_true rfl⟩)) hK hP hN [1] rfl 1 0 rfl rfl rfl rfl hl.1 rfl (Nat.le_of_ble_eq_true rfl) dXG_needFormula_5 (by rw [hR]; exact ⟨Nat.le_of_ble_eq_true rfl, Nat.le_of_ble_eq_true rfl⟩) ?_
  have f := f_XB_hasFormula_b bg bf zk (by first | assumption | omega) (by first | assumption | omega)
  refine ji_if_ne (tgt := 21) hx hb dXG_needFormula_8 (by decide) (by omega) (fun c8_ => ?_) (fun c8_ => ?_)
  · have hz9 : 0 = f_XG_needFormula bg bf zk := Eq.trans (by rw [f_XG_needFormula_s]; rw [if_neg c8_]; try rfl) rfl
    subst hQ
    refine yW (fun _ h => yQ_of h) ?_
    exact W.vret hx hb hr (fun t ht hW => Or.inl ⟨hz9.symm, rfl, ht⟩) (fun _ h => nomatch h) dXG_needFormula_21
  · have hz9 : 2 = f_XG_needFormula bg bf zk := Eq.trans (by rw [f_XG_needFormula_s]; rw [if_pos c8_]; try rfl) rfl
    obtain ⟨sa9, hsa9⟩ := hX.s177
    obtain ⟨cX9, kX9, hfX9, -⟩ := Cond.instantiable_spec (hts _ (jmem ti_XIS))
    subst hQ
    exact y_throwNew hx hb htab hlocks hst hown (by decide +kernel) (by decide +kernel) (hX.atoms_XIS hts) (hts _ (jmem tc_XIS)) (hts _ (jmem ti_XIS)) (hts _ (jmem tn_XIS)) hsa9 hfX9 (Nat.le_refl _) (hl.1.trans hml.symm) dXG_needFormula_11 dXG_needFormula_14 dXG_needFormula_15 dXG_needFormula_17 dXG_needFormula_20 (by rw [hR]; exact Nat.le_of_ble_eq_true rfl) (by rw [hR]; exact Nat.le_of_ble_eq_true rfl) (by rw [hR]; exact Nat.le_of_ble_eq_true rfl) (by rw [hR]; exact Nat.le_of_ble_eq_true rfl) (fun t x ce h1 h2 h3 h4 h5 h6 h7 => Or.inr ⟨by rw [← hz9]; decide, by rw [← hz9]; exact ⟨x, ce, rfl, h1, h2, h3, h4, h5, h6⟩⟩) (Nat.le_of_ble_eq_true rfl) (Nat.le_of_ble_eq_true rfl)

end
