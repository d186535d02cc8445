/-! making: arrays of ints, constructors -/
theorem jzero : jI 0 = 0 := by decide
section JM
variable {p : Program} {l : Launch} {e : Env} {R : Room} {s : State} {m : MethodId} {args : Array Value} {below : List Frame} {meth : Method} {c : Code} {H : Heap} {locs : List Loc} {cells slots : Nat} {Q : State → Prop}
variable {cc bytes : ByteArray} {pc nL maxL n index mc ms : Nat} {ls : Array Slot} {rest st0 As : List Value} {D : va_G} {cl : List vw_C} {A : Nat → Prop} {b : Nat} {tys : List (ClassId × FieldType)} {ws wc wr : va_W} {H0 : Heap} {own host : String} {y : MethodName} {rm : Room} {Ts : List Cond}
theorem ji_newa (hx : p.tables.exec = Jvm.exec) (hb : c.code = cc) (harr : (Cond.arrayClass .int).before args s = true) (hK : va_K D cl tys s) (hP : va_P D cl ws H) (hD : va_D A ws) (hS : va_S A H0 H locs) (hA : ∀ q, H0.size ≤ q → A q) (t0 : Nat) {cA : ClassId} (ht : tys[t0]? = some (cA, .int)) {N : Nat} {z : Int} (hz : z = (N : Int)) (hN : N ≤ 1000) (hcells : cells + 1 ≤ R.cells) (hslots : slots + N ≤ R.slots) (hdg : decode cc pc = .ok (.newarray .int, 2))
    (kk : ∀ (q : Nat) (H1 : Heap), va_P D cl (ws ++ [(q, .inl (cA, N, .inl (jA (fun _ => 0))))]) H1 → va_D A (ws ++ [(q, .inl (cA, N, .inl (jA (fun _ => 0))))]) → va_S A H0 H1 locs → W p l e R s m args below meth c H1 locs (cells + 1) (slots + N) Q (F0 m (pc + 2) ls (.ref q :: rest))) : W p l e R s m args below meth c H locs cells slots Q (F0 m pc ls (.int (jI z) :: rest)) := by
  subst hz
  refine va_newa (atype := .int) (a0 := (N, .inl (jA (fun _ => 0)))) (ty := .int) (N' := N) hx hb harr rfl hK hP hD hS hA (fun cA => ?_) ?_ ?_ ?_ hcells hslots hdg (fun q cA' H1 hK1 hP1 hD1 hS1 => ?_)
  · show arrV cA N (fun j => Value.int (jI 0)) = arrV cA N (fun _ => Value.int 0)
    rw [jzero]
  · have h0 := jI_lt (a := (N : Int)) (b := 0) (by omega) (by decide)
    rw [jzero] at h0
    intro h
    have := h0.mp h
    omega
  · rw [jI_clamp (by omega) (by omega)]; exact Int.toNat_natCast N
  · have h4 : componentBytes .int = 4 := rfl
    rw [h4]; omega
  · have h1 := (hK1.2 tys.length (cA', .int) (by simp)).2
    have h2 := (hK.2 t0 (cA, .int) ht).2
    have h3 : some cA' = some cA := (show s.vm.findClass ("[" ++ FieldType.int.toString) = some cA' from h1).symm.trans h2
    cases h3
    exact kk q H1 hP1 hD1 hS1
theorem jcI {U9 : Type} {post : U9 → Prop} {w1 : U9 → va_W} (S : CallFix p m c cc nL s args Ts own) (hM : Met l y (Cond.code y bytes maxL none :: TBL) rm (va_Pc (.ref b :: As) (jBw D tys wc H.size)) (va_Qv post (fun u t => jE D tys wc H.size (w1 u) t) (va_A wc H.size)) mc ms (va_A wc H.size)) (cw : CallB R s args own index y bytes maxL none (Cond.code y bytes maxL none :: TBL) rm mc ms n ∧ y.name = "<init>" ∧ (Cond.instanceMethod y).before args s = true) (hK : va_K D vwCl tys s) (hP : va_P D vwCl ws H) (hD : va_D A ws) (hS : va_S A H0 H locs) (hA : ∀ q, H0.size ≤ q → A q) (hN : jN s) (isC isR : List Nat) (hC : isC.map (fun i => ws[i]?) = wc.map some) (hRr : isR.map (fun i => ws[i]?) = wr.map some) (hnd : va_nd isR = true) (hnc : va_nd isC = true) (hdis : ∀ i ∈ isR, i ∉ isC) (hn : As.length = n) (hsize : ls.size = nL) (hstack : st0 = As.reverse ++ .ref b :: rest) (hW : (rest.map fun v => v.category).sum ≤ 8) (hdg : decode cc pc = .ok (.invokespecial index, 3)) (hf : cells + mc ≤ R.cells ∧ slots + ms ≤ R.slots)
    (kk : ∀ (u : U9) (H1 : Heap) (locs1 : List Loc), post u → va_P D vwCl (wr ++ w1 u) H1 → va_D A (wr ++ w1 u) → va_S A H0 H1 locs1 → W p l e R s m args below meth c H1 locs1 (cells + mc) (slots + ms) Q (F0 m (pc + 3) ls rest)) : W p l e R s m args below meth c H locs cells slots Q (F0 m pc ls st0) := by
  have hPc := hP.sub isC (by
    have h9 := congrArg (fun l => l.filterMap id) hC
    simpa [List.filterMap_map, Function.comp_def] using h9)
  have hDc : va_D A wc := hD.sub isC hnc hC
  have hFc := va_free (wc := wc) hD hS hA isC hC
  refine va_callv (va_runI S hM cw ⟨jBw_blind, fun U hU hWm => ⟨rfl, by rw [hU], by rw [hU]; exact hPc, va_K.moved hWm.alike hK, hDc.weaken (fun _ _ _ _ => trivial), jN.warm hWm hN⟩⟩ rfl hn hsize hstack (lv_room hW) hdg hf) hS (fun q _ h => hFc q h) hFc (fun u t H1 locs1 ht hvm hw hB hz1 hk1 hS1 => ?_)
  obtain ⟨hP1, hK1, hD1⟩ := hB
  rw [ht] at hP1
  obtain ⟨hP2, hD2⟩ := va_join hP hD isC isR hC hRr hnd hdis hk1 hFc hP1 hD1
  exact kk u H1 locs1 hw hP2 hD2 hS1
theorem jcIN {U9 : Type} {post : U9 → Prop} {w1 : U9 → va_W} (S : CallFix p m c cc nL s args Ts own) (hM : Met l y (Cond.code y bytes maxL none :: TBL) rm (va_Pc (.ref b :: As) (jBw D tys wc H.size)) (va_Qv post (fun u t => jE D tys wc H.size (w1 u) t) (va_A wc H.size)) mc ms (va_A wc H.size)) (cw : va_CN R s args own index y host bytes maxL none (Cond.code y bytes maxL none :: TBL) rm mc ms n ∧ y.name = "<init>" ∧ (Cond.instanceMethod y).before args s = true) (hK : va_K D vwCl tys s) (hP : va_P D vwCl ws H) (hD : va_D A ws) (hS : va_S A H0 H locs) (hA : ∀ q, H0.size ≤ q → A q) (hN : jN s) (isC isR : List Nat) (hC : isC.map (fun i => ws[i]?) = wc.map some) (hRr : isR.map (fun i => ws[i]?) = wr.map some) (hnd : va_nd isR = true) (hnc : va_nd isC = true) (hdis : ∀ i ∈ isR, i ∉ isC) (hn : As.length = n) (hsize : ls.size = nL) (hstack : st0 = As.reverse ++ .ref b :: rest) (hW : (rest.map fun v => v.category).sum ≤ 8) (hdg : decode cc pc = .ok (.invokespecial index, 3)) (hf : cells + mc ≤ R.cells ∧ slots + ms ≤ R.slots)
    (kk : ∀ (u : U9) (H1 : Heap) (locs1 : List Loc), post u → va_P D vwCl (wr ++ w1 u) H1 → va_D A (wr ++ w1 u) → va_S A H0 H1 locs1 → W p l e R s m args below meth c H1 locs1 (cells + mc) (slots + ms) Q (F0 m (pc + 3) ls rest)) : W p l e R s m args below meth c H locs cells slots Q (F0 m pc ls st0) := by
  have hPc := hP.sub isC (by
    have h9 := congrArg (fun l => l.filterMap id) hC
    simpa [List.filterMap_map, Function.comp_def] using h9)
  have hDc : va_D A wc := hD.sub isC hnc hC
  have hFc := va_free (wc := wc) hD hS hA isC hC
  refine va_callv (va_runIN S hM cw ⟨jBw_blind, fun U hU hWm => ⟨rfl, by rw [hU], by rw [hU]; exact hPc, va_K.moved hWm.alike hK, hDc.weaken (fun _ _ _ _ => trivial), jN.warm hWm hN⟩⟩ rfl hn hsize hstack (lv_room hW) hdg hf) hS (fun q _ h => hFc q h) hFc (fun u t H1 locs1 ht hvm hw hB hz1 hk1 hS1 => ?_)
  obtain ⟨hP1, hK1, hD1⟩ := hB
  rw [ht] at hP1
  obtain ⟨hP2, hD2⟩ := va_join hP hD isC isR hC hRr hnd hdis hk1 hFc hP1 hD1
  exact kk u H1 locs1 hw hP2 hD2 hS1
end JM
set_option maxHeartbeats 4000000 in
set_option maxRecDepth 100000 in
theorem c_XT_init (l : Launch) (dC : Nat → ClassId) (dI : Nat → Nat → Nat) (cA : ClassId) (sz : Nat) (ta : Nat) : Met l yXT_init (Cond.code yXT_init cXT_init 1 none :: TBL) ({ frames := 1, cells := 1, slots := 400, locals := 12 } : Room) (va_Pc [.ref ta] (jBw (dC, dI) [(cA, .int)] [(ta, .inr (3, [.null, .int (jI 0), .int (jI 0), .int (jI 0)]))] sz)) (va_Qv (fun (u : Nat) => True) (fun u t => jE (dC, dI) [(cA, .int)] [(ta, .inr (3, [.null, .int (jI 0), .int (jI 0), .int (jI 0)]))] sz [(ta, .inr (3, [.ref u, .int (jI 0), .int (jI 0), .int (jI 0)])), (u, .inl (cA, 400, .inl (jA (fun _ => 0))))] t) (va_A [(ta, .inr (3, [.null, .int (jI 0), .int (jI 0), .int (jI 0)]))] sz)) 1 400 (va_A [(ta, .inr (3, [.null, .int (jI 0), .int (jI 0), .int (jI 0)]))] sz) := by
  refine jMet (cc := cXT_init) (maxL := 1) (ret := none) (by decide) rfl ?_
  intro p e s m args below meth c s₁ R Q hR hQ B hml hv
  obtain ⟨rfl, hsz, hP, hK, hD0, hN⟩ := hv
  have hx := B.exec
  have hb := B.bytes
  have hr := B.returns
  have hts := atoms_spec (ws := Cond.code yXT_init cXT_init 1 none :: TBL) B.pre
  have hown : s.vm.findClass RXT = some m.cls := findClass_of_methodNamed B.named
  have hlocks := B.notSynchronized
  have hin : meth.name = "<init>" := (name_of_methodNamed B.named B.method).1
  subst hsz
  obtain ⟨A, hAe⟩ : ∃ A, A = va_A [(ta, .inr (3, [.null, .int (jI 0), .int (jI 0), .int (jI 0)]))] s.heap.size := ⟨_, rfl⟩
  have hD : va_D A [(ta, .inr (3, [.null, .int (jI 0), .int (jI 0), .int (jI 0)]))] := by rw [hAe]; exact hD0.self
  have hA : ∀ q : Nat, s.heap.size ≤ q → A q := fun q h => by rw [hAe]; exact Or.inr h
  have hS : va_S A s.heap s.heap [] := va_S.rf
  have hP : va_P (dC, dI) vwCl [(ta, .inr (3, [.null, .int (jI 0), .int (jI 0), .int (jI 0)]))] s.heap := hP
  have hl := lv_entry ([.ref ta]) (n := 1) (Nat.le_of_ble_eq_true rfl)
  rw [lg_entry_eq]
  generalize (lg_sl ([.ref ta]) ++ List.replicate (1 - (lg_sl ([.ref ta])).length) Slot.unset).toArray = ls at hl ⊢
  have hl : lv_has ls 1 [(0, .ref ta)] := hl
  refine lv_aload_n hx hb dXT_init_0 rfl (lv_at hl 0 rfl) ?_
  refine W.objInit hx hb hown (hts _ (jmem tw_29)) (hts _ (jmem tw_22)) (hts _ (jmem tw_23)) rfl (by rw [hml]; exact hl.1) rfl dXT_init_1 (by rw [hR]; exact Nat.le_of_ble_eq_true rfl) (by rw [hR]; exact Nat.le_of_ble_eq_true rfl) ?_
  refine lv_aload_n hx hb dXT_init_4 rfl (lv_at hl 0 rfl) ?_
  refine ji_sipush hx hb dXT_init_5 (by decide) ?_
  refine ji_newa (N := 400) hx hb (hts _ (jmem tw_43)) hK hP hD hS hA 0 rfl rfl (by decide) (by rw [hR]; exact Nat.le_of_ble_eq_true rfl) (by rw [hR]; exact Nat.le_of_ble_eq_true rfl) dXT_init_8 (fun q H hP hD hS => ?_)
  have hP : va_P (dC, dI) vwCl [(ta, .inr (3, [.null, .int (jI 0), .int (jI 0), .int (jI 0)])), (q, .inl (cA, 400, .inl (jA (fun _ => 0))))] H := hP
  have hD : va_D A [(ta, .inr (3, [.null, .int (jI 0), .int (jI 0), .int (jI 0)])), (q, .inl (cA, 400, .inl (jA (fun _ => 0))))] := hD
  refine va_putF (D := (dC, dI)) (ci := 3) (v := .ref q) (ty := (.array .int)) (C := RXT) (T := TXT) (N := 4) hx hb hts (fun w h => jmem (inXT w h)) tyXT tyXT_ok nXT hown hK hP hD hS 0 rfl rfl 0 (by decide) (hts _ (jmem tw_30)) (fun _ h9 => h9) rfl hin rfl (by decide +kernel) rfl rfl (Nat.le_of_ble_eq_true rfl) dXT_init_10 (fun H locs hP hD hS => ?_)
  have hP : va_P (dC, dI) vwCl [(ta, .inr (3, [.ref q, .int (jI 0), .int (jI 0), .int (jI 0)])), (q, .inl (cA, 400, .inl (jA (fun _ => 0))))] H := hP
  have hD : va_D A [(ta, .inr (3, [.ref q, .int (jI 0), .int (jI 0), .int (jI 0)])), (q, .inl (cA, 400, .inl (jA (fun _ => 0))))] := hD
  refine lv_aload_n hx hb dXT_init_13 rfl (lv_at hl 0 rfl) ?_
  refine ji_iconst hx hb dXT_init_14 ?_
  refine va_put (D := (dC, dI)) (ci := 3) (v := .int (jI 0)) (ty := (.int)) (C := RXT) (T := TXT) (N := 4) hx hb hts (fun w h => jmem (inXT w h)) tyXT tyXT_ok nXT hown hK hP hD hS 0 rfl rfl 1 (by decide) (hts _ (jmem tw_31)) (fun _ h9 => h9) rfl (by decide +kernel) rfl rfl (Nat.le_of_ble_eq_true rfl) dXT_init_15 (fun H locs hP hD hS => ?_)
  have hP : va_P (dC, dI) vwCl [(ta, .inr (3, [.ref q, .int (jI 0), .int (jI 0), .int (jI 0)])), (q, .inl (cA, 400, .inl (jA (fun _ => 0))))] H := hP
  have hD : va_D A [(ta, .inr (3, [.ref q, .int (jI 0), .int (jI 0), .int (jI 0)])), (q, .inl (cA, 400, .inl (jA (fun _ => 0))))] := hD
  refine lv_aload_n hx hb dXT_init_18 rfl (lv_at hl 0 rfl) ?_
  refine ji_iconst hx hb dXT_init_19 ?_
  refine va_put (D := (dC, dI)) (ci := 3) (v := .int (jI 0)) (ty := (.int)) (C := RXT) (T := TXT) (N := 4) hx hb hts (fun w h => jmem (inXT w h)) tyXT tyXT_ok nXT hown hK hP hD hS 0 rfl rfl 2 (by decide) (hts _ (jmem tw_32)) (fun _ h9 => h9) rfl (by decide +kernel) rfl rfl (Nat.le_of_ble_eq_true rfl) dXT_init_20 (fun H locs hP hD hS => ?_)
  have hP : va_P (dC, dI) vwCl [(ta, .inr (3, [.ref q, .int (jI 0), .int (jI 0), .int (jI 0)])), (q, .inl (cA, 400, .inl (jA (fun _ => 0))))] H := hP
  have hD : va_D A [(ta, .inr (3, [.ref q, .int (jI 0), .int (jI 0), .int (jI 0)])), (q, .inl (cA, 400, .inl (jA (fun _ => 0))))] := hD
  refine lv_aload_n hx hb dXT_init_23 rfl (lv_at hl 0 rfl) ?_
  refine ji_iconst hx hb dXT_init_24 ?_
  refine va_put (D := (dC, dI)) (ci := 3) (v := .int (jI 0)) (ty := (.int)) (C := RXT) (T := TXT) (N := 4) hx hb hts (fun w h => jmem (inXT w h)) tyXT tyXT_ok nXT hown hK hP hD hS 0 rfl rfl 3 (by decide) (hts _ (jmem tw_33)) (fun _ h9 => h9) rfl (by decide +kernel) rfl rfl (Nat.le_of_ble_eq_true rfl) dXT_init_25 (fun H locs hP hD hS => ?_)
  have hP : va_P (dC, dI) vwCl [(ta, .inr (3, [.ref q, .int (jI 0), .int (jI 0), .int (jI 0)])), (q, .inl (cA, 400, .inl (jA (fun _ => 0))))] H := hP
  have hD : va_D A [(ta, .inr (3, [.ref q, .int (jI 0), .int (jI 0), .int (jI 0)])), (q, .inl (cA, 400, .inl (jA (fun _ => 0))))] := hD
  refine W.widen (k := 1) (n := 400) (Nat.le_of_ble_eq_true rfl) (Nat.le_of_ble_eq_true rfl) ?_
  have hP9 := hP.sub (ws' := [(ta, .inr (3, [.ref q, .int (jI 0), .int (jI 0), .int (jI 0)])), (q, .inl (cA, 400, .inl (jA (fun _ => 0))))]) [0, 1] rfl
  have hD9 := hD.sub (ws' := [(ta, .inr (3, [.ref q, .int (jI 0), .int (jI 0), .int (jI 0)])), (q, .inl (cA, 400, .inl (jA (fun _ => 0))))]) [0, 1] (by decide) rfl
  subst hAe
  subst hQ
  exact W.vret hx hb hr (fun t ht hW => ⟨⟨q, rfl, trivial, ⟨by rw [ht]; exact hP9, va_K.moved hW.alike hK, hD9⟩⟩, hS.F ht⟩) hS.2.2 dXT_init_28
set_option maxHeartbeats 4000000 in
set_option maxRecDepth 100000 in
theorem c_XP_init (l : Launch) (dC : Nat → ClassId) (dI : Nat → Nat → Nat) (cA : ClassId) (sz : Nat) (pa : Nat) : Met l yXP_init (Cond.code yXP_init cXP_init 1 none :: TBL) ({ frames := 1, cells := 1, slots := 160, locals := 12 } : Room) (va_Pc [.ref pa] (jBw (dC, dI) [(cA, .int)] [(pa, .inr (1, [.null, .int (jI 0)]))] sz)) (va_Qv (fun (u : Nat) => True) (fun u t => jE (dC, dI) [(cA, .int)] [(pa, .inr (1, [.null, .int (jI 0)]))] sz [(pa, .inr (1, [.ref u, .int (jI 0)])), (u, .inl (cA, 160, .inl (jA (fun _ => 0))))] t) (va_A [(pa, .inr (1, [.null, .int (jI 0)]))] sz)) 1 160 (va_A [(pa, .inr (1, [.null, .int (jI 0)]))] sz) := by
  refine jMet (cc := cXP_init) (maxL := 1) (ret := none) (by decide) rfl ?_
  intro p e s m args below meth c s₁ R Q hR hQ B hml hv
  obtain ⟨rfl, hsz, hP, hK, hD0, hN⟩ := hv
  have hx := B.exec
  have hb := B.bytes
  have hr := B.returns
  have hts := atoms_spec (ws := Cond.code yXP_init cXP_init 1 none :: TBL) B.pre
  have hown : s.vm.findClass RXP = some m.cls := findClass_of_methodNamed B.named
  have hlocks := B.notSynchronized
  have hin : meth.name = "<init>" := (name_of_methodNamed B.named B.method).1
  subst hsz
  obtain ⟨A, hAe⟩ : ∃ A, A = va_A [(pa, .inr (1, [.null, .int (jI 0)]))] s.heap.size := ⟨_, rfl⟩
  have hD : va_D A [(pa, .inr (1, [.null, .int (jI 0)]))] := by rw [hAe]; exact hD0.self
  have hA : ∀ q : Nat, s.heap.size ≤ q → A q := fun q h => by rw [hAe]; exact Or.inr h
  have hS : va_S A s.heap s.heap [] := va_S.rf
  have hP : va_P (dC, dI) vwCl [(pa, .inr (1, [.null, .int (jI 0)]))] s.heap := hP
  have hl := lv_entry ([.ref pa]) (n := 1) (Nat.le_of_ble_eq_true rfl)
  rw [lg_entry_eq]
  generalize (lg_sl ([.ref pa]) ++ List.replicate (1 - (lg_sl ([.ref pa])).length) Slot.unset).toArray = ls at hl ⊢
  have hl : lv_has ls 1 [(0, .ref pa)] := hl
  refine lv_aload_n hx hb dXP_init_0 rfl (lv_at hl 0 rfl) ?_
  refine W.objInit hx hb hown (hts _ (jmem tw_59)) (hts _ (jmem tw_22)) (hts _ (jmem tw_23)) rfl (by rw [hml]; exact hl.1) rfl dXP_init_1 (by rw [hR]; exact Nat.le_of_ble_eq_true rfl) (by rw [hR]; exact Nat.le_of_ble_eq_true rfl) ?_
  refine lv_aload_n hx hb dXP_init_4 rfl (lv_at hl 0 rfl) ?_
  refine ji_sipush hx hb dXP_init_5 (by decide) ?_
  refine ji_newa (N := 160) hx hb (hts _ (jmem tw_43)) hK hP hD hS hA 0 rfl rfl (by decide) (by rw [hR]; exact Nat.le_of_ble_eq_true rfl) (by rw [hR]; exact Nat.le_of_ble_eq_true rfl) dXP_init_8 (fun q H hP hD hS => ?_)
  have hP : va_P (dC, dI) vwCl [(pa, .inr (1, [.null, .int (jI 0)])), (q, .inl (cA, 160, .inl (jA (fun _ => 0))))] H := hP
  have hD : va_D A [(pa, .inr (1, [.null, .int (jI 0)])), (q, .inl (cA, 160, .inl (jA (fun _ => 0))))] := hD
  refine va_putF (D := (dC, dI)) (ci := 1) (v := .ref q) (ty := (.array .int)) (C := RXP) (T := TXP) (N := 2) hx hb hts (fun w h => jmem (inXP w h)) tyXP tyXP_ok nXP hown hK hP hD hS 0 rfl rfl 0 (by decide) (hts _ (jmem tw_60)) (fun _ h9 => h9) rfl hin rfl (by decide +kernel) rfl rfl (Nat.le_of_ble_eq_true rfl) dXP_init_10 (fun H locs hP hD hS => ?_)
  have hP : va_P (dC, dI) vwCl [(pa, .inr (1, [.ref q, .int (jI 0)])), (q, .inl (cA, 160, .inl (jA (fun _ => 0))))] H := hP
  have hD : va_D A [(pa, .inr (1, [.ref q, .int (jI 0)])), (q, .inl (cA, 160, .inl (jA (fun _ => 0))))] := hD
  refine lv_aload_n hx hb dXP_init_13 rfl (lv_at hl 0 rfl) ?_
  refine ji_iconst hx hb dXP_init_14 ?_
  refine va_put (D := (dC, dI)) (ci := 1) (v := .int (jI 0)) (ty := (.int)) (C := RXP) (T := TXP) (N := 2) hx hb hts (fun w h => jmem (inXP w h)) tyXP tyXP_ok nXP hown hK hP hD hS 0 rfl rfl 1 (by decide) (hts _ (jmem tw_61)) (fun _ h9 => h9) rfl (by decide +kernel) rfl rfl (Nat.le_of_ble_eq_true rfl) dXP_init_15 (fun H locs hP hD hS => ?_)
  have hP : va_P (dC, dI) vwCl [(pa, .inr (1, [.ref q, .int (jI 0)])), (q, .inl (cA, 160, .inl (jA (fun _ => 0))))] H := hP
  have hD : va_D A [(pa, .inr (1, [.ref q, .int (jI 0)])), (q, .inl (cA, 160, .inl (jA (fun _ => 0))))] := hD
  refine W.widen (k := 1) (n := 160) (Nat.le_of_ble_eq_true rfl) (Nat.le_of_ble_eq_true rfl) ?_
  have hP9 := hP.sub (ws' := [(pa, .inr (1, [.ref q, .int (jI 0)])), (q, .inl (cA, 160, .inl (jA (fun _ => 0))))]) [0, 1] rfl
  have hD9 := hD.sub (ws' := [(pa, .inr (1, [.ref q, .int (jI 0)])), (q, .inl (cA, 160, .inl (jA (fun _ => 0))))]) [0, 1] (by decide) rfl
  subst hAe
  subst hQ
  exact W.vret hx hb hr (fun t ht hW => ⟨⟨q, rfl, trivial, ⟨by rw [ht]; exact hP9, va_K.moved hW.alike hK, hD9⟩⟩, hS.F ht⟩) hS.2.2 dXP_init_18
set_option maxHeartbeats 4000000 in
set_option maxRecDepth 100000 in
theorem c_XB_init (l : Launch) (dC : Nat → ClassId) (dI : Nat → Nat → Nat) (cA : ClassId) (sz : Nat) (ba : Nat) : Met l yXB_init (Cond.code yXB_init cXB_init 1 none :: TBL) ({ frames := 1, cells := 7, slots := 745, locals := 12 } : Room) (va_Pc [.ref ba] (jBw (dC, dI) [(cA, .int)] [(ba, .inr (0, [.null, .null, .null, .null, .null, .null, .null, .int (jI 0), .int (jI 0)]))] sz)) (va_Qv (fun (u : Nat × Nat × Nat × Nat × Nat × Nat × Nat) => True) (fun u t => jE (dC, dI) [(cA, .int)] [(ba, .inr (0, [.null, .null, .null, .null, .null, .null, .null, .int (jI 0), .int (jI 0)]))] sz [(ba, .inr (0, [.ref u.1, .ref u.2.1, .ref u.2.2.1, .ref u.2.2.2.1, .ref u.2.2.2.2.1, .ref u.2.2.2.2.2.1, .ref u.2.2.2.2.2.2, .int (jI 0), .int (jI 0)])), (u.1, .inl (cA, 31, .inl (jA (fun _ => 0)))), (u.2.1, .inl (cA, 31, .inl (jA (fun _ => 0)))), (u.2.2.1, .inl (cA, 248, .inl (jA (fun _ => 0)))), (u.2.2.2.1, .inl (cA, 248, .inl (jA (fun _ => 0)))), (u.2.2.2.2.1, .inl (cA, 124, .inl (jA (fun _ => 0)))), (u.2.2.2.2.2.1, .inl (cA, 31, .inl (jA (fun _ => 0)))), (u.2.2.2.2.2.2, .inl (cA, 32, .inl (jA (fun _ => 0))))] t) (va_A [(ba, .inr (0, [.null, .null, .null, .null, .null, .null, .null, .int (jI 0), .int (jI 0)]))] sz)) 7 745 (va_A [(ba, .inr (0, [.null, .null, .null, .null, .null, .null, .null, .int (jI 0), .int (jI 0)]))] sz) := by
  refine jMet (cc := cXB_init) (maxL := 1) (ret := none) (by decide) rfl ?_
  intro p e s m args below meth c s₁ R Q hR hQ B hml hv
  obtain ⟨rfl, hsz, hP, hK, hD0, hN⟩ := hv
  have hx := B.exec
  have hb := B.bytes
  have hr := B.returns
  have hts := atoms_spec (ws := Cond.code yXB_init cXB_init 1 none :: TBL) B.pre
  have hown : s.vm.findClass RXB = some m.cls := findClass_of_methodNamed B.named
  have hlocks := B.notSynchronized
  have hin : meth.name = "<init>" := (name_of_methodNamed B.named B.method).1
  subst hsz
  obtain ⟨A, hAe⟩ : ∃ A, A = va_A [(ba, .inr (0, [.null, .null, .null, .null, .null, .null, .null, .int (jI 0), .int (jI 0)]))] s.heap.size := ⟨_, rfl⟩
  have hD : va_D A [(ba, .inr (0, [.null, .null, .null, .null, .null, .null, .null, .int (jI 0), .int (jI 0)]))] := by rw [hAe]; exact hD0.self
  have hA : ∀ q : Nat, s.heap.size ≤ q → A q := fun q h => by rw [hAe]; exact Or.inr h
  have hS : va_S A s.heap s.heap [] := va_S.rf
  have hP : va_P (dC, dI) vwCl [(ba, .inr (0, [.null, .null, .null, .null, .null, .null, .null, .int (jI 0), .int (jI 0)]))] s.heap := hP
  have hl := lv_entry ([.ref ba]) (n := 1) (Nat.le_of_ble_eq_true rfl)
  rw [lg_entry_eq]
  generalize (lg_sl ([.ref ba]) ++ List.replicate (1 - (lg_sl ([.ref ba])).length) Slot.unset).toArray = ls at hl ⊢
  have hl : lv_has ls 1 [(0, .ref ba)] := hl
  refine lv_aload_n hx hb dXB_init_0 rfl (lv_at hl 0 rfl) ?_
  refine W.objInit hx hb hown (hts _ (jmem tw_72)) (hts _ (jmem tw_22)) (hts _ (jmem tw_23)) rfl (by rw [hml]; exact hl.1) rfl dXB_init_1 (by rw [hR]; exact Nat.le_of_ble_eq_true rfl) (by rw [hR]; exact Nat.le_of_ble_eq_true rfl) ?_
  refine lv_aload_n hx hb dXB_init_4 rfl (lv_at hl 0 rfl) ?_
  refine ji_bipush hx hb dXB_init_5 (by decide) ?_
  refine ji_newa (N := 31) hx hb (hts _ (jmem tw_43)) hK hP hD hS hA 0 rfl rfl (by decide) (by rw [hR]; exact Nat.le_of_ble_eq_true rfl) (by rw [hR]; exact Nat.le_of_ble_eq_true rfl) dXB_init_7 (fun q H hP hD hS => ?_)
  have hP : va_P (dC, dI) vwCl [(ba, .inr (0, [.null, .null, .null, .null, .null, .null, .null, .int (jI 0), .int (jI 0)])), (q, .inl (cA, 31, .inl (jA (fun _ => 0))))] H := hP
  have hD : va_D A [(ba, .inr (0, [.null, .null, .null, .null, .null, .null, .null, .int (jI 0), .int (jI 0)])), (q, .inl (cA, 31, .inl (jA (fun _ => 0))))] := hD
  refine va_putF (D := (dC, dI)) (ci := 0) (v := .ref q) (ty := (.array .int)) (C := RXB) (T := TXB) (N := 9) hx hb hts (fun w h => jmem (inXB w h)) tyXB tyXB_ok nXB hown hK hP hD hS 0 rfl rfl 0 (by decide) (hts _ (jmem tw_73)) (fun _ h9 => h9) rfl hin rfl (by decide +kernel) rfl rfl (Nat.le_of_ble_eq_true rfl) dXB_init_9 (fun H locs hP hD hS => ?_)
  have hP : va_P (dC, dI) vwCl [(ba, .inr (0, [.ref q, .null, .null, .null, .null, .null, .null, .int (jI 0), .int (jI 0)])), (q, .inl (cA, 31, .inl (jA (fun _ => 0))))] H := hP
  have hD : va_D A [(ba, .inr (0, [.ref q, .null, .null, .null, .null, .null, .null, .int (jI 0), .int (jI 0)])), (q, .inl (cA, 31, .inl (jA (fun _ => 0))))] := hD
  refine lv_aload_n hx hb dXB_init_12 rfl (lv_at hl 0 rfl) ?_
  refine ji_bipush hx hb dXB_init_13 (by decide) ?_
  refine ji_newa (N := 31) hx hb (hts _ (jmem tw_43)) hK hP hD hS hA 0 rfl rfl (by decide) (by rw [hR]; exact Nat.le_of_ble_eq_true rfl) (by rw [hR]; exact Nat.le_of_ble_eq_true rfl) dXB_init_15 (fun q1 H hP hD hS => ?_)
  have hP : va_P (dC, dI) vwCl [(ba, .inr (0, [.ref q, .null, .null, .null, .null, .null, .null, .int (jI 0), .int (jI 0)])), (q, .inl (cA, 31, .inl (jA (fun _ => 0)))), (q1, .inl (cA, 31, .inl (jA (fun _ => 0))))] H := hP
  have hD : va_D A [(ba, .inr (0, [.ref q, .null, .null, .null, .null, .null, .null, .int (jI 0), .int (jI 0)])), (q, .inl (cA, 31, .inl (jA (fun _ => 0)))), (q1, .inl (cA, 31, .inl (jA (fun _ => 0))))] := hD
  refine va_putF (D := (dC, dI)) (ci := 0) (v := .ref q1) (ty := (.array .int)) (C := RXB) (T := TXB) (N := 9) hx hb hts (fun w h => jmem (inXB w h)) tyXB tyXB_ok nXB hown hK hP hD hS 0 rfl rfl 1 (by decide) (hts _ (jmem tw_74)) (fun _ h9 => h9) rfl hin rfl (by decide +kernel) rfl rfl (Nat.le_of_ble_eq_true rfl) dXB_init_17 (fun H locs hP hD hS => ?_)
  have hP : va_P (dC, dI) vwCl [(ba, .inr (0, [.ref q, .ref q1, .null, .null, .null, .null, .null, .int (jI 0), .int (jI 0)])), (q, .inl (cA, 31, .inl (jA (fun _ => 0)))), (q1, .inl (cA, 31, .inl (jA (fun _ => 0))))] H := hP
  have hD : va_D A [(ba, .inr (0, [.ref q, .ref q1, .null, .null, .null, .null, .null, .int (jI 0), .int (jI 0)])), (q, .inl (cA, 31, .inl (jA (fun _ => 0)))), (q1, .inl (cA, 31, .inl (jA (fun _ => 0))))] := hD
  refine lv_aload_n hx hb dXB_init_20 rfl (lv_at hl 0 rfl) ?_
  refine ji_sipush hx hb dXB_init_21 (by decide) ?_
  refine ji_newa (N := 248) hx hb (hts _ (jmem tw_43)) hK hP hD hS hA 0 rfl rfl (by decide) (by rw [hR]; exact Nat.le_of_ble_eq_true rfl) (by rw [hR]; exact Nat.le_of_ble_eq_true rfl) dXB_init_24 (fun q2 H hP hD hS => ?_)
  have hP : va_P (dC, dI) vwCl [(ba, .inr (0, [.ref q, .ref q1, .null, .null, .null, .null, .null, .int (jI 0), .int (jI 0)])), (q, .inl (cA, 31, .inl (jA (fun _ => 0)))), (q1, .inl (cA, 31, .inl (jA (fun _ => 0)))), (q2, .inl (cA, 248, .inl (jA (fun _ => 0))))] H := hP
  have hD : va_D A [(ba, .inr (0, [.ref q, .ref q1, .null, .null, .null, .null, .null, .int (jI 0), .int (jI 0)])), (q, .inl (cA, 31, .inl (jA (fun _ => 0)))), (q1, .inl (cA, 31, .inl (jA (fun _ => 0)))), (q2, .inl (cA, 248, .inl (jA (fun _ => 0))))] := hD
  refine va_putF (D := (dC, dI)) (ci := 0) (v := .ref q2) (ty := (.array .int)) (C := RXB) (T := TXB) (N := 9) hx hb hts (fun w h => jmem (inXB w h)) tyXB tyXB_ok nXB hown hK hP hD hS 0 rfl rfl 2 (by decide) (hts _ (jmem tw_75)) (fun _ h9 => h9) rfl hin rfl (by decide +kernel) rfl rfl (Nat.le_of_ble_eq_true rfl) dXB_init_26 (fun H locs hP hD hS => ?_)
  have hP : va_P (dC, dI) vwCl [(ba, .inr (0, [.ref q, .ref q1, .ref q2, .null, .null, .null, .null, .int (jI 0), .int (jI 0)])), (q, .inl (cA, 31, .inl (jA (fun _ => 0)))), (q1, .inl (cA, 31, .inl (jA (fun _ => 0)))), (q2, .inl (cA, 248, .inl (jA (fun _ => 0))))] H := hP
  have hD : va_D A [(ba, .inr (0, [.ref q, .ref q1, .ref q2, .null, .null, .null, .null, .int (jI 0), .int (jI 0)])), (q, .inl (cA, 31, .inl (jA (fun _ => 0)))), (q1, .inl (cA, 31, .inl (jA (fun _ => 0)))), (q2, .inl (cA, 248, .inl (jA (fun _ => 0))))] := hD
  refine lv_aload_n hx hb dXB_init_29 rfl (lv_at hl 0 rfl) ?_
  refine ji_sipush hx hb dXB_init_30 (by decide) ?_
  refine ji_newa (N := 248) hx hb (hts _ (jmem tw_43)) hK hP hD hS hA 0 rfl rfl (by decide) (by rw [hR]; exact Nat.le_of_ble_eq_true rfl) (by rw [hR]; exact Nat.le_of_ble_eq_true rfl) dXB_init_33 (fun q3 H hP hD hS => ?_)
  have hP : va_P (dC, dI) vwCl [(ba, .inr (0, [.ref q, .ref q1, .ref q2, .null, .null, .null, .null, .int (jI 0), .int (jI 0)])), (q, .inl (cA, 31, .inl (jA (fun _ => 0)))), (q1, .inl (cA, 31, .inl (jA (fun _ => 0)))), (q2, .inl (cA, 248, .inl (jA (fun _ => 0)))), (q3, .inl (cA, 248, .inl (jA (fun _ => 0))))] H := hP
  have hD : va_D A [(ba, .inr (0, [.ref q, .ref q1, .ref q2, .null, .null, .null, .null, .int (jI 0), .int (jI 0)])), (q, .inl (cA, 31, .inl (jA (fun _ => 0)))), (q1, .inl (cA, 31, .inl (jA (fun _ => 0)))), (q2, .inl (cA, 248, .inl (jA (fun _ => 0)))), (q3, .inl (cA, 248, .inl (jA (fun _ => 0))))] := hD
  refine va_putF (D := (dC, dI)) (ci := 0) (v := .ref q3) (ty := (.array .int)) (C := RXB) (T := TXB) (N := 9) hx hb hts (fun w h => jmem (inXB w h)) tyXB tyXB_ok nXB hown hK hP hD hS 0 rfl rfl 3 (by decide) (hts _ (jmem tw_76)) (fun _ h9 => h9) rfl hin rfl (by decide +kernel) rfl rfl (Nat.le_of_ble_eq_true rfl) dXB_init_35 (fun H locs hP hD hS => ?_)
  have hP : va_P (dC, dI) vwCl [(ba, .inr (0, [.ref q, .ref q1, .ref q2, .ref q3, .null, .null, .null, .int (jI 0), .int (jI 0)])), (q, .inl (cA, 31, .inl (jA (fun _ => 0)))), (q1, .inl (cA, 31, .inl (jA (fun _ => 0)))), (q2, .inl (cA, 248, .inl (jA (fun _ => 0)))), (q3, .inl (cA, 248, .inl (jA (fun _ => 0))))] H := hP
  have hD : va_D A [(ba, .inr (0, [.ref q, .ref q1, .ref q2, .ref q3, .null, .null, .null, .int (jI 0), .int (jI 0)])), (q, .inl (cA, 31, .inl (jA (fun _ => 0)))), (q1, .inl (cA, 31, .inl (jA (fun _ => 0)))), (q2, .inl (cA, 248, .inl (jA (fun _ => 0)))), (q3, .inl (cA, 248, .inl (jA (fun _ => 0))))] := hD
  refine lv_aload_n hx hb dXB_init_38 rfl (lv_at hl 0 rfl) ?_
  refine ji_bipush hx hb dXB_init_39 (by decide) ?_
  refine ji_newa (N := 124) hx hb (hts _ (jmem tw_43)) hK hP hD hS hA 0 rfl rfl (by decide) (by rw [hR]; exact Nat.le_of_ble_eq_true rfl) (by rw [hR]; exact Nat.le_of_ble_eq_true rfl) dXB_init_41 (fun q4 H hP hD hS => ?_)
  have hP : va_P (dC, dI) vwCl [(ba, .inr (0, [.ref q, .ref q1, .ref q2, .ref q3, .null, .null, .null, .int (jI 0), .int (jI 0)])), (q, .inl (cA, 31, .inl (jA (fun _ => 0)))), (q1, .inl (cA, 31, .inl (jA (fun _ => 0)))), (q2, .inl (cA, 248, .inl (jA (fun _ => 0)))), (q3, .inl (cA, 248, .inl (jA (fun _ => 0)))), (q4, .inl (cA, 124, .inl (jA (fun _ => 0))))] H := hP
  have hD : va_D A [(ba, .inr (0, [.ref q, .ref q1, .ref q2, .ref q3, .null, .null, .null, .int (jI 0), .int (jI 0)])), (q, .inl (cA, 31, .inl (jA (fun _ => 0)))), (q1, .inl (cA, 31, .inl (jA (fun _ => 0)))), (q2, .inl (cA, 248, .inl (jA (fun _ => 0)))), (q3, .inl (cA, 248, .inl (jA (fun _ => 0)))), (q4, .inl (cA, 124, .inl (jA (fun _ => 0))))] := hD
  refine va_putF (D := (dC, dI)) (ci := 0) (v := .ref q4) (ty := (.array .int)) (C := RXB) (T := TXB) (N := 9) hx hb hts (fun w h => jmem (inXB w h)) tyXB tyXB_ok nXB hown hK hP hD hS 0 rfl rfl 4 (by decide) (hts _ (jmem tw_77)) (fun _ h9 => h9) rfl hin rfl (by decide +kernel) rfl rfl (Nat.le_of_ble_eq_true rfl) dXB_init_43 (fun H locs hP hD hS => ?_)
  have hP : va_P (dC, dI) vwCl [(ba, .inr (0, [.ref q, .ref q1, .ref q2, .ref q3, .ref q4, .null, .null, .int (jI 0), .int (jI 0)])), (q, .inl (cA, 31, .inl (jA (fun _ => 0)))), (q1, .inl (cA, 31, .inl (jA (fun _ => 0)))), (q2, .inl (cA, 248, .inl (jA (fun _ => 0)))), (q3, .inl (cA, 248, .inl (jA (fun _ => 0)))), (q4, .inl (cA, 124, .inl (jA (fun _ => 0))))] H := hP
  have hD : va_D A [(ba, .inr (0, [.ref q, .ref q1, .ref q2, .ref q3, .ref q4, .null, .null, .int (jI 0), .int (jI 0)])), (q, .inl (cA, 31, .inl (jA (fun _ => 0)))), (q1, .inl (cA, 31, .inl (jA (fun _ => 0)))), (q2, .inl (cA, 248, .inl (jA (fun _ => 0)))), (q3, .inl (cA, 248, .inl (jA (fun _ => 0)))), (q4, .inl (cA, 124, .inl (jA (fun _ => 0))))] := hD
  refine lv_aload_n hx hb dXB_init_46 rfl (lv_at hl 0 rfl) ?_
  refine ji_bipush hx hb dXB_init_47 (by decide) ?_
  refine ji_newa (N := 31) hx hb (hts _ (jmem tw_43)) hK hP hD hS hA 0 rfl rfl (by decide) (by rw [hR]; exact Nat.le_of_ble_eq_true rfl) (by rw [hR]; exact Nat.le_of_ble_eq_true rfl) dXB_init_49 (fun q5 H hP hD hS => ?_)
  have hP : va_P (dC, dI) vwCl [(ba, .inr (0, [.ref q, .ref q1, .ref q2, .ref q3, .ref q4, .null, .null, .int (jI 0), .int (jI 0)])), (q, .inl (cA, 31, .inl (jA (fun _ => 0)))), (q1, .inl (cA, 31, .inl (jA (fun _ => 0)))), (q2, .inl (cA, 248, .inl (jA (fun _ => 0)))), (q3, .inl (cA, 248, .inl (jA (fun _ => 0)))), (q4, .inl (cA, 124, .inl (jA (fun _ => 0)))), (q5, .inl (cA, 31, .inl (jA (fun _ => 0))))] H := hP
  have hD : va_D A [(ba, .inr (0, [.ref q, .ref q1, .ref q2, .ref q3, .ref q4, .null, .null, .int (jI 0), .int (jI 0)])), (q, .inl (cA, 31, .inl (jA (fun _ => 0)))), (q1, .inl (cA, 31, .inl (jA (fun _ => 0)))), (q2, .inl (cA, 248, .inl (jA (fun _ => 0)))), (q3, .inl (cA, 248, .inl (jA (fun _ => 0)))), (q4, .inl (cA, 124, .inl (jA (fun _ => 0)))), (q5, .inl (cA, 31, .inl (jA (fun _ => 0))))] := hD
  refine va_putF (D := (dC, dI)) (ci := 0) (v := .ref q5) (ty := (.array .int)) (C := RXB) (T := TXB) (N := 9) hx hb hts (fun w h => jmem (inXB w h)) tyXB tyXB_ok nXB hown hK hP hD hS 0 rfl rfl 5 (by decide) (hts _ (jmem tw_78)) (fun _ h9 => h9) rfl hin rfl (by decide +kernel) rfl rfl (Nat.le_of_ble_eq_true rfl) dXB_init_51 (fun H locs hP hD hS => ?_)
  have hP : va_P (dC, dI) vwCl [(ba, .inr (0, [.ref q, .ref q1, .ref q2, .ref q3, .ref q4, .ref q5, .null, .int (jI 0), .int (jI 0)])), (q, .inl (cA, 31, .inl (jA (fun _ => 0)))), (q1, .inl (cA, 31, .inl (jA (fun _ => 0)))), (q2, .inl (cA, 248, .inl (jA (fun _ => 0)))), (q3, .inl (cA, 248, .inl (jA (fun _ => 0)))), (q4, .inl (cA, 124, .inl (jA (fun _ => 0)))), (q5, .inl (cA, 31, .inl (jA (fun _ => 0))))] H := hP
  have hD : va_D A [(ba, .inr (0, [.ref q, .ref q1, .ref q2, .ref q3, .ref q4, .ref q5, .null, .int (jI 0), .int (jI 0)])), (q, .inl (cA, 31, .inl (jA (fun _ => 0)))), (q1, .inl (cA, 31, .inl (jA (fun _ => 0)))), (q2, .inl (cA, 248, .inl (jA (fun _ => 0)))), (q3, .inl (cA, 248, .inl (jA (fun _ => 0)))), (q4, .inl (cA, 124, .inl (jA (fun _ => 0)))), (q5, .inl (cA, 31, .inl (jA (fun _ => 0))))] := hD
  refine lv_aload_n hx hb dXB_init_54 rfl (lv_at hl 0 rfl) ?_
  refine ji_bipush hx hb dXB_init_55 (by decide) ?_
  refine ji_newa (N := 32) hx hb (hts _ (jmem tw_43)) hK hP hD hS hA 0 rfl rfl (by decide) (by rw [hR]; exact Nat.le_of_ble_eq_true rfl) (by rw [hR]; exact Nat.le_of_ble_eq_true rfl) dXB_init_57 (fun q6 H hP hD hS => ?_)
  have hP : va_P (dC, dI) vwCl [(ba, .inr (0, [.ref q, .ref q1, .ref q2, .ref q3, .ref q4, .ref q5, .null, .int (jI 0), .int (jI 0)])), (q, .inl (cA, 31, .inl (jA (fun _ => 0)))), (q1, .inl (cA, 31, .inl (jA (fun _ => 0)))), (q2, .inl (cA, 248, .inl (jA (fun _ => 0)))), (q3, .inl (cA, 248, .inl (jA (fun _ => 0)))), (q4, .inl (cA, 124, .inl (jA (fun _ => 0)))), (q5, .inl (cA, 31, .inl (jA (fun _ => 0)))), (q6, .inl (cA, 32, .inl (jA (fun _ => 0))))] H := hP
  have hD : va_D A [(ba, .inr (0, [.ref q, .ref q1, .ref q2, .ref q3, .ref q4, .ref q5, .null, .int (jI 0), .int (jI 0)])), (q, .inl (cA, 31, .inl (jA (fun _ => 0)))), (q1, .inl (cA, 31, .inl (jA (fun _ => 0)))), (q2, .inl (cA, 248, .inl (jA (fun _ => 0)))), (q3, .inl (cA, 248, .inl (jA (fun _ => 0)))), (q4, .inl (cA, 124, .inl (jA (fun _ => 0)))), (q5, .inl (cA, 31, .inl (jA (fun _ => 0)))), (q6, .inl (cA, 32, .inl (jA (fun _ => 0))))] := hD
  refine va_putF (D := (dC, dI)) (ci := 0) (v := .ref q6) (ty := (.array .int)) (C := RXB) (T := TXB) (N := 9) hx hb hts (fun w h => jmem (inXB w h)) tyXB tyXB_ok nXB hown hK hP hD hS 0 rfl rfl 6 (by decide) (hts _ (jmem tw_79)) (fun _ h9 => h9) rfl hin rfl (by decide +kernel) rfl rfl (Nat.le_of_ble_eq_true rfl) dXB_init_59 (fun H locs hP hD hS => ?_)
  have hP : va_P (dC, dI) vwCl [(ba, .inr (0, [.ref q, .ref q1, .ref q2, .ref q3, .ref q4, .ref q5, .ref q6, .int (jI 0), .int (jI 0)])), (q, .inl (cA, 31, .inl (jA (fun _ => 0)))), (q1, .inl (cA, 31, .inl (jA (fun _ => 0)))), (q2, .inl (cA, 248, .inl (jA (fun _ => 0)))), (q3, .inl (cA, 248, .inl (jA (fun _ => 0)))), (q4, .inl (cA, 124, .inl (jA (fun _ => 0)))), (q5, .inl (cA, 31, .inl (jA (fun _ => 0)))), (q6, .inl (cA, 32, .inl (jA (fun _ => 0))))] H := hP
  have hD : va_D A [(ba, .inr (0, [.ref q, .ref q1, .ref q2, .ref q3, .ref q4, .ref q5, .ref q6, .int (jI 0), .int (jI 0)])), (q, .inl (cA, 31, .inl (jA (fun _ => 0)))), (q1, .inl (cA, 31, .inl (jA (fun _ => 0)))), (q2, .inl (cA, 248, .inl (jA (fun _ => 0)))), (q3, .inl (cA, 248, .inl (jA (fun _ => 0)))), (q4, .inl (cA, 124, .inl (jA (fun _ => 0)))), (q5, .inl (cA, 31, .inl (jA (fun _ => 0)))), (q6, .inl (cA, 32, .inl (jA (fun _ => 0))))] := hD
  refine lv_aload_n hx hb dXB_init_62 rfl (lv_at hl 0 rfl) ?_
  refine ji_iconst hx hb dXB_init_63 ?_
  refine va_put (D := (dC, dI)) (ci := 0) (v := .int (jI 0)) (ty := (.int)) (C := RXB) (T := TXB) (N := 9) hx hb hts (fun w h => jmem (inXB w h)) tyXB tyXB_ok nXB hown hK hP hD hS 0 rfl rfl 7 (by decide) (hts _ (jmem tw_80)) (fun _ h9 => h9) rfl (by decide +kernel) rfl rfl (Nat.le_of_ble_eq_true rfl) dXB_init_64 (fun H locs hP hD hS => ?_)
  have hP : va_P (dC, dI) vwCl [(ba, .inr (0, [.ref q, .ref q1, .ref q2, .ref q3, .ref q4, .ref q5, .ref q6, .int (jI 0), .int (jI 0)])), (q, .inl (cA, 31, .inl (jA (fun _ => 0)))), (q1, .inl (cA, 31, .inl (jA (fun _ => 0)))), (q2, .inl (cA, 248, .inl (jA (fun _ => 0)))), (q3, .inl (cA, 248, .inl (jA (fun _ => 0)))), (q4, .inl (cA, 124, .inl (jA (fun _ => 0)))), (q5, .inl (cA, 31, .inl (jA (fun _ => 0)))), (q6, .inl (cA, 32, .inl (jA (fun _ => 0))))] H := hP
  have hD : va_D A [(ba, .inr (0, [.ref q, .ref q1, .ref q2, .ref q3, .ref q4, .ref q5, .ref q6, .int (jI 0), .int (jI 0)])), (q, .inl (cA, 31, .inl (jA (fun _ => 0)))), (q1, .inl (cA, 31, .inl (jA (fun _ => 0)))), (q2, .inl (cA, 248, .inl (jA (fun _ => 0)))), (q3, .inl (cA, 248, .inl (jA (fun _ => 0)))), (q4, .inl (cA, 124, .inl (jA (fun _ => 0)))), (q5, .inl (cA, 31, .inl (jA (fun _ => 0)))), (q6, .inl (cA, 32, .inl (jA (fun _ => 0))))] := hD
  refine lv_aload_n hx hb dXB_init_67 rfl (lv_at hl 0 rfl) ?_
  refine ji_iconst hx hb dXB_init_68 ?_
  refine va_put (D := (dC, dI)) (ci := 0) (v := .int (jI 0)) (ty := (.int)) (C := RXB) (T := TXB) (N := 9) hx hb hts (fun w h => jmem (inXB w h)) tyXB tyXB_ok nXB hown hK hP hD hS 0 rfl rfl 8 (by decide) (hts _ (jmem tw_81)) (fun _ h9 => h9) rfl (by decide +kernel) rfl rfl (Nat.le_of_ble_eq_true rfl) dXB_init_69 (fun H locs hP hD hS => ?_)
  have hP : va_P (dC, dI) vwCl [(ba, .inr (0, [.ref q, .ref q1, .ref q2, .ref q3, .ref q4, .ref q5, .ref q6, .int (jI 0), .int (jI 0)])), (q, .inl (cA, 31, .inl (jA (fun _ => 0)))), (q1, .inl (cA, 31, .inl (jA (fun _ => 0)))), (q2, .inl (cA, 248, .inl (jA (fun _ => 0)))), (q3, .inl (cA, 248, .inl (jA (fun _ => 0)))), (q4, .inl (cA, 124, .inl (jA (fun _ => 0)))), (q5, .inl (cA, 31, .inl (jA (fun _ => 0)))), (q6, .inl (cA, 32, .inl (jA (fun _ => 0))))] H := hP
  have hD : va_D A [(ba, .inr (0, [.ref q, .ref q1, .ref q2, .ref q3, .ref q4, .ref q5, .ref q6, .int (jI 0), .int (jI 0)])), (q, .inl (cA, 31, .inl (jA (fun _ => 0)))), (q1, .inl (cA, 31, .inl (jA (fun _ => 0)))), (q2, .inl (cA, 248, .inl (jA (fun _ => 0)))), (q3, .inl (cA, 248, .inl (jA (fun _ => 0)))), (q4, .inl (cA, 124, .inl (jA (fun _ => 0)))), (q5, .inl (cA, 31, .inl (jA (fun _ => 0)))), (q6, .inl (cA, 32, .inl (jA (fun _ => 0))))] := hD
  refine W.widen (k := 7) (n := 745) (Nat.le_of_ble_eq_true rfl) (Nat.le_of_ble_eq_true rfl) ?_
  have hP9 := hP.sub (ws' := [(ba, .inr (0, [.ref q, .ref q1, .ref q2, .ref q3, .ref q4, .ref q5, .ref q6, .int (jI 0), .int (jI 0)])), (q, .inl (cA, 31, .inl (jA (fun _ => 0)))), (q1, .inl (cA, 31, .inl (jA (fun _ => 0)))), (q2, .inl (cA, 248, .inl (jA (fun _ => 0)))), (q3, .inl (cA, 248, .inl (jA (fun _ => 0)))), (q4, .inl (cA, 124, .inl (jA (fun _ => 0)))), (q5, .inl (cA, 31, .inl (jA (fun _ => 0)))), (q6, .inl (cA, 32, .inl (jA (fun _ => 0))))]) [0, 1, 2, 3, 4, 5, 6, 7] rfl
  have hD9 := hD.sub (ws' := [(ba, .inr (0, [.ref q, .ref q1, .ref q2, .ref q3, .ref q4, .ref q5, .ref q6, .int (jI 0), .int (jI 0)])), (q, .inl (cA, 31, .inl (jA (fun _ => 0)))), (q1, .inl (cA, 31, .inl (jA (fun _ => 0)))), (q2, .inl (cA, 248, .inl (jA (fun _ => 0)))), (q3, .inl (cA, 248, .inl (jA (fun _ => 0)))), (q4, .inl (cA, 124, .inl (jA (fun _ => 0)))), (q5, .inl (cA, 31, .inl (jA (fun _ => 0)))), (q6, .inl (cA, 32, .inl (jA (fun _ => 0))))]) [0, 1, 2, 3, 4, 5, 6, 7] (by decide) rfl
  subst hAe
  subst hQ
  exact W.vret hx hb hr (fun t ht hW => ⟨⟨(q, q1, q2, q3, q4, q5, q6), rfl, trivial, ⟨by rw [ht]; exact hP9, va_K.moved hW.alike hK, hD9⟩⟩, hS.F ht⟩) hS.2.2 dXB_init_72
set_option maxHeartbeats 4000000 in
set_option maxRecDepth 100000 in
theorem c_XR_init (l : Launch) (dC : Nat → ClassId) (dI : Nat → Nat → Nat) (cA : ClassId) (sz : Nat) (rda : Nat) (ta : Nat) : Met l yXR_init (Cond.code yXR_init cXR_init 2 none :: TBL) ({ frames := 1, cells := 0, slots := 0, locals := 12 } : Room) (va_Pc [.ref rda, .ref ta] (jBw (dC, dI) [(cA, .int)] [(rda, .inr (2, [.null]))] sz)) (va_Qv (fun (u : Unit) => True) (fun u t => jE (dC, dI) [(cA, .int)] [(rda, .inr (2, [.null]))] sz [(rda, .inr (2, [.ref ta]))] t) (va_A [(rda, .inr (2, [.null]))] sz)) 0 0 (va_A [(rda, .inr (2, [.null]))] sz) := by
  refine jMet (cc := cXR_init) (maxL := 2) (ret := none) (by decide) rfl ?_
  intro p e s m args below meth c s₁ R Q hR hQ B hml hv
  obtain ⟨rfl, hsz, hP, hK, hD0, hN⟩ := hv
  have hx := B.exec
  have hb := B.bytes
  have hr := B.returns
  have hts := atoms_spec (ws := Cond.code yXR_init cXR_init 2 none :: TBL) B.pre
  have hown : s.vm.findClass RXR = some m.cls := findClass_of_methodNamed B.named
  have hlocks := B.notSynchronized
  have hin : meth.name = "<init>" := (name_of_methodNamed B.named B.method).1
  subst hsz
  obtain ⟨A, hAe⟩ : ∃ A, A = va_A [(rda, .inr (2, [.null]))] s.heap.size := ⟨_, rfl⟩
  have hD : va_D A [(rda, .inr (2, [.null]))] := by rw [hAe]; exact hD0.self
  have hA : ∀ q : Nat, s.heap.size ≤ q → A q := fun q h => by rw [hAe]; exact Or.inr h
  have hS : va_S A s.heap s.heap [] := va_S.rf
  have hP : va_P (dC, dI) vwCl [(rda, .inr (2, [.null]))] s.heap := hP
  have hl := lv_entry ([.ref rda, .ref ta]) (n := 2) (Nat.le_of_ble_eq_true rfl)
  rw [lg_entry_eq]
  generalize (lg_sl ([.ref rda, .ref ta]) ++ List.replicate (2 - (lg_sl ([.ref rda, .ref ta])).length) Slot.unset).toArray = ls at hl ⊢
  have hl : lv_has ls 2 [(0, .ref rda), (1, .ref ta)] := hl
  refine lv_aload_n hx hb dXR_init_0 rfl (lv_at hl 0 rfl) ?_
  refine W.objInit hx hb hown (hts _ (jmem tw_49)) (hts _ (jmem tw_22)) (hts _ (jmem tw_23)) rfl (by rw [hml]; exact hl.1) rfl dXR_init_1 (by rw [hR]; exact Nat.le_of_ble_eq_true rfl) (by rw [hR]; exact Nat.le_of_ble_eq_true rfl) ?_
  refine lv_aload_n hx hb dXR_init_4 rfl (lv_at hl 0 rfl) ?_
  refine lv_aload_n hx hb dXR_init_5 rfl (lv_at hl 1 rfl) ?_
  refine va_putF (D := (dC, dI)) (ci := 2) (v := .ref ta) (ty := (.object "GradeTexts$Tape")) (C := RXR) (T := TXR) (N := 1) hx hb hts (fun w h => jmem (inXR w h)) tyXR tyXR_ok nXR hown hK hP hD hS 0 rfl rfl 0 (by decide) (hts _ (jmem tw_50)) (fun _ h9 => h9) rfl hin rfl (by decide +kernel) rfl rfl (Nat.le_of_ble_eq_true rfl) dXR_init_6 (fun H locs hP hD hS => ?_)
  have hP : va_P (dC, dI) vwCl [(rda, .inr (2, [.ref ta]))] H := hP
  have hD : va_D A [(rda, .inr (2, [.ref ta]))] := hD
  refine W.widen (k := 0) (n := 0) (Nat.le_of_ble_eq_true rfl) (Nat.le_of_ble_eq_true rfl) ?_
  have hP9 := hP.sub (ws' := [(rda, .inr (2, [.ref ta]))]) [0] rfl
  have hD9 := hD.sub (ws' := [(rda, .inr (2, [.ref ta]))]) [0] (by decide) rfl
  subst hAe
  subst hQ
  exact W.vret hx hb hr (fun t ht hW => ⟨⟨(), rfl, trivial, ⟨by rw [ht]; exact hP9, va_K.moved hW.alike hK, hD9⟩⟩, hS.F ht⟩) hS.2.2 dXR_init_9
