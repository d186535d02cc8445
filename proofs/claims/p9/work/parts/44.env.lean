/-! the law's start -/
theorem tnm (k : Nat) {w : Cond} (h : tables_1[k]? = some w) : w ∈ lw_tbl := List.mem_append_right _ (List.mem_of_getElem? h)
theorem zSt.weak {O f d : String} {A : Nat → Prop} {U : State} {H : Heap} (h : zSt O f d A U H) : zSt O f d (fun _ => False) U H := by
  obtain ⟨c, k, i, fd, a, cell, v, hc, hf, hst, hsta, hcell, hiss, hcls, hlt, hty, hv, hr, hA⟩ := h
  exact ⟨c, k, i, fd, a, cell, v, hc, hf, hst, hsta, hcell, hiss, hcls, hlt, hty, hv, hr, id⟩
theorem lw_hts {args : Array Value} {s : State} (h : ∀ w ∈ lw_tbl, w.before args s = true) : ∀ w ∈ Cond.initialized RXL :: TBL, w.before args s = true := fun w hw => (List.mem_cons.mp hw).elim (fun e => by rw [e]; exact h _ (TBL_in _ tw_0)) (fun q => h _ (TBL_in _ q))
theorem lw_arr {args : Array Value} {s : State} {ty : FieldType} (h : (Cond.arrayClass ty).before args s = true) (hp : ∀ c : ClassId, s.vm.findClass ("[" ++ ty.toString) = some c → va_RA s c ty) : ∃ cA : ClassId, ArrOfT s cA ty ∧ va_RA s cA ty := by
  obtain ⟨c, k, comp, h1, h2, h3⟩ := Cond.arrayClass_spec h
  exact ⟨c, fun n z => ⟨fun k h => (by cases h), k, h2, comp, h3⟩, hp c h1⟩
theorem jX.now {A : Nat → Prop} {s U : State} {locs : List Loc} (hX : jX A s) (hS : va_S A s.heap U.heap locs) (hW : s.WarmedH U.vm) : jX (fun _ => False) U := by
  obtain ⟨h0, h1, h2, h3, h4, h5, h6, h7, h8, h9, h10, h11, h12, h13, h14, h15⟩ := hX
  exact ⟨((h0.kept hS.2.1).moved hW.alike).weak, ((h1.kept hS.2.1).moved hW.alike).weak, va_Nw.warmD hW h2, va_Nw.warmD hW h3, va_Nw.warmD hW h4, va_Nw.warmC hW h5, va_Nw.warmC hW h6, va_Nw.warmC hW h7, va_Nw.warmC hW h8, h9.imp (fun _ h => vk_R.warm hW h), h10.imp (fun _ h => vk_R.warm hW h), h11.imp (fun _ h => vk_R.warm hW h), h12.imp (fun _ h => vk_R.warm hW h), h13.imp (fun _ h => vk_R.warm hW h), h14.imp (fun _ h => vk_R.warm hW h), h15.imp (fun _ h => vk_R.warm hW h)⟩
theorem lw_N {args : Array Value} {s : State} (h : ∀ w ∈ lw_tbl, w.before args s = true) : jN s := ⟨va_Nw.of rfl (h _ (tnm 26 (by decide +kernel))), va_Nw.of rfl (h _ (tnm 56 (by decide +kernel))), va_Nw.of rfl (h _ (tnm 69 (by decide +kernel))), va_Nw.of rfl (h _ (tnm 171 (by decide +kernel))), va_Nw.of rfl (h _ (tnm 198 (by decide +kernel))), va_Nw.of rfl (h _ (tnm 235 (by decide +kernel))), va_Nw.of rfl (h _ (tnm 251 (by decide +kernel)))⟩
theorem lw_K {args : Array Value} {s : State} (h : ∀ w ∈ lw_tbl, w.before args s = true) : ∃ (dC : Nat → ClassId) (dI : Nat → Nat → Nat) (cA cL cZ : ClassId), va_K (dC, dI) vwCl [(cA, .int), (cL, .long), (cZ, .boolean)] s := by
  obtain ⟨c0, i0, k0⟩ := u_known (C := RXB) (T := TXB) (N := 9) (lw_hts h) (fun w hw => jmem (inXB w hw)) (lw_hts h _ (jmem tw_68))
  obtain ⟨c1, i1, k1⟩ := u_known (C := RXP) (T := TXP) (N := 2) (lw_hts h) (fun w hw => jmem (inXP w hw)) (lw_hts h _ (jmem tw_55))
  obtain ⟨c2, i2, k2⟩ := u_known (C := RXR) (T := TXR) (N := 1) (lw_hts h) (fun w hw => jmem (inXR w hw)) (lw_hts h _ (jmem tw_45))
  obtain ⟨c3, i3, k3⟩ := u_known (C := RXT) (T := TXT) (N := 4) (lw_hts h) (fun w hw => jmem (inXT w hw)) (lw_hts h _ (jmem tw_25))
  obtain ⟨c4, i4, k4⟩ := u_known (C := RXG) (T := TXG) (N := 7) (lw_hts h) (fun w hw => jmem (inXG w hw)) (lw_hts h _ (jmem tw_17))
  obtain ⟨c5, i5, k5⟩ := u_known (C := RXM) (T := TXM) (N := 19) (lw_hts h) (fun w hw => jmem (inXM w hw)) (lw_hts h _ (jmem tw_623))
  obtain ⟨a0, r0⟩ := lw_arr (lw_hts h _ (jmem tw_43)) (fun _ q => q)
  obtain ⟨a1, r1⟩ := lw_arr (lw_hts h _ (jmem tw_867)) (fun _ q => q)
  obtain ⟨a2, r2⟩ := lw_arr (lw_hts h _ (jmem tw_686)) (fun _ q => q)
  refine ⟨fun k => match k with | 0 => c0 | 1 => c1 | 2 => c2 | 3 => c3 | 4 => c4 | _ => c5, fun k => match k with | 0 => i0 | 1 => i1 | 2 => i2 | 3 => i3 | 4 => i4 | _ => i5, a0, a1, a2, fun c q hq => ?_, fun k q hk => ?_⟩
  · match c, hq with
    | 0, hq => cases hq; exact k0
    | 1, hq => cases hq; exact k1
    | 2, hq => cases hq; exact k2
    | 3, hq => cases hq; exact k3
    | 4, hq => cases hq; exact k4
    | 5, hq => cases hq; exact k5
    | n + 6, hq => cases hq
  · match k, hk with
    | 0, hk => cases hk; exact r0
    | 1, hk => cases hk; exact r1
    | 2, hk => cases hk; exact r2
    | n + 3, hk => cases hk
theorem lw_S {args : Array Value} {s : State} {own tx : String} {k : Nat} {c : ClassId} (hc : s.vm.findClass own = some c) (h : (Cond.stringRef own k tx).before args s = true) : ∃ a, vk_R own k tx a s := by
  obtain ⟨-, -, -, a, -, -, -, -, -, hev⟩ := Cond.stringRef_spec hc h
  exact ⟨a, vk_R.of h hev⟩
theorem lw_X {b : Nat} {s : State} (h : ∀ w ∈ lw_tbl, w.before #[Value.ref b] s = true) (hg : (Jvm.Cond.and given_1 narrow_1).before #[Value.ref b] s = true) {c : ClassId} (hc : s.vm.findClass RXG = some c) : jX (fun q => s.heap.size ≤ q) s := by
  have hs := flat_of_before _ hg
  have hA : ∀ a : Nat, a < s.heap.size → ¬ s.heap.size ≤ a := fun a h => Nat.not_le.mpr h
  exact ⟨zSt.of (h _ (tnm 337 (by decide +kernel))) (hs _ (by decide +kernel)) hA, zSt.of (h _ (tnm 339 (by decide +kernel))) (hs _ (by decide +kernel)) hA, va_Nw.of rfl (h _ (tnm 314 (by decide +kernel))), va_Nw.of rfl (h _ (tnm 316 (by decide +kernel))), va_Nw.of rfl (h _ (tnm 318 (by decide +kernel))), va_Nw.of rfl (h _ (tnm 419 (by decide +kernel))), va_Nw.of rfl (h _ (tnm 470 (by decide +kernel))), va_Nw.of rfl (h _ (tnm 312 (by decide +kernel))), va_Nw.of rfl (h _ (tnm 385 (by decide +kernel))), lw_S hc (h _ (tnm 352 (by decide +kernel))), lw_S hc (h _ (tnm 392 (by decide +kernel))), lw_S hc (h _ (tnm 426 (by decide +kernel))), lw_S hc (h _ (tnm 436 (by decide +kernel))), lw_S hc (h _ (tnm 477 (by decide +kernel))), lw_S hc (h _ (tnm 510 (by decide +kernel))), lw_S hc (h _ (tnm 549 (by decide +kernel)))⟩
theorem lw_C {b : Nat} {s : State} (hg : (Jvm.Cond.and given_1 narrow_1).before #[Value.ref b] s = true) : jC s := by
  have hs := flat_of_before _ hg
  exact ⟨va_Nc.of (hs _ (by decide +kernel)), va_Nc.of (hs _ (by decide +kernel)), va_Nc.of (hs _ (by decide +kernel))⟩
