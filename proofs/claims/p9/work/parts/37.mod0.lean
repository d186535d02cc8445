/-! truth arrays, long arrays -/
theorem jnar_z {x : Int} (h : 0 ≤ x ∧ x ≤ 1) : vp_nar .boolean (jI x) = jI x := by
  rcases (show x = 0 ∨ x = 1 by omega) with rfl | rfl <;> decide
theorem jzeroL : jL 0 = 0 := by decide
theorem jL_ti (v : Int64) : jL v.toInt = v := Int64.ofInt_toInt v
section JZ
variable {p : Program} {l : Launch} {e : Env} {R : Room} {s : State} {m : MethodId} {args : Array Value} {below : List Frame} {meth : Method} {c : Code} {H : Heap} {locs : List Loc} {cells slots : Nat} {Q : State → Prop}
variable {cc : ByteArray} {pc : Nat} {ls : Array Slot} {rest : List Value} {D : va_G} {cl : List vw_C} {A : Nat → Prop} {a : Nat} {tys : List (ClassId × FieldType)} {ws : va_W} {H0 : Heap}
theorem ji_zald (hx : p.tables.exec = Jvm.exec) (hb : c.code = cc) (hK : va_K D cl tys s) (hP : va_P D cl ws H) (q0 t0 : Nat) {cA : ClassId} {n : Nat} {f : Int → Int} (ha : ws[q0]? = some (a, .inl (cA, n, .inl (jA f)))) (ht : tys[t0]? = some (cA, .boolean)) {i : Int} (h0 : 0 ≤ i ∧ i < (n : Int)) (hn : n ≤ 2147483648) (hdg : decode cc pc = .ok (.baload, 1)) (kk : W p l e R s m args below meth c H locs cells slots Q (F0 m (pc + 1) ls (.int (jI (f i)) :: rest))) : W p l e R s m args below meth c H locs cells slots Q (F0 m pc ls (.int (jI i) :: .ref a :: rest)) := va_zald hx hb hK hP q0 t0 ha ht (jA_in h0.1 h0.2 hn) hdg (by rw [jA_at h0.1 h0.2 hn]; exact kk)
theorem ji_zast (hx : p.tables.exec = Jvm.exec) (hb : c.code = cc) (hK : va_K D cl tys s) (hP : va_P D cl ws H) (hD : va_D A ws) (hS : va_S A H0 H locs) (q0 t0 : Nat) {cA : ClassId} {n : Nat} {f : Int → Int} (ha : ws[q0]? = some (a, .inl (cA, n, .inl (jA f)))) (ht : tys[t0]? = some (cA, .boolean)) {i x : Int} (hv : 0 ≤ x ∧ x ≤ 1) (h0 : 0 ≤ i ∧ i < (n : Int)) (hn : n ≤ 2147483648) (hdg : decode cc pc = .ok (.bastore, 1)) (kk : ∀ (H1 : Heap) (locs1 : List Loc), va_P D cl (ws.set q0 (a, .inl (cA, n, .inl (jA (jset f i x))))) H1 → va_D A (ws.set q0 (a, .inl (cA, n, .inl (jA (jset f i x))))) → va_S A H0 H1 locs1 → W p l e R s m args below meth c H1 locs1 cells slots Q (F0 m (pc + 1) ls rest)) : W p l e R s m args below meth c H locs cells slots Q (F0 m pc ls (.int (jI x) :: .int (jI i) :: .ref a :: rest)) := va_zast hx hb hK hP hD hS q0 t0 ha ht (jA_in h0.1 h0.2 hn) hdg (by rw [jnar_z hv, jA_upd h0.1 h0.2 hn]; exact kk)
theorem ji_newz (hx : p.tables.exec = Jvm.exec) (hb : c.code = cc) (harr : (Cond.arrayClass .boolean).before args s = true) (hK : va_K D cl tys s) (hP : va_P D cl ws H) (hD : va_D A ws) (hS : va_S A H0 H locs) (hA : ∀ q, H0.size ≤ q → A q) (t0 : Nat) {cA : ClassId} (ht : tys[t0]? = some (cA, .boolean)) {N : Nat} {z : Int} (hz : z = (N : Int)) (hN : N ≤ 1000) (hcells : cells + 1 ≤ R.cells) (hslots : slots + N ≤ R.slots) (hdg : decode cc pc = .ok (.newarray .boolean, 2))
    (kk : ∀ (q : Nat) (H1 : Heap), va_P D cl (ws ++ [(q, .inl (cA, N, .inl (jA (fun _ => 0))))]) H1 → va_D A (ws ++ [(q, .inl (cA, N, .inl (jA (fun _ => 0))))]) → va_S A H0 H1 locs → W p l e R s m args below meth c H1 locs (cells + 1) (slots + N) Q (F0 m (pc + 2) ls (.ref q :: rest))) : W p l e R s m args below meth c H locs cells slots Q (F0 m pc ls (.int (jI z) :: rest)) := by
  subst hz
  refine va_newa (atype := .boolean) (a0 := (N, .inl (jA (fun _ => 0)))) (ty := .boolean) (N' := N) hx hb harr rfl hK hP hD hS hA (fun cA => ?_) ?_ ?_ ?_ hcells hslots hdg (fun q cA' H1 hK1 hP1 hD1 hS1 => ?_)
  · show arrV cA N (fun j => Value.int (jI 0)) = arrV cA N (fun _ => Value.int 0)
    rw [jzero]
  · have h0 := jI_lt (a := (N : Int)) (b := 0) (by omega) (by decide)
    rw [jzero] at h0
    intro h
    have := h0.mp h
    omega
  · rw [jI_clamp (by omega) (by omega)]; exact Int.toNat_natCast N
  · have h4 : componentBytes .boolean = 1 := rfl
    rw [h4]; omega
  · have h1 := (hK1.2 tys.length (cA', .boolean) (by simp)).2
    have h2 := (hK.2 t0 (cA, .boolean) ht).2
    have h3 : some cA' = some cA := (show s.vm.findClass ("[" ++ FieldType.boolean.toString) = some cA' from h1).symm.trans h2
    cases h3
    exact kk q H1 hP1 hD1 hS1
theorem ji_newl (hx : p.tables.exec = Jvm.exec) (hb : c.code = cc) (harr : (Cond.arrayClass .long).before args s = true) (hK : va_K D cl tys s) (hP : va_P D cl ws H) (hD : va_D A ws) (hS : va_S A H0 H locs) (hA : ∀ q, H0.size ≤ q → A q) (t0 : Nat) {cA : ClassId} (ht : tys[t0]? = some (cA, .long)) {N : Nat} {z : Int} (hz : z = (N : Int)) (hN : N ≤ 1000) (hcells : cells + 1 ≤ R.cells) (hslots : slots + N ≤ R.slots) (hdg : decode cc pc = .ok (.newarray .long, 2))
    (kk : ∀ (q : Nat) (H1 : Heap), va_P D cl (ws ++ [(q, .inl (cA, N, .inr (.inl (jAL (fun _ => 0)))))]) H1 → va_D A (ws ++ [(q, .inl (cA, N, .inr (.inl (jAL (fun _ => 0)))))]) → va_S A H0 H1 locs → W p l e R s m args below meth c H1 locs (cells + 1) (slots + N) Q (F0 m (pc + 2) ls (.ref q :: rest))) : W p l e R s m args below meth c H locs cells slots Q (F0 m pc ls (.int (jI z) :: rest)) := by
  subst hz
  refine va_newa (atype := .long) (a0 := (N, .inr (.inl (jAL (fun _ => 0))))) (ty := .long) (N' := N) hx hb harr rfl hK hP hD hS hA (fun cA => ?_) ?_ ?_ ?_ hcells hslots hdg (fun q cA' H1 hK1 hP1 hD1 hS1 => ?_)
  · show arrV cA N (fun j => Value.long (jL 0)) = arrV cA N (fun _ => Value.long 0)
    rw [jzeroL]
  · have h0 := jI_lt (a := (N : Int)) (b := 0) (by omega) (by decide)
    rw [jzero] at h0
    intro h
    have := h0.mp h
    omega
  · rw [jI_clamp (by omega) (by omega)]; exact Int.toNat_natCast N
  · have h4 : componentBytes .long = 8 := rfl
    rw [h4]; omega
  · have h1 := (hK1.2 tys.length (cA', .long) (by simp)).2
    have h2 := (hK.2 t0 (cA, .long) ht).2
    have h3 : some cA' = some cA := (show s.vm.findClass ("[" ++ FieldType.long.toString) = some cA' from h1).symm.trans h2
    cases h3
    exact kk q H1 hP1 hD1 hS1
theorem ji_lald (hx : p.tables.exec = Jvm.exec) (hb : c.code = cc) (hK : va_K D cl tys s) (hP : va_P D cl ws H) (q0 t0 : Nat) {cA : ClassId} {n : Nat} {f : Int → Int} (ha : ws[q0]? = some (a, .inl (cA, n, .inr (.inl (jAL f))))) (ht : tys[t0]? = some (cA, .long)) {i : Int} (h0 : 0 ≤ i ∧ i < (n : Int)) (hn : n ≤ 2147483648) (hdg : decode cc pc = .ok (.laload, 1)) (kk : W p l e R s m args below meth c H locs cells slots Q (F0 m (pc + 1) ls (.long (jL (f i)) :: rest))) : W p l e R s m args below meth c H locs cells slots Q (F0 m pc ls (.int (jI i) :: .ref a :: rest)) := va_lald hx hb hK hP q0 t0 ha ht (jA_in h0.1 h0.2 hn) hdg (by
  have h : jAL f (jI i).toNatClampNeg = jL (f i) := by
    rw [jI_clamp h0.1 (by omega)]
    show jL (f ((i.toNat : Nat) : Int)) = _
    rw [Int.toNat_of_nonneg h0.1]
  rw [h]; exact kk)
theorem ji_rev {x : Int32} (k : W p l e R s m args below meth c H locs cells slots Q (F0 m pc ls (.int (jI x.toInt) :: rest))) : W p l e R s m args below meth c H locs cells slots Q (F0 m pc ls (.int x :: rest)) := by rw [jI_ti] at k; exact k
theorem ji_revl {x : Int64} (k : W p l e R s m args below meth c H locs cells slots Q (F0 m pc ls (.long (jL x.toInt) :: rest))) : W p l e R s m args below meth c H locs cells slots Q (F0 m pc ls (.long x :: rest)) := by rw [jL_ti] at k; exact k
end JZ
theorem jset_b {f : Int → Int} {lo hi k v : Int} (hf : ∀ i, lo ≤ f i ∧ f i ≤ hi) (hv : lo ≤ v ∧ v ≤ hi) : ∀ i, lo ≤ jset f k v i ∧ jset f k v i ≤ hi := by
  intro i; unfold jset; split
  · exact hv
  · exact hf i
theorem jw_or (v : Int) : i32 (jw v) ∧ (jw v = v ∨ v < -2147483648 ∨ 2147483647 < v) := ⟨jw_i v, by
  by_cases h : i32 v
  · exact Or.inl (jI_toInt h)
  · omega⟩
theorem jset_u {f g : Int → Int} {k v : Int} (h : ∀ b9, (∀ i, g i ≤ b9) → ∀ i, f i ≤ b9) (hv : ∀ b9, (∀ i, g i ≤ b9) → v ≤ b9) : ∀ b9, (∀ i, g i ≤ b9) → ∀ i, jset f k v i ≤ b9 := by
  intro b h9 i; unfold jset; split
  · exact hv b h9
  · exact h b h9 i
