theorem jI_ti (x : Int32) : jI x.toInt = x := Int32.ofInt_toInt x
theorem jti_i (x : Int32) : i32 x.toInt := ⟨by have := Int32.le_toInt x; omega, by have := Int32.toInt_lt x; omega⟩
def jus (x y : Int32) : Int32 := (x.toUInt32 >>> (y.toUInt32 &&& Int32.toUInt32 31)).toInt32
theorem jL_div_any {a b : Int} (ha : i64 a) (hm : a ≠ -9223372036854775808) (hb : i64 b) : jL a / jL b = jL (a.tdiv b) := by
  have hne : jL a ≠ Int64.minValue := fun q => hm (by have := congrArg Int64.toInt q; rw [jL_toInt ha] at this; exact this)
  have h := Int64.toInt_div_of_ne_left (jL a) (jL b) hne
  rw [jL_toInt ha, jL_toInt hb] at h
  have hr : jL a / jL b = Int64.ofInt (jL a / jL b).toInt := (Int64.ofInt_toInt _).symm
  rw [hr, h]; rfl
theorem jL_rem_any {a b : Int} (ha : i64 a) (hm : a ≠ -9223372036854775808) (hb : i64 b) : jL a - jL a / jL b * jL b = jL (a.tmod b) := by
  rw [jL_div_any ha hm hb, jL_mul, jL_sub, Int.tmod_def, Int.mul_comm]
theorem jtmod_le {u v B : Int} (h : -B ≤ u ∧ u ≤ B) : -B ≤ u.tmod v ∧ u.tmod v ≤ B := by
  have h1 : (u.tmod v).natAbs = u.natAbs % v.natAbs := Int.natAbs_tmod u v
  have h2 := Nat.mod_le u.natAbs v.natAbs
  omega
section JD
variable {p : Program} {l : Launch} {e : Env} {R : Room} {s : State} {m : MethodId} {args : Array Value} {below : List Frame} {meth : Method} {c : Code} {H : Heap} {locs : List Loc} {cells slots : Nat} {Q : State → Prop}
variable {cc : ByteArray} {pc : Nat} {ls : Array Slot} {rest : List Value}
theorem ji_lrem_any (hx : p.tables.exec = Jvm.exec) (hb : c.code = cc) {x y : Int} (hdg : decode cc pc = .ok (.lrem, 1)) (h1 : i64 x ∧ x ≠ -9223372036854775808) (h2 : i64 y) (h3 : y ≠ 0) (kk : W p l e R s m args below meth c H locs cells slots Q (F0 m (pc + 1) ls (.long (jL (Int.tmod x y)) :: rest))) : W p l e R s m args below meth c H locs cells slots Q (F0 m pc ls (.long (jL y) :: .long (jL x) :: rest)) := lv_lrem hx hb hdg (fun q => h3 ((jL_inj h2 (by decide)).mp (q.trans jL_0))) (by rw [jL_rem_any h1.1 h1.2 h2]; exact kk)
end JD
noncomputable def g_XI_bitCount (zi : Int) : Int :=
  (((((((((jI zi - ((jus (jI zi) (jI 1)) &&& jI 1431655765)) &&& jI 858993459) + ((jus (jI zi - ((jus (jI zi) (jI 1)) &&& jI 1431655765)) (jI 2)) &&& jI 858993459)) + (jus (((jI zi - ((jus (jI zi) (jI 1)) &&& jI 1431655765)) &&& jI 858993459) + ((jus (jI zi - ((jus (jI zi) (jI 1)) &&& jI 1431655765)) (jI 2)) &&& jI 858993459)) (jI 4))) &&& jI 252645135) + (jus (((((jI zi - ((jus (jI zi) (jI 1)) &&& jI 1431655765)) &&& jI 858993459) + ((jus (jI zi - ((jus (jI zi) (jI 1)) &&& jI 1431655765)) (jI 2)) &&& jI 858993459)) + (jus (((jI zi - ((jus (jI zi) (jI 1)) &&& jI 1431655765)) &&& jI 858993459) + ((jus (jI zi - ((jus (jI zi) (jI 1)) &&& jI 1431655765)) (jI 2)) &&& jI 858993459)) (jI 4))) &&& jI 252645135) (jI 8))) + (jus ((((((jI zi - ((jus (jI zi) (jI 1)) &&& jI 1431655765)) &&& jI 858993459) + ((jus (jI zi - ((jus (jI zi) (jI 1)) &&& jI 1431655765)) (jI 2)) &&& jI 858993459)) + (jus (((jI zi - ((jus (jI zi) (jI 1)) &&& jI 1431655765)) &&& jI 858993459) + ((jus (jI zi - ((jus (jI zi) (jI 1)) &&& jI 1431655765)) (jI 2)) &&& jI 858993459)) (jI 4))) &&& jI 252645135) + (jus (((((jI zi - ((jus (jI zi) (jI 1)) &&& jI 1431655765)) &&& jI 858993459) + ((jus (jI zi - ((jus (jI zi) (jI 1)) &&& jI 1431655765)) (jI 2)) &&& jI 858993459)) + (jus (((jI zi - ((jus (jI zi) (jI 1)) &&& jI 1431655765)) &&& jI 858993459) + ((jus (jI zi - ((jus (jI zi) (jI 1)) &&& jI 1431655765)) (jI 2)) &&& jI 858993459)) (jI 4))) &&& jI 252645135) (jI 8))) (jI 16))) &&& jI 63)).toInt
noncomputable def f_XI_bitCount : Int → Int := jopq g_XI_bitCount
theorem f_XI_bitCount_q : f_XI_bitCount = g_XI_bitCount := jopq_eq _
theorem f_XI_bitCount_s (zi : Int) : f_XI_bitCount zi = (
    (((((((((jI zi - ((jus (jI zi) (jI 1)) &&& jI 1431655765)) &&& jI 858993459) + ((jus (jI zi - ((jus (jI zi) (jI 1)) &&& jI 1431655765)) (jI 2)) &&& jI 858993459)) + (jus (((jI zi - ((jus (jI zi) (jI 1)) &&& jI 1431655765)) &&& jI 858993459) + ((jus (jI zi - ((jus (jI zi) (jI 1)) &&& jI 1431655765)) (jI 2)) &&& jI 858993459)) (jI 4))) &&& jI 252645135) + (jus (((((jI zi - ((jus (jI zi) (jI 1)) &&& jI 1431655765)) &&& jI 858993459) + ((jus (jI zi - ((jus (jI zi) (jI 1)) &&& jI 1431655765)) (jI 2)) &&& jI 858993459)) + (jus (((jI zi - ((jus (jI zi) (jI 1)) &&& jI 1431655765)) &&& jI 858993459) + ((jus (jI zi - ((jus (jI zi) (jI 1)) &&& jI 1431655765)) (jI 2)) &&& jI 858993459)) (jI 4))) &&& jI 252645135) (jI 8))) + (jus ((((((jI zi - ((jus (jI zi) (jI 1)) &&& jI 1431655765)) &&& jI 858993459) + ((jus (jI zi - ((jus (jI zi) (jI 1)) &&& jI 1431655765)) (jI 2)) &&& jI 858993459)) + (jus (((jI zi - ((jus (jI zi) (jI 1)) &&& jI 1431655765)) &&& jI 858993459) + ((jus (jI zi - ((jus (jI zi) (jI 1)) &&& jI 1431655765)) (jI 2)) &&& jI 858993459)) (jI 4))) &&& jI 252645135) + (jus (((((jI zi - ((jus (jI zi) (jI 1)) &&& jI 1431655765)) &&& jI 858993459) + ((jus (jI zi - ((jus (jI zi) (jI 1)) &&& jI 1431655765)) (jI 2)) &&& jI 858993459)) + (jus (((jI zi - ((jus (jI zi) (jI 1)) &&& jI 1431655765)) &&& jI 858993459) + ((jus (jI zi - ((jus (jI zi) (jI 1)) &&& jI 1431655765)) (jI 2)) &&& jI 858993459)) (jI 4))) &&& jI 252645135) (jI 8))) (jI 16))) &&& jI 63)).toInt
  : Int) := by rw [f_XI_bitCount_q]; rfl
theorem f_XI_bitCount_b (zi : Int) : i32 (f_XI_bitCount zi) := by rw [f_XI_bitCount_s]; exact jti_i _
set_option maxHeartbeats 4000000 in
set_option maxRecDepth 100000 in
theorem c_XI_bitCount (l : Launch) (dC : Nat → ClassId) (dI : Nat → Nat → Nat) (cA : ClassId) (zi : Int) : Met l yXI_bitCount (Cond.code yXI_bitCount cXI_bitCount 1 (some .int) :: TBL) ({ frames := 0, cells := 0, slots := 0, locals := 0 } : Room) (va_Pc [.int (jI zi)] (jB (dC, dI) [(cA, .int)] [])) (vp_Si (fun r => r = jI (f_XI_bitCount zi))) 0 0 (fun _ => False) := by
  refine jMet (cc := cXI_bitCount) (maxL := 1) (ret := some .int) (by decide) rfl ?_
  intro p e s m args below meth c s₁ R Q hR hQ B hml hv
  obtain ⟨rfl, hP, hK, hN⟩ := hv
  have hx := B.exec
  have hb := B.bytes
  have hr := B.returns
  have hts := atoms_spec (ws := Cond.code yXI_bitCount cXI_bitCount 1 (some .int) :: TBL) B.pre
  have hown : s.vm.findClass RXI = some m.cls := findClass_of_methodNamed B.named
  have hlocks := B.notSynchronized
  have hP : va_P (dC, dI) vwCl [] s.heap := hP
  have hl := lv_entry ([.int (jI zi)]) (n := 1) (Nat.le_of_ble_eq_true rfl)
  rw [lg_entry_eq]
  generalize (lg_sl ([.int (jI zi)]) ++ List.replicate (1 - (lg_sl ([.int (jI zi)])).length) Slot.unset).toArray = ls at hl ⊢
  have hl : lv_has ls 1 [(0, .int (jI zi))] := hl
  refine lv_iload_n hx hb dXI_bitCount_0 rfl (lv_at hl 0 rfl) ?_
  refine lv_iload_n hx hb dXI_bitCount_1 rfl (lv_at hl 0 rfl) ?_
  refine ji_iconst hx hb dXI_bitCount_2 ?_
  refine lv_iushr (v := (jus (jI zi) (jI 1))) hx hb dXI_bitCount_3 rfl ?_
  refine lv_ldcw hx hb hown (hts _ (jmem tw_293)) dXI_bitCount_4 ?_
  refine ji_re (y := 1431655765) (by decide) ?_
  refine lv_iand hx hb dXI_bitCount_7 ?_
  refine lv_isub hx hb dXI_bitCount_8 ?_
  refine lv_istore_n (lv' := [(0, .int (jI zi - ((jus (jI zi) (jI 1)) &&& jI 1431655765)))]) hx hb dXI_bitCount_9 rfl hl (by decide) rfl (fun ls hl => ?_)
  refine lv_iload_n hx hb dXI_bitCount_10 rfl (lv_at hl 0 rfl) ?_
  refine lv_ldcw hx hb hown (hts _ (jmem tw_294)) dXI_bitCount_11 ?_
  refine ji_re (y := 858993459) (by decide) ?_
  refine lv_iand hx hb dXI_bitCount_14 ?_
  refine lv_iload_n hx hb dXI_bitCount_15 rfl (lv_at hl 0 rfl) ?_
  refine ji_iconst hx hb dXI_bitCount_16 ?_
  refine lv_iushr (v := (jus (jI zi - ((jus (jI zi) (jI 1)) &&& jI 1431655765)) (jI 2))) hx hb dXI_bitCount_17 rfl ?_
  refine lv_ldcw hx hb hown (hts _ (jmem tw_294)) dXI_bitCount_18 ?_
  refine ji_re (y := 858993459) (by decide) ?_
  refine lv_iand hx hb dXI_bitCount_21 ?_
  refine lv_iadd hx hb dXI_bitCount_22 ?_
  refine lv_istore_n (lv' := [(0, .int (((jI zi - ((jus (jI zi) (jI 1)) &&& jI 1431655765)) &&& jI 858993459) + ((jus (jI zi - ((jus (jI zi) (jI 1)) &&& jI 1431655765)) (jI 2)) &&& jI 858993459)))]) hx hb dXI_bitCount_23 rfl hl (by decide) rfl (fun ls hl => ?_)
  refine lv_iload_n hx hb dXI_bitCount_24 rfl (lv_at hl 0 rfl) ?_
  refine lv_iload_n hx hb dXI_bitCount_25 rfl (lv_at hl 0 rfl) ?_
  refine ji_iconst hx hb dXI_bitCount_26 ?_
  refine lv_iushr (v := (jus (((jI zi - ((jus (jI zi) (jI 1)) &&& jI 1431655765)) &&& jI 858993459) + ((jus (jI zi - ((jus (jI zi) (jI 1)) &&& jI 1431655765)) (jI 2)) &&& jI 858993459)) (jI 4))) hx hb dXI_bitCount_27 rfl ?_
  refine lv_iadd hx hb dXI_bitCount_28 ?_
  refine lv_ldcw hx hb hown (hts _ (jmem tw_295)) dXI_bitCount_29 ?_
  refine ji_re (y := 252645135) (by decide) ?_
  refine lv_iand hx hb dXI_bitCount_32 ?_
  refine lv_istore_n (lv' := [(0, .int (((((jI zi - ((jus (jI zi) (jI 1)) &&& jI 1431655765)) &&& jI 858993459) + ((jus (jI zi - ((jus (jI zi) (jI 1)) &&& jI 1431655765)) (jI 2)) &&& jI 858993459)) + (jus (((jI zi - ((jus (jI zi) (jI 1)) &&& jI 1431655765)) &&& jI 858993459) + ((jus (jI zi - ((jus (jI zi) (jI 1)) &&& jI 1431655765)) (jI 2)) &&& jI 858993459)) (jI 4))) &&& jI 252645135))]) hx hb dXI_bitCount_33 rfl hl (by decide) rfl (fun ls hl => ?_)
  refine lv_iload_n hx hb dXI_bitCount_34 rfl (lv_at hl 0 rfl) ?_
  refine lv_iload_n hx hb dXI_bitCount_35 rfl (lv_at hl 0 rfl) ?_
  refine ji_bipush hx hb dXI_bitCount_36 (by decide) ?_
  refine lv_iushr (v := (jus (((((jI zi - ((jus (jI zi) (jI 1)) &&& jI 1431655765)) &&& jI 858993459) + ((jus (jI zi - ((jus (jI zi) (jI 1)) &&& jI 1431655765)) (jI 2)) &&& jI 858993459)) + (jus (((jI zi - ((jus (jI zi) (jI 1)) &&& jI 1431655765)) &&& jI 858993459) + ((jus (jI zi - ((jus (jI zi) (jI 1)) &&& jI 1431655765)) (jI 2)) &&& jI 858993459)) (jI 4))) &&& jI 252645135) (jI 8))) hx hb dXI_bitCount_38 rfl ?_
  refine lv_iadd hx hb dXI_bitCount_39 ?_
  refine lv_istore_n (lv' := [(0, .int ((((((jI zi - ((jus (jI zi) (jI 1)) &&& jI 1431655765)) &&& jI 858993459) + ((jus (jI zi - ((jus (jI zi) (jI 1)) &&& jI 1431655765)) (jI 2)) &&& jI 858993459)) + (jus (((jI zi - ((jus (jI zi) (jI 1)) &&& jI 1431655765)) &&& jI 858993459) + ((jus (jI zi - ((jus (jI zi) (jI 1)) &&& jI 1431655765)) (jI 2)) &&& jI 858993459)) (jI 4))) &&& jI 252645135) + (jus (((((jI zi - ((jus (jI zi) (jI 1)) &&& jI 1431655765)) &&& jI 858993459) + ((jus (jI zi - ((jus (jI zi) (jI 1)) &&& jI 1431655765)) (jI 2)) &&& jI 858993459)) + (jus (((jI zi - ((jus (jI zi) (jI 1)) &&& jI 1431655765)) &&& jI 858993459) + ((jus (jI zi - ((jus (jI zi) (jI 1)) &&& jI 1431655765)) (jI 2)) &&& jI 858993459)) (jI 4))) &&& jI 252645135) (jI 8))))]) hx hb dXI_bitCount_40 rfl hl (by decide) rfl (fun ls hl => ?_)
  refine lv_iload_n hx hb dXI_bitCount_41 rfl (lv_at hl 0 rfl) ?_
  refine lv_iload_n hx hb dXI_bitCount_42 rfl (lv_at hl 0 rfl) ?_
  refine ji_bipush hx hb dXI_bitCount_43 (by decide) ?_
  refine lv_iushr (v := (jus ((((((jI zi - ((jus (jI zi) (jI 1)) &&& jI 1431655765)) &&& jI 858993459) + ((jus (jI zi - ((jus (jI zi) (jI 1)) &&& jI 1431655765)) (jI 2)) &&& jI 858993459)) + (jus (((jI zi - ((jus (jI zi) (jI 1)) &&& jI 1431655765)) &&& jI 858993459) + ((jus (jI zi - ((jus (jI zi) (jI 1)) &&& jI 1431655765)) (jI 2)) &&& jI 858993459)) (jI 4))) &&& jI 252645135) + (jus (((((jI zi - ((jus (jI zi) (jI 1)) &&& jI 1431655765)) &&& jI 858993459) + ((jus (jI zi - ((jus (jI zi) (jI 1)) &&& jI 1431655765)) (jI 2)) &&& jI 858993459)) + (jus (((jI zi - ((jus (jI zi) (jI 1)) &&& jI 1431655765)) &&& jI 858993459) + ((jus (jI zi - ((jus (jI zi) (jI 1)) &&& jI 1431655765)) (jI 2)) &&& jI 858993459)) (jI 4))) &&& jI 252645135) (jI 8))) (jI 16))) hx hb dXI_bitCount_45 rfl ?_
  refine lv_iadd hx hb dXI_bitCount_46 ?_
  refine lv_istore_n (lv' := [(0, .int (((((((jI zi - ((jus (jI zi) (jI 1)) &&& jI 1431655765)) &&& jI 858993459) + ((jus (jI zi - ((jus (jI zi) (jI 1)) &&& jI 1431655765)) (jI 2)) &&& jI 858993459)) + (jus (((jI zi - ((jus (jI zi) (jI 1)) &&& jI 1431655765)) &&& jI 858993459) + ((jus (jI zi - ((jus (jI zi) (jI 1)) &&& jI 1431655765)) (jI 2)) &&& jI 858993459)) (jI 4))) &&& jI 252645135) + (jus (((((jI zi - ((jus (jI zi) (jI 1)) &&& jI 1431655765)) &&& jI 858993459) + ((jus (jI zi - ((jus (jI zi) (jI 1)) &&& jI 1431655765)) (jI 2)) &&& jI 858993459)) + (jus (((jI zi - ((jus (jI zi) (jI 1)) &&& jI 1431655765)) &&& jI 858993459) + ((jus (jI zi - ((jus (jI zi) (jI 1)) &&& jI 1431655765)) (jI 2)) &&& jI 858993459)) (jI 4))) &&& jI 252645135) (jI 8))) + (jus ((((((jI zi - ((jus (jI zi) (jI 1)) &&& jI 1431655765)) &&& jI 858993459) + ((jus (jI zi - ((jus (jI zi) (jI 1)) &&& jI 1431655765)) (jI 2)) &&& jI 858993459)) + (jus (((jI zi - ((jus (jI zi) (jI 1)) &&& jI 1431655765)) &&& jI 858993459) + ((jus (jI zi - ((jus (jI zi) (jI 1)) &&& jI 1431655765)) (jI 2)) &&& jI 858993459)) (jI 4))) &&& jI 252645135) + (jus (((((jI zi - ((jus (jI zi) (jI 1)) &&& jI 1431655765)) &&& jI 858993459) + ((jus (jI zi - ((jus (jI zi) (jI 1)) &&& jI 1431655765)) (jI 2)) &&& jI 858993459)) + (jus (((jI zi - ((jus (jI zi) (jI 1)) &&& jI 1431655765)) &&& jI 858993459) + ((jus (jI zi - ((jus (jI zi) (jI 1)) &&& jI 1431655765)) (jI 2)) &&& jI 858993459)) (jI 4))) &&& jI 252645135) (jI 8))) (jI 16))))]) hx hb dXI_bitCount_47 rfl hl (by decide) rfl (fun ls hl => ?_)
  refine lv_iload_n hx hb dXI_bitCount_48 rfl (lv_at hl 0 rfl) ?_
  refine ji_bipush hx hb dXI_bitCount_49 (by decide) ?_
  refine lv_iand hx hb dXI_bitCount_51 ?_
  subst hQ
  exact W.iret (v := ((((((((jI zi - ((jus (jI zi) (jI 1)) &&& jI 1431655765)) &&& jI 858993459) + ((jus (jI zi - ((jus (jI zi) (jI 1)) &&& jI 1431655765)) (jI 2)) &&& jI 858993459)) + (jus (((jI zi - ((jus (jI zi) (jI 1)) &&& jI 1431655765)) &&& jI 858993459) + ((jus (jI zi - ((jus (jI zi) (jI 1)) &&& jI 1431655765)) (jI 2)) &&& jI 858993459)) (jI 4))) &&& jI 252645135) + (jus (((((jI zi - ((jus (jI zi) (jI 1)) &&& jI 1431655765)) &&& jI 858993459) + ((jus (jI zi - ((jus (jI zi) (jI 1)) &&& jI 1431655765)) (jI 2)) &&& jI 858993459)) + (jus (((jI zi - ((jus (jI zi) (jI 1)) &&& jI 1431655765)) &&& jI 858993459) + ((jus (jI zi - ((jus (jI zi) (jI 1)) &&& jI 1431655765)) (jI 2)) &&& jI 858993459)) (jI 4))) &&& jI 252645135) (jI 8))) + (jus ((((((jI zi - ((jus (jI zi) (jI 1)) &&& jI 1431655765)) &&& jI 858993459) + ((jus (jI zi - ((jus (jI zi) (jI 1)) &&& jI 1431655765)) (jI 2)) &&& jI 858993459)) + (jus (((jI zi - ((jus (jI zi) (jI 1)) &&& jI 1431655765)) &&& jI 858993459) + ((jus (jI zi - ((jus (jI zi) (jI 1)) &&& jI 1431655765)) (jI 2)) &&& jI 858993459)) (jI 4))) &&& jI 252645135) + (jus (((((jI zi - ((jus (jI zi) (jI 1)) &&& jI 1431655765)) &&& jI 858993459) + ((jus (jI zi - ((jus (jI zi) (jI 1)) &&& jI 1431655765)) (jI 2)) &&& jI 858993459)) + (jus (((jI zi - ((jus (jI zi) (jI 1)) &&& jI 1431655765)) &&& jI 858993459) + ((jus (jI zi - ((jus (jI zi) (jI 1)) &&& jI 1431655765)) (jI 2)) &&& jI 858993459)) (jI 4))) &&& jI 252645135) (jI 8))) (jI 16))) &&& jI 63)) hx hb hr (fun t ht hW => ⟨_, rfl, (by rw [f_XI_bitCount_s]; exact (jI_ti _).symm), ht⟩) (fun _ h => nomatch h) dXI_bitCount_52
noncomputable def g_XB_count (bg : Int) (bf : Int) : Int :=
  f_XI_bitCount bg
noncomputable def f_XB_count : Int → Int → Int := jopq g_XB_count
theorem f_XB_count_q : f_XB_count = g_XB_count := jopq_eq _
theorem f_XB_count_s (bg : Int) (bf : Int) : f_XB_count bg bf = (
    f_XI_bitCount bg
  : Int) := by rw [f_XB_count_q]; rfl
set_option maxHeartbeats 4000000 in
set_option maxRecDepth 100000 in
theorem c_XB_count (l : Launch) (dC : Nat → ClassId) (dI : Nat → Nat → Nat) (cA : ClassId) (ba : Nat) (bt : Nat) (bp : Nat) (bl : Nat) (bh : Nat) (bq : Nat) (br : Nat) (bd : Nat) (bg : Int) (bf : Int) : Met l yXB_count (Cond.code yXB_count cXB_count 1 (some .int) :: TBL) ({ frames := 1, cells := 0, slots := 0, locals := 20 } : Room) (va_Pc [.ref ba] (jB (dC, dI) [(cA, .int)] [(ba, .inr (0, [.ref bt, .ref bp, .ref bl, .ref bh, .ref bq, .ref br, .ref bd, .int (jI bg), .int (jI bf)]))])) (vp_Si (fun r => r = jI (f_XB_count bg bf))) 0 0 (fun _ => False) := by
  refine jMet (cc := cXB_count) (maxL := 1) (ret := some .int) (by decide) rfl ?_
  intro p e s m args below meth c s₁ R Q hR hQ B hml hv
  obtain ⟨rfl, hP, hK, hN⟩ := hv
  have hx := B.exec
  have hb := B.bytes
  have hr := B.returns
  have hts := atoms_spec (ws := Cond.code yXB_count cXB_count 1 (some .int) :: TBL) B.pre
  have hown : s.vm.findClass RXB = some m.cls := findClass_of_methodNamed B.named
  have hlocks := B.notSynchronized
  have hP : va_P (dC, dI) vwCl [(ba, .inr (0, [.ref bt, .ref bp, .ref bl, .ref bh, .ref bq, .ref br, .ref bd, .int (jI bg), .int (jI bf)]))] s.heap := hP
  have hl := lv_entry ([.ref ba]) (n := 1) (Nat.le_of_ble_eq_true rfl)
  rw [lg_entry_eq]
  generalize (lg_sl ([.ref ba]) ++ List.replicate (1 - (lg_sl ([.ref ba])).length) Slot.unset).toArray = ls at hl ⊢
  have hl : lv_has ls 1 [(0, .ref ba)] := hl
  refine lv_aload_n hx hb dXB_count_0 rfl (lv_at hl 0 rfl) ?_
  refine va_get (D := (dC, dI)) (ci := 0) (v := .int (jI bg)) (C := RXB) (T := TXB) (N := 9) hx hb hts (fun w h => jmem (inXB w h)) hown hK hP 0 rfl rfl 7 (by decide) (hts _ (jmem tw_80)) (fun _ h9 => h9) rfl dXB_count_1 ?_
  refine jrSi (rest := []) ⟨hx, hb, hml, hown, hts⟩ (c_XI_bitCount l dC dI cA bg) (va_cwS 1 hts (jG_T tw_290 tw_291 tw_13 tw_292) rfl rfl rfl (by decide +kernel) (by rw [hR]; exact ⟨Nat.le_of_ble_eq_true rfl, Nat.le_of_ble_eq_true rfl⟩)) hK hP hN [] rfl rfl hl.1 rfl (Nat.le_of_ble_eq_true rfl) dXB_count_4 (by rw [hR]; exact ⟨Nat.le_of_ble_eq_true rfl, Nat.le_of_ble_eq_true rfl⟩) ?_
  have f := f_XI_bitCount_b bg
  subst hQ
  exact W.iret (v := jI (f_XI_bitCount bg)) hx hb hr (fun t ht hW => ⟨_, rfl, congrArg jI (Eq.trans (by rw [f_XB_count_s]; try rfl) rfl), ht⟩) (fun _ h => nomatch h) dXB_count_7
noncomputable def g_XG_greatestDivisor_L9 (za : Int) (zb : Int) : Nat → Int → Int → Int → Int
  | 0, _, _, _ => 0
  | n9 + 1, u9, v, k =>
    if k < 100 then
      if v = 0 then
        u9
      else
        g_XG_greatestDivisor_L9 za zb n9 v (Int.tmod u9 v) (k + 1)
    else
      u9
noncomputable def f_XG_greatestDivisor_L9 : Int → Int → Nat → Int → Int → Int → Int := jopq g_XG_greatestDivisor_L9
theorem f_XG_greatestDivisor_L9_q : f_XG_greatestDivisor_L9 = g_XG_greatestDivisor_L9 := jopq_eq _
theorem f_XG_greatestDivisor_L9_s (za : Int) (zb : Int) (n9 : Nat) (u9 : Int) (v : Int) (k : Int) : f_XG_greatestDivisor_L9 za zb (n9 + 1) u9 v k = (
    if k < 100 then
      if v = 0 then
        u9
      else
        f_XG_greatestDivisor_L9 za zb n9 v (Int.tmod u9 v) (k + 1)
    else
      u9
  : Int) := by rw [f_XG_greatestDivisor_L9_q]; rfl
theorem f_XG_greatestDivisor_L9_z (za : Int) (zb : Int) (u9 : Int) (v : Int) (k : Int) : f_XG_greatestDivisor_L9 za zb 0 u9 v k = 0 := by rw [f_XG_greatestDivisor_L9_q]; rfl
noncomputable def g_XG_greatestDivisor (za : Int) (zb : Int) : Int :=
  f_XG_greatestDivisor_L9 za zb (Int.toNat (100 - 0) + 1) za zb 0
noncomputable def f_XG_greatestDivisor : Int → Int → Int := jopq g_XG_greatestDivisor
theorem f_XG_greatestDivisor_q : f_XG_greatestDivisor = g_XG_greatestDivisor := jopq_eq _
theorem f_XG_greatestDivisor_s (za : Int) (zb : Int) : f_XG_greatestDivisor za zb = (
    f_XG_greatestDivisor_L9 za zb (Int.toNat (100 - 0) + 1) za zb 0
  : Int) := by rw [f_XG_greatestDivisor_q]; rfl
theorem f_XG_greatestDivisor_L (za zb : Int) : ∀ (n : Nat) (u9 v k : Int), (-1000000000000000000 ≤ u9 ∧ u9 ≤ 1000000000000000000) → (-1000000000000000000 ≤ v ∧ v ≤ 1000000000000000000) → -1000000000000000000 ≤ f_XG_greatestDivisor_L9 za zb n u9 v k ∧ f_XG_greatestDivisor_L9 za zb n u9 v k ≤ 1000000000000000000 := by
  intro n
  induction n with
  | zero => intro u9 v k _ _; simp only [f_XG_greatestDivisor_L9_z] <;> omega
  | succ n ih =>
    intro u9 v k h1 h2
    rw [f_XG_greatestDivisor_L9_s]
    (repeat' split) <;> first | exact h1 | exact ih _ _ _ h2 (jtmod_le h1)
theorem f_XG_greatestDivisor_b (za : Int) (zb : Int) (hza : -1000000000000000000 ≤ za ∧ za ≤ 1000000000000000000) (hzb : -1000000000000000000 ≤ zb ∧ zb ≤ 1000000000000000000) : -1000000000000000000 ≤ (f_XG_greatestDivisor za zb) ∧ (f_XG_greatestDivisor za zb) ≤ 1000000000000000000 := by rw [f_XG_greatestDivisor_s]; exact f_XG_greatestDivisor_L _ _ _ _ _ _ hza hzb
set_option maxHeartbeats 4000000 in
set_option maxRecDepth 100000 in
theorem c_XG_greatestDivisor (l : Launch) (dC : Nat → ClassId) (dI : Nat → Nat → Nat) (cA : ClassId) (za : Int) (zb : Int) (hza : -1000000000000000000 ≤ za ∧ za ≤ 1000000000000000000) (hzb : -1000000000000000000 ≤ zb ∧ zb ≤ 1000000000000000000) : Met l yXG_greatestDivisor (Cond.code yXG_greatestDivisor cXG_greatestDivisor 11 (some .long) :: TBL) ({ frames := 0, cells := 0, slots := 0, locals := 0 } : Room) (va_Pc [.long (jL za), .long (jL zb)] (jB (dC, dI) [(cA, .int)] [])) (vp_Sl (fun r => r = jL (f_XG_greatestDivisor za zb))) 0 0 (fun _ => False) := by
  refine jMet (cc := cXG_greatestDivisor) (maxL := 11) (ret := some .long) (by decide) rfl ?_
  intro p e s m args below meth c s₁ R Q hR hQ B hml hv
  obtain ⟨rfl, hP, hK, hN⟩ := hv
  have hx := B.exec
  have hb := B.bytes
  have hr := B.returns
  have hts := atoms_spec (ws := Cond.code yXG_greatestDivisor cXG_greatestDivisor 11 (some .long) :: TBL) B.pre
  have hown : s.vm.findClass RXG = some m.cls := findClass_of_methodNamed B.named
  have hlocks := B.notSynchronized
  have hP : va_P (dC, dI) vwCl [] s.heap := hP
  have hl := lv_entry ([.long (jL za), .long (jL zb)]) (n := 11) (Nat.le_of_ble_eq_true rfl)
  rw [lg_entry_eq]
  generalize (lg_sl ([.long (jL za), .long (jL zb)]) ++ List.replicate (11 - (lg_sl ([.long (jL za), .long (jL zb)])).length) Slot.unset).toArray = ls at hl ⊢
  have hl : lv_has ls 11 [(0, .long (jL za)), (2, .long (jL zb))] := hl
  refine lv_lload_n hx hb dXG_greatestDivisor_0 rfl (lv_at hl 0 rfl) ?_
  refine lv_lstore (lv' := [(4, .long (jL za)), (0, .long (jL za)), (2, .long (jL zb))]) hx hb dXG_greatestDivisor_1 hl (by decide) rfl (fun ls hl => ?_)
  refine lv_lload_n hx hb dXG_greatestDivisor_3 rfl (lv_at hl 2 rfl) ?_
  refine lv_lstore (lv' := [(6, .long (jL zb)), (4, .long (jL za)), (0, .long (jL za)), (2, .long (jL zb))]) hx hb dXG_greatestDivisor_4 hl (by decide) rfl (fun ls hl => ?_)
  refine ji_iconst hx hb dXG_greatestDivisor_6 ?_
  refine lv_istore (lv' := [(8, .int (jI 0)), (6, .long (jL zb)), (4, .long (jL za)), (0, .long (jL za)), (2, .long (jL zb))]) hx hb dXG_greatestDivisor_7 hl (by decide) rfl (fun ls hl => ?_)
  have loop9 : ∀ (n9 : Nat) (u9 : Int) (v : Int) (k : Int) , 100 - k < (n9 : Int) → f_XG_greatestDivisor_L9 za zb n9 u9 v k = f_XG_greatestDivisor za zb → (0 ≤ k ∧ k ≤ 100) → (-1000000000000000000 ≤ u9 ∧ u9 ≤ 1000000000000000000) → (-1000000000000000000 ≤ v ∧ v ≤ 1000000000000000000) → ∀ ls : Array Slot, lv_has ls 11 [(8, .int (jI k)), (6, .long (jL v)), (4, .long (jL u9)), (0, .long (jL za)), (2, .long (jL zb))] → W p l e R s m ([.long (jL za), .long (jL zb)] : List Value).toArray below meth c s.heap [] 0 0 Q (F0 m 9 ls []) := by
    intro n9
    induction n9 with
    | zero =>
      intro u9 v k hm hF hk hu hv
      exact absurd hm (by omega)
    | succ n9 ih9 =>
      intro u9 v k hm hF hk hu hv ls hl
      refine lv_iload hx hb dXG_greatestDivisor_9 (lv_at hl 0 rfl) ?_
      refine ji_bipush hx hb dXG_greatestDivisor_11 (by decide) ?_
      refine ji_icmp_ge (tgt := 44) hx hb dXG_greatestDivisor_13 (by decide) (by omega) (by omega) (fun c13_ => ?_) (fun c13_ => ?_)
      · refine lv_lload hx hb dXG_greatestDivisor_44 (lv_at hl 2 rfl) ?_
        subst hQ
        exact W.lret (v := jL u9) hx hb hr (fun t ht hW => ⟨_, rfl, congrArg jL (Eq.trans (by rw [f_XG_greatestDivisor_L9_s]; rw [if_neg (Int.not_lt.mpr c13_)]; try rfl) hF), ht⟩) (fun _ h => nomatch h) dXG_greatestDivisor_46
      · refine lv_lload hx hb dXG_greatestDivisor_16 (lv_at hl 1 rfl) ?_
        refine ji_lconst (z := 0) hx hb dXG_greatestDivisor_18 rfl ?_
        refine ji_lcmp hx hb dXG_greatestDivisor_19 (by omega) (by omega) ?_
        refine ji_if_eq (tgt := 44) hx hb dXG_greatestDivisor_20 (by decide) (jcmp_i _ _) (fun c20_ => ?_) (fun c20_ => ?_)
        · have c20_ := jcmp_eq.mp c20_
          refine lv_lload hx hb dXG_greatestDivisor_44 (lv_at hl 2 rfl) ?_
          subst hQ
          exact W.lret (v := jL u9) hx hb hr (fun t ht hW => ⟨_, rfl, congrArg jL (Eq.trans (by rw [f_XG_greatestDivisor_L9_s]; rw [if_pos c13_, if_pos c20_]; try rfl) hF), ht⟩) (fun _ h => nomatch h) dXG_greatestDivisor_46
        · have c20_ := jcmp_ne.mp c20_
          refine lv_lload hx hb dXG_greatestDivisor_23 (lv_at hl 2 rfl) ?_
          refine lv_lload hx hb dXG_greatestDivisor_25 (lv_at hl 1 rfl) ?_
          refine ji_lrem_any hx hb dXG_greatestDivisor_27 (by omega) (by omega) (by omega) ?_
          refine lv_lstore (lv' := [(9, .long (jL (Int.tmod u9 v))), (8, .int (jI k)), (6, .long (jL v)), (4, .long (jL u9)), (0, .long (jL za)), (2, .long (jL zb))]) hx hb dXG_greatestDivisor_28 hl (by decide) rfl (fun ls hl => ?_)
          refine lv_lload hx hb dXG_greatestDivisor_30 (lv_at hl 2 rfl) ?_
          refine lv_lstore (lv' := [(4, .long (jL v)), (9, .long (jL (Int.tmod u9 v))), (8, .int (jI k)), (6, .long (jL v)), (0, .long (jL za)), (2, .long (jL zb))]) hx hb dXG_greatestDivisor_32 hl (by decide) rfl (fun ls hl => ?_)
          refine lv_lload hx hb dXG_greatestDivisor_34 (lv_at hl 1 rfl) ?_
          refine lv_lstore (lv' := [(6, .long (jL (Int.tmod u9 v))), (4, .long (jL v)), (9, .long (jL (Int.tmod u9 v))), (8, .int (jI k)), (0, .long (jL za)), (2, .long (jL zb))]) hx hb dXG_greatestDivisor_36 hl (by decide) rfl (fun ls hl => ?_)
          refine ji_iinc (k := 3) (lv' := [(8, .int (jI (k + 1))), (6, .long (jL (Int.tmod u9 v))), (4, .long (jL v)), (9, .long (jL (Int.tmod u9 v))), (0, .long (jL za)), (2, .long (jL zb))]) hx hb dXG_greatestDivisor_38 hl rfl (by decide) rfl (fun ls hl => ?_)
          refine lv_goto (tgt := 9) hx hb dXG_greatestDivisor_41 (by decide) ?_
          exact ih9 v (Int.tmod u9 v) (k + 1) (by omega) (Eq.trans (by rw [f_XG_greatestDivisor_L9_s]; rw [if_pos c13_, if_neg c20_]; try rfl) hF) (by first | assumption | omega) (by first | assumption | omega) (jtmod_le hu) ls (lv_sub hl [0, 1, 2, 4, 5] rfl)
  exact loop9 (Int.toNat (100 - 0) + 1) za zb 0 (by omega) (Eq.trans (by rw [f_XG_greatestDivisor_s]; try rfl) rfl) (by first | assumption | omega) (by first | assumption | omega) (by first | assumption | omega) ls (lv_sub hl [0, 1, 2, 3, 4] rfl)
noncomputable def g_XG_inLowestTerms (za : Int) (zp : Int) : Int :=
  if (f_XG_greatestDivisor za 232792560) < 1 then
    0
  else
    if zp = 0 then
      Int.tdiv za (f_XG_greatestDivisor za 232792560)
    else
      Int.tdiv 232792560 (f_XG_greatestDivisor za 232792560)
noncomputable def f_XG_inLowestTerms : Int → Int → Int := jopq g_XG_inLowestTerms
theorem f_XG_inLowestTerms_q : f_XG_inLowestTerms = g_XG_inLowestTerms := jopq_eq _
theorem f_XG_inLowestTerms_s (za : Int) (zp : Int) : f_XG_inLowestTerms za zp = (
    if (f_XG_greatestDivisor za 232792560) < 1 then
      0
    else
      if zp = 0 then
        Int.tdiv za (f_XG_greatestDivisor za 232792560)
      else
        Int.tdiv 232792560 (f_XG_greatestDivisor za 232792560)
  : Int) := by rw [f_XG_inLowestTerms_q]; rfl
set_option maxHeartbeats 4000000 in
set_option maxRecDepth 100000 in
theorem c_XG_inLowestTerms (l : Launch) (dC : Nat → ClassId) (dI : Nat → Nat → Nat) (cA : ClassId) (za : Int) (zp : Int) (hza : -1000000000000000000 ≤ za ∧ za ≤ 1000000000000000000) (hzp : i32 zp) : Met l yXG_inLowestTerms (Cond.code yXG_inLowestTerms cXG_inLowestTerms 5 (some .long) :: TBL) ({ frames := 1, cells := 0, slots := 0, locals := 30 } : Room) (va_Pc [.long (jL za), .int (jI zp)] (jB (dC, dI) [(cA, .int)] [])) (vp_Sl (fun r => r = jL (f_XG_inLowestTerms za zp))) 0 0 (fun _ => False) := by
  refine jMet (cc := cXG_inLowestTerms) (maxL := 5) (ret := some .long) (by decide) rfl ?_
  intro p e s m args below meth c s₁ R Q hR hQ B hml hv
  obtain ⟨rfl, hP, hK, hN⟩ := hv
  have hx := B.exec
  have hb := B.bytes
  have hr := B.returns
  have hts := atoms_spec (ws := Cond.code yXG_inLowestTerms cXG_inLowestTerms 5 (some .long) :: TBL) B.pre
  have hown : s.vm.findClass RXG = some m.cls := findClass_of_methodNamed B.named
  have hlocks := B.notSynchronized
  have hP : va_P (dC, dI) vwCl [] s.heap := hP
  have hl := lv_entry ([.long (jL za), .int (jI zp)]) (n := 5) (Nat.le_of_ble_eq_true rfl)
  rw [lg_entry_eq]
  generalize (lg_sl ([.long (jL za), .int (jI zp)]) ++ List.replicate (5 - (lg_sl ([.long (jL za), .int (jI zp)])).length) Slot.unset).toArray = ls at hl ⊢
  have hl : lv_has ls 5 [(0, .long (jL za)), (2, .int (jI zp))] := hl
  refine lv_lload_n hx hb dXG_inLowestTerms_0 rfl (lv_at hl 0 rfl) ?_
  refine lv_ldc2 hx hb hown (hts _ (jmem tw_498)) dXG_inLowestTerms_1 ?_
  refine ji_rel (y := 232792560) (by decide) ?_
  refine jrSl (rest := []) ⟨hx, hb, hml, hown, hts⟩ (c_XG_greatestDivisor l dC dI cA za 232792560 (by first | assumption | omega) (by first | assumption | omega)) (cwS 2 hts (jG_S tw_499 tw_500 tw_1 tw_501) rfl rfl rfl (by decide +kernel) (by rw [hR]; exact ⟨Nat.le_of_ble_eq_true rfl, Nat.le_of_ble_eq_true rfl⟩)) hK hP hN [] rfl rfl hl.1 rfl (Nat.le_of_ble_eq_true rfl) dXG_inLowestTerms_4 (by rw [hR]; exact ⟨Nat.le_of_ble_eq_true rfl, Nat.le_of_ble_eq_true rfl⟩) ?_
  have f := f_XG_greatestDivisor_b za 232792560 (by first | assumption | omega) (by first | assumption | omega)
  refine lv_lstore_n (lv' := [(3, .long (jL (f_XG_greatestDivisor za 232792560))), (0, .long (jL za)), (2, .int (jI zp))]) hx hb dXG_inLowestTerms_7 rfl hl (by decide) rfl (fun ls hl => ?_)
  refine lv_lload_n hx hb dXG_inLowestTerms_8 rfl (lv_at hl 0 rfl) ?_
  refine ji_lconst (z := 1) hx hb dXG_inLowestTerms_9 rfl ?_
  refine ji_lcmp hx hb dXG_inLowestTerms_10 (by omega) (by omega) ?_
  refine ji_if_ge (tgt := 16) hx hb dXG_inLowestTerms_11 (by decide) (jcmp_i _ _) (fun c11_ => ?_) (fun c11_ => ?_)
  · have c11_ := jcmp_nlt.mp c11_
    refine lv_iload_n hx hb dXG_inLowestTerms_16 rfl (lv_at hl 2 rfl) ?_
    refine ji_if_ne (tgt := 24) hx hb dXG_inLowestTerms_17 (by decide) (by omega) (fun c17_ => ?_) (fun c17_ => ?_)
    · refine lv_ldc2 hx hb hown (hts _ (jmem tw_498)) dXG_inLowestTerms_24 ?_
      refine ji_rel (y := 232792560) (by decide) ?_
      refine lv_lload_n hx hb dXG_inLowestTerms_27 rfl (lv_at hl 0 rfl) ?_
      refine ji_ldiv hx hb dXG_inLowestTerms_28 (by omega) (by omega) (by omega) (by omega) ?_
      subst hQ
      exact W.lret (v := jL (Int.tdiv 232792560 (f_XG_greatestDivisor za 232792560))) hx hb hr (fun t ht hW => ⟨_, rfl, congrArg jL (Eq.trans (by rw [f_XG_inLowestTerms_s]; rw [if_neg (Int.not_lt.mpr c11_), if_neg c17_]; try rfl) rfl), ht⟩) (fun _ h => nomatch h) dXG_inLowestTerms_29
    · refine lv_lload_n hx hb dXG_inLowestTerms_20 rfl (lv_at hl 1 rfl) ?_
      refine lv_goto (tgt := 27) hx hb dXG_inLowestTerms_21 (by decide) ?_
      refine lv_lload_n hx hb dXG_inLowestTerms_27 rfl (lv_at hl 0 rfl) ?_
      refine ji_ldiv hx hb dXG_inLowestTerms_28 (by omega) (by omega) (by omega) (by omega) ?_
      subst hQ
      exact W.lret (v := jL (Int.tdiv za (f_XG_greatestDivisor za 232792560))) hx hb hr (fun t ht hW => ⟨_, rfl, congrArg jL (Eq.trans (by rw [f_XG_inLowestTerms_s]; rw [if_neg (Int.not_lt.mpr c11_), if_pos c17_]; try rfl) rfl), ht⟩) (fun _ h => nomatch h) dXG_inLowestTerms_29
  · have c11_ := jcmp_lt.mp c11_
    refine ji_lconst (z := 0) hx hb dXG_inLowestTerms_14 rfl ?_
    subst hQ
    exact W.lret (v := jL 0) hx hb hr (fun t ht hW => ⟨_, rfl, congrArg jL (Eq.trans (by rw [f_XG_inLowestTerms_s]; rw [if_pos c11_]; try rfl) rfl), ht⟩) (fun _ h => nomatch h) dXG_inLowestTerms_15
