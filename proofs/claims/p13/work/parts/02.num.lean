/-! numbers: an int of the machine by a whole number -/
def jI (z : Int) : Int32 := Int32.ofInt z
def jL (z : Int) : Int64 := Int64.ofInt z
abbrev i32 (z : Int) : Prop := -2147483648 ≤ z ∧ z < 2147483648
abbrev i64 (z : Int) : Prop := -9223372036854775808 ≤ z ∧ z < 9223372036854775808
theorem jI_toInt {z : Int} (h : i32 z) : (jI z).toInt = z := Int32.toInt_ofInt_of_le (by omega) (by omega)
theorem jL_toInt {z : Int} (h : i64 z) : (jL z).toInt = z := Int64.toInt_ofInt_of_le (by omega) (by omega)
theorem jI_add (a b : Int) : jI a + jI b = jI (a + b) := (Int32.ofInt_add a b).symm
theorem jI_sub (a b : Int) : jI a - jI b = jI (a - b) := (Int32.ofInt_sub a b).symm
theorem jI_mul (a b : Int) : jI a * jI b = jI (a * b) := (Int32.ofInt_mul a b).symm
theorem jL_add (a b : Int) : jL a + jL b = jL (a + b) := (Int64.ofInt_add a b).symm
theorem jL_sub (a b : Int) : jL a - jL b = jL (a - b) := (Int64.ofInt_sub a b).symm
theorem jL_mul (a b : Int) : jL a * jL b = jL (a * b) := (Int64.ofInt_mul a b).symm
theorem jI_inj {a b : Int} (ha : i32 a) (hb : i32 b) : jI a = jI b ↔ a = b := by
  rw [← Int32.toInt_inj, jI_toInt ha, jI_toInt hb]
theorem jL_inj {a b : Int} (ha : i64 a) (hb : i64 b) : jL a = jL b ↔ a = b := by
  rw [← Int64.toInt_inj, jL_toInt ha, jL_toInt hb]
theorem jI_lt {a b : Int} (ha : i32 a) (hb : i32 b) : jI a < jI b ↔ a < b := by
  rw [Int32.lt_iff_toInt_lt, jI_toInt ha, jI_toInt hb]
theorem jI_le {a b : Int} (ha : i32 a) (hb : i32 b) : jI a ≤ jI b ↔ a ≤ b := by
  rw [Int32.le_iff_toInt_le, jI_toInt ha, jI_toInt hb]
theorem jL_lt {a b : Int} (ha : i64 a) (hb : i64 b) : jL a < jL b ↔ a < b := by
  rw [Int64.lt_iff_toInt_lt, jL_toInt ha, jL_toInt hb]
theorem jI_0 : (0 : Int32) = jI 0 := by decide
theorem jL_0 : (0 : Int64) = jL 0 := by decide
theorem i32_0 : i32 0 := by decide
theorem jI_clamp {z : Int} (h0 : 0 ≤ z) (h : z < 2147483648) : (jI z).toNatClampNeg = z.toNat := Int32.toNatClampNeg_ofInt_of_le (by omega) (by omega)
theorem jI_nat (n : Nat) : Int32.ofNat n = jI (n : Int) := Int32.ofInt_eq_ofNat.symm
theorem jI_L {z : Int} (h : i32 z) : (jI z).toInt64 = jL z := by
  have h1 : (jI z).toInt64.toInt = z := by rw [Int32.toInt_toInt64, jI_toInt h]
  rw [← Int64.toInt_inj, h1, jL_toInt (by omega)]
theorem jL_I (z : Int) : (jL z).toInt32 = jI z := Int64.toInt32_ofInt
theorem jI_div {a b : Int} (ha : i32 a) (hb : i32 b) (h1 : b ≠ -1) : jI a / jI b = jI (a.tdiv b) := by
  have hne : jI b ≠ -1 := fun q => h1 ((jI_inj hb (by decide : i32 (-1))).mp (by rw [q]; decide))
  have h := Int32.toInt_div_of_ne_right (jI a) (jI b) hne
  rw [jI_toInt ha, jI_toInt hb] at h
  have hr : jI a / jI b = Int32.ofInt (jI a / jI b).toInt := (Int32.ofInt_toInt _).symm
  rw [hr, h]; rfl
theorem jL_div {a b : Int} (ha : i64 a) (hb : i64 b) (h1 : b ≠ -1) : jL a / jL b = jL (a.tdiv b) := by
  have hne : jL b ≠ -1 := fun q => h1 ((jL_inj hb (by decide : i64 (-1))).mp (by rw [q]; decide))
  have h := Int64.toInt_div_of_ne_right (jL a) (jL b) hne
  rw [jL_toInt ha, jL_toInt hb] at h
  have hr : jL a / jL b = Int64.ofInt (jL a / jL b).toInt := (Int64.ofInt_toInt _).symm
  rw [hr, h]; rfl
theorem jI_rem {a b : Int} (ha : i32 a) (hb : i32 b) (h1 : b ≠ -1) : jI a - jI a / jI b * jI b = jI (a.tmod b) := by
  rw [jI_div ha hb h1, jI_mul, jI_sub, Int.tmod_def, Int.mul_comm]
theorem jL_rem {a b : Int} (ha : i64 a) (hb : i64 b) (h1 : b ≠ -1) : jL a - jL a / jL b * jL b = jL (a.tmod b) := by
  rw [jL_div ha hb h1, jL_mul, jL_sub, Int.tmod_def, Int.mul_comm]
/-! an int array by a function of whole numbers -/
def jA (f : Int → Int) : Nat → Int32 := fun j => jI (f (j : Int))
def jset (f : Int → Int) (i x : Int) : Int → Int := fun j => if j = i then x else f j
theorem jA_at {f : Int → Int} {i : Int} {n : Nat} (h0 : 0 ≤ i) (h1 : i < (n : Int)) (hn : n ≤ 2147483648) : jA f (jI i).toNatClampNeg = jI (f i) := by
  rw [jI_clamp h0 (by omega)]
  show jI (f (i.toNat : Int)) = jI (f i)
  rw [Int.toNat_of_nonneg h0]
theorem jA_in {i : Int} {n : Nat} (h0 : 0 ≤ i) (h1 : i < (n : Int)) (hn : n ≤ 2147483648) : vp_in (jI i) n := by
  rw [vp_in_iff, jI_toInt (by omega)]
  exact ⟨h0, h1⟩
theorem jA_upd {f : Int → Int} {i x : Int} {n : Nat} (h0 : 0 ≤ i) (h1 : i < (n : Int)) (hn : n ≤ 2147483648) : upd (jA f) (jI i).toNatClampNeg (jI x) = jA (jset f i x) := by
  rw [jI_clamp h0 (by omega)]
  funext j
  show (if j = i.toNat then jI x else jI (f (j : Int))) = jI (if (j : Int) = i then x else f (j : Int))
  by_cases h : j = i.toNat
  · rw [if_pos h, if_pos (by omega)]
  · rw [if_neg h, if_neg (by omega)]

section JR
variable {p : Program} {l : Launch} {e : Env} {R : Room} {s : State} {m : MethodId} {args : Array Value} {below : List Frame} {meth : Method} {c : Code} {H : Heap} {locs : List Loc} {cells slots : Nat} {Q : State → Prop}
variable {cc : ByteArray} {pc : Nat} {ls : Array Slot} {rest : List Value} {D : va_G} {cl : List vw_C} {A : Nat → Prop} {a : Nat} {tys : List (ClassId × FieldType)} {ws : va_W} {H0 : Heap}
theorem ji_iconst (hx : p.tables.exec = Jvm.exec) (hb : c.code = cc) {n : Int} (hdg : decode cc pc = .ok (.iconst n, 1)) (k : W p l e R s m args below meth c H locs cells slots Q (F0 m (pc + 1) ls (.int (jI n) :: rest))) : W p l e R s m args below meth c H locs cells slots Q (F0 m pc ls (rest)) := lv_iconst hx hb hdg rfl k
theorem ji_bipush (hx : p.tables.exec = Jvm.exec) (hb : c.code = cc) {n : Int} (hdg : decode cc pc = .ok (.bipush n, 2)) (hn : -128 ≤ n ∧ n < 128) (k : W p l e R s m args below meth c H locs cells slots Q (F0 m (pc + 2) ls (.int (jI n) :: rest))) : W p l e R s m args below meth c H locs cells slots Q (F0 m pc ls rest) := lv_bipush hx hb hdg (by rw [← Int32.toInt_inj, Int8.toInt_toInt32, jI_toInt (by omega)]; exact Int8.toInt_ofInt_of_le (by omega) (by omega)) k
theorem ji_sipush (hx : p.tables.exec = Jvm.exec) (hb : c.code = cc) {n : Int} (hdg : decode cc pc = .ok (.sipush n, 3)) (hn : -32768 ≤ n ∧ n < 32768) (k : W p l e R s m args below meth c H locs cells slots Q (F0 m (pc + 3) ls (.int (jI n) :: rest))) : W p l e R s m args below meth c H locs cells slots Q (F0 m pc ls rest) := lv_sipush hx hb hdg (by rw [← Int32.toInt_inj, Int16.toInt_toInt32, jI_toInt (by omega)]; exact Int16.toInt_ofInt_of_le (by omega) (by omega)) k
theorem ji_lconst (hx : p.tables.exec = Jvm.exec) (hb : c.code = cc) {n : Fin 2} {z : Int} (hdg : decode cc pc = .ok (.lconst n, 1)) (hz : z = ((n : Nat) : Int)) (k : W p l e R s m args below meth c H locs cells slots Q (F0 m (pc + 1) ls (.long (jL z) :: rest))) : W p l e R s m args below meth c H locs cells slots Q (F0 m pc ls rest) := lv_lconst hx hb hdg (by rw [hz]; exact Int64.ofInt_eq_ofNat.symm) k
theorem ji_iadd (hx : p.tables.exec = Jvm.exec) (hb : c.code = cc) {x y : Int} (hdg : decode cc pc = .ok (.iadd, 1)) (k : W p l e R s m args below meth c H locs cells slots Q (F0 m (pc + 1) ls (.int (jI (x + y)) :: rest))) : W p l e R s m args below meth c H locs cells slots Q (F0 m pc ls (.int (jI y) :: .int (jI x) :: rest)) := lv_iadd hx hb hdg (by rw [jI_add]; exact k)
theorem ji_ladd (hx : p.tables.exec = Jvm.exec) (hb : c.code = cc) {x y : Int} (hdg : decode cc pc = .ok (.ladd, 1)) (k : W p l e R s m args below meth c H locs cells slots Q (F0 m (pc + 1) ls (.long (jL (x + y)) :: rest))) : W p l e R s m args below meth c H locs cells slots Q (F0 m pc ls (.long (jL y) :: .long (jL x) :: rest)) := lv_ladd hx hb hdg (by rw [jL_add]; exact k)
theorem ji_isub (hx : p.tables.exec = Jvm.exec) (hb : c.code = cc) {x y : Int} (hdg : decode cc pc = .ok (.isub, 1)) (k : W p l e R s m args below meth c H locs cells slots Q (F0 m (pc + 1) ls (.int (jI (x - y)) :: rest))) : W p l e R s m args below meth c H locs cells slots Q (F0 m pc ls (.int (jI y) :: .int (jI x) :: rest)) := lv_isub hx hb hdg (by rw [jI_sub]; exact k)
theorem ji_imul (hx : p.tables.exec = Jvm.exec) (hb : c.code = cc) {x y : Int} (hdg : decode cc pc = .ok (.imul, 1)) (k : W p l e R s m args below meth c H locs cells slots Q (F0 m (pc + 1) ls (.int (jI (x * y)) :: rest))) : W p l e R s m args below meth c H locs cells slots Q (F0 m pc ls (.int (jI y) :: .int (jI x) :: rest)) := lv_imul hx hb hdg (by rw [jI_mul]; exact k)
theorem ji_lmul (hx : p.tables.exec = Jvm.exec) (hb : c.code = cc) {x y : Int} (hdg : decode cc pc = .ok (.lmul, 1)) (k : W p l e R s m args below meth c H locs cells slots Q (F0 m (pc + 1) ls (.long (jL (x * y)) :: rest))) : W p l e R s m args below meth c H locs cells slots Q (F0 m pc ls (.long (jL y) :: .long (jL x) :: rest)) := lv_lmul hx hb hdg (by rw [jL_mul]; exact k)
theorem ji_idiv (hx : p.tables.exec = Jvm.exec) (hb : c.code = cc) {x y : Int} (hdg : decode cc pc = .ok (.idiv, 1)) (h1 : i32 x) (h2 : i32 y) (h3 : y ≠ 0) (h4 : y ≠ -1) (k : W p l e R s m args below meth c H locs cells slots Q (F0 m (pc + 1) ls (.int (jI (x.tdiv y)) :: rest))) : W p l e R s m args below meth c H locs cells slots Q (F0 m pc ls (.int (jI y) :: .int (jI x) :: rest)) := lv_idiv hx hb hdg (fun q => h3 ((jI_inj h2 (by decide)).mp (q.trans jI_0))) (by rw [jI_div h1 h2 h4]; exact k)
theorem ji_irem (hx : p.tables.exec = Jvm.exec) (hb : c.code = cc) {x y : Int} (hdg : decode cc pc = .ok (.irem, 1)) (h1 : i32 x) (h2 : i32 y) (h3 : y ≠ 0) (h4 : y ≠ -1) (k : W p l e R s m args below meth c H locs cells slots Q (F0 m (pc + 1) ls (.int (jI (x.tmod y)) :: rest))) : W p l e R s m args below meth c H locs cells slots Q (F0 m pc ls (.int (jI y) :: .int (jI x) :: rest)) := lv_irem hx hb hdg (fun q => h3 ((jI_inj h2 (by decide)).mp (q.trans jI_0))) (by rw [jI_rem h1 h2 h4]; exact k)
theorem ji_ldiv (hx : p.tables.exec = Jvm.exec) (hb : c.code = cc) {x y : Int} (hdg : decode cc pc = .ok (.ldiv, 1)) (h1 : i64 x) (h2 : i64 y) (h3 : y ≠ 0) (h4 : y ≠ -1) (k : W p l e R s m args below meth c H locs cells slots Q (F0 m (pc + 1) ls (.long (jL (x.tdiv y)) :: rest))) : W p l e R s m args below meth c H locs cells slots Q (F0 m pc ls (.long (jL y) :: .long (jL x) :: rest)) := lv_ldiv hx hb hdg (fun q => h3 ((jL_inj h2 (by decide)).mp (q.trans jL_0))) (by rw [jL_div h1 h2 h4]; exact k)
theorem ji_lrem (hx : p.tables.exec = Jvm.exec) (hb : c.code = cc) {x y : Int} (hdg : decode cc pc = .ok (.lrem, 1)) (h1 : i64 x) (h2 : i64 y) (h3 : y ≠ 0) (h4 : y ≠ -1) (k : W p l e R s m args below meth c H locs cells slots Q (F0 m (pc + 1) ls (.long (jL (x.tmod y)) :: rest))) : W p l e R s m args below meth c H locs cells slots Q (F0 m pc ls (.long (jL y) :: .long (jL x) :: rest)) := lv_lrem hx hb hdg (fun q => h3 ((jL_inj h2 (by decide)).mp (q.trans jL_0))) (by rw [jL_rem h1 h2 h4]; exact k)
theorem ji_i2l (hx : p.tables.exec = Jvm.exec) (hb : c.code = cc) {x : Int} (hdg : decode cc pc = .ok (.i2l, 1)) (h1 : i32 x) (k : W p l e R s m args below meth c H locs cells slots Q (F0 m (pc + 1) ls (.long (jL x) :: rest))) : W p l e R s m args below meth c H locs cells slots Q (F0 m pc ls (.int (jI x) :: rest)) := lv_i2l hx hb hdg (jI_L h1) k
theorem ji_l2i (hx : p.tables.exec = Jvm.exec) (hb : c.code = cc) {x : Int} (hdg : decode cc pc = .ok (.l2i, 1)) (k : W p l e R s m args below meth c H locs cells slots Q (F0 m (pc + 1) ls (.int (jI x) :: rest))) : W p l e R s m args below meth c H locs cells slots Q (F0 m pc ls (.long (jL x) :: rest)) := lv_l2i hx hb hdg (jL_I x) k
theorem ji_icmp_eq (hx : p.tables.exec = Jvm.exec) (hb : c.code = cc) {x y : Int} {off : Int} {tgt : Nat} (hdg : decode cc pc = .ok (.if_icmp .eq off, 3)) (ht : (pc : Int) + off = (tgt : Int)) (h1 : i32 x) (h2 : i32 y) (kt : x = y → W p l e R s m args below meth c H locs cells slots Q (F0 m tgt ls rest)) (kf : x ≠ y → W p l e R s m args below meth c H locs cells slots Q (F0 m (pc + 3) ls rest)) : W p l e R s m args below meth c H locs cells slots Q (F0 m pc ls (.int (jI y) :: .int (jI x) :: rest)) := lv_icmp_eq hx hb hdg ht (fun q => kt ((jI_inj h1 h2).mp q)) (fun q => kf (fun z => q ((jI_inj h1 h2).mpr z)))
theorem ji_if_eq (hx : p.tables.exec = Jvm.exec) (hb : c.code = cc) {x : Int} {off : Int} {tgt : Nat} (hdg : decode cc pc = .ok (.ifCond .eq off, 3)) (ht : (pc : Int) + off = (tgt : Int)) (h1 : i32 x) (kt : x = 0 → W p l e R s m args below meth c H locs cells slots Q (F0 m tgt ls rest)) (kf : x ≠ 0 → W p l e R s m args below meth c H locs cells slots Q (F0 m (pc + 3) ls rest)) : W p l e R s m args below meth c H locs cells slots Q (F0 m pc ls (.int (jI x) :: rest)) := lv_if_eq hx hb hdg ht (fun q => kt ((jI_inj h1 i32_0).mp (q.trans jI_0))) (fun q => kf (fun z => q (((jI_inj h1 i32_0).mpr z).trans jI_0.symm)))
theorem ji_icmp_ne (hx : p.tables.exec = Jvm.exec) (hb : c.code = cc) {x y : Int} {off : Int} {tgt : Nat} (hdg : decode cc pc = .ok (.if_icmp .ne off, 3)) (ht : (pc : Int) + off = (tgt : Int)) (h1 : i32 x) (h2 : i32 y) (kt : x ≠ y → W p l e R s m args below meth c H locs cells slots Q (F0 m tgt ls rest)) (kf : x = y → W p l e R s m args below meth c H locs cells slots Q (F0 m (pc + 3) ls rest)) : W p l e R s m args below meth c H locs cells slots Q (F0 m pc ls (.int (jI y) :: .int (jI x) :: rest)) := lv_icmp_ne hx hb hdg ht (fun q => kt (fun z => q ((jI_inj h1 h2).mpr z))) (fun q => kf ((jI_inj h1 h2).mp q))
theorem ji_if_ne (hx : p.tables.exec = Jvm.exec) (hb : c.code = cc) {x : Int} {off : Int} {tgt : Nat} (hdg : decode cc pc = .ok (.ifCond .ne off, 3)) (ht : (pc : Int) + off = (tgt : Int)) (h1 : i32 x) (kt : x ≠ 0 → W p l e R s m args below meth c H locs cells slots Q (F0 m tgt ls rest)) (kf : x = 0 → W p l e R s m args below meth c H locs cells slots Q (F0 m (pc + 3) ls rest)) : W p l e R s m args below meth c H locs cells slots Q (F0 m pc ls (.int (jI x) :: rest)) := lv_if_ne hx hb hdg ht (fun q => kt (fun z => q (((jI_inj h1 i32_0).mpr z).trans jI_0.symm))) (fun q => kf ((jI_inj h1 i32_0).mp (q.trans jI_0)))
theorem ji_icmp_lt (hx : p.tables.exec = Jvm.exec) (hb : c.code = cc) {x y : Int} {off : Int} {tgt : Nat} (hdg : decode cc pc = .ok (.if_icmp .lt off, 3)) (ht : (pc : Int) + off = (tgt : Int)) (h1 : i32 x) (h2 : i32 y) (kt : x < y → W p l e R s m args below meth c H locs cells slots Q (F0 m tgt ls rest)) (kf : y ≤ x → W p l e R s m args below meth c H locs cells slots Q (F0 m (pc + 3) ls rest)) : W p l e R s m args below meth c H locs cells slots Q (F0 m pc ls (.int (jI y) :: .int (jI x) :: rest)) := lv_icmp_lt hx hb hdg ht (fun q => kt ((jI_lt h1 h2).mp q)) (fun q => kf (by have q' := mt (jI_lt h1 h2).mpr q; omega))
theorem ji_if_lt (hx : p.tables.exec = Jvm.exec) (hb : c.code = cc) {x : Int} {off : Int} {tgt : Nat} (hdg : decode cc pc = .ok (.ifCond .lt off, 3)) (ht : (pc : Int) + off = (tgt : Int)) (h1 : i32 x) (kt : x < 0 → W p l e R s m args below meth c H locs cells slots Q (F0 m tgt ls rest)) (kf : 0 ≤ x → W p l e R s m args below meth c H locs cells slots Q (F0 m (pc + 3) ls rest)) : W p l e R s m args below meth c H locs cells slots Q (F0 m pc ls (.int (jI x) :: rest)) := lv_if_lt hx hb hdg ht (fun q => kt ((jI_lt h1 i32_0).mp (by rw [jI_0] at q; exact q))) (fun q => kf (by rw [jI_0] at q; have q' := mt (jI_lt h1 i32_0).mpr q; omega))
theorem ji_icmp_ge (hx : p.tables.exec = Jvm.exec) (hb : c.code = cc) {x y : Int} {off : Int} {tgt : Nat} (hdg : decode cc pc = .ok (.if_icmp .ge off, 3)) (ht : (pc : Int) + off = (tgt : Int)) (h1 : i32 x) (h2 : i32 y) (kt : y ≤ x → W p l e R s m args below meth c H locs cells slots Q (F0 m tgt ls rest)) (kf : x < y → W p l e R s m args below meth c H locs cells slots Q (F0 m (pc + 3) ls rest)) : W p l e R s m args below meth c H locs cells slots Q (F0 m pc ls (.int (jI y) :: .int (jI x) :: rest)) := lv_icmp_ge hx hb hdg ht (fun q => kt ((jI_le h2 h1).mp q)) (fun q => kf (by have q' := mt (jI_le h2 h1).mpr q; omega))
theorem ji_if_ge (hx : p.tables.exec = Jvm.exec) (hb : c.code = cc) {x : Int} {off : Int} {tgt : Nat} (hdg : decode cc pc = .ok (.ifCond .ge off, 3)) (ht : (pc : Int) + off = (tgt : Int)) (h1 : i32 x) (kt : 0 ≤ x → W p l e R s m args below meth c H locs cells slots Q (F0 m tgt ls rest)) (kf : x < 0 → W p l e R s m args below meth c H locs cells slots Q (F0 m (pc + 3) ls rest)) : W p l e R s m args below meth c H locs cells slots Q (F0 m pc ls (.int (jI x) :: rest)) := lv_if_ge hx hb hdg ht (fun q => kt ((jI_le i32_0 h1).mp (by rw [jI_0] at q; exact q))) (fun q => kf (by rw [jI_0] at q; have q' := mt (jI_le i32_0 h1).mpr q; omega))
theorem ji_icmp_gt (hx : p.tables.exec = Jvm.exec) (hb : c.code = cc) {x y : Int} {off : Int} {tgt : Nat} (hdg : decode cc pc = .ok (.if_icmp .gt off, 3)) (ht : (pc : Int) + off = (tgt : Int)) (h1 : i32 x) (h2 : i32 y) (kt : y < x → W p l e R s m args below meth c H locs cells slots Q (F0 m tgt ls rest)) (kf : x ≤ y → W p l e R s m args below meth c H locs cells slots Q (F0 m (pc + 3) ls rest)) : W p l e R s m args below meth c H locs cells slots Q (F0 m pc ls (.int (jI y) :: .int (jI x) :: rest)) := lv_icmp_gt hx hb hdg ht (fun q => kt ((jI_lt h2 h1).mp q)) (fun q => kf (by have q' := mt (jI_lt h2 h1).mpr q; omega))
theorem ji_icmp_le (hx : p.tables.exec = Jvm.exec) (hb : c.code = cc) {x y : Int} {off : Int} {tgt : Nat} (hdg : decode cc pc = .ok (.if_icmp .le off, 3)) (ht : (pc : Int) + off = (tgt : Int)) (h1 : i32 x) (h2 : i32 y) (kt : x ≤ y → W p l e R s m args below meth c H locs cells slots Q (F0 m tgt ls rest)) (kf : y < x → W p l e R s m args below meth c H locs cells slots Q (F0 m (pc + 3) ls rest)) : W p l e R s m args below meth c H locs cells slots Q (F0 m pc ls (.int (jI y) :: .int (jI x) :: rest)) := lv_icmp_le hx hb hdg ht (fun q => kt ((jI_le h1 h2).mp q)) (fun q => kf (by have q' := mt (jI_le h1 h2).mpr q; omega))
theorem ji_if_le (hx : p.tables.exec = Jvm.exec) (hb : c.code = cc) {x : Int} {off : Int} {tgt : Nat} (hdg : decode cc pc = .ok (.ifCond .le off, 3)) (ht : (pc : Int) + off = (tgt : Int)) (h1 : i32 x) (kt : x ≤ 0 → W p l e R s m args below meth c H locs cells slots Q (F0 m tgt ls rest)) (kf : 0 < x → W p l e R s m args below meth c H locs cells slots Q (F0 m (pc + 3) ls rest)) : W p l e R s m args below meth c H locs cells slots Q (F0 m pc ls (.int (jI x) :: rest)) := lv_if_le hx hb hdg ht (fun q => kt ((jI_le h1 i32_0).mp (by rw [jI_0] at q; exact q))) (fun q => kf (by rw [jI_0] at q; have q' := mt (jI_le h1 i32_0).mpr q; omega))
def jcmp (x y : Int) : Int := if y < x then 1 else if x = y then 0 else -1
theorem jcmp_i (x y : Int) : i32 (jcmp x y) := by unfold jcmp; split <;> (try split) <;> decide
theorem jcmp_lt {x y : Int} : jcmp x y < 0 ↔ x < y := by unfold jcmp; split <;> (try split) <;> omega
theorem jcmp_gt {x y : Int} : 0 < jcmp x y ↔ y < x := by unfold jcmp; split <;> (try split) <;> omega
theorem jcmp_eq {x y : Int} : jcmp x y = 0 ↔ x = y := by unfold jcmp; split <;> (try split) <;> omega
theorem jcmp_of {x y : Int} (h1 : i64 x) (h2 : i64 y) : lg_cmp (jL x) (jL y) = jI (jcmp x y) := by
  unfold lg_cmp jcmp
  by_cases q : y < x
  · rw [if_pos q, if_pos (show jL x > jL y from (jL_lt h2 h1).mpr q)]; decide
  · rw [if_neg q, if_neg (show ¬ jL x > jL y from fun z => q ((jL_lt h2 h1).mp z))]
    by_cases q2 : x = y
    · rw [if_pos q2, if_pos ((jL_inj h1 h2).mpr q2)]; decide
    · rw [if_neg q2, if_neg (fun z => q2 ((jL_inj h1 h2).mp z))]; decide
theorem ji_lcmp (hx : p.tables.exec = Jvm.exec) (hb : c.code = cc) {x y : Int} (hdg : decode cc pc = .ok (.lcmp, 1)) (h1 : i64 x) (h2 : i64 y) (k : W p l e R s m args below meth c H locs cells slots Q (F0 m (pc + 1) ls (.int (jI (jcmp x y)) :: rest))) : W p l e R s m args below meth c H locs cells slots Q (F0 m pc ls (.long (jL y) :: .long (jL x) :: rest)) := W.lcmp hx hb hdg (by rw [jcmp_of h1 h2]; exact k)
theorem ji_top {x : Int} (k : ∀ y : Int, y = x → W p l e R s m args below meth c H locs cells slots Q (F0 m pc ls (.int (jI y) :: rest))) : W p l e R s m args below meth c H locs cells slots Q (F0 m pc ls (.int (jI x) :: rest)) := k x rfl
theorem ji_topl {x : Int} (k : ∀ y : Int, y = x → W p l e R s m args below meth c H locs cells slots Q (F0 m pc ls (.long (jL y) :: rest))) : W p l e R s m args below meth c H locs cells slots Q (F0 m pc ls (.long (jL x) :: rest)) := k x rfl
theorem ji_re {x : Int32} {y : Int} (h : x = jI y) (k : W p l e R s m args below meth c H locs cells slots Q (F0 m pc ls (.int (jI y) :: rest))) : W p l e R s m args below meth c H locs cells slots Q (F0 m pc ls (.int x :: rest)) := by rw [h]; exact k
theorem ji_rel {x : Int64} {y : Int} (h : x = jL y) (k : W p l e R s m args below meth c H locs cells slots Q (F0 m pc ls (.long (jL y) :: rest))) : W p l e R s m args below meth c H locs cells slots Q (F0 m pc ls (.long x :: rest)) := by rw [h]; exact k
theorem ji_iinc (hx : p.tables.exec = Jvm.exec) (hb : c.code = cc) {i nL k : Nat} {n : Int} {x : Int} {lv lv' : List (Nat × Value)} (hdg : decode cc pc = .ok (.iinc i n, 3)) (h : lv_has ls nL lv) (hk : lv[k]? = some (i, .int (jI x))) (hn : i < nL) (hl : (i, Value.int (jI (x + n))) :: lv.filter (fun q => !(q.1 == i) && !(q.1 + 1 == i && q.2.category == 2)) = lv') (kk : ∀ ls', lv_has ls' nL lv' → W p l e R s m args below meth c H locs cells slots Q (F0 m (pc + 3) ls' rest)) : W p l e R s m args below meth c H locs cells slots Q (F0 m pc ls rest) := lv_iinc (v := jI (x + n)) hx hb hdg h hk (jI_add x n) hn hl kk
theorem ji_iald (hx : p.tables.exec = Jvm.exec) (hb : c.code = cc) (hK : va_K D cl tys s) (hP : va_P D cl ws H) (q0 t0 : Nat) {cA : ClassId} {n : Nat} {f : Int → Int} (ha : ws[q0]? = some (a, .inl (cA, n, .inl (jA f)))) (ht : tys[t0]? = some (cA, .int)) {i : Int} (h0 : 0 ≤ i ∧ i < (n : Int)) (hn : n ≤ 2147483648) (hdg : decode cc pc = .ok (.iaload, 1)) (kk : W p l e R s m args below meth c H locs cells slots Q (F0 m (pc + 1) ls (.int (jI (f i)) :: rest))) : W p l e R s m args below meth c H locs cells slots Q (F0 m pc ls (.int (jI i) :: .ref a :: rest)) := va_iald hx hb hK hP q0 t0 ha ht (jA_in h0.1 h0.2 hn) hdg (by rw [jA_at h0.1 h0.2 hn]; exact kk)
theorem ji_iast (hx : p.tables.exec = Jvm.exec) (hb : c.code = cc) (hK : va_K D cl tys s) (hP : va_P D cl ws H) (hD : va_D A ws) (hS : va_S A H0 H locs) (q0 t0 : Nat) {cA : ClassId} {n : Nat} {f : Int → Int} (ha : ws[q0]? = some (a, .inl (cA, n, .inl (jA f)))) (ht : tys[t0]? = some (cA, .int)) {i x : Int} (h0 : 0 ≤ i ∧ i < (n : Int)) (hn : n ≤ 2147483648) (hdg : decode cc pc = .ok (.iastore, 1)) (kk : ∀ (H1 : Heap) (locs1 : List Loc), va_P D cl (ws.set q0 (a, .inl (cA, n, .inl (jA (jset f i x))))) H1 → va_D A (ws.set q0 (a, .inl (cA, n, .inl (jA (jset f i x))))) → va_S A H0 H1 locs1 → W p l e R s m args below meth c H1 locs1 cells slots Q (F0 m (pc + 1) ls rest)) : W p l e R s m args below meth c H locs cells slots Q (F0 m pc ls (.int (jI x) :: .int (jI i) :: .ref a :: rest)) := va_iast hx hb hK hP hD hS q0 t0 ha ht (jA_in h0.1 h0.2 hn) hdg (by rw [jA_upd h0.1 h0.2 hn]; exact kk)
theorem ji_alen (hx : p.tables.exec = Jvm.exec) (hb : c.code = cc) (hK : va_K D cl tys s) (hP : va_P D cl ws H) (q0 t0 : Nat) {cA : ClassId} {n : Nat} {f : Int → Int} (ha : ws[q0]? = some (a, .inl (cA, n, .inl (jA f)))) (ht : tys[t0]? = some (cA, .int)) {z : Int} (hz : z = (n : Int)) (hdg : decode cc pc = .ok (.arraylength, 1)) (kk : W p l e R s m args below meth c H locs cells slots Q (F0 m (pc + 1) ls (.int (jI z) :: rest))) : W p l e R s m args below meth c H locs cells slots Q (F0 m pc ls (.ref a :: rest)) := va_alen hx hb hK hP q0 t0 ha ht (by rw [hz]; exact jI_nat n) hdg kk
end JR
theorem jcmp_nlt {x y : Int} : 0 ≤ jcmp x y ↔ y ≤ x := by unfold jcmp; split <;> (try split) <;> omega
theorem jcmp_ngt {x y : Int} : jcmp x y ≤ 0 ↔ x ≤ y := by unfold jcmp; split <;> (try split) <;> omega
theorem jcmp_ne {x y : Int} : jcmp x y ≠ 0 ↔ x ≠ y := by unfold jcmp; split <;> (try split) <;> omega

