/-! bits as whole numbers -/
def jpow (k : Int) : Int := ((2 ^ k.toNat : Nat) : Int)
def jand (a b : Int) : Int := ((a.toNat &&& b.toNat : Nat) : Int)
def jor (a b : Int) : Int := ((a.toNat ||| b.toNat : Nat) : Int)
def jushr (x k : Int) : Int := (x % 18446744073709551616) / ((2 ^ k.toNat : Nat) : Int)
theorem jz {z : Int} (h : 0 ≤ z ∧ z ≤ 1) : narrow .boolean (.int (jI z)) = .int (jI z) := by
  have h2 : z = 0 ∨ z = 1 := by omega
  rcases h2 with rfl | rfl <;> decide
theorem jI_shl1_n : ∀ n, n < 32 → jI 1 <<< (jI (n : Nat) &&& 31) = jI ((2 ^ n : Nat) : Int) := by decide +kernel
theorem jI_shl1 {k : Int} (h0 : 0 ≤ k) (h1 : k < 32) : jI 1 <<< (jI k &&& 31) = jI (jpow k) := by
  have h := jI_shl1_n k.toNat (by omega)
  rw [Int.toNat_of_nonneg h0] at h
  exact h
theorem jI_bv (n : Nat) : (jI (n : Int)).toBitVec = BitVec.ofNat 32 n := by
  show BitVec.ofInt 32 (n : Int) = _
  exact BitVec.ofInt_natCast 32 n
theorem jI_and {a b : Int} (ha : 0 ≤ a) (hb : 0 ≤ b) : jI a &&& jI b = jI (jand a b) := by
  obtain ⟨n, rfl⟩ := Int.eq_ofNat_of_zero_le ha
  obtain ⟨k, rfl⟩ := Int.eq_ofNat_of_zero_le hb
  apply Int32.toBitVec_inj.mp
  rw [Int32.toBitVec_and, jI_bv, jI_bv, jand, jI_bv]
  apply BitVec.eq_of_getLsbD_eq
  intro i hi
  simp [BitVec.getLsbD_ofNat, Nat.testBit_and, hi]
theorem jI_or {a b : Int} (ha : 0 ≤ a) (hb : 0 ≤ b) : jI a ||| jI b = jI (jor a b) := by
  obtain ⟨n, rfl⟩ := Int.eq_ofNat_of_zero_le ha
  obtain ⟨k, rfl⟩ := Int.eq_ofNat_of_zero_le hb
  apply Int32.toBitVec_inj.mp
  rw [Int32.toBitVec_or, jI_bv, jI_bv, jor, jI_bv]
  apply BitVec.eq_of_getLsbD_eq
  intro i hi
  simp [BitVec.getLsbD_ofNat, Nat.testBit_or, hi]
theorem jL_bv (x : Int) : (jL x).toBitVec = BitVec.ofInt 64 x := rfl
theorem jL_nat (x : Int) : (jL x).toUInt64.toNat = (x % 18446744073709551616).toNat := by
  show (BitVec.ofInt 64 x).toNat = _
  rw [BitVec.toNat_ofInt]; rfl
theorem jsh_n : ∀ n, n < 64 → (((jI (n : Nat)).toInt64.toUInt64 &&& Int64.toUInt64 63).toNat) = n := by decide +kernel
theorem jL_ushr {x k : Int} (h0 : 0 ≤ k) (h1 : k < 64) : ((jL x).toUInt64 >>> ((jI k).toInt64.toUInt64 &&& Int64.toUInt64 63)).toInt64 = jL (jushr x k) := by
  have hk := jsh_n k.toNat (by omega)
  rw [Int.toNat_of_nonneg h0] at hk
  apply Int64.toBitVec_inj.mp
  show ((jL x).toUInt64 >>> ((jI k).toInt64.toUInt64 &&& Int64.toUInt64 63)).toBitVec = BitVec.ofInt 64 (jushr x k)
  apply BitVec.eq_of_toNat_eq
  rw [BitVec.toNat_ofInt]
  have e1 : ((jL x).toUInt64 >>> ((jI k).toInt64.toUInt64 &&& Int64.toUInt64 63)).toBitVec.toNat = (x % 18446744073709551616).toNat / 2 ^ k.toNat := by
    show ((jL x).toUInt64 >>> ((jI k).toInt64.toUInt64 &&& Int64.toUInt64 63)).toNat = _
    rw [UInt64.toNat_shiftRight, jL_nat, hk, Nat.mod_eq_of_lt (show k.toNat < 64 by omega), Nat.shiftRight_eq_div_pow]
  rw [e1]
  have hx := Int.emod_nonneg x (show (18446744073709551616 : Int) ≠ 0 by decide)
  have hx2 := Int.emod_lt_of_pos x (show (0 : Int) < 18446744073709551616 by decide)
  obtain ⟨y, hy⟩ := Int.eq_ofNat_of_zero_le hx
  unfold jushr
  rw [hy] at hx2 ⊢
  have hlt : y / 2 ^ k.toNat < 18446744073709551616 := Nat.lt_of_le_of_lt (Nat.div_le_self _ _) (by omega)
  show y / 2 ^ k.toNat = (((y : Int) / ((2 ^ k.toNat : Nat) : Int)) % ((2 ^ 64 : Nat) : Int)).toNat
  rw [← Int.natCast_ediv, ← Int.natCast_emod, Int.toNat_natCast]
  exact (Nat.mod_eq_of_lt (by omega)).symm
theorem jL_255 (x : Int) : jL x &&& jL 255 = jL (x % 256) := by
  apply Int64.toBitVec_inj.mp
  rw [Int64.toBitVec_and]
  show BitVec.ofInt 64 x &&& BitVec.ofInt 64 255 = BitVec.ofInt 64 (x % 256)
  apply BitVec.eq_of_toNat_eq
  rw [BitVec.toNat_and, BitVec.toNat_ofInt, BitVec.toNat_ofInt, BitVec.toNat_ofInt]
  have h2 : ((255 : Int) % ((2 ^ 64 : Nat) : Int)).toNat = 2 ^ 8 - 1 := by decide
  rw [h2, Nat.and_two_pow_sub_one_eq_mod]
  omega
section JB
variable {p : Program} {l : Launch} {e : Env} {R : Room} {s : State} {m : MethodId} {args : Array Value} {below : List Frame} {meth : Method} {c : Code} {H : Heap} {locs : List Loc} {cells slots : Nat} {Q : State → Prop}
variable {cc : ByteArray} {pc : Nat} {ls : Array Slot} {rest : List Value}
theorem ji_ishl1 (hx : p.tables.exec = Jvm.exec) (hb : c.code = cc) {k : Int} (hdg : decode cc pc = .ok (.ishl, 1)) (h0 : 0 ≤ k) (h1 : k < 32) (kk : W p l e R s m args below meth c H locs cells slots Q (F0 m (pc + 1) ls (.int (jI (jpow k)) :: rest))) : W p l e R s m args below meth c H locs cells slots Q (F0 m pc ls (.int (jI k) :: .int (jI 1) :: rest)) := lv_ishl hx hb hdg (by rw [jI_shl1 h0 h1]; exact kk)
theorem ji_iand (hx : p.tables.exec = Jvm.exec) (hb : c.code = cc) {x y : Int} (hdg : decode cc pc = .ok (.iand, 1)) (h0 : 0 ≤ x) (h1 : 0 ≤ y) (kk : W p l e R s m args below meth c H locs cells slots Q (F0 m (pc + 1) ls (.int (jI (jand x y)) :: rest))) : W p l e R s m args below meth c H locs cells slots Q (F0 m pc ls (.int (jI y) :: .int (jI x) :: rest)) := lv_iand hx hb hdg (by rw [jI_and h0 h1]; exact kk)
theorem ji_ior (hx : p.tables.exec = Jvm.exec) (hb : c.code = cc) {x y : Int} (hdg : decode cc pc = .ok (.ior, 1)) (h0 : 0 ≤ x) (h1 : 0 ≤ y) (kk : W p l e R s m args below meth c H locs cells slots Q (F0 m (pc + 1) ls (.int (jI (jor x y)) :: rest))) : W p l e R s m args below meth c H locs cells slots Q (F0 m pc ls (.int (jI y) :: .int (jI x) :: rest)) := lv_ior hx hb hdg (by rw [jI_or h0 h1]; exact kk)
theorem ji_lushr (hx : p.tables.exec = Jvm.exec) (hb : c.code = cc) {x k : Int} (hdg : decode cc pc = .ok (.lushr, 1)) (h : 0 ≤ k ∧ k < 64) (kk : W p l e R s m args below meth c H locs cells slots Q (F0 m (pc + 1) ls (.long (jL (jushr x k)) :: rest))) : W p l e R s m args below meth c H locs cells slots Q (F0 m pc ls (.int (jI k) :: .long (jL x) :: rest)) := lv_lushr hx hb hdg (jL_ushr h.1 h.2) kk
theorem ji_land255 (hx : p.tables.exec = Jvm.exec) (hb : c.code = cc) {x : Int} (hdg : decode cc pc = .ok (.land, 1)) (kk : W p l e R s m args below meth c H locs cells slots Q (F0 m (pc + 1) ls (.long (jL (x % 256)) :: rest))) : W p l e R s m args below meth c H locs cells slots Q (F0 m pc ls (.long (jL 255) :: .long (jL x) :: rest)) := lv_land hx hb hdg (by rw [jL_255]; exact kk)
end JB
/-! facts about them -/
theorem jpow_pos (k : Int) : 0 < jpow k := by unfold jpow; exact Int.natCast_pos.mpr (Nat.two_pow_pos _)
theorem jand_nn (a b : Int) : 0 ≤ jand a b := Int.natCast_nonneg _
theorem jor_nn (a b : Int) : 0 ≤ jor a b := Int.natCast_nonneg _
theorem jand_le {a : Int} (h : 0 ≤ a) (b : Int) : jand a b ≤ a := by
  unfold jand
  have := Nat.and_le_left (n := a.toNat) (m := b.toNat)
  omega
theorem jpow_lt {k : Int} (h : k < 31) : jpow k < 2147483648 := by
  unfold jpow
  have h1 : 2 ^ k.toNat ≤ 2 ^ 30 := Nat.pow_le_pow_right (by omega) (by omega)
  have h2 : (2 : Nat) ^ 30 = 1073741824 := by decide
  omega
theorem jor_lt {a b : Int} (ha : a < 2147483648) (hb : b < 2147483648) : jor a b < 2147483648 := by
  unfold jor
  have h := Nat.or_lt_two_pow (x := a.toNat) (y := b.toNat) (n := 31) (by omega) (by omega)
  omega
/-! a value that nothing unfolds -/
noncomputable def jopq {α : Type} (x : α) : α := Classical.choose (⟨x, rfl⟩ : ∃ h : α, h = x)
theorem jopq_eq {α : Type} (x : α) : jopq x = x := Classical.choose_spec (⟨x, rfl⟩ : ∃ h : α, h = x)
